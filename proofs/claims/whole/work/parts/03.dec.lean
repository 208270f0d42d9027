theorem dX0_init_0 : decode cX0_init 0 = .ok (.aload_n 0, 1) := by decide +kernel
theorem dX0_init_1 : decode cX0_init 1 = .ok (.invokespecial 3, 3) := by decide +kernel
theorem dX0_init_4 : decode cX0_init 4 = .ok (.aload_n 0, 1) := by decide +kernel
theorem dX0_init_5 : decode cX0_init 5 = .ok (.new 9, 3) := by decide +kernel
theorem dX0_init_8 : decode cX0_init 8 = .ok (.dup, 1) := by decide +kernel
theorem dX0_init_9 : decode cX0_init 9 = .ok (.invokespecial 11, 3) := by decide +kernel
theorem dX0_init_12 : decode cX0_init 12 = .ok (.putfield 12, 3) := by decide +kernel
theorem dX0_init_15 : decode cX0_init 15 = .ok (.aload_n 0, 1) := by decide +kernel
theorem dX0_init_16 : decode cX0_init 16 = .ok (.new 18, 3) := by decide +kernel
theorem dX0_init_19 : decode cX0_init 19 = .ok (.dup, 1) := by decide +kernel
theorem dX0_init_20 : decode cX0_init 20 = .ok (.invokespecial 20, 3) := by decide +kernel
theorem dX0_init_23 : decode cX0_init 23 = .ok (.putfield 21, 3) := by decide +kernel
theorem dX0_init_26 : decode cX0_init 26 = .ok (.aload_n 0, 1) := by decide +kernel
theorem dX0_init_27 : decode cX0_init 27 = .ok (.new 25, 3) := by decide +kernel
theorem dX0_init_30 : decode cX0_init 30 = .ok (.dup, 1) := by decide +kernel
theorem dX0_init_31 : decode cX0_init 31 = .ok (.invokespecial 27, 3) := by decide +kernel
theorem dX0_init_34 : decode cX0_init 34 = .ok (.putfield 28, 3) := by decide +kernel
theorem dX0_init_37 : decode cX0_init 37 = .ok (.return_, 1) := by decide +kernel
theorem dX0_copyFrom_0 : decode cX0_copyFrom 0 = .ok (.aload_n 0, 1) := by decide +kernel
theorem dX0_copyFrom_1 : decode cX0_copyFrom 1 = .ok (.getfield 12, 3) := by decide +kernel
theorem dX0_copyFrom_4 : decode cX0_copyFrom 4 = .ok (.aload_n 1, 1) := by decide +kernel
theorem dX0_copyFrom_5 : decode cX0_copyFrom 5 = .ok (.getfield 12, 3) := by decide +kernel
theorem dX0_copyFrom_8 : decode cX0_copyFrom 8 = .ok (.invokevirtual 32, 3) := by decide +kernel
theorem dX0_copyFrom_11 : decode cX0_copyFrom 11 = .ok (.aload_n 0, 1) := by decide +kernel
theorem dX0_copyFrom_12 : decode cX0_copyFrom 12 = .ok (.getfield 21, 3) := by decide +kernel
theorem dX0_copyFrom_15 : decode cX0_copyFrom 15 = .ok (.aload_n 1, 1) := by decide +kernel
theorem dX0_copyFrom_16 : decode cX0_copyFrom 16 = .ok (.getfield 21, 3) := by decide +kernel
theorem dX0_copyFrom_19 : decode cX0_copyFrom 19 = .ok (.invokevirtual 36, 3) := by decide +kernel
theorem dX0_copyFrom_22 : decode cX0_copyFrom 22 = .ok (.aload_n 0, 1) := by decide +kernel
theorem dX0_copyFrom_23 : decode cX0_copyFrom 23 = .ok (.getfield 28, 3) := by decide +kernel
theorem dX0_copyFrom_26 : decode cX0_copyFrom 26 = .ok (.aload_n 1, 1) := by decide +kernel
theorem dX0_copyFrom_27 : decode cX0_copyFrom 27 = .ok (.getfield 28, 3) := by decide +kernel
theorem dX0_copyFrom_30 : decode cX0_copyFrom 30 = .ok (.invokevirtual 39, 3) := by decide +kernel
theorem dX0_copyFrom_33 : decode cX0_copyFrom 33 = .ok (.return_, 1) := by decide +kernel
theorem dX0_canLend_0 : decode cX0_canLend 0 = .ok (.aload_n 0, 1) := by decide +kernel
theorem dX0_canLend_1 : decode cX0_canLend 1 = .ok (.getfield 21, 3) := by decide +kernel
theorem dX0_canLend_4 : decode cX0_canLend 4 = .ok (.getfield 42, 3) := by decide +kernel
theorem dX0_canLend_7 : decode cX0_canLend 7 = .ok (.bipush 16, 2) := by decide +kernel
theorem dX0_canLend_9 : decode cX0_canLend 9 = .ok (.if_icmp .ge 21, 3) := by decide +kernel
theorem dX0_canLend_12 : decode cX0_canLend 12 = .ok (.aload_n 0, 1) := by decide +kernel
theorem dX0_canLend_13 : decode cX0_canLend 13 = .ok (.getfield 12, 3) := by decide +kernel
theorem dX0_canLend_16 : decode cX0_canLend 16 = .ok (.invokevirtual 46, 3) := by decide +kernel
theorem dX0_canLend_19 : decode cX0_canLend 19 = .ok (.iload_n 1, 1) := by decide +kernel
theorem dX0_canLend_20 : decode cX0_canLend 20 = .ok (.invokestatic 50, 3) := by decide +kernel
theorem dX0_canLend_23 : decode cX0_canLend 23 = .ok (.if_icmp .lt 7, 3) := by decide +kernel
theorem dX0_canLend_26 : decode cX0_canLend 26 = .ok (.iconst 1, 1) := by decide +kernel
theorem dX0_canLend_27 : decode cX0_canLend 27 = .ok (.goto 4, 3) := by decide +kernel
theorem dX0_canLend_30 : decode cX0_canLend 30 = .ok (.iconst 0, 1) := by decide +kernel
theorem dX0_canLend_31 : decode cX0_canLend 31 = .ok (.ireturn, 1) := by decide +kernel
theorem dX0_lendTo_0 : decode cX0_lendTo 0 = .ok (.iload_n 2, 1) := by decide +kernel
theorem dX0_lendTo_1 : decode cX0_lendTo 1 = .ok (.invokestatic 50, 3) := by decide +kernel
theorem dX0_lendTo_4 : decode cX0_lendTo 4 = .ok (.istore_n 3, 1) := by decide +kernel
theorem dX0_lendTo_5 : decode cX0_lendTo 5 = .ok (.aload_n 0, 1) := by decide +kernel
theorem dX0_lendTo_6 : decode cX0_lendTo 6 = .ok (.getfield 12, 3) := by decide +kernel
theorem dX0_lendTo_9 : decode cX0_lendTo 9 = .ok (.iload_n 3, 1) := by decide +kernel
theorem dX0_lendTo_10 : decode cX0_lendTo 10 = .ok (.invokevirtual 54, 3) := by decide +kernel
theorem dX0_lendTo_13 : decode cX0_lendTo 13 = .ok (.istore 4, 2) := by decide +kernel
theorem dX0_lendTo_15 : decode cX0_lendTo 15 = .ok (.aload_n 0, 1) := by decide +kernel
theorem dX0_lendTo_16 : decode cX0_lendTo 16 = .ok (.getfield 21, 3) := by decide +kernel
theorem dX0_lendTo_19 : decode cX0_lendTo 19 = .ok (.iload_n 1, 1) := by decide +kernel
theorem dX0_lendTo_20 : decode cX0_lendTo 20 = .ok (.iload_n 2, 1) := by decide +kernel
theorem dX0_lendTo_21 : decode cX0_lendTo 21 = .ok (.iload 4, 2) := by decide +kernel
theorem dX0_lendTo_23 : decode cX0_lendTo 23 = .ok (.iload_n 3, 1) := by decide +kernel
theorem dX0_lendTo_24 : decode cX0_lendTo 24 = .ok (.invokevirtual 57, 3) := by decide +kernel
theorem dX0_lendTo_27 : decode cX0_lendTo 27 = .ok (.ireturn, 1) := by decide +kernel
theorem dX0_lendOrQueue_0 : decode cX0_lendOrQueue 0 = .ok (.aload_n 0, 1) := by decide +kernel
theorem dX0_lendOrQueue_1 : decode cX0_lendOrQueue 1 = .ok (.iload_n 2, 1) := by decide +kernel
theorem dX0_lendOrQueue_2 : decode cX0_lendOrQueue 2 = .ok (.invokevirtual 61, 3) := by decide +kernel
theorem dX0_lendOrQueue_5 : decode cX0_lendOrQueue 5 = .ok (.ifCond .eq 17, 3) := by decide +kernel
theorem dX0_lendOrQueue_8 : decode cX0_lendOrQueue 8 = .ok (.aload_n 0, 1) := by decide +kernel
theorem dX0_lendOrQueue_9 : decode cX0_lendOrQueue 9 = .ok (.getfield 21, 3) := by decide +kernel
theorem dX0_lendOrQueue_12 : decode cX0_lendOrQueue 12 = .ok (.aload_n 0, 1) := by decide +kernel
theorem dX0_lendOrQueue_13 : decode cX0_lendOrQueue 13 = .ok (.iload_n 1, 1) := by decide +kernel
theorem dX0_lendOrQueue_14 : decode cX0_lendOrQueue 14 = .ok (.iload_n 2, 1) := by decide +kernel
theorem dX0_lendOrQueue_15 : decode cX0_lendOrQueue 15 = .ok (.invokevirtual 65, 3) := by decide +kernel
theorem dX0_lendOrQueue_18 : decode cX0_lendOrQueue 18 = .ok (.invokevirtual 69, 3) := by decide +kernel
theorem dX0_lendOrQueue_21 : decode cX0_lendOrQueue 21 = .ok (.ireturn, 1) := by decide +kernel
theorem dX0_lendOrQueue_22 : decode cX0_lendOrQueue 22 = .ok (.aload_n 0, 1) := by decide +kernel
theorem dX0_lendOrQueue_23 : decode cX0_lendOrQueue 23 = .ok (.getfield 28, 3) := by decide +kernel
theorem dX0_lendOrQueue_26 : decode cX0_lendOrQueue 26 = .ok (.iload_n 1, 1) := by decide +kernel
theorem dX0_lendOrQueue_27 : decode cX0_lendOrQueue 27 = .ok (.iload_n 2, 1) := by decide +kernel
theorem dX0_lendOrQueue_28 : decode cX0_lendOrQueue 28 = .ok (.invokevirtual 72, 3) := by decide +kernel
theorem dX0_lendOrQueue_31 : decode cX0_lendOrQueue 31 = .ok (.iconst (-1), 1) := by decide +kernel
theorem dX0_lendOrQueue_32 : decode cX0_lendOrQueue 32 = .ok (.ireturn, 1) := by decide +kernel
theorem dX0_giveBack_0 : decode cX0_giveBack 0 = .ok (.aload_n 0, 1) := by decide +kernel
theorem dX0_giveBack_1 : decode cX0_giveBack 1 = .ok (.iload_n 1, 1) := by decide +kernel
theorem dX0_giveBack_2 : decode cX0_giveBack 2 = .ok (.invokevirtual 75, 3) := by decide +kernel
theorem dX0_giveBack_5 : decode cX0_giveBack 5 = .ok (.aload_n 0, 1) := by decide +kernel
theorem dX0_giveBack_6 : decode cX0_giveBack 6 = .ok (.invokevirtual 79, 3) := by decide +kernel
theorem dX0_giveBack_9 : decode cX0_giveBack 9 = .ok (.ireturn, 1) := by decide +kernel
theorem dX0_giveBackAll_0 : decode cX0_giveBackAll 0 = .ok (.iconst 0, 1) := by decide +kernel
theorem dX0_giveBackAll_1 : decode cX0_giveBackAll 1 = .ok (.istore_n 2, 1) := by decide +kernel
theorem dX0_giveBackAll_2 : decode cX0_giveBackAll 2 = .ok (.aload_n 0, 1) := by decide +kernel
theorem dX0_giveBackAll_3 : decode cX0_giveBackAll 3 = .ok (.getfield 21, 3) := by decide +kernel
theorem dX0_giveBackAll_6 : decode cX0_giveBackAll 6 = .ok (.getfield 42, 3) := by decide +kernel
theorem dX0_giveBackAll_9 : decode cX0_giveBackAll 9 = .ok (.iconst 1, 1) := by decide +kernel
theorem dX0_giveBackAll_10 : decode cX0_giveBackAll 10 = .ok (.isub, 1) := by decide +kernel
theorem dX0_giveBackAll_11 : decode cX0_giveBackAll 11 = .ok (.istore_n 3, 1) := by decide +kernel
theorem dX0_giveBackAll_12 : decode cX0_giveBackAll 12 = .ok (.iload_n 3, 1) := by decide +kernel
theorem dX0_giveBackAll_13 : decode cX0_giveBackAll 13 = .ok (.ifCond .lt 29, 3) := by decide +kernel
theorem dX0_giveBackAll_16 : decode cX0_giveBackAll 16 = .ok (.aload_n 0, 1) := by decide +kernel
theorem dX0_giveBackAll_17 : decode cX0_giveBackAll 17 = .ok (.getfield 21, 3) := by decide +kernel
theorem dX0_giveBackAll_20 : decode cX0_giveBackAll 20 = .ok (.iload_n 3, 1) := by decide +kernel
theorem dX0_giveBackAll_21 : decode cX0_giveBackAll 21 = .ok (.invokevirtual 82, 3) := by decide +kernel
theorem dX0_giveBackAll_24 : decode cX0_giveBackAll 24 = .ok (.iload_n 1, 1) := by decide +kernel
theorem dX0_giveBackAll_25 : decode cX0_giveBackAll 25 = .ok (.if_icmp .ne 11, 3) := by decide +kernel
theorem dX0_giveBackAll_28 : decode cX0_giveBackAll 28 = .ok (.aload_n 0, 1) := by decide +kernel
theorem dX0_giveBackAll_29 : decode cX0_giveBackAll 29 = .ok (.iload_n 3, 1) := by decide +kernel
theorem dX0_giveBackAll_30 : decode cX0_giveBackAll 30 = .ok (.invokevirtual 75, 3) := by decide +kernel
theorem dX0_giveBackAll_33 : decode cX0_giveBackAll 33 = .ok (.iinc 2 1, 3) := by decide +kernel
theorem dX0_giveBackAll_36 : decode cX0_giveBackAll 36 = .ok (.iinc 3 (-1), 3) := by decide +kernel
theorem dX0_giveBackAll_39 : decode cX0_giveBackAll 39 = .ok (.goto (-27), 3) := by decide +kernel
theorem dX0_giveBackAll_42 : decode cX0_giveBackAll 42 = .ok (.aload_n 0, 1) := by decide +kernel
theorem dX0_giveBackAll_43 : decode cX0_giveBackAll 43 = .ok (.invokevirtual 79, 3) := by decide +kernel
theorem dX0_giveBackAll_46 : decode cX0_giveBackAll 46 = .ok (.pop, 1) := by decide +kernel
theorem dX0_giveBackAll_47 : decode cX0_giveBackAll 47 = .ok (.iload_n 2, 1) := by decide +kernel
theorem dX0_giveBackAll_48 : decode cX0_giveBackAll 48 = .ok (.ireturn, 1) := by decide +kernel
theorem dX0_releaseLoan_0 : decode cX0_releaseLoan 0 = .ok (.aload_n 0, 1) := by decide +kernel
theorem dX0_releaseLoan_1 : decode cX0_releaseLoan 1 = .ok (.getfield 21, 3) := by decide +kernel
theorem dX0_releaseLoan_4 : decode cX0_releaseLoan 4 = .ok (.iload_n 1, 1) := by decide +kernel
theorem dX0_releaseLoan_5 : decode cX0_releaseLoan 5 = .ok (.invokevirtual 69, 3) := by decide +kernel
theorem dX0_releaseLoan_8 : decode cX0_releaseLoan 8 = .ok (.istore_n 2, 1) := by decide +kernel
theorem dX0_releaseLoan_9 : decode cX0_releaseLoan 9 = .ok (.aload_n 0, 1) := by decide +kernel
theorem dX0_releaseLoan_10 : decode cX0_releaseLoan 10 = .ok (.getfield 21, 3) := by decide +kernel
theorem dX0_releaseLoan_13 : decode cX0_releaseLoan 13 = .ok (.iload_n 1, 1) := by decide +kernel
theorem dX0_releaseLoan_14 : decode cX0_releaseLoan 14 = .ok (.invokevirtual 85, 3) := by decide +kernel
theorem dX0_releaseLoan_17 : decode cX0_releaseLoan 17 = .ok (.istore_n 3, 1) := by decide +kernel
theorem dX0_releaseLoan_18 : decode cX0_releaseLoan 18 = .ok (.aload_n 0, 1) := by decide +kernel
theorem dX0_releaseLoan_19 : decode cX0_releaseLoan 19 = .ok (.getfield 21, 3) := by decide +kernel
theorem dX0_releaseLoan_22 : decode cX0_releaseLoan 22 = .ok (.iload_n 1, 1) := by decide +kernel
theorem dX0_releaseLoan_23 : decode cX0_releaseLoan 23 = .ok (.invokevirtual 88, 3) := by decide +kernel
theorem dX0_releaseLoan_26 : decode cX0_releaseLoan 26 = .ok (.aload_n 0, 1) := by decide +kernel
theorem dX0_releaseLoan_27 : decode cX0_releaseLoan 27 = .ok (.getfield 12, 3) := by decide +kernel
theorem dX0_releaseLoan_30 : decode cX0_releaseLoan 30 = .ok (.iload_n 2, 1) := by decide +kernel
theorem dX0_releaseLoan_31 : decode cX0_releaseLoan 31 = .ok (.iload_n 3, 1) := by decide +kernel
theorem dX0_releaseLoan_32 : decode cX0_releaseLoan 32 = .ok (.invokevirtual 91, 3) := by decide +kernel
theorem dX0_releaseLoan_35 : decode cX0_releaseLoan 35 = .ok (.return_, 1) := by decide +kernel
theorem dX0_changeAmount_0 : decode cX0_changeAmount 0 = .ok (.iload_n 2, 1) := by decide +kernel
theorem dX0_changeAmount_1 : decode cX0_changeAmount 1 = .ok (.invokestatic 50, 3) := by decide +kernel
theorem dX0_changeAmount_4 : decode cX0_changeAmount 4 = .ok (.istore_n 3, 1) := by decide +kernel
theorem dX0_changeAmount_5 : decode cX0_changeAmount 5 = .ok (.aload_n 0, 1) := by decide +kernel
theorem dX0_changeAmount_6 : decode cX0_changeAmount 6 = .ok (.getfield 21, 3) := by decide +kernel
theorem dX0_changeAmount_9 : decode cX0_changeAmount 9 = .ok (.iload_n 1, 1) := by decide +kernel
theorem dX0_changeAmount_10 : decode cX0_changeAmount 10 = .ok (.invokevirtual 69, 3) := by decide +kernel
theorem dX0_changeAmount_13 : decode cX0_changeAmount 13 = .ok (.istore 4, 2) := by decide +kernel
theorem dX0_changeAmount_15 : decode cX0_changeAmount 15 = .ok (.aload_n 0, 1) := by decide +kernel
theorem dX0_changeAmount_16 : decode cX0_changeAmount 16 = .ok (.getfield 21, 3) := by decide +kernel
theorem dX0_changeAmount_19 : decode cX0_changeAmount 19 = .ok (.iload_n 1, 1) := by decide +kernel
theorem dX0_changeAmount_20 : decode cX0_changeAmount 20 = .ok (.invokevirtual 85, 3) := by decide +kernel
theorem dX0_changeAmount_23 : decode cX0_changeAmount 23 = .ok (.istore 5, 2) := by decide +kernel
theorem dX0_changeAmount_25 : decode cX0_changeAmount 25 = .ok (.iload_n 3, 1) := by decide +kernel
theorem dX0_changeAmount_26 : decode cX0_changeAmount 26 = .ok (.iload 5, 2) := by decide +kernel
theorem dX0_changeAmount_28 : decode cX0_changeAmount 28 = .ok (.if_icmp .ge 17, 3) := by decide +kernel
theorem dX0_changeAmount_31 : decode cX0_changeAmount 31 = .ok (.aload_n 0, 1) := by decide +kernel
theorem dX0_changeAmount_32 : decode cX0_changeAmount 32 = .ok (.getfield 12, 3) := by decide +kernel
theorem dX0_changeAmount_35 : decode cX0_changeAmount 35 = .ok (.iload 4, 2) := by decide +kernel
theorem dX0_changeAmount_37 : decode cX0_changeAmount 37 = .ok (.iload 5, 2) := by decide +kernel
theorem dX0_changeAmount_39 : decode cX0_changeAmount 39 = .ok (.iload_n 3, 1) := by decide +kernel
theorem dX0_changeAmount_40 : decode cX0_changeAmount 40 = .ok (.invokevirtual 94, 3) := by decide +kernel
theorem dX0_changeAmount_43 : decode cX0_changeAmount 43 = .ok (.istore 4, 2) := by decide +kernel
theorem dX0_changeAmount_45 : decode cX0_changeAmount 45 = .ok (.iload_n 3, 1) := by decide +kernel
theorem dX0_changeAmount_46 : decode cX0_changeAmount 46 = .ok (.iload 5, 2) := by decide +kernel
theorem dX0_changeAmount_48 : decode cX0_changeAmount 48 = .ok (.if_icmp .le 24, 3) := by decide +kernel
theorem dX0_changeAmount_51 : decode cX0_changeAmount 51 = .ok (.aload_n 0, 1) := by decide +kernel
theorem dX0_changeAmount_52 : decode cX0_changeAmount 52 = .ok (.getfield 12, 3) := by decide +kernel
theorem dX0_changeAmount_55 : decode cX0_changeAmount 55 = .ok (.iload 4, 2) := by decide +kernel
theorem dX0_changeAmount_57 : decode cX0_changeAmount 57 = .ok (.iload 5, 2) := by decide +kernel
theorem dX0_changeAmount_59 : decode cX0_changeAmount 59 = .ok (.invokevirtual 91, 3) := by decide +kernel
theorem dX0_changeAmount_62 : decode cX0_changeAmount 62 = .ok (.aload_n 0, 1) := by decide +kernel
theorem dX0_changeAmount_63 : decode cX0_changeAmount 63 = .ok (.getfield 12, 3) := by decide +kernel
theorem dX0_changeAmount_66 : decode cX0_changeAmount 66 = .ok (.iload_n 3, 1) := by decide +kernel
theorem dX0_changeAmount_67 : decode cX0_changeAmount 67 = .ok (.invokevirtual 54, 3) := by decide +kernel
theorem dX0_changeAmount_70 : decode cX0_changeAmount 70 = .ok (.istore 4, 2) := by decide +kernel
theorem dX0_changeAmount_72 : decode cX0_changeAmount 72 = .ok (.aload_n 0, 1) := by decide +kernel
theorem dX0_changeAmount_73 : decode cX0_changeAmount 73 = .ok (.getfield 21, 3) := by decide +kernel
theorem dX0_changeAmount_76 : decode cX0_changeAmount 76 = .ok (.iload_n 1, 1) := by decide +kernel
theorem dX0_changeAmount_77 : decode cX0_changeAmount 77 = .ok (.iload_n 2, 1) := by decide +kernel
theorem dX0_changeAmount_78 : decode cX0_changeAmount 78 = .ok (.iload 4, 2) := by decide +kernel
theorem dX0_changeAmount_80 : decode cX0_changeAmount 80 = .ok (.iload_n 3, 1) := by decide +kernel
theorem dX0_changeAmount_81 : decode cX0_changeAmount 81 = .ok (.invokevirtual 98, 3) := by decide +kernel
theorem dX0_changeAmount_84 : decode cX0_changeAmount 84 = .ok (.iload_n 3, 1) := by decide +kernel
theorem dX0_changeAmount_85 : decode cX0_changeAmount 85 = .ok (.iload 5, 2) := by decide +kernel
theorem dX0_changeAmount_87 : decode cX0_changeAmount 87 = .ok (.if_icmp .eq 8, 3) := by decide +kernel
theorem dX0_changeAmount_90 : decode cX0_changeAmount 90 = .ok (.aload_n 0, 1) := by decide +kernel
theorem dX0_changeAmount_91 : decode cX0_changeAmount 91 = .ok (.invokevirtual 79, 3) := by decide +kernel
theorem dX0_changeAmount_94 : decode cX0_changeAmount 94 = .ok (.pop, 1) := by decide +kernel
theorem dX0_changeAmount_95 : decode cX0_changeAmount 95 = .ok (.iload 4, 2) := by decide +kernel
theorem dX0_changeAmount_97 : decode cX0_changeAmount 97 = .ok (.ireturn, 1) := by decide +kernel
theorem dX0_changeWay_0 : decode cX0_changeWay 0 = .ok (.aload_n 0, 1) := by decide +kernel
theorem dX0_changeWay_1 : decode cX0_changeWay 1 = .ok (.getfield 12, 3) := by decide +kernel
theorem dX0_changeWay_4 : decode cX0_changeWay 4 = .ok (.getfield 102, 3) := by decide +kernel
theorem dX0_changeWay_7 : decode cX0_changeWay 7 = .ok (.istore_n 2, 1) := by decide +kernel
theorem dX0_changeWay_8 : decode cX0_changeWay 8 = .ok (.aload_n 0, 1) := by decide +kernel
theorem dX0_changeWay_9 : decode cX0_changeWay 9 = .ok (.getfield 12, 3) := by decide +kernel
theorem dX0_changeWay_12 : decode cX0_changeWay 12 = .ok (.iload_n 1, 1) := by decide +kernel
theorem dX0_changeWay_13 : decode cX0_changeWay 13 = .ok (.putfield 102, 3) := by decide +kernel
theorem dX0_changeWay_16 : decode cX0_changeWay 16 = .ok (.aload_n 0, 1) := by decide +kernel
theorem dX0_changeWay_17 : decode cX0_changeWay 17 = .ok (.invokevirtual 79, 3) := by decide +kernel
theorem dX0_changeWay_20 : decode cX0_changeWay 20 = .ok (.pop, 1) := by decide +kernel
theorem dX0_changeWay_21 : decode cX0_changeWay 21 = .ok (.iload_n 2, 1) := by decide +kernel
theorem dX0_changeWay_22 : decode cX0_changeWay 22 = .ok (.ireturn, 1) := by decide +kernel
theorem dX0_serveWaiting_0 : decode cX0_serveWaiting 0 = .ok (.iconst 0, 1) := by decide +kernel
theorem dX0_serveWaiting_1 : decode cX0_serveWaiting 1 = .ok (.istore_n 1, 1) := by decide +kernel
theorem dX0_serveWaiting_2 : decode cX0_serveWaiting 2 = .ok (.aload_n 0, 1) := by decide +kernel
theorem dX0_serveWaiting_3 : decode cX0_serveWaiting 3 = .ok (.getfield 28, 3) := by decide +kernel
theorem dX0_serveWaiting_6 : decode cX0_serveWaiting 6 = .ok (.getfield 105, 3) := by decide +kernel
theorem dX0_serveWaiting_9 : decode cX0_serveWaiting 9 = .ok (.istore_n 2, 1) := by decide +kernel
theorem dX0_serveWaiting_10 : decode cX0_serveWaiting 10 = .ok (.iconst 0, 1) := by decide +kernel
theorem dX0_serveWaiting_11 : decode cX0_serveWaiting 11 = .ok (.istore_n 3, 1) := by decide +kernel
theorem dX0_serveWaiting_12 : decode cX0_serveWaiting 12 = .ok (.iload_n 3, 1) := by decide +kernel
theorem dX0_serveWaiting_13 : decode cX0_serveWaiting 13 = .ok (.iload_n 2, 1) := by decide +kernel
theorem dX0_serveWaiting_14 : decode cX0_serveWaiting 14 = .ok (.if_icmp .ge 65, 3) := by decide +kernel
theorem dX0_serveWaiting_17 : decode cX0_serveWaiting 17 = .ok (.iload_n 3, 1) := by decide +kernel
theorem dX0_serveWaiting_18 : decode cX0_serveWaiting 18 = .ok (.iload_n 1, 1) := by decide +kernel
theorem dX0_serveWaiting_19 : decode cX0_serveWaiting 19 = .ok (.isub, 1) := by decide +kernel
theorem dX0_serveWaiting_20 : decode cX0_serveWaiting 20 = .ok (.istore 4, 2) := by decide +kernel
theorem dX0_serveWaiting_22 : decode cX0_serveWaiting 22 = .ok (.aload_n 0, 1) := by decide +kernel
theorem dX0_serveWaiting_23 : decode cX0_serveWaiting 23 = .ok (.aload_n 0, 1) := by decide +kernel
theorem dX0_serveWaiting_24 : decode cX0_serveWaiting 24 = .ok (.getfield 28, 3) := by decide +kernel
theorem dX0_serveWaiting_27 : decode cX0_serveWaiting 27 = .ok (.iload 4, 2) := by decide +kernel
theorem dX0_serveWaiting_29 : decode cX0_serveWaiting 29 = .ok (.invokevirtual 106, 3) := by decide +kernel
theorem dX0_serveWaiting_32 : decode cX0_serveWaiting 32 = .ok (.invokevirtual 61, 3) := by decide +kernel
theorem dX0_serveWaiting_35 : decode cX0_serveWaiting 35 = .ok (.ifCond .eq 38, 3) := by decide +kernel
theorem dX0_serveWaiting_38 : decode cX0_serveWaiting 38 = .ok (.aload_n 0, 1) := by decide +kernel
theorem dX0_serveWaiting_39 : decode cX0_serveWaiting 39 = .ok (.aload_n 0, 1) := by decide +kernel
theorem dX0_serveWaiting_40 : decode cX0_serveWaiting 40 = .ok (.getfield 28, 3) := by decide +kernel
theorem dX0_serveWaiting_43 : decode cX0_serveWaiting 43 = .ok (.iload 4, 2) := by decide +kernel
theorem dX0_serveWaiting_45 : decode cX0_serveWaiting 45 = .ok (.invokevirtual 109, 3) := by decide +kernel
theorem dX0_serveWaiting_48 : decode cX0_serveWaiting 48 = .ok (.aload_n 0, 1) := by decide +kernel
theorem dX0_serveWaiting_49 : decode cX0_serveWaiting 49 = .ok (.getfield 28, 3) := by decide +kernel
theorem dX0_serveWaiting_52 : decode cX0_serveWaiting 52 = .ok (.iload 4, 2) := by decide +kernel
theorem dX0_serveWaiting_54 : decode cX0_serveWaiting 54 = .ok (.invokevirtual 106, 3) := by decide +kernel
theorem dX0_serveWaiting_57 : decode cX0_serveWaiting 57 = .ok (.invokevirtual 65, 3) := by decide +kernel
theorem dX0_serveWaiting_60 : decode cX0_serveWaiting 60 = .ok (.pop, 1) := by decide +kernel
theorem dX0_serveWaiting_61 : decode cX0_serveWaiting 61 = .ok (.aload_n 0, 1) := by decide +kernel
theorem dX0_serveWaiting_62 : decode cX0_serveWaiting 62 = .ok (.getfield 28, 3) := by decide +kernel
theorem dX0_serveWaiting_65 : decode cX0_serveWaiting 65 = .ok (.iload 4, 2) := by decide +kernel
theorem dX0_serveWaiting_67 : decode cX0_serveWaiting 67 = .ok (.invokevirtual 110, 3) := by decide +kernel
theorem dX0_serveWaiting_70 : decode cX0_serveWaiting 70 = .ok (.iinc 1 1, 3) := by decide +kernel
theorem dX0_serveWaiting_73 : decode cX0_serveWaiting 73 = .ok (.iinc 3 1, 3) := by decide +kernel
theorem dX0_serveWaiting_76 : decode cX0_serveWaiting 76 = .ok (.goto (-64), 3) := by decide +kernel
theorem dX0_serveWaiting_79 : decode cX0_serveWaiting 79 = .ok (.iload_n 1, 1) := by decide +kernel
theorem dX0_serveWaiting_80 : decode cX0_serveWaiting 80 = .ok (.ireturn, 1) := by decide +kernel
theorem dX0_greatestSizeWithout_0 : decode cX0_greatestSizeWithout 0 = .ok (.aload_n 0, 1) := by decide +kernel
theorem dX0_greatestSizeWithout_1 : decode cX0_greatestSizeWithout 1 = .ok (.getfield 12, 3) := by decide +kernel
theorem dX0_greatestSizeWithout_4 : decode cX0_greatestSizeWithout 4 = .ok (.aload_n 0, 1) := by decide +kernel
theorem dX0_greatestSizeWithout_5 : decode cX0_greatestSizeWithout 5 = .ok (.getfield 21, 3) := by decide +kernel
theorem dX0_greatestSizeWithout_8 : decode cX0_greatestSizeWithout 8 = .ok (.iload_n 1, 1) := by decide +kernel
theorem dX0_greatestSizeWithout_9 : decode cX0_greatestSizeWithout 9 = .ok (.invokevirtual 69, 3) := by decide +kernel
theorem dX0_greatestSizeWithout_12 : decode cX0_greatestSizeWithout 12 = .ok (.aload_n 0, 1) := by decide +kernel
theorem dX0_greatestSizeWithout_13 : decode cX0_greatestSizeWithout 13 = .ok (.getfield 21, 3) := by decide +kernel
theorem dX0_greatestSizeWithout_16 : decode cX0_greatestSizeWithout 16 = .ok (.iload_n 1, 1) := by decide +kernel
theorem dX0_greatestSizeWithout_17 : decode cX0_greatestSizeWithout 17 = .ok (.invokevirtual 85, 3) := by decide +kernel
theorem dX0_greatestSizeWithout_20 : decode cX0_greatestSizeWithout 20 = .ok (.invokevirtual 111, 3) := by decide +kernel
theorem dX0_greatestSizeWithout_23 : decode cX0_greatestSizeWithout 23 = .ok (.istore_n 2, 1) := by decide +kernel
theorem dX0_greatestSizeWithout_24 : decode cX0_greatestSizeWithout 24 = .ok (.iload_n 2, 1) := by decide +kernel
theorem dX0_greatestSizeWithout_25 : decode cX0_greatestSizeWithout 25 = .ok (.aload_n 0, 1) := by decide +kernel
theorem dX0_greatestSizeWithout_26 : decode cX0_greatestSizeWithout 26 = .ok (.getfield 12, 3) := by decide +kernel
theorem dX0_greatestSizeWithout_29 : decode cX0_greatestSizeWithout 29 = .ok (.invokevirtual 46, 3) := by decide +kernel
theorem dX0_greatestSizeWithout_32 : decode cX0_greatestSizeWithout 32 = .ok (.invokestatic 114, 3) := by decide +kernel
theorem dX0_greatestSizeWithout_35 : decode cX0_greatestSizeWithout 35 = .ok (.ireturn, 1) := by decide +kernel
theorem dX0_pieceStart_0 : decode cX0_pieceStart 0 = .ok (.aload_n 0, 1) := by decide +kernel
theorem dX0_pieceStart_1 : decode cX0_pieceStart 1 = .ok (.getfield 21, 3) := by decide +kernel
theorem dX0_pieceStart_4 : decode cX0_pieceStart 4 = .ok (.iload_n 1, 1) := by decide +kernel
theorem dX0_pieceStart_5 : decode cX0_pieceStart 5 = .ok (.invokevirtual 119, 3) := by decide +kernel
theorem dX0_pieceStart_8 : decode cX0_pieceStart 8 = .ok (.istore_n 2, 1) := by decide +kernel
theorem dX0_pieceStart_9 : decode cX0_pieceStart 9 = .ok (.iload_n 2, 1) := by decide +kernel
theorem dX0_pieceStart_10 : decode cX0_pieceStart 10 = .ok (.ifCond .lt 14, 3) := by decide +kernel
theorem dX0_pieceStart_13 : decode cX0_pieceStart 13 = .ok (.aload_n 0, 1) := by decide +kernel
theorem dX0_pieceStart_14 : decode cX0_pieceStart 14 = .ok (.getfield 21, 3) := by decide +kernel
theorem dX0_pieceStart_17 : decode cX0_pieceStart 17 = .ok (.iload_n 2, 1) := by decide +kernel
theorem dX0_pieceStart_18 : decode cX0_pieceStart 18 = .ok (.invokevirtual 69, 3) := by decide +kernel
theorem dX0_pieceStart_21 : decode cX0_pieceStart 21 = .ok (.goto 11, 3) := by decide +kernel
theorem dX0_pieceStart_24 : decode cX0_pieceStart 24 = .ok (.aload_n 0, 1) := by decide +kernel
theorem dX0_pieceStart_25 : decode cX0_pieceStart 25 = .ok (.getfield 12, 3) := by decide +kernel
theorem dX0_pieceStart_28 : decode cX0_pieceStart 28 = .ok (.iload_n 1, 1) := by decide +kernel
theorem dX0_pieceStart_29 : decode cX0_pieceStart 29 = .ok (.invokevirtual 122, 3) := by decide +kernel
theorem dX0_pieceStart_32 : decode cX0_pieceStart 32 = .ok (.ireturn, 1) := by decide +kernel
theorem dX0_pieceSize_0 : decode cX0_pieceSize 0 = .ok (.aload_n 0, 1) := by decide +kernel
theorem dX0_pieceSize_1 : decode cX0_pieceSize 1 = .ok (.getfield 21, 3) := by decide +kernel
theorem dX0_pieceSize_4 : decode cX0_pieceSize 4 = .ok (.iload_n 1, 1) := by decide +kernel
theorem dX0_pieceSize_5 : decode cX0_pieceSize 5 = .ok (.invokevirtual 119, 3) := by decide +kernel
theorem dX0_pieceSize_8 : decode cX0_pieceSize 8 = .ok (.istore_n 2, 1) := by decide +kernel
theorem dX0_pieceSize_9 : decode cX0_pieceSize 9 = .ok (.iload_n 2, 1) := by decide +kernel
theorem dX0_pieceSize_10 : decode cX0_pieceSize 10 = .ok (.ifCond .lt 14, 3) := by decide +kernel
theorem dX0_pieceSize_13 : decode cX0_pieceSize 13 = .ok (.aload_n 0, 1) := by decide +kernel
theorem dX0_pieceSize_14 : decode cX0_pieceSize 14 = .ok (.getfield 21, 3) := by decide +kernel
theorem dX0_pieceSize_17 : decode cX0_pieceSize 17 = .ok (.iload_n 2, 1) := by decide +kernel
theorem dX0_pieceSize_18 : decode cX0_pieceSize 18 = .ok (.invokevirtual 85, 3) := by decide +kernel
theorem dX0_pieceSize_21 : decode cX0_pieceSize 21 = .ok (.goto 18, 3) := by decide +kernel
theorem dX0_pieceSize_24 : decode cX0_pieceSize 24 = .ok (.aload_n 0, 1) := by decide +kernel
theorem dX0_pieceSize_25 : decode cX0_pieceSize 25 = .ok (.getfield 12, 3) := by decide +kernel
theorem dX0_pieceSize_28 : decode cX0_pieceSize 28 = .ok (.aload_n 0, 1) := by decide +kernel
theorem dX0_pieceSize_29 : decode cX0_pieceSize 29 = .ok (.getfield 12, 3) := by decide +kernel
theorem dX0_pieceSize_32 : decode cX0_pieceSize 32 = .ok (.iload_n 1, 1) := by decide +kernel
theorem dX0_pieceSize_33 : decode cX0_pieceSize 33 = .ok (.invokevirtual 122, 3) := by decide +kernel
theorem dX0_pieceSize_36 : decode cX0_pieceSize 36 = .ok (.invokevirtual 125, 3) := by decide +kernel
theorem dX0_pieceSize_39 : decode cX0_pieceSize 39 = .ok (.ireturn, 1) := by decide +kernel
theorem dX0_countFreeParts_0 : decode cX0_countFreeParts 0 = .ok (.iconst 0, 1) := by decide +kernel
theorem dX0_countFreeParts_1 : decode cX0_countFreeParts 1 = .ok (.istore_n 2, 1) := by decide +kernel
theorem dX0_countFreeParts_2 : decode cX0_countFreeParts 2 = .ok (.iconst 0, 1) := by decide +kernel
theorem dX0_countFreeParts_3 : decode cX0_countFreeParts 3 = .ok (.istore_n 3, 1) := by decide +kernel
theorem dX0_countFreeParts_4 : decode cX0_countFreeParts 4 = .ok (.iload_n 1, 1) := by decide +kernel
theorem dX0_countFreeParts_5 : decode cX0_countFreeParts 5 = .ok (.iconst 1, 1) := by decide +kernel
theorem dX0_countFreeParts_6 : decode cX0_countFreeParts 6 = .ok (.if_icmp .lt 40, 3) := by decide +kernel
theorem dX0_countFreeParts_9 : decode cX0_countFreeParts 9 = .ok (.iload_n 3, 1) := by decide +kernel
theorem dX0_countFreeParts_10 : decode cX0_countFreeParts 10 = .ok (.bipush 64, 2) := by decide +kernel
theorem dX0_countFreeParts_12 : decode cX0_countFreeParts 12 = .ok (.if_icmp .ge 34, 3) := by decide +kernel
theorem dX0_countFreeParts_15 : decode cX0_countFreeParts 15 = .ok (.aload_n 0, 1) := by decide +kernel
theorem dX0_countFreeParts_16 : decode cX0_countFreeParts 16 = .ok (.getfield 21, 3) := by decide +kernel
theorem dX0_countFreeParts_19 : decode cX0_countFreeParts 19 = .ok (.iload_n 3, 1) := by decide +kernel
theorem dX0_countFreeParts_20 : decode cX0_countFreeParts 20 = .ok (.iload_n 1, 1) := by decide +kernel
theorem dX0_countFreeParts_21 : decode cX0_countFreeParts 21 = .ok (.invokevirtual 126, 3) := by decide +kernel
theorem dX0_countFreeParts_24 : decode cX0_countFreeParts 24 = .ok (.ifCond .ne 15, 3) := by decide +kernel
theorem dX0_countFreeParts_27 : decode cX0_countFreeParts 27 = .ok (.aload_n 0, 1) := by decide +kernel
theorem dX0_countFreeParts_28 : decode cX0_countFreeParts 28 = .ok (.iload_n 3, 1) := by decide +kernel
theorem dX0_countFreeParts_29 : decode cX0_countFreeParts 29 = .ok (.iload_n 1, 1) := by decide +kernel
theorem dX0_countFreeParts_30 : decode cX0_countFreeParts 30 = .ok (.invokevirtual 129, 3) := by decide +kernel
theorem dX0_countFreeParts_33 : decode cX0_countFreeParts 33 = .ok (.ifCond .eq 6, 3) := by decide +kernel
theorem dX0_countFreeParts_36 : decode cX0_countFreeParts 36 = .ok (.iinc 2 1, 3) := by decide +kernel
theorem dX0_countFreeParts_39 : decode cX0_countFreeParts 39 = .ok (.iload_n 3, 1) := by decide +kernel
theorem dX0_countFreeParts_40 : decode cX0_countFreeParts 40 = .ok (.iload_n 1, 1) := by decide +kernel
theorem dX0_countFreeParts_41 : decode cX0_countFreeParts 41 = .ok (.iadd, 1) := by decide +kernel
theorem dX0_countFreeParts_42 : decode cX0_countFreeParts 42 = .ok (.istore_n 3, 1) := by decide +kernel
theorem dX0_countFreeParts_43 : decode cX0_countFreeParts 43 = .ok (.goto (-39), 3) := by decide +kernel
theorem dX0_countFreeParts_46 : decode cX0_countFreeParts 46 = .ok (.iload_n 2, 1) := by decide +kernel
theorem dX0_countFreeParts_47 : decode cX0_countFreeParts 47 = .ok (.ireturn, 1) := by decide +kernel
theorem dX0_isBoardOrHalfOfMixed_0 : decode cX0_isBoardOrHalfOfMixed 0 = .ok (.iload_n 2, 1) := by decide +kernel
theorem dX0_isBoardOrHalfOfMixed_1 : decode cX0_isBoardOrHalfOfMixed 1 = .ok (.bipush 64, 2) := by decide +kernel
theorem dX0_isBoardOrHalfOfMixed_3 : decode cX0_isBoardOrHalfOfMixed 3 = .ok (.if_icmp .eq 23, 3) := by decide +kernel
theorem dX0_isBoardOrHalfOfMixed_6 : decode cX0_isBoardOrHalfOfMixed 6 = .ok (.aload_n 0, 1) := by decide +kernel
theorem dX0_isBoardOrHalfOfMixed_7 : decode cX0_isBoardOrHalfOfMixed 7 = .ok (.getfield 21, 3) := by decide +kernel
theorem dX0_isBoardOrHalfOfMixed_10 : decode cX0_isBoardOrHalfOfMixed 10 = .ok (.iload_n 1, 1) := by decide +kernel
theorem dX0_isBoardOrHalfOfMixed_11 : decode cX0_isBoardOrHalfOfMixed 11 = .ok (.iconst 2, 1) := by decide +kernel
theorem dX0_isBoardOrHalfOfMixed_12 : decode cX0_isBoardOrHalfOfMixed 12 = .ok (.iload_n 2, 1) := by decide +kernel
theorem dX0_isBoardOrHalfOfMixed_13 : decode cX0_isBoardOrHalfOfMixed 13 = .ok (.imul, 1) := by decide +kernel
theorem dX0_isBoardOrHalfOfMixed_14 : decode cX0_isBoardOrHalfOfMixed 14 = .ok (.invokestatic 133, 3) := by decide +kernel
theorem dX0_isBoardOrHalfOfMixed_17 : decode cX0_isBoardOrHalfOfMixed 17 = .ok (.iconst 2, 1) := by decide +kernel
theorem dX0_isBoardOrHalfOfMixed_18 : decode cX0_isBoardOrHalfOfMixed 18 = .ok (.iload_n 2, 1) := by decide +kernel
theorem dX0_isBoardOrHalfOfMixed_19 : decode cX0_isBoardOrHalfOfMixed 19 = .ok (.imul, 1) := by decide +kernel
theorem dX0_isBoardOrHalfOfMixed_20 : decode cX0_isBoardOrHalfOfMixed 20 = .ok (.invokevirtual 126, 3) := by decide +kernel
theorem dX0_isBoardOrHalfOfMixed_23 : decode cX0_isBoardOrHalfOfMixed 23 = .ok (.ifCond .le 7, 3) := by decide +kernel
theorem dX0_isBoardOrHalfOfMixed_26 : decode cX0_isBoardOrHalfOfMixed 26 = .ok (.iconst 1, 1) := by decide +kernel
theorem dX0_isBoardOrHalfOfMixed_27 : decode cX0_isBoardOrHalfOfMixed 27 = .ok (.goto 4, 3) := by decide +kernel
theorem dX0_isBoardOrHalfOfMixed_30 : decode cX0_isBoardOrHalfOfMixed 30 = .ok (.iconst 0, 1) := by decide +kernel
theorem dX0_isBoardOrHalfOfMixed_31 : decode cX0_isBoardOrHalfOfMixed 31 = .ok (.ireturn, 1) := by decide +kernel
theorem dX0_isCovered_0 : decode cX0_isCovered 0 = .ok (.iconst 0, 1) := by decide +kernel
theorem dX0_isCovered_1 : decode cX0_isCovered 1 = .ok (.istore_n 1, 1) := by decide +kernel
theorem dX0_isCovered_2 : decode cX0_isCovered 2 = .ok (.iload_n 1, 1) := by decide +kernel
theorem dX0_isCovered_3 : decode cX0_isCovered 3 = .ok (.bipush 64, 2) := by decide +kernel
theorem dX0_isCovered_5 : decode cX0_isCovered 5 = .ok (.if_icmp .ge 33, 3) := by decide +kernel
theorem dX0_isCovered_8 : decode cX0_isCovered 8 = .ok (.aload_n 0, 1) := by decide +kernel
theorem dX0_isCovered_9 : decode cX0_isCovered 9 = .ok (.getfield 21, 3) := by decide +kernel
theorem dX0_isCovered_12 : decode cX0_isCovered 12 = .ok (.iload_n 1, 1) := by decide +kernel
theorem dX0_isCovered_13 : decode cX0_isCovered 13 = .ok (.iconst 1, 1) := by decide +kernel
theorem dX0_isCovered_14 : decode cX0_isCovered 14 = .ok (.invokevirtual 126, 3) := by decide +kernel
theorem dX0_isCovered_17 : decode cX0_isCovered 17 = .ok (.aload_n 0, 1) := by decide +kernel
theorem dX0_isCovered_18 : decode cX0_isCovered 18 = .ok (.getfield 12, 3) := by decide +kernel
theorem dX0_isCovered_21 : decode cX0_isCovered 21 = .ok (.iload_n 1, 1) := by decide +kernel
theorem dX0_isCovered_22 : decode cX0_isCovered 22 = .ok (.invokevirtual 136, 3) := by decide +kernel
theorem dX0_isCovered_25 : decode cX0_isCovered 25 = .ok (.iadd, 1) := by decide +kernel
theorem dX0_isCovered_26 : decode cX0_isCovered 26 = .ok (.iconst 1, 1) := by decide +kernel
theorem dX0_isCovered_27 : decode cX0_isCovered 27 = .ok (.if_icmp .eq 5, 3) := by decide +kernel
theorem dX0_isCovered_30 : decode cX0_isCovered 30 = .ok (.iconst 0, 1) := by decide +kernel
theorem dX0_isCovered_31 : decode cX0_isCovered 31 = .ok (.ireturn, 1) := by decide +kernel
theorem dX0_isCovered_32 : decode cX0_isCovered 32 = .ok (.iinc 1 1, 3) := by decide +kernel
theorem dX0_isCovered_35 : decode cX0_isCovered 35 = .ok (.goto (-33), 3) := by decide +kernel
theorem dX0_isCovered_38 : decode cX0_isCovered 38 = .ok (.iconst 1, 1) := by decide +kernel
theorem dX0_isCovered_39 : decode cX0_isCovered 39 = .ok (.ireturn, 1) := by decide +kernel
theorem dX0_isCountedAlike_0 : decode cX0_isCountedAlike 0 = .ok (.iconst 1, 1) := by decide +kernel
theorem dX0_isCountedAlike_1 : decode cX0_isCountedAlike 1 = .ok (.istore_n 1, 1) := by decide +kernel
theorem dX0_isCountedAlike_2 : decode cX0_isCountedAlike 2 = .ok (.iload_n 1, 1) := by decide +kernel
theorem dX0_isCountedAlike_3 : decode cX0_isCountedAlike 3 = .ok (.bipush 64, 2) := by decide +kernel
theorem dX0_isCountedAlike_5 : decode cX0_isCountedAlike 5 = .ok (.if_icmp .gt 28, 3) := by decide +kernel
theorem dX0_isCountedAlike_8 : decode cX0_isCountedAlike 8 = .ok (.aload_n 0, 1) := by decide +kernel
theorem dX0_isCountedAlike_9 : decode cX0_isCountedAlike 9 = .ok (.getfield 12, 3) := by decide +kernel
theorem dX0_isCountedAlike_12 : decode cX0_isCountedAlike 12 = .ok (.iload_n 1, 1) := by decide +kernel
theorem dX0_isCountedAlike_13 : decode cX0_isCountedAlike 13 = .ok (.invokevirtual 139, 3) := by decide +kernel
theorem dX0_isCountedAlike_16 : decode cX0_isCountedAlike 16 = .ok (.aload_n 0, 1) := by decide +kernel
theorem dX0_isCountedAlike_17 : decode cX0_isCountedAlike 17 = .ok (.iload_n 1, 1) := by decide +kernel
theorem dX0_isCountedAlike_18 : decode cX0_isCountedAlike 18 = .ok (.invokevirtual 142, 3) := by decide +kernel
theorem dX0_isCountedAlike_21 : decode cX0_isCountedAlike 21 = .ok (.if_icmp .eq 5, 3) := by decide +kernel
theorem dX0_isCountedAlike_24 : decode cX0_isCountedAlike 24 = .ok (.iconst 0, 1) := by decide +kernel
theorem dX0_isCountedAlike_25 : decode cX0_isCountedAlike 25 = .ok (.ireturn, 1) := by decide +kernel
theorem dX0_isCountedAlike_26 : decode cX0_isCountedAlike 26 = .ok (.iload_n 1, 1) := by decide +kernel
theorem dX0_isCountedAlike_27 : decode cX0_isCountedAlike 27 = .ok (.iconst 2, 1) := by decide +kernel
theorem dX0_isCountedAlike_28 : decode cX0_isCountedAlike 28 = .ok (.imul, 1) := by decide +kernel
theorem dX0_isCountedAlike_29 : decode cX0_isCountedAlike 29 = .ok (.istore_n 1, 1) := by decide +kernel
theorem dX0_isCountedAlike_30 : decode cX0_isCountedAlike 30 = .ok (.goto (-28), 3) := by decide +kernel
theorem dX0_isCountedAlike_33 : decode cX0_isCountedAlike 33 = .ok (.iconst 1, 1) := by decide +kernel
theorem dX0_isCountedAlike_34 : decode cX0_isCountedAlike 34 = .ok (.ireturn, 1) := by decide +kernel
theorem dX0_isSomebodyLeft_0 : decode cX0_isSomebodyLeft 0 = .ok (.iconst 0, 1) := by decide +kernel
theorem dX0_isSomebodyLeft_1 : decode cX0_isSomebodyLeft 1 = .ok (.istore_n 1, 1) := by decide +kernel
theorem dX0_isSomebodyLeft_2 : decode cX0_isSomebodyLeft 2 = .ok (.iload_n 1, 1) := by decide +kernel
theorem dX0_isSomebodyLeft_3 : decode cX0_isSomebodyLeft 3 = .ok (.aload_n 0, 1) := by decide +kernel
theorem dX0_isSomebodyLeft_4 : decode cX0_isSomebodyLeft 4 = .ok (.getfield 28, 3) := by decide +kernel
theorem dX0_isSomebodyLeft_7 : decode cX0_isSomebodyLeft 7 = .ok (.getfield 105, 3) := by decide +kernel
theorem dX0_isSomebodyLeft_10 : decode cX0_isSomebodyLeft 10 = .ok (.if_icmp .ge 26, 3) := by decide +kernel
theorem dX0_isSomebodyLeft_13 : decode cX0_isSomebodyLeft 13 = .ok (.aload_n 0, 1) := by decide +kernel
theorem dX0_isSomebodyLeft_14 : decode cX0_isSomebodyLeft 14 = .ok (.aload_n 0, 1) := by decide +kernel
theorem dX0_isSomebodyLeft_15 : decode cX0_isSomebodyLeft 15 = .ok (.getfield 28, 3) := by decide +kernel
theorem dX0_isSomebodyLeft_18 : decode cX0_isSomebodyLeft 18 = .ok (.iload_n 1, 1) := by decide +kernel
theorem dX0_isSomebodyLeft_19 : decode cX0_isSomebodyLeft 19 = .ok (.invokevirtual 106, 3) := by decide +kernel
theorem dX0_isSomebodyLeft_22 : decode cX0_isSomebodyLeft 22 = .ok (.invokevirtual 61, 3) := by decide +kernel
theorem dX0_isSomebodyLeft_25 : decode cX0_isSomebodyLeft 25 = .ok (.ifCond .eq 5, 3) := by decide +kernel
theorem dX0_isSomebodyLeft_28 : decode cX0_isSomebodyLeft 28 = .ok (.iconst 1, 1) := by decide +kernel
theorem dX0_isSomebodyLeft_29 : decode cX0_isSomebodyLeft 29 = .ok (.ireturn, 1) := by decide +kernel
theorem dX0_isSomebodyLeft_30 : decode cX0_isSomebodyLeft 30 = .ok (.iinc 1 1, 3) := by decide +kernel
theorem dX0_isSomebodyLeft_33 : decode cX0_isSomebodyLeft 33 = .ok (.goto (-31), 3) := by decide +kernel
theorem dX0_isSomebodyLeft_36 : decode cX0_isSomebodyLeft 36 = .ok (.iconst 0, 1) := by decide +kernel
theorem dX0_isSomebodyLeft_37 : decode cX0_isSomebodyLeft 37 = .ok (.ireturn, 1) := by decide +kernel
theorem dX0_writePieces_0 : decode cX0_writePieces 0 = .ok (.aload_n 1, 1) := by decide +kernel
theorem dX0_writePieces_1 : decode cX0_writePieces 1 = .ok (.invokevirtual 145, 3) := by decide +kernel
theorem dX0_writePieces_4 : decode cX0_writePieces 4 = .ok (.iconst 0, 1) := by decide +kernel
theorem dX0_writePieces_5 : decode cX0_writePieces 5 = .ok (.istore_n 2, 1) := by decide +kernel
theorem dX0_writePieces_6 : decode cX0_writePieces 6 = .ok (.iload_n 2, 1) := by decide +kernel
theorem dX0_writePieces_7 : decode cX0_writePieces 7 = .ok (.bipush 64, 2) := by decide +kernel
theorem dX0_writePieces_9 : decode cX0_writePieces 9 = .ok (.if_icmp .ge 34, 3) := by decide +kernel
theorem dX0_writePieces_12 : decode cX0_writePieces 12 = .ok (.aload_n 0, 1) := by decide +kernel
theorem dX0_writePieces_13 : decode cX0_writePieces 13 = .ok (.iload_n 2, 1) := by decide +kernel
theorem dX0_writePieces_14 : decode cX0_writePieces 14 = .ok (.invokevirtual 150, 3) := by decide +kernel
theorem dX0_writePieces_17 : decode cX0_writePieces 17 = .ok (.iload_n 2, 1) := by decide +kernel
theorem dX0_writePieces_18 : decode cX0_writePieces 18 = .ok (.if_icmp .ne 19, 3) := by decide +kernel
theorem dX0_writePieces_21 : decode cX0_writePieces 21 = .ok (.iload_n 2, 1) := by decide +kernel
theorem dX0_writePieces_22 : decode cX0_writePieces 22 = .ok (.ifCond .le 9, 3) := by decide +kernel
theorem dX0_writePieces_25 : decode cX0_writePieces 25 = .ok (.aload_n 1, 1) := by decide +kernel
theorem dX0_writePieces_26 : decode cX0_writePieces 26 = .ok (.bipush 32, 2) := by decide +kernel
theorem dX0_writePieces_28 : decode cX0_writePieces 28 = .ok (.invokevirtual 153, 3) := by decide +kernel
theorem dX0_writePieces_31 : decode cX0_writePieces 31 = .ok (.aload_n 0, 1) := by decide +kernel
theorem dX0_writePieces_32 : decode cX0_writePieces 32 = .ok (.aload_n 1, 1) := by decide +kernel
theorem dX0_writePieces_33 : decode cX0_writePieces 33 = .ok (.iload_n 2, 1) := by decide +kernel
theorem dX0_writePieces_34 : decode cX0_writePieces 34 = .ok (.invokevirtual 156, 3) := by decide +kernel
theorem dX0_writePieces_37 : decode cX0_writePieces 37 = .ok (.iinc 2 1, 3) := by decide +kernel
theorem dX0_writePieces_40 : decode cX0_writePieces 40 = .ok (.goto (-34), 3) := by decide +kernel
theorem dX0_writePieces_43 : decode cX0_writePieces 43 = .ok (.return_, 1) := by decide +kernel
theorem dX0_writePiece_0 : decode cX0_writePiece 0 = .ok (.aload_n 0, 1) := by decide +kernel
theorem dX0_writePiece_1 : decode cX0_writePiece 1 = .ok (.getfield 21, 3) := by decide +kernel
theorem dX0_writePiece_4 : decode cX0_writePiece 4 = .ok (.iload_n 2, 1) := by decide +kernel
theorem dX0_writePiece_5 : decode cX0_writePiece 5 = .ok (.invokevirtual 119, 3) := by decide +kernel
theorem dX0_writePiece_8 : decode cX0_writePiece 8 = .ok (.istore_n 3, 1) := by decide +kernel
theorem dX0_writePiece_9 : decode cX0_writePiece 9 = .ok (.aload_n 1, 1) := by decide +kernel
theorem dX0_writePiece_10 : decode cX0_writePiece 10 = .ok (.aload_n 0, 1) := by decide +kernel
theorem dX0_writePiece_11 : decode cX0_writePiece 11 = .ok (.iload_n 2, 1) := by decide +kernel
theorem dX0_writePiece_12 : decode cX0_writePiece 12 = .ok (.invokevirtual 160, 3) := by decide +kernel
theorem dX0_writePiece_15 : decode cX0_writePiece 15 = .ok (.invokevirtual 163, 3) := by decide +kernel
theorem dX0_writePiece_18 : decode cX0_writePiece 18 = .ok (.iload_n 3, 1) := by decide +kernel
theorem dX0_writePiece_19 : decode cX0_writePiece 19 = .ok (.ifCond .ge 12, 3) := by decide +kernel
theorem dX0_writePiece_22 : decode cX0_writePiece 22 = .ok (.aload_n 1, 1) := by decide +kernel
theorem dX0_writePiece_23 : decode cX0_writePiece 23 = .ok (.bipush 46, 2) := by decide +kernel
theorem dX0_writePiece_25 : decode cX0_writePiece 25 = .ok (.invokevirtual 153, 3) := by decide +kernel
theorem dX0_writePiece_28 : decode cX0_writePiece 28 = .ok (.goto 14, 3) := by decide +kernel
theorem dX0_writePiece_31 : decode cX0_writePiece 31 = .ok (.aload_n 1, 1) := by decide +kernel
theorem dX0_writePiece_32 : decode cX0_writePiece 32 = .ok (.bipush 61, 2) := by decide +kernel
theorem dX0_writePiece_34 : decode cX0_writePiece 34 = .ok (.invokevirtual 153, 3) := by decide +kernel
theorem dX0_writePiece_37 : decode cX0_writePiece 37 = .ok (.aload_n 1, 1) := by decide +kernel
theorem dX0_writePiece_38 : decode cX0_writePiece 38 = .ok (.iload_n 3, 1) := by decide +kernel
theorem dX0_writePiece_39 : decode cX0_writePiece 39 = .ok (.invokevirtual 163, 3) := by decide +kernel
theorem dX0_writePiece_42 : decode cX0_writePiece 42 = .ok (.return_, 1) := by decide +kernel
theorem dX0_writeUnits_0 : decode cX0_writeUnits 0 = .ok (.aload_n 1, 1) := by decide +kernel
theorem dX0_writeUnits_1 : decode cX0_writeUnits 1 = .ok (.invokevirtual 145, 3) := by decide +kernel
theorem dX0_writeUnits_4 : decode cX0_writeUnits 4 = .ok (.iconst 0, 1) := by decide +kernel
theorem dX0_writeUnits_5 : decode cX0_writeUnits 5 = .ok (.istore_n 2, 1) := by decide +kernel
theorem dX0_writeUnits_6 : decode cX0_writeUnits 6 = .ok (.iload_n 2, 1) := by decide +kernel
theorem dX0_writeUnits_7 : decode cX0_writeUnits 7 = .ok (.bipush 64, 2) := by decide +kernel
theorem dX0_writeUnits_9 : decode cX0_writeUnits 9 = .ok (.if_icmp .ge 36, 3) := by decide +kernel
theorem dX0_writeUnits_12 : decode cX0_writeUnits 12 = .ok (.aload_n 0, 1) := by decide +kernel
theorem dX0_writeUnits_13 : decode cX0_writeUnits 13 = .ok (.getfield 21, 3) := by decide +kernel
theorem dX0_writeUnits_16 : decode cX0_writeUnits 16 = .ok (.iload_n 2, 1) := by decide +kernel
theorem dX0_writeUnits_17 : decode cX0_writeUnits 17 = .ok (.invokevirtual 119, 3) := by decide +kernel
theorem dX0_writeUnits_20 : decode cX0_writeUnits 20 = .ok (.istore_n 3, 1) := by decide +kernel
theorem dX0_writeUnits_21 : decode cX0_writeUnits 21 = .ok (.aload_n 1, 1) := by decide +kernel
theorem dX0_writeUnits_22 : decode cX0_writeUnits 22 = .ok (.iload_n 3, 1) := by decide +kernel
theorem dX0_writeUnits_23 : decode cX0_writeUnits 23 = .ok (.ifCond .ge 8, 3) := by decide +kernel
theorem dX0_writeUnits_26 : decode cX0_writeUnits 26 = .ok (.bipush 46, 2) := by decide +kernel
theorem dX0_writeUnits_28 : decode cX0_writeUnits 28 = .ok (.goto 8, 3) := by decide +kernel
theorem dX0_writeUnits_31 : decode cX0_writeUnits 31 = .ok (.bipush 97, 2) := by decide +kernel
theorem dX0_writeUnits_33 : decode cX0_writeUnits 33 = .ok (.iload_n 3, 1) := by decide +kernel
theorem dX0_writeUnits_34 : decode cX0_writeUnits 34 = .ok (.iadd, 1) := by decide +kernel
theorem dX0_writeUnits_35 : decode cX0_writeUnits 35 = .ok (.i2c, 1) := by decide +kernel
theorem dX0_writeUnits_36 : decode cX0_writeUnits 36 = .ok (.invokevirtual 153, 3) := by decide +kernel
theorem dX0_writeUnits_39 : decode cX0_writeUnits 39 = .ok (.iinc 2 1, 3) := by decide +kernel
theorem dX0_writeUnits_42 : decode cX0_writeUnits 42 = .ok (.goto (-36), 3) := by decide +kernel
theorem dX0_writeUnits_45 : decode cX0_writeUnits 45 = .ok (.return_, 1) := by decide +kernel
theorem dX1_init_0 : decode cX1_init 0 = .ok (.aload_n 0, 1) := by decide +kernel
theorem dX1_init_1 : decode cX1_init 1 = .ok (.invokespecial 3, 3) := by decide +kernel
theorem dX1_init_4 : decode cX1_init 4 = .ok (.aload_n 0, 1) := by decide +kernel
theorem dX1_init_5 : decode cX1_init 5 = .ok (.bipush 8, 2) := by decide +kernel
theorem dX1_init_7 : decode cX1_init 7 = .ok (.anewarray 9, 3) := by decide +kernel
theorem dX1_init_10 : decode cX1_init 10 = .ok (.putfield 11, 3) := by decide +kernel
theorem dX1_init_13 : decode cX1_init 13 = .ok (.aload_n 0, 1) := by decide +kernel
theorem dX1_init_14 : decode cX1_init 14 = .ok (.iconst 0, 1) := by decide +kernel
theorem dX1_init_15 : decode cX1_init 15 = .ok (.putfield 17, 3) := by decide +kernel
theorem dX1_init_18 : decode cX1_init 18 = .ok (.aload_n 0, 1) := by decide +kernel
theorem dX1_init_19 : decode cX1_init 19 = .ok (.iconst 0, 1) := by decide +kernel
theorem dX1_init_20 : decode cX1_init 20 = .ok (.putfield 21, 3) := by decide +kernel
theorem dX1_init_23 : decode cX1_init 23 = .ok (.iconst 0, 1) := by decide +kernel
theorem dX1_init_24 : decode cX1_init 24 = .ok (.istore_n 1, 1) := by decide +kernel
theorem dX1_init_25 : decode cX1_init 25 = .ok (.iload_n 1, 1) := by decide +kernel
theorem dX1_init_26 : decode cX1_init 26 = .ok (.bipush 8, 2) := by decide +kernel
theorem dX1_init_28 : decode cX1_init 28 = .ok (.if_icmp .ge 22, 3) := by decide +kernel
theorem dX1_init_31 : decode cX1_init 31 = .ok (.aload_n 0, 1) := by decide +kernel
theorem dX1_init_32 : decode cX1_init 32 = .ok (.getfield 11, 3) := by decide +kernel
theorem dX1_init_35 : decode cX1_init 35 = .ok (.iload_n 1, 1) := by decide +kernel
theorem dX1_init_36 : decode cX1_init 36 = .ok (.new 9, 3) := by decide +kernel
theorem dX1_init_39 : decode cX1_init 39 = .ok (.dup, 1) := by decide +kernel
theorem dX1_init_40 : decode cX1_init 40 = .ok (.invokespecial 24, 3) := by decide +kernel
theorem dX1_init_43 : decode cX1_init 43 = .ok (.aastore, 1) := by decide +kernel
theorem dX1_init_44 : decode cX1_init 44 = .ok (.iinc 1 1, 3) := by decide +kernel
theorem dX1_init_47 : decode cX1_init 47 = .ok (.goto (-22), 3) := by decide +kernel
theorem dX1_init_50 : decode cX1_init 50 = .ok (.return_, 1) := by decide +kernel
theorem dX1_keep_0 : decode cX1_keep 0 = .ok (.aload_n 0, 1) := by decide +kernel
theorem dX1_keep_1 : decode cX1_keep 1 = .ok (.aload_n 0, 1) := by decide +kernel
theorem dX1_keep_2 : decode cX1_keep 2 = .ok (.getfield 17, 3) := by decide +kernel
theorem dX1_keep_5 : decode cX1_keep 5 = .ok (.invokevirtual 25, 3) := by decide +kernel
theorem dX1_keep_8 : decode cX1_keep 8 = .ok (.astore_n 2, 1) := by decide +kernel
theorem dX1_keep_9 : decode cX1_keep 9 = .ok (.aload_n 2, 1) := by decide +kernel
theorem dX1_keep_10 : decode cX1_keep 10 = .ok (.ifnull 48, 3) := by decide +kernel
theorem dX1_keep_13 : decode cX1_keep 13 = .ok (.aload_n 2, 1) := by decide +kernel
theorem dX1_keep_14 : decode cX1_keep 14 = .ok (.aload_n 1, 1) := by decide +kernel
theorem dX1_keep_15 : decode cX1_keep 15 = .ok (.invokevirtual 29, 3) := by decide +kernel
theorem dX1_keep_18 : decode cX1_keep 18 = .ok (.aload_n 0, 1) := by decide +kernel
theorem dX1_keep_19 : decode cX1_keep 19 = .ok (.aload_n 0, 1) := by decide +kernel
theorem dX1_keep_20 : decode cX1_keep 20 = .ok (.getfield 17, 3) := by decide +kernel
theorem dX1_keep_23 : decode cX1_keep 23 = .ok (.iconst 1, 1) := by decide +kernel
theorem dX1_keep_24 : decode cX1_keep 24 = .ok (.iadd, 1) := by decide +kernel
theorem dX1_keep_25 : decode cX1_keep 25 = .ok (.bipush 8, 2) := by decide +kernel
theorem dX1_keep_27 : decode cX1_keep 27 = .ok (.if_icmp .ge 12, 3) := by decide +kernel
theorem dX1_keep_30 : decode cX1_keep 30 = .ok (.aload_n 0, 1) := by decide +kernel
theorem dX1_keep_31 : decode cX1_keep 31 = .ok (.getfield 17, 3) := by decide +kernel
theorem dX1_keep_34 : decode cX1_keep 34 = .ok (.iconst 1, 1) := by decide +kernel
theorem dX1_keep_35 : decode cX1_keep 35 = .ok (.iadd, 1) := by decide +kernel
theorem dX1_keep_36 : decode cX1_keep 36 = .ok (.goto 4, 3) := by decide +kernel
theorem dX1_keep_39 : decode cX1_keep 39 = .ok (.iconst 0, 1) := by decide +kernel
theorem dX1_keep_40 : decode cX1_keep 40 = .ok (.putfield 17, 3) := by decide +kernel
theorem dX1_keep_43 : decode cX1_keep 43 = .ok (.aload_n 0, 1) := by decide +kernel
theorem dX1_keep_44 : decode cX1_keep 44 = .ok (.aload_n 0, 1) := by decide +kernel
theorem dX1_keep_45 : decode cX1_keep 45 = .ok (.getfield 21, 3) := by decide +kernel
theorem dX1_keep_48 : decode cX1_keep 48 = .ok (.iconst 1, 1) := by decide +kernel
theorem dX1_keep_49 : decode cX1_keep 49 = .ok (.iadd, 1) := by decide +kernel
theorem dX1_keep_50 : decode cX1_keep 50 = .ok (.bipush 8, 2) := by decide +kernel
theorem dX1_keep_52 : decode cX1_keep 52 = .ok (.invokestatic 33, 3) := by decide +kernel
theorem dX1_keep_55 : decode cX1_keep 55 = .ok (.putfield 21, 3) := by decide +kernel
theorem dX1_keep_58 : decode cX1_keep 58 = .ok (.return_, 1) := by decide +kernel
theorem dX1_takeBack_0 : decode cX1_takeBack 0 = .ok (.aload_n 0, 1) := by decide +kernel
theorem dX1_takeBack_1 : decode cX1_takeBack 1 = .ok (.getfield 17, 3) := by decide +kernel
theorem dX1_takeBack_4 : decode cX1_takeBack 4 = .ok (.ifCond .le 12, 3) := by decide +kernel
theorem dX1_takeBack_7 : decode cX1_takeBack 7 = .ok (.aload_n 0, 1) := by decide +kernel
theorem dX1_takeBack_8 : decode cX1_takeBack 8 = .ok (.getfield 17, 3) := by decide +kernel
theorem dX1_takeBack_11 : decode cX1_takeBack 11 = .ok (.iconst 1, 1) := by decide +kernel
theorem dX1_takeBack_12 : decode cX1_takeBack 12 = .ok (.isub, 1) := by decide +kernel
theorem dX1_takeBack_13 : decode cX1_takeBack 13 = .ok (.goto 5, 3) := by decide +kernel
theorem dX1_takeBack_16 : decode cX1_takeBack 16 = .ok (.bipush 7, 2) := by decide +kernel
theorem dX1_takeBack_18 : decode cX1_takeBack 18 = .ok (.istore_n 2, 1) := by decide +kernel
theorem dX1_takeBack_19 : decode cX1_takeBack 19 = .ok (.aload_n 0, 1) := by decide +kernel
theorem dX1_takeBack_20 : decode cX1_takeBack 20 = .ok (.iload_n 2, 1) := by decide +kernel
theorem dX1_takeBack_21 : decode cX1_takeBack 21 = .ok (.invokevirtual 25, 3) := by decide +kernel
theorem dX1_takeBack_24 : decode cX1_takeBack 24 = .ok (.astore_n 3, 1) := by decide +kernel
theorem dX1_takeBack_25 : decode cX1_takeBack 25 = .ok (.aload_n 3, 1) := by decide +kernel
theorem dX1_takeBack_26 : decode cX1_takeBack 26 = .ok (.ifnull 30, 3) := by decide +kernel
theorem dX1_takeBack_29 : decode cX1_takeBack 29 = .ok (.aload_n 0, 1) := by decide +kernel
theorem dX1_takeBack_30 : decode cX1_takeBack 30 = .ok (.getfield 21, 3) := by decide +kernel
theorem dX1_takeBack_33 : decode cX1_takeBack 33 = .ok (.ifCond .le 23, 3) := by decide +kernel
theorem dX1_takeBack_36 : decode cX1_takeBack 36 = .ok (.aload_n 1, 1) := by decide +kernel
theorem dX1_takeBack_37 : decode cX1_takeBack 37 = .ok (.aload_n 3, 1) := by decide +kernel
theorem dX1_takeBack_38 : decode cX1_takeBack 38 = .ok (.invokevirtual 29, 3) := by decide +kernel
theorem dX1_takeBack_41 : decode cX1_takeBack 41 = .ok (.aload_n 0, 1) := by decide +kernel
theorem dX1_takeBack_42 : decode cX1_takeBack 42 = .ok (.iload_n 2, 1) := by decide +kernel
theorem dX1_takeBack_43 : decode cX1_takeBack 43 = .ok (.putfield 17, 3) := by decide +kernel
theorem dX1_takeBack_46 : decode cX1_takeBack 46 = .ok (.aload_n 0, 1) := by decide +kernel
theorem dX1_takeBack_47 : decode cX1_takeBack 47 = .ok (.dup, 1) := by decide +kernel
theorem dX1_takeBack_48 : decode cX1_takeBack 48 = .ok (.getfield 21, 3) := by decide +kernel
theorem dX1_takeBack_51 : decode cX1_takeBack 51 = .ok (.iconst 1, 1) := by decide +kernel
theorem dX1_takeBack_52 : decode cX1_takeBack 52 = .ok (.isub, 1) := by decide +kernel
theorem dX1_takeBack_53 : decode cX1_takeBack 53 = .ok (.putfield 21, 3) := by decide +kernel
theorem dX1_takeBack_56 : decode cX1_takeBack 56 = .ok (.return_, 1) := by decide +kernel
theorem dX1_keptAt_0 : decode cX1_keptAt 0 = .ok (.iload_n 1, 1) := by decide +kernel
theorem dX1_keptAt_1 : decode cX1_keptAt 1 = .ok (.ifCond .lt 18, 3) := by decide +kernel
theorem dX1_keptAt_4 : decode cX1_keptAt 4 = .ok (.iload_n 1, 1) := by decide +kernel
theorem dX1_keptAt_5 : decode cX1_keptAt 5 = .ok (.bipush 8, 2) := by decide +kernel
theorem dX1_keptAt_7 : decode cX1_keptAt 7 = .ok (.if_icmp .ge 12, 3) := by decide +kernel
theorem dX1_keptAt_10 : decode cX1_keptAt 10 = .ok (.aload_n 0, 1) := by decide +kernel
theorem dX1_keptAt_11 : decode cX1_keptAt 11 = .ok (.getfield 11, 3) := by decide +kernel
theorem dX1_keptAt_14 : decode cX1_keptAt 14 = .ok (.iload_n 1, 1) := by decide +kernel
theorem dX1_keptAt_15 : decode cX1_keptAt 15 = .ok (.aaload, 1) := by decide +kernel
theorem dX1_keptAt_16 : decode cX1_keptAt 16 = .ok (.goto 4, 3) := by decide +kernel
theorem dX1_keptAt_19 : decode cX1_keptAt 19 = .ok (.aconst_null, 1) := by decide +kernel
theorem dX1_keptAt_20 : decode cX1_keptAt 20 = .ok (.areturn, 1) := by decide +kernel
theorem dX1_clear_0 : decode cX1_clear 0 = .ok (.aload_n 0, 1) := by decide +kernel
theorem dX1_clear_1 : decode cX1_clear 1 = .ok (.iconst 0, 1) := by decide +kernel
theorem dX1_clear_2 : decode cX1_clear 2 = .ok (.putfield 21, 3) := by decide +kernel
theorem dX1_clear_5 : decode cX1_clear 5 = .ok (.return_, 1) := by decide +kernel
theorem dX2_init_0 : decode cX2_init 0 = .ok (.aload_n 0, 1) := by decide +kernel
theorem dX2_init_1 : decode cX2_init 1 = .ok (.invokespecial 3, 3) := by decide +kernel
theorem dX2_init_4 : decode cX2_init 4 = .ok (.aload_n 0, 1) := by decide +kernel
theorem dX2_init_5 : decode cX2_init 5 = .ok (.sipush 384, 3) := by decide +kernel
theorem dX2_init_8 : decode cX2_init 8 = .ok (.newarray .char, 2) := by decide +kernel
theorem dX2_init_10 : decode cX2_init 10 = .ok (.putfield 9, 3) := by decide +kernel
theorem dX2_init_13 : decode cX2_init 13 = .ok (.aload_n 0, 1) := by decide +kernel
theorem dX2_init_14 : decode cX2_init 14 = .ok (.iconst 0, 1) := by decide +kernel
theorem dX2_init_15 : decode cX2_init 15 = .ok (.putfield 15, 3) := by decide +kernel
theorem dX2_init_18 : decode cX2_init 18 = .ok (.return_, 1) := by decide +kernel
theorem dX2_clear_0 : decode cX2_clear 0 = .ok (.aload_n 0, 1) := by decide +kernel
theorem dX2_clear_1 : decode cX2_clear 1 = .ok (.iconst 0, 1) := by decide +kernel
theorem dX2_clear_2 : decode cX2_clear 2 = .ok (.putfield 15, 3) := by decide +kernel
theorem dX2_clear_5 : decode cX2_clear 5 = .ok (.return_, 1) := by decide +kernel
theorem dX2_has_0 : decode cX2_has 0 = .ok (.iload_n 1, 1) := by decide +kernel
theorem dX2_has_1 : decode cX2_has 1 = .ok (.ifCond .lt 22, 3) := by decide +kernel
theorem dX2_has_4 : decode cX2_has 4 = .ok (.iload_n 1, 1) := by decide +kernel
theorem dX2_has_5 : decode cX2_has 5 = .ok (.aload_n 0, 1) := by decide +kernel
theorem dX2_has_6 : decode cX2_has 6 = .ok (.getfield 15, 3) := by decide +kernel
theorem dX2_has_9 : decode cX2_has 9 = .ok (.if_icmp .ge 14, 3) := by decide +kernel
theorem dX2_has_12 : decode cX2_has 12 = .ok (.iload_n 1, 1) := by decide +kernel
theorem dX2_has_13 : decode cX2_has 13 = .ok (.sipush 384, 3) := by decide +kernel
theorem dX2_has_16 : decode cX2_has 16 = .ok (.if_icmp .ge 7, 3) := by decide +kernel
theorem dX2_has_19 : decode cX2_has 19 = .ok (.iconst 1, 1) := by decide +kernel
theorem dX2_has_20 : decode cX2_has 20 = .ok (.goto 4, 3) := by decide +kernel
theorem dX2_has_23 : decode cX2_has 23 = .ok (.iconst 0, 1) := by decide +kernel
theorem dX2_has_24 : decode cX2_has 24 = .ok (.ireturn, 1) := by decide +kernel
theorem dX2_signAt_0 : decode cX2_signAt 0 = .ok (.aload_n 0, 1) := by decide +kernel
theorem dX2_signAt_1 : decode cX2_signAt 1 = .ok (.iload_n 1, 1) := by decide +kernel
theorem dX2_signAt_2 : decode cX2_signAt 2 = .ok (.invokevirtual 19, 3) := by decide +kernel
theorem dX2_signAt_5 : decode cX2_signAt 5 = .ok (.ifCond .eq 12, 3) := by decide +kernel
theorem dX2_signAt_8 : decode cX2_signAt 8 = .ok (.aload_n 0, 1) := by decide +kernel
theorem dX2_signAt_9 : decode cX2_signAt 9 = .ok (.getfield 9, 3) := by decide +kernel
theorem dX2_signAt_12 : decode cX2_signAt 12 = .ok (.iload_n 1, 1) := by decide +kernel
theorem dX2_signAt_13 : decode cX2_signAt 13 = .ok (.caload, 1) := by decide +kernel
theorem dX2_signAt_14 : decode cX2_signAt 14 = .ok (.goto 5, 3) := by decide +kernel
theorem dX2_signAt_17 : decode cX2_signAt 17 = .ok (.bipush 32, 2) := by decide +kernel
theorem dX2_signAt_19 : decode cX2_signAt 19 = .ok (.ireturn, 1) := by decide +kernel
theorem dX2_put_0 : decode cX2_put 0 = .ok (.aload_n 0, 1) := by decide +kernel
theorem dX2_put_1 : decode cX2_put 1 = .ok (.getfield 15, 3) := by decide +kernel
theorem dX2_put_4 : decode cX2_put 4 = .ok (.ifCond .lt 33, 3) := by decide +kernel
theorem dX2_put_7 : decode cX2_put 7 = .ok (.aload_n 0, 1) := by decide +kernel
theorem dX2_put_8 : decode cX2_put 8 = .ok (.getfield 15, 3) := by decide +kernel
theorem dX2_put_11 : decode cX2_put 11 = .ok (.sipush 384, 3) := by decide +kernel
theorem dX2_put_14 : decode cX2_put 14 = .ok (.if_icmp .ge 23, 3) := by decide +kernel
theorem dX2_put_17 : decode cX2_put 17 = .ok (.aload_n 0, 1) := by decide +kernel
theorem dX2_put_18 : decode cX2_put 18 = .ok (.getfield 9, 3) := by decide +kernel
theorem dX2_put_21 : decode cX2_put 21 = .ok (.aload_n 0, 1) := by decide +kernel
theorem dX2_put_22 : decode cX2_put 22 = .ok (.getfield 15, 3) := by decide +kernel
theorem dX2_put_25 : decode cX2_put 25 = .ok (.iload_n 1, 1) := by decide +kernel
theorem dX2_put_26 : decode cX2_put 26 = .ok (.castore, 1) := by decide +kernel
theorem dX2_put_27 : decode cX2_put 27 = .ok (.aload_n 0, 1) := by decide +kernel
theorem dX2_put_28 : decode cX2_put 28 = .ok (.dup, 1) := by decide +kernel
theorem dX2_put_29 : decode cX2_put 29 = .ok (.getfield 15, 3) := by decide +kernel
theorem dX2_put_32 : decode cX2_put 32 = .ok (.iconst 1, 1) := by decide +kernel
theorem dX2_put_33 : decode cX2_put 33 = .ok (.iadd, 1) := by decide +kernel
theorem dX2_put_34 : decode cX2_put 34 = .ok (.putfield 15, 3) := by decide +kernel
theorem dX2_put_37 : decode cX2_put 37 = .ok (.return_, 1) := by decide +kernel
theorem dX2_putNumber_0 : decode cX2_putNumber 0 = .ok (.iload_n 1, 1) := by decide +kernel
theorem dX2_putNumber_1 : decode cX2_putNumber 1 = .ok (.bipush 10, 2) := by decide +kernel
theorem dX2_putNumber_3 : decode cX2_putNumber 3 = .ok (.if_icmp .lt 15, 3) := by decide +kernel
theorem dX2_putNumber_6 : decode cX2_putNumber 6 = .ok (.aload_n 0, 1) := by decide +kernel
theorem dX2_putNumber_7 : decode cX2_putNumber 7 = .ok (.bipush 48, 2) := by decide +kernel
theorem dX2_putNumber_9 : decode cX2_putNumber 9 = .ok (.iload_n 1, 1) := by decide +kernel
theorem dX2_putNumber_10 : decode cX2_putNumber 10 = .ok (.bipush 10, 2) := by decide +kernel
theorem dX2_putNumber_12 : decode cX2_putNumber 12 = .ok (.idiv, 1) := by decide +kernel
theorem dX2_putNumber_13 : decode cX2_putNumber 13 = .ok (.iadd, 1) := by decide +kernel
theorem dX2_putNumber_14 : decode cX2_putNumber 14 = .ok (.i2c, 1) := by decide +kernel
theorem dX2_putNumber_15 : decode cX2_putNumber 15 = .ok (.invokevirtual 23, 3) := by decide +kernel
theorem dX2_putNumber_18 : decode cX2_putNumber 18 = .ok (.aload_n 0, 1) := by decide +kernel
theorem dX2_putNumber_19 : decode cX2_putNumber 19 = .ok (.bipush 48, 2) := by decide +kernel
theorem dX2_putNumber_21 : decode cX2_putNumber 21 = .ok (.iload_n 1, 1) := by decide +kernel
theorem dX2_putNumber_22 : decode cX2_putNumber 22 = .ok (.bipush 10, 2) := by decide +kernel
theorem dX2_putNumber_24 : decode cX2_putNumber 24 = .ok (.irem, 1) := by decide +kernel
theorem dX2_putNumber_25 : decode cX2_putNumber 25 = .ok (.iadd, 1) := by decide +kernel
theorem dX2_putNumber_26 : decode cX2_putNumber 26 = .ok (.i2c, 1) := by decide +kernel
theorem dX2_putNumber_27 : decode cX2_putNumber 27 = .ok (.invokevirtual 23, 3) := by decide +kernel
theorem dX2_putNumber_30 : decode cX2_putNumber 30 = .ok (.return_, 1) := by decide +kernel
theorem dX3_init_0 : decode cX3_init 0 = .ok (.aload_n 0, 1) := by decide +kernel
theorem dX3_init_1 : decode cX3_init 1 = .ok (.invokespecial 3, 3) := by decide +kernel
theorem dX3_init_4 : decode cX3_init 4 = .ok (.aload_n 0, 1) := by decide +kernel
theorem dX3_init_5 : decode cX3_init 5 = .ok (.bipush 16, 2) := by decide +kernel
theorem dX3_init_7 : decode cX3_init 7 = .ok (.newarray .int, 2) := by decide +kernel
theorem dX3_init_9 : decode cX3_init 9 = .ok (.putfield 9, 3) := by decide +kernel
theorem dX3_init_12 : decode cX3_init 12 = .ok (.aload_n 0, 1) := by decide +kernel
theorem dX3_init_13 : decode cX3_init 13 = .ok (.bipush 16, 2) := by decide +kernel
theorem dX3_init_15 : decode cX3_init 15 = .ok (.newarray .int, 2) := by decide +kernel
theorem dX3_init_17 : decode cX3_init 17 = .ok (.putfield 15, 3) := by decide +kernel
theorem dX3_init_20 : decode cX3_init 20 = .ok (.aload_n 0, 1) := by decide +kernel
theorem dX3_init_21 : decode cX3_init 21 = .ok (.bipush 16, 2) := by decide +kernel
theorem dX3_init_23 : decode cX3_init 23 = .ok (.newarray .int, 2) := by decide +kernel
theorem dX3_init_25 : decode cX3_init 25 = .ok (.putfield 18, 3) := by decide +kernel
theorem dX3_init_28 : decode cX3_init 28 = .ok (.aload_n 0, 1) := by decide +kernel
theorem dX3_init_29 : decode cX3_init 29 = .ok (.bipush 16, 2) := by decide +kernel
theorem dX3_init_31 : decode cX3_init 31 = .ok (.newarray .int, 2) := by decide +kernel
theorem dX3_init_33 : decode cX3_init 33 = .ok (.putfield 21, 3) := by decide +kernel
theorem dX3_init_36 : decode cX3_init 36 = .ok (.aload_n 0, 1) := by decide +kernel
theorem dX3_init_37 : decode cX3_init 37 = .ok (.iconst 0, 1) := by decide +kernel
theorem dX3_init_38 : decode cX3_init 38 = .ok (.putfield 24, 3) := by decide +kernel
theorem dX3_init_41 : decode cX3_init 41 = .ok (.return_, 1) := by decide +kernel
theorem dX3_copyFrom_0 : decode cX3_copyFrom 0 = .ok (.aload_n 1, 1) := by decide +kernel
theorem dX3_copyFrom_1 : decode cX3_copyFrom 1 = .ok (.getfield 9, 3) := by decide +kernel
theorem dX3_copyFrom_4 : decode cX3_copyFrom 4 = .ok (.iconst 0, 1) := by decide +kernel
theorem dX3_copyFrom_5 : decode cX3_copyFrom 5 = .ok (.aload_n 0, 1) := by decide +kernel
theorem dX3_copyFrom_6 : decode cX3_copyFrom 6 = .ok (.getfield 9, 3) := by decide +kernel
theorem dX3_copyFrom_9 : decode cX3_copyFrom 9 = .ok (.iconst 0, 1) := by decide +kernel
theorem dX3_copyFrom_10 : decode cX3_copyFrom 10 = .ok (.bipush 16, 2) := by decide +kernel
theorem dX3_copyFrom_12 : decode cX3_copyFrom 12 = .ok (.invokestatic 28, 3) := by decide +kernel
theorem dX3_copyFrom_15 : decode cX3_copyFrom 15 = .ok (.aload_n 1, 1) := by decide +kernel
theorem dX3_copyFrom_16 : decode cX3_copyFrom 16 = .ok (.getfield 15, 3) := by decide +kernel
theorem dX3_copyFrom_19 : decode cX3_copyFrom 19 = .ok (.iconst 0, 1) := by decide +kernel
theorem dX3_copyFrom_20 : decode cX3_copyFrom 20 = .ok (.aload_n 0, 1) := by decide +kernel
theorem dX3_copyFrom_21 : decode cX3_copyFrom 21 = .ok (.getfield 15, 3) := by decide +kernel
theorem dX3_copyFrom_24 : decode cX3_copyFrom 24 = .ok (.iconst 0, 1) := by decide +kernel
theorem dX3_copyFrom_25 : decode cX3_copyFrom 25 = .ok (.bipush 16, 2) := by decide +kernel
theorem dX3_copyFrom_27 : decode cX3_copyFrom 27 = .ok (.invokestatic 28, 3) := by decide +kernel
theorem dX3_copyFrom_30 : decode cX3_copyFrom 30 = .ok (.aload_n 1, 1) := by decide +kernel
theorem dX3_copyFrom_31 : decode cX3_copyFrom 31 = .ok (.getfield 18, 3) := by decide +kernel
theorem dX3_copyFrom_34 : decode cX3_copyFrom 34 = .ok (.iconst 0, 1) := by decide +kernel
theorem dX3_copyFrom_35 : decode cX3_copyFrom 35 = .ok (.aload_n 0, 1) := by decide +kernel
theorem dX3_copyFrom_36 : decode cX3_copyFrom 36 = .ok (.getfield 18, 3) := by decide +kernel
theorem dX3_copyFrom_39 : decode cX3_copyFrom 39 = .ok (.iconst 0, 1) := by decide +kernel
theorem dX3_copyFrom_40 : decode cX3_copyFrom 40 = .ok (.bipush 16, 2) := by decide +kernel
theorem dX3_copyFrom_42 : decode cX3_copyFrom 42 = .ok (.invokestatic 28, 3) := by decide +kernel
theorem dX3_copyFrom_45 : decode cX3_copyFrom 45 = .ok (.aload_n 1, 1) := by decide +kernel
theorem dX3_copyFrom_46 : decode cX3_copyFrom 46 = .ok (.getfield 21, 3) := by decide +kernel
theorem dX3_copyFrom_49 : decode cX3_copyFrom 49 = .ok (.iconst 0, 1) := by decide +kernel
theorem dX3_copyFrom_50 : decode cX3_copyFrom 50 = .ok (.aload_n 0, 1) := by decide +kernel
theorem dX3_copyFrom_51 : decode cX3_copyFrom 51 = .ok (.getfield 21, 3) := by decide +kernel
theorem dX3_copyFrom_54 : decode cX3_copyFrom 54 = .ok (.iconst 0, 1) := by decide +kernel
theorem dX3_copyFrom_55 : decode cX3_copyFrom 55 = .ok (.bipush 16, 2) := by decide +kernel
theorem dX3_copyFrom_57 : decode cX3_copyFrom 57 = .ok (.invokestatic 28, 3) := by decide +kernel
theorem dX3_copyFrom_60 : decode cX3_copyFrom 60 = .ok (.aload_n 0, 1) := by decide +kernel
theorem dX3_copyFrom_61 : decode cX3_copyFrom 61 = .ok (.aload_n 1, 1) := by decide +kernel
theorem dX3_copyFrom_62 : decode cX3_copyFrom 62 = .ok (.getfield 24, 3) := by decide +kernel
theorem dX3_copyFrom_65 : decode cX3_copyFrom 65 = .ok (.putfield 24, 3) := by decide +kernel
theorem dX3_copyFrom_68 : decode cX3_copyFrom 68 = .ok (.return_, 1) := by decide +kernel
theorem dX3_has_0 : decode cX3_has 0 = .ok (.iload_n 1, 1) := by decide +kernel
theorem dX3_has_1 : decode cX3_has 1 = .ok (.ifCond .lt 21, 3) := by decide +kernel
theorem dX3_has_4 : decode cX3_has 4 = .ok (.iload_n 1, 1) := by decide +kernel
theorem dX3_has_5 : decode cX3_has 5 = .ok (.aload_n 0, 1) := by decide +kernel
theorem dX3_has_6 : decode cX3_has 6 = .ok (.getfield 24, 3) := by decide +kernel
theorem dX3_has_9 : decode cX3_has 9 = .ok (.if_icmp .ge 13, 3) := by decide +kernel
theorem dX3_has_12 : decode cX3_has 12 = .ok (.iload_n 1, 1) := by decide +kernel
theorem dX3_has_13 : decode cX3_has 13 = .ok (.bipush 16, 2) := by decide +kernel
theorem dX3_has_15 : decode cX3_has 15 = .ok (.if_icmp .ge 7, 3) := by decide +kernel
theorem dX3_has_18 : decode cX3_has 18 = .ok (.iconst 1, 1) := by decide +kernel
theorem dX3_has_19 : decode cX3_has 19 = .ok (.goto 4, 3) := by decide +kernel
theorem dX3_has_22 : decode cX3_has 22 = .ok (.iconst 0, 1) := by decide +kernel
theorem dX3_has_23 : decode cX3_has 23 = .ok (.ireturn, 1) := by decide +kernel
theorem dX3_nameAt_0 : decode cX3_nameAt 0 = .ok (.aload_n 0, 1) := by decide +kernel
theorem dX3_nameAt_1 : decode cX3_nameAt 1 = .ok (.iload_n 1, 1) := by decide +kernel
theorem dX3_nameAt_2 : decode cX3_nameAt 2 = .ok (.invokevirtual 34, 3) := by decide +kernel
theorem dX3_nameAt_5 : decode cX3_nameAt 5 = .ok (.ifCond .eq 12, 3) := by decide +kernel
theorem dX3_nameAt_8 : decode cX3_nameAt 8 = .ok (.aload_n 0, 1) := by decide +kernel
theorem dX3_nameAt_9 : decode cX3_nameAt 9 = .ok (.getfield 9, 3) := by decide +kernel
theorem dX3_nameAt_12 : decode cX3_nameAt 12 = .ok (.iload_n 1, 1) := by decide +kernel
theorem dX3_nameAt_13 : decode cX3_nameAt 13 = .ok (.iaload, 1) := by decide +kernel
theorem dX3_nameAt_14 : decode cX3_nameAt 14 = .ok (.goto 4, 3) := by decide +kernel
theorem dX3_nameAt_17 : decode cX3_nameAt 17 = .ok (.iconst (-1), 1) := by decide +kernel
theorem dX3_nameAt_18 : decode cX3_nameAt 18 = .ok (.ireturn, 1) := by decide +kernel
theorem dX3_amountAt_0 : decode cX3_amountAt 0 = .ok (.aload_n 0, 1) := by decide +kernel
theorem dX3_amountAt_1 : decode cX3_amountAt 1 = .ok (.iload_n 1, 1) := by decide +kernel
theorem dX3_amountAt_2 : decode cX3_amountAt 2 = .ok (.invokevirtual 34, 3) := by decide +kernel
theorem dX3_amountAt_5 : decode cX3_amountAt 5 = .ok (.ifCond .eq 12, 3) := by decide +kernel
theorem dX3_amountAt_8 : decode cX3_amountAt 8 = .ok (.aload_n 0, 1) := by decide +kernel
theorem dX3_amountAt_9 : decode cX3_amountAt 9 = .ok (.getfield 15, 3) := by decide +kernel
theorem dX3_amountAt_12 : decode cX3_amountAt 12 = .ok (.iload_n 1, 1) := by decide +kernel
theorem dX3_amountAt_13 : decode cX3_amountAt 13 = .ok (.iaload, 1) := by decide +kernel
theorem dX3_amountAt_14 : decode cX3_amountAt 14 = .ok (.goto 4, 3) := by decide +kernel
theorem dX3_amountAt_17 : decode cX3_amountAt 17 = .ok (.iconst 0, 1) := by decide +kernel
theorem dX3_amountAt_18 : decode cX3_amountAt 18 = .ok (.ireturn, 1) := by decide +kernel
theorem dX3_startAt_0 : decode cX3_startAt 0 = .ok (.aload_n 0, 1) := by decide +kernel
theorem dX3_startAt_1 : decode cX3_startAt 1 = .ok (.iload_n 1, 1) := by decide +kernel
theorem dX3_startAt_2 : decode cX3_startAt 2 = .ok (.invokevirtual 34, 3) := by decide +kernel
theorem dX3_startAt_5 : decode cX3_startAt 5 = .ok (.ifCond .eq 12, 3) := by decide +kernel
theorem dX3_startAt_8 : decode cX3_startAt 8 = .ok (.aload_n 0, 1) := by decide +kernel
theorem dX3_startAt_9 : decode cX3_startAt 9 = .ok (.getfield 18, 3) := by decide +kernel
theorem dX3_startAt_12 : decode cX3_startAt 12 = .ok (.iload_n 1, 1) := by decide +kernel
theorem dX3_startAt_13 : decode cX3_startAt 13 = .ok (.iaload, 1) := by decide +kernel
theorem dX3_startAt_14 : decode cX3_startAt 14 = .ok (.goto 4, 3) := by decide +kernel
theorem dX3_startAt_17 : decode cX3_startAt 17 = .ok (.iconst (-1), 1) := by decide +kernel
theorem dX3_startAt_18 : decode cX3_startAt 18 = .ok (.ireturn, 1) := by decide +kernel
theorem dX3_sizeAt_0 : decode cX3_sizeAt 0 = .ok (.aload_n 0, 1) := by decide +kernel
theorem dX3_sizeAt_1 : decode cX3_sizeAt 1 = .ok (.iload_n 1, 1) := by decide +kernel
theorem dX3_sizeAt_2 : decode cX3_sizeAt 2 = .ok (.invokevirtual 34, 3) := by decide +kernel
theorem dX3_sizeAt_5 : decode cX3_sizeAt 5 = .ok (.ifCond .eq 12, 3) := by decide +kernel
theorem dX3_sizeAt_8 : decode cX3_sizeAt 8 = .ok (.aload_n 0, 1) := by decide +kernel
theorem dX3_sizeAt_9 : decode cX3_sizeAt 9 = .ok (.getfield 21, 3) := by decide +kernel
theorem dX3_sizeAt_12 : decode cX3_sizeAt 12 = .ok (.iload_n 1, 1) := by decide +kernel
theorem dX3_sizeAt_13 : decode cX3_sizeAt 13 = .ok (.iaload, 1) := by decide +kernel
theorem dX3_sizeAt_14 : decode cX3_sizeAt 14 = .ok (.goto 4, 3) := by decide +kernel
theorem dX3_sizeAt_17 : decode cX3_sizeAt 17 = .ok (.iconst 0, 1) := by decide +kernel
theorem dX3_sizeAt_18 : decode cX3_sizeAt 18 = .ok (.ireturn, 1) := by decide +kernel
theorem dX3_add_0 : decode cX3_add 0 = .ok (.iload_n 3, 1) := by decide +kernel
theorem dX3_add_1 : decode cX3_add 1 = .ok (.ifCond .lt 19, 3) := by decide +kernel
theorem dX3_add_4 : decode cX3_add 4 = .ok (.aload_n 0, 1) := by decide +kernel
theorem dX3_add_5 : decode cX3_add 5 = .ok (.getfield 24, 3) := by decide +kernel
theorem dX3_add_8 : decode cX3_add 8 = .ok (.ifCond .lt 12, 3) := by decide +kernel
theorem dX3_add_11 : decode cX3_add 11 = .ok (.aload_n 0, 1) := by decide +kernel
theorem dX3_add_12 : decode cX3_add 12 = .ok (.getfield 24, 3) := by decide +kernel
theorem dX3_add_15 : decode cX3_add 15 = .ok (.bipush 16, 2) := by decide +kernel
theorem dX3_add_17 : decode cX3_add 17 = .ok (.if_icmp .lt 5, 3) := by decide +kernel
theorem dX3_add_20 : decode cX3_add 20 = .ok (.iconst (-1), 1) := by decide +kernel
theorem dX3_add_21 : decode cX3_add 21 = .ok (.ireturn, 1) := by decide +kernel
theorem dX3_add_22 : decode cX3_add 22 = .ok (.aload_n 0, 1) := by decide +kernel
theorem dX3_add_23 : decode cX3_add 23 = .ok (.getfield 9, 3) := by decide +kernel
theorem dX3_add_26 : decode cX3_add 26 = .ok (.aload_n 0, 1) := by decide +kernel
theorem dX3_add_27 : decode cX3_add 27 = .ok (.getfield 24, 3) := by decide +kernel
theorem dX3_add_30 : decode cX3_add 30 = .ok (.iload_n 1, 1) := by decide +kernel
theorem dX3_add_31 : decode cX3_add 31 = .ok (.iastore, 1) := by decide +kernel
theorem dX3_add_32 : decode cX3_add 32 = .ok (.aload_n 0, 1) := by decide +kernel
theorem dX3_add_33 : decode cX3_add 33 = .ok (.dup, 1) := by decide +kernel
theorem dX3_add_34 : decode cX3_add 34 = .ok (.getfield 24, 3) := by decide +kernel
theorem dX3_add_37 : decode cX3_add 37 = .ok (.iconst 1, 1) := by decide +kernel
theorem dX3_add_38 : decode cX3_add 38 = .ok (.iadd, 1) := by decide +kernel
theorem dX3_add_39 : decode cX3_add 39 = .ok (.putfield 24, 3) := by decide +kernel
theorem dX3_add_42 : decode cX3_add 42 = .ok (.aload_n 0, 1) := by decide +kernel
theorem dX3_add_43 : decode cX3_add 43 = .ok (.aload_n 0, 1) := by decide +kernel
theorem dX3_add_44 : decode cX3_add 44 = .ok (.getfield 24, 3) := by decide +kernel
theorem dX3_add_47 : decode cX3_add 47 = .ok (.iconst 1, 1) := by decide +kernel
theorem dX3_add_48 : decode cX3_add 48 = .ok (.isub, 1) := by decide +kernel
theorem dX3_add_49 : decode cX3_add 49 = .ok (.iload_n 2, 1) := by decide +kernel
theorem dX3_add_50 : decode cX3_add 50 = .ok (.iload_n 3, 1) := by decide +kernel
theorem dX3_add_51 : decode cX3_add 51 = .ok (.iload 4, 2) := by decide +kernel
theorem dX3_add_53 : decode cX3_add 53 = .ok (.invokevirtual 38, 3) := by decide +kernel
theorem dX3_add_56 : decode cX3_add 56 = .ok (.aload_n 0, 1) := by decide +kernel
theorem dX3_add_57 : decode cX3_add 57 = .ok (.getfield 24, 3) := by decide +kernel
theorem dX3_add_60 : decode cX3_add 60 = .ok (.iconst 1, 1) := by decide +kernel
theorem dX3_add_61 : decode cX3_add 61 = .ok (.isub, 1) := by decide +kernel
theorem dX3_add_62 : decode cX3_add 62 = .ok (.ireturn, 1) := by decide +kernel
theorem dX3_put_0 : decode cX3_put 0 = .ok (.aload_n 0, 1) := by decide +kernel
theorem dX3_put_1 : decode cX3_put 1 = .ok (.iload_n 1, 1) := by decide +kernel
theorem dX3_put_2 : decode cX3_put 2 = .ok (.invokevirtual 34, 3) := by decide +kernel
theorem dX3_put_5 : decode cX3_put 5 = .ok (.ifCond .eq 25, 3) := by decide +kernel
theorem dX3_put_8 : decode cX3_put 8 = .ok (.aload_n 0, 1) := by decide +kernel
theorem dX3_put_9 : decode cX3_put 9 = .ok (.getfield 15, 3) := by decide +kernel
theorem dX3_put_12 : decode cX3_put 12 = .ok (.iload_n 1, 1) := by decide +kernel
theorem dX3_put_13 : decode cX3_put 13 = .ok (.iload_n 2, 1) := by decide +kernel
theorem dX3_put_14 : decode cX3_put 14 = .ok (.iastore, 1) := by decide +kernel
theorem dX3_put_15 : decode cX3_put 15 = .ok (.aload_n 0, 1) := by decide +kernel
theorem dX3_put_16 : decode cX3_put 16 = .ok (.getfield 18, 3) := by decide +kernel
theorem dX3_put_19 : decode cX3_put 19 = .ok (.iload_n 1, 1) := by decide +kernel
theorem dX3_put_20 : decode cX3_put 20 = .ok (.iload_n 3, 1) := by decide +kernel
theorem dX3_put_21 : decode cX3_put 21 = .ok (.iastore, 1) := by decide +kernel
theorem dX3_put_22 : decode cX3_put 22 = .ok (.aload_n 0, 1) := by decide +kernel
theorem dX3_put_23 : decode cX3_put 23 = .ok (.getfield 21, 3) := by decide +kernel
theorem dX3_put_26 : decode cX3_put 26 = .ok (.iload_n 1, 1) := by decide +kernel
theorem dX3_put_27 : decode cX3_put 27 = .ok (.iload 4, 2) := by decide +kernel
theorem dX3_put_29 : decode cX3_put 29 = .ok (.iastore, 1) := by decide +kernel
theorem dX3_put_30 : decode cX3_put 30 = .ok (.return_, 1) := by decide +kernel
theorem dX3_remove_0 : decode cX3_remove 0 = .ok (.aload_n 0, 1) := by decide +kernel
theorem dX3_remove_1 : decode cX3_remove 1 = .ok (.iload_n 1, 1) := by decide +kernel
theorem dX3_remove_2 : decode cX3_remove 2 = .ok (.invokevirtual 34, 3) := by decide +kernel
theorem dX3_remove_5 : decode cX3_remove 5 = .ok (.ifCond .ne 4, 3) := by decide +kernel
theorem dX3_remove_8 : decode cX3_remove 8 = .ok (.return_, 1) := by decide +kernel
theorem dX3_remove_9 : decode cX3_remove 9 = .ok (.iload_n 1, 1) := by decide +kernel
theorem dX3_remove_10 : decode cX3_remove 10 = .ok (.istore_n 2, 1) := by decide +kernel
theorem dX3_remove_11 : decode cX3_remove 11 = .ok (.iload_n 2, 1) := by decide +kernel
theorem dX3_remove_12 : decode cX3_remove 12 = .ok (.aload_n 0, 1) := by decide +kernel
theorem dX3_remove_13 : decode cX3_remove 13 = .ok (.getfield 24, 3) := by decide +kernel
theorem dX3_remove_16 : decode cX3_remove 16 = .ok (.iconst 1, 1) := by decide +kernel
theorem dX3_remove_17 : decode cX3_remove 17 = .ok (.isub, 1) := by decide +kernel
theorem dX3_remove_18 : decode cX3_remove 18 = .ok (.if_icmp .ge 71, 3) := by decide +kernel
theorem dX3_remove_21 : decode cX3_remove 21 = .ok (.iload_n 2, 1) := by decide +kernel
theorem dX3_remove_22 : decode cX3_remove 22 = .ok (.bipush 15, 2) := by decide +kernel
theorem dX3_remove_24 : decode cX3_remove 24 = .ok (.if_icmp .ge 65, 3) := by decide +kernel
theorem dX3_remove_27 : decode cX3_remove 27 = .ok (.aload_n 0, 1) := by decide +kernel
theorem dX3_remove_28 : decode cX3_remove 28 = .ok (.getfield 9, 3) := by decide +kernel
theorem dX3_remove_31 : decode cX3_remove 31 = .ok (.iload_n 2, 1) := by decide +kernel
theorem dX3_remove_32 : decode cX3_remove 32 = .ok (.aload_n 0, 1) := by decide +kernel
theorem dX3_remove_33 : decode cX3_remove 33 = .ok (.getfield 9, 3) := by decide +kernel
theorem dX3_remove_36 : decode cX3_remove 36 = .ok (.iload_n 2, 1) := by decide +kernel
theorem dX3_remove_37 : decode cX3_remove 37 = .ok (.iconst 1, 1) := by decide +kernel
theorem dX3_remove_38 : decode cX3_remove 38 = .ok (.iadd, 1) := by decide +kernel
theorem dX3_remove_39 : decode cX3_remove 39 = .ok (.iaload, 1) := by decide +kernel
theorem dX3_remove_40 : decode cX3_remove 40 = .ok (.iastore, 1) := by decide +kernel
theorem dX3_remove_41 : decode cX3_remove 41 = .ok (.aload_n 0, 1) := by decide +kernel
theorem dX3_remove_42 : decode cX3_remove 42 = .ok (.getfield 15, 3) := by decide +kernel
theorem dX3_remove_45 : decode cX3_remove 45 = .ok (.iload_n 2, 1) := by decide +kernel
theorem dX3_remove_46 : decode cX3_remove 46 = .ok (.aload_n 0, 1) := by decide +kernel
theorem dX3_remove_47 : decode cX3_remove 47 = .ok (.getfield 15, 3) := by decide +kernel
theorem dX3_remove_50 : decode cX3_remove 50 = .ok (.iload_n 2, 1) := by decide +kernel
theorem dX3_remove_51 : decode cX3_remove 51 = .ok (.iconst 1, 1) := by decide +kernel
theorem dX3_remove_52 : decode cX3_remove 52 = .ok (.iadd, 1) := by decide +kernel
theorem dX3_remove_53 : decode cX3_remove 53 = .ok (.iaload, 1) := by decide +kernel
theorem dX3_remove_54 : decode cX3_remove 54 = .ok (.iastore, 1) := by decide +kernel
theorem dX3_remove_55 : decode cX3_remove 55 = .ok (.aload_n 0, 1) := by decide +kernel
theorem dX3_remove_56 : decode cX3_remove 56 = .ok (.getfield 18, 3) := by decide +kernel
theorem dX3_remove_59 : decode cX3_remove 59 = .ok (.iload_n 2, 1) := by decide +kernel
theorem dX3_remove_60 : decode cX3_remove 60 = .ok (.aload_n 0, 1) := by decide +kernel
theorem dX3_remove_61 : decode cX3_remove 61 = .ok (.getfield 18, 3) := by decide +kernel
theorem dX3_remove_64 : decode cX3_remove 64 = .ok (.iload_n 2, 1) := by decide +kernel
theorem dX3_remove_65 : decode cX3_remove 65 = .ok (.iconst 1, 1) := by decide +kernel
theorem dX3_remove_66 : decode cX3_remove 66 = .ok (.iadd, 1) := by decide +kernel
theorem dX3_remove_67 : decode cX3_remove 67 = .ok (.iaload, 1) := by decide +kernel
theorem dX3_remove_68 : decode cX3_remove 68 = .ok (.iastore, 1) := by decide +kernel
theorem dX3_remove_69 : decode cX3_remove 69 = .ok (.aload_n 0, 1) := by decide +kernel
theorem dX3_remove_70 : decode cX3_remove 70 = .ok (.getfield 21, 3) := by decide +kernel
theorem dX3_remove_73 : decode cX3_remove 73 = .ok (.iload_n 2, 1) := by decide +kernel
theorem dX3_remove_74 : decode cX3_remove 74 = .ok (.aload_n 0, 1) := by decide +kernel
theorem dX3_remove_75 : decode cX3_remove 75 = .ok (.getfield 21, 3) := by decide +kernel
theorem dX3_remove_78 : decode cX3_remove 78 = .ok (.iload_n 2, 1) := by decide +kernel
theorem dX3_remove_79 : decode cX3_remove 79 = .ok (.iconst 1, 1) := by decide +kernel
theorem dX3_remove_80 : decode cX3_remove 80 = .ok (.iadd, 1) := by decide +kernel
theorem dX3_remove_81 : decode cX3_remove 81 = .ok (.iaload, 1) := by decide +kernel
theorem dX3_remove_82 : decode cX3_remove 82 = .ok (.iastore, 1) := by decide +kernel
theorem dX3_remove_83 : decode cX3_remove 83 = .ok (.iinc 2 1, 3) := by decide +kernel
theorem dX3_remove_86 : decode cX3_remove 86 = .ok (.goto (-75), 3) := by decide +kernel
theorem dX3_remove_89 : decode cX3_remove 89 = .ok (.aload_n 0, 1) := by decide +kernel
theorem dX3_remove_90 : decode cX3_remove 90 = .ok (.dup, 1) := by decide +kernel
theorem dX3_remove_91 : decode cX3_remove 91 = .ok (.getfield 24, 3) := by decide +kernel
theorem dX3_remove_94 : decode cX3_remove 94 = .ok (.iconst 1, 1) := by decide +kernel
theorem dX3_remove_95 : decode cX3_remove 95 = .ok (.isub, 1) := by decide +kernel
theorem dX3_remove_96 : decode cX3_remove 96 = .ok (.putfield 24, 3) := by decide +kernel
theorem dX3_remove_99 : decode cX3_remove 99 = .ok (.return_, 1) := by decide +kernel
theorem dX3_countOf_0 : decode cX3_countOf 0 = .ok (.iconst 0, 1) := by decide +kernel
theorem dX3_countOf_1 : decode cX3_countOf 1 = .ok (.istore_n 2, 1) := by decide +kernel
theorem dX3_countOf_2 : decode cX3_countOf 2 = .ok (.iconst 0, 1) := by decide +kernel
theorem dX3_countOf_3 : decode cX3_countOf 3 = .ok (.istore_n 3, 1) := by decide +kernel
theorem dX3_countOf_4 : decode cX3_countOf 4 = .ok (.iload_n 3, 1) := by decide +kernel
theorem dX3_countOf_5 : decode cX3_countOf 5 = .ok (.aload_n 0, 1) := by decide +kernel
theorem dX3_countOf_6 : decode cX3_countOf 6 = .ok (.getfield 24, 3) := by decide +kernel
theorem dX3_countOf_9 : decode cX3_countOf 9 = .ok (.if_icmp .ge 21, 3) := by decide +kernel
theorem dX3_countOf_12 : decode cX3_countOf 12 = .ok (.aload_n 0, 1) := by decide +kernel
theorem dX3_countOf_13 : decode cX3_countOf 13 = .ok (.iload_n 3, 1) := by decide +kernel
theorem dX3_countOf_14 : decode cX3_countOf 14 = .ok (.invokevirtual 42, 3) := by decide +kernel
theorem dX3_countOf_17 : decode cX3_countOf 17 = .ok (.iload_n 1, 1) := by decide +kernel
theorem dX3_countOf_18 : decode cX3_countOf 18 = .ok (.if_icmp .ne 6, 3) := by decide +kernel
theorem dX3_countOf_21 : decode cX3_countOf 21 = .ok (.iinc 2 1, 3) := by decide +kernel
theorem dX3_countOf_24 : decode cX3_countOf 24 = .ok (.iinc 3 1, 3) := by decide +kernel
theorem dX3_countOf_27 : decode cX3_countOf 27 = .ok (.goto (-23), 3) := by decide +kernel
theorem dX3_countOf_30 : decode cX3_countOf 30 = .ok (.iload_n 2, 1) := by decide +kernel
theorem dX3_countOf_31 : decode cX3_countOf 31 = .ok (.ireturn, 1) := by decide +kernel
theorem dX3_amountsOf_0 : decode cX3_amountsOf 0 = .ok (.iconst 0, 1) := by decide +kernel
theorem dX3_amountsOf_1 : decode cX3_amountsOf 1 = .ok (.istore_n 2, 1) := by decide +kernel
theorem dX3_amountsOf_2 : decode cX3_amountsOf 2 = .ok (.iconst 0, 1) := by decide +kernel
theorem dX3_amountsOf_3 : decode cX3_amountsOf 3 = .ok (.istore_n 3, 1) := by decide +kernel
theorem dX3_amountsOf_4 : decode cX3_amountsOf 4 = .ok (.iload_n 3, 1) := by decide +kernel
theorem dX3_amountsOf_5 : decode cX3_amountsOf 5 = .ok (.aload_n 0, 1) := by decide +kernel
theorem dX3_amountsOf_6 : decode cX3_amountsOf 6 = .ok (.getfield 24, 3) := by decide +kernel
theorem dX3_amountsOf_9 : decode cX3_amountsOf 9 = .ok (.if_icmp .ge 26, 3) := by decide +kernel
theorem dX3_amountsOf_12 : decode cX3_amountsOf 12 = .ok (.aload_n 0, 1) := by decide +kernel
theorem dX3_amountsOf_13 : decode cX3_amountsOf 13 = .ok (.iload_n 3, 1) := by decide +kernel
theorem dX3_amountsOf_14 : decode cX3_amountsOf 14 = .ok (.invokevirtual 42, 3) := by decide +kernel
theorem dX3_amountsOf_17 : decode cX3_amountsOf 17 = .ok (.iload_n 1, 1) := by decide +kernel
theorem dX3_amountsOf_18 : decode cX3_amountsOf 18 = .ok (.if_icmp .ne 11, 3) := by decide +kernel
theorem dX3_amountsOf_21 : decode cX3_amountsOf 21 = .ok (.iload_n 2, 1) := by decide +kernel
theorem dX3_amountsOf_22 : decode cX3_amountsOf 22 = .ok (.aload_n 0, 1) := by decide +kernel
theorem dX3_amountsOf_23 : decode cX3_amountsOf 23 = .ok (.iload_n 3, 1) := by decide +kernel
theorem dX3_amountsOf_24 : decode cX3_amountsOf 24 = .ok (.invokevirtual 46, 3) := by decide +kernel
theorem dX3_amountsOf_27 : decode cX3_amountsOf 27 = .ok (.iadd, 1) := by decide +kernel
theorem dX3_amountsOf_28 : decode cX3_amountsOf 28 = .ok (.istore_n 2, 1) := by decide +kernel
theorem dX3_amountsOf_29 : decode cX3_amountsOf 29 = .ok (.iinc 3 1, 3) := by decide +kernel
theorem dX3_amountsOf_32 : decode cX3_amountsOf 32 = .ok (.goto (-28), 3) := by decide +kernel
theorem dX3_amountsOf_35 : decode cX3_amountsOf 35 = .ok (.iload_n 2, 1) := by decide +kernel
theorem dX3_amountsOf_36 : decode cX3_amountsOf 36 = .ok (.ireturn, 1) := by decide +kernel
theorem dX3_sizesOf_0 : decode cX3_sizesOf 0 = .ok (.iconst 0, 1) := by decide +kernel
theorem dX3_sizesOf_1 : decode cX3_sizesOf 1 = .ok (.istore_n 2, 1) := by decide +kernel
theorem dX3_sizesOf_2 : decode cX3_sizesOf 2 = .ok (.iconst 0, 1) := by decide +kernel
theorem dX3_sizesOf_3 : decode cX3_sizesOf 3 = .ok (.istore_n 3, 1) := by decide +kernel
theorem dX3_sizesOf_4 : decode cX3_sizesOf 4 = .ok (.iload_n 3, 1) := by decide +kernel
theorem dX3_sizesOf_5 : decode cX3_sizesOf 5 = .ok (.aload_n 0, 1) := by decide +kernel
theorem dX3_sizesOf_6 : decode cX3_sizesOf 6 = .ok (.getfield 24, 3) := by decide +kernel
theorem dX3_sizesOf_9 : decode cX3_sizesOf 9 = .ok (.if_icmp .ge 26, 3) := by decide +kernel
theorem dX3_sizesOf_12 : decode cX3_sizesOf 12 = .ok (.aload_n 0, 1) := by decide +kernel
theorem dX3_sizesOf_13 : decode cX3_sizesOf 13 = .ok (.iload_n 3, 1) := by decide +kernel
theorem dX3_sizesOf_14 : decode cX3_sizesOf 14 = .ok (.invokevirtual 42, 3) := by decide +kernel
theorem dX3_sizesOf_17 : decode cX3_sizesOf 17 = .ok (.iload_n 1, 1) := by decide +kernel
theorem dX3_sizesOf_18 : decode cX3_sizesOf 18 = .ok (.if_icmp .ne 11, 3) := by decide +kernel
theorem dX3_sizesOf_21 : decode cX3_sizesOf 21 = .ok (.iload_n 2, 1) := by decide +kernel
theorem dX3_sizesOf_22 : decode cX3_sizesOf 22 = .ok (.aload_n 0, 1) := by decide +kernel
theorem dX3_sizesOf_23 : decode cX3_sizesOf 23 = .ok (.iload_n 3, 1) := by decide +kernel
theorem dX3_sizesOf_24 : decode cX3_sizesOf 24 = .ok (.invokevirtual 49, 3) := by decide +kernel
theorem dX3_sizesOf_27 : decode cX3_sizesOf 27 = .ok (.iadd, 1) := by decide +kernel
theorem dX3_sizesOf_28 : decode cX3_sizesOf 28 = .ok (.istore_n 2, 1) := by decide +kernel
theorem dX3_sizesOf_29 : decode cX3_sizesOf 29 = .ok (.iinc 3 1, 3) := by decide +kernel
theorem dX3_sizesOf_32 : decode cX3_sizesOf 32 = .ok (.goto (-28), 3) := by decide +kernel
theorem dX3_sizesOf_35 : decode cX3_sizesOf 35 = .ok (.iload_n 2, 1) := by decide +kernel
theorem dX3_sizesOf_36 : decode cX3_sizesOf 36 = .ok (.ireturn, 1) := by decide +kernel
theorem dX3_allAmounts_0 : decode cX3_allAmounts 0 = .ok (.iconst 0, 1) := by decide +kernel
theorem dX3_allAmounts_1 : decode cX3_allAmounts 1 = .ok (.istore_n 1, 1) := by decide +kernel
theorem dX3_allAmounts_2 : decode cX3_allAmounts 2 = .ok (.iconst 0, 1) := by decide +kernel
theorem dX3_allAmounts_3 : decode cX3_allAmounts 3 = .ok (.istore_n 2, 1) := by decide +kernel
theorem dX3_allAmounts_4 : decode cX3_allAmounts 4 = .ok (.iload_n 2, 1) := by decide +kernel
theorem dX3_allAmounts_5 : decode cX3_allAmounts 5 = .ok (.aload_n 0, 1) := by decide +kernel
theorem dX3_allAmounts_6 : decode cX3_allAmounts 6 = .ok (.getfield 24, 3) := by decide +kernel
theorem dX3_allAmounts_9 : decode cX3_allAmounts 9 = .ok (.if_icmp .ge 17, 3) := by decide +kernel
theorem dX3_allAmounts_12 : decode cX3_allAmounts 12 = .ok (.iload_n 1, 1) := by decide +kernel
theorem dX3_allAmounts_13 : decode cX3_allAmounts 13 = .ok (.aload_n 0, 1) := by decide +kernel
theorem dX3_allAmounts_14 : decode cX3_allAmounts 14 = .ok (.iload_n 2, 1) := by decide +kernel
theorem dX3_allAmounts_15 : decode cX3_allAmounts 15 = .ok (.invokevirtual 46, 3) := by decide +kernel
theorem dX3_allAmounts_18 : decode cX3_allAmounts 18 = .ok (.iadd, 1) := by decide +kernel
theorem dX3_allAmounts_19 : decode cX3_allAmounts 19 = .ok (.istore_n 1, 1) := by decide +kernel
theorem dX3_allAmounts_20 : decode cX3_allAmounts 20 = .ok (.iinc 2 1, 3) := by decide +kernel
theorem dX3_allAmounts_23 : decode cX3_allAmounts 23 = .ok (.goto (-19), 3) := by decide +kernel
theorem dX3_allAmounts_26 : decode cX3_allAmounts 26 = .ok (.iload_n 1, 1) := by decide +kernel
theorem dX3_allAmounts_27 : decode cX3_allAmounts 27 = .ok (.ireturn, 1) := by decide +kernel
theorem dX3_allSizes_0 : decode cX3_allSizes 0 = .ok (.iconst 0, 1) := by decide +kernel
theorem dX3_allSizes_1 : decode cX3_allSizes 1 = .ok (.istore_n 1, 1) := by decide +kernel
theorem dX3_allSizes_2 : decode cX3_allSizes 2 = .ok (.iconst 0, 1) := by decide +kernel
theorem dX3_allSizes_3 : decode cX3_allSizes 3 = .ok (.istore_n 2, 1) := by decide +kernel
theorem dX3_allSizes_4 : decode cX3_allSizes 4 = .ok (.iload_n 2, 1) := by decide +kernel
theorem dX3_allSizes_5 : decode cX3_allSizes 5 = .ok (.aload_n 0, 1) := by decide +kernel
theorem dX3_allSizes_6 : decode cX3_allSizes 6 = .ok (.getfield 24, 3) := by decide +kernel
theorem dX3_allSizes_9 : decode cX3_allSizes 9 = .ok (.if_icmp .ge 17, 3) := by decide +kernel
theorem dX3_allSizes_12 : decode cX3_allSizes 12 = .ok (.iload_n 1, 1) := by decide +kernel
theorem dX3_allSizes_13 : decode cX3_allSizes 13 = .ok (.aload_n 0, 1) := by decide +kernel
theorem dX3_allSizes_14 : decode cX3_allSizes 14 = .ok (.iload_n 2, 1) := by decide +kernel
theorem dX3_allSizes_15 : decode cX3_allSizes 15 = .ok (.invokevirtual 49, 3) := by decide +kernel
theorem dX3_allSizes_18 : decode cX3_allSizes 18 = .ok (.iadd, 1) := by decide +kernel
theorem dX3_allSizes_19 : decode cX3_allSizes 19 = .ok (.istore_n 1, 1) := by decide +kernel
theorem dX3_allSizes_20 : decode cX3_allSizes 20 = .ok (.iinc 2 1, 3) := by decide +kernel
theorem dX3_allSizes_23 : decode cX3_allSizes 23 = .ok (.goto (-19), 3) := by decide +kernel
theorem dX3_allSizes_26 : decode cX3_allSizes 26 = .ok (.iload_n 1, 1) := by decide +kernel
theorem dX3_allSizes_27 : decode cX3_allSizes 27 = .ok (.ireturn, 1) := by decide +kernel
theorem dX3_holderOf_0 : decode cX3_holderOf 0 = .ok (.iconst 0, 1) := by decide +kernel
theorem dX3_holderOf_1 : decode cX3_holderOf 1 = .ok (.istore_n 2, 1) := by decide +kernel
theorem dX3_holderOf_2 : decode cX3_holderOf 2 = .ok (.iload_n 2, 1) := by decide +kernel
theorem dX3_holderOf_3 : decode cX3_holderOf 3 = .ok (.aload_n 0, 1) := by decide +kernel
theorem dX3_holderOf_4 : decode cX3_holderOf 4 = .ok (.getfield 24, 3) := by decide +kernel
theorem dX3_holderOf_7 : decode cX3_holderOf 7 = .ok (.if_icmp .ge 21, 3) := by decide +kernel
theorem dX3_holderOf_10 : decode cX3_holderOf 10 = .ok (.aload_n 0, 1) := by decide +kernel
theorem dX3_holderOf_11 : decode cX3_holderOf 11 = .ok (.iload_n 2, 1) := by decide +kernel
theorem dX3_holderOf_12 : decode cX3_holderOf 12 = .ok (.iload_n 1, 1) := by decide +kernel
theorem dX3_holderOf_13 : decode cX3_holderOf 13 = .ok (.iconst 1, 1) := by decide +kernel
theorem dX3_holderOf_14 : decode cX3_holderOf 14 = .ok (.invokevirtual 52, 3) := by decide +kernel
theorem dX3_holderOf_17 : decode cX3_holderOf 17 = .ok (.ifCond .eq 5, 3) := by decide +kernel
theorem dX3_holderOf_20 : decode cX3_holderOf 20 = .ok (.iload_n 2, 1) := by decide +kernel
theorem dX3_holderOf_21 : decode cX3_holderOf 21 = .ok (.ireturn, 1) := by decide +kernel
theorem dX3_holderOf_22 : decode cX3_holderOf 22 = .ok (.iinc 2 1, 3) := by decide +kernel
theorem dX3_holderOf_25 : decode cX3_holderOf 25 = .ok (.goto (-23), 3) := by decide +kernel
theorem dX3_holderOf_28 : decode cX3_holderOf 28 = .ok (.iconst (-1), 1) := by decide +kernel
theorem dX3_holderOf_29 : decode cX3_holderOf 29 = .ok (.ireturn, 1) := by decide +kernel
theorem dX3_countIn_0 : decode cX3_countIn 0 = .ok (.iconst 0, 1) := by decide +kernel
theorem dX3_countIn_1 : decode cX3_countIn 1 = .ok (.istore_n 3, 1) := by decide +kernel
theorem dX3_countIn_2 : decode cX3_countIn 2 = .ok (.iconst 0, 1) := by decide +kernel
theorem dX3_countIn_3 : decode cX3_countIn 3 = .ok (.istore 4, 2) := by decide +kernel
theorem dX3_countIn_5 : decode cX3_countIn 5 = .ok (.iload 4, 2) := by decide +kernel
theorem dX3_countIn_7 : decode cX3_countIn 7 = .ok (.aload_n 0, 1) := by decide +kernel
theorem dX3_countIn_8 : decode cX3_countIn 8 = .ok (.getfield 24, 3) := by decide +kernel
theorem dX3_countIn_11 : decode cX3_countIn 11 = .ok (.if_icmp .ge 23, 3) := by decide +kernel
theorem dX3_countIn_14 : decode cX3_countIn 14 = .ok (.aload_n 0, 1) := by decide +kernel
theorem dX3_countIn_15 : decode cX3_countIn 15 = .ok (.iload 4, 2) := by decide +kernel
theorem dX3_countIn_17 : decode cX3_countIn 17 = .ok (.iload_n 1, 1) := by decide +kernel
theorem dX3_countIn_18 : decode cX3_countIn 18 = .ok (.iload_n 2, 1) := by decide +kernel
theorem dX3_countIn_19 : decode cX3_countIn 19 = .ok (.invokevirtual 52, 3) := by decide +kernel
theorem dX3_countIn_22 : decode cX3_countIn 22 = .ok (.ifCond .eq 6, 3) := by decide +kernel
theorem dX3_countIn_25 : decode cX3_countIn 25 = .ok (.iinc 3 1, 3) := by decide +kernel
theorem dX3_countIn_28 : decode cX3_countIn 28 = .ok (.iinc 4 1, 3) := by decide +kernel
theorem dX3_countIn_31 : decode cX3_countIn 31 = .ok (.goto (-26), 3) := by decide +kernel
theorem dX3_countIn_34 : decode cX3_countIn 34 = .ok (.iload_n 3, 1) := by decide +kernel
theorem dX3_countIn_35 : decode cX3_countIn 35 = .ok (.ireturn, 1) := by decide +kernel
theorem dX3_isIn_0 : decode cX3_isIn 0 = .ok (.aload_n 0, 1) := by decide +kernel
theorem dX3_isIn_1 : decode cX3_isIn 1 = .ok (.iload_n 1, 1) := by decide +kernel
theorem dX3_isIn_2 : decode cX3_isIn 2 = .ok (.invokevirtual 34, 3) := by decide +kernel
theorem dX3_isIn_5 : decode cX3_isIn 5 = .ok (.ifCond .eq 36, 3) := by decide +kernel
theorem dX3_isIn_8 : decode cX3_isIn 8 = .ok (.aload_n 0, 1) := by decide +kernel
theorem dX3_isIn_9 : decode cX3_isIn 9 = .ok (.getfield 18, 3) := by decide +kernel
theorem dX3_isIn_12 : decode cX3_isIn 12 = .ok (.iload_n 1, 1) := by decide +kernel
theorem dX3_isIn_13 : decode cX3_isIn 13 = .ok (.iaload, 1) := by decide +kernel
theorem dX3_isIn_14 : decode cX3_isIn 14 = .ok (.iload_n 2, 1) := by decide +kernel
theorem dX3_isIn_15 : decode cX3_isIn 15 = .ok (.iload_n 3, 1) := by decide +kernel
theorem dX3_isIn_16 : decode cX3_isIn 16 = .ok (.iadd, 1) := by decide +kernel
theorem dX3_isIn_17 : decode cX3_isIn 17 = .ok (.if_icmp .ge 24, 3) := by decide +kernel
theorem dX3_isIn_20 : decode cX3_isIn 20 = .ok (.iload_n 2, 1) := by decide +kernel
theorem dX3_isIn_21 : decode cX3_isIn 21 = .ok (.aload_n 0, 1) := by decide +kernel
theorem dX3_isIn_22 : decode cX3_isIn 22 = .ok (.getfield 18, 3) := by decide +kernel
theorem dX3_isIn_25 : decode cX3_isIn 25 = .ok (.iload_n 1, 1) := by decide +kernel
theorem dX3_isIn_26 : decode cX3_isIn 26 = .ok (.iaload, 1) := by decide +kernel
theorem dX3_isIn_27 : decode cX3_isIn 27 = .ok (.aload_n 0, 1) := by decide +kernel
theorem dX3_isIn_28 : decode cX3_isIn 28 = .ok (.getfield 21, 3) := by decide +kernel
theorem dX3_isIn_31 : decode cX3_isIn 31 = .ok (.iload_n 1, 1) := by decide +kernel
theorem dX3_isIn_32 : decode cX3_isIn 32 = .ok (.iaload, 1) := by decide +kernel
theorem dX3_isIn_33 : decode cX3_isIn 33 = .ok (.iadd, 1) := by decide +kernel
theorem dX3_isIn_34 : decode cX3_isIn 34 = .ok (.if_icmp .ge 7, 3) := by decide +kernel
theorem dX3_isIn_37 : decode cX3_isIn 37 = .ok (.iconst 1, 1) := by decide +kernel
theorem dX3_isIn_38 : decode cX3_isIn 38 = .ok (.goto 4, 3) := by decide +kernel
theorem dX3_isIn_41 : decode cX3_isIn 41 = .ok (.iconst 0, 1) := by decide +kernel
theorem dX3_isIn_42 : decode cX3_isIn 42 = .ok (.ireturn, 1) := by decide +kernel
theorem dX3_fewestInPart_0 : decode cX3_fewestInPart 0 = .ok (.aload_n 0, 1) := by decide +kernel
theorem dX3_fewestInPart_1 : decode cX3_fewestInPart 1 = .ok (.getfield 24, 3) := by decide +kernel
theorem dX3_fewestInPart_4 : decode cX3_fewestInPart 4 = .ok (.istore_n 2, 1) := by decide +kernel
theorem dX3_fewestInPart_5 : decode cX3_fewestInPart 5 = .ok (.iconst 0, 1) := by decide +kernel
theorem dX3_fewestInPart_6 : decode cX3_fewestInPart 6 = .ok (.istore_n 3, 1) := by decide +kernel
theorem dX3_fewestInPart_7 : decode cX3_fewestInPart 7 = .ok (.iload_n 1, 1) := by decide +kernel
theorem dX3_fewestInPart_8 : decode cX3_fewestInPart 8 = .ok (.iconst 1, 1) := by decide +kernel
theorem dX3_fewestInPart_9 : decode cX3_fewestInPart 9 = .ok (.if_icmp .lt 27, 3) := by decide +kernel
theorem dX3_fewestInPart_12 : decode cX3_fewestInPart 12 = .ok (.iload_n 3, 1) := by decide +kernel
theorem dX3_fewestInPart_13 : decode cX3_fewestInPart 13 = .ok (.bipush 64, 2) := by decide +kernel
theorem dX3_fewestInPart_15 : decode cX3_fewestInPart 15 = .ok (.if_icmp .ge 21, 3) := by decide +kernel
theorem dX3_fewestInPart_18 : decode cX3_fewestInPart 18 = .ok (.iload_n 2, 1) := by decide +kernel
theorem dX3_fewestInPart_19 : decode cX3_fewestInPart 19 = .ok (.aload_n 0, 1) := by decide +kernel
theorem dX3_fewestInPart_20 : decode cX3_fewestInPart 20 = .ok (.iload_n 3, 1) := by decide +kernel
theorem dX3_fewestInPart_21 : decode cX3_fewestInPart 21 = .ok (.iload_n 1, 1) := by decide +kernel
theorem dX3_fewestInPart_22 : decode cX3_fewestInPart 22 = .ok (.invokevirtual 56, 3) := by decide +kernel
theorem dX3_fewestInPart_25 : decode cX3_fewestInPart 25 = .ok (.invokestatic 60, 3) := by decide +kernel
theorem dX3_fewestInPart_28 : decode cX3_fewestInPart 28 = .ok (.istore_n 2, 1) := by decide +kernel
theorem dX3_fewestInPart_29 : decode cX3_fewestInPart 29 = .ok (.iload_n 3, 1) := by decide +kernel
theorem dX3_fewestInPart_30 : decode cX3_fewestInPart 30 = .ok (.iload_n 1, 1) := by decide +kernel
theorem dX3_fewestInPart_31 : decode cX3_fewestInPart 31 = .ok (.iadd, 1) := by decide +kernel
theorem dX3_fewestInPart_32 : decode cX3_fewestInPart 32 = .ok (.istore_n 3, 1) := by decide +kernel
theorem dX3_fewestInPart_33 : decode cX3_fewestInPart 33 = .ok (.goto (-26), 3) := by decide +kernel
theorem dX3_fewestInPart_36 : decode cX3_fewestInPart 36 = .ok (.iload_n 2, 1) := by decide +kernel
theorem dX3_fewestInPart_37 : decode cX3_fewestInPart 37 = .ok (.ireturn, 1) := by decide +kernel
theorem dX3_nameOfRank_0 : decode cX3_nameOfRank 0 = .ok (.iconst 0, 1) := by decide +kernel
theorem dX3_nameOfRank_1 : decode cX3_nameOfRank 1 = .ok (.istore_n 2, 1) := by decide +kernel
theorem dX3_nameOfRank_2 : decode cX3_nameOfRank 2 = .ok (.iload_n 2, 1) := by decide +kernel
theorem dX3_nameOfRank_3 : decode cX3_nameOfRank 3 = .ok (.aload_n 0, 1) := by decide +kernel
theorem dX3_nameOfRank_4 : decode cX3_nameOfRank 4 = .ok (.getfield 24, 3) := by decide +kernel
theorem dX3_nameOfRank_7 : decode cX3_nameOfRank 7 = .ok (.if_icmp .ge 28, 3) := by decide +kernel
theorem dX3_nameOfRank_10 : decode cX3_nameOfRank 10 = .ok (.aload_n 0, 1) := by decide +kernel
theorem dX3_nameOfRank_11 : decode cX3_nameOfRank 11 = .ok (.aload_n 0, 1) := by decide +kernel
theorem dX3_nameOfRank_12 : decode cX3_nameOfRank 12 = .ok (.iload_n 2, 1) := by decide +kernel
theorem dX3_nameOfRank_13 : decode cX3_nameOfRank 13 = .ok (.invokevirtual 42, 3) := by decide +kernel
theorem dX3_nameOfRank_16 : decode cX3_nameOfRank 16 = .ok (.invokevirtual 65, 3) := by decide +kernel
theorem dX3_nameOfRank_19 : decode cX3_nameOfRank 19 = .ok (.iload_n 1, 1) := by decide +kernel
theorem dX3_nameOfRank_20 : decode cX3_nameOfRank 20 = .ok (.if_icmp .ne 9, 3) := by decide +kernel
theorem dX3_nameOfRank_23 : decode cX3_nameOfRank 23 = .ok (.aload_n 0, 1) := by decide +kernel
theorem dX3_nameOfRank_24 : decode cX3_nameOfRank 24 = .ok (.iload_n 2, 1) := by decide +kernel
theorem dX3_nameOfRank_25 : decode cX3_nameOfRank 25 = .ok (.invokevirtual 42, 3) := by decide +kernel
theorem dX3_nameOfRank_28 : decode cX3_nameOfRank 28 = .ok (.ireturn, 1) := by decide +kernel
theorem dX3_nameOfRank_29 : decode cX3_nameOfRank 29 = .ok (.iinc 2 1, 3) := by decide +kernel
theorem dX3_nameOfRank_32 : decode cX3_nameOfRank 32 = .ok (.goto (-30), 3) := by decide +kernel
theorem dX3_nameOfRank_35 : decode cX3_nameOfRank 35 = .ok (.iconst (-1), 1) := by decide +kernel
theorem dX3_nameOfRank_36 : decode cX3_nameOfRank 36 = .ok (.ireturn, 1) := by decide +kernel
theorem dX3_countAhead_0 : decode cX3_countAhead 0 = .ok (.aload_n 0, 1) := by decide +kernel
theorem dX3_countAhead_1 : decode cX3_countAhead 1 = .ok (.iload_n 1, 1) := by decide +kernel
theorem dX3_countAhead_2 : decode cX3_countAhead 2 = .ok (.invokevirtual 68, 3) := by decide +kernel
theorem dX3_countAhead_5 : decode cX3_countAhead 5 = .ok (.istore_n 2, 1) := by decide +kernel
theorem dX3_countAhead_6 : decode cX3_countAhead 6 = .ok (.iconst 0, 1) := by decide +kernel
theorem dX3_countAhead_7 : decode cX3_countAhead 7 = .ok (.istore_n 3, 1) := by decide +kernel
theorem dX3_countAhead_8 : decode cX3_countAhead 8 = .ok (.iconst 0, 1) := by decide +kernel
theorem dX3_countAhead_9 : decode cX3_countAhead 9 = .ok (.istore 4, 2) := by decide +kernel
theorem dX3_countAhead_11 : decode cX3_countAhead 11 = .ok (.iload 4, 2) := by decide +kernel
theorem dX3_countAhead_13 : decode cX3_countAhead 13 = .ok (.aload_n 0, 1) := by decide +kernel
theorem dX3_countAhead_14 : decode cX3_countAhead 14 = .ok (.getfield 24, 3) := by decide +kernel
theorem dX3_countAhead_17 : decode cX3_countAhead 17 = .ok (.if_icmp .ge 55, 3) := by decide +kernel
theorem dX3_countAhead_20 : decode cX3_countAhead 20 = .ok (.aload_n 0, 1) := by decide +kernel
theorem dX3_countAhead_21 : decode cX3_countAhead 21 = .ok (.iload 4, 2) := by decide +kernel
theorem dX3_countAhead_23 : decode cX3_countAhead 23 = .ok (.invokevirtual 42, 3) := by decide +kernel
theorem dX3_countAhead_26 : decode cX3_countAhead 26 = .ok (.istore 5, 2) := by decide +kernel
theorem dX3_countAhead_28 : decode cX3_countAhead 28 = .ok (.aload_n 0, 1) := by decide +kernel
theorem dX3_countAhead_29 : decode cX3_countAhead 29 = .ok (.iload 5, 2) := by decide +kernel
theorem dX3_countAhead_31 : decode cX3_countAhead 31 = .ok (.invokevirtual 68, 3) := by decide +kernel
theorem dX3_countAhead_34 : decode cX3_countAhead 34 = .ok (.istore 6, 2) := by decide +kernel
theorem dX3_countAhead_36 : decode cX3_countAhead 36 = .ok (.aload_n 0, 1) := by decide +kernel
theorem dX3_countAhead_37 : decode cX3_countAhead 37 = .ok (.iload 4, 2) := by decide +kernel
theorem dX3_countAhead_39 : decode cX3_countAhead 39 = .ok (.invokevirtual 71, 3) := by decide +kernel
theorem dX3_countAhead_42 : decode cX3_countAhead 42 = .ok (.ifCond .eq 24, 3) := by decide +kernel
theorem dX3_countAhead_45 : decode cX3_countAhead 45 = .ok (.iload 6, 2) := by decide +kernel
theorem dX3_countAhead_47 : decode cX3_countAhead 47 = .ok (.iload_n 2, 1) := by decide +kernel
theorem dX3_countAhead_48 : decode cX3_countAhead 48 = .ok (.if_icmp .gt 15, 3) := by decide +kernel
theorem dX3_countAhead_51 : decode cX3_countAhead 51 = .ok (.iload 6, 2) := by decide +kernel
theorem dX3_countAhead_53 : decode cX3_countAhead 53 = .ok (.iload_n 2, 1) := by decide +kernel
theorem dX3_countAhead_54 : decode cX3_countAhead 54 = .ok (.if_icmp .ne 12, 3) := by decide +kernel
theorem dX3_countAhead_57 : decode cX3_countAhead 57 = .ok (.iload 5, 2) := by decide +kernel
theorem dX3_countAhead_59 : decode cX3_countAhead 59 = .ok (.iload_n 1, 1) := by decide +kernel
theorem dX3_countAhead_60 : decode cX3_countAhead 60 = .ok (.if_icmp .ge 6, 3) := by decide +kernel
theorem dX3_countAhead_63 : decode cX3_countAhead 63 = .ok (.iinc 3 1, 3) := by decide +kernel
theorem dX3_countAhead_66 : decode cX3_countAhead 66 = .ok (.iinc 4 1, 3) := by decide +kernel
theorem dX3_countAhead_69 : decode cX3_countAhead 69 = .ok (.goto (-58), 3) := by decide +kernel
theorem dX3_countAhead_72 : decode cX3_countAhead 72 = .ok (.iload_n 3, 1) := by decide +kernel
theorem dX3_countAhead_73 : decode cX3_countAhead 73 = .ok (.ireturn, 1) := by decide +kernel
theorem dX3_isFirstOfName_0 : decode cX3_isFirstOfName 0 = .ok (.iconst 0, 1) := by decide +kernel
theorem dX3_isFirstOfName_1 : decode cX3_isFirstOfName 1 = .ok (.istore_n 2, 1) := by decide +kernel
theorem dX3_isFirstOfName_2 : decode cX3_isFirstOfName 2 = .ok (.iload_n 2, 1) := by decide +kernel
theorem dX3_isFirstOfName_3 : decode cX3_isFirstOfName 3 = .ok (.iload_n 1, 1) := by decide +kernel
theorem dX3_isFirstOfName_4 : decode cX3_isFirstOfName 4 = .ok (.if_icmp .ge 24, 3) := by decide +kernel
theorem dX3_isFirstOfName_7 : decode cX3_isFirstOfName 7 = .ok (.aload_n 0, 1) := by decide +kernel
theorem dX3_isFirstOfName_8 : decode cX3_isFirstOfName 8 = .ok (.iload_n 2, 1) := by decide +kernel
theorem dX3_isFirstOfName_9 : decode cX3_isFirstOfName 9 = .ok (.invokevirtual 42, 3) := by decide +kernel
theorem dX3_isFirstOfName_12 : decode cX3_isFirstOfName 12 = .ok (.aload_n 0, 1) := by decide +kernel
theorem dX3_isFirstOfName_13 : decode cX3_isFirstOfName 13 = .ok (.iload_n 1, 1) := by decide +kernel
theorem dX3_isFirstOfName_14 : decode cX3_isFirstOfName 14 = .ok (.invokevirtual 42, 3) := by decide +kernel
theorem dX3_isFirstOfName_17 : decode cX3_isFirstOfName 17 = .ok (.if_icmp .ne 5, 3) := by decide +kernel
theorem dX3_isFirstOfName_20 : decode cX3_isFirstOfName 20 = .ok (.iconst 0, 1) := by decide +kernel
theorem dX3_isFirstOfName_21 : decode cX3_isFirstOfName 21 = .ok (.ireturn, 1) := by decide +kernel
theorem dX3_isFirstOfName_22 : decode cX3_isFirstOfName 22 = .ok (.iinc 2 1, 3) := by decide +kernel
theorem dX3_isFirstOfName_25 : decode cX3_isFirstOfName 25 = .ok (.goto (-23), 3) := by decide +kernel
theorem dX3_isFirstOfName_28 : decode cX3_isFirstOfName 28 = .ok (.iconst 1, 1) := by decide +kernel
theorem dX3_isFirstOfName_29 : decode cX3_isFirstOfName 29 = .ok (.ireturn, 1) := by decide +kernel
theorem dX3_isEachNeedMet_0 : decode cX3_isEachNeedMet 0 = .ok (.iconst 0, 1) := by decide +kernel
theorem dX3_isEachNeedMet_1 : decode cX3_isEachNeedMet 1 = .ok (.istore_n 1, 1) := by decide +kernel
theorem dX3_isEachNeedMet_2 : decode cX3_isEachNeedMet 2 = .ok (.iload_n 1, 1) := by decide +kernel
theorem dX3_isEachNeedMet_3 : decode cX3_isEachNeedMet 3 = .ok (.aload_n 0, 1) := by decide +kernel
theorem dX3_isEachNeedMet_4 : decode cX3_isEachNeedMet 4 = .ok (.getfield 24, 3) := by decide +kernel
theorem dX3_isEachNeedMet_7 : decode cX3_isEachNeedMet 7 = .ok (.if_icmp .ge 39, 3) := by decide +kernel
theorem dX3_isEachNeedMet_10 : decode cX3_isEachNeedMet 10 = .ok (.aload_n 0, 1) := by decide +kernel
theorem dX3_isEachNeedMet_11 : decode cX3_isEachNeedMet 11 = .ok (.iload_n 1, 1) := by decide +kernel
theorem dX3_isEachNeedMet_12 : decode cX3_isEachNeedMet 12 = .ok (.invokevirtual 49, 3) := by decide +kernel
theorem dX3_isEachNeedMet_15 : decode cX3_isEachNeedMet 15 = .ok (.aload_n 0, 1) := by decide +kernel
theorem dX3_isEachNeedMet_16 : decode cX3_isEachNeedMet 16 = .ok (.iload_n 1, 1) := by decide +kernel
theorem dX3_isEachNeedMet_17 : decode cX3_isEachNeedMet 17 = .ok (.invokevirtual 46, 3) := by decide +kernel
theorem dX3_isEachNeedMet_20 : decode cX3_isEachNeedMet 20 = .ok (.if_icmp .lt 18, 3) := by decide +kernel
theorem dX3_isEachNeedMet_23 : decode cX3_isEachNeedMet 23 = .ok (.aload_n 0, 1) := by decide +kernel
theorem dX3_isEachNeedMet_24 : decode cX3_isEachNeedMet 24 = .ok (.iload_n 1, 1) := by decide +kernel
theorem dX3_isEachNeedMet_25 : decode cX3_isEachNeedMet 25 = .ok (.invokevirtual 49, 3) := by decide +kernel
theorem dX3_isEachNeedMet_28 : decode cX3_isEachNeedMet 28 = .ok (.iconst 2, 1) := by decide +kernel
theorem dX3_isEachNeedMet_29 : decode cX3_isEachNeedMet 29 = .ok (.idiv, 1) := by decide +kernel
theorem dX3_isEachNeedMet_30 : decode cX3_isEachNeedMet 30 = .ok (.aload_n 0, 1) := by decide +kernel
theorem dX3_isEachNeedMet_31 : decode cX3_isEachNeedMet 31 = .ok (.iload_n 1, 1) := by decide +kernel
theorem dX3_isEachNeedMet_32 : decode cX3_isEachNeedMet 32 = .ok (.invokevirtual 46, 3) := by decide +kernel
theorem dX3_isEachNeedMet_35 : decode cX3_isEachNeedMet 35 = .ok (.if_icmp .lt 5, 3) := by decide +kernel
theorem dX3_isEachNeedMet_38 : decode cX3_isEachNeedMet 38 = .ok (.iconst 0, 1) := by decide +kernel
theorem dX3_isEachNeedMet_39 : decode cX3_isEachNeedMet 39 = .ok (.ireturn, 1) := by decide +kernel
theorem dX3_isEachNeedMet_40 : decode cX3_isEachNeedMet 40 = .ok (.iinc 1 1, 3) := by decide +kernel
theorem dX3_isEachNeedMet_43 : decode cX3_isEachNeedMet 43 = .ok (.goto (-41), 3) := by decide +kernel
theorem dX3_isEachNeedMet_46 : decode cX3_isEachNeedMet 46 = .ok (.iconst 1, 1) := by decide +kernel
theorem dX3_isEachNeedMet_47 : decode cX3_isEachNeedMet 47 = .ok (.ireturn, 1) := by decide +kernel
theorem dX4_init_0 : decode cX4_init 0 = .ok (.aload_n 0, 1) := by decide +kernel
theorem dX4_init_1 : decode cX4_init 1 = .ok (.invokespecial 3, 3) := by decide +kernel
theorem dX4_init_4 : decode cX4_init 4 = .ok (.aload_n 0, 1) := by decide +kernel
theorem dX4_init_5 : decode cX4_init 5 = .ok (.bipush 20, 2) := by decide +kernel
theorem dX4_init_7 : decode cX4_init 7 = .ok (.newarray .int, 2) := by decide +kernel
theorem dX4_init_9 : decode cX4_init 9 = .ok (.putfield 9, 3) := by decide +kernel
theorem dX4_init_12 : decode cX4_init 12 = .ok (.aload_n 0, 1) := by decide +kernel
theorem dX4_init_13 : decode cX4_init 13 = .ok (.bipush 20, 2) := by decide +kernel
theorem dX4_init_15 : decode cX4_init 15 = .ok (.newarray .int, 2) := by decide +kernel
theorem dX4_init_17 : decode cX4_init 17 = .ok (.putfield 15, 3) := by decide +kernel
theorem dX4_init_20 : decode cX4_init 20 = .ok (.aload_n 0, 1) := by decide +kernel
theorem dX4_init_21 : decode cX4_init 21 = .ok (.bipush 20, 2) := by decide +kernel
theorem dX4_init_23 : decode cX4_init 23 = .ok (.newarray .int, 2) := by decide +kernel
theorem dX4_init_25 : decode cX4_init 25 = .ok (.putfield 18, 3) := by decide +kernel
theorem dX4_init_28 : decode cX4_init 28 = .ok (.aload_n 0, 1) := by decide +kernel
theorem dX4_init_29 : decode cX4_init 29 = .ok (.iconst 0, 1) := by decide +kernel
theorem dX4_init_30 : decode cX4_init 30 = .ok (.putfield 21, 3) := by decide +kernel
theorem dX4_init_33 : decode cX4_init 33 = .ok (.aload_n 0, 1) := by decide +kernel
theorem dX4_init_34 : decode cX4_init 34 = .ok (.bipush 60, 2) := by decide +kernel
theorem dX4_init_36 : decode cX4_init 36 = .ok (.newarray .char, 2) := by decide +kernel
theorem dX4_init_38 : decode cX4_init 38 = .ok (.putfield 25, 3) := by decide +kernel
theorem dX4_init_41 : decode cX4_init 41 = .ok (.aload_n 0, 1) := by decide +kernel
theorem dX4_init_42 : decode cX4_init 42 = .ok (.iconst 0, 1) := by decide +kernel
theorem dX4_init_43 : decode cX4_init 43 = .ok (.putfield 29, 3) := by decide +kernel
theorem dX4_init_46 : decode cX4_init 46 = .ok (.aload_n 0, 1) := by decide +kernel
theorem dX4_init_47 : decode cX4_init 47 = .ok (.iconst 0, 1) := by decide +kernel
theorem dX4_init_48 : decode cX4_init 48 = .ok (.putfield 32, 3) := by decide +kernel
theorem dX4_init_51 : decode cX4_init 51 = .ok (.aload_n 0, 1) := by decide +kernel
theorem dX4_init_52 : decode cX4_init 52 = .ok (.iconst 0, 1) := by decide +kernel
theorem dX4_init_53 : decode cX4_init 53 = .ok (.putfield 35, 3) := by decide +kernel
theorem dX4_init_56 : decode cX4_init 56 = .ok (.return_, 1) := by decide +kernel
theorem dX4_kindAt_0 : decode cX4_kindAt 0 = .ok (.aload_n 0, 1) := by decide +kernel
theorem dX4_kindAt_1 : decode cX4_kindAt 1 = .ok (.iload_n 1, 1) := by decide +kernel
theorem dX4_kindAt_2 : decode cX4_kindAt 2 = .ok (.invokevirtual 38, 3) := by decide +kernel
theorem dX4_kindAt_5 : decode cX4_kindAt 5 = .ok (.ifCond .eq 12, 3) := by decide +kernel
theorem dX4_kindAt_8 : decode cX4_kindAt 8 = .ok (.aload_n 0, 1) := by decide +kernel
theorem dX4_kindAt_9 : decode cX4_kindAt 9 = .ok (.getfield 9, 3) := by decide +kernel
theorem dX4_kindAt_12 : decode cX4_kindAt 12 = .ok (.iload_n 1, 1) := by decide +kernel
theorem dX4_kindAt_13 : decode cX4_kindAt 13 = .ok (.iaload, 1) := by decide +kernel
theorem dX4_kindAt_14 : decode cX4_kindAt 14 = .ok (.goto 4, 3) := by decide +kernel
theorem dX4_kindAt_17 : decode cX4_kindAt 17 = .ok (.iconst 0, 1) := by decide +kernel
theorem dX4_kindAt_18 : decode cX4_kindAt 18 = .ok (.ireturn, 1) := by decide +kernel
theorem dX4_firstAt_0 : decode cX4_firstAt 0 = .ok (.aload_n 0, 1) := by decide +kernel
theorem dX4_firstAt_1 : decode cX4_firstAt 1 = .ok (.iload_n 1, 1) := by decide +kernel
theorem dX4_firstAt_2 : decode cX4_firstAt 2 = .ok (.invokevirtual 38, 3) := by decide +kernel
theorem dX4_firstAt_5 : decode cX4_firstAt 5 = .ok (.ifCond .eq 12, 3) := by decide +kernel
theorem dX4_firstAt_8 : decode cX4_firstAt 8 = .ok (.aload_n 0, 1) := by decide +kernel
theorem dX4_firstAt_9 : decode cX4_firstAt 9 = .ok (.getfield 15, 3) := by decide +kernel
theorem dX4_firstAt_12 : decode cX4_firstAt 12 = .ok (.iload_n 1, 1) := by decide +kernel
theorem dX4_firstAt_13 : decode cX4_firstAt 13 = .ok (.iaload, 1) := by decide +kernel
theorem dX4_firstAt_14 : decode cX4_firstAt 14 = .ok (.goto 4, 3) := by decide +kernel
theorem dX4_firstAt_17 : decode cX4_firstAt 17 = .ok (.iconst 0, 1) := by decide +kernel
theorem dX4_firstAt_18 : decode cX4_firstAt 18 = .ok (.ireturn, 1) := by decide +kernel
theorem dX4_secondAt_0 : decode cX4_secondAt 0 = .ok (.aload_n 0, 1) := by decide +kernel
theorem dX4_secondAt_1 : decode cX4_secondAt 1 = .ok (.iload_n 1, 1) := by decide +kernel
theorem dX4_secondAt_2 : decode cX4_secondAt 2 = .ok (.invokevirtual 38, 3) := by decide +kernel
theorem dX4_secondAt_5 : decode cX4_secondAt 5 = .ok (.ifCond .eq 12, 3) := by decide +kernel
theorem dX4_secondAt_8 : decode cX4_secondAt 8 = .ok (.aload_n 0, 1) := by decide +kernel
theorem dX4_secondAt_9 : decode cX4_secondAt 9 = .ok (.getfield 18, 3) := by decide +kernel
theorem dX4_secondAt_12 : decode cX4_secondAt 12 = .ok (.iload_n 1, 1) := by decide +kernel
theorem dX4_secondAt_13 : decode cX4_secondAt 13 = .ok (.iaload, 1) := by decide +kernel
theorem dX4_secondAt_14 : decode cX4_secondAt 14 = .ok (.goto 4, 3) := by decide +kernel
theorem dX4_secondAt_17 : decode cX4_secondAt 17 = .ok (.iconst 0, 1) := by decide +kernel
theorem dX4_secondAt_18 : decode cX4_secondAt 18 = .ok (.ireturn, 1) := by decide +kernel
theorem dX4_has_0 : decode cX4_has 0 = .ok (.iload_n 1, 1) := by decide +kernel
theorem dX4_has_1 : decode cX4_has 1 = .ok (.ifCond .lt 21, 3) := by decide +kernel
theorem dX4_has_4 : decode cX4_has 4 = .ok (.iload_n 1, 1) := by decide +kernel
theorem dX4_has_5 : decode cX4_has 5 = .ok (.aload_n 0, 1) := by decide +kernel
theorem dX4_has_6 : decode cX4_has 6 = .ok (.getfield 21, 3) := by decide +kernel
theorem dX4_has_9 : decode cX4_has 9 = .ok (.if_icmp .ge 13, 3) := by decide +kernel
theorem dX4_has_12 : decode cX4_has 12 = .ok (.iload_n 1, 1) := by decide +kernel
theorem dX4_has_13 : decode cX4_has 13 = .ok (.bipush 20, 2) := by decide +kernel
theorem dX4_has_15 : decode cX4_has 15 = .ok (.if_icmp .ge 7, 3) := by decide +kernel
theorem dX4_has_18 : decode cX4_has 18 = .ok (.iconst 1, 1) := by decide +kernel
theorem dX4_has_19 : decode cX4_has 19 = .ok (.goto 4, 3) := by decide +kernel
theorem dX4_has_22 : decode cX4_has 22 = .ok (.iconst 0, 1) := by decide +kernel
theorem dX4_has_23 : decode cX4_has 23 = .ok (.ireturn, 1) := by decide +kernel
theorem dX4_isFull_0 : decode cX4_isFull 0 = .ok (.aload_n 0, 1) := by decide +kernel
theorem dX4_isFull_1 : decode cX4_isFull 1 = .ok (.getfield 29, 3) := by decide +kernel
theorem dX4_isFull_4 : decode cX4_isFull 4 = .ok (.bipush 60, 2) := by decide +kernel
theorem dX4_isFull_6 : decode cX4_isFull 6 = .ok (.if_icmp .lt 7, 3) := by decide +kernel
theorem dX4_isFull_9 : decode cX4_isFull 9 = .ok (.iconst 1, 1) := by decide +kernel
theorem dX4_isFull_10 : decode cX4_isFull 10 = .ok (.goto 4, 3) := by decide +kernel
theorem dX4_isFull_13 : decode cX4_isFull 13 = .ok (.iconst 0, 1) := by decide +kernel
theorem dX4_isFull_14 : decode cX4_isFull 14 = .ok (.ireturn, 1) := by decide +kernel
theorem dX4_addSign_0 : decode cX4_addSign 0 = .ok (.aload_n 0, 1) := by decide +kernel
theorem dX4_addSign_1 : decode cX4_addSign 1 = .ok (.getfield 29, 3) := by decide +kernel
theorem dX4_addSign_4 : decode cX4_addSign 4 = .ok (.ifCond .lt 32, 3) := by decide +kernel
theorem dX4_addSign_7 : decode cX4_addSign 7 = .ok (.aload_n 0, 1) := by decide +kernel
theorem dX4_addSign_8 : decode cX4_addSign 8 = .ok (.getfield 29, 3) := by decide +kernel
theorem dX4_addSign_11 : decode cX4_addSign 11 = .ok (.bipush 60, 2) := by decide +kernel
theorem dX4_addSign_13 : decode cX4_addSign 13 = .ok (.if_icmp .ge 23, 3) := by decide +kernel
theorem dX4_addSign_16 : decode cX4_addSign 16 = .ok (.aload_n 0, 1) := by decide +kernel
theorem dX4_addSign_17 : decode cX4_addSign 17 = .ok (.getfield 25, 3) := by decide +kernel
theorem dX4_addSign_20 : decode cX4_addSign 20 = .ok (.aload_n 0, 1) := by decide +kernel
theorem dX4_addSign_21 : decode cX4_addSign 21 = .ok (.getfield 29, 3) := by decide +kernel
theorem dX4_addSign_24 : decode cX4_addSign 24 = .ok (.iload_n 1, 1) := by decide +kernel
theorem dX4_addSign_25 : decode cX4_addSign 25 = .ok (.castore, 1) := by decide +kernel
theorem dX4_addSign_26 : decode cX4_addSign 26 = .ok (.aload_n 0, 1) := by decide +kernel
theorem dX4_addSign_27 : decode cX4_addSign 27 = .ok (.dup, 1) := by decide +kernel
theorem dX4_addSign_28 : decode cX4_addSign 28 = .ok (.getfield 29, 3) := by decide +kernel
theorem dX4_addSign_31 : decode cX4_addSign 31 = .ok (.iconst 1, 1) := by decide +kernel
theorem dX4_addSign_32 : decode cX4_addSign 32 = .ok (.iadd, 1) := by decide +kernel
theorem dX4_addSign_33 : decode cX4_addSign 33 = .ok (.putfield 29, 3) := by decide +kernel
theorem dX4_addSign_36 : decode cX4_addSign 36 = .ok (.return_, 1) := by decide +kernel
theorem dX4_clearText_0 : decode cX4_clearText 0 = .ok (.aload_n 0, 1) := by decide +kernel
theorem dX4_clearText_1 : decode cX4_clearText 1 = .ok (.iconst 0, 1) := by decide +kernel
theorem dX4_clearText_2 : decode cX4_clearText 2 = .ok (.putfield 29, 3) := by decide +kernel
theorem dX4_clearText_5 : decode cX4_clearText 5 = .ok (.return_, 1) := by decide +kernel
theorem dX4_read_0 : decode cX4_read 0 = .ok (.aload_n 0, 1) := by decide +kernel
theorem dX4_read_1 : decode cX4_read 1 = .ok (.iconst 0, 1) := by decide +kernel
theorem dX4_read_2 : decode cX4_read 2 = .ok (.putfield 32, 3) := by decide +kernel
theorem dX4_read_5 : decode cX4_read 5 = .ok (.aload_n 0, 1) := by decide +kernel
theorem dX4_read_6 : decode cX4_read 6 = .ok (.iconst 0, 1) := by decide +kernel
theorem dX4_read_7 : decode cX4_read 7 = .ok (.putfield 21, 3) := by decide +kernel
theorem dX4_read_10 : decode cX4_read 10 = .ok (.iconst 0, 1) := by decide +kernel
theorem dX4_read_11 : decode cX4_read 11 = .ok (.istore_n 1, 1) := by decide +kernel
theorem dX4_read_12 : decode cX4_read 12 = .ok (.iload_n 1, 1) := by decide +kernel
theorem dX4_read_13 : decode cX4_read 13 = .ok (.bipush 20, 2) := by decide +kernel
theorem dX4_read_15 : decode cX4_read 15 = .ok (.if_icmp .ge 56, 3) := by decide +kernel
theorem dX4_read_18 : decode cX4_read 18 = .ok (.aload_n 0, 1) := by decide +kernel
theorem dX4_read_19 : decode cX4_read 19 = .ok (.iload_n 1, 1) := by decide +kernel
theorem dX4_read_20 : decode cX4_read 20 = .ok (.invokevirtual 42, 3) := by decide +kernel
theorem dX4_read_23 : decode cX4_read 23 = .ok (.ifCond .ne 8, 3) := by decide +kernel
theorem dX4_read_26 : decode cX4_read 26 = .ok (.aload_n 0, 1) := by decide +kernel
theorem dX4_read_27 : decode cX4_read 27 = .ok (.getfield 32, 3) := by decide +kernel
theorem dX4_read_30 : decode cX4_read 30 = .ok (.ireturn, 1) := by decide +kernel
theorem dX4_read_31 : decode cX4_read 31 = .ok (.aload_n 0, 1) := by decide +kernel
theorem dX4_read_32 : decode cX4_read 32 = .ok (.iload_n 1, 1) := by decide +kernel
theorem dX4_read_33 : decode cX4_read 33 = .ok (.iconst 1, 1) := by decide +kernel
theorem dX4_read_34 : decode cX4_read 34 = .ok (.iadd, 1) := by decide +kernel
theorem dX4_read_35 : decode cX4_read 35 = .ok (.putfield 21, 3) := by decide +kernel
theorem dX4_read_38 : decode cX4_read 38 = .ok (.aload_n 0, 1) := by decide +kernel
theorem dX4_read_39 : decode cX4_read 39 = .ok (.getfield 32, 3) := by decide +kernel
theorem dX4_read_42 : decode cX4_read 42 = .ok (.aload_n 0, 1) := by decide +kernel
theorem dX4_read_43 : decode cX4_read 43 = .ok (.getfield 29, 3) := by decide +kernel
theorem dX4_read_46 : decode cX4_read 46 = .ok (.if_icmp .ne 5, 3) := by decide +kernel
theorem dX4_read_49 : decode cX4_read 49 = .ok (.iconst (-1), 1) := by decide +kernel
theorem dX4_read_50 : decode cX4_read 50 = .ok (.ireturn, 1) := by decide +kernel
theorem dX4_read_51 : decode cX4_read 51 = .ok (.aload_n 0, 1) := by decide +kernel
theorem dX4_read_52 : decode cX4_read 52 = .ok (.bipush 59, 2) := by decide +kernel
theorem dX4_read_54 : decode cX4_read 54 = .ok (.invokevirtual 45, 3) := by decide +kernel
theorem dX4_read_57 : decode cX4_read 57 = .ok (.ifCond .ne 8, 3) := by decide +kernel
theorem dX4_read_60 : decode cX4_read 60 = .ok (.aload_n 0, 1) := by decide +kernel
theorem dX4_read_61 : decode cX4_read 61 = .ok (.getfield 32, 3) := by decide +kernel
theorem dX4_read_64 : decode cX4_read 64 = .ok (.ireturn, 1) := by decide +kernel
theorem dX4_read_65 : decode cX4_read 65 = .ok (.iinc 1 1, 3) := by decide +kernel
theorem dX4_read_68 : decode cX4_read 68 = .ok (.goto (-56), 3) := by decide +kernel
theorem dX4_read_71 : decode cX4_read 71 = .ok (.aload_n 0, 1) := by decide +kernel
theorem dX4_read_72 : decode cX4_read 72 = .ok (.getfield 32, 3) := by decide +kernel
theorem dX4_read_75 : decode cX4_read 75 = .ok (.ireturn, 1) := by decide +kernel
theorem dX4_readOrder_0 : decode cX4_readOrder 0 = .ok (.aload_n 0, 1) := by decide +kernel
theorem dX4_readOrder_1 : decode cX4_readOrder 1 = .ok (.invokevirtual 48, 3) := by decide +kernel
theorem dX4_readOrder_4 : decode cX4_readOrder 4 = .ok (.istore_n 2, 1) := by decide +kernel
theorem dX4_readOrder_5 : decode cX4_readOrder 5 = .ok (.iload_n 2, 1) := by decide +kernel
theorem dX4_readOrder_6 : decode cX4_readOrder 6 = .ok (.invokestatic 52, 3) := by decide +kernel
theorem dX4_readOrder_9 : decode cX4_readOrder 9 = .ok (.ifCond .ne 5, 3) := by decide +kernel
theorem dX4_readOrder_12 : decode cX4_readOrder 12 = .ok (.iconst 0, 1) := by decide +kernel
theorem dX4_readOrder_13 : decode cX4_readOrder 13 = .ok (.ireturn, 1) := by decide +kernel
theorem dX4_readOrder_14 : decode cX4_readOrder 14 = .ok (.aload_n 0, 1) := by decide +kernel
theorem dX4_readOrder_15 : decode cX4_readOrder 15 = .ok (.dup, 1) := by decide +kernel
theorem dX4_readOrder_16 : decode cX4_readOrder 16 = .ok (.getfield 32, 3) := by decide +kernel
theorem dX4_readOrder_19 : decode cX4_readOrder 19 = .ok (.iconst 1, 1) := by decide +kernel
theorem dX4_readOrder_20 : decode cX4_readOrder 20 = .ok (.iadd, 1) := by decide +kernel
theorem dX4_readOrder_21 : decode cX4_readOrder 21 = .ok (.putfield 32, 3) := by decide +kernel
theorem dX4_readOrder_24 : decode cX4_readOrder 24 = .ok (.iload_n 2, 1) := by decide +kernel
theorem dX4_readOrder_25 : decode cX4_readOrder 25 = .ok (.bipush 119, 2) := by decide +kernel
theorem dX4_readOrder_27 : decode cX4_readOrder 27 = .ok (.if_icmp .ne 13, 3) := by decide +kernel
theorem dX4_readOrder_30 : decode cX4_readOrder 30 = .ok (.aload_n 0, 1) := by decide +kernel
theorem dX4_readOrder_31 : decode cX4_readOrder 31 = .ok (.invokevirtual 55, 3) := by decide +kernel
theorem dX4_readOrder_34 : decode cX4_readOrder 34 = .ok (.ifCond .ne 15, 3) := by decide +kernel
theorem dX4_readOrder_37 : decode cX4_readOrder 37 = .ok (.goto 10, 3) := by decide +kernel
theorem dX4_readOrder_40 : decode cX4_readOrder 40 = .ok (.aload_n 0, 1) := by decide +kernel
theorem dX4_readOrder_41 : decode cX4_readOrder 41 = .ok (.invokevirtual 59, 3) := by decide +kernel
theorem dX4_readOrder_44 : decode cX4_readOrder 44 = .ok (.ifCond .ne 5, 3) := by decide +kernel
theorem dX4_readOrder_47 : decode cX4_readOrder 47 = .ok (.iconst 0, 1) := by decide +kernel
theorem dX4_readOrder_48 : decode cX4_readOrder 48 = .ok (.ireturn, 1) := by decide +kernel
theorem dX4_readOrder_49 : decode cX4_readOrder 49 = .ok (.aload_n 0, 1) := by decide +kernel
theorem dX4_readOrder_50 : decode cX4_readOrder 50 = .ok (.getfield 35, 3) := by decide +kernel
theorem dX4_readOrder_53 : decode cX4_readOrder 53 = .ok (.istore_n 3, 1) := by decide +kernel
theorem dX4_readOrder_54 : decode cX4_readOrder 54 = .ok (.iconst 0, 1) := by decide +kernel
theorem dX4_readOrder_55 : decode cX4_readOrder 55 = .ok (.istore 4, 2) := by decide +kernel
theorem dX4_readOrder_57 : decode cX4_readOrder 57 = .ok (.iload_n 2, 1) := by decide +kernel
theorem dX4_readOrder_58 : decode cX4_readOrder 58 = .ok (.invokestatic 62, 3) := by decide +kernel
theorem dX4_readOrder_61 : decode cX4_readOrder 61 = .ok (.ifCond .eq 27, 3) := by decide +kernel
theorem dX4_readOrder_64 : decode cX4_readOrder 64 = .ok (.aload_n 0, 1) := by decide +kernel
theorem dX4_readOrder_65 : decode cX4_readOrder 65 = .ok (.bipush 58, 2) := by decide +kernel
theorem dX4_readOrder_67 : decode cX4_readOrder 67 = .ok (.invokevirtual 45, 3) := by decide +kernel
theorem dX4_readOrder_70 : decode cX4_readOrder 70 = .ok (.ifCond .eq 10, 3) := by decide +kernel
theorem dX4_readOrder_73 : decode cX4_readOrder 73 = .ok (.aload_n 0, 1) := by decide +kernel
theorem dX4_readOrder_74 : decode cX4_readOrder 74 = .ok (.invokevirtual 59, 3) := by decide +kernel
theorem dX4_readOrder_77 : decode cX4_readOrder 77 = .ok (.ifCond .ne 5, 3) := by decide +kernel
theorem dX4_readOrder_80 : decode cX4_readOrder 80 = .ok (.iconst 0, 1) := by decide +kernel
theorem dX4_readOrder_81 : decode cX4_readOrder 81 = .ok (.ireturn, 1) := by decide +kernel
theorem dX4_readOrder_82 : decode cX4_readOrder 82 = .ok (.aload_n 0, 1) := by decide +kernel
theorem dX4_readOrder_83 : decode cX4_readOrder 83 = .ok (.getfield 35, 3) := by decide +kernel
theorem dX4_readOrder_86 : decode cX4_readOrder 86 = .ok (.istore 4, 2) := by decide +kernel
theorem dX4_readOrder_88 : decode cX4_readOrder 88 = .ok (.aload_n 0, 1) := by decide +kernel
theorem dX4_readOrder_89 : decode cX4_readOrder 89 = .ok (.iload_n 1, 1) := by decide +kernel
theorem dX4_readOrder_90 : decode cX4_readOrder 90 = .ok (.iload_n 2, 1) := by decide +kernel
theorem dX4_readOrder_91 : decode cX4_readOrder 91 = .ok (.iload_n 3, 1) := by decide +kernel
theorem dX4_readOrder_92 : decode cX4_readOrder 92 = .ok (.iload 4, 2) := by decide +kernel
theorem dX4_readOrder_94 : decode cX4_readOrder 94 = .ok (.invokevirtual 65, 3) := by decide +kernel
theorem dX4_readOrder_97 : decode cX4_readOrder 97 = .ok (.iconst 1, 1) := by decide +kernel
theorem dX4_readOrder_98 : decode cX4_readOrder 98 = .ok (.ireturn, 1) := by decide +kernel
theorem dX4_isKind_0 : decode cX4_isKind 0 = .ok (.iload_n 0, 1) := by decide +kernel
theorem dX4_isKind_1 : decode cX4_isKind 1 = .ok (.invokestatic 62, 3) := by decide +kernel
theorem dX4_isKind_4 : decode cX4_isKind 4 = .ok (.ifCond .ne 21, 3) := by decide +kernel
theorem dX4_isKind_7 : decode cX4_isKind 7 = .ok (.iload_n 0, 1) := by decide +kernel
theorem dX4_isKind_8 : decode cX4_isKind 8 = .ok (.bipush 103, 2) := by decide +kernel
theorem dX4_isKind_10 : decode cX4_isKind 10 = .ok (.if_icmp .eq 15, 3) := by decide +kernel
theorem dX4_isKind_13 : decode cX4_isKind 13 = .ok (.iload_n 0, 1) := by decide +kernel
theorem dX4_isKind_14 : decode cX4_isKind 14 = .ok (.bipush 110, 2) := by decide +kernel
theorem dX4_isKind_16 : decode cX4_isKind 16 = .ok (.if_icmp .eq 9, 3) := by decide +kernel
theorem dX4_isKind_19 : decode cX4_isKind 19 = .ok (.iload_n 0, 1) := by decide +kernel
theorem dX4_isKind_20 : decode cX4_isKind 20 = .ok (.bipush 119, 2) := by decide +kernel
theorem dX4_isKind_22 : decode cX4_isKind 22 = .ok (.if_icmp .ne 7, 3) := by decide +kernel
theorem dX4_isKind_25 : decode cX4_isKind 25 = .ok (.iconst 1, 1) := by decide +kernel
theorem dX4_isKind_26 : decode cX4_isKind 26 = .ok (.goto 4, 3) := by decide +kernel
theorem dX4_isKind_29 : decode cX4_isKind 29 = .ok (.iconst 0, 1) := by decide +kernel
theorem dX4_isKind_30 : decode cX4_isKind 30 = .ok (.ireturn, 1) := by decide +kernel
theorem dX4_hasAmount_0 : decode cX4_hasAmount 0 = .ok (.iload_n 0, 1) := by decide +kernel
theorem dX4_hasAmount_1 : decode cX4_hasAmount 1 = .ok (.bipush 108, 2) := by decide +kernel
theorem dX4_hasAmount_3 : decode cX4_hasAmount 3 = .ok (.if_icmp .eq 15, 3) := by decide +kernel
theorem dX4_hasAmount_6 : decode cX4_hasAmount 6 = .ok (.iload_n 0, 1) := by decide +kernel
theorem dX4_hasAmount_7 : decode cX4_hasAmount 7 = .ok (.bipush 113, 2) := by decide +kernel
theorem dX4_hasAmount_9 : decode cX4_hasAmount 9 = .ok (.if_icmp .eq 9, 3) := by decide +kernel
theorem dX4_hasAmount_12 : decode cX4_hasAmount 12 = .ok (.iload_n 0, 1) := by decide +kernel
theorem dX4_hasAmount_13 : decode cX4_hasAmount 13 = .ok (.bipush 114, 2) := by decide +kernel
theorem dX4_hasAmount_15 : decode cX4_hasAmount 15 = .ok (.if_icmp .ne 7, 3) := by decide +kernel
theorem dX4_hasAmount_18 : decode cX4_hasAmount 18 = .ok (.iconst 1, 1) := by decide +kernel
theorem dX4_hasAmount_19 : decode cX4_hasAmount 19 = .ok (.goto 4, 3) := by decide +kernel
theorem dX4_hasAmount_22 : decode cX4_hasAmount 22 = .ok (.iconst 0, 1) := by decide +kernel
theorem dX4_hasAmount_23 : decode cX4_hasAmount 23 = .ok (.ireturn, 1) := by decide +kernel
theorem dX4_put_0 : decode cX4_put 0 = .ok (.iload_n 1, 1) := by decide +kernel
theorem dX4_put_1 : decode cX4_put 1 = .ok (.ifCond .lt 31, 3) := by decide +kernel
theorem dX4_put_4 : decode cX4_put 4 = .ok (.iload_n 1, 1) := by decide +kernel
theorem dX4_put_5 : decode cX4_put 5 = .ok (.bipush 20, 2) := by decide +kernel
theorem dX4_put_7 : decode cX4_put 7 = .ok (.if_icmp .ge 25, 3) := by decide +kernel
theorem dX4_put_10 : decode cX4_put 10 = .ok (.aload_n 0, 1) := by decide +kernel
theorem dX4_put_11 : decode cX4_put 11 = .ok (.getfield 9, 3) := by decide +kernel
theorem dX4_put_14 : decode cX4_put 14 = .ok (.iload_n 1, 1) := by decide +kernel
theorem dX4_put_15 : decode cX4_put 15 = .ok (.iload_n 2, 1) := by decide +kernel
theorem dX4_put_16 : decode cX4_put 16 = .ok (.iastore, 1) := by decide +kernel
theorem dX4_put_17 : decode cX4_put 17 = .ok (.aload_n 0, 1) := by decide +kernel
theorem dX4_put_18 : decode cX4_put 18 = .ok (.getfield 15, 3) := by decide +kernel
theorem dX4_put_21 : decode cX4_put 21 = .ok (.iload_n 1, 1) := by decide +kernel
theorem dX4_put_22 : decode cX4_put 22 = .ok (.iload_n 3, 1) := by decide +kernel
theorem dX4_put_23 : decode cX4_put 23 = .ok (.iastore, 1) := by decide +kernel
theorem dX4_put_24 : decode cX4_put 24 = .ok (.aload_n 0, 1) := by decide +kernel
theorem dX4_put_25 : decode cX4_put 25 = .ok (.getfield 18, 3) := by decide +kernel
theorem dX4_put_28 : decode cX4_put 28 = .ok (.iload_n 1, 1) := by decide +kernel
theorem dX4_put_29 : decode cX4_put 29 = .ok (.iload 4, 2) := by decide +kernel
theorem dX4_put_31 : decode cX4_put 31 = .ok (.iastore, 1) := by decide +kernel
theorem dX4_put_32 : decode cX4_put 32 = .ok (.return_, 1) := by decide +kernel
theorem dX4_readNumber_0 : decode cX4_readNumber 0 = .ok (.aload_n 0, 1) := by decide +kernel
theorem dX4_readNumber_1 : decode cX4_readNumber 1 = .ok (.invokevirtual 55, 3) := by decide +kernel
theorem dX4_readNumber_4 : decode cX4_readNumber 4 = .ok (.ifCond .ne 5, 3) := by decide +kernel
theorem dX4_readNumber_7 : decode cX4_readNumber 7 = .ok (.iconst 0, 1) := by decide +kernel
theorem dX4_readNumber_8 : decode cX4_readNumber 8 = .ok (.ireturn, 1) := by decide +kernel
theorem dX4_readNumber_9 : decode cX4_readNumber 9 = .ok (.aload_n 0, 1) := by decide +kernel
theorem dX4_readNumber_10 : decode cX4_readNumber 10 = .ok (.getfield 35, 3) := by decide +kernel
theorem dX4_readNumber_13 : decode cX4_readNumber 13 = .ok (.istore_n 1, 1) := by decide +kernel
theorem dX4_readNumber_14 : decode cX4_readNumber 14 = .ok (.aload_n 0, 1) := by decide +kernel
theorem dX4_readNumber_15 : decode cX4_readNumber 15 = .ok (.invokevirtual 55, 3) := by decide +kernel
theorem dX4_readNumber_18 : decode cX4_readNumber 18 = .ok (.ifCond .eq 16, 3) := by decide +kernel
theorem dX4_readNumber_21 : decode cX4_readNumber 21 = .ok (.aload_n 0, 1) := by decide +kernel
theorem dX4_readNumber_22 : decode cX4_readNumber 22 = .ok (.bipush 10, 2) := by decide +kernel
theorem dX4_readNumber_24 : decode cX4_readNumber 24 = .ok (.iload_n 1, 1) := by decide +kernel
theorem dX4_readNumber_25 : decode cX4_readNumber 25 = .ok (.imul, 1) := by decide +kernel
theorem dX4_readNumber_26 : decode cX4_readNumber 26 = .ok (.aload_n 0, 1) := by decide +kernel
theorem dX4_readNumber_27 : decode cX4_readNumber 27 = .ok (.getfield 35, 3) := by decide +kernel
theorem dX4_readNumber_30 : decode cX4_readNumber 30 = .ok (.iadd, 1) := by decide +kernel
theorem dX4_readNumber_31 : decode cX4_readNumber 31 = .ok (.putfield 35, 3) := by decide +kernel
theorem dX4_readNumber_34 : decode cX4_readNumber 34 = .ok (.iconst 1, 1) := by decide +kernel
theorem dX4_readNumber_35 : decode cX4_readNumber 35 = .ok (.ireturn, 1) := by decide +kernel
theorem dX4_readDigit_0 : decode cX4_readDigit 0 = .ok (.aload_n 0, 1) := by decide +kernel
theorem dX4_readDigit_1 : decode cX4_readDigit 1 = .ok (.invokevirtual 48, 3) := by decide +kernel
theorem dX4_readDigit_4 : decode cX4_readDigit 4 = .ok (.bipush 48, 2) := by decide +kernel
theorem dX4_readDigit_6 : decode cX4_readDigit 6 = .ok (.isub, 1) := by decide +kernel
theorem dX4_readDigit_7 : decode cX4_readDigit 7 = .ok (.istore_n 1, 1) := by decide +kernel
theorem dX4_readDigit_8 : decode cX4_readDigit 8 = .ok (.iload_n 1, 1) := by decide +kernel
theorem dX4_readDigit_9 : decode cX4_readDigit 9 = .ok (.ifCond .lt 9, 3) := by decide +kernel
theorem dX4_readDigit_12 : decode cX4_readDigit 12 = .ok (.iload_n 1, 1) := by decide +kernel
theorem dX4_readDigit_13 : decode cX4_readDigit 13 = .ok (.bipush 9, 2) := by decide +kernel
theorem dX4_readDigit_15 : decode cX4_readDigit 15 = .ok (.if_icmp .le 5, 3) := by decide +kernel
theorem dX4_readDigit_18 : decode cX4_readDigit 18 = .ok (.iconst 0, 1) := by decide +kernel
theorem dX4_readDigit_19 : decode cX4_readDigit 19 = .ok (.ireturn, 1) := by decide +kernel
theorem dX4_readDigit_20 : decode cX4_readDigit 20 = .ok (.aload_n 0, 1) := by decide +kernel
theorem dX4_readDigit_21 : decode cX4_readDigit 21 = .ok (.iload_n 1, 1) := by decide +kernel
theorem dX4_readDigit_22 : decode cX4_readDigit 22 = .ok (.putfield 35, 3) := by decide +kernel
theorem dX4_readDigit_25 : decode cX4_readDigit 25 = .ok (.aload_n 0, 1) := by decide +kernel
theorem dX4_readDigit_26 : decode cX4_readDigit 26 = .ok (.dup, 1) := by decide +kernel
theorem dX4_readDigit_27 : decode cX4_readDigit 27 = .ok (.getfield 32, 3) := by decide +kernel
theorem dX4_readDigit_30 : decode cX4_readDigit 30 = .ok (.iconst 1, 1) := by decide +kernel
theorem dX4_readDigit_31 : decode cX4_readDigit 31 = .ok (.iadd, 1) := by decide +kernel
theorem dX4_readDigit_32 : decode cX4_readDigit 32 = .ok (.putfield 32, 3) := by decide +kernel
theorem dX4_readDigit_35 : decode cX4_readDigit 35 = .ok (.iconst 1, 1) := by decide +kernel
theorem dX4_readDigit_36 : decode cX4_readDigit 36 = .ok (.ireturn, 1) := by decide +kernel
theorem dX4_readSign_0 : decode cX4_readSign 0 = .ok (.aload_n 0, 1) := by decide +kernel
theorem dX4_readSign_1 : decode cX4_readSign 1 = .ok (.invokevirtual 48, 3) := by decide +kernel
theorem dX4_readSign_4 : decode cX4_readSign 4 = .ok (.iload_n 1, 1) := by decide +kernel
theorem dX4_readSign_5 : decode cX4_readSign 5 = .ok (.if_icmp .eq 5, 3) := by decide +kernel
theorem dX4_readSign_8 : decode cX4_readSign 8 = .ok (.iconst 0, 1) := by decide +kernel
theorem dX4_readSign_9 : decode cX4_readSign 9 = .ok (.ireturn, 1) := by decide +kernel
theorem dX4_readSign_10 : decode cX4_readSign 10 = .ok (.aload_n 0, 1) := by decide +kernel
theorem dX4_readSign_11 : decode cX4_readSign 11 = .ok (.dup, 1) := by decide +kernel
theorem dX4_readSign_12 : decode cX4_readSign 12 = .ok (.getfield 32, 3) := by decide +kernel
theorem dX4_readSign_15 : decode cX4_readSign 15 = .ok (.iconst 1, 1) := by decide +kernel
theorem dX4_readSign_16 : decode cX4_readSign 16 = .ok (.iadd, 1) := by decide +kernel
theorem dX4_readSign_17 : decode cX4_readSign 17 = .ok (.putfield 32, 3) := by decide +kernel
theorem dX4_readSign_20 : decode cX4_readSign 20 = .ok (.iconst 1, 1) := by decide +kernel
theorem dX4_readSign_21 : decode cX4_readSign 21 = .ok (.ireturn, 1) := by decide +kernel
theorem dX4_sign_0 : decode cX4_sign 0 = .ok (.aload_n 0, 1) := by decide +kernel
theorem dX4_sign_1 : decode cX4_sign 1 = .ok (.getfield 32, 3) := by decide +kernel
theorem dX4_sign_4 : decode cX4_sign 4 = .ok (.ifCond .lt 35, 3) := by decide +kernel
theorem dX4_sign_7 : decode cX4_sign 7 = .ok (.aload_n 0, 1) := by decide +kernel
theorem dX4_sign_8 : decode cX4_sign 8 = .ok (.getfield 32, 3) := by decide +kernel
theorem dX4_sign_11 : decode cX4_sign 11 = .ok (.aload_n 0, 1) := by decide +kernel
theorem dX4_sign_12 : decode cX4_sign 12 = .ok (.getfield 29, 3) := by decide +kernel
theorem dX4_sign_15 : decode cX4_sign 15 = .ok (.if_icmp .ge 24, 3) := by decide +kernel
theorem dX4_sign_18 : decode cX4_sign 18 = .ok (.aload_n 0, 1) := by decide +kernel
theorem dX4_sign_19 : decode cX4_sign 19 = .ok (.getfield 32, 3) := by decide +kernel
theorem dX4_sign_22 : decode cX4_sign 22 = .ok (.bipush 60, 2) := by decide +kernel
theorem dX4_sign_24 : decode cX4_sign 24 = .ok (.if_icmp .ge 15, 3) := by decide +kernel
theorem dX4_sign_27 : decode cX4_sign 27 = .ok (.aload_n 0, 1) := by decide +kernel
theorem dX4_sign_28 : decode cX4_sign 28 = .ok (.getfield 25, 3) := by decide +kernel
theorem dX4_sign_31 : decode cX4_sign 31 = .ok (.aload_n 0, 1) := by decide +kernel
theorem dX4_sign_32 : decode cX4_sign 32 = .ok (.getfield 32, 3) := by decide +kernel
theorem dX4_sign_35 : decode cX4_sign 35 = .ok (.caload, 1) := by decide +kernel
theorem dX4_sign_36 : decode cX4_sign 36 = .ok (.goto 4, 3) := by decide +kernel
theorem dX4_sign_39 : decode cX4_sign 39 = .ok (.iconst (-1), 1) := by decide +kernel
theorem dX4_sign_40 : decode cX4_sign 40 = .ok (.ireturn, 1) := by decide +kernel
theorem dX5_init_0 : decode cX5_init 0 = .ok (.aload_n 0, 1) := by decide +kernel
theorem dX5_init_1 : decode cX5_init 1 = .ok (.invokespecial 3, 3) := by decide +kernel
theorem dX5_init_4 : decode cX5_init 4 = .ok (.aload_n 0, 1) := by decide +kernel
theorem dX5_init_5 : decode cX5_init 5 = .ok (.bipush 64, 2) := by decide +kernel
theorem dX5_init_7 : decode cX5_init 7 = .ok (.newarray .int, 2) := by decide +kernel
theorem dX5_init_9 : decode cX5_init 9 = .ok (.putfield 9, 3) := by decide +kernel
theorem dX5_init_12 : decode cX5_init 12 = .ok (.aload_n 0, 1) := by decide +kernel
theorem dX5_init_13 : decode cX5_init 13 = .ok (.iconst 0, 1) := by decide +kernel
theorem dX5_init_14 : decode cX5_init 14 = .ok (.putfield 15, 3) := by decide +kernel
theorem dX5_init_17 : decode cX5_init 17 = .ok (.aload_n 0, 1) := by decide +kernel
theorem dX5_init_18 : decode cX5_init 18 = .ok (.iconst 0, 1) := by decide +kernel
theorem dX5_init_19 : decode cX5_init 19 = .ok (.putfield 19, 3) := by decide +kernel
theorem dX5_init_22 : decode cX5_init 22 = .ok (.aload_n 0, 1) := by decide +kernel
theorem dX5_init_23 : decode cX5_init 23 = .ok (.iconst 0, 1) := by decide +kernel
theorem dX5_init_24 : decode cX5_init 24 = .ok (.putfield 22, 3) := by decide +kernel
theorem dX5_init_27 : decode cX5_init 27 = .ok (.aload_n 0, 1) := by decide +kernel
theorem dX5_init_28 : decode cX5_init 28 = .ok (.getfield 9, 3) := by decide +kernel
theorem dX5_init_31 : decode cX5_init 31 = .ok (.iconst 0, 1) := by decide +kernel
theorem dX5_init_32 : decode cX5_init 32 = .ok (.bipush 64, 2) := by decide +kernel
theorem dX5_init_34 : decode cX5_init 34 = .ok (.iastore, 1) := by decide +kernel
theorem dX5_init_35 : decode cX5_init 35 = .ok (.return_, 1) := by decide +kernel
theorem dX5_copyFrom_0 : decode cX5_copyFrom 0 = .ok (.aload_n 1, 1) := by decide +kernel
theorem dX5_copyFrom_1 : decode cX5_copyFrom 1 = .ok (.getfield 9, 3) := by decide +kernel
theorem dX5_copyFrom_4 : decode cX5_copyFrom 4 = .ok (.iconst 0, 1) := by decide +kernel
theorem dX5_copyFrom_5 : decode cX5_copyFrom 5 = .ok (.aload_n 0, 1) := by decide +kernel
theorem dX5_copyFrom_6 : decode cX5_copyFrom 6 = .ok (.getfield 9, 3) := by decide +kernel
theorem dX5_copyFrom_9 : decode cX5_copyFrom 9 = .ok (.iconst 0, 1) := by decide +kernel
theorem dX5_copyFrom_10 : decode cX5_copyFrom 10 = .ok (.bipush 64, 2) := by decide +kernel
theorem dX5_copyFrom_12 : decode cX5_copyFrom 12 = .ok (.invokestatic 25, 3) := by decide +kernel
theorem dX5_copyFrom_15 : decode cX5_copyFrom 15 = .ok (.aload_n 0, 1) := by decide +kernel
theorem dX5_copyFrom_16 : decode cX5_copyFrom 16 = .ok (.aload_n 1, 1) := by decide +kernel
theorem dX5_copyFrom_17 : decode cX5_copyFrom 17 = .ok (.getfield 15, 3) := by decide +kernel
theorem dX5_copyFrom_20 : decode cX5_copyFrom 20 = .ok (.putfield 15, 3) := by decide +kernel
theorem dX5_copyFrom_23 : decode cX5_copyFrom 23 = .ok (.aload_n 0, 1) := by decide +kernel
theorem dX5_copyFrom_24 : decode cX5_copyFrom 24 = .ok (.aload_n 1, 1) := by decide +kernel
theorem dX5_copyFrom_25 : decode cX5_copyFrom 25 = .ok (.getfield 19, 3) := by decide +kernel
theorem dX5_copyFrom_28 : decode cX5_copyFrom 28 = .ok (.putfield 19, 3) := by decide +kernel
theorem dX5_copyFrom_31 : decode cX5_copyFrom 31 = .ok (.aload_n 0, 1) := by decide +kernel
theorem dX5_copyFrom_32 : decode cX5_copyFrom 32 = .ok (.aload_n 1, 1) := by decide +kernel
theorem dX5_copyFrom_33 : decode cX5_copyFrom 33 = .ok (.getfield 22, 3) := by decide +kernel
theorem dX5_copyFrom_36 : decode cX5_copyFrom 36 = .ok (.putfield 22, 3) := by decide +kernel
theorem dX5_copyFrom_39 : decode cX5_copyFrom 39 = .ok (.return_, 1) := by decide +kernel
theorem dX5_sizeAt_0 : decode cX5_sizeAt 0 = .ok (.iload_n 1, 1) := by decide +kernel
theorem dX5_sizeAt_1 : decode cX5_sizeAt 1 = .ok (.ifCond .lt 18, 3) := by decide +kernel
theorem dX5_sizeAt_4 : decode cX5_sizeAt 4 = .ok (.iload_n 1, 1) := by decide +kernel
theorem dX5_sizeAt_5 : decode cX5_sizeAt 5 = .ok (.bipush 64, 2) := by decide +kernel
theorem dX5_sizeAt_7 : decode cX5_sizeAt 7 = .ok (.if_icmp .ge 12, 3) := by decide +kernel
theorem dX5_sizeAt_10 : decode cX5_sizeAt 10 = .ok (.aload_n 0, 1) := by decide +kernel
theorem dX5_sizeAt_11 : decode cX5_sizeAt 11 = .ok (.getfield 9, 3) := by decide +kernel
theorem dX5_sizeAt_14 : decode cX5_sizeAt 14 = .ok (.iload_n 1, 1) := by decide +kernel
theorem dX5_sizeAt_15 : decode cX5_sizeAt 15 = .ok (.iaload, 1) := by decide +kernel
theorem dX5_sizeAt_16 : decode cX5_sizeAt 16 = .ok (.goto 4, 3) := by decide +kernel
theorem dX5_sizeAt_19 : decode cX5_sizeAt 19 = .ok (.iconst 0, 1) := by decide +kernel
theorem dX5_sizeAt_20 : decode cX5_sizeAt 20 = .ok (.ireturn, 1) := by decide +kernel
theorem dX5_setSize_0 : decode cX5_setSize 0 = .ok (.iload_n 1, 1) := by decide +kernel
theorem dX5_setSize_1 : decode cX5_setSize 1 = .ok (.ifCond .lt 16, 3) := by decide +kernel
theorem dX5_setSize_4 : decode cX5_setSize 4 = .ok (.iload_n 1, 1) := by decide +kernel
theorem dX5_setSize_5 : decode cX5_setSize 5 = .ok (.bipush 64, 2) := by decide +kernel
theorem dX5_setSize_7 : decode cX5_setSize 7 = .ok (.if_icmp .ge 10, 3) := by decide +kernel
theorem dX5_setSize_10 : decode cX5_setSize 10 = .ok (.aload_n 0, 1) := by decide +kernel
theorem dX5_setSize_11 : decode cX5_setSize 11 = .ok (.getfield 9, 3) := by decide +kernel
theorem dX5_setSize_14 : decode cX5_setSize 14 = .ok (.iload_n 1, 1) := by decide +kernel
theorem dX5_setSize_15 : decode cX5_setSize 15 = .ok (.iload_n 2, 1) := by decide +kernel
theorem dX5_setSize_16 : decode cX5_setSize 16 = .ok (.iastore, 1) := by decide +kernel
theorem dX5_setSize_17 : decode cX5_setSize 17 = .ok (.return_, 1) := by decide +kernel
theorem dX5_isUpperTaken_0 : decode cX5_isUpperTaken 0 = .ok (.aload_n 0, 1) := by decide +kernel
theorem dX5_isUpperTaken_1 : decode cX5_isUpperTaken 1 = .ok (.getfield 15, 3) := by decide +kernel
theorem dX5_isUpperTaken_4 : decode cX5_isUpperTaken 4 = .ok (.iconst 1, 1) := by decide +kernel
theorem dX5_isUpperTaken_5 : decode cX5_isUpperTaken 5 = .ok (.if_icmp .ne 7, 3) := by decide +kernel
theorem dX5_isUpperTaken_8 : decode cX5_isUpperTaken 8 = .ok (.iconst 1, 1) := by decide +kernel
theorem dX5_isUpperTaken_9 : decode cX5_isUpperTaken 9 = .ok (.goto 4, 3) := by decide +kernel
theorem dX5_isUpperTaken_12 : decode cX5_isUpperTaken 12 = .ok (.iconst 0, 1) := by decide +kernel
theorem dX5_isUpperTaken_13 : decode cX5_isUpperTaken 13 = .ok (.ireturn, 1) := by decide +kernel
theorem dX5_find_0 : decode cX5_find 0 = .ok (.iconst (-1), 1) := by decide +kernel
theorem dX5_find_1 : decode cX5_find 1 = .ok (.istore_n 2, 1) := by decide +kernel
theorem dX5_find_2 : decode cX5_find 2 = .ok (.iconst 0, 1) := by decide +kernel
theorem dX5_find_3 : decode cX5_find 3 = .ok (.istore_n 3, 1) := by decide +kernel
theorem dX5_find_4 : decode cX5_find 4 = .ok (.iconst 0, 1) := by decide +kernel
theorem dX5_find_5 : decode cX5_find 5 = .ok (.istore 4, 2) := by decide +kernel
theorem dX5_find_7 : decode cX5_find 7 = .ok (.iload 4, 2) := by decide +kernel
theorem dX5_find_9 : decode cX5_find 9 = .ok (.bipush 64, 2) := by decide +kernel
theorem dX5_find_11 : decode cX5_find 11 = .ok (.if_icmp .ge 49, 3) := by decide +kernel
theorem dX5_find_14 : decode cX5_find 14 = .ok (.aload_n 0, 1) := by decide +kernel
theorem dX5_find_15 : decode cX5_find 15 = .ok (.getfield 9, 3) := by decide +kernel
theorem dX5_find_18 : decode cX5_find 18 = .ok (.iload 4, 2) := by decide +kernel
theorem dX5_find_20 : decode cX5_find 20 = .ok (.iaload, 1) := by decide +kernel
theorem dX5_find_21 : decode cX5_find 21 = .ok (.istore 5, 2) := by decide +kernel
theorem dX5_find_23 : decode cX5_find 23 = .ok (.iload 5, 2) := by decide +kernel
theorem dX5_find_25 : decode cX5_find 25 = .ok (.iload_n 1, 1) := by decide +kernel
theorem dX5_find_26 : decode cX5_find 26 = .ok (.if_icmp .lt 28, 3) := by decide +kernel
theorem dX5_find_29 : decode cX5_find 29 = .ok (.iload 5, 2) := by decide +kernel
theorem dX5_find_31 : decode cX5_find 31 = .ok (.ifCond .le 23, 3) := by decide +kernel
theorem dX5_find_34 : decode cX5_find 34 = .ok (.iload_n 2, 1) := by decide +kernel
theorem dX5_find_35 : decode cX5_find 35 = .ok (.ifCond .lt 13, 3) := by decide +kernel
theorem dX5_find_38 : decode cX5_find 38 = .ok (.aload_n 0, 1) := by decide +kernel
theorem dX5_find_39 : decode cX5_find 39 = .ok (.iload 5, 2) := by decide +kernel
theorem dX5_find_41 : decode cX5_find 41 = .ok (.iload_n 3, 1) := by decide +kernel
theorem dX5_find_42 : decode cX5_find 42 = .ok (.invokevirtual 31, 3) := by decide +kernel
theorem dX5_find_45 : decode cX5_find 45 = .ok (.ifCond .eq 9, 3) := by decide +kernel
theorem dX5_find_48 : decode cX5_find 48 = .ok (.iload 4, 2) := by decide +kernel
theorem dX5_find_50 : decode cX5_find 50 = .ok (.istore_n 2, 1) := by decide +kernel
theorem dX5_find_51 : decode cX5_find 51 = .ok (.iload 5, 2) := by decide +kernel
theorem dX5_find_53 : decode cX5_find 53 = .ok (.istore_n 3, 1) := by decide +kernel
theorem dX5_find_54 : decode cX5_find 54 = .ok (.iinc 4 1, 3) := by decide +kernel
theorem dX5_find_57 : decode cX5_find 57 = .ok (.goto (-50), 3) := by decide +kernel
theorem dX5_find_60 : decode cX5_find 60 = .ok (.iload_n 2, 1) := by decide +kernel
theorem dX5_find_61 : decode cX5_find 61 = .ok (.ireturn, 1) := by decide +kernel
theorem dX5_isPreferred_0 : decode cX5_isPreferred 0 = .ok (.aload_n 0, 1) := by decide +kernel
theorem dX5_isPreferred_1 : decode cX5_isPreferred 1 = .ok (.getfield 15, 3) := by decide +kernel
theorem dX5_isPreferred_4 : decode cX5_isPreferred 4 = .ok (.lookupswitch 50 #[(0, 28), (1, 39)], 28) := by decide +kernel
theorem dX5_isPreferred_32 : decode cX5_isPreferred 32 = .ok (.iload_n 1, 1) := by decide +kernel
theorem dX5_isPreferred_33 : decode cX5_isPreferred 33 = .ok (.iload_n 2, 1) := by decide +kernel
theorem dX5_isPreferred_34 : decode cX5_isPreferred 34 = .ok (.if_icmp .ge 7, 3) := by decide +kernel
theorem dX5_isPreferred_37 : decode cX5_isPreferred 37 = .ok (.iconst 1, 1) := by decide +kernel
theorem dX5_isPreferred_38 : decode cX5_isPreferred 38 = .ok (.goto 4, 3) := by decide +kernel
theorem dX5_isPreferred_41 : decode cX5_isPreferred 41 = .ok (.iconst 0, 1) := by decide +kernel
theorem dX5_isPreferred_42 : decode cX5_isPreferred 42 = .ok (.ireturn, 1) := by decide +kernel
theorem dX5_isPreferred_43 : decode cX5_isPreferred 43 = .ok (.iload_n 1, 1) := by decide +kernel
theorem dX5_isPreferred_44 : decode cX5_isPreferred 44 = .ok (.iload_n 2, 1) := by decide +kernel
theorem dX5_isPreferred_45 : decode cX5_isPreferred 45 = .ok (.if_icmp .gt 7, 3) := by decide +kernel
theorem dX5_isPreferred_48 : decode cX5_isPreferred 48 = .ok (.iconst 1, 1) := by decide +kernel
theorem dX5_isPreferred_49 : decode cX5_isPreferred 49 = .ok (.goto 4, 3) := by decide +kernel
theorem dX5_isPreferred_52 : decode cX5_isPreferred 52 = .ok (.iconst 0, 1) := by decide +kernel
theorem dX5_isPreferred_53 : decode cX5_isPreferred 53 = .ok (.ireturn, 1) := by decide +kernel
theorem dX5_isPreferred_54 : decode cX5_isPreferred 54 = .ok (.iload_n 1, 1) := by decide +kernel
theorem dX5_isPreferred_55 : decode cX5_isPreferred 55 = .ok (.iload_n 2, 1) := by decide +kernel
theorem dX5_isPreferred_56 : decode cX5_isPreferred 56 = .ok (.if_icmp .le 7, 3) := by decide +kernel
theorem dX5_isPreferred_59 : decode cX5_isPreferred 59 = .ok (.iconst 1, 1) := by decide +kernel
theorem dX5_isPreferred_60 : decode cX5_isPreferred 60 = .ok (.goto 4, 3) := by decide +kernel
theorem dX5_isPreferred_63 : decode cX5_isPreferred 63 = .ok (.iconst 0, 1) := by decide +kernel
theorem dX5_isPreferred_64 : decode cX5_isPreferred 64 = .ok (.ireturn, 1) := by decide +kernel
theorem dX5_take_0 : decode cX5_take 0 = .ok (.aload_n 0, 1) := by decide +kernel
theorem dX5_take_1 : decode cX5_take 1 = .ok (.iload_n 1, 1) := by decide +kernel
theorem dX5_take_2 : decode cX5_take 2 = .ok (.invokevirtual 35, 3) := by decide +kernel
theorem dX5_take_5 : decode cX5_take 5 = .ok (.istore_n 2, 1) := by decide +kernel
theorem dX5_take_6 : decode cX5_take 6 = .ok (.iload_n 2, 1) := by decide +kernel
theorem dX5_take_7 : decode cX5_take 7 = .ok (.ifCond .ge 5, 3) := by decide +kernel
theorem dX5_take_10 : decode cX5_take 10 = .ok (.iconst (-1), 1) := by decide +kernel
theorem dX5_take_11 : decode cX5_take 11 = .ok (.ireturn, 1) := by decide +kernel
theorem dX5_take_12 : decode cX5_take 12 = .ok (.aload_n 0, 1) := by decide +kernel
theorem dX5_take_13 : decode cX5_take 13 = .ok (.iload_n 2, 1) := by decide +kernel
theorem dX5_take_14 : decode cX5_take 14 = .ok (.invokevirtual 39, 3) := by decide +kernel
theorem dX5_take_17 : decode cX5_take 17 = .ok (.istore_n 3, 1) := by decide +kernel
theorem dX5_take_18 : decode cX5_take 18 = .ok (.aload_n 0, 1) := by decide +kernel
theorem dX5_take_19 : decode cX5_take 19 = .ok (.iload_n 2, 1) := by decide +kernel
theorem dX5_take_20 : decode cX5_take 20 = .ok (.iconst 0, 1) := by decide +kernel
theorem dX5_take_21 : decode cX5_take 21 = .ok (.invokevirtual 42, 3) := by decide +kernel
theorem dX5_take_24 : decode cX5_take 24 = .ok (.aload_n 0, 1) := by decide +kernel
theorem dX5_take_25 : decode cX5_take 25 = .ok (.iload_n 2, 1) := by decide +kernel
theorem dX5_take_26 : decode cX5_take 26 = .ok (.iload_n 3, 1) := by decide +kernel
theorem dX5_take_27 : decode cX5_take 27 = .ok (.iload_n 1, 1) := by decide +kernel
theorem dX5_take_28 : decode cX5_take 28 = .ok (.invokevirtual 46, 3) := by decide +kernel
theorem dX5_take_31 : decode cX5_take 31 = .ok (.ireturn, 1) := by decide +kernel
theorem dX5_cutDown_0 : decode cX5_cutDown 0 = .ok (.iload_n 1, 1) := by decide +kernel
theorem dX5_cutDown_1 : decode cX5_cutDown 1 = .ok (.istore 4, 2) := by decide +kernel
theorem dX5_cutDown_3 : decode cX5_cutDown 3 = .ok (.iload_n 2, 1) := by decide +kernel
theorem dX5_cutDown_4 : decode cX5_cutDown 4 = .ok (.iconst 2, 1) := by decide +kernel
theorem dX5_cutDown_5 : decode cX5_cutDown 5 = .ok (.idiv, 1) := by decide +kernel
theorem dX5_cutDown_6 : decode cX5_cutDown 6 = .ok (.istore 5, 2) := by decide +kernel
theorem dX5_cutDown_8 : decode cX5_cutDown 8 = .ok (.iload 5, 2) := by decide +kernel
theorem dX5_cutDown_10 : decode cX5_cutDown 10 = .ok (.iload_n 3, 1) := by decide +kernel
theorem dX5_cutDown_11 : decode cX5_cutDown 11 = .ok (.if_icmp .lt 64, 3) := by decide +kernel
theorem dX5_cutDown_14 : decode cX5_cutDown 14 = .ok (.iload 5, 2) := by decide +kernel
theorem dX5_cutDown_16 : decode cX5_cutDown 16 = .ok (.iconst 1, 1) := by decide +kernel
theorem dX5_cutDown_17 : decode cX5_cutDown 17 = .ok (.if_icmp .lt 58, 3) := by decide +kernel
theorem dX5_cutDown_20 : decode cX5_cutDown 20 = .ok (.aload_n 0, 1) := by decide +kernel
theorem dX5_cutDown_21 : decode cX5_cutDown 21 = .ok (.dup, 1) := by decide +kernel
theorem dX5_cutDown_22 : decode cX5_cutDown 22 = .ok (.getfield 19, 3) := by decide +kernel
theorem dX5_cutDown_25 : decode cX5_cutDown 25 = .ok (.iconst 1, 1) := by decide +kernel
theorem dX5_cutDown_26 : decode cX5_cutDown 26 = .ok (.iadd, 1) := by decide +kernel
theorem dX5_cutDown_27 : decode cX5_cutDown 27 = .ok (.putfield 19, 3) := by decide +kernel
theorem dX5_cutDown_30 : decode cX5_cutDown 30 = .ok (.aload_n 0, 1) := by decide +kernel
theorem dX5_cutDown_31 : decode cX5_cutDown 31 = .ok (.invokevirtual 50, 3) := by decide +kernel
theorem dX5_cutDown_34 : decode cX5_cutDown 34 = .ok (.ifCond .eq 21, 3) := by decide +kernel
theorem dX5_cutDown_37 : decode cX5_cutDown 37 = .ok (.aload_n 0, 1) := by decide +kernel
theorem dX5_cutDown_38 : decode cX5_cutDown 38 = .ok (.iload 4, 2) := by decide +kernel
theorem dX5_cutDown_40 : decode cX5_cutDown 40 = .ok (.iload 5, 2) := by decide +kernel
theorem dX5_cutDown_42 : decode cX5_cutDown 42 = .ok (.invokevirtual 42, 3) := by decide +kernel
theorem dX5_cutDown_45 : decode cX5_cutDown 45 = .ok (.iload 4, 2) := by decide +kernel
theorem dX5_cutDown_47 : decode cX5_cutDown 47 = .ok (.iload 5, 2) := by decide +kernel
theorem dX5_cutDown_49 : decode cX5_cutDown 49 = .ok (.iadd, 1) := by decide +kernel
theorem dX5_cutDown_50 : decode cX5_cutDown 50 = .ok (.istore 4, 2) := by decide +kernel
theorem dX5_cutDown_52 : decode cX5_cutDown 52 = .ok (.goto 14, 3) := by decide +kernel
theorem dX5_cutDown_55 : decode cX5_cutDown 55 = .ok (.aload_n 0, 1) := by decide +kernel
theorem dX5_cutDown_56 : decode cX5_cutDown 56 = .ok (.iload 4, 2) := by decide +kernel
theorem dX5_cutDown_58 : decode cX5_cutDown 58 = .ok (.iload 5, 2) := by decide +kernel
theorem dX5_cutDown_60 : decode cX5_cutDown 60 = .ok (.iadd, 1) := by decide +kernel
theorem dX5_cutDown_61 : decode cX5_cutDown 61 = .ok (.iload 5, 2) := by decide +kernel
theorem dX5_cutDown_63 : decode cX5_cutDown 63 = .ok (.invokevirtual 42, 3) := by decide +kernel
theorem dX5_cutDown_66 : decode cX5_cutDown 66 = .ok (.iload 5, 2) := by decide +kernel
theorem dX5_cutDown_68 : decode cX5_cutDown 68 = .ok (.iconst 2, 1) := by decide +kernel
theorem dX5_cutDown_69 : decode cX5_cutDown 69 = .ok (.idiv, 1) := by decide +kernel
theorem dX5_cutDown_70 : decode cX5_cutDown 70 = .ok (.istore 5, 2) := by decide +kernel
theorem dX5_cutDown_72 : decode cX5_cutDown 72 = .ok (.goto (-64), 3) := by decide +kernel
theorem dX5_cutDown_75 : decode cX5_cutDown 75 = .ok (.iload 4, 2) := by decide +kernel
theorem dX5_cutDown_77 : decode cX5_cutDown 77 = .ok (.ireturn, 1) := by decide +kernel
theorem dX5_release_0 : decode cX5_release 0 = .ok (.aload_n 0, 1) := by decide +kernel
theorem dX5_release_1 : decode cX5_release 1 = .ok (.iload_n 1, 1) := by decide +kernel
theorem dX5_release_2 : decode cX5_release 2 = .ok (.iload_n 2, 1) := by decide +kernel
theorem dX5_release_3 : decode cX5_release 3 = .ok (.invokevirtual 54, 3) := by decide +kernel
theorem dX5_release_6 : decode cX5_release 6 = .ok (.istore_n 3, 1) := by decide +kernel
theorem dX5_release_7 : decode cX5_release 7 = .ok (.iload_n 2, 1) := by decide +kernel
theorem dX5_release_8 : decode cX5_release 8 = .ok (.istore 4, 2) := by decide +kernel
theorem dX5_release_10 : decode cX5_release 10 = .ok (.iload 4, 2) := by decide +kernel
theorem dX5_release_12 : decode cX5_release 12 = .ok (.iconst 1, 1) := by decide +kernel
theorem dX5_release_13 : decode cX5_release 13 = .ok (.if_icmp .lt 39, 3) := by decide +kernel
theorem dX5_release_16 : decode cX5_release 16 = .ok (.iload 4, 2) := by decide +kernel
theorem dX5_release_18 : decode cX5_release 18 = .ok (.iload_n 3, 1) := by decide +kernel
theorem dX5_release_19 : decode cX5_release 19 = .ok (.if_icmp .ge 33, 3) := by decide +kernel
theorem dX5_release_22 : decode cX5_release 22 = .ok (.aload_n 0, 1) := by decide +kernel
theorem dX5_release_23 : decode cX5_release 23 = .ok (.iload_n 1, 1) := by decide +kernel
theorem dX5_release_24 : decode cX5_release 24 = .ok (.iload 4, 2) := by decide +kernel
theorem dX5_release_26 : decode cX5_release 26 = .ok (.invokestatic 58, 3) := by decide +kernel
theorem dX5_release_29 : decode cX5_release 29 = .ok (.iconst 0, 1) := by decide +kernel
theorem dX5_release_30 : decode cX5_release 30 = .ok (.invokevirtual 42, 3) := by decide +kernel
theorem dX5_release_33 : decode cX5_release 33 = .ok (.aload_n 0, 1) := by decide +kernel
theorem dX5_release_34 : decode cX5_release 34 = .ok (.dup, 1) := by decide +kernel
theorem dX5_release_35 : decode cX5_release 35 = .ok (.getfield 22, 3) := by decide +kernel
theorem dX5_release_38 : decode cX5_release 38 = .ok (.iconst 1, 1) := by decide +kernel
theorem dX5_release_39 : decode cX5_release 39 = .ok (.iadd, 1) := by decide +kernel
theorem dX5_release_40 : decode cX5_release 40 = .ok (.putfield 22, 3) := by decide +kernel
theorem dX5_release_43 : decode cX5_release 43 = .ok (.iload 4, 2) := by decide +kernel
theorem dX5_release_45 : decode cX5_release 45 = .ok (.iconst 2, 1) := by decide +kernel
theorem dX5_release_46 : decode cX5_release 46 = .ok (.imul, 1) := by decide +kernel
theorem dX5_release_47 : decode cX5_release 47 = .ok (.istore 4, 2) := by decide +kernel
theorem dX5_release_49 : decode cX5_release 49 = .ok (.goto (-39), 3) := by decide +kernel
theorem dX5_release_52 : decode cX5_release 52 = .ok (.aload_n 0, 1) := by decide +kernel
theorem dX5_release_53 : decode cX5_release 53 = .ok (.iload_n 1, 1) := by decide +kernel
theorem dX5_release_54 : decode cX5_release 54 = .ok (.iload_n 3, 1) := by decide +kernel
theorem dX5_release_55 : decode cX5_release 55 = .ok (.invokestatic 61, 3) := by decide +kernel
theorem dX5_release_58 : decode cX5_release 58 = .ok (.iload_n 3, 1) := by decide +kernel
theorem dX5_release_59 : decode cX5_release 59 = .ok (.invokevirtual 42, 3) := by decide +kernel
theorem dX5_release_62 : decode cX5_release 62 = .ok (.return_, 1) := by decide +kernel
theorem dX5_joinedSize_0 : decode cX5_joinedSize 0 = .ok (.iload_n 2, 1) := by decide +kernel
theorem dX5_joinedSize_1 : decode cX5_joinedSize 1 = .ok (.istore_n 3, 1) := by decide +kernel
theorem dX5_joinedSize_2 : decode cX5_joinedSize 2 = .ok (.iload_n 3, 1) := by decide +kernel
theorem dX5_joinedSize_3 : decode cX5_joinedSize 3 = .ok (.iconst 1, 1) := by decide +kernel
theorem dX5_joinedSize_4 : decode cX5_joinedSize 4 = .ok (.if_icmp .lt 29, 3) := by decide +kernel
theorem dX5_joinedSize_7 : decode cX5_joinedSize 7 = .ok (.iload_n 3, 1) := by decide +kernel
theorem dX5_joinedSize_8 : decode cX5_joinedSize 8 = .ok (.bipush 64, 2) := by decide +kernel
theorem dX5_joinedSize_10 : decode cX5_joinedSize 10 = .ok (.if_icmp .ge 23, 3) := by decide +kernel
theorem dX5_joinedSize_13 : decode cX5_joinedSize 13 = .ok (.aload_n 0, 1) := by decide +kernel
theorem dX5_joinedSize_14 : decode cX5_joinedSize 14 = .ok (.iload_n 1, 1) := by decide +kernel
theorem dX5_joinedSize_15 : decode cX5_joinedSize 15 = .ok (.iload_n 3, 1) := by decide +kernel
theorem dX5_joinedSize_16 : decode cX5_joinedSize 16 = .ok (.invokestatic 58, 3) := by decide +kernel
theorem dX5_joinedSize_19 : decode cX5_joinedSize 19 = .ok (.invokevirtual 39, 3) := by decide +kernel
theorem dX5_joinedSize_22 : decode cX5_joinedSize 22 = .ok (.iload_n 3, 1) := by decide +kernel
theorem dX5_joinedSize_23 : decode cX5_joinedSize 23 = .ok (.if_icmp .ne 10, 3) := by decide +kernel
theorem dX5_joinedSize_26 : decode cX5_joinedSize 26 = .ok (.iload_n 3, 1) := by decide +kernel
theorem dX5_joinedSize_27 : decode cX5_joinedSize 27 = .ok (.iconst 2, 1) := by decide +kernel
theorem dX5_joinedSize_28 : decode cX5_joinedSize 28 = .ok (.imul, 1) := by decide +kernel
theorem dX5_joinedSize_29 : decode cX5_joinedSize 29 = .ok (.istore_n 3, 1) := by decide +kernel
theorem dX5_joinedSize_30 : decode cX5_joinedSize 30 = .ok (.goto (-28), 3) := by decide +kernel
theorem dX5_joinedSize_33 : decode cX5_joinedSize 33 = .ok (.iload_n 3, 1) := by decide +kernel
theorem dX5_joinedSize_34 : decode cX5_joinedSize 34 = .ok (.ireturn, 1) := by decide +kernel
theorem dX5_greatestSize_0 : decode cX5_greatestSize 0 = .ok (.iconst 0, 1) := by decide +kernel
theorem dX5_greatestSize_1 : decode cX5_greatestSize 1 = .ok (.istore_n 1, 1) := by decide +kernel
theorem dX5_greatestSize_2 : decode cX5_greatestSize 2 = .ok (.iconst 0, 1) := by decide +kernel
theorem dX5_greatestSize_3 : decode cX5_greatestSize 3 = .ok (.istore_n 2, 1) := by decide +kernel
theorem dX5_greatestSize_4 : decode cX5_greatestSize 4 = .ok (.iload_n 2, 1) := by decide +kernel
theorem dX5_greatestSize_5 : decode cX5_greatestSize 5 = .ok (.bipush 64, 2) := by decide +kernel
theorem dX5_greatestSize_7 : decode cX5_greatestSize 7 = .ok (.if_icmp .ge 20, 3) := by decide +kernel
theorem dX5_greatestSize_10 : decode cX5_greatestSize 10 = .ok (.iload_n 1, 1) := by decide +kernel
theorem dX5_greatestSize_11 : decode cX5_greatestSize 11 = .ok (.aload_n 0, 1) := by decide +kernel
theorem dX5_greatestSize_12 : decode cX5_greatestSize 12 = .ok (.getfield 9, 3) := by decide +kernel
theorem dX5_greatestSize_15 : decode cX5_greatestSize 15 = .ok (.iload_n 2, 1) := by decide +kernel
theorem dX5_greatestSize_16 : decode cX5_greatestSize 16 = .ok (.iaload, 1) := by decide +kernel
theorem dX5_greatestSize_17 : decode cX5_greatestSize 17 = .ok (.invokestatic 64, 3) := by decide +kernel
theorem dX5_greatestSize_20 : decode cX5_greatestSize 20 = .ok (.istore_n 1, 1) := by decide +kernel
theorem dX5_greatestSize_21 : decode cX5_greatestSize 21 = .ok (.iinc 2 1, 3) := by decide +kernel
theorem dX5_greatestSize_24 : decode cX5_greatestSize 24 = .ok (.goto (-20), 3) := by decide +kernel
theorem dX5_greatestSize_27 : decode cX5_greatestSize 27 = .ok (.iload_n 1, 1) := by decide +kernel
theorem dX5_greatestSize_28 : decode cX5_greatestSize 28 = .ok (.ireturn, 1) := by decide +kernel
theorem dX5_countOfSize_0 : decode cX5_countOfSize 0 = .ok (.iconst 0, 1) := by decide +kernel
theorem dX5_countOfSize_1 : decode cX5_countOfSize 1 = .ok (.istore_n 2, 1) := by decide +kernel
theorem dX5_countOfSize_2 : decode cX5_countOfSize 2 = .ok (.iconst 0, 1) := by decide +kernel
theorem dX5_countOfSize_3 : decode cX5_countOfSize 3 = .ok (.istore_n 3, 1) := by decide +kernel
theorem dX5_countOfSize_4 : decode cX5_countOfSize 4 = .ok (.iload_n 3, 1) := by decide +kernel
theorem dX5_countOfSize_5 : decode cX5_countOfSize 5 = .ok (.bipush 64, 2) := by decide +kernel
theorem dX5_countOfSize_7 : decode cX5_countOfSize 7 = .ok (.if_icmp .ge 22, 3) := by decide +kernel
theorem dX5_countOfSize_10 : decode cX5_countOfSize 10 = .ok (.aload_n 0, 1) := by decide +kernel
theorem dX5_countOfSize_11 : decode cX5_countOfSize 11 = .ok (.getfield 9, 3) := by decide +kernel
theorem dX5_countOfSize_14 : decode cX5_countOfSize 14 = .ok (.iload_n 3, 1) := by decide +kernel
theorem dX5_countOfSize_15 : decode cX5_countOfSize 15 = .ok (.iaload, 1) := by decide +kernel
theorem dX5_countOfSize_16 : decode cX5_countOfSize 16 = .ok (.iload_n 1, 1) := by decide +kernel
theorem dX5_countOfSize_17 : decode cX5_countOfSize 17 = .ok (.if_icmp .ne 6, 3) := by decide +kernel
theorem dX5_countOfSize_20 : decode cX5_countOfSize 20 = .ok (.iinc 2 1, 3) := by decide +kernel
theorem dX5_countOfSize_23 : decode cX5_countOfSize 23 = .ok (.iinc 3 1, 3) := by decide +kernel
theorem dX5_countOfSize_26 : decode cX5_countOfSize 26 = .ok (.goto (-22), 3) := by decide +kernel
theorem dX5_countOfSize_29 : decode cX5_countOfSize 29 = .ok (.iload_n 2, 1) := by decide +kernel
theorem dX5_countOfSize_30 : decode cX5_countOfSize 30 = .ok (.ireturn, 1) := by decide +kernel
theorem dX5_countAll_0 : decode cX5_countAll 0 = .ok (.bipush 64, 2) := by decide +kernel
theorem dX5_countAll_2 : decode cX5_countAll 2 = .ok (.aload_n 0, 1) := by decide +kernel
theorem dX5_countAll_3 : decode cX5_countAll 3 = .ok (.iconst 0, 1) := by decide +kernel
theorem dX5_countAll_4 : decode cX5_countAll 4 = .ok (.invokevirtual 69, 3) := by decide +kernel
theorem dX5_countAll_7 : decode cX5_countAll 7 = .ok (.isub, 1) := by decide +kernel
theorem dX5_countAll_8 : decode cX5_countAll 8 = .ok (.ireturn, 1) := by decide +kernel
theorem dX5_countRoomFor_0 : decode cX5_countRoomFor 0 = .ok (.iconst 0, 1) := by decide +kernel
theorem dX5_countRoomFor_1 : decode cX5_countRoomFor 1 = .ok (.istore_n 2, 1) := by decide +kernel
theorem dX5_countRoomFor_2 : decode cX5_countRoomFor 2 = .ok (.iconst 0, 1) := by decide +kernel
theorem dX5_countRoomFor_3 : decode cX5_countRoomFor 3 = .ok (.istore_n 3, 1) := by decide +kernel
theorem dX5_countRoomFor_4 : decode cX5_countRoomFor 4 = .ok (.iload_n 1, 1) := by decide +kernel
theorem dX5_countRoomFor_5 : decode cX5_countRoomFor 5 = .ok (.iconst 1, 1) := by decide +kernel
theorem dX5_countRoomFor_6 : decode cX5_countRoomFor 6 = .ok (.if_icmp .lt 26, 3) := by decide +kernel
theorem dX5_countRoomFor_9 : decode cX5_countRoomFor 9 = .ok (.iload_n 3, 1) := by decide +kernel
theorem dX5_countRoomFor_10 : decode cX5_countRoomFor 10 = .ok (.bipush 64, 2) := by decide +kernel
theorem dX5_countRoomFor_12 : decode cX5_countRoomFor 12 = .ok (.if_icmp .ge 20, 3) := by decide +kernel
theorem dX5_countRoomFor_15 : decode cX5_countRoomFor 15 = .ok (.iload_n 2, 1) := by decide +kernel
theorem dX5_countRoomFor_16 : decode cX5_countRoomFor 16 = .ok (.aload_n 0, 1) := by decide +kernel
theorem dX5_countRoomFor_17 : decode cX5_countRoomFor 17 = .ok (.getfield 9, 3) := by decide +kernel
theorem dX5_countRoomFor_20 : decode cX5_countRoomFor 20 = .ok (.iload_n 3, 1) := by decide +kernel
theorem dX5_countRoomFor_21 : decode cX5_countRoomFor 21 = .ok (.iaload, 1) := by decide +kernel
theorem dX5_countRoomFor_22 : decode cX5_countRoomFor 22 = .ok (.iload_n 1, 1) := by decide +kernel
theorem dX5_countRoomFor_23 : decode cX5_countRoomFor 23 = .ok (.idiv, 1) := by decide +kernel
theorem dX5_countRoomFor_24 : decode cX5_countRoomFor 24 = .ok (.iadd, 1) := by decide +kernel
theorem dX5_countRoomFor_25 : decode cX5_countRoomFor 25 = .ok (.istore_n 2, 1) := by decide +kernel
theorem dX5_countRoomFor_26 : decode cX5_countRoomFor 26 = .ok (.iinc 3 1, 3) := by decide +kernel
theorem dX5_countRoomFor_29 : decode cX5_countRoomFor 29 = .ok (.goto (-25), 3) := by decide +kernel
theorem dX5_countRoomFor_32 : decode cX5_countRoomFor 32 = .ok (.iload_n 2, 1) := by decide +kernel
theorem dX5_countRoomFor_33 : decode cX5_countRoomFor 33 = .ok (.ireturn, 1) := by decide +kernel
theorem dX5_startOfPlace_0 : decode cX5_startOfPlace 0 = .ok (.iconst (-1), 1) := by decide +kernel
theorem dX5_startOfPlace_1 : decode cX5_startOfPlace 1 = .ok (.istore_n 2, 1) := by decide +kernel
theorem dX5_startOfPlace_2 : decode cX5_startOfPlace 2 = .ok (.iconst 0, 1) := by decide +kernel
theorem dX5_startOfPlace_3 : decode cX5_startOfPlace 3 = .ok (.istore_n 3, 1) := by decide +kernel
theorem dX5_startOfPlace_4 : decode cX5_startOfPlace 4 = .ok (.iload_n 3, 1) := by decide +kernel
theorem dX5_startOfPlace_5 : decode cX5_startOfPlace 5 = .ok (.bipush 64, 2) := by decide +kernel
theorem dX5_startOfPlace_7 : decode cX5_startOfPlace 7 = .ok (.if_icmp .ge 28, 3) := by decide +kernel
theorem dX5_startOfPlace_10 : decode cX5_startOfPlace 10 = .ok (.aload_n 0, 1) := by decide +kernel
theorem dX5_startOfPlace_11 : decode cX5_startOfPlace 11 = .ok (.getfield 9, 3) := by decide +kernel
theorem dX5_startOfPlace_14 : decode cX5_startOfPlace 14 = .ok (.iload_n 3, 1) := by decide +kernel
theorem dX5_startOfPlace_15 : decode cX5_startOfPlace 15 = .ok (.iaload, 1) := by decide +kernel
theorem dX5_startOfPlace_16 : decode cX5_startOfPlace 16 = .ok (.ifCond .le 13, 3) := by decide +kernel
theorem dX5_startOfPlace_19 : decode cX5_startOfPlace 19 = .ok (.iinc 2 1, 3) := by decide +kernel
theorem dX5_startOfPlace_22 : decode cX5_startOfPlace 22 = .ok (.iload_n 2, 1) := by decide +kernel
theorem dX5_startOfPlace_23 : decode cX5_startOfPlace 23 = .ok (.iload_n 1, 1) := by decide +kernel
theorem dX5_startOfPlace_24 : decode cX5_startOfPlace 24 = .ok (.if_icmp .ne 5, 3) := by decide +kernel
theorem dX5_startOfPlace_27 : decode cX5_startOfPlace 27 = .ok (.iload_n 3, 1) := by decide +kernel
theorem dX5_startOfPlace_28 : decode cX5_startOfPlace 28 = .ok (.ireturn, 1) := by decide +kernel
theorem dX5_startOfPlace_29 : decode cX5_startOfPlace 29 = .ok (.iinc 3 1, 3) := by decide +kernel
theorem dX5_startOfPlace_32 : decode cX5_startOfPlace 32 = .ok (.goto (-28), 3) := by decide +kernel
theorem dX5_startOfPlace_35 : decode cX5_startOfPlace 35 = .ok (.iconst (-1), 1) := by decide +kernel
theorem dX5_startOfPlace_36 : decode cX5_startOfPlace 36 = .ok (.ireturn, 1) := by decide +kernel
theorem dX5_startOf_0 : decode cX5_startOf 0 = .ok (.iconst 0, 1) := by decide +kernel
theorem dX5_startOf_1 : decode cX5_startOf 1 = .ok (.istore_n 2, 1) := by decide +kernel
theorem dX5_startOf_2 : decode cX5_startOf 2 = .ok (.iload_n 2, 1) := by decide +kernel
theorem dX5_startOf_3 : decode cX5_startOf 3 = .ok (.bipush 64, 2) := by decide +kernel
theorem dX5_startOf_5 : decode cX5_startOf 5 = .ok (.if_icmp .ge 25, 3) := by decide +kernel
theorem dX5_startOf_8 : decode cX5_startOf 8 = .ok (.iload_n 1, 1) := by decide +kernel
theorem dX5_startOf_9 : decode cX5_startOf 9 = .ok (.iload_n 2, 1) := by decide +kernel
theorem dX5_startOf_10 : decode cX5_startOf 10 = .ok (.aload_n 0, 1) := by decide +kernel
theorem dX5_startOf_11 : decode cX5_startOf 11 = .ok (.getfield 9, 3) := by decide +kernel
theorem dX5_startOf_14 : decode cX5_startOf 14 = .ok (.iload_n 2, 1) := by decide +kernel
theorem dX5_startOf_15 : decode cX5_startOf 15 = .ok (.iaload, 1) := by decide +kernel
theorem dX5_startOf_16 : decode cX5_startOf 16 = .ok (.invokestatic 72, 3) := by decide +kernel
theorem dX5_startOf_19 : decode cX5_startOf 19 = .ok (.ifCond .eq 5, 3) := by decide +kernel
theorem dX5_startOf_22 : decode cX5_startOf 22 = .ok (.iload_n 2, 1) := by decide +kernel
theorem dX5_startOf_23 : decode cX5_startOf 23 = .ok (.ireturn, 1) := by decide +kernel
theorem dX5_startOf_24 : decode cX5_startOf 24 = .ok (.iinc 2 1, 3) := by decide +kernel
theorem dX5_startOf_27 : decode cX5_startOf 27 = .ok (.goto (-25), 3) := by decide +kernel
theorem dX5_startOf_30 : decode cX5_startOf 30 = .ok (.iconst (-1), 1) := by decide +kernel
theorem dX5_startOf_31 : decode cX5_startOf 31 = .ok (.ireturn, 1) := by decide +kernel
theorem dX5_countWith_0 : decode cX5_countWith 0 = .ok (.iconst 0, 1) := by decide +kernel
theorem dX5_countWith_1 : decode cX5_countWith 1 = .ok (.istore_n 2, 1) := by decide +kernel
theorem dX5_countWith_2 : decode cX5_countWith 2 = .ok (.iconst 0, 1) := by decide +kernel
theorem dX5_countWith_3 : decode cX5_countWith 3 = .ok (.istore_n 3, 1) := by decide +kernel
theorem dX5_countWith_4 : decode cX5_countWith 4 = .ok (.iload_n 3, 1) := by decide +kernel
theorem dX5_countWith_5 : decode cX5_countWith 5 = .ok (.bipush 64, 2) := by decide +kernel
theorem dX5_countWith_7 : decode cX5_countWith 7 = .ok (.if_icmp .ge 26, 3) := by decide +kernel
theorem dX5_countWith_10 : decode cX5_countWith 10 = .ok (.iload_n 1, 1) := by decide +kernel
theorem dX5_countWith_11 : decode cX5_countWith 11 = .ok (.iload_n 3, 1) := by decide +kernel
theorem dX5_countWith_12 : decode cX5_countWith 12 = .ok (.aload_n 0, 1) := by decide +kernel
theorem dX5_countWith_13 : decode cX5_countWith 13 = .ok (.getfield 9, 3) := by decide +kernel
theorem dX5_countWith_16 : decode cX5_countWith 16 = .ok (.iload_n 3, 1) := by decide +kernel
theorem dX5_countWith_17 : decode cX5_countWith 17 = .ok (.iaload, 1) := by decide +kernel
theorem dX5_countWith_18 : decode cX5_countWith 18 = .ok (.invokestatic 72, 3) := by decide +kernel
theorem dX5_countWith_21 : decode cX5_countWith 21 = .ok (.ifCond .eq 6, 3) := by decide +kernel
theorem dX5_countWith_24 : decode cX5_countWith 24 = .ok (.iinc 2 1, 3) := by decide +kernel
theorem dX5_countWith_27 : decode cX5_countWith 27 = .ok (.iinc 3 1, 3) := by decide +kernel
theorem dX5_countWith_30 : decode cX5_countWith 30 = .ok (.goto (-26), 3) := by decide +kernel
theorem dX5_countWith_33 : decode cX5_countWith 33 = .ok (.iload_n 2, 1) := by decide +kernel
theorem dX5_countWith_34 : decode cX5_countWith 34 = .ok (.ireturn, 1) := by decide +kernel
theorem dX5_isWithin_0 : decode cX5_isWithin 0 = .ok (.iload_n 1, 1) := by decide +kernel
theorem dX5_isWithin_1 : decode cX5_isWithin 1 = .ok (.iload_n 0, 1) := by decide +kernel
theorem dX5_isWithin_2 : decode cX5_isWithin 2 = .ok (.if_icmp .gt 14, 3) := by decide +kernel
theorem dX5_isWithin_5 : decode cX5_isWithin 5 = .ok (.iload_n 0, 1) := by decide +kernel
theorem dX5_isWithin_6 : decode cX5_isWithin 6 = .ok (.iload_n 1, 1) := by decide +kernel
theorem dX5_isWithin_7 : decode cX5_isWithin 7 = .ok (.iload_n 2, 1) := by decide +kernel
theorem dX5_isWithin_8 : decode cX5_isWithin 8 = .ok (.iadd, 1) := by decide +kernel
theorem dX5_isWithin_9 : decode cX5_isWithin 9 = .ok (.if_icmp .ge 7, 3) := by decide +kernel
theorem dX5_isWithin_12 : decode cX5_isWithin 12 = .ok (.iconst 1, 1) := by decide +kernel
theorem dX5_isWithin_13 : decode cX5_isWithin 13 = .ok (.goto 4, 3) := by decide +kernel
theorem dX5_isWithin_16 : decode cX5_isWithin 16 = .ok (.iconst 0, 1) := by decide +kernel
theorem dX5_isWithin_17 : decode cX5_isWithin 17 = .ok (.ireturn, 1) := by decide +kernel
theorem dX6_init_0 : decode cX6_init 0 = .ok (.aload_n 0, 1) := by decide +kernel
theorem dX6_init_1 : decode cX6_init 1 = .ok (.invokespecial 3, 3) := by decide +kernel
theorem dX6_init_4 : decode cX6_init 4 = .ok (.aload_n 0, 1) := by decide +kernel
theorem dX6_init_5 : decode cX6_init 5 = .ok (.bipush 6, 2) := by decide +kernel
theorem dX6_init_7 : decode cX6_init 7 = .ok (.newarray .int, 2) := by decide +kernel
theorem dX6_init_9 : decode cX6_init 9 = .ok (.putfield 9, 3) := by decide +kernel
theorem dX6_init_12 : decode cX6_init 12 = .ok (.aload_n 0, 1) := by decide +kernel
theorem dX6_init_13 : decode cX6_init 13 = .ok (.bipush 6, 2) := by decide +kernel
theorem dX6_init_15 : decode cX6_init 15 = .ok (.newarray .int, 2) := by decide +kernel
theorem dX6_init_17 : decode cX6_init 17 = .ok (.putfield 15, 3) := by decide +kernel
theorem dX6_init_20 : decode cX6_init 20 = .ok (.aload_n 0, 1) := by decide +kernel
theorem dX6_init_21 : decode cX6_init 21 = .ok (.iconst 0, 1) := by decide +kernel
theorem dX6_init_22 : decode cX6_init 22 = .ok (.putfield 18, 3) := by decide +kernel
theorem dX6_init_25 : decode cX6_init 25 = .ok (.return_, 1) := by decide +kernel
theorem dX6_copyFrom_0 : decode cX6_copyFrom 0 = .ok (.aload_n 1, 1) := by decide +kernel
theorem dX6_copyFrom_1 : decode cX6_copyFrom 1 = .ok (.getfield 9, 3) := by decide +kernel
theorem dX6_copyFrom_4 : decode cX6_copyFrom 4 = .ok (.iconst 0, 1) := by decide +kernel
theorem dX6_copyFrom_5 : decode cX6_copyFrom 5 = .ok (.aload_n 0, 1) := by decide +kernel
theorem dX6_copyFrom_6 : decode cX6_copyFrom 6 = .ok (.getfield 9, 3) := by decide +kernel
theorem dX6_copyFrom_9 : decode cX6_copyFrom 9 = .ok (.iconst 0, 1) := by decide +kernel
theorem dX6_copyFrom_10 : decode cX6_copyFrom 10 = .ok (.bipush 6, 2) := by decide +kernel
theorem dX6_copyFrom_12 : decode cX6_copyFrom 12 = .ok (.invokestatic 22, 3) := by decide +kernel
theorem dX6_copyFrom_15 : decode cX6_copyFrom 15 = .ok (.aload_n 1, 1) := by decide +kernel
theorem dX6_copyFrom_16 : decode cX6_copyFrom 16 = .ok (.getfield 15, 3) := by decide +kernel
theorem dX6_copyFrom_19 : decode cX6_copyFrom 19 = .ok (.iconst 0, 1) := by decide +kernel
theorem dX6_copyFrom_20 : decode cX6_copyFrom 20 = .ok (.aload_n 0, 1) := by decide +kernel
theorem dX6_copyFrom_21 : decode cX6_copyFrom 21 = .ok (.getfield 15, 3) := by decide +kernel
theorem dX6_copyFrom_24 : decode cX6_copyFrom 24 = .ok (.iconst 0, 1) := by decide +kernel
theorem dX6_copyFrom_25 : decode cX6_copyFrom 25 = .ok (.bipush 6, 2) := by decide +kernel
theorem dX6_copyFrom_27 : decode cX6_copyFrom 27 = .ok (.invokestatic 22, 3) := by decide +kernel
theorem dX6_copyFrom_30 : decode cX6_copyFrom 30 = .ok (.aload_n 0, 1) := by decide +kernel
theorem dX6_copyFrom_31 : decode cX6_copyFrom 31 = .ok (.aload_n 1, 1) := by decide +kernel
theorem dX6_copyFrom_32 : decode cX6_copyFrom 32 = .ok (.getfield 18, 3) := by decide +kernel
theorem dX6_copyFrom_35 : decode cX6_copyFrom 35 = .ok (.putfield 18, 3) := by decide +kernel
theorem dX6_copyFrom_38 : decode cX6_copyFrom 38 = .ok (.return_, 1) := by decide +kernel
theorem dX6_has_0 : decode cX6_has 0 = .ok (.iload_n 1, 1) := by decide +kernel
theorem dX6_has_1 : decode cX6_has 1 = .ok (.ifCond .lt 21, 3) := by decide +kernel
theorem dX6_has_4 : decode cX6_has 4 = .ok (.iload_n 1, 1) := by decide +kernel
theorem dX6_has_5 : decode cX6_has 5 = .ok (.aload_n 0, 1) := by decide +kernel
theorem dX6_has_6 : decode cX6_has 6 = .ok (.getfield 18, 3) := by decide +kernel
theorem dX6_has_9 : decode cX6_has 9 = .ok (.if_icmp .ge 13, 3) := by decide +kernel
theorem dX6_has_12 : decode cX6_has 12 = .ok (.iload_n 1, 1) := by decide +kernel
theorem dX6_has_13 : decode cX6_has 13 = .ok (.bipush 6, 2) := by decide +kernel
theorem dX6_has_15 : decode cX6_has 15 = .ok (.if_icmp .ge 7, 3) := by decide +kernel
theorem dX6_has_18 : decode cX6_has 18 = .ok (.iconst 1, 1) := by decide +kernel
theorem dX6_has_19 : decode cX6_has 19 = .ok (.goto 4, 3) := by decide +kernel
theorem dX6_has_22 : decode cX6_has 22 = .ok (.iconst 0, 1) := by decide +kernel
theorem dX6_has_23 : decode cX6_has 23 = .ok (.ireturn, 1) := by decide +kernel
theorem dX6_nameAt_0 : decode cX6_nameAt 0 = .ok (.aload_n 0, 1) := by decide +kernel
theorem dX6_nameAt_1 : decode cX6_nameAt 1 = .ok (.iload_n 1, 1) := by decide +kernel
theorem dX6_nameAt_2 : decode cX6_nameAt 2 = .ok (.invokevirtual 28, 3) := by decide +kernel
theorem dX6_nameAt_5 : decode cX6_nameAt 5 = .ok (.ifCond .eq 12, 3) := by decide +kernel
theorem dX6_nameAt_8 : decode cX6_nameAt 8 = .ok (.aload_n 0, 1) := by decide +kernel
theorem dX6_nameAt_9 : decode cX6_nameAt 9 = .ok (.getfield 9, 3) := by decide +kernel
theorem dX6_nameAt_12 : decode cX6_nameAt 12 = .ok (.iload_n 1, 1) := by decide +kernel
theorem dX6_nameAt_13 : decode cX6_nameAt 13 = .ok (.iaload, 1) := by decide +kernel
theorem dX6_nameAt_14 : decode cX6_nameAt 14 = .ok (.goto 4, 3) := by decide +kernel
theorem dX6_nameAt_17 : decode cX6_nameAt 17 = .ok (.iconst (-1), 1) := by decide +kernel
theorem dX6_nameAt_18 : decode cX6_nameAt 18 = .ok (.ireturn, 1) := by decide +kernel
theorem dX6_amountAt_0 : decode cX6_amountAt 0 = .ok (.aload_n 0, 1) := by decide +kernel
theorem dX6_amountAt_1 : decode cX6_amountAt 1 = .ok (.iload_n 1, 1) := by decide +kernel
theorem dX6_amountAt_2 : decode cX6_amountAt 2 = .ok (.invokevirtual 28, 3) := by decide +kernel
theorem dX6_amountAt_5 : decode cX6_amountAt 5 = .ok (.ifCond .eq 12, 3) := by decide +kernel
theorem dX6_amountAt_8 : decode cX6_amountAt 8 = .ok (.aload_n 0, 1) := by decide +kernel
theorem dX6_amountAt_9 : decode cX6_amountAt 9 = .ok (.getfield 15, 3) := by decide +kernel
theorem dX6_amountAt_12 : decode cX6_amountAt 12 = .ok (.iload_n 1, 1) := by decide +kernel
theorem dX6_amountAt_13 : decode cX6_amountAt 13 = .ok (.iaload, 1) := by decide +kernel
theorem dX6_amountAt_14 : decode cX6_amountAt 14 = .ok (.goto 4, 3) := by decide +kernel
theorem dX6_amountAt_17 : decode cX6_amountAt 17 = .ok (.iconst 0, 1) := by decide +kernel
theorem dX6_amountAt_18 : decode cX6_amountAt 18 = .ok (.ireturn, 1) := by decide +kernel
theorem dX6_add_0 : decode cX6_add 0 = .ok (.aload_n 0, 1) := by decide +kernel
theorem dX6_add_1 : decode cX6_add 1 = .ok (.getfield 18, 3) := by decide +kernel
theorem dX6_add_4 : decode cX6_add 4 = .ok (.ifCond .lt 42, 3) := by decide +kernel
theorem dX6_add_7 : decode cX6_add 7 = .ok (.aload_n 0, 1) := by decide +kernel
theorem dX6_add_8 : decode cX6_add 8 = .ok (.getfield 18, 3) := by decide +kernel
theorem dX6_add_11 : decode cX6_add 11 = .ok (.bipush 6, 2) := by decide +kernel
theorem dX6_add_13 : decode cX6_add 13 = .ok (.if_icmp .ge 33, 3) := by decide +kernel
theorem dX6_add_16 : decode cX6_add 16 = .ok (.aload_n 0, 1) := by decide +kernel
theorem dX6_add_17 : decode cX6_add 17 = .ok (.getfield 9, 3) := by decide +kernel
theorem dX6_add_20 : decode cX6_add 20 = .ok (.aload_n 0, 1) := by decide +kernel
theorem dX6_add_21 : decode cX6_add 21 = .ok (.getfield 18, 3) := by decide +kernel
theorem dX6_add_24 : decode cX6_add 24 = .ok (.iload_n 1, 1) := by decide +kernel
theorem dX6_add_25 : decode cX6_add 25 = .ok (.iastore, 1) := by decide +kernel
theorem dX6_add_26 : decode cX6_add 26 = .ok (.aload_n 0, 1) := by decide +kernel
theorem dX6_add_27 : decode cX6_add 27 = .ok (.getfield 15, 3) := by decide +kernel
theorem dX6_add_30 : decode cX6_add 30 = .ok (.aload_n 0, 1) := by decide +kernel
theorem dX6_add_31 : decode cX6_add 31 = .ok (.getfield 18, 3) := by decide +kernel
theorem dX6_add_34 : decode cX6_add 34 = .ok (.iload_n 2, 1) := by decide +kernel
theorem dX6_add_35 : decode cX6_add 35 = .ok (.iastore, 1) := by decide +kernel
theorem dX6_add_36 : decode cX6_add 36 = .ok (.aload_n 0, 1) := by decide +kernel
theorem dX6_add_37 : decode cX6_add 37 = .ok (.dup, 1) := by decide +kernel
theorem dX6_add_38 : decode cX6_add 38 = .ok (.getfield 18, 3) := by decide +kernel
theorem dX6_add_41 : decode cX6_add 41 = .ok (.iconst 1, 1) := by decide +kernel
theorem dX6_add_42 : decode cX6_add 42 = .ok (.iadd, 1) := by decide +kernel
theorem dX6_add_43 : decode cX6_add 43 = .ok (.putfield 18, 3) := by decide +kernel
theorem dX6_add_46 : decode cX6_add 46 = .ok (.return_, 1) := by decide +kernel
theorem dX6_remove_0 : decode cX6_remove 0 = .ok (.aload_n 0, 1) := by decide +kernel
theorem dX6_remove_1 : decode cX6_remove 1 = .ok (.iload_n 1, 1) := by decide +kernel
theorem dX6_remove_2 : decode cX6_remove 2 = .ok (.invokevirtual 28, 3) := by decide +kernel
theorem dX6_remove_5 : decode cX6_remove 5 = .ok (.ifCond .ne 4, 3) := by decide +kernel
theorem dX6_remove_8 : decode cX6_remove 8 = .ok (.return_, 1) := by decide +kernel
theorem dX6_remove_9 : decode cX6_remove 9 = .ok (.iload_n 1, 1) := by decide +kernel
theorem dX6_remove_10 : decode cX6_remove 10 = .ok (.istore_n 2, 1) := by decide +kernel
theorem dX6_remove_11 : decode cX6_remove 11 = .ok (.iload_n 2, 1) := by decide +kernel
theorem dX6_remove_12 : decode cX6_remove 12 = .ok (.aload_n 0, 1) := by decide +kernel
theorem dX6_remove_13 : decode cX6_remove 13 = .ok (.getfield 18, 3) := by decide +kernel
theorem dX6_remove_16 : decode cX6_remove 16 = .ok (.iconst 1, 1) := by decide +kernel
theorem dX6_remove_17 : decode cX6_remove 17 = .ok (.isub, 1) := by decide +kernel
theorem dX6_remove_18 : decode cX6_remove 18 = .ok (.if_icmp .ge 42, 3) := by decide +kernel
theorem dX6_remove_21 : decode cX6_remove 21 = .ok (.iload_n 2, 1) := by decide +kernel
theorem dX6_remove_22 : decode cX6_remove 22 = .ok (.iconst 5, 1) := by decide +kernel
theorem dX6_remove_23 : decode cX6_remove 23 = .ok (.if_icmp .ge 37, 3) := by decide +kernel
theorem dX6_remove_26 : decode cX6_remove 26 = .ok (.aload_n 0, 1) := by decide +kernel
theorem dX6_remove_27 : decode cX6_remove 27 = .ok (.getfield 9, 3) := by decide +kernel
theorem dX6_remove_30 : decode cX6_remove 30 = .ok (.iload_n 2, 1) := by decide +kernel
theorem dX6_remove_31 : decode cX6_remove 31 = .ok (.aload_n 0, 1) := by decide +kernel
theorem dX6_remove_32 : decode cX6_remove 32 = .ok (.getfield 9, 3) := by decide +kernel
theorem dX6_remove_35 : decode cX6_remove 35 = .ok (.iload_n 2, 1) := by decide +kernel
theorem dX6_remove_36 : decode cX6_remove 36 = .ok (.iconst 1, 1) := by decide +kernel
theorem dX6_remove_37 : decode cX6_remove 37 = .ok (.iadd, 1) := by decide +kernel
theorem dX6_remove_38 : decode cX6_remove 38 = .ok (.iaload, 1) := by decide +kernel
theorem dX6_remove_39 : decode cX6_remove 39 = .ok (.iastore, 1) := by decide +kernel
theorem dX6_remove_40 : decode cX6_remove 40 = .ok (.aload_n 0, 1) := by decide +kernel
theorem dX6_remove_41 : decode cX6_remove 41 = .ok (.getfield 15, 3) := by decide +kernel
theorem dX6_remove_44 : decode cX6_remove 44 = .ok (.iload_n 2, 1) := by decide +kernel
theorem dX6_remove_45 : decode cX6_remove 45 = .ok (.aload_n 0, 1) := by decide +kernel
theorem dX6_remove_46 : decode cX6_remove 46 = .ok (.getfield 15, 3) := by decide +kernel
theorem dX6_remove_49 : decode cX6_remove 49 = .ok (.iload_n 2, 1) := by decide +kernel
theorem dX6_remove_50 : decode cX6_remove 50 = .ok (.iconst 1, 1) := by decide +kernel
theorem dX6_remove_51 : decode cX6_remove 51 = .ok (.iadd, 1) := by decide +kernel
theorem dX6_remove_52 : decode cX6_remove 52 = .ok (.iaload, 1) := by decide +kernel
theorem dX6_remove_53 : decode cX6_remove 53 = .ok (.iastore, 1) := by decide +kernel
theorem dX6_remove_54 : decode cX6_remove 54 = .ok (.iinc 2 1, 3) := by decide +kernel
theorem dX6_remove_57 : decode cX6_remove 57 = .ok (.goto (-46), 3) := by decide +kernel
theorem dX6_remove_60 : decode cX6_remove 60 = .ok (.aload_n 0, 1) := by decide +kernel
theorem dX6_remove_61 : decode cX6_remove 61 = .ok (.dup, 1) := by decide +kernel
theorem dX6_remove_62 : decode cX6_remove 62 = .ok (.getfield 18, 3) := by decide +kernel
theorem dX6_remove_65 : decode cX6_remove 65 = .ok (.iconst 1, 1) := by decide +kernel
theorem dX6_remove_66 : decode cX6_remove 66 = .ok (.isub, 1) := by decide +kernel
theorem dX6_remove_67 : decode cX6_remove 67 = .ok (.putfield 18, 3) := by decide +kernel
theorem dX6_remove_70 : decode cX6_remove 70 = .ok (.return_, 1) := by decide +kernel
theorem dX6_countOf_0 : decode cX6_countOf 0 = .ok (.iconst 0, 1) := by decide +kernel
theorem dX6_countOf_1 : decode cX6_countOf 1 = .ok (.istore_n 2, 1) := by decide +kernel
theorem dX6_countOf_2 : decode cX6_countOf 2 = .ok (.iconst 0, 1) := by decide +kernel
theorem dX6_countOf_3 : decode cX6_countOf 3 = .ok (.istore_n 3, 1) := by decide +kernel
theorem dX6_countOf_4 : decode cX6_countOf 4 = .ok (.iload_n 3, 1) := by decide +kernel
theorem dX6_countOf_5 : decode cX6_countOf 5 = .ok (.aload_n 0, 1) := by decide +kernel
theorem dX6_countOf_6 : decode cX6_countOf 6 = .ok (.getfield 18, 3) := by decide +kernel
theorem dX6_countOf_9 : decode cX6_countOf 9 = .ok (.if_icmp .ge 21, 3) := by decide +kernel
theorem dX6_countOf_12 : decode cX6_countOf 12 = .ok (.aload_n 0, 1) := by decide +kernel
theorem dX6_countOf_13 : decode cX6_countOf 13 = .ok (.iload_n 3, 1) := by decide +kernel
theorem dX6_countOf_14 : decode cX6_countOf 14 = .ok (.invokevirtual 32, 3) := by decide +kernel
theorem dX6_countOf_17 : decode cX6_countOf 17 = .ok (.iload_n 1, 1) := by decide +kernel
theorem dX6_countOf_18 : decode cX6_countOf 18 = .ok (.if_icmp .ne 6, 3) := by decide +kernel
theorem dX6_countOf_21 : decode cX6_countOf 21 = .ok (.iinc 2 1, 3) := by decide +kernel
theorem dX6_countOf_24 : decode cX6_countOf 24 = .ok (.iinc 3 1, 3) := by decide +kernel
theorem dX6_countOf_27 : decode cX6_countOf 27 = .ok (.goto (-23), 3) := by decide +kernel
theorem dX6_countOf_30 : decode cX6_countOf 30 = .ok (.iload_n 2, 1) := by decide +kernel
theorem dX6_countOf_31 : decode cX6_countOf 31 = .ok (.ireturn, 1) := by decide +kernel
theorem dX7_init_0 : decode cX7_init 0 = .ok (.aload_n 0, 1) := by decide +kernel
theorem dX7_init_1 : decode cX7_init 1 = .ok (.invokespecial 3, 3) := by decide +kernel
theorem dX7_init_4 : decode cX7_init 4 = .ok (.aload_n 0, 1) := by decide +kernel
theorem dX7_init_5 : decode cX7_init 5 = .ok (.new 9, 3) := by decide +kernel
theorem dX7_init_8 : decode cX7_init 8 = .ok (.dup, 1) := by decide +kernel
theorem dX7_init_9 : decode cX7_init 9 = .ok (.invokespecial 11, 3) := by decide +kernel
theorem dX7_init_12 : decode cX7_init 12 = .ok (.putfield 12, 3) := by decide +kernel
theorem dX7_init_15 : decode cX7_init 15 = .ok (.aload_n 0, 1) := by decide +kernel
theorem dX7_init_16 : decode cX7_init 16 = .ok (.new 9, 3) := by decide +kernel
theorem dX7_init_19 : decode cX7_init 19 = .ok (.dup, 1) := by decide +kernel
theorem dX7_init_20 : decode cX7_init 20 = .ok (.invokespecial 11, 3) := by decide +kernel
theorem dX7_init_23 : decode cX7_init 23 = .ok (.putfield 16, 3) := by decide +kernel
theorem dX7_init_26 : decode cX7_init 26 = .ok (.aload_n 0, 1) := by decide +kernel
theorem dX7_init_27 : decode cX7_init 27 = .ok (.new 9, 3) := by decide +kernel
theorem dX7_init_30 : decode cX7_init 30 = .ok (.dup, 1) := by decide +kernel
theorem dX7_init_31 : decode cX7_init 31 = .ok (.invokespecial 11, 3) := by decide +kernel
theorem dX7_init_34 : decode cX7_init 34 = .ok (.putfield 19, 3) := by decide +kernel
theorem dX7_init_37 : decode cX7_init 37 = .ok (.aload_n 0, 1) := by decide +kernel
theorem dX7_init_38 : decode cX7_init 38 = .ok (.new 22, 3) := by decide +kernel
theorem dX7_init_41 : decode cX7_init 41 = .ok (.dup, 1) := by decide +kernel
theorem dX7_init_42 : decode cX7_init 42 = .ok (.invokespecial 24, 3) := by decide +kernel
theorem dX7_init_45 : decode cX7_init 45 = .ok (.putfield 25, 3) := by decide +kernel
theorem dX7_init_48 : decode cX7_init 48 = .ok (.aload_n 0, 1) := by decide +kernel
theorem dX7_init_49 : decode cX7_init 49 = .ok (.new 29, 3) := by decide +kernel
theorem dX7_init_52 : decode cX7_init 52 = .ok (.dup, 1) := by decide +kernel
theorem dX7_init_53 : decode cX7_init 53 = .ok (.invokespecial 31, 3) := by decide +kernel
theorem dX7_init_56 : decode cX7_init 56 = .ok (.putfield 32, 3) := by decide +kernel
theorem dX7_init_59 : decode cX7_init 59 = .ok (.aload_n 0, 1) := by decide +kernel
theorem dX7_init_60 : decode cX7_init 60 = .ok (.new 36, 3) := by decide +kernel
theorem dX7_init_63 : decode cX7_init 63 = .ok (.dup, 1) := by decide +kernel
theorem dX7_init_64 : decode cX7_init 64 = .ok (.invokespecial 38, 3) := by decide +kernel
theorem dX7_init_67 : decode cX7_init 67 = .ok (.putfield 39, 3) := by decide +kernel
theorem dX7_init_70 : decode cX7_init 70 = .ok (.aload_n 0, 1) := by decide +kernel
theorem dX7_init_71 : decode cX7_init 71 = .ok (.iconst (-1), 1) := by decide +kernel
theorem dX7_init_72 : decode cX7_init 72 = .ok (.putfield 43, 3) := by decide +kernel
theorem dX7_init_75 : decode cX7_init 75 = .ok (.aload_n 0, 1) := by decide +kernel
theorem dX7_init_76 : decode cX7_init 76 = .ok (.iconst 0, 1) := by decide +kernel
theorem dX7_init_77 : decode cX7_init 77 = .ok (.putfield 47, 3) := by decide +kernel
theorem dX7_init_80 : decode cX7_init 80 = .ok (.aload_n 0, 1) := by decide +kernel
theorem dX7_init_81 : decode cX7_init 81 = .ok (.iconst 0, 1) := by decide +kernel
theorem dX7_init_82 : decode cX7_init 82 = .ok (.putfield 51, 3) := by decide +kernel
theorem dX7_init_85 : decode cX7_init 85 = .ok (.aload_n 0, 1) := by decide +kernel
theorem dX7_init_86 : decode cX7_init 86 = .ok (.iconst 0, 1) := by decide +kernel
theorem dX7_init_87 : decode cX7_init 87 = .ok (.putfield 54, 3) := by decide +kernel
theorem dX7_init_90 : decode cX7_init 90 = .ok (.return_, 1) := by decide +kernel
theorem dX7_lend_0 : decode cX7_lend 0 = .ok (.aload_n 0, 1) := by decide +kernel
theorem dX7_lend_1 : decode cX7_lend 1 = .ok (.iload_n 1, 1) := by decide +kernel
theorem dX7_lend_2 : decode cX7_lend 2 = .ok (.iload_n 2, 1) := by decide +kernel
theorem dX7_lend_3 : decode cX7_lend 3 = .ok (.invokevirtual 57, 3) := by decide +kernel
theorem dX7_lend_6 : decode cX7_lend 6 = .ok (.invokestatic 61, 3) := by decide +kernel
theorem dX7_lend_9 : decode cX7_lend 9 = .ok (.aload_n 0, 1) := by decide +kernel
theorem dX7_lend_10 : decode cX7_lend 10 = .ok (.getfield 25, 3) := by decide +kernel
theorem dX7_lend_13 : decode cX7_lend 13 = .ok (.aload_n 0, 1) := by decide +kernel
theorem dX7_lend_14 : decode cX7_lend 14 = .ok (.getfield 12, 3) := by decide +kernel
theorem dX7_lend_17 : decode cX7_lend 17 = .ok (.invokevirtual 65, 3) := by decide +kernel
theorem dX7_lend_20 : decode cX7_lend 20 = .ok (.aload_n 0, 1) := by decide +kernel
theorem dX7_lend_21 : decode cX7_lend 21 = .ok (.getfield 12, 3) := by decide +kernel
theorem dX7_lend_24 : decode cX7_lend 24 = .ok (.iload_n 1, 1) := by decide +kernel
theorem dX7_lend_25 : decode cX7_lend 25 = .ok (.iload_n 2, 1) := by decide +kernel
theorem dX7_lend_26 : decode cX7_lend 26 = .ok (.invokevirtual 69, 3) := by decide +kernel
theorem dX7_lend_29 : decode cX7_lend 29 = .ok (.ireturn, 1) := by decide +kernel
theorem dX7_ask_0 : decode cX7_ask 0 = .ok (.aload_n 0, 1) := by decide +kernel
theorem dX7_ask_1 : decode cX7_ask 1 = .ok (.iload_n 1, 1) := by decide +kernel
theorem dX7_ask_2 : decode cX7_ask 2 = .ok (.iload_n 2, 1) := by decide +kernel
theorem dX7_ask_3 : decode cX7_ask 3 = .ok (.invokevirtual 72, 3) := by decide +kernel
theorem dX7_ask_6 : decode cX7_ask 6 = .ok (.invokestatic 61, 3) := by decide +kernel
theorem dX7_ask_9 : decode cX7_ask 9 = .ok (.aload_n 0, 1) := by decide +kernel
theorem dX7_ask_10 : decode cX7_ask 10 = .ok (.getfield 25, 3) := by decide +kernel
theorem dX7_ask_13 : decode cX7_ask 13 = .ok (.aload_n 0, 1) := by decide +kernel
theorem dX7_ask_14 : decode cX7_ask 14 = .ok (.getfield 12, 3) := by decide +kernel
theorem dX7_ask_17 : decode cX7_ask 17 = .ok (.invokevirtual 65, 3) := by decide +kernel
theorem dX7_ask_20 : decode cX7_ask 20 = .ok (.aload_n 0, 1) := by decide +kernel
theorem dX7_ask_21 : decode cX7_ask 21 = .ok (.getfield 12, 3) := by decide +kernel
theorem dX7_ask_24 : decode cX7_ask 24 = .ok (.iload_n 1, 1) := by decide +kernel
theorem dX7_ask_25 : decode cX7_ask 25 = .ok (.iload_n 2, 1) := by decide +kernel
theorem dX7_ask_26 : decode cX7_ask 26 = .ok (.invokevirtual 75, 3) := by decide +kernel
theorem dX7_ask_29 : decode cX7_ask 29 = .ok (.ireturn, 1) := by decide +kernel
theorem dX7_give_0 : decode cX7_give 0 = .ok (.aload_n 0, 1) := by decide +kernel
theorem dX7_give_1 : decode cX7_give 1 = .ok (.iload_n 1, 1) := by decide +kernel
theorem dX7_give_2 : decode cX7_give 2 = .ok (.invokevirtual 78, 3) := by decide +kernel
theorem dX7_give_5 : decode cX7_give 5 = .ok (.invokestatic 61, 3) := by decide +kernel
theorem dX7_give_8 : decode cX7_give 8 = .ok (.aload_n 0, 1) := by decide +kernel
theorem dX7_give_9 : decode cX7_give 9 = .ok (.getfield 25, 3) := by decide +kernel
theorem dX7_give_12 : decode cX7_give 12 = .ok (.aload_n 0, 1) := by decide +kernel
theorem dX7_give_13 : decode cX7_give 13 = .ok (.getfield 12, 3) := by decide +kernel
theorem dX7_give_16 : decode cX7_give 16 = .ok (.invokevirtual 65, 3) := by decide +kernel
theorem dX7_give_19 : decode cX7_give 19 = .ok (.aload_n 0, 1) := by decide +kernel
theorem dX7_give_20 : decode cX7_give 20 = .ok (.getfield 12, 3) := by decide +kernel
theorem dX7_give_23 : decode cX7_give 23 = .ok (.iload_n 1, 1) := by decide +kernel
theorem dX7_give_24 : decode cX7_give 24 = .ok (.invokevirtual 82, 3) := by decide +kernel
theorem dX7_give_27 : decode cX7_give 27 = .ok (.ireturn, 1) := by decide +kernel
theorem dX7_giveAll_0 : decode cX7_giveAll 0 = .ok (.aload_n 0, 1) := by decide +kernel
theorem dX7_giveAll_1 : decode cX7_giveAll 1 = .ok (.iload_n 1, 1) := by decide +kernel
theorem dX7_giveAll_2 : decode cX7_giveAll 2 = .ok (.invokevirtual 85, 3) := by decide +kernel
theorem dX7_giveAll_5 : decode cX7_giveAll 5 = .ok (.invokestatic 61, 3) := by decide +kernel
theorem dX7_giveAll_8 : decode cX7_giveAll 8 = .ok (.aload_n 0, 1) := by decide +kernel
theorem dX7_giveAll_9 : decode cX7_giveAll 9 = .ok (.getfield 25, 3) := by decide +kernel
theorem dX7_giveAll_12 : decode cX7_giveAll 12 = .ok (.aload_n 0, 1) := by decide +kernel
theorem dX7_giveAll_13 : decode cX7_giveAll 13 = .ok (.getfield 12, 3) := by decide +kernel
theorem dX7_giveAll_16 : decode cX7_giveAll 16 = .ok (.invokevirtual 65, 3) := by decide +kernel
theorem dX7_giveAll_19 : decode cX7_giveAll 19 = .ok (.aload_n 0, 1) := by decide +kernel
theorem dX7_giveAll_20 : decode cX7_giveAll 20 = .ok (.getfield 12, 3) := by decide +kernel
theorem dX7_giveAll_23 : decode cX7_giveAll 23 = .ok (.iload_n 1, 1) := by decide +kernel
theorem dX7_giveAll_24 : decode cX7_giveAll 24 = .ok (.invokevirtual 88, 3) := by decide +kernel
theorem dX7_giveAll_27 : decode cX7_giveAll 27 = .ok (.ireturn, 1) := by decide +kernel
theorem dX7_resize_0 : decode cX7_resize 0 = .ok (.aload_n 0, 1) := by decide +kernel
theorem dX7_resize_1 : decode cX7_resize 1 = .ok (.iload_n 1, 1) := by decide +kernel
theorem dX7_resize_2 : decode cX7_resize 2 = .ok (.iload_n 2, 1) := by decide +kernel
theorem dX7_resize_3 : decode cX7_resize 3 = .ok (.invokevirtual 91, 3) := by decide +kernel
theorem dX7_resize_6 : decode cX7_resize 6 = .ok (.invokestatic 61, 3) := by decide +kernel
theorem dX7_resize_9 : decode cX7_resize 9 = .ok (.aload_n 0, 1) := by decide +kernel
theorem dX7_resize_10 : decode cX7_resize 10 = .ok (.getfield 25, 3) := by decide +kernel
theorem dX7_resize_13 : decode cX7_resize 13 = .ok (.aload_n 0, 1) := by decide +kernel
theorem dX7_resize_14 : decode cX7_resize 14 = .ok (.getfield 12, 3) := by decide +kernel
theorem dX7_resize_17 : decode cX7_resize 17 = .ok (.invokevirtual 65, 3) := by decide +kernel
theorem dX7_resize_20 : decode cX7_resize 20 = .ok (.aload_n 0, 1) := by decide +kernel
theorem dX7_resize_21 : decode cX7_resize 21 = .ok (.getfield 12, 3) := by decide +kernel
theorem dX7_resize_24 : decode cX7_resize 24 = .ok (.iload_n 1, 1) := by decide +kernel
theorem dX7_resize_25 : decode cX7_resize 25 = .ok (.iload_n 2, 1) := by decide +kernel
theorem dX7_resize_26 : decode cX7_resize 26 = .ok (.invokevirtual 94, 3) := by decide +kernel
theorem dX7_resize_29 : decode cX7_resize 29 = .ok (.ireturn, 1) := by decide +kernel
theorem dX7_way_0 : decode cX7_way 0 = .ok (.aload_n 0, 1) := by decide +kernel
theorem dX7_way_1 : decode cX7_way 1 = .ok (.iload_n 1, 1) := by decide +kernel
theorem dX7_way_2 : decode cX7_way 2 = .ok (.invokevirtual 97, 3) := by decide +kernel
theorem dX7_way_5 : decode cX7_way 5 = .ok (.invokestatic 61, 3) := by decide +kernel
theorem dX7_way_8 : decode cX7_way 8 = .ok (.aload_n 0, 1) := by decide +kernel
theorem dX7_way_9 : decode cX7_way 9 = .ok (.getfield 25, 3) := by decide +kernel
theorem dX7_way_12 : decode cX7_way 12 = .ok (.aload_n 0, 1) := by decide +kernel
theorem dX7_way_13 : decode cX7_way 13 = .ok (.getfield 12, 3) := by decide +kernel
theorem dX7_way_16 : decode cX7_way 16 = .ok (.invokevirtual 65, 3) := by decide +kernel
theorem dX7_way_19 : decode cX7_way 19 = .ok (.aload_n 0, 1) := by decide +kernel
theorem dX7_way_20 : decode cX7_way 20 = .ok (.getfield 12, 3) := by decide +kernel
theorem dX7_way_23 : decode cX7_way 23 = .ok (.iload_n 1, 1) := by decide +kernel
theorem dX7_way_24 : decode cX7_way 24 = .ok (.invokevirtual 100, 3) := by decide +kernel
theorem dX7_way_27 : decode cX7_way 27 = .ok (.ireturn, 1) := by decide +kernel
theorem dX7_forget_0 : decode cX7_forget 0 = .ok (.aload_n 0, 1) := by decide +kernel
theorem dX7_forget_1 : decode cX7_forget 1 = .ok (.getfield 12, 3) := by decide +kernel
theorem dX7_forget_4 : decode cX7_forget 4 = .ok (.getfield 103, 3) := by decide +kernel
theorem dX7_forget_7 : decode cX7_forget 7 = .ok (.iload_n 1, 1) := by decide +kernel
theorem dX7_forget_8 : decode cX7_forget 8 = .ok (.invokevirtual 107, 3) := by decide +kernel
theorem dX7_forget_11 : decode cX7_forget 11 = .ok (.ifCond .ne 13, 3) := by decide +kernel
theorem dX7_forget_14 : decode cX7_forget 14 = .ok (.new 113, 3) := by decide +kernel
theorem dX7_forget_17 : decode cX7_forget 17 = .ok (.dup, 1) := by decide +kernel
theorem dX7_forget_18 : decode cX7_forget 18 = .ok (.ldc 115, 2) := by decide +kernel
theorem dX7_forget_20 : decode cX7_forget 20 = .ok (.invokespecial 117, 3) := by decide +kernel
theorem dX7_forget_23 : decode cX7_forget 23 = .ok (.athrow, 1) := by decide +kernel
theorem dX7_forget_24 : decode cX7_forget 24 = .ok (.aload_n 0, 1) := by decide +kernel
theorem dX7_forget_25 : decode cX7_forget 25 = .ok (.getfield 25, 3) := by decide +kernel
theorem dX7_forget_28 : decode cX7_forget 28 = .ok (.aload_n 0, 1) := by decide +kernel
theorem dX7_forget_29 : decode cX7_forget 29 = .ok (.getfield 12, 3) := by decide +kernel
theorem dX7_forget_32 : decode cX7_forget 32 = .ok (.invokevirtual 65, 3) := by decide +kernel
theorem dX7_forget_35 : decode cX7_forget 35 = .ok (.aload_n 0, 1) := by decide +kernel
theorem dX7_forget_36 : decode cX7_forget 36 = .ok (.getfield 12, 3) := by decide +kernel
theorem dX7_forget_39 : decode cX7_forget 39 = .ok (.getfield 103, 3) := by decide +kernel
theorem dX7_forget_42 : decode cX7_forget 42 = .ok (.iload_n 1, 1) := by decide +kernel
theorem dX7_forget_43 : decode cX7_forget 43 = .ok (.invokevirtual 120, 3) := by decide +kernel
theorem dX7_forget_46 : decode cX7_forget 46 = .ok (.aload_n 0, 1) := by decide +kernel
theorem dX7_forget_47 : decode cX7_forget 47 = .ok (.getfield 12, 3) := by decide +kernel
theorem dX7_forget_50 : decode cX7_forget 50 = .ok (.getfield 103, 3) := by decide +kernel
theorem dX7_forget_53 : decode cX7_forget 53 = .ok (.getfield 123, 3) := by decide +kernel
theorem dX7_forget_56 : decode cX7_forget 56 = .ok (.ireturn, 1) := by decide +kernel
theorem dX7_loanOf_0 : decode cX7_loanOf 0 = .ok (.aload_n 0, 1) := by decide +kernel
theorem dX7_loanOf_1 : decode cX7_loanOf 1 = .ok (.getfield 12, 3) := by decide +kernel
theorem dX7_loanOf_4 : decode cX7_loanOf 4 = .ok (.getfield 126, 3) := by decide +kernel
theorem dX7_loanOf_7 : decode cX7_loanOf 7 = .ok (.astore_n 3, 1) := by decide +kernel
theorem dX7_loanOf_8 : decode cX7_loanOf 8 = .ok (.aload_n 3, 1) := by decide +kernel
theorem dX7_loanOf_9 : decode cX7_loanOf 9 = .ok (.iload_n 1, 1) := by decide +kernel
theorem dX7_loanOf_10 : decode cX7_loanOf 10 = .ok (.invokevirtual 130, 3) := by decide +kernel
theorem dX7_loanOf_13 : decode cX7_loanOf 13 = .ok (.ifCond .ne 13, 3) := by decide +kernel
theorem dX7_loanOf_16 : decode cX7_loanOf 16 = .ok (.new 113, 3) := by decide +kernel
theorem dX7_loanOf_19 : decode cX7_loanOf 19 = .ok (.dup, 1) := by decide +kernel
theorem dX7_loanOf_20 : decode cX7_loanOf 20 = .ok (.ldc 133, 2) := by decide +kernel
theorem dX7_loanOf_22 : decode cX7_loanOf 22 = .ok (.invokespecial 117, 3) := by decide +kernel
theorem dX7_loanOf_25 : decode cX7_loanOf 25 = .ok (.athrow, 1) := by decide +kernel
theorem dX7_loanOf_26 : decode cX7_loanOf 26 = .ok (.iload_n 2, 1) := by decide +kernel
theorem dX7_loanOf_27 : decode cX7_loanOf 27 = .ok (.tableswitch 69 0 4 #[33, 39, 45, 51, 57], 33) := by decide +kernel
theorem dX7_loanOf_60 : decode cX7_loanOf 60 = .ok (.aload_n 3, 1) := by decide +kernel
theorem dX7_loanOf_61 : decode cX7_loanOf 61 = .ok (.iload_n 1, 1) := by decide +kernel
theorem dX7_loanOf_62 : decode cX7_loanOf 62 = .ok (.invokevirtual 135, 3) := by decide +kernel
theorem dX7_loanOf_65 : decode cX7_loanOf 65 = .ok (.ireturn, 1) := by decide +kernel
theorem dX7_loanOf_66 : decode cX7_loanOf 66 = .ok (.aload_n 3, 1) := by decide +kernel
theorem dX7_loanOf_67 : decode cX7_loanOf 67 = .ok (.iload_n 1, 1) := by decide +kernel
theorem dX7_loanOf_68 : decode cX7_loanOf 68 = .ok (.invokevirtual 138, 3) := by decide +kernel
theorem dX7_loanOf_71 : decode cX7_loanOf 71 = .ok (.ireturn, 1) := by decide +kernel
theorem dX7_loanOf_72 : decode cX7_loanOf 72 = .ok (.aload_n 3, 1) := by decide +kernel
theorem dX7_loanOf_73 : decode cX7_loanOf 73 = .ok (.iload_n 1, 1) := by decide +kernel
theorem dX7_loanOf_74 : decode cX7_loanOf 74 = .ok (.invokevirtual 141, 3) := by decide +kernel
theorem dX7_loanOf_77 : decode cX7_loanOf 77 = .ok (.ireturn, 1) := by decide +kernel
theorem dX7_loanOf_78 : decode cX7_loanOf 78 = .ok (.aload_n 3, 1) := by decide +kernel
theorem dX7_loanOf_79 : decode cX7_loanOf 79 = .ok (.iload_n 1, 1) := by decide +kernel
theorem dX7_loanOf_80 : decode cX7_loanOf 80 = .ok (.invokevirtual 144, 3) := by decide +kernel
theorem dX7_loanOf_83 : decode cX7_loanOf 83 = .ok (.ireturn, 1) := by decide +kernel
theorem dX7_loanOf_84 : decode cX7_loanOf 84 = .ok (.aload_n 3, 1) := by decide +kernel
theorem dX7_loanOf_85 : decode cX7_loanOf 85 = .ok (.iload_n 1, 1) := by decide +kernel
theorem dX7_loanOf_86 : decode cX7_loanOf 86 = .ok (.invokevirtual 144, 3) := by decide +kernel
theorem dX7_loanOf_89 : decode cX7_loanOf 89 = .ok (.aload_n 3, 1) := by decide +kernel
theorem dX7_loanOf_90 : decode cX7_loanOf 90 = .ok (.iload_n 1, 1) := by decide +kernel
theorem dX7_loanOf_91 : decode cX7_loanOf 91 = .ok (.invokevirtual 138, 3) := by decide +kernel
theorem dX7_loanOf_94 : decode cX7_loanOf 94 = .ok (.isub, 1) := by decide +kernel
theorem dX7_loanOf_95 : decode cX7_loanOf 95 = .ok (.ireturn, 1) := by decide +kernel
theorem dX7_loanOf_96 : decode cX7_loanOf 96 = .ok (.new 147, 3) := by decide +kernel
theorem dX7_loanOf_99 : decode cX7_loanOf 99 = .ok (.dup, 1) := by decide +kernel
theorem dX7_loanOf_100 : decode cX7_loanOf 100 = .ok (.ldc 149, 2) := by decide +kernel
theorem dX7_loanOf_102 : decode cX7_loanOf 102 = .ok (.invokespecial 151, 3) := by decide +kernel
theorem dX7_loanOf_105 : decode cX7_loanOf 105 = .ok (.athrow, 1) := by decide +kernel
theorem dX7_nameOf_0 : decode cX7_nameOf 0 = .ok (.iload_n 1, 1) := by decide +kernel
theorem dX7_nameOf_1 : decode cX7_nameOf 1 = .ok (.invokestatic 152, 3) := by decide +kernel
theorem dX7_nameOf_4 : decode cX7_nameOf 4 = .ok (.ifCond .ne 13, 3) := by decide +kernel
theorem dX7_nameOf_7 : decode cX7_nameOf 7 = .ok (.new 147, 3) := by decide +kernel
theorem dX7_nameOf_10 : decode cX7_nameOf 10 = .ok (.dup, 1) := by decide +kernel
theorem dX7_nameOf_11 : decode cX7_nameOf 11 = .ok (.ldc 155, 2) := by decide +kernel
theorem dX7_nameOf_13 : decode cX7_nameOf 13 = .ok (.invokespecial 151, 3) := by decide +kernel
theorem dX7_nameOf_16 : decode cX7_nameOf 16 = .ok (.athrow, 1) := by decide +kernel
theorem dX7_nameOf_17 : decode cX7_nameOf 17 = .ok (.iload_n 2, 1) := by decide +kernel
theorem dX7_nameOf_18 : decode cX7_nameOf 18 = .ok (.tableswitch 78 0 3 #[30, 42, 54, 66], 30) := by decide +kernel
theorem dX7_nameOf_48 : decode cX7_nameOf 48 = .ok (.aload_n 0, 1) := by decide +kernel
theorem dX7_nameOf_49 : decode cX7_nameOf 49 = .ok (.getfield 12, 3) := by decide +kernel
theorem dX7_nameOf_52 : decode cX7_nameOf 52 = .ok (.getfield 126, 3) := by decide +kernel
theorem dX7_nameOf_55 : decode cX7_nameOf 55 = .ok (.iload_n 1, 1) := by decide +kernel
theorem dX7_nameOf_56 : decode cX7_nameOf 56 = .ok (.invokevirtual 157, 3) := by decide +kernel
theorem dX7_nameOf_59 : decode cX7_nameOf 59 = .ok (.ireturn, 1) := by decide +kernel
theorem dX7_nameOf_60 : decode cX7_nameOf 60 = .ok (.aload_n 0, 1) := by decide +kernel
theorem dX7_nameOf_61 : decode cX7_nameOf 61 = .ok (.getfield 12, 3) := by decide +kernel
theorem dX7_nameOf_64 : decode cX7_nameOf 64 = .ok (.getfield 126, 3) := by decide +kernel
theorem dX7_nameOf_67 : decode cX7_nameOf 67 = .ok (.iload_n 1, 1) := by decide +kernel
theorem dX7_nameOf_68 : decode cX7_nameOf 68 = .ok (.invokevirtual 160, 3) := by decide +kernel
theorem dX7_nameOf_71 : decode cX7_nameOf 71 = .ok (.ireturn, 1) := by decide +kernel
theorem dX7_nameOf_72 : decode cX7_nameOf 72 = .ok (.aload_n 0, 1) := by decide +kernel
theorem dX7_nameOf_73 : decode cX7_nameOf 73 = .ok (.getfield 12, 3) := by decide +kernel
theorem dX7_nameOf_76 : decode cX7_nameOf 76 = .ok (.getfield 126, 3) := by decide +kernel
theorem dX7_nameOf_79 : decode cX7_nameOf 79 = .ok (.iload_n 1, 1) := by decide +kernel
theorem dX7_nameOf_80 : decode cX7_nameOf 80 = .ok (.invokevirtual 163, 3) := by decide +kernel
theorem dX7_nameOf_83 : decode cX7_nameOf 83 = .ok (.ireturn, 1) := by decide +kernel
theorem dX7_nameOf_84 : decode cX7_nameOf 84 = .ok (.aload_n 0, 1) := by decide +kernel
theorem dX7_nameOf_85 : decode cX7_nameOf 85 = .ok (.getfield 12, 3) := by decide +kernel
theorem dX7_nameOf_88 : decode cX7_nameOf 88 = .ok (.getfield 103, 3) := by decide +kernel
theorem dX7_nameOf_91 : decode cX7_nameOf 91 = .ok (.iload_n 1, 1) := by decide +kernel
theorem dX7_nameOf_92 : decode cX7_nameOf 92 = .ok (.invokevirtual 166, 3) := by decide +kernel
theorem dX7_nameOf_95 : decode cX7_nameOf 95 = .ok (.ireturn, 1) := by decide +kernel
theorem dX7_nameOf_96 : decode cX7_nameOf 96 = .ok (.new 113, 3) := by decide +kernel
theorem dX7_nameOf_99 : decode cX7_nameOf 99 = .ok (.dup, 1) := by decide +kernel
theorem dX7_nameOf_100 : decode cX7_nameOf 100 = .ok (.ldc 167, 2) := by decide +kernel
theorem dX7_nameOf_102 : decode cX7_nameOf 102 = .ok (.invokespecial 117, 3) := by decide +kernel
theorem dX7_nameOf_105 : decode cX7_nameOf 105 = .ok (.athrow, 1) := by decide +kernel
theorem dX7_waitingOf_0 : decode cX7_waitingOf 0 = .ok (.aload_n 0, 1) := by decide +kernel
theorem dX7_waitingOf_1 : decode cX7_waitingOf 1 = .ok (.getfield 12, 3) := by decide +kernel
theorem dX7_waitingOf_4 : decode cX7_waitingOf 4 = .ok (.getfield 103, 3) := by decide +kernel
theorem dX7_waitingOf_7 : decode cX7_waitingOf 7 = .ok (.iload_n 1, 1) := by decide +kernel
theorem dX7_waitingOf_8 : decode cX7_waitingOf 8 = .ok (.invokevirtual 107, 3) := by decide +kernel
theorem dX7_waitingOf_11 : decode cX7_waitingOf 11 = .ok (.ifCond .ne 13, 3) := by decide +kernel
theorem dX7_waitingOf_14 : decode cX7_waitingOf 14 = .ok (.new 169, 3) := by decide +kernel
theorem dX7_waitingOf_17 : decode cX7_waitingOf 17 = .ok (.dup, 1) := by decide +kernel
theorem dX7_waitingOf_18 : decode cX7_waitingOf 18 = .ok (.ldc 115, 2) := by decide +kernel
theorem dX7_waitingOf_20 : decode cX7_waitingOf 20 = .ok (.invokespecial 171, 3) := by decide +kernel
theorem dX7_waitingOf_23 : decode cX7_waitingOf 23 = .ok (.athrow, 1) := by decide +kernel
theorem dX7_waitingOf_24 : decode cX7_waitingOf 24 = .ok (.iload_n 2, 1) := by decide +kernel
theorem dX7_waitingOf_25 : decode cX7_waitingOf 25 = .ok (.lookupswitch 51 #[(0, 27), (1, 39)], 27) := by decide +kernel
theorem dX7_waitingOf_52 : decode cX7_waitingOf 52 = .ok (.aload_n 0, 1) := by decide +kernel
theorem dX7_waitingOf_53 : decode cX7_waitingOf 53 = .ok (.getfield 12, 3) := by decide +kernel
theorem dX7_waitingOf_56 : decode cX7_waitingOf 56 = .ok (.getfield 103, 3) := by decide +kernel
theorem dX7_waitingOf_59 : decode cX7_waitingOf 59 = .ok (.iload_n 1, 1) := by decide +kernel
theorem dX7_waitingOf_60 : decode cX7_waitingOf 60 = .ok (.invokevirtual 172, 3) := by decide +kernel
theorem dX7_waitingOf_63 : decode cX7_waitingOf 63 = .ok (.ireturn, 1) := by decide +kernel
theorem dX7_waitingOf_64 : decode cX7_waitingOf 64 = .ok (.aload_n 0, 1) := by decide +kernel
theorem dX7_waitingOf_65 : decode cX7_waitingOf 65 = .ok (.getfield 12, 3) := by decide +kernel
theorem dX7_waitingOf_68 : decode cX7_waitingOf 68 = .ok (.getfield 103, 3) := by decide +kernel
theorem dX7_waitingOf_71 : decode cX7_waitingOf 71 = .ok (.iload_n 1, 1) := by decide +kernel
theorem dX7_waitingOf_72 : decode cX7_waitingOf 72 = .ok (.invokevirtual 173, 3) := by decide +kernel
theorem dX7_waitingOf_75 : decode cX7_waitingOf 75 = .ok (.ireturn, 1) := by decide +kernel
theorem dX7_waitingOf_76 : decode cX7_waitingOf 76 = .ok (.new 147, 3) := by decide +kernel
theorem dX7_waitingOf_79 : decode cX7_waitingOf 79 = .ok (.dup, 1) := by decide +kernel
theorem dX7_waitingOf_80 : decode cX7_waitingOf 80 = .ok (.ldc 174, 2) := by decide +kernel
theorem dX7_waitingOf_82 : decode cX7_waitingOf 82 = .ok (.invokespecial 151, 3) := by decide +kernel
theorem dX7_waitingOf_85 : decode cX7_waitingOf 85 = .ok (.athrow, 1) := by decide +kernel
theorem dX7_pieceOf_0 : decode cX7_pieceOf 0 = .ok (.iload_n 1, 1) := by decide +kernel
theorem dX7_pieceOf_1 : decode cX7_pieceOf 1 = .ok (.invokestatic 176, 3) := by decide +kernel
theorem dX7_pieceOf_4 : decode cX7_pieceOf 4 = .ok (.ifCond .ne 13, 3) := by decide +kernel
theorem dX7_pieceOf_7 : decode cX7_pieceOf 7 = .ok (.new 113, 3) := by decide +kernel
theorem dX7_pieceOf_10 : decode cX7_pieceOf 10 = .ok (.dup, 1) := by decide +kernel
theorem dX7_pieceOf_11 : decode cX7_pieceOf 11 = .ok (.ldc 179, 2) := by decide +kernel
theorem dX7_pieceOf_13 : decode cX7_pieceOf 13 = .ok (.invokespecial 117, 3) := by decide +kernel
theorem dX7_pieceOf_16 : decode cX7_pieceOf 16 = .ok (.athrow, 1) := by decide +kernel
theorem dX7_pieceOf_17 : decode cX7_pieceOf 17 = .ok (.aload_n 0, 1) := by decide +kernel
theorem dX7_pieceOf_18 : decode cX7_pieceOf 18 = .ok (.getfield 12, 3) := by decide +kernel
theorem dX7_pieceOf_21 : decode cX7_pieceOf 21 = .ok (.getfield 126, 3) := by decide +kernel
theorem dX7_pieceOf_24 : decode cX7_pieceOf 24 = .ok (.iload_n 1, 1) := by decide +kernel
theorem dX7_pieceOf_25 : decode cX7_pieceOf 25 = .ok (.invokevirtual 181, 3) := by decide +kernel
theorem dX7_pieceOf_28 : decode cX7_pieceOf 28 = .ok (.istore_n 3, 1) := by decide +kernel
theorem dX7_pieceOf_29 : decode cX7_pieceOf 29 = .ok (.aload_n 0, 1) := by decide +kernel
theorem dX7_pieceOf_30 : decode cX7_pieceOf 30 = .ok (.getfield 12, 3) := by decide +kernel
theorem dX7_pieceOf_33 : decode cX7_pieceOf 33 = .ok (.iload_n 1, 1) := by decide +kernel
theorem dX7_pieceOf_34 : decode cX7_pieceOf 34 = .ok (.invokevirtual 184, 3) := by decide +kernel
theorem dX7_pieceOf_37 : decode cX7_pieceOf 37 = .ok (.istore 4, 2) := by decide +kernel
theorem dX7_pieceOf_39 : decode cX7_pieceOf 39 = .ok (.aload_n 0, 1) := by decide +kernel
theorem dX7_pieceOf_40 : decode cX7_pieceOf 40 = .ok (.getfield 12, 3) := by decide +kernel
theorem dX7_pieceOf_43 : decode cX7_pieceOf 43 = .ok (.iload_n 1, 1) := by decide +kernel
theorem dX7_pieceOf_44 : decode cX7_pieceOf 44 = .ok (.invokevirtual 187, 3) := by decide +kernel
theorem dX7_pieceOf_47 : decode cX7_pieceOf 47 = .ok (.istore 5, 2) := by decide +kernel
theorem dX7_pieceOf_49 : decode cX7_pieceOf 49 = .ok (.iload_n 2, 1) := by decide +kernel
theorem dX7_pieceOf_50 : decode cX7_pieceOf 50 = .ok (.tableswitch 57 0 3 #[30, 33, 36, 38], 30) := by decide +kernel
theorem dX7_pieceOf_80 : decode cX7_pieceOf 80 = .ok (.iload 5, 2) := by decide +kernel
theorem dX7_pieceOf_82 : decode cX7_pieceOf 82 = .ok (.ireturn, 1) := by decide +kernel
theorem dX7_pieceOf_83 : decode cX7_pieceOf 83 = .ok (.iload 4, 2) := by decide +kernel
theorem dX7_pieceOf_85 : decode cX7_pieceOf 85 = .ok (.ireturn, 1) := by decide +kernel
theorem dX7_pieceOf_86 : decode cX7_pieceOf 86 = .ok (.iload_n 3, 1) := by decide +kernel
theorem dX7_pieceOf_87 : decode cX7_pieceOf 87 = .ok (.ireturn, 1) := by decide +kernel
theorem dX7_pieceOf_88 : decode cX7_pieceOf 88 = .ok (.iload 5, 2) := by decide +kernel
theorem dX7_pieceOf_90 : decode cX7_pieceOf 90 = .ok (.bipush 64, 2) := by decide +kernel
theorem dX7_pieceOf_92 : decode cX7_pieceOf 92 = .ok (.if_icmp .ne 7, 3) := by decide +kernel
theorem dX7_pieceOf_95 : decode cX7_pieceOf 95 = .ok (.iconst (-1), 1) := by decide +kernel
theorem dX7_pieceOf_96 : decode cX7_pieceOf 96 = .ok (.goto 10, 3) := by decide +kernel
theorem dX7_pieceOf_99 : decode cX7_pieceOf 99 = .ok (.iload 4, 2) := by decide +kernel
theorem dX7_pieceOf_101 : decode cX7_pieceOf 101 = .ok (.iload 5, 2) := by decide +kernel
theorem dX7_pieceOf_103 : decode cX7_pieceOf 103 = .ok (.invokestatic 190, 3) := by decide +kernel
theorem dX7_pieceOf_106 : decode cX7_pieceOf 106 = .ok (.ireturn, 1) := by decide +kernel
theorem dX7_pieceOf_107 : decode cX7_pieceOf 107 = .ok (.new 147, 3) := by decide +kernel
theorem dX7_pieceOf_110 : decode cX7_pieceOf 110 = .ok (.dup, 1) := by decide +kernel
theorem dX7_pieceOf_111 : decode cX7_pieceOf 111 = .ok (.ldc 193, 2) := by decide +kernel
theorem dX7_pieceOf_113 : decode cX7_pieceOf 113 = .ok (.invokespecial 151, 3) := by decide +kernel
theorem dX7_pieceOf_116 : decode cX7_pieceOf 116 = .ok (.athrow, 1) := by decide +kernel
theorem dX7_free_0 : decode cX7_free 0 = .ok (.iload_n 1, 1) := by decide +kernel
theorem dX7_free_1 : decode cX7_free 1 = .ok (.invokestatic 195, 3) := by decide +kernel
theorem dX7_free_4 : decode cX7_free 4 = .ok (.ifCond .ne 13, 3) := by decide +kernel
theorem dX7_free_7 : decode cX7_free 7 = .ok (.new 147, 3) := by decide +kernel
theorem dX7_free_10 : decode cX7_free 10 = .ok (.dup, 1) := by decide +kernel
theorem dX7_free_11 : decode cX7_free 11 = .ok (.ldc 198, 2) := by decide +kernel
theorem dX7_free_13 : decode cX7_free 13 = .ok (.invokespecial 151, 3) := by decide +kernel
theorem dX7_free_16 : decode cX7_free 16 = .ok (.athrow, 1) := by decide +kernel
theorem dX7_free_17 : decode cX7_free 17 = .ok (.iload_n 2, 1) := by decide +kernel
theorem dX7_free_18 : decode cX7_free 18 = .ok (.ifCond .eq 14, 3) := by decide +kernel
theorem dX7_free_21 : decode cX7_free 21 = .ok (.aload_n 0, 1) := by decide +kernel
theorem dX7_free_22 : decode cX7_free 22 = .ok (.getfield 12, 3) := by decide +kernel
theorem dX7_free_25 : decode cX7_free 25 = .ok (.iload_n 1, 1) := by decide +kernel
theorem dX7_free_26 : decode cX7_free 26 = .ok (.invokevirtual 200, 3) := by decide +kernel
theorem dX7_free_29 : decode cX7_free 29 = .ok (.goto 14, 3) := by decide +kernel
theorem dX7_free_32 : decode cX7_free 32 = .ok (.aload_n 0, 1) := by decide +kernel
theorem dX7_free_33 : decode cX7_free 33 = .ok (.getfield 12, 3) := by decide +kernel
theorem dX7_free_36 : decode cX7_free 36 = .ok (.getfield 203, 3) := by decide +kernel
theorem dX7_free_39 : decode cX7_free 39 = .ok (.iload_n 1, 1) := by decide +kernel
theorem dX7_free_40 : decode cX7_free 40 = .ok (.invokevirtual 207, 3) := by decide +kernel
theorem dX7_free_43 : decode cX7_free 43 = .ok (.ireturn, 1) := by decide +kernel
theorem dX7_greatest_0 : decode cX7_greatest 0 = .ok (.aload_n 0, 1) := by decide +kernel
theorem dX7_greatest_1 : decode cX7_greatest 1 = .ok (.getfield 12, 3) := by decide +kernel
theorem dX7_greatest_4 : decode cX7_greatest 4 = .ok (.getfield 203, 3) := by decide +kernel
theorem dX7_greatest_7 : decode cX7_greatest 7 = .ok (.invokevirtual 212, 3) := by decide +kernel
theorem dX7_greatest_10 : decode cX7_greatest 10 = .ok (.istore_n 1, 1) := by decide +kernel
theorem dX7_greatest_11 : decode cX7_greatest 11 = .ok (.iload_n 1, 1) := by decide +kernel
theorem dX7_greatest_12 : decode cX7_greatest 12 = .ok (.ifCond .ne 13, 3) := by decide +kernel
theorem dX7_greatest_15 : decode cX7_greatest 15 = .ok (.new 169, 3) := by decide +kernel
theorem dX7_greatest_18 : decode cX7_greatest 18 = .ok (.dup, 1) := by decide +kernel
theorem dX7_greatest_19 : decode cX7_greatest 19 = .ok (.ldc 216, 2) := by decide +kernel
theorem dX7_greatest_21 : decode cX7_greatest 21 = .ok (.invokespecial 171, 3) := by decide +kernel
theorem dX7_greatest_24 : decode cX7_greatest 24 = .ok (.athrow, 1) := by decide +kernel
theorem dX7_greatest_25 : decode cX7_greatest 25 = .ok (.iload_n 1, 1) := by decide +kernel
theorem dX7_greatest_26 : decode cX7_greatest 26 = .ok (.ireturn, 1) := by decide +kernel
theorem dX7_would_0 : decode cX7_would 0 = .ok (.iload_n 1, 1) := by decide +kernel
theorem dX7_would_1 : decode cX7_would 1 = .ok (.invokestatic 218, 3) := by decide +kernel
theorem dX7_would_4 : decode cX7_would 4 = .ok (.istore_n 2, 1) := by decide +kernel
theorem dX7_would_5 : decode cX7_would 5 = .ok (.aload_n 0, 1) := by decide +kernel
theorem dX7_would_6 : decode cX7_would 6 = .ok (.iload_n 2, 1) := by decide +kernel
theorem dX7_would_7 : decode cX7_would 7 = .ok (.invokevirtual 221, 3) := by decide +kernel
theorem dX7_would_10 : decode cX7_would 10 = .ok (.istore_n 3, 1) := by decide +kernel
theorem dX7_would_11 : decode cX7_would 11 = .ok (.aload_n 0, 1) := by decide +kernel
theorem dX7_would_12 : decode cX7_would 12 = .ok (.getfield 12, 3) := by decide +kernel
theorem dX7_would_15 : decode cX7_would 15 = .ok (.getfield 203, 3) := by decide +kernel
theorem dX7_would_18 : decode cX7_would 18 = .ok (.invokevirtual 224, 3) := by decide +kernel
theorem dX7_would_21 : decode cX7_would 21 = .ok (.ifCond .eq 19, 3) := by decide +kernel
theorem dX7_would_24 : decode cX7_would 24 = .ok (.iload_n 3, 1) := by decide +kernel
theorem dX7_would_25 : decode cX7_would 25 = .ok (.aload_n 0, 1) := by decide +kernel
theorem dX7_would_26 : decode cX7_would 26 = .ok (.getfield 12, 3) := by decide +kernel
theorem dX7_would_29 : decode cX7_would 29 = .ok (.getfield 203, 3) := by decide +kernel
theorem dX7_would_32 : decode cX7_would 32 = .ok (.iload_n 3, 1) := by decide +kernel
theorem dX7_would_33 : decode cX7_would 33 = .ok (.invokevirtual 228, 3) := by decide +kernel
theorem dX7_would_36 : decode cX7_would 36 = .ok (.iadd, 1) := by decide +kernel
theorem dX7_would_37 : decode cX7_would 37 = .ok (.iload_n 2, 1) := by decide +kernel
theorem dX7_would_38 : decode cX7_would 38 = .ok (.isub, 1) := by decide +kernel
theorem dX7_would_39 : decode cX7_would 39 = .ok (.ireturn, 1) := by decide +kernel
theorem dX7_would_40 : decode cX7_would 40 = .ok (.iload_n 3, 1) := by decide +kernel
theorem dX7_would_41 : decode cX7_would 41 = .ok (.ireturn, 1) := by decide +kernel
theorem dX7_cuts_0 : decode cX7_cuts 0 = .ok (.iload_n 1, 1) := by decide +kernel
theorem dX7_cuts_1 : decode cX7_cuts 1 = .ok (.invokestatic 218, 3) := by decide +kernel
theorem dX7_cuts_4 : decode cX7_cuts 4 = .ok (.istore_n 2, 1) := by decide +kernel
theorem dX7_cuts_5 : decode cX7_cuts 5 = .ok (.aload_n 0, 1) := by decide +kernel
theorem dX7_cuts_6 : decode cX7_cuts 6 = .ok (.iload_n 2, 1) := by decide +kernel
theorem dX7_cuts_7 : decode cX7_cuts 7 = .ok (.invokevirtual 221, 3) := by decide +kernel
theorem dX7_cuts_10 : decode cX7_cuts 10 = .ok (.istore_n 3, 1) := by decide +kernel
theorem dX7_cuts_11 : decode cX7_cuts 11 = .ok (.iconst 0, 1) := by decide +kernel
theorem dX7_cuts_12 : decode cX7_cuts 12 = .ok (.istore 4, 2) := by decide +kernel
theorem dX7_cuts_14 : decode cX7_cuts 14 = .ok (.aload_n 0, 1) := by decide +kernel
theorem dX7_cuts_15 : decode cX7_cuts 15 = .ok (.getfield 12, 3) := by decide +kernel
theorem dX7_cuts_18 : decode cX7_cuts 18 = .ok (.getfield 203, 3) := by decide +kernel
theorem dX7_cuts_21 : decode cX7_cuts 21 = .ok (.iload_n 3, 1) := by decide +kernel
theorem dX7_cuts_22 : decode cX7_cuts 22 = .ok (.invokevirtual 228, 3) := by decide +kernel
theorem dX7_cuts_25 : decode cX7_cuts 25 = .ok (.iconst 2, 1) := by decide +kernel
theorem dX7_cuts_26 : decode cX7_cuts 26 = .ok (.idiv, 1) := by decide +kernel
theorem dX7_cuts_27 : decode cX7_cuts 27 = .ok (.istore 5, 2) := by decide +kernel
theorem dX7_cuts_29 : decode cX7_cuts 29 = .ok (.iload 5, 2) := by decide +kernel
theorem dX7_cuts_31 : decode cX7_cuts 31 = .ok (.iload_n 2, 1) := by decide +kernel
theorem dX7_cuts_32 : decode cX7_cuts 32 = .ok (.if_icmp .lt 21, 3) := by decide +kernel
theorem dX7_cuts_35 : decode cX7_cuts 35 = .ok (.iload 5, 2) := by decide +kernel
theorem dX7_cuts_37 : decode cX7_cuts 37 = .ok (.iconst 1, 1) := by decide +kernel
theorem dX7_cuts_38 : decode cX7_cuts 38 = .ok (.if_icmp .lt 15, 3) := by decide +kernel
theorem dX7_cuts_41 : decode cX7_cuts 41 = .ok (.iinc 4 1, 3) := by decide +kernel
theorem dX7_cuts_44 : decode cX7_cuts 44 = .ok (.iload 5, 2) := by decide +kernel
theorem dX7_cuts_46 : decode cX7_cuts 46 = .ok (.iconst 2, 1) := by decide +kernel
theorem dX7_cuts_47 : decode cX7_cuts 47 = .ok (.idiv, 1) := by decide +kernel
theorem dX7_cuts_48 : decode cX7_cuts 48 = .ok (.istore 5, 2) := by decide +kernel
theorem dX7_cuts_50 : decode cX7_cuts 50 = .ok (.goto (-21), 3) := by decide +kernel
theorem dX7_cuts_53 : decode cX7_cuts 53 = .ok (.iload 4, 2) := by decide +kernel
theorem dX7_cuts_55 : decode cX7_cuts 55 = .ok (.ireturn, 1) := by decide +kernel
theorem dX7_fits_0 : decode cX7_fits 0 = .ok (.aload_n 0, 1) := by decide +kernel
theorem dX7_fits_1 : decode cX7_fits 1 = .ok (.getfield 12, 3) := by decide +kernel
theorem dX7_fits_4 : decode cX7_fits 4 = .ok (.getfield 203, 3) := by decide +kernel
theorem dX7_fits_7 : decode cX7_fits 7 = .ok (.iload_n 1, 1) := by decide +kernel
theorem dX7_fits_8 : decode cX7_fits 8 = .ok (.invokestatic 218, 3) := by decide +kernel
theorem dX7_fits_11 : decode cX7_fits 11 = .ok (.invokevirtual 229, 3) := by decide +kernel
theorem dX7_fits_14 : decode cX7_fits 14 = .ok (.ireturn, 1) := by decide +kernel
theorem dX7_hole_0 : decode cX7_hole 0 = .ok (.aload_n 0, 1) := by decide +kernel
theorem dX7_hole_1 : decode cX7_hole 1 = .ok (.getfield 12, 3) := by decide +kernel
theorem dX7_hole_4 : decode cX7_hole 4 = .ok (.getfield 203, 3) := by decide +kernel
theorem dX7_hole_7 : decode cX7_hole 7 = .ok (.iload_n 1, 1) := by decide +kernel
theorem dX7_hole_8 : decode cX7_hole 8 = .ok (.invokevirtual 232, 3) := by decide +kernel
theorem dX7_hole_11 : decode cX7_hole 11 = .ok (.istore_n 2, 1) := by decide +kernel
theorem dX7_hole_12 : decode cX7_hole 12 = .ok (.iload_n 2, 1) := by decide +kernel
theorem dX7_hole_13 : decode cX7_hole 13 = .ok (.ifCond .ge 13, 3) := by decide +kernel
theorem dX7_hole_16 : decode cX7_hole 16 = .ok (.new 169, 3) := by decide +kernel
theorem dX7_hole_19 : decode cX7_hole 19 = .ok (.dup, 1) := by decide +kernel
theorem dX7_hole_20 : decode cX7_hole 20 = .ok (.ldc 235, 2) := by decide +kernel
theorem dX7_hole_22 : decode cX7_hole 22 = .ok (.invokespecial 171, 3) := by decide +kernel
theorem dX7_hole_25 : decode cX7_hole 25 = .ok (.athrow, 1) := by decide +kernel
theorem dX7_hole_26 : decode cX7_hole 26 = .ok (.iload_n 2, 1) := by decide +kernel
theorem dX7_hole_27 : decode cX7_hole 27 = .ok (.ireturn, 1) := by decide +kernel
theorem dX7_inTheWay_0 : decode cX7_inTheWay 0 = .ok (.aload_n 0, 1) := by decide +kernel
theorem dX7_inTheWay_1 : decode cX7_inTheWay 1 = .ok (.getfield 12, 3) := by decide +kernel
theorem dX7_inTheWay_4 : decode cX7_inTheWay 4 = .ok (.getfield 126, 3) := by decide +kernel
theorem dX7_inTheWay_7 : decode cX7_inTheWay 7 = .ok (.iload_n 1, 1) := by decide +kernel
theorem dX7_inTheWay_8 : decode cX7_inTheWay 8 = .ok (.invokestatic 218, 3) := by decide +kernel
theorem dX7_inTheWay_11 : decode cX7_inTheWay 11 = .ok (.invokevirtual 237, 3) := by decide +kernel
theorem dX7_inTheWay_14 : decode cX7_inTheWay 14 = .ok (.ireturn, 1) := by decide +kernel
theorem dX7_ranked_0 : decode cX7_ranked 0 = .ok (.aload_n 0, 1) := by decide +kernel
theorem dX7_ranked_1 : decode cX7_ranked 1 = .ok (.getfield 12, 3) := by decide +kernel
theorem dX7_ranked_4 : decode cX7_ranked 4 = .ok (.getfield 126, 3) := by decide +kernel
theorem dX7_ranked_7 : decode cX7_ranked 7 = .ok (.iload_n 1, 1) := by decide +kernel
theorem dX7_ranked_8 : decode cX7_ranked 8 = .ok (.invokevirtual 240, 3) := by decide +kernel
theorem dX7_ranked_11 : decode cX7_ranked 11 = .ok (.istore_n 2, 1) := by decide +kernel
theorem dX7_ranked_12 : decode cX7_ranked 12 = .ok (.iload_n 2, 1) := by decide +kernel
theorem dX7_ranked_13 : decode cX7_ranked 13 = .ok (.ifCond .ge 13, 3) := by decide +kernel
theorem dX7_ranked_16 : decode cX7_ranked 16 = .ok (.new 169, 3) := by decide +kernel
theorem dX7_ranked_19 : decode cX7_ranked 19 = .ok (.dup, 1) := by decide +kernel
theorem dX7_ranked_20 : decode cX7_ranked 20 = .ok (.ldc 155, 2) := by decide +kernel
theorem dX7_ranked_22 : decode cX7_ranked 22 = .ok (.invokespecial 171, 3) := by decide +kernel
theorem dX7_ranked_25 : decode cX7_ranked 25 = .ok (.athrow, 1) := by decide +kernel
theorem dX7_ranked_26 : decode cX7_ranked 26 = .ok (.iload_n 2, 1) := by decide +kernel
theorem dX7_ranked_27 : decode cX7_ranked 27 = .ok (.ireturn, 1) := by decide +kernel
theorem dX7_line_0 : decode cX7_line 0 = .ok (.aload_n 0, 1) := by decide +kernel
theorem dX7_line_1 : decode cX7_line 1 = .ok (.getfield 12, 3) := by decide +kernel
theorem dX7_line_4 : decode cX7_line 4 = .ok (.aload_n 0, 1) := by decide +kernel
theorem dX7_line_5 : decode cX7_line 5 = .ok (.getfield 32, 3) := by decide +kernel
theorem dX7_line_8 : decode cX7_line 8 = .ok (.invokevirtual 243, 3) := by decide +kernel
theorem dX7_line_11 : decode cX7_line 11 = .ok (.aload_n 0, 1) := by decide +kernel
theorem dX7_line_12 : decode cX7_line 12 = .ok (.getfield 32, 3) := by decide +kernel
theorem dX7_line_15 : decode cX7_line 15 = .ok (.getfield 247, 3) := by decide +kernel
theorem dX7_line_18 : decode cX7_line 18 = .ok (.ireturn, 1) := by decide +kernel
theorem dX7_map_0 : decode cX7_map 0 = .ok (.aload_n 0, 1) := by decide +kernel
theorem dX7_map_1 : decode cX7_map 1 = .ok (.getfield 12, 3) := by decide +kernel
theorem dX7_map_4 : decode cX7_map 4 = .ok (.aload_n 0, 1) := by decide +kernel
theorem dX7_map_5 : decode cX7_map 5 = .ok (.getfield 32, 3) := by decide +kernel
theorem dX7_map_8 : decode cX7_map 8 = .ok (.invokevirtual 250, 3) := by decide +kernel
theorem dX7_map_11 : decode cX7_map 11 = .ok (.aload_n 0, 1) := by decide +kernel
theorem dX7_map_12 : decode cX7_map 12 = .ok (.getfield 32, 3) := by decide +kernel
theorem dX7_map_15 : decode cX7_map 15 = .ok (.getfield 247, 3) := by decide +kernel
theorem dX7_map_18 : decode cX7_map 18 = .ok (.ireturn, 1) := by decide +kernel
theorem dX7_character_0 : decode cX7_character 0 = .ok (.aload_n 0, 1) := by decide +kernel
theorem dX7_character_1 : decode cX7_character 1 = .ok (.getfield 32, 3) := by decide +kernel
theorem dX7_character_4 : decode cX7_character 4 = .ok (.iload_n 1, 1) := by decide +kernel
theorem dX7_character_5 : decode cX7_character 5 = .ok (.invokevirtual 253, 3) := by decide +kernel
theorem dX7_character_8 : decode cX7_character 8 = .ok (.ifCond .ne 13, 3) := by decide +kernel
theorem dX7_character_11 : decode cX7_character 11 = .ok (.new 113, 3) := by decide +kernel
theorem dX7_character_14 : decode cX7_character 14 = .ok (.dup, 1) := by decide +kernel
theorem dX7_character_15 : decode cX7_character 15 = .ok (.ldc 254, 2) := by decide +kernel
theorem dX7_character_17 : decode cX7_character 17 = .ok (.invokespecial 117, 3) := by decide +kernel
theorem dX7_character_20 : decode cX7_character 20 = .ok (.athrow, 1) := by decide +kernel
theorem dX7_character_21 : decode cX7_character 21 = .ok (.aload_n 0, 1) := by decide +kernel
theorem dX7_character_22 : decode cX7_character 22 = .ok (.getfield 32, 3) := by decide +kernel
theorem dX7_character_25 : decode cX7_character 25 = .ok (.iload_n 1, 1) := by decide +kernel
theorem dX7_character_26 : decode cX7_character 26 = .ok (.invokevirtual 256, 3) := by decide +kernel
theorem dX7_character_29 : decode cX7_character 29 = .ok (.ireturn, 1) := by decide +kernel
theorem dX7_append_0 : decode cX7_append 0 = .ok (.aload_n 0, 1) := by decide +kernel
theorem dX7_append_1 : decode cX7_append 1 = .ok (.getfield 39, 3) := by decide +kernel
theorem dX7_append_4 : decode cX7_append 4 = .ok (.invokevirtual 260, 3) := by decide +kernel
theorem dX7_append_7 : decode cX7_append 7 = .ok (.ifCond .eq 14, 3) := by decide +kernel
theorem dX7_append_10 : decode cX7_append 10 = .ok (.new 263, 3) := by decide +kernel
theorem dX7_append_13 : decode cX7_append 13 = .ok (.dup, 1) := by decide +kernel
theorem dX7_append_14 : decode cX7_append 14 = .ok (.ldc_w 265, 3) := by decide +kernel
theorem dX7_append_17 : decode cX7_append 17 = .ok (.invokespecial 267, 3) := by decide +kernel
theorem dX7_append_20 : decode cX7_append 20 = .ok (.athrow, 1) := by decide +kernel
theorem dX7_append_21 : decode cX7_append 21 = .ok (.aload_n 0, 1) := by decide +kernel
theorem dX7_append_22 : decode cX7_append 22 = .ok (.getfield 39, 3) := by decide +kernel
theorem dX7_append_25 : decode cX7_append 25 = .ok (.iload_n 1, 1) := by decide +kernel
theorem dX7_append_26 : decode cX7_append 26 = .ok (.invokevirtual 268, 3) := by decide +kernel
theorem dX7_append_29 : decode cX7_append 29 = .ok (.aload_n 0, 1) := by decide +kernel
theorem dX7_append_30 : decode cX7_append 30 = .ok (.getfield 39, 3) := by decide +kernel
theorem dX7_append_33 : decode cX7_append 33 = .ok (.getfield 272, 3) := by decide +kernel
theorem dX7_append_36 : decode cX7_append 36 = .ok (.ireturn, 1) := by decide +kernel
theorem dX7_run_0 : decode cX7_run 0 = .ok (.aload_n 0, 1) := by decide +kernel
theorem dX7_run_1 : decode cX7_run 1 = .ok (.aload_n 0, 1) := by decide +kernel
theorem dX7_run_2 : decode cX7_run 2 = .ok (.getfield 39, 3) := by decide +kernel
theorem dX7_run_5 : decode cX7_run 5 = .ok (.invokevirtual 273, 3) := by decide +kernel
theorem dX7_run_8 : decode cX7_run 8 = .ok (.putfield 43, 3) := by decide +kernel
theorem dX7_run_11 : decode cX7_run 11 = .ok (.aload_n 0, 1) := by decide +kernel
theorem dX7_run_12 : decode cX7_run 12 = .ok (.getfield 39, 3) := by decide +kernel
theorem dX7_run_15 : decode cX7_run 15 = .ok (.invokevirtual 276, 3) := by decide +kernel
theorem dX7_run_18 : decode cX7_run 18 = .ok (.aload_n 0, 1) := by decide +kernel
theorem dX7_run_19 : decode cX7_run 19 = .ok (.getfield 43, 3) := by decide +kernel
theorem dX7_run_22 : decode cX7_run 22 = .ok (.ifCond .lt 14, 3) := by decide +kernel
theorem dX7_run_25 : decode cX7_run 25 = .ok (.new 147, 3) := by decide +kernel
theorem dX7_run_28 : decode cX7_run 28 = .ok (.dup, 1) := by decide +kernel
theorem dX7_run_29 : decode cX7_run 29 = .ok (.ldc_w 279, 3) := by decide +kernel
theorem dX7_run_32 : decode cX7_run 32 = .ok (.invokespecial 151, 3) := by decide +kernel
theorem dX7_run_35 : decode cX7_run 35 = .ok (.athrow, 1) := by decide +kernel
theorem dX7_run_36 : decode cX7_run 36 = .ok (.aload_n 0, 1) := by decide +kernel
theorem dX7_run_37 : decode cX7_run 37 = .ok (.getfield 16, 3) := by decide +kernel
theorem dX7_run_40 : decode cX7_run 40 = .ok (.aload_n 0, 1) := by decide +kernel
theorem dX7_run_41 : decode cX7_run 41 = .ok (.getfield 12, 3) := by decide +kernel
theorem dX7_run_44 : decode cX7_run 44 = .ok (.invokevirtual 281, 3) := by decide +kernel
theorem dX7_run_47 : decode cX7_run 47 = .ok (.iconst 0, 1) := by decide +kernel
theorem dX7_run_48 : decode cX7_run 48 = .ok (.istore_n 1, 1) := by decide +kernel
theorem dX7_run_49 : decode cX7_run 49 = .ok (.iconst 0, 1) := by decide +kernel
theorem dX7_run_50 : decode cX7_run 50 = .ok (.istore_n 2, 1) := by decide +kernel
theorem dX7_run_51 : decode cX7_run 51 = .ok (.iload_n 2, 1) := by decide +kernel
theorem dX7_run_52 : decode cX7_run 52 = .ok (.aload_n 0, 1) := by decide +kernel
theorem dX7_run_53 : decode cX7_run 53 = .ok (.getfield 39, 3) := by decide +kernel
theorem dX7_run_56 : decode cX7_run 56 = .ok (.getfield 284, 3) := by decide +kernel
theorem dX7_run_59 : decode cX7_run 59 = .ok (.if_icmp .ge 74, 3) := by decide +kernel
theorem dX7_run_62 : decode cX7_run 62 = .ok (.iload_n 1, 1) := by decide +kernel
theorem dX7_run_63 : decode cX7_run 63 = .ok (.ifCond .ne 70, 3) := by decide +kernel
theorem dX7_run_66 : decode cX7_run 66 = .ok (.aload_n 0, 1) := by decide +kernel
theorem dX7_run_67 : decode cX7_run 67 = .ok (.aload_n 0, 1) := by decide +kernel
theorem dX7_run_68 : decode cX7_run 68 = .ok (.getfield 39, 3) := by decide +kernel
theorem dX7_run_71 : decode cX7_run 71 = .ok (.iload_n 2, 1) := by decide +kernel
theorem dX7_run_72 : decode cX7_run 72 = .ok (.invokevirtual 285, 3) := by decide +kernel
theorem dX7_run_75 : decode cX7_run 75 = .ok (.aload_n 0, 1) := by decide +kernel
theorem dX7_run_76 : decode cX7_run 76 = .ok (.getfield 39, 3) := by decide +kernel
theorem dX7_run_79 : decode cX7_run 79 = .ok (.iload_n 2, 1) := by decide +kernel
theorem dX7_run_80 : decode cX7_run 80 = .ok (.invokevirtual 288, 3) := by decide +kernel
theorem dX7_run_83 : decode cX7_run 83 = .ok (.aload_n 0, 1) := by decide +kernel
theorem dX7_run_84 : decode cX7_run 84 = .ok (.getfield 39, 3) := by decide +kernel
theorem dX7_run_87 : decode cX7_run 87 = .ok (.iload_n 2, 1) := by decide +kernel
theorem dX7_run_88 : decode cX7_run 88 = .ok (.invokevirtual 291, 3) := by decide +kernel
theorem dX7_run_91 : decode cX7_run 91 = .ok (.invokevirtual 294, 3) := by decide +kernel
theorem dX7_run_94 : decode cX7_run 94 = .ok (.istore_n 1, 1) := by decide +kernel
theorem dX7_run_95 : decode cX7_run 95 = .ok (.iload_n 1, 1) := by decide +kernel
theorem dX7_run_96 : decode cX7_run 96 = .ok (.ifCond .ne 31, 3) := by decide +kernel
theorem dX7_run_99 : decode cX7_run 99 = .ok (.aload_n 0, 1) := by decide +kernel
theorem dX7_run_100 : decode cX7_run 100 = .ok (.aload_n 0, 1) := by decide +kernel
theorem dX7_run_101 : decode cX7_run 101 = .ok (.getfield 39, 3) := by decide +kernel
theorem dX7_run_104 : decode cX7_run 104 = .ok (.iload_n 2, 1) := by decide +kernel
theorem dX7_run_105 : decode cX7_run 105 = .ok (.invokevirtual 285, 3) := by decide +kernel
theorem dX7_run_108 : decode cX7_run 108 = .ok (.aload_n 0, 1) := by decide +kernel
theorem dX7_run_109 : decode cX7_run 109 = .ok (.getfield 39, 3) := by decide +kernel
theorem dX7_run_112 : decode cX7_run 112 = .ok (.iload_n 2, 1) := by decide +kernel
theorem dX7_run_113 : decode cX7_run 113 = .ok (.invokevirtual 288, 3) := by decide +kernel
theorem dX7_run_116 : decode cX7_run 116 = .ok (.aload_n 0, 1) := by decide +kernel
theorem dX7_run_117 : decode cX7_run 117 = .ok (.getfield 39, 3) := by decide +kernel
theorem dX7_run_120 : decode cX7_run 120 = .ok (.iload_n 2, 1) := by decide +kernel
theorem dX7_run_121 : decode cX7_run 121 = .ok (.invokevirtual 291, 3) := by decide +kernel
theorem dX7_run_124 : decode cX7_run 124 = .ok (.invokevirtual 298, 3) := by decide +kernel
theorem dX7_run_127 : decode cX7_run 127 = .ok (.iinc 2 1, 3) := by decide +kernel
theorem dX7_run_130 : decode cX7_run 130 = .ok (.goto (-79), 3) := by decide +kernel
theorem dX7_run_133 : decode cX7_run 133 = .ok (.iload_n 1, 1) := by decide +kernel
theorem dX7_run_134 : decode cX7_run 134 = .ok (.ifCond .eq 14, 3) := by decide +kernel
theorem dX7_run_137 : decode cX7_run 137 = .ok (.aload_n 0, 1) := by decide +kernel
theorem dX7_run_138 : decode cX7_run 138 = .ok (.getfield 12, 3) := by decide +kernel
theorem dX7_run_141 : decode cX7_run 141 = .ok (.aload_n 0, 1) := by decide +kernel
theorem dX7_run_142 : decode cX7_run 142 = .ok (.getfield 16, 3) := by decide +kernel
theorem dX7_run_145 : decode cX7_run 145 = .ok (.invokevirtual 281, 3) := by decide +kernel
theorem dX7_run_148 : decode cX7_run 148 = .ok (.iload_n 1, 1) := by decide +kernel
theorem dX7_run_149 : decode cX7_run 149 = .ok (.iconst 3, 1) := by decide +kernel
theorem dX7_run_150 : decode cX7_run 150 = .ok (.if_icmp .ne 14, 3) := by decide +kernel
theorem dX7_run_153 : decode cX7_run 153 = .ok (.new 302, 3) := by decide +kernel
theorem dX7_run_156 : decode cX7_run 156 = .ok (.dup, 1) := by decide +kernel
theorem dX7_run_157 : decode cX7_run 157 = .ok (.ldc_w 304, 3) := by decide +kernel
theorem dX7_run_160 : decode cX7_run 160 = .ok (.invokespecial 306, 3) := by decide +kernel
theorem dX7_run_163 : decode cX7_run 163 = .ok (.athrow, 1) := by decide +kernel
theorem dX7_run_164 : decode cX7_run 164 = .ok (.iload_n 1, 1) := by decide +kernel
theorem dX7_run_165 : decode cX7_run 165 = .ok (.ifCond .eq 14, 3) := by decide +kernel
theorem dX7_run_168 : decode cX7_run 168 = .ok (.new 147, 3) := by decide +kernel
theorem dX7_run_171 : decode cX7_run 171 = .ok (.dup, 1) := by decide +kernel
theorem dX7_run_172 : decode cX7_run 172 = .ok (.ldc_w 307, 3) := by decide +kernel
theorem dX7_run_175 : decode cX7_run 175 = .ok (.invokespecial 151, 3) := by decide +kernel
theorem dX7_run_178 : decode cX7_run 178 = .ok (.athrow, 1) := by decide +kernel
theorem dX7_run_179 : decode cX7_run 179 = .ok (.aload_n 0, 1) := by decide +kernel
theorem dX7_run_180 : decode cX7_run 180 = .ok (.getfield 25, 3) := by decide +kernel
theorem dX7_run_183 : decode cX7_run 183 = .ok (.aload_n 0, 1) := by decide +kernel
theorem dX7_run_184 : decode cX7_run 184 = .ok (.getfield 16, 3) := by decide +kernel
theorem dX7_run_187 : decode cX7_run 187 = .ok (.invokevirtual 65, 3) := by decide +kernel
theorem dX7_run_190 : decode cX7_run 190 = .ok (.aload_n 0, 1) := by decide +kernel
theorem dX7_run_191 : decode cX7_run 191 = .ok (.getfield 39, 3) := by decide +kernel
theorem dX7_run_194 : decode cX7_run 194 = .ok (.getfield 284, 3) := by decide +kernel
theorem dX7_run_197 : decode cX7_run 197 = .ok (.ireturn, 1) := by decide +kernel
theorem dX7_errorPosition_0 : decode cX7_errorPosition 0 = .ok (.aload_n 0, 1) := by decide +kernel
theorem dX7_errorPosition_1 : decode cX7_errorPosition 1 = .ok (.getfield 43, 3) := by decide +kernel
theorem dX7_errorPosition_4 : decode cX7_errorPosition 4 = .ok (.ireturn, 1) := by decide +kernel
theorem dX7_refusal_0 : decode cX7_refusal 0 = .ok (.aload_n 0, 1) := by decide +kernel
theorem dX7_refusal_1 : decode cX7_refusal 1 = .ok (.getfield 51, 3) := by decide +kernel
theorem dX7_refusal_4 : decode cX7_refusal 4 = .ok (.ifCond .ne 14, 3) := by decide +kernel
theorem dX7_refusal_7 : decode cX7_refusal 7 = .ok (.new 169, 3) := by decide +kernel
theorem dX7_refusal_10 : decode cX7_refusal 10 = .ok (.dup, 1) := by decide +kernel
theorem dX7_refusal_11 : decode cX7_refusal 11 = .ok (.ldc_w 309, 3) := by decide +kernel
theorem dX7_refusal_14 : decode cX7_refusal 14 = .ok (.invokespecial 171, 3) := by decide +kernel
theorem dX7_refusal_17 : decode cX7_refusal 17 = .ok (.athrow, 1) := by decide +kernel
theorem dX7_refusal_18 : decode cX7_refusal 18 = .ok (.iload_n 1, 1) := by decide +kernel
theorem dX7_refusal_19 : decode cX7_refusal 19 = .ok (.ifCond .eq 10, 3) := by decide +kernel
theorem dX7_refusal_22 : decode cX7_refusal 22 = .ok (.aload_n 0, 1) := by decide +kernel
theorem dX7_refusal_23 : decode cX7_refusal 23 = .ok (.getfield 54, 3) := by decide +kernel
theorem dX7_refusal_26 : decode cX7_refusal 26 = .ok (.goto 7, 3) := by decide +kernel
theorem dX7_refusal_29 : decode cX7_refusal 29 = .ok (.aload_n 0, 1) := by decide +kernel
theorem dX7_refusal_30 : decode cX7_refusal 30 = .ok (.getfield 51, 3) := by decide +kernel
theorem dX7_refusal_33 : decode cX7_refusal 33 = .ok (.ireturn, 1) := by decide +kernel
theorem dX7_account_0 : decode cX7_account 0 = .ok (.iload_n 1, 1) := by decide +kernel
theorem dX7_account_1 : decode cX7_account 1 = .ok (.tableswitch 185 0 10 #[59, 70, 81, 92, 103, 114, 136, 147, 158, 169, 177], 59) := by decide +kernel
theorem dX7_account_60 : decode cX7_account 60 = .ok (.aload_n 0, 1) := by decide +kernel
theorem dX7_account_61 : decode cX7_account 61 = .ok (.getfield 12, 3) := by decide +kernel
theorem dX7_account_64 : decode cX7_account 64 = .ok (.getfield 126, 3) := by decide +kernel
theorem dX7_account_67 : decode cX7_account 67 = .ok (.getfield 311, 3) := by decide +kernel
theorem dX7_account_70 : decode cX7_account 70 = .ok (.ireturn, 1) := by decide +kernel
theorem dX7_account_71 : decode cX7_account 71 = .ok (.aload_n 0, 1) := by decide +kernel
theorem dX7_account_72 : decode cX7_account 72 = .ok (.getfield 12, 3) := by decide +kernel
theorem dX7_account_75 : decode cX7_account 75 = .ok (.getfield 126, 3) := by decide +kernel
theorem dX7_account_78 : decode cX7_account 78 = .ok (.invokevirtual 312, 3) := by decide +kernel
theorem dX7_account_81 : decode cX7_account 81 = .ok (.ireturn, 1) := by decide +kernel
theorem dX7_account_82 : decode cX7_account 82 = .ok (.aload_n 0, 1) := by decide +kernel
theorem dX7_account_83 : decode cX7_account 83 = .ok (.getfield 12, 3) := by decide +kernel
theorem dX7_account_86 : decode cX7_account 86 = .ok (.getfield 126, 3) := by decide +kernel
theorem dX7_account_89 : decode cX7_account 89 = .ok (.invokevirtual 315, 3) := by decide +kernel
theorem dX7_account_92 : decode cX7_account 92 = .ok (.ireturn, 1) := by decide +kernel
theorem dX7_account_93 : decode cX7_account 93 = .ok (.aload_n 0, 1) := by decide +kernel
theorem dX7_account_94 : decode cX7_account 94 = .ok (.getfield 12, 3) := by decide +kernel
theorem dX7_account_97 : decode cX7_account 97 = .ok (.getfield 203, 3) := by decide +kernel
theorem dX7_account_100 : decode cX7_account 100 = .ok (.invokevirtual 318, 3) := by decide +kernel
theorem dX7_account_103 : decode cX7_account 103 = .ok (.ireturn, 1) := by decide +kernel
theorem dX7_account_104 : decode cX7_account 104 = .ok (.aload_n 0, 1) := by decide +kernel
theorem dX7_account_105 : decode cX7_account 105 = .ok (.getfield 12, 3) := by decide +kernel
theorem dX7_account_108 : decode cX7_account 108 = .ok (.getfield 103, 3) := by decide +kernel
theorem dX7_account_111 : decode cX7_account 111 = .ok (.getfield 123, 3) := by decide +kernel
theorem dX7_account_114 : decode cX7_account 114 = .ok (.ireturn, 1) := by decide +kernel
theorem dX7_account_115 : decode cX7_account 115 = .ok (.aload_n 0, 1) := by decide +kernel
theorem dX7_account_116 : decode cX7_account 116 = .ok (.getfield 12, 3) := by decide +kernel
theorem dX7_account_119 : decode cX7_account 119 = .ok (.getfield 126, 3) := by decide +kernel
theorem dX7_account_122 : decode cX7_account 122 = .ok (.invokevirtual 315, 3) := by decide +kernel
theorem dX7_account_125 : decode cX7_account 125 = .ok (.aload_n 0, 1) := by decide +kernel
theorem dX7_account_126 : decode cX7_account 126 = .ok (.getfield 12, 3) := by decide +kernel
theorem dX7_account_129 : decode cX7_account 129 = .ok (.getfield 126, 3) := by decide +kernel
theorem dX7_account_132 : decode cX7_account 132 = .ok (.invokevirtual 312, 3) := by decide +kernel
theorem dX7_account_135 : decode cX7_account 135 = .ok (.isub, 1) := by decide +kernel
theorem dX7_account_136 : decode cX7_account 136 = .ok (.ireturn, 1) := by decide +kernel
theorem dX7_account_137 : decode cX7_account 137 = .ok (.aload_n 0, 1) := by decide +kernel
theorem dX7_account_138 : decode cX7_account 138 = .ok (.getfield 12, 3) := by decide +kernel
theorem dX7_account_141 : decode cX7_account 141 = .ok (.getfield 203, 3) := by decide +kernel
theorem dX7_account_144 : decode cX7_account 144 = .ok (.getfield 321, 3) := by decide +kernel
theorem dX7_account_147 : decode cX7_account 147 = .ok (.ireturn, 1) := by decide +kernel
theorem dX7_account_148 : decode cX7_account 148 = .ok (.aload_n 0, 1) := by decide +kernel
theorem dX7_account_149 : decode cX7_account 149 = .ok (.getfield 12, 3) := by decide +kernel
theorem dX7_account_152 : decode cX7_account 152 = .ok (.getfield 203, 3) := by decide +kernel
theorem dX7_account_155 : decode cX7_account 155 = .ok (.getfield 324, 3) := by decide +kernel
theorem dX7_account_158 : decode cX7_account 158 = .ok (.ireturn, 1) := by decide +kernel
theorem dX7_account_159 : decode cX7_account 159 = .ok (.aload_n 0, 1) := by decide +kernel
theorem dX7_account_160 : decode cX7_account 160 = .ok (.getfield 12, 3) := by decide +kernel
theorem dX7_account_163 : decode cX7_account 163 = .ok (.getfield 203, 3) := by decide +kernel
theorem dX7_account_166 : decode cX7_account 166 = .ok (.getfield 327, 3) := by decide +kernel
theorem dX7_account_169 : decode cX7_account 169 = .ok (.ireturn, 1) := by decide +kernel
theorem dX7_account_170 : decode cX7_account 170 = .ok (.aload_n 0, 1) := by decide +kernel
theorem dX7_account_171 : decode cX7_account 171 = .ok (.getfield 39, 3) := by decide +kernel
theorem dX7_account_174 : decode cX7_account 174 = .ok (.getfield 272, 3) := by decide +kernel
theorem dX7_account_177 : decode cX7_account 177 = .ok (.ireturn, 1) := by decide +kernel
theorem dX7_account_178 : decode cX7_account 178 = .ok (.aload_n 0, 1) := by decide +kernel
theorem dX7_account_179 : decode cX7_account 179 = .ok (.getfield 25, 3) := by decide +kernel
theorem dX7_account_182 : decode cX7_account 182 = .ok (.getfield 330, 3) := by decide +kernel
theorem dX7_account_185 : decode cX7_account 185 = .ok (.ireturn, 1) := by decide +kernel
theorem dX7_account_186 : decode cX7_account 186 = .ok (.new 147, 3) := by decide +kernel
theorem dX7_account_189 : decode cX7_account 189 = .ok (.dup, 1) := by decide +kernel
theorem dX7_account_190 : decode cX7_account 190 = .ok (.ldc_w 331, 3) := by decide +kernel
theorem dX7_account_193 : decode cX7_account 193 = .ok (.invokespecial 151, 3) := by decide +kernel
theorem dX7_account_196 : decode cX7_account 196 = .ok (.athrow, 1) := by decide +kernel
theorem dX7_isWell_0 : decode cX7_isWell 0 = .ok (.aload_n 0, 1) := by decide +kernel
theorem dX7_isWell_1 : decode cX7_isWell 1 = .ok (.getfield 12, 3) := by decide +kernel
theorem dX7_isWell_4 : decode cX7_isWell 4 = .ok (.invokevirtual 333, 3) := by decide +kernel
theorem dX7_isWell_7 : decode cX7_isWell 7 = .ok (.ifCond .eq 40, 3) := by decide +kernel
theorem dX7_isWell_10 : decode cX7_isWell 10 = .ok (.aload_n 0, 1) := by decide +kernel
theorem dX7_isWell_11 : decode cX7_isWell 11 = .ok (.getfield 12, 3) := by decide +kernel
theorem dX7_isWell_14 : decode cX7_isWell 14 = .ok (.invokevirtual 336, 3) := by decide +kernel
theorem dX7_isWell_17 : decode cX7_isWell 17 = .ok (.ifCond .eq 30, 3) := by decide +kernel
theorem dX7_isWell_20 : decode cX7_isWell 20 = .ok (.aload_n 0, 1) := by decide +kernel
theorem dX7_isWell_21 : decode cX7_isWell 21 = .ok (.getfield 12, 3) := by decide +kernel
theorem dX7_isWell_24 : decode cX7_isWell 24 = .ok (.getfield 126, 3) := by decide +kernel
theorem dX7_isWell_27 : decode cX7_isWell 27 = .ok (.invokevirtual 339, 3) := by decide +kernel
theorem dX7_isWell_30 : decode cX7_isWell 30 = .ok (.ifCond .eq 17, 3) := by decide +kernel
theorem dX7_isWell_33 : decode cX7_isWell 33 = .ok (.aload_n 0, 1) := by decide +kernel
theorem dX7_isWell_34 : decode cX7_isWell 34 = .ok (.getfield 12, 3) := by decide +kernel
theorem dX7_isWell_37 : decode cX7_isWell 37 = .ok (.invokevirtual 342, 3) := by decide +kernel
theorem dX7_isWell_40 : decode cX7_isWell 40 = .ok (.ifCond .ne 7, 3) := by decide +kernel
theorem dX7_isWell_43 : decode cX7_isWell 43 = .ok (.iconst 1, 1) := by decide +kernel
theorem dX7_isWell_44 : decode cX7_isWell 44 = .ok (.goto 4, 3) := by decide +kernel
theorem dX7_isWell_47 : decode cX7_isWell 47 = .ok (.iconst 0, 1) := by decide +kernel
theorem dX7_isWell_48 : decode cX7_isWell 48 = .ok (.ireturn, 1) := by decide +kernel
theorem dX7_meanWaste_0 : decode cX7_meanWaste 0 = .ok (.aload_n 0, 1) := by decide +kernel
theorem dX7_meanWaste_1 : decode cX7_meanWaste 1 = .ok (.getfield 12, 3) := by decide +kernel
theorem dX7_meanWaste_4 : decode cX7_meanWaste 4 = .ok (.getfield 126, 3) := by decide +kernel
theorem dX7_meanWaste_7 : decode cX7_meanWaste 7 = .ok (.getfield 311, 3) := by decide +kernel
theorem dX7_meanWaste_10 : decode cX7_meanWaste 10 = .ok (.istore_n 1, 1) := by decide +kernel
theorem dX7_meanWaste_11 : decode cX7_meanWaste 11 = .ok (.iload_n 1, 1) := by decide +kernel
theorem dX7_meanWaste_12 : decode cX7_meanWaste 12 = .ok (.ifCond .gt 14, 3) := by decide +kernel
theorem dX7_meanWaste_15 : decode cX7_meanWaste 15 = .ok (.new 345, 3) := by decide +kernel
theorem dX7_meanWaste_18 : decode cX7_meanWaste 18 = .ok (.dup, 1) := by decide +kernel
theorem dX7_meanWaste_19 : decode cX7_meanWaste 19 = .ok (.ldc_w 347, 3) := by decide +kernel
theorem dX7_meanWaste_22 : decode cX7_meanWaste 22 = .ok (.invokespecial 349, 3) := by decide +kernel
theorem dX7_meanWaste_25 : decode cX7_meanWaste 25 = .ok (.athrow, 1) := by decide +kernel
theorem dX7_meanWaste_26 : decode cX7_meanWaste 26 = .ok (.aload_n 0, 1) := by decide +kernel
theorem dX7_meanWaste_27 : decode cX7_meanWaste 27 = .ok (.getfield 12, 3) := by decide +kernel
theorem dX7_meanWaste_30 : decode cX7_meanWaste 30 = .ok (.getfield 126, 3) := by decide +kernel
theorem dX7_meanWaste_33 : decode cX7_meanWaste 33 = .ok (.invokevirtual 315, 3) := by decide +kernel
theorem dX7_meanWaste_36 : decode cX7_meanWaste 36 = .ok (.aload_n 0, 1) := by decide +kernel
theorem dX7_meanWaste_37 : decode cX7_meanWaste 37 = .ok (.getfield 12, 3) := by decide +kernel
theorem dX7_meanWaste_40 : decode cX7_meanWaste 40 = .ok (.getfield 126, 3) := by decide +kernel
theorem dX7_meanWaste_43 : decode cX7_meanWaste 43 = .ok (.invokevirtual 312, 3) := by decide +kernel
theorem dX7_meanWaste_46 : decode cX7_meanWaste 46 = .ok (.isub, 1) := by decide +kernel
theorem dX7_meanWaste_47 : decode cX7_meanWaste 47 = .ok (.i2d, 1) := by decide +kernel
theorem dX7_meanWaste_48 : decode cX7_meanWaste 48 = .ok (.iload_n 1, 1) := by decide +kernel
theorem dX7_meanWaste_49 : decode cX7_meanWaste 49 = .ok (.i2d, 1) := by decide +kernel
theorem dX7_meanWaste_50 : decode cX7_meanWaste 50 = .ok (.ddiv, 1) := by decide +kernel
theorem dX7_meanWaste_51 : decode cX7_meanWaste 51 = .ok (.dreturn, 1) := by decide +kernel
theorem dX7_lentShare_0 : decode cX7_lentShare 0 = .ok (.aload_n 0, 1) := by decide +kernel
theorem dX7_lentShare_1 : decode cX7_lentShare 1 = .ok (.getfield 12, 3) := by decide +kernel
theorem dX7_lentShare_4 : decode cX7_lentShare 4 = .ok (.getfield 126, 3) := by decide +kernel
theorem dX7_lentShare_7 : decode cX7_lentShare 7 = .ok (.invokevirtual 315, 3) := by decide +kernel
theorem dX7_lentShare_10 : decode cX7_lentShare 10 = .ok (.i2f, 1) := by decide +kernel
theorem dX7_lentShare_11 : decode cX7_lentShare 11 = .ok (.ldc_w 350, 3) := by decide +kernel
theorem dX7_lentShare_14 : decode cX7_lentShare 14 = .ok (.fdiv, 1) := by decide +kernel
theorem dX7_lentShare_15 : decode cX7_lentShare 15 = .ok (.freturn, 1) := by decide +kernel
theorem dX7_undo_0 : decode cX7_undo 0 = .ok (.aload_n 0, 1) := by decide +kernel
theorem dX7_undo_1 : decode cX7_undo 1 = .ok (.getfield 25, 3) := by decide +kernel
theorem dX7_undo_4 : decode cX7_undo 4 = .ok (.getfield 330, 3) := by decide +kernel
theorem dX7_undo_7 : decode cX7_undo 7 = .ok (.ifCond .gt 14, 3) := by decide +kernel
theorem dX7_undo_10 : decode cX7_undo 10 = .ok (.new 263, 3) := by decide +kernel
theorem dX7_undo_13 : decode cX7_undo 13 = .ok (.dup, 1) := by decide +kernel
theorem dX7_undo_14 : decode cX7_undo 14 = .ok (.ldc_w 351, 3) := by decide +kernel
theorem dX7_undo_17 : decode cX7_undo 17 = .ok (.invokespecial 267, 3) := by decide +kernel
theorem dX7_undo_20 : decode cX7_undo 20 = .ok (.athrow, 1) := by decide +kernel
theorem dX7_undo_21 : decode cX7_undo 21 = .ok (.aload_n 0, 1) := by decide +kernel
theorem dX7_undo_22 : decode cX7_undo 22 = .ok (.getfield 25, 3) := by decide +kernel
theorem dX7_undo_25 : decode cX7_undo 25 = .ok (.aload_n 0, 1) := by decide +kernel
theorem dX7_undo_26 : decode cX7_undo 26 = .ok (.getfield 12, 3) := by decide +kernel
theorem dX7_undo_29 : decode cX7_undo 29 = .ok (.invokevirtual 353, 3) := by decide +kernel
theorem dX7_undo_32 : decode cX7_undo 32 = .ok (.aload_n 0, 1) := by decide +kernel
theorem dX7_undo_33 : decode cX7_undo 33 = .ok (.getfield 25, 3) := by decide +kernel
theorem dX7_undo_36 : decode cX7_undo 36 = .ok (.getfield 330, 3) := by decide +kernel
theorem dX7_undo_39 : decode cX7_undo 39 = .ok (.ireturn, 1) := by decide +kernel
theorem dX7_save_0 : decode cX7_save 0 = .ok (.aload_n 0, 1) := by decide +kernel
theorem dX7_save_1 : decode cX7_save 1 = .ok (.getfield 19, 3) := by decide +kernel
theorem dX7_save_4 : decode cX7_save 4 = .ok (.aload_n 0, 1) := by decide +kernel
theorem dX7_save_5 : decode cX7_save 5 = .ok (.getfield 12, 3) := by decide +kernel
theorem dX7_save_8 : decode cX7_save 8 = .ok (.invokevirtual 281, 3) := by decide +kernel
theorem dX7_save_11 : decode cX7_save 11 = .ok (.aload_n 0, 1) := by decide +kernel
theorem dX7_save_12 : decode cX7_save 12 = .ok (.iconst 1, 1) := by decide +kernel
theorem dX7_save_13 : decode cX7_save 13 = .ok (.putfield 47, 3) := by decide +kernel
theorem dX7_save_16 : decode cX7_save 16 = .ok (.aload_n 0, 1) := by decide +kernel
theorem dX7_save_17 : decode cX7_save 17 = .ok (.getfield 12, 3) := by decide +kernel
theorem dX7_save_20 : decode cX7_save 20 = .ok (.getfield 126, 3) := by decide +kernel
theorem dX7_save_23 : decode cX7_save 23 = .ok (.getfield 311, 3) := by decide +kernel
theorem dX7_save_26 : decode cX7_save 26 = .ok (.ireturn, 1) := by decide +kernel
theorem dX7_restore_0 : decode cX7_restore 0 = .ok (.aload_n 0, 1) := by decide +kernel
theorem dX7_restore_1 : decode cX7_restore 1 = .ok (.getfield 47, 3) := by decide +kernel
theorem dX7_restore_4 : decode cX7_restore 4 = .ok (.ifCond .ne 14, 3) := by decide +kernel
theorem dX7_restore_7 : decode cX7_restore 7 = .ok (.new 263, 3) := by decide +kernel
theorem dX7_restore_10 : decode cX7_restore 10 = .ok (.dup, 1) := by decide +kernel
theorem dX7_restore_11 : decode cX7_restore 11 = .ok (.ldc_w 356, 3) := by decide +kernel
theorem dX7_restore_14 : decode cX7_restore 14 = .ok (.invokespecial 267, 3) := by decide +kernel
theorem dX7_restore_17 : decode cX7_restore 17 = .ok (.athrow, 1) := by decide +kernel
theorem dX7_restore_18 : decode cX7_restore 18 = .ok (.aload_n 0, 1) := by decide +kernel
theorem dX7_restore_19 : decode cX7_restore 19 = .ok (.getfield 12, 3) := by decide +kernel
theorem dX7_restore_22 : decode cX7_restore 22 = .ok (.aload_n 0, 1) := by decide +kernel
theorem dX7_restore_23 : decode cX7_restore 23 = .ok (.getfield 19, 3) := by decide +kernel
theorem dX7_restore_26 : decode cX7_restore 26 = .ok (.invokevirtual 281, 3) := by decide +kernel
theorem dX7_restore_29 : decode cX7_restore 29 = .ok (.aload_n 0, 1) := by decide +kernel
theorem dX7_restore_30 : decode cX7_restore 30 = .ok (.getfield 25, 3) := by decide +kernel
theorem dX7_restore_33 : decode cX7_restore 33 = .ok (.invokevirtual 358, 3) := by decide +kernel
theorem dX7_restore_36 : decode cX7_restore 36 = .ok (.aload_n 0, 1) := by decide +kernel
theorem dX7_restore_37 : decode cX7_restore 37 = .ok (.getfield 12, 3) := by decide +kernel
theorem dX7_restore_40 : decode cX7_restore 40 = .ok (.getfield 126, 3) := by decide +kernel
theorem dX7_restore_43 : decode cX7_restore 43 = .ok (.getfield 311, 3) := by decide +kernel
theorem dX7_restore_46 : decode cX7_restore 46 = .ok (.ireturn, 1) := by decide +kernel
theorem dX7_judgeLend_0 : decode cX7_judgeLend 0 = .ok (.iload_n 1, 1) := by decide +kernel
theorem dX7_judgeLend_1 : decode cX7_judgeLend 1 = .ok (.invokestatic 152, 3) := by decide +kernel
theorem dX7_judgeLend_4 : decode cX7_judgeLend 4 = .ok (.ifCond .eq 10, 3) := by decide +kernel
theorem dX7_judgeLend_7 : decode cX7_judgeLend 7 = .ok (.iload_n 2, 1) := by decide +kernel
theorem dX7_judgeLend_8 : decode cX7_judgeLend 8 = .ok (.invokestatic 361, 3) := by decide +kernel
theorem dX7_judgeLend_11 : decode cX7_judgeLend 11 = .ok (.ifCond .ne 5, 3) := by decide +kernel
theorem dX7_judgeLend_14 : decode cX7_judgeLend 14 = .ok (.iconst 2, 1) := by decide +kernel
theorem dX7_judgeLend_15 : decode cX7_judgeLend 15 = .ok (.ireturn, 1) := by decide +kernel
theorem dX7_judgeLend_16 : decode cX7_judgeLend 16 = .ok (.aload_n 0, 1) := by decide +kernel
theorem dX7_judgeLend_17 : decode cX7_judgeLend 17 = .ok (.getfield 12, 3) := by decide +kernel
theorem dX7_judgeLend_20 : decode cX7_judgeLend 20 = .ok (.getfield 126, 3) := by decide +kernel
theorem dX7_judgeLend_23 : decode cX7_judgeLend 23 = .ok (.getfield 311, 3) := by decide +kernel
theorem dX7_judgeLend_26 : decode cX7_judgeLend 26 = .ok (.bipush 16, 2) := by decide +kernel
theorem dX7_judgeLend_28 : decode cX7_judgeLend 28 = .ok (.if_icmp .lt 19, 3) := by decide +kernel
theorem dX7_judgeLend_31 : decode cX7_judgeLend 31 = .ok (.aload_n 0, 1) := by decide +kernel
theorem dX7_judgeLend_32 : decode cX7_judgeLend 32 = .ok (.iconst 1, 1) := by decide +kernel
theorem dX7_judgeLend_33 : decode cX7_judgeLend 33 = .ok (.aload_n 0, 1) := by decide +kernel
theorem dX7_judgeLend_34 : decode cX7_judgeLend 34 = .ok (.getfield 12, 3) := by decide +kernel
theorem dX7_judgeLend_37 : decode cX7_judgeLend 37 = .ok (.getfield 126, 3) := by decide +kernel
theorem dX7_judgeLend_40 : decode cX7_judgeLend 40 = .ok (.getfield 311, 3) := by decide +kernel
theorem dX7_judgeLend_43 : decode cX7_judgeLend 43 = .ok (.invokevirtual 364, 3) := by decide +kernel
theorem dX7_judgeLend_46 : decode cX7_judgeLend 46 = .ok (.ireturn, 1) := by decide +kernel
theorem dX7_judgeLend_47 : decode cX7_judgeLend 47 = .ok (.aload_n 0, 1) := by decide +kernel
theorem dX7_judgeLend_48 : decode cX7_judgeLend 48 = .ok (.getfield 12, 3) := by decide +kernel
theorem dX7_judgeLend_51 : decode cX7_judgeLend 51 = .ok (.getfield 203, 3) := by decide +kernel
theorem dX7_judgeLend_54 : decode cX7_judgeLend 54 = .ok (.invokevirtual 212, 3) := by decide +kernel
theorem dX7_judgeLend_57 : decode cX7_judgeLend 57 = .ok (.istore_n 3, 1) := by decide +kernel
theorem dX7_judgeLend_58 : decode cX7_judgeLend 58 = .ok (.iload_n 3, 1) := by decide +kernel
theorem dX7_judgeLend_59 : decode cX7_judgeLend 59 = .ok (.iload_n 2, 1) := by decide +kernel
theorem dX7_judgeLend_60 : decode cX7_judgeLend 60 = .ok (.invokestatic 367, 3) := by decide +kernel
theorem dX7_judgeLend_63 : decode cX7_judgeLend 63 = .ok (.if_icmp .ge 12, 3) := by decide +kernel
theorem dX7_judgeLend_66 : decode cX7_judgeLend 66 = .ok (.aload_n 0, 1) := by decide +kernel
theorem dX7_judgeLend_67 : decode cX7_judgeLend 67 = .ok (.iconst 2, 1) := by decide +kernel
theorem dX7_judgeLend_68 : decode cX7_judgeLend 68 = .ok (.iload_n 3, 1) := by decide +kernel
theorem dX7_judgeLend_69 : decode cX7_judgeLend 69 = .ok (.invokevirtual 364, 3) := by decide +kernel
theorem dX7_judgeLend_72 : decode cX7_judgeLend 72 = .ok (.goto 4, 3) := by decide +kernel
theorem dX7_judgeLend_75 : decode cX7_judgeLend 75 = .ok (.iconst 0, 1) := by decide +kernel
theorem dX7_judgeLend_76 : decode cX7_judgeLend 76 = .ok (.ireturn, 1) := by decide +kernel
theorem dX7_judgeAsk_0 : decode cX7_judgeAsk 0 = .ok (.iload_n 1, 1) := by decide +kernel
theorem dX7_judgeAsk_1 : decode cX7_judgeAsk 1 = .ok (.invokestatic 152, 3) := by decide +kernel
theorem dX7_judgeAsk_4 : decode cX7_judgeAsk 4 = .ok (.ifCond .eq 10, 3) := by decide +kernel
theorem dX7_judgeAsk_7 : decode cX7_judgeAsk 7 = .ok (.iload_n 2, 1) := by decide +kernel
theorem dX7_judgeAsk_8 : decode cX7_judgeAsk 8 = .ok (.invokestatic 361, 3) := by decide +kernel
theorem dX7_judgeAsk_11 : decode cX7_judgeAsk 11 = .ok (.ifCond .ne 5, 3) := by decide +kernel
theorem dX7_judgeAsk_14 : decode cX7_judgeAsk 14 = .ok (.iconst 2, 1) := by decide +kernel
theorem dX7_judgeAsk_15 : decode cX7_judgeAsk 15 = .ok (.ireturn, 1) := by decide +kernel
theorem dX7_judgeAsk_16 : decode cX7_judgeAsk 16 = .ok (.aload_n 0, 1) := by decide +kernel
theorem dX7_judgeAsk_17 : decode cX7_judgeAsk 17 = .ok (.getfield 12, 3) := by decide +kernel
theorem dX7_judgeAsk_20 : decode cX7_judgeAsk 20 = .ok (.iload_n 2, 1) := by decide +kernel
theorem dX7_judgeAsk_21 : decode cX7_judgeAsk 21 = .ok (.invokevirtual 370, 3) := by decide +kernel
theorem dX7_judgeAsk_24 : decode cX7_judgeAsk 24 = .ok (.ifCond .ne 34, 3) := by decide +kernel
theorem dX7_judgeAsk_27 : decode cX7_judgeAsk 27 = .ok (.aload_n 0, 1) := by decide +kernel
theorem dX7_judgeAsk_28 : decode cX7_judgeAsk 28 = .ok (.getfield 12, 3) := by decide +kernel
theorem dX7_judgeAsk_31 : decode cX7_judgeAsk 31 = .ok (.getfield 103, 3) := by decide +kernel
theorem dX7_judgeAsk_34 : decode cX7_judgeAsk 34 = .ok (.getfield 123, 3) := by decide +kernel
theorem dX7_judgeAsk_37 : decode cX7_judgeAsk 37 = .ok (.bipush 6, 2) := by decide +kernel
theorem dX7_judgeAsk_39 : decode cX7_judgeAsk 39 = .ok (.if_icmp .lt 19, 3) := by decide +kernel
theorem dX7_judgeAsk_42 : decode cX7_judgeAsk 42 = .ok (.aload_n 0, 1) := by decide +kernel
theorem dX7_judgeAsk_43 : decode cX7_judgeAsk 43 = .ok (.iconst 3, 1) := by decide +kernel
theorem dX7_judgeAsk_44 : decode cX7_judgeAsk 44 = .ok (.aload_n 0, 1) := by decide +kernel
theorem dX7_judgeAsk_45 : decode cX7_judgeAsk 45 = .ok (.getfield 12, 3) := by decide +kernel
theorem dX7_judgeAsk_48 : decode cX7_judgeAsk 48 = .ok (.getfield 103, 3) := by decide +kernel
theorem dX7_judgeAsk_51 : decode cX7_judgeAsk 51 = .ok (.getfield 123, 3) := by decide +kernel
theorem dX7_judgeAsk_54 : decode cX7_judgeAsk 54 = .ok (.invokevirtual 364, 3) := by decide +kernel
theorem dX7_judgeAsk_57 : decode cX7_judgeAsk 57 = .ok (.ireturn, 1) := by decide +kernel
theorem dX7_judgeAsk_58 : decode cX7_judgeAsk 58 = .ok (.iconst 0, 1) := by decide +kernel
theorem dX7_judgeAsk_59 : decode cX7_judgeAsk 59 = .ok (.ireturn, 1) := by decide +kernel
theorem dX7_judgeGive_0 : decode cX7_judgeGive 0 = .ok (.aload_n 0, 1) := by decide +kernel
theorem dX7_judgeGive_1 : decode cX7_judgeGive 1 = .ok (.getfield 12, 3) := by decide +kernel
theorem dX7_judgeGive_4 : decode cX7_judgeGive 4 = .ok (.getfield 126, 3) := by decide +kernel
theorem dX7_judgeGive_7 : decode cX7_judgeGive 7 = .ok (.iload_n 1, 1) := by decide +kernel
theorem dX7_judgeGive_8 : decode cX7_judgeGive 8 = .ok (.invokevirtual 130, 3) := by decide +kernel
theorem dX7_judgeGive_11 : decode cX7_judgeGive 11 = .ok (.ifCond .eq 7, 3) := by decide +kernel
theorem dX7_judgeGive_14 : decode cX7_judgeGive 14 = .ok (.iconst 0, 1) := by decide +kernel
theorem dX7_judgeGive_15 : decode cX7_judgeGive 15 = .ok (.goto 4, 3) := by decide +kernel
theorem dX7_judgeGive_18 : decode cX7_judgeGive 18 = .ok (.iconst 1, 1) := by decide +kernel
theorem dX7_judgeGive_19 : decode cX7_judgeGive 19 = .ok (.ireturn, 1) := by decide +kernel
theorem dX7_judgeGiveAll_0 : decode cX7_judgeGiveAll 0 = .ok (.iload_n 1, 1) := by decide +kernel
theorem dX7_judgeGiveAll_1 : decode cX7_judgeGiveAll 1 = .ok (.invokestatic 152, 3) := by decide +kernel
theorem dX7_judgeGiveAll_4 : decode cX7_judgeGiveAll 4 = .ok (.ifCond .ne 5, 3) := by decide +kernel
theorem dX7_judgeGiveAll_7 : decode cX7_judgeGiveAll 7 = .ok (.iconst 2, 1) := by decide +kernel
theorem dX7_judgeGiveAll_8 : decode cX7_judgeGiveAll 8 = .ok (.ireturn, 1) := by decide +kernel
theorem dX7_judgeGiveAll_9 : decode cX7_judgeGiveAll 9 = .ok (.aload_n 0, 1) := by decide +kernel
theorem dX7_judgeGiveAll_10 : decode cX7_judgeGiveAll 10 = .ok (.getfield 12, 3) := by decide +kernel
theorem dX7_judgeGiveAll_13 : decode cX7_judgeGiveAll 13 = .ok (.getfield 126, 3) := by decide +kernel
theorem dX7_judgeGiveAll_16 : decode cX7_judgeGiveAll 16 = .ok (.iload_n 1, 1) := by decide +kernel
theorem dX7_judgeGiveAll_17 : decode cX7_judgeGiveAll 17 = .ok (.invokevirtual 157, 3) := by decide +kernel
theorem dX7_judgeGiveAll_20 : decode cX7_judgeGiveAll 20 = .ok (.ifCond .ne 22, 3) := by decide +kernel
theorem dX7_judgeGiveAll_23 : decode cX7_judgeGiveAll 23 = .ok (.aload_n 0, 1) := by decide +kernel
theorem dX7_judgeGiveAll_24 : decode cX7_judgeGiveAll 24 = .ok (.iconst 4, 1) := by decide +kernel
theorem dX7_judgeGiveAll_25 : decode cX7_judgeGiveAll 25 = .ok (.aload_n 0, 1) := by decide +kernel
theorem dX7_judgeGiveAll_26 : decode cX7_judgeGiveAll 26 = .ok (.getfield 12, 3) := by decide +kernel
theorem dX7_judgeGiveAll_29 : decode cX7_judgeGiveAll 29 = .ok (.getfield 103, 3) := by decide +kernel
theorem dX7_judgeGiveAll_32 : decode cX7_judgeGiveAll 32 = .ok (.iload_n 1, 1) := by decide +kernel
theorem dX7_judgeGiveAll_33 : decode cX7_judgeGiveAll 33 = .ok (.invokevirtual 166, 3) := by decide +kernel
theorem dX7_judgeGiveAll_36 : decode cX7_judgeGiveAll 36 = .ok (.invokevirtual 364, 3) := by decide +kernel
theorem dX7_judgeGiveAll_39 : decode cX7_judgeGiveAll 39 = .ok (.goto 4, 3) := by decide +kernel
theorem dX7_judgeGiveAll_42 : decode cX7_judgeGiveAll 42 = .ok (.iconst 0, 1) := by decide +kernel
theorem dX7_judgeGiveAll_43 : decode cX7_judgeGiveAll 43 = .ok (.ireturn, 1) := by decide +kernel
theorem dX7_judgeResize_0 : decode cX7_judgeResize 0 = .ok (.aload_n 0, 1) := by decide +kernel
theorem dX7_judgeResize_1 : decode cX7_judgeResize 1 = .ok (.getfield 12, 3) := by decide +kernel
theorem dX7_judgeResize_4 : decode cX7_judgeResize 4 = .ok (.getfield 126, 3) := by decide +kernel
theorem dX7_judgeResize_7 : decode cX7_judgeResize 7 = .ok (.iload_n 1, 1) := by decide +kernel
theorem dX7_judgeResize_8 : decode cX7_judgeResize 8 = .ok (.invokevirtual 130, 3) := by decide +kernel
theorem dX7_judgeResize_11 : decode cX7_judgeResize 11 = .ok (.ifCond .ne 5, 3) := by decide +kernel
theorem dX7_judgeResize_14 : decode cX7_judgeResize 14 = .ok (.iconst 1, 1) := by decide +kernel
theorem dX7_judgeResize_15 : decode cX7_judgeResize 15 = .ok (.ireturn, 1) := by decide +kernel
theorem dX7_judgeResize_16 : decode cX7_judgeResize 16 = .ok (.iload_n 2, 1) := by decide +kernel
theorem dX7_judgeResize_17 : decode cX7_judgeResize 17 = .ok (.invokestatic 361, 3) := by decide +kernel
theorem dX7_judgeResize_20 : decode cX7_judgeResize 20 = .ok (.ifCond .ne 5, 3) := by decide +kernel
theorem dX7_judgeResize_23 : decode cX7_judgeResize 23 = .ok (.iconst 2, 1) := by decide +kernel
theorem dX7_judgeResize_24 : decode cX7_judgeResize 24 = .ok (.ireturn, 1) := by decide +kernel
theorem dX7_judgeResize_25 : decode cX7_judgeResize 25 = .ok (.aload_n 0, 1) := by decide +kernel
theorem dX7_judgeResize_26 : decode cX7_judgeResize 26 = .ok (.getfield 12, 3) := by decide +kernel
theorem dX7_judgeResize_29 : decode cX7_judgeResize 29 = .ok (.getfield 126, 3) := by decide +kernel
theorem dX7_judgeResize_32 : decode cX7_judgeResize 32 = .ok (.iload_n 1, 1) := by decide +kernel
theorem dX7_judgeResize_33 : decode cX7_judgeResize 33 = .ok (.invokevirtual 138, 3) := by decide +kernel
theorem dX7_judgeResize_36 : decode cX7_judgeResize 36 = .ok (.iload_n 2, 1) := by decide +kernel
theorem dX7_judgeResize_37 : decode cX7_judgeResize 37 = .ok (.if_icmp .ne 10, 3) := by decide +kernel
theorem dX7_judgeResize_40 : decode cX7_judgeResize 40 = .ok (.aload_n 0, 1) := by decide +kernel
theorem dX7_judgeResize_41 : decode cX7_judgeResize 41 = .ok (.iconst 5, 1) := by decide +kernel
theorem dX7_judgeResize_42 : decode cX7_judgeResize 42 = .ok (.iload_n 2, 1) := by decide +kernel
theorem dX7_judgeResize_43 : decode cX7_judgeResize 43 = .ok (.invokevirtual 364, 3) := by decide +kernel
theorem dX7_judgeResize_46 : decode cX7_judgeResize 46 = .ok (.ireturn, 1) := by decide +kernel
theorem dX7_judgeResize_47 : decode cX7_judgeResize 47 = .ok (.aload_n 0, 1) := by decide +kernel
theorem dX7_judgeResize_48 : decode cX7_judgeResize 48 = .ok (.getfield 12, 3) := by decide +kernel
theorem dX7_judgeResize_51 : decode cX7_judgeResize 51 = .ok (.iload_n 1, 1) := by decide +kernel
theorem dX7_judgeResize_52 : decode cX7_judgeResize 52 = .ok (.invokevirtual 373, 3) := by decide +kernel
theorem dX7_judgeResize_55 : decode cX7_judgeResize 55 = .ok (.istore_n 3, 1) := by decide +kernel
theorem dX7_judgeResize_56 : decode cX7_judgeResize 56 = .ok (.iload_n 3, 1) := by decide +kernel
theorem dX7_judgeResize_57 : decode cX7_judgeResize 57 = .ok (.iload_n 2, 1) := by decide +kernel
theorem dX7_judgeResize_58 : decode cX7_judgeResize 58 = .ok (.invokestatic 367, 3) := by decide +kernel
theorem dX7_judgeResize_61 : decode cX7_judgeResize 61 = .ok (.if_icmp .ge 12, 3) := by decide +kernel
theorem dX7_judgeResize_64 : decode cX7_judgeResize 64 = .ok (.aload_n 0, 1) := by decide +kernel
theorem dX7_judgeResize_65 : decode cX7_judgeResize 65 = .ok (.iconst 2, 1) := by decide +kernel
theorem dX7_judgeResize_66 : decode cX7_judgeResize 66 = .ok (.iload_n 3, 1) := by decide +kernel
theorem dX7_judgeResize_67 : decode cX7_judgeResize 67 = .ok (.invokevirtual 364, 3) := by decide +kernel
theorem dX7_judgeResize_70 : decode cX7_judgeResize 70 = .ok (.goto 4, 3) := by decide +kernel
theorem dX7_judgeResize_73 : decode cX7_judgeResize 73 = .ok (.iconst 0, 1) := by decide +kernel
theorem dX7_judgeResize_74 : decode cX7_judgeResize 74 = .ok (.ireturn, 1) := by decide +kernel
theorem dX7_judgeWay_0 : decode cX7_judgeWay 0 = .ok (.iload_n 1, 1) := by decide +kernel
theorem dX7_judgeWay_1 : decode cX7_judgeWay 1 = .ok (.ifCond .lt 8, 3) := by decide +kernel
theorem dX7_judgeWay_4 : decode cX7_judgeWay 4 = .ok (.iload_n 1, 1) := by decide +kernel
theorem dX7_judgeWay_5 : decode cX7_judgeWay 5 = .ok (.iconst 2, 1) := by decide +kernel
theorem dX7_judgeWay_6 : decode cX7_judgeWay 6 = .ok (.if_icmp .le 5, 3) := by decide +kernel
theorem dX7_judgeWay_9 : decode cX7_judgeWay 9 = .ok (.iconst 2, 1) := by decide +kernel
theorem dX7_judgeWay_10 : decode cX7_judgeWay 10 = .ok (.ireturn, 1) := by decide +kernel
theorem dX7_judgeWay_11 : decode cX7_judgeWay 11 = .ok (.aload_n 0, 1) := by decide +kernel
theorem dX7_judgeWay_12 : decode cX7_judgeWay 12 = .ok (.getfield 12, 3) := by decide +kernel
theorem dX7_judgeWay_15 : decode cX7_judgeWay 15 = .ok (.getfield 203, 3) := by decide +kernel
theorem dX7_judgeWay_18 : decode cX7_judgeWay 18 = .ok (.getfield 327, 3) := by decide +kernel
theorem dX7_judgeWay_21 : decode cX7_judgeWay 21 = .ok (.iload_n 1, 1) := by decide +kernel
theorem dX7_judgeWay_22 : decode cX7_judgeWay 22 = .ok (.if_icmp .ne 12, 3) := by decide +kernel
theorem dX7_judgeWay_25 : decode cX7_judgeWay 25 = .ok (.aload_n 0, 1) := by decide +kernel
theorem dX7_judgeWay_26 : decode cX7_judgeWay 26 = .ok (.iconst 5, 1) := by decide +kernel
theorem dX7_judgeWay_27 : decode cX7_judgeWay 27 = .ok (.iload_n 1, 1) := by decide +kernel
theorem dX7_judgeWay_28 : decode cX7_judgeWay 28 = .ok (.invokevirtual 364, 3) := by decide +kernel
theorem dX7_judgeWay_31 : decode cX7_judgeWay 31 = .ok (.goto 4, 3) := by decide +kernel
theorem dX7_judgeWay_34 : decode cX7_judgeWay 34 = .ok (.iconst 0, 1) := by decide +kernel
theorem dX7_judgeWay_35 : decode cX7_judgeWay 35 = .ok (.ireturn, 1) := by decide +kernel
theorem dX7_refuse_0 : decode cX7_refuse 0 = .ok (.aload_n 0, 1) := by decide +kernel
theorem dX7_refuse_1 : decode cX7_refuse 1 = .ok (.iload_n 1, 1) := by decide +kernel
theorem dX7_refuse_2 : decode cX7_refuse 2 = .ok (.putfield 51, 3) := by decide +kernel
theorem dX7_refuse_5 : decode cX7_refuse 5 = .ok (.aload_n 0, 1) := by decide +kernel
theorem dX7_refuse_6 : decode cX7_refuse 6 = .ok (.iload_n 2, 1) := by decide +kernel
theorem dX7_refuse_7 : decode cX7_refuse 7 = .ok (.putfield 54, 3) := by decide +kernel
theorem dX7_refuse_10 : decode cX7_refuse 10 = .ok (.iconst 3, 1) := by decide +kernel
theorem dX7_refuse_11 : decode cX7_refuse 11 = .ok (.ireturn, 1) := by decide +kernel
theorem dX7_insist_0 : decode cX7_insist 0 = .ok (.iload_n 0, 1) := by decide +kernel
theorem dX7_insist_1 : decode cX7_insist 1 = .ok (.iconst 1, 1) := by decide +kernel
theorem dX7_insist_2 : decode cX7_insist 2 = .ok (.if_icmp .ne 13, 3) := by decide +kernel
theorem dX7_insist_5 : decode cX7_insist 5 = .ok (.new 113, 3) := by decide +kernel
theorem dX7_insist_8 : decode cX7_insist 8 = .ok (.dup, 1) := by decide +kernel
theorem dX7_insist_9 : decode cX7_insist 9 = .ok (.ldc 133, 2) := by decide +kernel
theorem dX7_insist_11 : decode cX7_insist 11 = .ok (.invokespecial 117, 3) := by decide +kernel
theorem dX7_insist_14 : decode cX7_insist 14 = .ok (.athrow, 1) := by decide +kernel
theorem dX7_insist_15 : decode cX7_insist 15 = .ok (.iload_n 0, 1) := by decide +kernel
theorem dX7_insist_16 : decode cX7_insist 16 = .ok (.iconst 2, 1) := by decide +kernel
theorem dX7_insist_17 : decode cX7_insist 17 = .ok (.if_icmp .ne 14, 3) := by decide +kernel
theorem dX7_insist_20 : decode cX7_insist 20 = .ok (.new 147, 3) := by decide +kernel
theorem dX7_insist_23 : decode cX7_insist 23 = .ok (.dup, 1) := by decide +kernel
theorem dX7_insist_24 : decode cX7_insist 24 = .ok (.ldc_w 376, 3) := by decide +kernel
theorem dX7_insist_27 : decode cX7_insist 27 = .ok (.invokespecial 151, 3) := by decide +kernel
theorem dX7_insist_30 : decode cX7_insist 30 = .ok (.athrow, 1) := by decide +kernel
theorem dX7_insist_31 : decode cX7_insist 31 = .ok (.iload_n 0, 1) := by decide +kernel
theorem dX7_insist_32 : decode cX7_insist 32 = .ok (.iconst 3, 1) := by decide +kernel
theorem dX7_insist_33 : decode cX7_insist 33 = .ok (.if_icmp .ne 14, 3) := by decide +kernel
theorem dX7_insist_36 : decode cX7_insist 36 = .ok (.new 302, 3) := by decide +kernel
theorem dX7_insist_39 : decode cX7_insist 39 = .ok (.dup, 1) := by decide +kernel
theorem dX7_insist_40 : decode cX7_insist 40 = .ok (.ldc_w 378, 3) := by decide +kernel
theorem dX7_insist_43 : decode cX7_insist 43 = .ok (.invokespecial 306, 3) := by decide +kernel
theorem dX7_insist_46 : decode cX7_insist 46 = .ok (.athrow, 1) := by decide +kernel
theorem dX7_insist_47 : decode cX7_insist 47 = .ok (.return_, 1) := by decide +kernel
theorem dX7_insistOnNeed_0 : decode cX7_insistOnNeed 0 = .ok (.iload_n 0, 1) := by decide +kernel
theorem dX7_insistOnNeed_1 : decode cX7_insistOnNeed 1 = .ok (.invokestatic 361, 3) := by decide +kernel
theorem dX7_insistOnNeed_4 : decode cX7_insistOnNeed 4 = .ok (.ifCond .ne 14, 3) := by decide +kernel
theorem dX7_insistOnNeed_7 : decode cX7_insistOnNeed 7 = .ok (.new 147, 3) := by decide +kernel
theorem dX7_insistOnNeed_10 : decode cX7_insistOnNeed 10 = .ok (.dup, 1) := by decide +kernel
theorem dX7_insistOnNeed_11 : decode cX7_insistOnNeed 11 = .ok (.ldc_w 380, 3) := by decide +kernel
theorem dX7_insistOnNeed_14 : decode cX7_insistOnNeed 14 = .ok (.invokespecial 151, 3) := by decide +kernel
theorem dX7_insistOnNeed_17 : decode cX7_insistOnNeed 17 = .ok (.athrow, 1) := by decide +kernel
theorem dX7_insistOnNeed_18 : decode cX7_insistOnNeed 18 = .ok (.iload_n 0, 1) := by decide +kernel
theorem dX7_insistOnNeed_19 : decode cX7_insistOnNeed 19 = .ok (.invokestatic 367, 3) := by decide +kernel
theorem dX7_insistOnNeed_22 : decode cX7_insistOnNeed 22 = .ok (.ireturn, 1) := by decide +kernel
theorem dX7_insistOnPiece_0 : decode cX7_insistOnPiece 0 = .ok (.aload_n 0, 1) := by decide +kernel
theorem dX7_insistOnPiece_1 : decode cX7_insistOnPiece 1 = .ok (.getfield 12, 3) := by decide +kernel
theorem dX7_insistOnPiece_4 : decode cX7_insistOnPiece 4 = .ok (.getfield 203, 3) := by decide +kernel
theorem dX7_insistOnPiece_7 : decode cX7_insistOnPiece 7 = .ok (.iload_n 1, 1) := by decide +kernel
theorem dX7_insistOnPiece_8 : decode cX7_insistOnPiece 8 = .ok (.invokevirtual 382, 3) := by decide +kernel
theorem dX7_insistOnPiece_11 : decode cX7_insistOnPiece 11 = .ok (.istore_n 2, 1) := by decide +kernel
theorem dX7_insistOnPiece_12 : decode cX7_insistOnPiece 12 = .ok (.iload_n 2, 1) := by decide +kernel
theorem dX7_insistOnPiece_13 : decode cX7_insistOnPiece 13 = .ok (.ifCond .ge 14, 3) := by decide +kernel
theorem dX7_insistOnPiece_16 : decode cX7_insistOnPiece 16 = .ok (.new 169, 3) := by decide +kernel
theorem dX7_insistOnPiece_19 : decode cX7_insistOnPiece 19 = .ok (.dup, 1) := by decide +kernel
theorem dX7_insistOnPiece_20 : decode cX7_insistOnPiece 20 = .ok (.ldc_w 385, 3) := by decide +kernel
theorem dX7_insistOnPiece_23 : decode cX7_insistOnPiece 23 = .ok (.invokespecial 171, 3) := by decide +kernel
theorem dX7_insistOnPiece_26 : decode cX7_insistOnPiece 26 = .ok (.athrow, 1) := by decide +kernel
theorem dX7_insistOnPiece_27 : decode cX7_insistOnPiece 27 = .ok (.iload_n 2, 1) := by decide +kernel
theorem dX7_insistOnPiece_28 : decode cX7_insistOnPiece 28 = .ok (.ireturn, 1) := by decide +kernel
theorem dX7_judgeOrder_0 : decode cX7_judgeOrder 0 = .ok (.iload_n 1, 1) := by decide +kernel
theorem dX7_judgeOrder_1 : decode cX7_judgeOrder 1 = .ok (.tableswitch 122 103 119 #[97, 122, 122, 122, 122, 83, 122, 103, 122, 122, 90, 109, 122, 122, 122, 122, 116], 83) := by decide +kernel
theorem dX7_judgeOrder_84 : decode cX7_judgeOrder 84 = .ok (.aload_n 0, 1) := by decide +kernel
theorem dX7_judgeOrder_85 : decode cX7_judgeOrder 85 = .ok (.iload_n 2, 1) := by decide +kernel
theorem dX7_judgeOrder_86 : decode cX7_judgeOrder 86 = .ok (.iload_n 3, 1) := by decide +kernel
theorem dX7_judgeOrder_87 : decode cX7_judgeOrder 87 = .ok (.invokevirtual 57, 3) := by decide +kernel
theorem dX7_judgeOrder_90 : decode cX7_judgeOrder 90 = .ok (.ireturn, 1) := by decide +kernel
theorem dX7_judgeOrder_91 : decode cX7_judgeOrder 91 = .ok (.aload_n 0, 1) := by decide +kernel
theorem dX7_judgeOrder_92 : decode cX7_judgeOrder 92 = .ok (.iload_n 2, 1) := by decide +kernel
theorem dX7_judgeOrder_93 : decode cX7_judgeOrder 93 = .ok (.iload_n 3, 1) := by decide +kernel
theorem dX7_judgeOrder_94 : decode cX7_judgeOrder 94 = .ok (.invokevirtual 72, 3) := by decide +kernel
theorem dX7_judgeOrder_97 : decode cX7_judgeOrder 97 = .ok (.ireturn, 1) := by decide +kernel
theorem dX7_judgeOrder_98 : decode cX7_judgeOrder 98 = .ok (.aload_n 0, 1) := by decide +kernel
theorem dX7_judgeOrder_99 : decode cX7_judgeOrder 99 = .ok (.iload_n 2, 1) := by decide +kernel
theorem dX7_judgeOrder_100 : decode cX7_judgeOrder 100 = .ok (.invokevirtual 78, 3) := by decide +kernel
theorem dX7_judgeOrder_103 : decode cX7_judgeOrder 103 = .ok (.ireturn, 1) := by decide +kernel
theorem dX7_judgeOrder_104 : decode cX7_judgeOrder 104 = .ok (.aload_n 0, 1) := by decide +kernel
theorem dX7_judgeOrder_105 : decode cX7_judgeOrder 105 = .ok (.iload_n 2, 1) := by decide +kernel
theorem dX7_judgeOrder_106 : decode cX7_judgeOrder 106 = .ok (.invokevirtual 85, 3) := by decide +kernel
theorem dX7_judgeOrder_109 : decode cX7_judgeOrder 109 = .ok (.ireturn, 1) := by decide +kernel
theorem dX7_judgeOrder_110 : decode cX7_judgeOrder 110 = .ok (.aload_n 0, 1) := by decide +kernel
theorem dX7_judgeOrder_111 : decode cX7_judgeOrder 111 = .ok (.iload_n 2, 1) := by decide +kernel
theorem dX7_judgeOrder_112 : decode cX7_judgeOrder 112 = .ok (.iload_n 3, 1) := by decide +kernel
theorem dX7_judgeOrder_113 : decode cX7_judgeOrder 113 = .ok (.invokevirtual 91, 3) := by decide +kernel
theorem dX7_judgeOrder_116 : decode cX7_judgeOrder 116 = .ok (.ireturn, 1) := by decide +kernel
theorem dX7_judgeOrder_117 : decode cX7_judgeOrder 117 = .ok (.aload_n 0, 1) := by decide +kernel
theorem dX7_judgeOrder_118 : decode cX7_judgeOrder 118 = .ok (.iload_n 2, 1) := by decide +kernel
theorem dX7_judgeOrder_119 : decode cX7_judgeOrder 119 = .ok (.invokevirtual 97, 3) := by decide +kernel
theorem dX7_judgeOrder_122 : decode cX7_judgeOrder 122 = .ok (.ireturn, 1) := by decide +kernel
theorem dX7_judgeOrder_123 : decode cX7_judgeOrder 123 = .ok (.iconst 2, 1) := by decide +kernel
theorem dX7_judgeOrder_124 : decode cX7_judgeOrder 124 = .ok (.ireturn, 1) := by decide +kernel
theorem dX7_carryOut_0 : decode cX7_carryOut 0 = .ok (.iload_n 1, 1) := by decide +kernel
theorem dX7_carryOut_1 : decode cX7_carryOut 1 = .ok (.tableswitch 158 103 119 #[109, 158, 158, 158, 158, 83, 158, 121, 158, 158, 96, 133, 158, 158, 158, 158, 146], 83) := by decide +kernel
theorem dX7_carryOut_84 : decode cX7_carryOut 84 = .ok (.aload_n 0, 1) := by decide +kernel
theorem dX7_carryOut_85 : decode cX7_carryOut 85 = .ok (.getfield 12, 3) := by decide +kernel
theorem dX7_carryOut_88 : decode cX7_carryOut 88 = .ok (.iload_n 2, 1) := by decide +kernel
theorem dX7_carryOut_89 : decode cX7_carryOut 89 = .ok (.iload_n 3, 1) := by decide +kernel
theorem dX7_carryOut_90 : decode cX7_carryOut 90 = .ok (.invokevirtual 69, 3) := by decide +kernel
theorem dX7_carryOut_93 : decode cX7_carryOut 93 = .ok (.pop, 1) := by decide +kernel
theorem dX7_carryOut_94 : decode cX7_carryOut 94 = .ok (.goto 65, 3) := by decide +kernel
theorem dX7_carryOut_97 : decode cX7_carryOut 97 = .ok (.aload_n 0, 1) := by decide +kernel
theorem dX7_carryOut_98 : decode cX7_carryOut 98 = .ok (.getfield 12, 3) := by decide +kernel
theorem dX7_carryOut_101 : decode cX7_carryOut 101 = .ok (.iload_n 2, 1) := by decide +kernel
theorem dX7_carryOut_102 : decode cX7_carryOut 102 = .ok (.iload_n 3, 1) := by decide +kernel
theorem dX7_carryOut_103 : decode cX7_carryOut 103 = .ok (.invokevirtual 75, 3) := by decide +kernel
theorem dX7_carryOut_106 : decode cX7_carryOut 106 = .ok (.pop, 1) := by decide +kernel
theorem dX7_carryOut_107 : decode cX7_carryOut 107 = .ok (.goto 52, 3) := by decide +kernel
theorem dX7_carryOut_110 : decode cX7_carryOut 110 = .ok (.aload_n 0, 1) := by decide +kernel
theorem dX7_carryOut_111 : decode cX7_carryOut 111 = .ok (.getfield 12, 3) := by decide +kernel
theorem dX7_carryOut_114 : decode cX7_carryOut 114 = .ok (.iload_n 2, 1) := by decide +kernel
theorem dX7_carryOut_115 : decode cX7_carryOut 115 = .ok (.invokevirtual 82, 3) := by decide +kernel
theorem dX7_carryOut_118 : decode cX7_carryOut 118 = .ok (.pop, 1) := by decide +kernel
theorem dX7_carryOut_119 : decode cX7_carryOut 119 = .ok (.goto 40, 3) := by decide +kernel
theorem dX7_carryOut_122 : decode cX7_carryOut 122 = .ok (.aload_n 0, 1) := by decide +kernel
theorem dX7_carryOut_123 : decode cX7_carryOut 123 = .ok (.getfield 12, 3) := by decide +kernel
theorem dX7_carryOut_126 : decode cX7_carryOut 126 = .ok (.iload_n 2, 1) := by decide +kernel
theorem dX7_carryOut_127 : decode cX7_carryOut 127 = .ok (.invokevirtual 88, 3) := by decide +kernel
theorem dX7_carryOut_130 : decode cX7_carryOut 130 = .ok (.pop, 1) := by decide +kernel
theorem dX7_carryOut_131 : decode cX7_carryOut 131 = .ok (.goto 28, 3) := by decide +kernel
theorem dX7_carryOut_134 : decode cX7_carryOut 134 = .ok (.aload_n 0, 1) := by decide +kernel
theorem dX7_carryOut_135 : decode cX7_carryOut 135 = .ok (.getfield 12, 3) := by decide +kernel
theorem dX7_carryOut_138 : decode cX7_carryOut 138 = .ok (.iload_n 2, 1) := by decide +kernel
theorem dX7_carryOut_139 : decode cX7_carryOut 139 = .ok (.iload_n 3, 1) := by decide +kernel
theorem dX7_carryOut_140 : decode cX7_carryOut 140 = .ok (.invokevirtual 94, 3) := by decide +kernel
theorem dX7_carryOut_143 : decode cX7_carryOut 143 = .ok (.pop, 1) := by decide +kernel
theorem dX7_carryOut_144 : decode cX7_carryOut 144 = .ok (.goto 15, 3) := by decide +kernel
theorem dX7_carryOut_147 : decode cX7_carryOut 147 = .ok (.aload_n 0, 1) := by decide +kernel
theorem dX7_carryOut_148 : decode cX7_carryOut 148 = .ok (.getfield 12, 3) := by decide +kernel
theorem dX7_carryOut_151 : decode cX7_carryOut 151 = .ok (.iload_n 2, 1) := by decide +kernel
theorem dX7_carryOut_152 : decode cX7_carryOut 152 = .ok (.invokevirtual 100, 3) := by decide +kernel
theorem dX7_carryOut_155 : decode cX7_carryOut 155 = .ok (.pop, 1) := by decide +kernel
theorem dX7_carryOut_156 : decode cX7_carryOut 156 = .ok (.goto 3, 3) := by decide +kernel
theorem dX7_carryOut_159 : decode cX7_carryOut 159 = .ok (.return_, 1) := by decide +kernel
theorem dX7_isName_0 : decode cX7_isName 0 = .ok (.iload_n 0, 1) := by decide +kernel
theorem dX7_isName_1 : decode cX7_isName 1 = .ok (.ifCond .lt 13, 3) := by decide +kernel
theorem dX7_isName_4 : decode cX7_isName 4 = .ok (.iload_n 0, 1) := by decide +kernel
theorem dX7_isName_5 : decode cX7_isName 5 = .ok (.bipush 99, 2) := by decide +kernel
theorem dX7_isName_7 : decode cX7_isName 7 = .ok (.if_icmp .gt 7, 3) := by decide +kernel
theorem dX7_isName_10 : decode cX7_isName 10 = .ok (.iconst 1, 1) := by decide +kernel
theorem dX7_isName_11 : decode cX7_isName 11 = .ok (.goto 4, 3) := by decide +kernel
theorem dX7_isName_14 : decode cX7_isName 14 = .ok (.iconst 0, 1) := by decide +kernel
theorem dX7_isName_15 : decode cX7_isName 15 = .ok (.ireturn, 1) := by decide +kernel
theorem dX7_isAmount_0 : decode cX7_isAmount 0 = .ok (.iload_n 0, 1) := by decide +kernel
theorem dX7_isAmount_1 : decode cX7_isAmount 1 = .ok (.iconst 1, 1) := by decide +kernel
theorem dX7_isAmount_2 : decode cX7_isAmount 2 = .ok (.if_icmp .lt 13, 3) := by decide +kernel
theorem dX7_isAmount_5 : decode cX7_isAmount 5 = .ok (.iload_n 0, 1) := by decide +kernel
theorem dX7_isAmount_6 : decode cX7_isAmount 6 = .ok (.bipush 64, 2) := by decide +kernel
theorem dX7_isAmount_8 : decode cX7_isAmount 8 = .ok (.if_icmp .gt 7, 3) := by decide +kernel
theorem dX7_isAmount_11 : decode cX7_isAmount 11 = .ok (.iconst 1, 1) := by decide +kernel
theorem dX7_isAmount_12 : decode cX7_isAmount 12 = .ok (.goto 4, 3) := by decide +kernel
theorem dX7_isAmount_15 : decode cX7_isAmount 15 = .ok (.iconst 0, 1) := by decide +kernel
theorem dX7_isAmount_16 : decode cX7_isAmount 16 = .ok (.ireturn, 1) := by decide +kernel
theorem dX7_isUnit_0 : decode cX7_isUnit 0 = .ok (.iload_n 0, 1) := by decide +kernel
theorem dX7_isUnit_1 : decode cX7_isUnit 1 = .ok (.ifCond .lt 13, 3) := by decide +kernel
theorem dX7_isUnit_4 : decode cX7_isUnit 4 = .ok (.iload_n 0, 1) := by decide +kernel
theorem dX7_isUnit_5 : decode cX7_isUnit 5 = .ok (.bipush 64, 2) := by decide +kernel
theorem dX7_isUnit_7 : decode cX7_isUnit 7 = .ok (.if_icmp .ge 7, 3) := by decide +kernel
theorem dX7_isUnit_10 : decode cX7_isUnit 10 = .ok (.iconst 1, 1) := by decide +kernel
theorem dX7_isUnit_11 : decode cX7_isUnit 11 = .ok (.goto 4, 3) := by decide +kernel
theorem dX7_isUnit_14 : decode cX7_isUnit 14 = .ok (.iconst 0, 1) := by decide +kernel
theorem dX7_isUnit_15 : decode cX7_isUnit 15 = .ok (.ireturn, 1) := by decide +kernel
theorem dX7_isSize_0 : decode cX7_isSize 0 = .ok (.iload_n 0, 1) := by decide +kernel
theorem dX7_isSize_1 : decode cX7_isSize 1 = .ok (.iconst 1, 1) := by decide +kernel
theorem dX7_isSize_2 : decode cX7_isSize 2 = .ok (.if_icmp .lt 21, 3) := by decide +kernel
theorem dX7_isSize_5 : decode cX7_isSize 5 = .ok (.iload_n 0, 1) := by decide +kernel
theorem dX7_isSize_6 : decode cX7_isSize 6 = .ok (.bipush 64, 2) := by decide +kernel
theorem dX7_isSize_8 : decode cX7_isSize 8 = .ok (.if_icmp .gt 15, 3) := by decide +kernel
theorem dX7_isSize_11 : decode cX7_isSize 11 = .ok (.iload_n 0, 1) := by decide +kernel
theorem dX7_isSize_12 : decode cX7_isSize 12 = .ok (.iload_n 0, 1) := by decide +kernel
theorem dX7_isSize_13 : decode cX7_isSize 13 = .ok (.iconst 1, 1) := by decide +kernel
theorem dX7_isSize_14 : decode cX7_isSize 14 = .ok (.isub, 1) := by decide +kernel
theorem dX7_isSize_15 : decode cX7_isSize 15 = .ok (.iand, 1) := by decide +kernel
theorem dX7_isSize_16 : decode cX7_isSize 16 = .ok (.ifCond .ne 7, 3) := by decide +kernel
theorem dX7_isSize_19 : decode cX7_isSize 19 = .ok (.iconst 1, 1) := by decide +kernel
theorem dX7_isSize_20 : decode cX7_isSize 20 = .ok (.goto 4, 3) := by decide +kernel
theorem dX7_isSize_23 : decode cX7_isSize 23 = .ok (.iconst 0, 1) := by decide +kernel
theorem dX7_isSize_24 : decode cX7_isSize 24 = .ok (.ireturn, 1) := by decide +kernel
theorem dX7_needOf_0 : decode cX7_needOf 0 = .ok (.iconst 1, 1) := by decide +kernel
theorem dX7_needOf_1 : decode cX7_needOf 1 = .ok (.istore_n 1, 1) := by decide +kernel
theorem dX7_needOf_2 : decode cX7_needOf 2 = .ok (.iload_n 1, 1) := by decide +kernel
theorem dX7_needOf_3 : decode cX7_needOf 3 = .ok (.iload_n 0, 1) := by decide +kernel
theorem dX7_needOf_4 : decode cX7_needOf 4 = .ok (.if_icmp .ge 16, 3) := by decide +kernel
theorem dX7_needOf_7 : decode cX7_needOf 7 = .ok (.iload_n 1, 1) := by decide +kernel
theorem dX7_needOf_8 : decode cX7_needOf 8 = .ok (.bipush 64, 2) := by decide +kernel
theorem dX7_needOf_10 : decode cX7_needOf 10 = .ok (.if_icmp .ge 10, 3) := by decide +kernel
theorem dX7_needOf_13 : decode cX7_needOf 13 = .ok (.iload_n 1, 1) := by decide +kernel
theorem dX7_needOf_14 : decode cX7_needOf 14 = .ok (.iconst 2, 1) := by decide +kernel
theorem dX7_needOf_15 : decode cX7_needOf 15 = .ok (.imul, 1) := by decide +kernel
theorem dX7_needOf_16 : decode cX7_needOf 16 = .ok (.istore_n 1, 1) := by decide +kernel
theorem dX7_needOf_17 : decode cX7_needOf 17 = .ok (.goto (-15), 3) := by decide +kernel
theorem dX7_needOf_20 : decode cX7_needOf 20 = .ok (.iload_n 1, 1) := by decide +kernel
theorem dX7_needOf_21 : decode cX7_needOf 21 = .ok (.ireturn, 1) := by decide +kernel
theorem dX7_partOf_0 : decode cX7_partOf 0 = .ok (.iload_n 0, 1) := by decide +kernel
theorem dX7_partOf_1 : decode cX7_partOf 1 = .ok (.iload_n 1, 1) := by decide +kernel
theorem dX7_partOf_2 : decode cX7_partOf 2 = .ok (.ineg, 1) := by decide +kernel
theorem dX7_partOf_3 : decode cX7_partOf 3 = .ok (.iand, 1) := by decide +kernel
theorem dX7_partOf_4 : decode cX7_partOf 4 = .ok (.ireturn, 1) := by decide +kernel
theorem dX7_twinOf_0 : decode cX7_twinOf 0 = .ok (.iload_n 0, 1) := by decide +kernel
theorem dX7_twinOf_1 : decode cX7_twinOf 1 = .ok (.iload_n 1, 1) := by decide +kernel
theorem dX7_twinOf_2 : decode cX7_twinOf 2 = .ok (.invokestatic 387, 3) := by decide +kernel
theorem dX7_twinOf_5 : decode cX7_twinOf 5 = .ok (.iload_n 1, 1) := by decide +kernel
theorem dX7_twinOf_6 : decode cX7_twinOf 6 = .ok (.ixor, 1) := by decide +kernel
theorem dX7_twinOf_7 : decode cX7_twinOf 7 = .ok (.ireturn, 1) := by decide +kernel
theorem dX8_init_0 : decode cX8_init 0 = .ok (.aload_n 0, 1) := by decide +kernel
theorem dX8_init_1 : decode cX8_init 1 = .ok (.invokespecial 1, 3) := by decide +kernel
theorem dX8_init_4 : decode cX8_init 4 = .ok (.aload_n 0, 1) := by decide +kernel
theorem dX8_init_5 : decode cX8_init 5 = .ok (.sipush 129, 3) := by decide +kernel
theorem dX8_init_8 : decode cX8_init 8 = .ok (.newarray .int, 2) := by decide +kernel
theorem dX8_init_10 : decode cX8_init 10 = .ok (.putfield 7, 3) := by decide +kernel
theorem dX8_init_13 : decode cX8_init 13 = .ok (.aload_n 0, 1) := by decide +kernel
theorem dX8_init_14 : decode cX8_init 14 = .ok (.sipush 129, 3) := by decide +kernel
theorem dX8_init_17 : decode cX8_init 17 = .ok (.newarray .int, 2) := by decide +kernel
theorem dX8_init_19 : decode cX8_init 19 = .ok (.putfield 13, 3) := by decide +kernel
theorem dX8_init_22 : decode cX8_init 22 = .ok (.aload_n 0, 1) := by decide +kernel
theorem dX8_init_23 : decode cX8_init 23 = .ok (.sipush 1032, 3) := by decide +kernel
theorem dX8_init_26 : decode cX8_init 26 = .ok (.newarray .int, 2) := by decide +kernel
theorem dX8_init_28 : decode cX8_init 28 = .ok (.putfield 16, 3) := by decide +kernel
theorem dX8_init_31 : decode cX8_init 31 = .ok (.aload_n 0, 1) := by decide +kernel
theorem dX8_init_32 : decode cX8_init 32 = .ok (.sipush 129, 3) := by decide +kernel
theorem dX8_init_35 : decode cX8_init 35 = .ok (.newarray .int, 2) := by decide +kernel
theorem dX8_init_37 : decode cX8_init 37 = .ok (.putfield 19, 3) := by decide +kernel
theorem dX8_init_40 : decode cX8_init 40 = .ok (.aload_n 0, 1) := by decide +kernel
theorem dX8_init_41 : decode cX8_init 41 = .ok (.bipush 60, 2) := by decide +kernel
theorem dX8_init_43 : decode cX8_init 43 = .ok (.newarray .char, 2) := by decide +kernel
theorem dX8_init_45 : decode cX8_init 45 = .ok (.putfield 22, 3) := by decide +kernel
theorem dX8_init_48 : decode cX8_init 48 = .ok (.aload_n 0, 1) := by decide +kernel
theorem dX8_init_49 : decode cX8_init 49 = .ok (.iconst (-1), 1) := by decide +kernel
theorem dX8_init_50 : decode cX8_init 50 = .ok (.putfield 26, 3) := by decide +kernel
theorem dX8_init_53 : decode cX8_init 53 = .ok (.aload_n 0, 1) := by decide +kernel
theorem dX8_init_54 : decode cX8_init 54 = .ok (.sipush 400, 3) := by decide +kernel
theorem dX8_init_57 : decode cX8_init 57 = .ok (.newarray .char, 2) := by decide +kernel
theorem dX8_init_59 : decode cX8_init 59 = .ok (.putfield 30, 3) := by decide +kernel
theorem dX8_init_62 : decode cX8_init 62 = .ok (.aload_n 0, 1) := by decide +kernel
theorem dX8_init_63 : decode cX8_init 63 = .ok (.sipush 180, 3) := by decide +kernel
theorem dX8_init_66 : decode cX8_init 66 = .ok (.newarray .int, 2) := by decide +kernel
theorem dX8_init_68 : decode cX8_init 68 = .ok (.putfield 33, 3) := by decide +kernel
theorem dX8_init_71 : decode cX8_init 71 = .ok (.aload_n 0, 1) := by decide +kernel
theorem dX8_init_72 : decode cX8_init 72 = .ok (.getfield 7, 3) := by decide +kernel
theorem dX8_init_75 : decode cX8_init 75 = .ok (.iconst 0, 1) := by decide +kernel
theorem dX8_init_76 : decode cX8_init 76 = .ok (.bipush 64, 2) := by decide +kernel
theorem dX8_init_78 : decode cX8_init 78 = .ok (.iastore, 1) := by decide +kernel
theorem dX8_init_79 : decode cX8_init 79 = .ok (.return_, 1) := by decide +kernel
theorem dX8_thrown_0 : decode cX8_thrown 0 = .ok (.aload_n 0, 1) := by decide +kernel
theorem dX8_thrown_1 : decode cX8_thrown 1 = .ok (.getfield 36, 3) := by decide +kernel
theorem dX8_thrown_4 : decode cX8_thrown 4 = .ok (.ireturn, 1) := by decide +kernel
theorem dX8_in_0 : decode cX8_in 0 = .ok (.iload_n 0, 1) := by decide +kernel
theorem dX8_in_1 : decode cX8_in 1 = .ok (.iload_n 1, 1) := by decide +kernel
theorem dX8_in_2 : decode cX8_in 2 = .ok (.if_icmp .lt 12, 3) := by decide +kernel
theorem dX8_in_5 : decode cX8_in 5 = .ok (.iload_n 0, 1) := by decide +kernel
theorem dX8_in_6 : decode cX8_in 6 = .ok (.iload_n 2, 1) := by decide +kernel
theorem dX8_in_7 : decode cX8_in 7 = .ok (.if_icmp .gt 7, 3) := by decide +kernel
theorem dX8_in_10 : decode cX8_in 10 = .ok (.iconst 1, 1) := by decide +kernel
theorem dX8_in_11 : decode cX8_in 11 = .ok (.goto 4, 3) := by decide +kernel
theorem dX8_in_14 : decode cX8_in 14 = .ok (.iconst 0, 1) := by decide +kernel
theorem dX8_in_15 : decode cX8_in 15 = .ok (.ireturn, 1) := by decide +kernel
theorem dX8_done_0 : decode cX8_done 0 = .ok (.aload_n 0, 1) := by decide +kernel
theorem dX8_done_1 : decode cX8_done 1 = .ok (.iconst 0, 1) := by decide +kernel
theorem dX8_done_2 : decode cX8_done 2 = .ok (.putfield 36, 3) := by decide +kernel
theorem dX8_done_5 : decode cX8_done 5 = .ok (.iload_n 1, 1) := by decide +kernel
theorem dX8_done_6 : decode cX8_done 6 = .ok (.ireturn, 1) := by decide +kernel
theorem dX8_fails_0 : decode cX8_fails 0 = .ok (.aload_n 0, 1) := by decide +kernel
theorem dX8_fails_1 : decode cX8_fails 1 = .ok (.iload_n 1, 1) := by decide +kernel
theorem dX8_fails_2 : decode cX8_fails 2 = .ok (.putfield 36, 3) := by decide +kernel
theorem dX8_fails_5 : decode cX8_fails 5 = .ok (.aload_n 0, 1) := by decide +kernel
theorem dX8_fails_6 : decode cX8_fails 6 = .ok (.iconst 0, 1) := by decide +kernel
theorem dX8_fails_7 : decode cX8_fails 7 = .ok (.putfield 39, 3) := by decide +kernel
theorem dX8_fails_10 : decode cX8_fails 10 = .ok (.iconst 0, 1) := by decide +kernel
theorem dX8_fails_11 : decode cX8_fails 11 = .ok (.ireturn, 1) := by decide +kernel
theorem dX8_refused_0 : decode cX8_refused 0 = .ok (.aload_n 0, 1) := by decide +kernel
theorem dX8_refused_1 : decode cX8_refused 1 = .ok (.iload_n 1, 1) := by decide +kernel
theorem dX8_refused_2 : decode cX8_refused 2 = .ok (.putfield 43, 3) := by decide +kernel
theorem dX8_refused_5 : decode cX8_refused 5 = .ok (.aload_n 0, 1) := by decide +kernel
theorem dX8_refused_6 : decode cX8_refused 6 = .ok (.iload_n 2, 1) := by decide +kernel
theorem dX8_refused_7 : decode cX8_refused 7 = .ok (.putfield 46, 3) := by decide +kernel
theorem dX8_refused_10 : decode cX8_refused 10 = .ok (.aload_n 0, 1) := by decide +kernel
theorem dX8_refused_11 : decode cX8_refused 11 = .ok (.iload_n 3, 1) := by decide +kernel
theorem dX8_refused_12 : decode cX8_refused 12 = .ok (.putfield 36, 3) := by decide +kernel
theorem dX8_refused_15 : decode cX8_refused 15 = .ok (.aload_n 0, 1) := by decide +kernel
theorem dX8_refused_16 : decode cX8_refused 16 = .ok (.iconst 1, 1) := by decide +kernel
theorem dX8_refused_17 : decode cX8_refused 17 = .ok (.putfield 39, 3) := by decide +kernel
theorem dX8_refused_20 : decode cX8_refused 20 = .ok (.iconst 0, 1) := by decide +kernel
theorem dX8_refused_21 : decode cX8_refused 21 = .ok (.ireturn, 1) := by decide +kernel
theorem dX8_copy_0 : decode cX8_copy 0 = .ok (.iconst 0, 1) := by decide +kernel
theorem dX8_copy_1 : decode cX8_copy 1 = .ok (.istore 4, 2) := by decide +kernel
theorem dX8_copy_3 : decode cX8_copy 3 = .ok (.iload 4, 2) := by decide +kernel
theorem dX8_copy_5 : decode cX8_copy 5 = .ok (.sipush 129, 3) := by decide +kernel
theorem dX8_copy_8 : decode cX8_copy 8 = .ok (.if_icmp .ge 21, 3) := by decide +kernel
theorem dX8_copy_11 : decode cX8_copy 11 = .ok (.aload_n 2, 1) := by decide +kernel
theorem dX8_copy_12 : decode cX8_copy 12 = .ok (.iload_n 3, 1) := by decide +kernel
theorem dX8_copy_13 : decode cX8_copy 13 = .ok (.iload 4, 2) := by decide +kernel
theorem dX8_copy_15 : decode cX8_copy 15 = .ok (.iadd, 1) := by decide +kernel
theorem dX8_copy_16 : decode cX8_copy 16 = .ok (.aload_n 0, 1) := by decide +kernel
theorem dX8_copy_17 : decode cX8_copy 17 = .ok (.iload_n 1, 1) := by decide +kernel
theorem dX8_copy_18 : decode cX8_copy 18 = .ok (.iload 4, 2) := by decide +kernel
theorem dX8_copy_20 : decode cX8_copy 20 = .ok (.iadd, 1) := by decide +kernel
theorem dX8_copy_21 : decode cX8_copy 21 = .ok (.iaload, 1) := by decide +kernel
theorem dX8_copy_22 : decode cX8_copy 22 = .ok (.iastore, 1) := by decide +kernel
theorem dX8_copy_23 : decode cX8_copy 23 = .ok (.iinc 4 1, 3) := by decide +kernel
theorem dX8_copy_26 : decode cX8_copy 26 = .ok (.goto (-23), 3) := by decide +kernel
theorem dX8_copy_29 : decode cX8_copy 29 = .ok (.return_, 1) := by decide +kernel
theorem dX8_looksBack_0 : decode cX8_looksBack 0 = .ok (.aload_n 0, 1) := by decide +kernel
theorem dX8_looksBack_1 : decode cX8_looksBack 1 = .ok (.getfield 7, 3) := by decide +kernel
theorem dX8_looksBack_4 : decode cX8_looksBack 4 = .ok (.iconst 0, 1) := by decide +kernel
theorem dX8_looksBack_5 : decode cX8_looksBack 5 = .ok (.aload_n 0, 1) := by decide +kernel
theorem dX8_looksBack_6 : decode cX8_looksBack 6 = .ok (.getfield 13, 3) := by decide +kernel
theorem dX8_looksBack_9 : decode cX8_looksBack 9 = .ok (.iconst 0, 1) := by decide +kernel
theorem dX8_looksBack_10 : decode cX8_looksBack 10 = .ok (.invokestatic 49, 3) := by decide +kernel
theorem dX8_looksBack_13 : decode cX8_looksBack 13 = .ok (.return_, 1) := by decide +kernel
theorem dX8_kept_0 : decode cX8_kept 0 = .ok (.aload_n 0, 1) := by decide +kernel
theorem dX8_kept_1 : decode cX8_kept 1 = .ok (.getfield 36, 3) := by decide +kernel
theorem dX8_kept_4 : decode cX8_kept 4 = .ok (.ifCond .eq 18, 3) := by decide +kernel
theorem dX8_kept_7 : decode cX8_kept 7 = .ok (.aload_n 0, 1) := by decide +kernel
theorem dX8_kept_8 : decode cX8_kept 8 = .ok (.getfield 13, 3) := by decide +kernel
theorem dX8_kept_11 : decode cX8_kept 11 = .ok (.iconst 0, 1) := by decide +kernel
theorem dX8_kept_12 : decode cX8_kept 12 = .ok (.aload_n 0, 1) := by decide +kernel
theorem dX8_kept_13 : decode cX8_kept 13 = .ok (.getfield 7, 3) := by decide +kernel
theorem dX8_kept_16 : decode cX8_kept 16 = .ok (.iconst 0, 1) := by decide +kernel
theorem dX8_kept_17 : decode cX8_kept 17 = .ok (.invokestatic 49, 3) := by decide +kernel
theorem dX8_kept_20 : decode cX8_kept 20 = .ok (.iconst 0, 1) := by decide +kernel
theorem dX8_kept_21 : decode cX8_kept 21 = .ok (.ireturn, 1) := by decide +kernel
theorem dX8_kept_22 : decode cX8_kept 22 = .ok (.aload_n 0, 1) := by decide +kernel
theorem dX8_kept_23 : decode cX8_kept 23 = .ok (.getfield 53, 3) := by decide +kernel
theorem dX8_kept_26 : decode cX8_kept 26 = .ok (.bipush 8, 2) := by decide +kernel
theorem dX8_kept_28 : decode cX8_kept 28 = .ok (.if_icmp .ne 44, 3) := by decide +kernel
theorem dX8_kept_31 : decode cX8_kept 31 = .ok (.iconst 0, 1) := by decide +kernel
theorem dX8_kept_32 : decode cX8_kept 32 = .ok (.istore_n 2, 1) := by decide +kernel
theorem dX8_kept_33 : decode cX8_kept 33 = .ok (.iload_n 2, 1) := by decide +kernel
theorem dX8_kept_34 : decode cX8_kept 34 = .ok (.sipush 903, 3) := by decide +kernel
theorem dX8_kept_37 : decode cX8_kept 37 = .ok (.if_icmp .ge 25, 3) := by decide +kernel
theorem dX8_kept_40 : decode cX8_kept 40 = .ok (.aload_n 0, 1) := by decide +kernel
theorem dX8_kept_41 : decode cX8_kept 41 = .ok (.getfield 16, 3) := by decide +kernel
theorem dX8_kept_44 : decode cX8_kept 44 = .ok (.iload_n 2, 1) := by decide +kernel
theorem dX8_kept_45 : decode cX8_kept 45 = .ok (.aload_n 0, 1) := by decide +kernel
theorem dX8_kept_46 : decode cX8_kept 46 = .ok (.getfield 16, 3) := by decide +kernel
theorem dX8_kept_49 : decode cX8_kept 49 = .ok (.iload_n 2, 1) := by decide +kernel
theorem dX8_kept_50 : decode cX8_kept 50 = .ok (.sipush 129, 3) := by decide +kernel
theorem dX8_kept_53 : decode cX8_kept 53 = .ok (.iadd, 1) := by decide +kernel
theorem dX8_kept_54 : decode cX8_kept 54 = .ok (.iaload, 1) := by decide +kernel
theorem dX8_kept_55 : decode cX8_kept 55 = .ok (.iastore, 1) := by decide +kernel
theorem dX8_kept_56 : decode cX8_kept 56 = .ok (.iinc 2 1, 3) := by decide +kernel
theorem dX8_kept_59 : decode cX8_kept 59 = .ok (.goto (-26), 3) := by decide +kernel
theorem dX8_kept_62 : decode cX8_kept 62 = .ok (.aload_n 0, 1) := by decide +kernel
theorem dX8_kept_63 : decode cX8_kept 63 = .ok (.dup, 1) := by decide +kernel
theorem dX8_kept_64 : decode cX8_kept 64 = .ok (.getfield 53, 3) := by decide +kernel
theorem dX8_kept_67 : decode cX8_kept 67 = .ok (.iconst 1, 1) := by decide +kernel
theorem dX8_kept_68 : decode cX8_kept 68 = .ok (.isub, 1) := by decide +kernel
theorem dX8_kept_69 : decode cX8_kept 69 = .ok (.putfield 53, 3) := by decide +kernel
theorem dX8_kept_72 : decode cX8_kept 72 = .ok (.aload_n 0, 1) := by decide +kernel
theorem dX8_kept_73 : decode cX8_kept 73 = .ok (.getfield 13, 3) := by decide +kernel
theorem dX8_kept_76 : decode cX8_kept 76 = .ok (.iconst 0, 1) := by decide +kernel
theorem dX8_kept_77 : decode cX8_kept 77 = .ok (.aload_n 0, 1) := by decide +kernel
theorem dX8_kept_78 : decode cX8_kept 78 = .ok (.getfield 16, 3) := by decide +kernel
theorem dX8_kept_81 : decode cX8_kept 81 = .ok (.aload_n 0, 1) := by decide +kernel
theorem dX8_kept_82 : decode cX8_kept 82 = .ok (.getfield 53, 3) := by decide +kernel
theorem dX8_kept_85 : decode cX8_kept 85 = .ok (.sipush 129, 3) := by decide +kernel
theorem dX8_kept_88 : decode cX8_kept 88 = .ok (.imul, 1) := by decide +kernel
theorem dX8_kept_89 : decode cX8_kept 89 = .ok (.invokestatic 49, 3) := by decide +kernel
theorem dX8_kept_92 : decode cX8_kept 92 = .ok (.aload_n 0, 1) := by decide +kernel
theorem dX8_kept_93 : decode cX8_kept 93 = .ok (.dup, 1) := by decide +kernel
theorem dX8_kept_94 : decode cX8_kept 94 = .ok (.getfield 53, 3) := by decide +kernel
theorem dX8_kept_97 : decode cX8_kept 97 = .ok (.iconst 1, 1) := by decide +kernel
theorem dX8_kept_98 : decode cX8_kept 98 = .ok (.iadd, 1) := by decide +kernel
theorem dX8_kept_99 : decode cX8_kept 99 = .ok (.putfield 53, 3) := by decide +kernel
theorem dX8_kept_102 : decode cX8_kept 102 = .ok (.iload_n 1, 1) := by decide +kernel
theorem dX8_kept_103 : decode cX8_kept 103 = .ok (.ireturn, 1) := by decide +kernel
theorem dX8_isName_0 : decode cX8_isName 0 = .ok (.iload_n 0, 1) := by decide +kernel
theorem dX8_isName_1 : decode cX8_isName 1 = .ok (.iconst 0, 1) := by decide +kernel
theorem dX8_isName_2 : decode cX8_isName 2 = .ok (.bipush 99, 2) := by decide +kernel
theorem dX8_isName_4 : decode cX8_isName 4 = .ok (.invokestatic 56, 3) := by decide +kernel
theorem dX8_isName_7 : decode cX8_isName 7 = .ok (.ireturn, 1) := by decide +kernel
theorem dX8_isAmount_0 : decode cX8_isAmount 0 = .ok (.iload_n 0, 1) := by decide +kernel
theorem dX8_isAmount_1 : decode cX8_isAmount 1 = .ok (.iconst 1, 1) := by decide +kernel
theorem dX8_isAmount_2 : decode cX8_isAmount 2 = .ok (.bipush 64, 2) := by decide +kernel
theorem dX8_isAmount_4 : decode cX8_isAmount 4 = .ok (.invokestatic 56, 3) := by decide +kernel
theorem dX8_isAmount_7 : decode cX8_isAmount 7 = .ok (.ireturn, 1) := by decide +kernel
theorem dX8_isLoan_0 : decode cX8_isLoan 0 = .ok (.iload_n 1, 1) := by decide +kernel
theorem dX8_isLoan_1 : decode cX8_isLoan 1 = .ok (.iconst 0, 1) := by decide +kernel
theorem dX8_isLoan_2 : decode cX8_isLoan 2 = .ok (.aload_n 0, 1) := by decide +kernel
theorem dX8_isLoan_3 : decode cX8_isLoan 3 = .ok (.getfield 7, 3) := by decide +kernel
theorem dX8_isLoan_6 : decode cX8_isLoan 6 = .ok (.bipush 64, 2) := by decide +kernel
theorem dX8_isLoan_8 : decode cX8_isLoan 8 = .ok (.iaload, 1) := by decide +kernel
theorem dX8_isLoan_9 : decode cX8_isLoan 9 = .ok (.iconst 1, 1) := by decide +kernel
theorem dX8_isLoan_10 : decode cX8_isLoan 10 = .ok (.isub, 1) := by decide +kernel
theorem dX8_isLoan_11 : decode cX8_isLoan 11 = .ok (.invokestatic 56, 3) := by decide +kernel
theorem dX8_isLoan_14 : decode cX8_isLoan 14 = .ok (.ireturn, 1) := by decide +kernel
theorem dX8_need_0 : decode cX8_need 0 = .ok (.iconst 1, 1) := by decide +kernel
theorem dX8_need_1 : decode cX8_need 1 = .ok (.istore_n 1, 1) := by decide +kernel
theorem dX8_need_2 : decode cX8_need 2 = .ok (.iload_n 1, 1) := by decide +kernel
theorem dX8_need_3 : decode cX8_need 3 = .ok (.iload_n 0, 1) := by decide +kernel
theorem dX8_need_4 : decode cX8_need 4 = .ok (.if_icmp .ge 10, 3) := by decide +kernel
theorem dX8_need_7 : decode cX8_need 7 = .ok (.iload_n 1, 1) := by decide +kernel
theorem dX8_need_8 : decode cX8_need 8 = .ok (.iconst 2, 1) := by decide +kernel
theorem dX8_need_9 : decode cX8_need 9 = .ok (.imul, 1) := by decide +kernel
theorem dX8_need_10 : decode cX8_need 10 = .ok (.istore_n 1, 1) := by decide +kernel
theorem dX8_need_11 : decode cX8_need 11 = .ok (.goto (-9), 3) := by decide +kernel
theorem dX8_need_14 : decode cX8_need 14 = .ok (.iload_n 1, 1) := by decide +kernel
theorem dX8_need_15 : decode cX8_need 15 = .ok (.ireturn, 1) := by decide +kernel
theorem dX8_loanAt_0 : decode cX8_loanAt 0 = .ok (.iconst 0, 1) := by decide +kernel
theorem dX8_loanAt_1 : decode cX8_loanAt 1 = .ok (.istore_n 2, 1) := by decide +kernel
theorem dX8_loanAt_2 : decode cX8_loanAt 2 = .ok (.iload_n 2, 1) := by decide +kernel
theorem dX8_loanAt_3 : decode cX8_loanAt 3 = .ok (.aload_n 0, 1) := by decide +kernel
theorem dX8_loanAt_4 : decode cX8_loanAt 4 = .ok (.getfield 7, 3) := by decide +kernel
theorem dX8_loanAt_7 : decode cX8_loanAt 7 = .ok (.bipush 64, 2) := by decide +kernel
theorem dX8_loanAt_9 : decode cX8_loanAt 9 = .ok (.iaload, 1) := by decide +kernel
theorem dX8_loanAt_10 : decode cX8_loanAt 10 = .ok (.if_icmp .ge 24, 3) := by decide +kernel
theorem dX8_loanAt_13 : decode cX8_loanAt 13 = .ok (.aload_n 0, 1) := by decide +kernel
theorem dX8_loanAt_14 : decode cX8_loanAt 14 = .ok (.getfield 7, 3) := by decide +kernel
theorem dX8_loanAt_17 : decode cX8_loanAt 17 = .ok (.bipush 97, 2) := by decide +kernel
theorem dX8_loanAt_19 : decode cX8_loanAt 19 = .ok (.iload_n 2, 1) := by decide +kernel
theorem dX8_loanAt_20 : decode cX8_loanAt 20 = .ok (.iadd, 1) := by decide +kernel
theorem dX8_loanAt_21 : decode cX8_loanAt 21 = .ok (.iaload, 1) := by decide +kernel
theorem dX8_loanAt_22 : decode cX8_loanAt 22 = .ok (.iload_n 1, 1) := by decide +kernel
theorem dX8_loanAt_23 : decode cX8_loanAt 23 = .ok (.if_icmp .ne 5, 3) := by decide +kernel
theorem dX8_loanAt_26 : decode cX8_loanAt 26 = .ok (.iload_n 2, 1) := by decide +kernel
theorem dX8_loanAt_27 : decode cX8_loanAt 27 = .ok (.ireturn, 1) := by decide +kernel
theorem dX8_loanAt_28 : decode cX8_loanAt 28 = .ok (.iinc 2 1, 3) := by decide +kernel
theorem dX8_loanAt_31 : decode cX8_loanAt 31 = .ok (.goto (-29), 3) := by decide +kernel
theorem dX8_loanAt_34 : decode cX8_loanAt 34 = .ok (.iconst (-1), 1) := by decide +kernel
theorem dX8_loanAt_35 : decode cX8_loanAt 35 = .ok (.ireturn, 1) := by decide +kernel
theorem dX8_isFreeAt_0 : decode cX8_isFreeAt 0 = .ok (.aload_n 0, 1) := by decide +kernel
theorem dX8_isFreeAt_1 : decode cX8_isFreeAt 1 = .ok (.getfield 7, 3) := by decide +kernel
theorem dX8_isFreeAt_4 : decode cX8_isFreeAt 4 = .ok (.iload_n 1, 1) := by decide +kernel
theorem dX8_isFreeAt_5 : decode cX8_isFreeAt 5 = .ok (.iaload, 1) := by decide +kernel
theorem dX8_isFreeAt_6 : decode cX8_isFreeAt 6 = .ok (.ifCond .le 16, 3) := by decide +kernel
theorem dX8_isFreeAt_9 : decode cX8_isFreeAt 9 = .ok (.aload_n 0, 1) := by decide +kernel
theorem dX8_isFreeAt_10 : decode cX8_isFreeAt 10 = .ok (.iload_n 1, 1) := by decide +kernel
theorem dX8_isFreeAt_11 : decode cX8_isFreeAt 11 = .ok (.invokevirtual 60, 3) := by decide +kernel
theorem dX8_isFreeAt_14 : decode cX8_isFreeAt 14 = .ok (.iconst (-1), 1) := by decide +kernel
theorem dX8_isFreeAt_15 : decode cX8_isFreeAt 15 = .ok (.if_icmp .ne 7, 3) := by decide +kernel
theorem dX8_isFreeAt_18 : decode cX8_isFreeAt 18 = .ok (.iconst 1, 1) := by decide +kernel
theorem dX8_isFreeAt_19 : decode cX8_isFreeAt 19 = .ok (.goto 4, 3) := by decide +kernel
theorem dX8_isFreeAt_22 : decode cX8_isFreeAt 22 = .ok (.iconst 0, 1) := by decide +kernel
theorem dX8_isFreeAt_23 : decode cX8_isFreeAt 23 = .ok (.ireturn, 1) := by decide +kernel
theorem dX8_isBetter_0 : decode cX8_isBetter 0 = .ok (.iload_n 2, 1) := by decide +kernel
theorem dX8_isBetter_1 : decode cX8_isBetter 1 = .ok (.iconst (-1), 1) := by decide +kernel
theorem dX8_isBetter_2 : decode cX8_isBetter 2 = .ok (.if_icmp .ne 5, 3) := by decide +kernel
theorem dX8_isBetter_5 : decode cX8_isBetter 5 = .ok (.iconst 1, 1) := by decide +kernel
theorem dX8_isBetter_6 : decode cX8_isBetter 6 = .ok (.ireturn, 1) := by decide +kernel
theorem dX8_isBetter_7 : decode cX8_isBetter 7 = .ok (.aload_n 0, 1) := by decide +kernel
theorem dX8_isBetter_8 : decode cX8_isBetter 8 = .ok (.getfield 7, 3) := by decide +kernel
theorem dX8_isBetter_11 : decode cX8_isBetter 11 = .ok (.bipush 126, 2) := by decide +kernel
theorem dX8_isBetter_13 : decode cX8_isBetter 13 = .ok (.iaload, 1) := by decide +kernel
theorem dX8_isBetter_14 : decode cX8_isBetter 14 = .ok (.iconst 2, 1) := by decide +kernel
theorem dX8_isBetter_15 : decode cX8_isBetter 15 = .ok (.if_icmp .ne 26, 3) := by decide +kernel
theorem dX8_isBetter_18 : decode cX8_isBetter 18 = .ok (.aload_n 0, 1) := by decide +kernel
theorem dX8_isBetter_19 : decode cX8_isBetter 19 = .ok (.getfield 7, 3) := by decide +kernel
theorem dX8_isBetter_22 : decode cX8_isBetter 22 = .ok (.iload_n 1, 1) := by decide +kernel
theorem dX8_isBetter_23 : decode cX8_isBetter 23 = .ok (.iaload, 1) := by decide +kernel
theorem dX8_isBetter_24 : decode cX8_isBetter 24 = .ok (.aload_n 0, 1) := by decide +kernel
theorem dX8_isBetter_25 : decode cX8_isBetter 25 = .ok (.getfield 7, 3) := by decide +kernel
theorem dX8_isBetter_28 : decode cX8_isBetter 28 = .ok (.iload_n 2, 1) := by decide +kernel
theorem dX8_isBetter_29 : decode cX8_isBetter 29 = .ok (.iaload, 1) := by decide +kernel
theorem dX8_isBetter_30 : decode cX8_isBetter 30 = .ok (.if_icmp .le 7, 3) := by decide +kernel
theorem dX8_isBetter_33 : decode cX8_isBetter 33 = .ok (.iconst 1, 1) := by decide +kernel
theorem dX8_isBetter_34 : decode cX8_isBetter 34 = .ok (.goto 61, 3) := by decide +kernel
theorem dX8_isBetter_37 : decode cX8_isBetter 37 = .ok (.iconst 0, 1) := by decide +kernel
theorem dX8_isBetter_38 : decode cX8_isBetter 38 = .ok (.goto 57, 3) := by decide +kernel
theorem dX8_isBetter_41 : decode cX8_isBetter 41 = .ok (.aload_n 0, 1) := by decide +kernel
theorem dX8_isBetter_42 : decode cX8_isBetter 42 = .ok (.getfield 7, 3) := by decide +kernel
theorem dX8_isBetter_45 : decode cX8_isBetter 45 = .ok (.bipush 126, 2) := by decide +kernel
theorem dX8_isBetter_47 : decode cX8_isBetter 47 = .ok (.iaload, 1) := by decide +kernel
theorem dX8_isBetter_48 : decode cX8_isBetter 48 = .ok (.iconst 1, 1) := by decide +kernel
theorem dX8_isBetter_49 : decode cX8_isBetter 49 = .ok (.if_icmp .ne 26, 3) := by decide +kernel
theorem dX8_isBetter_52 : decode cX8_isBetter 52 = .ok (.aload_n 0, 1) := by decide +kernel
theorem dX8_isBetter_53 : decode cX8_isBetter 53 = .ok (.getfield 7, 3) := by decide +kernel
theorem dX8_isBetter_56 : decode cX8_isBetter 56 = .ok (.iload_n 1, 1) := by decide +kernel
theorem dX8_isBetter_57 : decode cX8_isBetter 57 = .ok (.iaload, 1) := by decide +kernel
theorem dX8_isBetter_58 : decode cX8_isBetter 58 = .ok (.aload_n 0, 1) := by decide +kernel
theorem dX8_isBetter_59 : decode cX8_isBetter 59 = .ok (.getfield 7, 3) := by decide +kernel
theorem dX8_isBetter_62 : decode cX8_isBetter 62 = .ok (.iload_n 2, 1) := by decide +kernel
theorem dX8_isBetter_63 : decode cX8_isBetter 63 = .ok (.iaload, 1) := by decide +kernel
theorem dX8_isBetter_64 : decode cX8_isBetter 64 = .ok (.if_icmp .gt 7, 3) := by decide +kernel
theorem dX8_isBetter_67 : decode cX8_isBetter 67 = .ok (.iconst 1, 1) := by decide +kernel
theorem dX8_isBetter_68 : decode cX8_isBetter 68 = .ok (.goto 27, 3) := by decide +kernel
theorem dX8_isBetter_71 : decode cX8_isBetter 71 = .ok (.iconst 0, 1) := by decide +kernel
theorem dX8_isBetter_72 : decode cX8_isBetter 72 = .ok (.goto 23, 3) := by decide +kernel
theorem dX8_isBetter_75 : decode cX8_isBetter 75 = .ok (.aload_n 0, 1) := by decide +kernel
theorem dX8_isBetter_76 : decode cX8_isBetter 76 = .ok (.getfield 7, 3) := by decide +kernel
theorem dX8_isBetter_79 : decode cX8_isBetter 79 = .ok (.iload_n 1, 1) := by decide +kernel
theorem dX8_isBetter_80 : decode cX8_isBetter 80 = .ok (.iaload, 1) := by decide +kernel
theorem dX8_isBetter_81 : decode cX8_isBetter 81 = .ok (.aload_n 0, 1) := by decide +kernel
theorem dX8_isBetter_82 : decode cX8_isBetter 82 = .ok (.getfield 7, 3) := by decide +kernel
theorem dX8_isBetter_85 : decode cX8_isBetter 85 = .ok (.iload_n 2, 1) := by decide +kernel
theorem dX8_isBetter_86 : decode cX8_isBetter 86 = .ok (.iaload, 1) := by decide +kernel
theorem dX8_isBetter_87 : decode cX8_isBetter 87 = .ok (.if_icmp .ge 7, 3) := by decide +kernel
theorem dX8_isBetter_90 : decode cX8_isBetter 90 = .ok (.iconst 1, 1) := by decide +kernel
theorem dX8_isBetter_91 : decode cX8_isBetter 91 = .ok (.goto 4, 3) := by decide +kernel
theorem dX8_isBetter_94 : decode cX8_isBetter 94 = .ok (.iconst 0, 1) := by decide +kernel
theorem dX8_isBetter_95 : decode cX8_isBetter 95 = .ok (.ireturn, 1) := by decide +kernel
theorem dX8_finds_0 : decode cX8_finds 0 = .ok (.iconst (-1), 1) := by decide +kernel
theorem dX8_finds_1 : decode cX8_finds 1 = .ok (.istore_n 2, 1) := by decide +kernel
theorem dX8_finds_2 : decode cX8_finds 2 = .ok (.iconst 0, 1) := by decide +kernel
theorem dX8_finds_3 : decode cX8_finds 3 = .ok (.istore_n 3, 1) := by decide +kernel
theorem dX8_finds_4 : decode cX8_finds 4 = .ok (.iload_n 3, 1) := by decide +kernel
theorem dX8_finds_5 : decode cX8_finds 5 = .ok (.bipush 64, 2) := by decide +kernel
theorem dX8_finds_7 : decode cX8_finds 7 = .ok (.if_icmp .ge 38, 3) := by decide +kernel
theorem dX8_finds_10 : decode cX8_finds 10 = .ok (.aload_n 0, 1) := by decide +kernel
theorem dX8_finds_11 : decode cX8_finds 11 = .ok (.iload_n 3, 1) := by decide +kernel
theorem dX8_finds_12 : decode cX8_finds 12 = .ok (.invokevirtual 64, 3) := by decide +kernel
theorem dX8_finds_15 : decode cX8_finds 15 = .ok (.ifCond .eq 24, 3) := by decide +kernel
theorem dX8_finds_18 : decode cX8_finds 18 = .ok (.aload_n 0, 1) := by decide +kernel
theorem dX8_finds_19 : decode cX8_finds 19 = .ok (.getfield 7, 3) := by decide +kernel
theorem dX8_finds_22 : decode cX8_finds 22 = .ok (.iload_n 3, 1) := by decide +kernel
theorem dX8_finds_23 : decode cX8_finds 23 = .ok (.iaload, 1) := by decide +kernel
theorem dX8_finds_24 : decode cX8_finds 24 = .ok (.iload_n 1, 1) := by decide +kernel
theorem dX8_finds_25 : decode cX8_finds 25 = .ok (.if_icmp .lt 14, 3) := by decide +kernel
theorem dX8_finds_28 : decode cX8_finds 28 = .ok (.aload_n 0, 1) := by decide +kernel
theorem dX8_finds_29 : decode cX8_finds 29 = .ok (.iload_n 3, 1) := by decide +kernel
theorem dX8_finds_30 : decode cX8_finds 30 = .ok (.iload_n 2, 1) := by decide +kernel
theorem dX8_finds_31 : decode cX8_finds 31 = .ok (.invokevirtual 68, 3) := by decide +kernel
theorem dX8_finds_34 : decode cX8_finds 34 = .ok (.ifCond .eq 5, 3) := by decide +kernel
theorem dX8_finds_37 : decode cX8_finds 37 = .ok (.iload_n 3, 1) := by decide +kernel
theorem dX8_finds_38 : decode cX8_finds 38 = .ok (.istore_n 2, 1) := by decide +kernel
theorem dX8_finds_39 : decode cX8_finds 39 = .ok (.iinc 3 1, 3) := by decide +kernel
theorem dX8_finds_42 : decode cX8_finds 42 = .ok (.goto (-38), 3) := by decide +kernel
theorem dX8_finds_45 : decode cX8_finds 45 = .ok (.iload_n 2, 1) := by decide +kernel
theorem dX8_finds_46 : decode cX8_finds 46 = .ok (.ireturn, 1) := by decide +kernel
theorem dX8_greatestFree_0 : decode cX8_greatestFree 0 = .ok (.iconst 0, 1) := by decide +kernel
theorem dX8_greatestFree_1 : decode cX8_greatestFree 1 = .ok (.istore_n 1, 1) := by decide +kernel
theorem dX8_greatestFree_2 : decode cX8_greatestFree 2 = .ok (.iconst 0, 1) := by decide +kernel
theorem dX8_greatestFree_3 : decode cX8_greatestFree 3 = .ok (.istore_n 2, 1) := by decide +kernel
theorem dX8_greatestFree_4 : decode cX8_greatestFree 4 = .ok (.iload_n 2, 1) := by decide +kernel
theorem dX8_greatestFree_5 : decode cX8_greatestFree 5 = .ok (.bipush 64, 2) := by decide +kernel
theorem dX8_greatestFree_7 : decode cX8_greatestFree 7 = .ok (.if_icmp .ge 38, 3) := by decide +kernel
theorem dX8_greatestFree_10 : decode cX8_greatestFree 10 = .ok (.aload_n 0, 1) := by decide +kernel
theorem dX8_greatestFree_11 : decode cX8_greatestFree 11 = .ok (.iload_n 2, 1) := by decide +kernel
theorem dX8_greatestFree_12 : decode cX8_greatestFree 12 = .ok (.invokevirtual 64, 3) := by decide +kernel
theorem dX8_greatestFree_15 : decode cX8_greatestFree 15 = .ok (.ifCond .eq 22, 3) := by decide +kernel
theorem dX8_greatestFree_18 : decode cX8_greatestFree 18 = .ok (.aload_n 0, 1) := by decide +kernel
theorem dX8_greatestFree_19 : decode cX8_greatestFree 19 = .ok (.getfield 7, 3) := by decide +kernel
theorem dX8_greatestFree_22 : decode cX8_greatestFree 22 = .ok (.iload_n 2, 1) := by decide +kernel
theorem dX8_greatestFree_23 : decode cX8_greatestFree 23 = .ok (.iaload, 1) := by decide +kernel
theorem dX8_greatestFree_24 : decode cX8_greatestFree 24 = .ok (.iload_n 1, 1) := by decide +kernel
theorem dX8_greatestFree_25 : decode cX8_greatestFree 25 = .ok (.if_icmp .le 12, 3) := by decide +kernel
theorem dX8_greatestFree_28 : decode cX8_greatestFree 28 = .ok (.aload_n 0, 1) := by decide +kernel
theorem dX8_greatestFree_29 : decode cX8_greatestFree 29 = .ok (.getfield 7, 3) := by decide +kernel
theorem dX8_greatestFree_32 : decode cX8_greatestFree 32 = .ok (.iload_n 2, 1) := by decide +kernel
theorem dX8_greatestFree_33 : decode cX8_greatestFree 33 = .ok (.iaload, 1) := by decide +kernel
theorem dX8_greatestFree_34 : decode cX8_greatestFree 34 = .ok (.goto 4, 3) := by decide +kernel
theorem dX8_greatestFree_37 : decode cX8_greatestFree 37 = .ok (.iload_n 1, 1) := by decide +kernel
theorem dX8_greatestFree_38 : decode cX8_greatestFree 38 = .ok (.istore_n 1, 1) := by decide +kernel
theorem dX8_greatestFree_39 : decode cX8_greatestFree 39 = .ok (.iinc 2 1, 3) := by decide +kernel
theorem dX8_greatestFree_42 : decode cX8_greatestFree 42 = .ok (.goto (-38), 3) := by decide +kernel
theorem dX8_greatestFree_45 : decode cX8_greatestFree 45 = .ok (.iload_n 1, 1) := by decide +kernel
theorem dX8_greatestFree_46 : decode cX8_greatestFree 46 = .ok (.ireturn, 1) := by decide +kernel
theorem dX8_halves_0 : decode cX8_halves 0 = .ok (.iload_n 1, 1) := by decide +kernel
theorem dX8_halves_1 : decode cX8_halves 1 = .ok (.istore_n 3, 1) := by decide +kernel
theorem dX8_halves_2 : decode cX8_halves 2 = .ok (.aload_n 0, 1) := by decide +kernel
theorem dX8_halves_3 : decode cX8_halves 3 = .ok (.getfield 7, 3) := by decide +kernel
theorem dX8_halves_6 : decode cX8_halves 6 = .ok (.iload_n 3, 1) := by decide +kernel
theorem dX8_halves_7 : decode cX8_halves 7 = .ok (.iaload, 1) := by decide +kernel
theorem dX8_halves_8 : decode cX8_halves 8 = .ok (.iload_n 2, 1) := by decide +kernel
theorem dX8_halves_9 : decode cX8_halves 9 = .ok (.if_icmp .le 66, 3) := by decide +kernel
theorem dX8_halves_12 : decode cX8_halves 12 = .ok (.aload_n 0, 1) := by decide +kernel
theorem dX8_halves_13 : decode cX8_halves 13 = .ok (.getfield 7, 3) := by decide +kernel
theorem dX8_halves_16 : decode cX8_halves 16 = .ok (.iload_n 3, 1) := by decide +kernel
theorem dX8_halves_17 : decode cX8_halves 17 = .ok (.iaload, 1) := by decide +kernel
theorem dX8_halves_18 : decode cX8_halves 18 = .ok (.iconst 2, 1) := by decide +kernel
theorem dX8_halves_19 : decode cX8_halves 19 = .ok (.idiv, 1) := by decide +kernel
theorem dX8_halves_20 : decode cX8_halves 20 = .ok (.istore 4, 2) := by decide +kernel
theorem dX8_halves_22 : decode cX8_halves 22 = .ok (.aload_n 0, 1) := by decide +kernel
theorem dX8_halves_23 : decode cX8_halves 23 = .ok (.getfield 7, 3) := by decide +kernel
theorem dX8_halves_26 : decode cX8_halves 26 = .ok (.iload_n 3, 1) := by decide +kernel
theorem dX8_halves_27 : decode cX8_halves 27 = .ok (.iload 4, 2) := by decide +kernel
theorem dX8_halves_29 : decode cX8_halves 29 = .ok (.iastore, 1) := by decide +kernel
theorem dX8_halves_30 : decode cX8_halves 30 = .ok (.aload_n 0, 1) := by decide +kernel
theorem dX8_halves_31 : decode cX8_halves 31 = .ok (.getfield 7, 3) := by decide +kernel
theorem dX8_halves_34 : decode cX8_halves 34 = .ok (.iload_n 3, 1) := by decide +kernel
theorem dX8_halves_35 : decode cX8_halves 35 = .ok (.iload 4, 2) := by decide +kernel
theorem dX8_halves_37 : decode cX8_halves 37 = .ok (.iadd, 1) := by decide +kernel
theorem dX8_halves_38 : decode cX8_halves 38 = .ok (.iload 4, 2) := by decide +kernel
theorem dX8_halves_40 : decode cX8_halves 40 = .ok (.iastore, 1) := by decide +kernel
theorem dX8_halves_41 : decode cX8_halves 41 = .ok (.aload_n 0, 1) := by decide +kernel
theorem dX8_halves_42 : decode cX8_halves 42 = .ok (.getfield 7, 3) := by decide +kernel
theorem dX8_halves_45 : decode cX8_halves 45 = .ok (.bipush 126, 2) := by decide +kernel
theorem dX8_halves_47 : decode cX8_halves 47 = .ok (.iaload, 1) := by decide +kernel
theorem dX8_halves_48 : decode cX8_halves 48 = .ok (.iconst 1, 1) := by decide +kernel
theorem dX8_halves_49 : decode cX8_halves 49 = .ok (.if_icmp .ne 10, 3) := by decide +kernel
theorem dX8_halves_52 : decode cX8_halves 52 = .ok (.iload_n 3, 1) := by decide +kernel
theorem dX8_halves_53 : decode cX8_halves 53 = .ok (.iload 4, 2) := by decide +kernel
theorem dX8_halves_55 : decode cX8_halves 55 = .ok (.iadd, 1) := by decide +kernel
theorem dX8_halves_56 : decode cX8_halves 56 = .ok (.goto 4, 3) := by decide +kernel
theorem dX8_halves_59 : decode cX8_halves 59 = .ok (.iload_n 3, 1) := by decide +kernel
theorem dX8_halves_60 : decode cX8_halves 60 = .ok (.istore_n 3, 1) := by decide +kernel
theorem dX8_halves_61 : decode cX8_halves 61 = .ok (.aload_n 0, 1) := by decide +kernel
theorem dX8_halves_62 : decode cX8_halves 62 = .ok (.getfield 7, 3) := by decide +kernel
theorem dX8_halves_65 : decode cX8_halves 65 = .ok (.bipush 127, 2) := by decide +kernel
theorem dX8_halves_67 : decode cX8_halves 67 = .ok (.dup2, 1) := by decide +kernel
theorem dX8_halves_68 : decode cX8_halves 68 = .ok (.iaload, 1) := by decide +kernel
theorem dX8_halves_69 : decode cX8_halves 69 = .ok (.iconst 1, 1) := by decide +kernel
theorem dX8_halves_70 : decode cX8_halves 70 = .ok (.iadd, 1) := by decide +kernel
theorem dX8_halves_71 : decode cX8_halves 71 = .ok (.iastore, 1) := by decide +kernel
theorem dX8_halves_72 : decode cX8_halves 72 = .ok (.goto (-70), 3) := by decide +kernel
theorem dX8_halves_75 : decode cX8_halves 75 = .ok (.iload_n 3, 1) := by decide +kernel
theorem dX8_halves_76 : decode cX8_halves 76 = .ok (.ireturn, 1) := by decide +kernel
theorem dX8_joins_0 : decode cX8_joins 0 = .ok (.iload_n 1, 1) := by decide +kernel
theorem dX8_joins_1 : decode cX8_joins 1 = .ok (.istore_n 2, 1) := by decide +kernel
theorem dX8_joins_2 : decode cX8_joins 2 = .ok (.aload_n 0, 1) := by decide +kernel
theorem dX8_joins_3 : decode cX8_joins 3 = .ok (.getfield 7, 3) := by decide +kernel
theorem dX8_joins_6 : decode cX8_joins 6 = .ok (.iload_n 2, 1) := by decide +kernel
theorem dX8_joins_7 : decode cX8_joins 7 = .ok (.iaload, 1) := by decide +kernel
theorem dX8_joins_8 : decode cX8_joins 8 = .ok (.bipush 64, 2) := by decide +kernel
theorem dX8_joins_10 : decode cX8_joins 10 = .ok (.if_icmp .ge 113, 3) := by decide +kernel
theorem dX8_joins_13 : decode cX8_joins 13 = .ok (.aload_n 0, 1) := by decide +kernel
theorem dX8_joins_14 : decode cX8_joins 14 = .ok (.getfield 7, 3) := by decide +kernel
theorem dX8_joins_17 : decode cX8_joins 17 = .ok (.iload_n 2, 1) := by decide +kernel
theorem dX8_joins_18 : decode cX8_joins 18 = .ok (.aload_n 0, 1) := by decide +kernel
theorem dX8_joins_19 : decode cX8_joins 19 = .ok (.getfield 7, 3) := by decide +kernel
theorem dX8_joins_22 : decode cX8_joins 22 = .ok (.iload_n 2, 1) := by decide +kernel
theorem dX8_joins_23 : decode cX8_joins 23 = .ok (.iaload, 1) := by decide +kernel
theorem dX8_joins_24 : decode cX8_joins 24 = .ok (.ixor, 1) := by decide +kernel
theorem dX8_joins_25 : decode cX8_joins 25 = .ok (.iaload, 1) := by decide +kernel
theorem dX8_joins_26 : decode cX8_joins 26 = .ok (.aload_n 0, 1) := by decide +kernel
theorem dX8_joins_27 : decode cX8_joins 27 = .ok (.getfield 7, 3) := by decide +kernel
theorem dX8_joins_30 : decode cX8_joins 30 = .ok (.iload_n 2, 1) := by decide +kernel
theorem dX8_joins_31 : decode cX8_joins 31 = .ok (.iaload, 1) := by decide +kernel
theorem dX8_joins_32 : decode cX8_joins 32 = .ok (.if_icmp .ne 91, 3) := by decide +kernel
theorem dX8_joins_35 : decode cX8_joins 35 = .ok (.aload_n 0, 1) := by decide +kernel
theorem dX8_joins_36 : decode cX8_joins 36 = .ok (.iload_n 2, 1) := by decide +kernel
theorem dX8_joins_37 : decode cX8_joins 37 = .ok (.aload_n 0, 1) := by decide +kernel
theorem dX8_joins_38 : decode cX8_joins 38 = .ok (.getfield 7, 3) := by decide +kernel
theorem dX8_joins_41 : decode cX8_joins 41 = .ok (.iload_n 2, 1) := by decide +kernel
theorem dX8_joins_42 : decode cX8_joins 42 = .ok (.iaload, 1) := by decide +kernel
theorem dX8_joins_43 : decode cX8_joins 43 = .ok (.ixor, 1) := by decide +kernel
theorem dX8_joins_44 : decode cX8_joins 44 = .ok (.invokevirtual 60, 3) := by decide +kernel
theorem dX8_joins_47 : decode cX8_joins 47 = .ok (.iconst (-1), 1) := by decide +kernel
theorem dX8_joins_48 : decode cX8_joins 48 = .ok (.if_icmp .ne 75, 3) := by decide +kernel
theorem dX8_joins_51 : decode cX8_joins 51 = .ok (.iload_n 2, 1) := by decide +kernel
theorem dX8_joins_52 : decode cX8_joins 52 = .ok (.aload_n 0, 1) := by decide +kernel
theorem dX8_joins_53 : decode cX8_joins 53 = .ok (.getfield 7, 3) := by decide +kernel
theorem dX8_joins_56 : decode cX8_joins 56 = .ok (.iload_n 2, 1) := by decide +kernel
theorem dX8_joins_57 : decode cX8_joins 57 = .ok (.iaload, 1) := by decide +kernel
theorem dX8_joins_58 : decode cX8_joins 58 = .ok (.ixor, 1) := by decide +kernel
theorem dX8_joins_59 : decode cX8_joins 59 = .ok (.istore_n 3, 1) := by decide +kernel
theorem dX8_joins_60 : decode cX8_joins 60 = .ok (.iload_n 2, 1) := by decide +kernel
theorem dX8_joins_61 : decode cX8_joins 61 = .ok (.iload_n 3, 1) := by decide +kernel
theorem dX8_joins_62 : decode cX8_joins 62 = .ok (.if_icmp .ge 7, 3) := by decide +kernel
theorem dX8_joins_65 : decode cX8_joins 65 = .ok (.iload_n 2, 1) := by decide +kernel
theorem dX8_joins_66 : decode cX8_joins 66 = .ok (.goto 4, 3) := by decide +kernel
theorem dX8_joins_69 : decode cX8_joins 69 = .ok (.iload_n 3, 1) := by decide +kernel
theorem dX8_joins_70 : decode cX8_joins 70 = .ok (.istore 4, 2) := by decide +kernel
theorem dX8_joins_72 : decode cX8_joins 72 = .ok (.iconst 2, 1) := by decide +kernel
theorem dX8_joins_73 : decode cX8_joins 73 = .ok (.aload_n 0, 1) := by decide +kernel
theorem dX8_joins_74 : decode cX8_joins 74 = .ok (.getfield 7, 3) := by decide +kernel
theorem dX8_joins_77 : decode cX8_joins 77 = .ok (.iload_n 2, 1) := by decide +kernel
theorem dX8_joins_78 : decode cX8_joins 78 = .ok (.iaload, 1) := by decide +kernel
theorem dX8_joins_79 : decode cX8_joins 79 = .ok (.imul, 1) := by decide +kernel
theorem dX8_joins_80 : decode cX8_joins 80 = .ok (.istore 5, 2) := by decide +kernel
theorem dX8_joins_82 : decode cX8_joins 82 = .ok (.aload_n 0, 1) := by decide +kernel
theorem dX8_joins_83 : decode cX8_joins 83 = .ok (.getfield 7, 3) := by decide +kernel
theorem dX8_joins_86 : decode cX8_joins 86 = .ok (.iload_n 2, 1) := by decide +kernel
theorem dX8_joins_87 : decode cX8_joins 87 = .ok (.iconst 0, 1) := by decide +kernel
theorem dX8_joins_88 : decode cX8_joins 88 = .ok (.iastore, 1) := by decide +kernel
theorem dX8_joins_89 : decode cX8_joins 89 = .ok (.aload_n 0, 1) := by decide +kernel
theorem dX8_joins_90 : decode cX8_joins 90 = .ok (.getfield 7, 3) := by decide +kernel
theorem dX8_joins_93 : decode cX8_joins 93 = .ok (.iload_n 3, 1) := by decide +kernel
theorem dX8_joins_94 : decode cX8_joins 94 = .ok (.iconst 0, 1) := by decide +kernel
theorem dX8_joins_95 : decode cX8_joins 95 = .ok (.iastore, 1) := by decide +kernel
theorem dX8_joins_96 : decode cX8_joins 96 = .ok (.aload_n 0, 1) := by decide +kernel
theorem dX8_joins_97 : decode cX8_joins 97 = .ok (.getfield 7, 3) := by decide +kernel
theorem dX8_joins_100 : decode cX8_joins 100 = .ok (.iload 4, 2) := by decide +kernel
theorem dX8_joins_102 : decode cX8_joins 102 = .ok (.iload 5, 2) := by decide +kernel
theorem dX8_joins_104 : decode cX8_joins 104 = .ok (.iastore, 1) := by decide +kernel
theorem dX8_joins_105 : decode cX8_joins 105 = .ok (.iload 4, 2) := by decide +kernel
theorem dX8_joins_107 : decode cX8_joins 107 = .ok (.istore_n 2, 1) := by decide +kernel
theorem dX8_joins_108 : decode cX8_joins 108 = .ok (.aload_n 0, 1) := by decide +kernel
theorem dX8_joins_109 : decode cX8_joins 109 = .ok (.getfield 7, 3) := by decide +kernel
theorem dX8_joins_112 : decode cX8_joins 112 = .ok (.sipush 128, 3) := by decide +kernel
theorem dX8_joins_115 : decode cX8_joins 115 = .ok (.dup2, 1) := by decide +kernel
theorem dX8_joins_116 : decode cX8_joins 116 = .ok (.iaload, 1) := by decide +kernel
theorem dX8_joins_117 : decode cX8_joins 117 = .ok (.iconst 1, 1) := by decide +kernel
theorem dX8_joins_118 : decode cX8_joins 118 = .ok (.iadd, 1) := by decide +kernel
theorem dX8_joins_119 : decode cX8_joins 119 = .ok (.iastore, 1) := by decide +kernel
theorem dX8_joins_120 : decode cX8_joins 120 = .ok (.goto (-118), 3) := by decide +kernel
theorem dX8_joins_123 : decode cX8_joins 123 = .ok (.return_, 1) := by decide +kernel
theorem dX8_canLend_0 : decode cX8_canLend 0 = .ok (.aload_n 0, 1) := by decide +kernel
theorem dX8_canLend_1 : decode cX8_canLend 1 = .ok (.getfield 7, 3) := by decide +kernel
theorem dX8_canLend_4 : decode cX8_canLend 4 = .ok (.bipush 64, 2) := by decide +kernel
theorem dX8_canLend_6 : decode cX8_canLend 6 = .ok (.iaload, 1) := by decide +kernel
theorem dX8_canLend_7 : decode cX8_canLend 7 = .ok (.bipush 16, 2) := by decide +kernel
theorem dX8_canLend_9 : decode cX8_canLend 9 = .ok (.if_icmp .ge 19, 3) := by decide +kernel
theorem dX8_canLend_12 : decode cX8_canLend 12 = .ok (.aload_n 0, 1) := by decide +kernel
theorem dX8_canLend_13 : decode cX8_canLend 13 = .ok (.iload_n 1, 1) := by decide +kernel
theorem dX8_canLend_14 : decode cX8_canLend 14 = .ok (.invokestatic 72, 3) := by decide +kernel
theorem dX8_canLend_17 : decode cX8_canLend 17 = .ok (.invokevirtual 75, 3) := by decide +kernel
theorem dX8_canLend_20 : decode cX8_canLend 20 = .ok (.iconst (-1), 1) := by decide +kernel
theorem dX8_canLend_21 : decode cX8_canLend 21 = .ok (.if_icmp .eq 7, 3) := by decide +kernel
theorem dX8_canLend_24 : decode cX8_canLend 24 = .ok (.iconst 1, 1) := by decide +kernel
theorem dX8_canLend_25 : decode cX8_canLend 25 = .ok (.goto 4, 3) := by decide +kernel
theorem dX8_canLend_28 : decode cX8_canLend 28 = .ok (.iconst 0, 1) := by decide +kernel
theorem dX8_canLend_29 : decode cX8_canLend 29 = .ok (.ireturn, 1) := by decide +kernel
theorem dX8_lendsTo_0 : decode cX8_lendsTo 0 = .ok (.aload_n 0, 1) := by decide +kernel
theorem dX8_lendsTo_1 : decode cX8_lendsTo 1 = .ok (.getfield 7, 3) := by decide +kernel
theorem dX8_lendsTo_4 : decode cX8_lendsTo 4 = .ok (.bipush 64, 2) := by decide +kernel
theorem dX8_lendsTo_6 : decode cX8_lendsTo 6 = .ok (.iaload, 1) := by decide +kernel
theorem dX8_lendsTo_7 : decode cX8_lendsTo 7 = .ok (.istore_n 3, 1) := by decide +kernel
theorem dX8_lendsTo_8 : decode cX8_lendsTo 8 = .ok (.aload_n 0, 1) := by decide +kernel
theorem dX8_lendsTo_9 : decode cX8_lendsTo 9 = .ok (.aload_n 0, 1) := by decide +kernel
theorem dX8_lendsTo_10 : decode cX8_lendsTo 10 = .ok (.iload_n 2, 1) := by decide +kernel
theorem dX8_lendsTo_11 : decode cX8_lendsTo 11 = .ok (.invokestatic 72, 3) := by decide +kernel
theorem dX8_lendsTo_14 : decode cX8_lendsTo 14 = .ok (.invokevirtual 75, 3) := by decide +kernel
theorem dX8_lendsTo_17 : decode cX8_lendsTo 17 = .ok (.iload_n 2, 1) := by decide +kernel
theorem dX8_lendsTo_18 : decode cX8_lendsTo 18 = .ok (.invokestatic 72, 3) := by decide +kernel
theorem dX8_lendsTo_21 : decode cX8_lendsTo 21 = .ok (.invokevirtual 78, 3) := by decide +kernel
theorem dX8_lendsTo_24 : decode cX8_lendsTo 24 = .ok (.istore 4, 2) := by decide +kernel
theorem dX8_lendsTo_26 : decode cX8_lendsTo 26 = .ok (.aload_n 0, 1) := by decide +kernel
theorem dX8_lendsTo_27 : decode cX8_lendsTo 27 = .ok (.getfield 7, 3) := by decide +kernel
theorem dX8_lendsTo_30 : decode cX8_lendsTo 30 = .ok (.bipush 65, 2) := by decide +kernel
theorem dX8_lendsTo_32 : decode cX8_lendsTo 32 = .ok (.iload_n 3, 1) := by decide +kernel
theorem dX8_lendsTo_33 : decode cX8_lendsTo 33 = .ok (.iadd, 1) := by decide +kernel
theorem dX8_lendsTo_34 : decode cX8_lendsTo 34 = .ok (.iload_n 1, 1) := by decide +kernel
theorem dX8_lendsTo_35 : decode cX8_lendsTo 35 = .ok (.iastore, 1) := by decide +kernel
theorem dX8_lendsTo_36 : decode cX8_lendsTo 36 = .ok (.aload_n 0, 1) := by decide +kernel
theorem dX8_lendsTo_37 : decode cX8_lendsTo 37 = .ok (.getfield 7, 3) := by decide +kernel
theorem dX8_lendsTo_40 : decode cX8_lendsTo 40 = .ok (.bipush 81, 2) := by decide +kernel
theorem dX8_lendsTo_42 : decode cX8_lendsTo 42 = .ok (.iload_n 3, 1) := by decide +kernel
theorem dX8_lendsTo_43 : decode cX8_lendsTo 43 = .ok (.iadd, 1) := by decide +kernel
theorem dX8_lendsTo_44 : decode cX8_lendsTo 44 = .ok (.iload_n 2, 1) := by decide +kernel
theorem dX8_lendsTo_45 : decode cX8_lendsTo 45 = .ok (.iastore, 1) := by decide +kernel
theorem dX8_lendsTo_46 : decode cX8_lendsTo 46 = .ok (.aload_n 0, 1) := by decide +kernel
theorem dX8_lendsTo_47 : decode cX8_lendsTo 47 = .ok (.getfield 7, 3) := by decide +kernel
theorem dX8_lendsTo_50 : decode cX8_lendsTo 50 = .ok (.bipush 97, 2) := by decide +kernel
theorem dX8_lendsTo_52 : decode cX8_lendsTo 52 = .ok (.iload_n 3, 1) := by decide +kernel
theorem dX8_lendsTo_53 : decode cX8_lendsTo 53 = .ok (.iadd, 1) := by decide +kernel
theorem dX8_lendsTo_54 : decode cX8_lendsTo 54 = .ok (.iload 4, 2) := by decide +kernel
theorem dX8_lendsTo_56 : decode cX8_lendsTo 56 = .ok (.iastore, 1) := by decide +kernel
theorem dX8_lendsTo_57 : decode cX8_lendsTo 57 = .ok (.aload_n 0, 1) := by decide +kernel
theorem dX8_lendsTo_58 : decode cX8_lendsTo 58 = .ok (.getfield 7, 3) := by decide +kernel
theorem dX8_lendsTo_61 : decode cX8_lendsTo 61 = .ok (.bipush 64, 2) := by decide +kernel
theorem dX8_lendsTo_63 : decode cX8_lendsTo 63 = .ok (.dup2, 1) := by decide +kernel
theorem dX8_lendsTo_64 : decode cX8_lendsTo 64 = .ok (.iaload, 1) := by decide +kernel
theorem dX8_lendsTo_65 : decode cX8_lendsTo 65 = .ok (.iconst 1, 1) := by decide +kernel
theorem dX8_lendsTo_66 : decode cX8_lendsTo 66 = .ok (.iadd, 1) := by decide +kernel
theorem dX8_lendsTo_67 : decode cX8_lendsTo 67 = .ok (.iastore, 1) := by decide +kernel
theorem dX8_lendsTo_68 : decode cX8_lendsTo 68 = .ok (.iload_n 3, 1) := by decide +kernel
theorem dX8_lendsTo_69 : decode cX8_lendsTo 69 = .ok (.ireturn, 1) := by decide +kernel
theorem dX8_leaves_0 : decode cX8_leaves 0 = .ok (.aload_n 0, 1) := by decide +kernel
theorem dX8_leaves_1 : decode cX8_leaves 1 = .ok (.getfield 7, 3) := by decide +kernel
theorem dX8_leaves_4 : decode cX8_leaves 4 = .ok (.bipush 113, 2) := by decide +kernel
theorem dX8_leaves_6 : decode cX8_leaves 6 = .ok (.dup2, 1) := by decide +kernel
theorem dX8_leaves_7 : decode cX8_leaves 7 = .ok (.iaload, 1) := by decide +kernel
theorem dX8_leaves_8 : decode cX8_leaves 8 = .ok (.iconst 1, 1) := by decide +kernel
theorem dX8_leaves_9 : decode cX8_leaves 9 = .ok (.isub, 1) := by decide +kernel
theorem dX8_leaves_10 : decode cX8_leaves 10 = .ok (.iastore, 1) := by decide +kernel
theorem dX8_leaves_11 : decode cX8_leaves 11 = .ok (.iload_n 1, 1) := by decide +kernel
theorem dX8_leaves_12 : decode cX8_leaves 12 = .ok (.istore_n 2, 1) := by decide +kernel
theorem dX8_leaves_13 : decode cX8_leaves 13 = .ok (.iload_n 2, 1) := by decide +kernel
theorem dX8_leaves_14 : decode cX8_leaves 14 = .ok (.aload_n 0, 1) := by decide +kernel
theorem dX8_leaves_15 : decode cX8_leaves 15 = .ok (.getfield 7, 3) := by decide +kernel
theorem dX8_leaves_18 : decode cX8_leaves 18 = .ok (.bipush 113, 2) := by decide +kernel
theorem dX8_leaves_20 : decode cX8_leaves 20 = .ok (.iaload, 1) := by decide +kernel
theorem dX8_leaves_21 : decode cX8_leaves 21 = .ok (.if_icmp .ge 49, 3) := by decide +kernel
theorem dX8_leaves_24 : decode cX8_leaves 24 = .ok (.aload_n 0, 1) := by decide +kernel
theorem dX8_leaves_25 : decode cX8_leaves 25 = .ok (.getfield 7, 3) := by decide +kernel
theorem dX8_leaves_28 : decode cX8_leaves 28 = .ok (.bipush 114, 2) := by decide +kernel
theorem dX8_leaves_30 : decode cX8_leaves 30 = .ok (.iload_n 2, 1) := by decide +kernel
theorem dX8_leaves_31 : decode cX8_leaves 31 = .ok (.iadd, 1) := by decide +kernel
theorem dX8_leaves_32 : decode cX8_leaves 32 = .ok (.aload_n 0, 1) := by decide +kernel
theorem dX8_leaves_33 : decode cX8_leaves 33 = .ok (.getfield 7, 3) := by decide +kernel
theorem dX8_leaves_36 : decode cX8_leaves 36 = .ok (.bipush 114, 2) := by decide +kernel
theorem dX8_leaves_38 : decode cX8_leaves 38 = .ok (.iload_n 2, 1) := by decide +kernel
theorem dX8_leaves_39 : decode cX8_leaves 39 = .ok (.iadd, 1) := by decide +kernel
theorem dX8_leaves_40 : decode cX8_leaves 40 = .ok (.iconst 1, 1) := by decide +kernel
theorem dX8_leaves_41 : decode cX8_leaves 41 = .ok (.iadd, 1) := by decide +kernel
theorem dX8_leaves_42 : decode cX8_leaves 42 = .ok (.iaload, 1) := by decide +kernel
theorem dX8_leaves_43 : decode cX8_leaves 43 = .ok (.iastore, 1) := by decide +kernel
theorem dX8_leaves_44 : decode cX8_leaves 44 = .ok (.aload_n 0, 1) := by decide +kernel
theorem dX8_leaves_45 : decode cX8_leaves 45 = .ok (.getfield 7, 3) := by decide +kernel
theorem dX8_leaves_48 : decode cX8_leaves 48 = .ok (.bipush 120, 2) := by decide +kernel
theorem dX8_leaves_50 : decode cX8_leaves 50 = .ok (.iload_n 2, 1) := by decide +kernel
theorem dX8_leaves_51 : decode cX8_leaves 51 = .ok (.iadd, 1) := by decide +kernel
theorem dX8_leaves_52 : decode cX8_leaves 52 = .ok (.aload_n 0, 1) := by decide +kernel
theorem dX8_leaves_53 : decode cX8_leaves 53 = .ok (.getfield 7, 3) := by decide +kernel
theorem dX8_leaves_56 : decode cX8_leaves 56 = .ok (.bipush 120, 2) := by decide +kernel
theorem dX8_leaves_58 : decode cX8_leaves 58 = .ok (.iload_n 2, 1) := by decide +kernel
theorem dX8_leaves_59 : decode cX8_leaves 59 = .ok (.iadd, 1) := by decide +kernel
theorem dX8_leaves_60 : decode cX8_leaves 60 = .ok (.iconst 1, 1) := by decide +kernel
theorem dX8_leaves_61 : decode cX8_leaves 61 = .ok (.iadd, 1) := by decide +kernel
theorem dX8_leaves_62 : decode cX8_leaves 62 = .ok (.iaload, 1) := by decide +kernel
theorem dX8_leaves_63 : decode cX8_leaves 63 = .ok (.iastore, 1) := by decide +kernel
theorem dX8_leaves_64 : decode cX8_leaves 64 = .ok (.iinc 2 1, 3) := by decide +kernel
theorem dX8_leaves_67 : decode cX8_leaves 67 = .ok (.goto (-54), 3) := by decide +kernel
theorem dX8_leaves_70 : decode cX8_leaves 70 = .ok (.aload_n 0, 1) := by decide +kernel
theorem dX8_leaves_71 : decode cX8_leaves 71 = .ok (.getfield 7, 3) := by decide +kernel
theorem dX8_leaves_74 : decode cX8_leaves 74 = .ok (.bipush 114, 2) := by decide +kernel
theorem dX8_leaves_76 : decode cX8_leaves 76 = .ok (.aload_n 0, 1) := by decide +kernel
theorem dX8_leaves_77 : decode cX8_leaves 77 = .ok (.getfield 7, 3) := by decide +kernel
theorem dX8_leaves_80 : decode cX8_leaves 80 = .ok (.bipush 113, 2) := by decide +kernel
theorem dX8_leaves_82 : decode cX8_leaves 82 = .ok (.iaload, 1) := by decide +kernel
theorem dX8_leaves_83 : decode cX8_leaves 83 = .ok (.iadd, 1) := by decide +kernel
theorem dX8_leaves_84 : decode cX8_leaves 84 = .ok (.iconst 0, 1) := by decide +kernel
theorem dX8_leaves_85 : decode cX8_leaves 85 = .ok (.iastore, 1) := by decide +kernel
theorem dX8_leaves_86 : decode cX8_leaves 86 = .ok (.aload_n 0, 1) := by decide +kernel
theorem dX8_leaves_87 : decode cX8_leaves 87 = .ok (.getfield 7, 3) := by decide +kernel
theorem dX8_leaves_90 : decode cX8_leaves 90 = .ok (.bipush 120, 2) := by decide +kernel
theorem dX8_leaves_92 : decode cX8_leaves 92 = .ok (.aload_n 0, 1) := by decide +kernel
theorem dX8_leaves_93 : decode cX8_leaves 93 = .ok (.getfield 7, 3) := by decide +kernel
theorem dX8_leaves_96 : decode cX8_leaves 96 = .ok (.bipush 113, 2) := by decide +kernel
theorem dX8_leaves_98 : decode cX8_leaves 98 = .ok (.iaload, 1) := by decide +kernel
theorem dX8_leaves_99 : decode cX8_leaves 99 = .ok (.iadd, 1) := by decide +kernel
theorem dX8_leaves_100 : decode cX8_leaves 100 = .ok (.iconst 0, 1) := by decide +kernel
theorem dX8_leaves_101 : decode cX8_leaves 101 = .ok (.iastore, 1) := by decide +kernel
theorem dX8_leaves_102 : decode cX8_leaves 102 = .ok (.return_, 1) := by decide +kernel
theorem dX8_serves_0 : decode cX8_serves 0 = .ok (.iconst 0, 1) := by decide +kernel
theorem dX8_serves_1 : decode cX8_serves 1 = .ok (.istore_n 1, 1) := by decide +kernel
theorem dX8_serves_2 : decode cX8_serves 2 = .ok (.iconst 0, 1) := by decide +kernel
theorem dX8_serves_3 : decode cX8_serves 3 = .ok (.istore_n 2, 1) := by decide +kernel
theorem dX8_serves_4 : decode cX8_serves 4 = .ok (.iload_n 2, 1) := by decide +kernel
theorem dX8_serves_5 : decode cX8_serves 5 = .ok (.aload_n 0, 1) := by decide +kernel
theorem dX8_serves_6 : decode cX8_serves 6 = .ok (.getfield 7, 3) := by decide +kernel
theorem dX8_serves_9 : decode cX8_serves 9 = .ok (.bipush 113, 2) := by decide +kernel
theorem dX8_serves_11 : decode cX8_serves 11 = .ok (.iaload, 1) := by decide +kernel
theorem dX8_serves_12 : decode cX8_serves 12 = .ok (.if_icmp .ge 59, 3) := by decide +kernel
theorem dX8_serves_15 : decode cX8_serves 15 = .ok (.aload_n 0, 1) := by decide +kernel
theorem dX8_serves_16 : decode cX8_serves 16 = .ok (.aload_n 0, 1) := by decide +kernel
theorem dX8_serves_17 : decode cX8_serves 17 = .ok (.getfield 7, 3) := by decide +kernel
theorem dX8_serves_20 : decode cX8_serves 20 = .ok (.bipush 120, 2) := by decide +kernel
theorem dX8_serves_22 : decode cX8_serves 22 = .ok (.iload_n 2, 1) := by decide +kernel
theorem dX8_serves_23 : decode cX8_serves 23 = .ok (.iadd, 1) := by decide +kernel
theorem dX8_serves_24 : decode cX8_serves 24 = .ok (.iaload, 1) := by decide +kernel
theorem dX8_serves_25 : decode cX8_serves 25 = .ok (.invokevirtual 82, 3) := by decide +kernel
theorem dX8_serves_28 : decode cX8_serves 28 = .ok (.ifCond .eq 37, 3) := by decide +kernel
theorem dX8_serves_31 : decode cX8_serves 31 = .ok (.aload_n 0, 1) := by decide +kernel
theorem dX8_serves_32 : decode cX8_serves 32 = .ok (.aload_n 0, 1) := by decide +kernel
theorem dX8_serves_33 : decode cX8_serves 33 = .ok (.getfield 7, 3) := by decide +kernel
theorem dX8_serves_36 : decode cX8_serves 36 = .ok (.bipush 114, 2) := by decide +kernel
theorem dX8_serves_38 : decode cX8_serves 38 = .ok (.iload_n 2, 1) := by decide +kernel
theorem dX8_serves_39 : decode cX8_serves 39 = .ok (.iadd, 1) := by decide +kernel
theorem dX8_serves_40 : decode cX8_serves 40 = .ok (.iaload, 1) := by decide +kernel
theorem dX8_serves_41 : decode cX8_serves 41 = .ok (.aload_n 0, 1) := by decide +kernel
theorem dX8_serves_42 : decode cX8_serves 42 = .ok (.getfield 7, 3) := by decide +kernel
theorem dX8_serves_45 : decode cX8_serves 45 = .ok (.bipush 120, 2) := by decide +kernel
theorem dX8_serves_47 : decode cX8_serves 47 = .ok (.iload_n 2, 1) := by decide +kernel
theorem dX8_serves_48 : decode cX8_serves 48 = .ok (.iadd, 1) := by decide +kernel
theorem dX8_serves_49 : decode cX8_serves 49 = .ok (.iaload, 1) := by decide +kernel
theorem dX8_serves_50 : decode cX8_serves 50 = .ok (.invokevirtual 85, 3) := by decide +kernel
theorem dX8_serves_53 : decode cX8_serves 53 = .ok (.istore_n 3, 1) := by decide +kernel
theorem dX8_serves_54 : decode cX8_serves 54 = .ok (.aload_n 0, 1) := by decide +kernel
theorem dX8_serves_55 : decode cX8_serves 55 = .ok (.iload_n 2, 1) := by decide +kernel
theorem dX8_serves_56 : decode cX8_serves 56 = .ok (.invokevirtual 88, 3) := by decide +kernel
theorem dX8_serves_59 : decode cX8_serves 59 = .ok (.iinc 1 1, 3) := by decide +kernel
theorem dX8_serves_62 : decode cX8_serves 62 = .ok (.goto (-58), 3) := by decide +kernel
theorem dX8_serves_65 : decode cX8_serves 65 = .ok (.iinc 2 1, 3) := by decide +kernel
theorem dX8_serves_68 : decode cX8_serves 68 = .ok (.goto (-64), 3) := by decide +kernel
theorem dX8_serves_71 : decode cX8_serves 71 = .ok (.iload_n 1, 1) := by decide +kernel
theorem dX8_serves_72 : decode cX8_serves 72 = .ok (.ireturn, 1) := by decide +kernel
theorem dX8_lends_0 : decode cX8_lends 0 = .ok (.iload_n 1, 1) := by decide +kernel
theorem dX8_lends_1 : decode cX8_lends 1 = .ok (.invokestatic 92, 3) := by decide +kernel
theorem dX8_lends_4 : decode cX8_lends 4 = .ok (.ifCond .eq 10, 3) := by decide +kernel
theorem dX8_lends_7 : decode cX8_lends 7 = .ok (.iload_n 2, 1) := by decide +kernel
theorem dX8_lends_8 : decode cX8_lends 8 = .ok (.invokestatic 95, 3) := by decide +kernel
theorem dX8_lends_11 : decode cX8_lends 11 = .ok (.ifCond .ne 9, 3) := by decide +kernel
theorem dX8_lends_14 : decode cX8_lends 14 = .ok (.aload_n 0, 1) := by decide +kernel
theorem dX8_lends_15 : decode cX8_lends 15 = .ok (.iconst 1, 1) := by decide +kernel
theorem dX8_lends_16 : decode cX8_lends 16 = .ok (.invokevirtual 98, 3) := by decide +kernel
theorem dX8_lends_19 : decode cX8_lends 19 = .ok (.ireturn, 1) := by decide +kernel
theorem dX8_lends_20 : decode cX8_lends 20 = .ok (.aload_n 0, 1) := by decide +kernel
theorem dX8_lends_21 : decode cX8_lends 21 = .ok (.getfield 7, 3) := by decide +kernel
theorem dX8_lends_24 : decode cX8_lends 24 = .ok (.bipush 64, 2) := by decide +kernel
theorem dX8_lends_26 : decode cX8_lends 26 = .ok (.iaload, 1) := by decide +kernel
theorem dX8_lends_27 : decode cX8_lends 27 = .ok (.bipush 16, 2) := by decide +kernel
theorem dX8_lends_29 : decode cX8_lends 29 = .ok (.if_icmp .ne 12, 3) := by decide +kernel
theorem dX8_lends_32 : decode cX8_lends 32 = .ok (.aload_n 0, 1) := by decide +kernel
theorem dX8_lends_33 : decode cX8_lends 33 = .ok (.iconst 1, 1) := by decide +kernel
theorem dX8_lends_34 : decode cX8_lends 34 = .ok (.bipush 16, 2) := by decide +kernel
theorem dX8_lends_36 : decode cX8_lends 36 = .ok (.iconst 2, 1) := by decide +kernel
theorem dX8_lends_37 : decode cX8_lends 37 = .ok (.invokevirtual 101, 3) := by decide +kernel
theorem dX8_lends_40 : decode cX8_lends 40 = .ok (.ireturn, 1) := by decide +kernel
theorem dX8_lends_41 : decode cX8_lends 41 = .ok (.aload_n 0, 1) := by decide +kernel
theorem dX8_lends_42 : decode cX8_lends 42 = .ok (.iload_n 2, 1) := by decide +kernel
theorem dX8_lends_43 : decode cX8_lends 43 = .ok (.invokevirtual 82, 3) := by decide +kernel
theorem dX8_lends_46 : decode cX8_lends 46 = .ok (.ifCond .eq 16, 3) := by decide +kernel
theorem dX8_lends_49 : decode cX8_lends 49 = .ok (.aload_n 0, 1) := by decide +kernel
theorem dX8_lends_50 : decode cX8_lends 50 = .ok (.aload_n 0, 1) := by decide +kernel
theorem dX8_lends_51 : decode cX8_lends 51 = .ok (.iload_n 1, 1) := by decide +kernel
theorem dX8_lends_52 : decode cX8_lends 52 = .ok (.iload_n 2, 1) := by decide +kernel
theorem dX8_lends_53 : decode cX8_lends 53 = .ok (.invokevirtual 85, 3) := by decide +kernel
theorem dX8_lends_56 : decode cX8_lends 56 = .ok (.invokevirtual 105, 3) := by decide +kernel
theorem dX8_lends_59 : decode cX8_lends 59 = .ok (.goto 13, 3) := by decide +kernel
theorem dX8_lends_62 : decode cX8_lends 62 = .ok (.aload_n 0, 1) := by decide +kernel
theorem dX8_lends_63 : decode cX8_lends 63 = .ok (.iconst 2, 1) := by decide +kernel
theorem dX8_lends_64 : decode cX8_lends 64 = .ok (.aload_n 0, 1) := by decide +kernel
theorem dX8_lends_65 : decode cX8_lends 65 = .ok (.invokevirtual 108, 3) := by decide +kernel
theorem dX8_lends_68 : decode cX8_lends 68 = .ok (.iconst 2, 1) := by decide +kernel
theorem dX8_lends_69 : decode cX8_lends 69 = .ok (.invokevirtual 101, 3) := by decide +kernel
theorem dX8_lends_72 : decode cX8_lends 72 = .ok (.ireturn, 1) := by decide +kernel
theorem dX8_lend_0 : decode cX8_lend 0 = .ok (.aload_n 0, 1) := by decide +kernel
theorem dX8_lend_1 : decode cX8_lend 1 = .ok (.invokevirtual 112, 3) := by decide +kernel
theorem dX8_lend_4 : decode cX8_lend 4 = .ok (.aload_n 0, 1) := by decide +kernel
theorem dX8_lend_5 : decode cX8_lend 5 = .ok (.aload_n 0, 1) := by decide +kernel
theorem dX8_lend_6 : decode cX8_lend 6 = .ok (.iload_n 1, 1) := by decide +kernel
theorem dX8_lend_7 : decode cX8_lend 7 = .ok (.iload_n 2, 1) := by decide +kernel
theorem dX8_lend_8 : decode cX8_lend 8 = .ok (.invokevirtual 115, 3) := by decide +kernel
theorem dX8_lend_11 : decode cX8_lend 11 = .ok (.invokevirtual 118, 3) := by decide +kernel
theorem dX8_lend_14 : decode cX8_lend 14 = .ok (.ireturn, 1) := by decide +kernel
theorem dX8_asks_0 : decode cX8_asks 0 = .ok (.iload_n 1, 1) := by decide +kernel
theorem dX8_asks_1 : decode cX8_asks 1 = .ok (.invokestatic 92, 3) := by decide +kernel
theorem dX8_asks_4 : decode cX8_asks 4 = .ok (.ifCond .eq 10, 3) := by decide +kernel
theorem dX8_asks_7 : decode cX8_asks 7 = .ok (.iload_n 2, 1) := by decide +kernel
theorem dX8_asks_8 : decode cX8_asks 8 = .ok (.invokestatic 95, 3) := by decide +kernel
theorem dX8_asks_11 : decode cX8_asks 11 = .ok (.ifCond .ne 9, 3) := by decide +kernel
theorem dX8_asks_14 : decode cX8_asks 14 = .ok (.aload_n 0, 1) := by decide +kernel
theorem dX8_asks_15 : decode cX8_asks 15 = .ok (.iconst 1, 1) := by decide +kernel
theorem dX8_asks_16 : decode cX8_asks 16 = .ok (.invokevirtual 98, 3) := by decide +kernel
theorem dX8_asks_19 : decode cX8_asks 19 = .ok (.ireturn, 1) := by decide +kernel
theorem dX8_asks_20 : decode cX8_asks 20 = .ok (.aload_n 0, 1) := by decide +kernel
theorem dX8_asks_21 : decode cX8_asks 21 = .ok (.iload_n 2, 1) := by decide +kernel
theorem dX8_asks_22 : decode cX8_asks 22 = .ok (.invokevirtual 82, 3) := by decide +kernel
theorem dX8_asks_25 : decode cX8_asks 25 = .ok (.ifCond .eq 22, 3) := by decide +kernel
theorem dX8_asks_28 : decode cX8_asks 28 = .ok (.aload_n 0, 1) := by decide +kernel
theorem dX8_asks_29 : decode cX8_asks 29 = .ok (.aload_n 0, 1) := by decide +kernel
theorem dX8_asks_30 : decode cX8_asks 30 = .ok (.getfield 7, 3) := by decide +kernel
theorem dX8_asks_33 : decode cX8_asks 33 = .ok (.bipush 97, 2) := by decide +kernel
theorem dX8_asks_35 : decode cX8_asks 35 = .ok (.aload_n 0, 1) := by decide +kernel
theorem dX8_asks_36 : decode cX8_asks 36 = .ok (.iload_n 1, 1) := by decide +kernel
theorem dX8_asks_37 : decode cX8_asks 37 = .ok (.iload_n 2, 1) := by decide +kernel
theorem dX8_asks_38 : decode cX8_asks 38 = .ok (.invokevirtual 85, 3) := by decide +kernel
theorem dX8_asks_41 : decode cX8_asks 41 = .ok (.iadd, 1) := by decide +kernel
theorem dX8_asks_42 : decode cX8_asks 42 = .ok (.iaload, 1) := by decide +kernel
theorem dX8_asks_43 : decode cX8_asks 43 = .ok (.invokevirtual 105, 3) := by decide +kernel
theorem dX8_asks_46 : decode cX8_asks 46 = .ok (.ireturn, 1) := by decide +kernel
theorem dX8_asks_47 : decode cX8_asks 47 = .ok (.aload_n 0, 1) := by decide +kernel
theorem dX8_asks_48 : decode cX8_asks 48 = .ok (.getfield 7, 3) := by decide +kernel
theorem dX8_asks_51 : decode cX8_asks 51 = .ok (.bipush 113, 2) := by decide +kernel
theorem dX8_asks_53 : decode cX8_asks 53 = .ok (.iaload, 1) := by decide +kernel
theorem dX8_asks_54 : decode cX8_asks 54 = .ok (.istore_n 3, 1) := by decide +kernel
theorem dX8_asks_55 : decode cX8_asks 55 = .ok (.iload_n 3, 1) := by decide +kernel
theorem dX8_asks_56 : decode cX8_asks 56 = .ok (.bipush 6, 2) := by decide +kernel
theorem dX8_asks_58 : decode cX8_asks 58 = .ok (.if_icmp .ne 12, 3) := by decide +kernel
theorem dX8_asks_61 : decode cX8_asks 61 = .ok (.aload_n 0, 1) := by decide +kernel
theorem dX8_asks_62 : decode cX8_asks 62 = .ok (.iconst 3, 1) := by decide +kernel
theorem dX8_asks_63 : decode cX8_asks 63 = .ok (.bipush 6, 2) := by decide +kernel
theorem dX8_asks_65 : decode cX8_asks 65 = .ok (.iconst 2, 1) := by decide +kernel
theorem dX8_asks_66 : decode cX8_asks 66 = .ok (.invokevirtual 101, 3) := by decide +kernel
theorem dX8_asks_69 : decode cX8_asks 69 = .ok (.ireturn, 1) := by decide +kernel
theorem dX8_asks_70 : decode cX8_asks 70 = .ok (.aload_n 0, 1) := by decide +kernel
theorem dX8_asks_71 : decode cX8_asks 71 = .ok (.getfield 7, 3) := by decide +kernel
theorem dX8_asks_74 : decode cX8_asks 74 = .ok (.bipush 114, 2) := by decide +kernel
theorem dX8_asks_76 : decode cX8_asks 76 = .ok (.iload_n 3, 1) := by decide +kernel
theorem dX8_asks_77 : decode cX8_asks 77 = .ok (.iadd, 1) := by decide +kernel
theorem dX8_asks_78 : decode cX8_asks 78 = .ok (.iload_n 1, 1) := by decide +kernel
theorem dX8_asks_79 : decode cX8_asks 79 = .ok (.iastore, 1) := by decide +kernel
theorem dX8_asks_80 : decode cX8_asks 80 = .ok (.aload_n 0, 1) := by decide +kernel
theorem dX8_asks_81 : decode cX8_asks 81 = .ok (.getfield 7, 3) := by decide +kernel
theorem dX8_asks_84 : decode cX8_asks 84 = .ok (.bipush 120, 2) := by decide +kernel
theorem dX8_asks_86 : decode cX8_asks 86 = .ok (.iload_n 3, 1) := by decide +kernel
theorem dX8_asks_87 : decode cX8_asks 87 = .ok (.iadd, 1) := by decide +kernel
theorem dX8_asks_88 : decode cX8_asks 88 = .ok (.iload_n 2, 1) := by decide +kernel
theorem dX8_asks_89 : decode cX8_asks 89 = .ok (.iastore, 1) := by decide +kernel
theorem dX8_asks_90 : decode cX8_asks 90 = .ok (.aload_n 0, 1) := by decide +kernel
theorem dX8_asks_91 : decode cX8_asks 91 = .ok (.getfield 7, 3) := by decide +kernel
theorem dX8_asks_94 : decode cX8_asks 94 = .ok (.bipush 113, 2) := by decide +kernel
theorem dX8_asks_96 : decode cX8_asks 96 = .ok (.dup2, 1) := by decide +kernel
theorem dX8_asks_97 : decode cX8_asks 97 = .ok (.iaload, 1) := by decide +kernel
theorem dX8_asks_98 : decode cX8_asks 98 = .ok (.iconst 1, 1) := by decide +kernel
theorem dX8_asks_99 : decode cX8_asks 99 = .ok (.iadd, 1) := by decide +kernel
theorem dX8_asks_100 : decode cX8_asks 100 = .ok (.iastore, 1) := by decide +kernel
theorem dX8_asks_101 : decode cX8_asks 101 = .ok (.aload_n 0, 1) := by decide +kernel
theorem dX8_asks_102 : decode cX8_asks 102 = .ok (.iconst (-1), 1) := by decide +kernel
theorem dX8_asks_103 : decode cX8_asks 103 = .ok (.invokevirtual 105, 3) := by decide +kernel
theorem dX8_asks_106 : decode cX8_asks 106 = .ok (.ireturn, 1) := by decide +kernel
theorem dX8_ask_0 : decode cX8_ask 0 = .ok (.aload_n 0, 1) := by decide +kernel
theorem dX8_ask_1 : decode cX8_ask 1 = .ok (.invokevirtual 112, 3) := by decide +kernel
theorem dX8_ask_4 : decode cX8_ask 4 = .ok (.aload_n 0, 1) := by decide +kernel
theorem dX8_ask_5 : decode cX8_ask 5 = .ok (.aload_n 0, 1) := by decide +kernel
theorem dX8_ask_6 : decode cX8_ask 6 = .ok (.iload_n 1, 1) := by decide +kernel
theorem dX8_ask_7 : decode cX8_ask 7 = .ok (.iload_n 2, 1) := by decide +kernel
theorem dX8_ask_8 : decode cX8_ask 8 = .ok (.invokevirtual 121, 3) := by decide +kernel
theorem dX8_ask_11 : decode cX8_ask 11 = .ok (.invokevirtual 118, 3) := by decide +kernel
theorem dX8_ask_14 : decode cX8_ask 14 = .ok (.ireturn, 1) := by decide +kernel
theorem dX8_comesBack_0 : decode cX8_comesBack 0 = .ok (.aload_n 0, 1) := by decide +kernel
theorem dX8_comesBack_1 : decode cX8_comesBack 1 = .ok (.getfield 7, 3) := by decide +kernel
theorem dX8_comesBack_4 : decode cX8_comesBack 4 = .ok (.bipush 97, 2) := by decide +kernel
theorem dX8_comesBack_6 : decode cX8_comesBack 6 = .ok (.iload_n 1, 1) := by decide +kernel
theorem dX8_comesBack_7 : decode cX8_comesBack 7 = .ok (.iadd, 1) := by decide +kernel
theorem dX8_comesBack_8 : decode cX8_comesBack 8 = .ok (.iaload, 1) := by decide +kernel
theorem dX8_comesBack_9 : decode cX8_comesBack 9 = .ok (.istore_n 2, 1) := by decide +kernel
theorem dX8_comesBack_10 : decode cX8_comesBack 10 = .ok (.aload_n 0, 1) := by decide +kernel
theorem dX8_comesBack_11 : decode cX8_comesBack 11 = .ok (.getfield 7, 3) := by decide +kernel
theorem dX8_comesBack_14 : decode cX8_comesBack 14 = .ok (.bipush 64, 2) := by decide +kernel
theorem dX8_comesBack_16 : decode cX8_comesBack 16 = .ok (.dup2, 1) := by decide +kernel
theorem dX8_comesBack_17 : decode cX8_comesBack 17 = .ok (.iaload, 1) := by decide +kernel
theorem dX8_comesBack_18 : decode cX8_comesBack 18 = .ok (.iconst 1, 1) := by decide +kernel
theorem dX8_comesBack_19 : decode cX8_comesBack 19 = .ok (.isub, 1) := by decide +kernel
theorem dX8_comesBack_20 : decode cX8_comesBack 20 = .ok (.iastore, 1) := by decide +kernel
theorem dX8_comesBack_21 : decode cX8_comesBack 21 = .ok (.bipush 65, 2) := by decide +kernel
theorem dX8_comesBack_23 : decode cX8_comesBack 23 = .ok (.istore_n 3, 1) := by decide +kernel
theorem dX8_comesBack_24 : decode cX8_comesBack 24 = .ok (.iload_n 3, 1) := by decide +kernel
theorem dX8_comesBack_25 : decode cX8_comesBack 25 = .ok (.bipush 113, 2) := by decide +kernel
theorem dX8_comesBack_27 : decode cX8_comesBack 27 = .ok (.if_icmp .ge 65, 3) := by decide +kernel
theorem dX8_comesBack_30 : decode cX8_comesBack 30 = .ok (.iload_n 1, 1) := by decide +kernel
theorem dX8_comesBack_31 : decode cX8_comesBack 31 = .ok (.istore 4, 2) := by decide +kernel
theorem dX8_comesBack_33 : decode cX8_comesBack 33 = .ok (.iload 4, 2) := by decide +kernel
theorem dX8_comesBack_35 : decode cX8_comesBack 35 = .ok (.aload_n 0, 1) := by decide +kernel
theorem dX8_comesBack_36 : decode cX8_comesBack 36 = .ok (.getfield 7, 3) := by decide +kernel
theorem dX8_comesBack_39 : decode cX8_comesBack 39 = .ok (.bipush 64, 2) := by decide +kernel
theorem dX8_comesBack_41 : decode cX8_comesBack 41 = .ok (.iaload, 1) := by decide +kernel
theorem dX8_comesBack_42 : decode cX8_comesBack 42 = .ok (.if_icmp .ge 29, 3) := by decide +kernel
theorem dX8_comesBack_45 : decode cX8_comesBack 45 = .ok (.aload_n 0, 1) := by decide +kernel
theorem dX8_comesBack_46 : decode cX8_comesBack 46 = .ok (.getfield 7, 3) := by decide +kernel
theorem dX8_comesBack_49 : decode cX8_comesBack 49 = .ok (.iload_n 3, 1) := by decide +kernel
theorem dX8_comesBack_50 : decode cX8_comesBack 50 = .ok (.iload 4, 2) := by decide +kernel
theorem dX8_comesBack_52 : decode cX8_comesBack 52 = .ok (.iadd, 1) := by decide +kernel
theorem dX8_comesBack_53 : decode cX8_comesBack 53 = .ok (.aload_n 0, 1) := by decide +kernel
theorem dX8_comesBack_54 : decode cX8_comesBack 54 = .ok (.getfield 7, 3) := by decide +kernel
theorem dX8_comesBack_57 : decode cX8_comesBack 57 = .ok (.iload_n 3, 1) := by decide +kernel
theorem dX8_comesBack_58 : decode cX8_comesBack 58 = .ok (.iload 4, 2) := by decide +kernel
theorem dX8_comesBack_60 : decode cX8_comesBack 60 = .ok (.iadd, 1) := by decide +kernel
theorem dX8_comesBack_61 : decode cX8_comesBack 61 = .ok (.iconst 1, 1) := by decide +kernel
theorem dX8_comesBack_62 : decode cX8_comesBack 62 = .ok (.iadd, 1) := by decide +kernel
theorem dX8_comesBack_63 : decode cX8_comesBack 63 = .ok (.iaload, 1) := by decide +kernel
theorem dX8_comesBack_64 : decode cX8_comesBack 64 = .ok (.iastore, 1) := by decide +kernel
theorem dX8_comesBack_65 : decode cX8_comesBack 65 = .ok (.iinc 4 1, 3) := by decide +kernel
theorem dX8_comesBack_68 : decode cX8_comesBack 68 = .ok (.goto (-35), 3) := by decide +kernel
theorem dX8_comesBack_71 : decode cX8_comesBack 71 = .ok (.aload_n 0, 1) := by decide +kernel
theorem dX8_comesBack_72 : decode cX8_comesBack 72 = .ok (.getfield 7, 3) := by decide +kernel
theorem dX8_comesBack_75 : decode cX8_comesBack 75 = .ok (.iload_n 3, 1) := by decide +kernel
theorem dX8_comesBack_76 : decode cX8_comesBack 76 = .ok (.aload_n 0, 1) := by decide +kernel
theorem dX8_comesBack_77 : decode cX8_comesBack 77 = .ok (.getfield 7, 3) := by decide +kernel
theorem dX8_comesBack_80 : decode cX8_comesBack 80 = .ok (.bipush 64, 2) := by decide +kernel
theorem dX8_comesBack_82 : decode cX8_comesBack 82 = .ok (.iaload, 1) := by decide +kernel
theorem dX8_comesBack_83 : decode cX8_comesBack 83 = .ok (.iadd, 1) := by decide +kernel
theorem dX8_comesBack_84 : decode cX8_comesBack 84 = .ok (.iconst 0, 1) := by decide +kernel
theorem dX8_comesBack_85 : decode cX8_comesBack 85 = .ok (.iastore, 1) := by decide +kernel
theorem dX8_comesBack_86 : decode cX8_comesBack 86 = .ok (.iinc 3 16, 3) := by decide +kernel
theorem dX8_comesBack_89 : decode cX8_comesBack 89 = .ok (.goto (-65), 3) := by decide +kernel
theorem dX8_comesBack_92 : decode cX8_comesBack 92 = .ok (.aload_n 0, 1) := by decide +kernel
theorem dX8_comesBack_93 : decode cX8_comesBack 93 = .ok (.iload_n 2, 1) := by decide +kernel
theorem dX8_comesBack_94 : decode cX8_comesBack 94 = .ok (.invokevirtual 124, 3) := by decide +kernel
theorem dX8_comesBack_97 : decode cX8_comesBack 97 = .ok (.return_, 1) := by decide +kernel
theorem dX8_gives_0 : decode cX8_gives 0 = .ok (.aload_n 0, 1) := by decide +kernel
theorem dX8_gives_1 : decode cX8_gives 1 = .ok (.iload_n 1, 1) := by decide +kernel
theorem dX8_gives_2 : decode cX8_gives 2 = .ok (.invokevirtual 127, 3) := by decide +kernel
theorem dX8_gives_5 : decode cX8_gives 5 = .ok (.ifCond .ne 9, 3) := by decide +kernel
theorem dX8_gives_8 : decode cX8_gives 8 = .ok (.aload_n 0, 1) := by decide +kernel
theorem dX8_gives_9 : decode cX8_gives 9 = .ok (.iconst 1, 1) := by decide +kernel
theorem dX8_gives_10 : decode cX8_gives 10 = .ok (.invokevirtual 98, 3) := by decide +kernel
theorem dX8_gives_13 : decode cX8_gives 13 = .ok (.ireturn, 1) := by decide +kernel
theorem dX8_gives_14 : decode cX8_gives 14 = .ok (.aload_n 0, 1) := by decide +kernel
theorem dX8_gives_15 : decode cX8_gives 15 = .ok (.iload_n 1, 1) := by decide +kernel
theorem dX8_gives_16 : decode cX8_gives 16 = .ok (.invokevirtual 130, 3) := by decide +kernel
theorem dX8_gives_19 : decode cX8_gives 19 = .ok (.aload_n 0, 1) := by decide +kernel
theorem dX8_gives_20 : decode cX8_gives 20 = .ok (.aload_n 0, 1) := by decide +kernel
theorem dX8_gives_21 : decode cX8_gives 21 = .ok (.invokevirtual 133, 3) := by decide +kernel
theorem dX8_gives_24 : decode cX8_gives 24 = .ok (.invokevirtual 105, 3) := by decide +kernel
theorem dX8_gives_27 : decode cX8_gives 27 = .ok (.ireturn, 1) := by decide +kernel
theorem dX8_give_0 : decode cX8_give 0 = .ok (.aload_n 0, 1) := by decide +kernel
theorem dX8_give_1 : decode cX8_give 1 = .ok (.invokevirtual 112, 3) := by decide +kernel
theorem dX8_give_4 : decode cX8_give 4 = .ok (.aload_n 0, 1) := by decide +kernel
theorem dX8_give_5 : decode cX8_give 5 = .ok (.aload_n 0, 1) := by decide +kernel
theorem dX8_give_6 : decode cX8_give 6 = .ok (.iload_n 1, 1) := by decide +kernel
theorem dX8_give_7 : decode cX8_give 7 = .ok (.invokevirtual 136, 3) := by decide +kernel
theorem dX8_give_10 : decode cX8_give 10 = .ok (.invokevirtual 118, 3) := by decide +kernel
theorem dX8_give_13 : decode cX8_give 13 = .ok (.ireturn, 1) := by decide +kernel
theorem dX8_waitingFor_0 : decode cX8_waitingFor 0 = .ok (.iconst 0, 1) := by decide +kernel
theorem dX8_waitingFor_1 : decode cX8_waitingFor 1 = .ok (.istore_n 2, 1) := by decide +kernel
theorem dX8_waitingFor_2 : decode cX8_waitingFor 2 = .ok (.iconst 0, 1) := by decide +kernel
theorem dX8_waitingFor_3 : decode cX8_waitingFor 3 = .ok (.istore_n 3, 1) := by decide +kernel
theorem dX8_waitingFor_4 : decode cX8_waitingFor 4 = .ok (.iload_n 3, 1) := by decide +kernel
theorem dX8_waitingFor_5 : decode cX8_waitingFor 5 = .ok (.aload_n 0, 1) := by decide +kernel
theorem dX8_waitingFor_6 : decode cX8_waitingFor 6 = .ok (.getfield 7, 3) := by decide +kernel
theorem dX8_waitingFor_9 : decode cX8_waitingFor 9 = .ok (.bipush 113, 2) := by decide +kernel
theorem dX8_waitingFor_11 : decode cX8_waitingFor 11 = .ok (.iaload, 1) := by decide +kernel
theorem dX8_waitingFor_12 : decode cX8_waitingFor 12 = .ok (.if_icmp .ge 30, 3) := by decide +kernel
theorem dX8_waitingFor_15 : decode cX8_waitingFor 15 = .ok (.iload_n 2, 1) := by decide +kernel
theorem dX8_waitingFor_16 : decode cX8_waitingFor 16 = .ok (.aload_n 0, 1) := by decide +kernel
theorem dX8_waitingFor_17 : decode cX8_waitingFor 17 = .ok (.getfield 7, 3) := by decide +kernel
theorem dX8_waitingFor_20 : decode cX8_waitingFor 20 = .ok (.bipush 114, 2) := by decide +kernel
theorem dX8_waitingFor_22 : decode cX8_waitingFor 22 = .ok (.iload_n 3, 1) := by decide +kernel
theorem dX8_waitingFor_23 : decode cX8_waitingFor 23 = .ok (.iadd, 1) := by decide +kernel
theorem dX8_waitingFor_24 : decode cX8_waitingFor 24 = .ok (.iaload, 1) := by decide +kernel
theorem dX8_waitingFor_25 : decode cX8_waitingFor 25 = .ok (.iload_n 1, 1) := by decide +kernel
theorem dX8_waitingFor_26 : decode cX8_waitingFor 26 = .ok (.if_icmp .ne 7, 3) := by decide +kernel
theorem dX8_waitingFor_29 : decode cX8_waitingFor 29 = .ok (.iconst 1, 1) := by decide +kernel
theorem dX8_waitingFor_30 : decode cX8_waitingFor 30 = .ok (.goto 4, 3) := by decide +kernel
theorem dX8_waitingFor_33 : decode cX8_waitingFor 33 = .ok (.iconst 0, 1) := by decide +kernel
theorem dX8_waitingFor_34 : decode cX8_waitingFor 34 = .ok (.iadd, 1) := by decide +kernel
theorem dX8_waitingFor_35 : decode cX8_waitingFor 35 = .ok (.istore_n 2, 1) := by decide +kernel
theorem dX8_waitingFor_36 : decode cX8_waitingFor 36 = .ok (.iinc 3 1, 3) := by decide +kernel
theorem dX8_waitingFor_39 : decode cX8_waitingFor 39 = .ok (.goto (-35), 3) := by decide +kernel
theorem dX8_waitingFor_42 : decode cX8_waitingFor 42 = .ok (.iload_n 2, 1) := by decide +kernel
theorem dX8_waitingFor_43 : decode cX8_waitingFor 43 = .ok (.ireturn, 1) := by decide +kernel
theorem dX8_givesAll_0 : decode cX8_givesAll 0 = .ok (.iload_n 1, 1) := by decide +kernel
theorem dX8_givesAll_1 : decode cX8_givesAll 1 = .ok (.invokestatic 92, 3) := by decide +kernel
theorem dX8_givesAll_4 : decode cX8_givesAll 4 = .ok (.ifCond .ne 9, 3) := by decide +kernel
theorem dX8_givesAll_7 : decode cX8_givesAll 7 = .ok (.aload_n 0, 1) := by decide +kernel
theorem dX8_givesAll_8 : decode cX8_givesAll 8 = .ok (.iconst 1, 1) := by decide +kernel
theorem dX8_givesAll_9 : decode cX8_givesAll 9 = .ok (.invokevirtual 98, 3) := by decide +kernel
theorem dX8_givesAll_12 : decode cX8_givesAll 12 = .ok (.ireturn, 1) := by decide +kernel
theorem dX8_givesAll_13 : decode cX8_givesAll 13 = .ok (.iconst 0, 1) := by decide +kernel
theorem dX8_givesAll_14 : decode cX8_givesAll 14 = .ok (.istore_n 2, 1) := by decide +kernel
theorem dX8_givesAll_15 : decode cX8_givesAll 15 = .ok (.aload_n 0, 1) := by decide +kernel
theorem dX8_givesAll_16 : decode cX8_givesAll 16 = .ok (.getfield 7, 3) := by decide +kernel
theorem dX8_givesAll_19 : decode cX8_givesAll 19 = .ok (.bipush 64, 2) := by decide +kernel
theorem dX8_givesAll_21 : decode cX8_givesAll 21 = .ok (.iaload, 1) := by decide +kernel
theorem dX8_givesAll_22 : decode cX8_givesAll 22 = .ok (.iconst 1, 1) := by decide +kernel
theorem dX8_givesAll_23 : decode cX8_givesAll 23 = .ok (.isub, 1) := by decide +kernel
theorem dX8_givesAll_24 : decode cX8_givesAll 24 = .ok (.istore_n 3, 1) := by decide +kernel
theorem dX8_givesAll_25 : decode cX8_givesAll 25 = .ok (.iload_n 3, 1) := by decide +kernel
theorem dX8_givesAll_26 : decode cX8_givesAll 26 = .ok (.ifCond .lt 30, 3) := by decide +kernel
theorem dX8_givesAll_29 : decode cX8_givesAll 29 = .ok (.aload_n 0, 1) := by decide +kernel
theorem dX8_givesAll_30 : decode cX8_givesAll 30 = .ok (.getfield 7, 3) := by decide +kernel
theorem dX8_givesAll_33 : decode cX8_givesAll 33 = .ok (.bipush 65, 2) := by decide +kernel
theorem dX8_givesAll_35 : decode cX8_givesAll 35 = .ok (.iload_n 3, 1) := by decide +kernel
theorem dX8_givesAll_36 : decode cX8_givesAll 36 = .ok (.iadd, 1) := by decide +kernel
theorem dX8_givesAll_37 : decode cX8_givesAll 37 = .ok (.iaload, 1) := by decide +kernel
theorem dX8_givesAll_38 : decode cX8_givesAll 38 = .ok (.iload_n 1, 1) := by decide +kernel
theorem dX8_givesAll_39 : decode cX8_givesAll 39 = .ok (.if_icmp .ne 11, 3) := by decide +kernel
theorem dX8_givesAll_42 : decode cX8_givesAll 42 = .ok (.aload_n 0, 1) := by decide +kernel
theorem dX8_givesAll_43 : decode cX8_givesAll 43 = .ok (.iload_n 3, 1) := by decide +kernel
theorem dX8_givesAll_44 : decode cX8_givesAll 44 = .ok (.invokevirtual 130, 3) := by decide +kernel
theorem dX8_givesAll_47 : decode cX8_givesAll 47 = .ok (.iinc 2 1, 3) := by decide +kernel
theorem dX8_givesAll_50 : decode cX8_givesAll 50 = .ok (.iinc 3 (-1), 3) := by decide +kernel
theorem dX8_givesAll_53 : decode cX8_givesAll 53 = .ok (.goto (-28), 3) := by decide +kernel
theorem dX8_givesAll_56 : decode cX8_givesAll 56 = .ok (.iload_n 2, 1) := by decide +kernel
theorem dX8_givesAll_57 : decode cX8_givesAll 57 = .ok (.ifCond .ne 15, 3) := by decide +kernel
theorem dX8_givesAll_60 : decode cX8_givesAll 60 = .ok (.aload_n 0, 1) := by decide +kernel
theorem dX8_givesAll_61 : decode cX8_givesAll 61 = .ok (.iconst 4, 1) := by decide +kernel
theorem dX8_givesAll_62 : decode cX8_givesAll 62 = .ok (.aload_n 0, 1) := by decide +kernel
theorem dX8_givesAll_63 : decode cX8_givesAll 63 = .ok (.iload_n 1, 1) := by decide +kernel
theorem dX8_givesAll_64 : decode cX8_givesAll 64 = .ok (.invokevirtual 139, 3) := by decide +kernel
theorem dX8_givesAll_67 : decode cX8_givesAll 67 = .ok (.iconst 2, 1) := by decide +kernel
theorem dX8_givesAll_68 : decode cX8_givesAll 68 = .ok (.invokevirtual 101, 3) := by decide +kernel
theorem dX8_givesAll_71 : decode cX8_givesAll 71 = .ok (.ireturn, 1) := by decide +kernel
theorem dX8_givesAll_72 : decode cX8_givesAll 72 = .ok (.aload_n 0, 1) := by decide +kernel
theorem dX8_givesAll_73 : decode cX8_givesAll 73 = .ok (.invokevirtual 133, 3) := by decide +kernel
theorem dX8_givesAll_76 : decode cX8_givesAll 76 = .ok (.istore_n 3, 1) := by decide +kernel
theorem dX8_givesAll_77 : decode cX8_givesAll 77 = .ok (.aload_n 0, 1) := by decide +kernel
theorem dX8_givesAll_78 : decode cX8_givesAll 78 = .ok (.iload_n 2, 1) := by decide +kernel
theorem dX8_givesAll_79 : decode cX8_givesAll 79 = .ok (.invokevirtual 105, 3) := by decide +kernel
theorem dX8_givesAll_82 : decode cX8_givesAll 82 = .ok (.ireturn, 1) := by decide +kernel
theorem dX8_giveAll_0 : decode cX8_giveAll 0 = .ok (.aload_n 0, 1) := by decide +kernel
theorem dX8_giveAll_1 : decode cX8_giveAll 1 = .ok (.invokevirtual 112, 3) := by decide +kernel
theorem dX8_giveAll_4 : decode cX8_giveAll 4 = .ok (.aload_n 0, 1) := by decide +kernel
theorem dX8_giveAll_5 : decode cX8_giveAll 5 = .ok (.aload_n 0, 1) := by decide +kernel
theorem dX8_giveAll_6 : decode cX8_giveAll 6 = .ok (.iload_n 1, 1) := by decide +kernel
theorem dX8_giveAll_7 : decode cX8_giveAll 7 = .ok (.invokevirtual 142, 3) := by decide +kernel
theorem dX8_giveAll_10 : decode cX8_giveAll 10 = .ok (.invokevirtual 118, 3) := by decide +kernel
theorem dX8_giveAll_13 : decode cX8_giveAll 13 = .ok (.ireturn, 1) := by decide +kernel
theorem dX8_grows_0 : decode cX8_grows 0 = .ok (.aload_n 0, 1) := by decide +kernel
theorem dX8_grows_1 : decode cX8_grows 1 = .ok (.getfield 7, 3) := by decide +kernel
theorem dX8_grows_4 : decode cX8_grows 4 = .ok (.bipush 97, 2) := by decide +kernel
theorem dX8_grows_6 : decode cX8_grows 6 = .ok (.iload_n 1, 1) := by decide +kernel
theorem dX8_grows_7 : decode cX8_grows 7 = .ok (.iadd, 1) := by decide +kernel
theorem dX8_grows_8 : decode cX8_grows 8 = .ok (.iaload, 1) := by decide +kernel
theorem dX8_grows_9 : decode cX8_grows 9 = .ok (.istore_n 3, 1) := by decide +kernel
theorem dX8_grows_10 : decode cX8_grows 10 = .ok (.aload_n 0, 1) := by decide +kernel
theorem dX8_grows_11 : decode cX8_grows 11 = .ok (.getfield 7, 3) := by decide +kernel
theorem dX8_grows_14 : decode cX8_grows 14 = .ok (.bipush 97, 2) := by decide +kernel
theorem dX8_grows_16 : decode cX8_grows 16 = .ok (.iload_n 1, 1) := by decide +kernel
theorem dX8_grows_17 : decode cX8_grows 17 = .ok (.iadd, 1) := by decide +kernel
theorem dX8_grows_18 : decode cX8_grows 18 = .ok (.iconst (-1), 1) := by decide +kernel
theorem dX8_grows_19 : decode cX8_grows 19 = .ok (.iastore, 1) := by decide +kernel
theorem dX8_grows_20 : decode cX8_grows 20 = .ok (.aload_n 0, 1) := by decide +kernel
theorem dX8_grows_21 : decode cX8_grows 21 = .ok (.iload_n 3, 1) := by decide +kernel
theorem dX8_grows_22 : decode cX8_grows 22 = .ok (.invokevirtual 124, 3) := by decide +kernel
theorem dX8_grows_25 : decode cX8_grows 25 = .ok (.aload_n 0, 1) := by decide +kernel
theorem dX8_grows_26 : decode cX8_grows 26 = .ok (.iload_n 2, 1) := by decide +kernel
theorem dX8_grows_27 : decode cX8_grows 27 = .ok (.invokevirtual 75, 3) := by decide +kernel
theorem dX8_grows_30 : decode cX8_grows 30 = .ok (.istore 4, 2) := by decide +kernel
theorem dX8_grows_32 : decode cX8_grows 32 = .ok (.iload 4, 2) := by decide +kernel
theorem dX8_grows_34 : decode cX8_grows 34 = .ok (.iconst (-1), 1) := by decide +kernel
theorem dX8_grows_35 : decode cX8_grows 35 = .ok (.if_icmp .eq 19, 3) := by decide +kernel
theorem dX8_grows_38 : decode cX8_grows 38 = .ok (.aload_n 0, 1) := by decide +kernel
theorem dX8_grows_39 : decode cX8_grows 39 = .ok (.getfield 7, 3) := by decide +kernel
theorem dX8_grows_42 : decode cX8_grows 42 = .ok (.bipush 97, 2) := by decide +kernel
theorem dX8_grows_44 : decode cX8_grows 44 = .ok (.iload_n 1, 1) := by decide +kernel
theorem dX8_grows_45 : decode cX8_grows 45 = .ok (.iadd, 1) := by decide +kernel
theorem dX8_grows_46 : decode cX8_grows 46 = .ok (.aload_n 0, 1) := by decide +kernel
theorem dX8_grows_47 : decode cX8_grows 47 = .ok (.iload 4, 2) := by decide +kernel
theorem dX8_grows_49 : decode cX8_grows 49 = .ok (.iload_n 2, 1) := by decide +kernel
theorem dX8_grows_50 : decode cX8_grows 50 = .ok (.invokevirtual 78, 3) := by decide +kernel
theorem dX8_grows_53 : decode cX8_grows 53 = .ok (.iastore, 1) := by decide +kernel
theorem dX8_grows_54 : decode cX8_grows 54 = .ok (.iload 4, 2) := by decide +kernel
theorem dX8_grows_56 : decode cX8_grows 56 = .ok (.iconst (-1), 1) := by decide +kernel
theorem dX8_grows_57 : decode cX8_grows 57 = .ok (.if_icmp .eq 7, 3) := by decide +kernel
theorem dX8_grows_60 : decode cX8_grows 60 = .ok (.iconst 1, 1) := by decide +kernel
theorem dX8_grows_61 : decode cX8_grows 61 = .ok (.goto 4, 3) := by decide +kernel
theorem dX8_grows_64 : decode cX8_grows 64 = .ok (.iconst 0, 1) := by decide +kernel
theorem dX8_grows_65 : decode cX8_grows 65 = .ok (.ireturn, 1) := by decide +kernel
theorem dX8_resizes_0 : decode cX8_resizes 0 = .ok (.aload_n 0, 1) := by decide +kernel
theorem dX8_resizes_1 : decode cX8_resizes 1 = .ok (.iload_n 1, 1) := by decide +kernel
theorem dX8_resizes_2 : decode cX8_resizes 2 = .ok (.invokevirtual 127, 3) := by decide +kernel
theorem dX8_resizes_5 : decode cX8_resizes 5 = .ok (.ifCond .ne 9, 3) := by decide +kernel
theorem dX8_resizes_8 : decode cX8_resizes 8 = .ok (.aload_n 0, 1) := by decide +kernel
theorem dX8_resizes_9 : decode cX8_resizes 9 = .ok (.iconst 1, 1) := by decide +kernel
theorem dX8_resizes_10 : decode cX8_resizes 10 = .ok (.invokevirtual 98, 3) := by decide +kernel
theorem dX8_resizes_13 : decode cX8_resizes 13 = .ok (.ireturn, 1) := by decide +kernel
theorem dX8_resizes_14 : decode cX8_resizes 14 = .ok (.iload_n 2, 1) := by decide +kernel
theorem dX8_resizes_15 : decode cX8_resizes 15 = .ok (.invokestatic 95, 3) := by decide +kernel
theorem dX8_resizes_18 : decode cX8_resizes 18 = .ok (.ifCond .ne 9, 3) := by decide +kernel
theorem dX8_resizes_21 : decode cX8_resizes 21 = .ok (.aload_n 0, 1) := by decide +kernel
theorem dX8_resizes_22 : decode cX8_resizes 22 = .ok (.iconst 2, 1) := by decide +kernel
theorem dX8_resizes_23 : decode cX8_resizes 23 = .ok (.invokevirtual 98, 3) := by decide +kernel
theorem dX8_resizes_26 : decode cX8_resizes 26 = .ok (.ireturn, 1) := by decide +kernel
theorem dX8_resizes_27 : decode cX8_resizes 27 = .ok (.aload_n 0, 1) := by decide +kernel
theorem dX8_resizes_28 : decode cX8_resizes 28 = .ok (.getfield 7, 3) := by decide +kernel
theorem dX8_resizes_31 : decode cX8_resizes 31 = .ok (.bipush 81, 2) := by decide +kernel
theorem dX8_resizes_33 : decode cX8_resizes 33 = .ok (.iload_n 1, 1) := by decide +kernel
theorem dX8_resizes_34 : decode cX8_resizes 34 = .ok (.iadd, 1) := by decide +kernel
theorem dX8_resizes_35 : decode cX8_resizes 35 = .ok (.iaload, 1) := by decide +kernel
theorem dX8_resizes_36 : decode cX8_resizes 36 = .ok (.iload_n 2, 1) := by decide +kernel
theorem dX8_resizes_37 : decode cX8_resizes 37 = .ok (.if_icmp .ne 11, 3) := by decide +kernel
theorem dX8_resizes_40 : decode cX8_resizes 40 = .ok (.aload_n 0, 1) := by decide +kernel
theorem dX8_resizes_41 : decode cX8_resizes 41 = .ok (.iconst 5, 1) := by decide +kernel
theorem dX8_resizes_42 : decode cX8_resizes 42 = .ok (.iload_n 2, 1) := by decide +kernel
theorem dX8_resizes_43 : decode cX8_resizes 43 = .ok (.iconst 3, 1) := by decide +kernel
theorem dX8_resizes_44 : decode cX8_resizes 44 = .ok (.invokevirtual 101, 3) := by decide +kernel
theorem dX8_resizes_47 : decode cX8_resizes 47 = .ok (.ireturn, 1) := by decide +kernel
theorem dX8_resizes_48 : decode cX8_resizes 48 = .ok (.aload_n 0, 1) := by decide +kernel
theorem dX8_resizes_49 : decode cX8_resizes 49 = .ok (.getfield 7, 3) := by decide +kernel
theorem dX8_resizes_52 : decode cX8_resizes 52 = .ok (.aload_n 0, 1) := by decide +kernel
theorem dX8_resizes_53 : decode cX8_resizes 53 = .ok (.getfield 7, 3) := by decide +kernel
theorem dX8_resizes_56 : decode cX8_resizes 56 = .ok (.bipush 97, 2) := by decide +kernel
theorem dX8_resizes_58 : decode cX8_resizes 58 = .ok (.iload_n 1, 1) := by decide +kernel
theorem dX8_resizes_59 : decode cX8_resizes 59 = .ok (.iadd, 1) := by decide +kernel
theorem dX8_resizes_60 : decode cX8_resizes 60 = .ok (.iaload, 1) := by decide +kernel
theorem dX8_resizes_61 : decode cX8_resizes 61 = .ok (.iaload, 1) := by decide +kernel
theorem dX8_resizes_62 : decode cX8_resizes 62 = .ok (.istore_n 3, 1) := by decide +kernel
theorem dX8_resizes_63 : decode cX8_resizes 63 = .ok (.iload_n 2, 1) := by decide +kernel
theorem dX8_resizes_64 : decode cX8_resizes 64 = .ok (.invokestatic 72, 3) := by decide +kernel
theorem dX8_resizes_67 : decode cX8_resizes 67 = .ok (.istore 4, 2) := by decide +kernel
theorem dX8_resizes_69 : decode cX8_resizes 69 = .ok (.aload_n 0, 1) := by decide +kernel
theorem dX8_resizes_70 : decode cX8_resizes 70 = .ok (.getfield 7, 3) := by decide +kernel
theorem dX8_resizes_73 : decode cX8_resizes 73 = .ok (.bipush 81, 2) := by decide +kernel
theorem dX8_resizes_75 : decode cX8_resizes 75 = .ok (.iload_n 1, 1) := by decide +kernel
theorem dX8_resizes_76 : decode cX8_resizes 76 = .ok (.iadd, 1) := by decide +kernel
theorem dX8_resizes_77 : decode cX8_resizes 77 = .ok (.iload_n 2, 1) := by decide +kernel
theorem dX8_resizes_78 : decode cX8_resizes 78 = .ok (.iastore, 1) := by decide +kernel
theorem dX8_resizes_79 : decode cX8_resizes 79 = .ok (.iload 4, 2) := by decide +kernel
theorem dX8_resizes_81 : decode cX8_resizes 81 = .ok (.iload_n 3, 1) := by decide +kernel
theorem dX8_resizes_82 : decode cX8_resizes 82 = .ok (.if_icmp .le 24, 3) := by decide +kernel
theorem dX8_resizes_85 : decode cX8_resizes 85 = .ok (.aload_n 0, 1) := by decide +kernel
theorem dX8_resizes_86 : decode cX8_resizes 86 = .ok (.iload_n 1, 1) := by decide +kernel
theorem dX8_resizes_87 : decode cX8_resizes 87 = .ok (.iload 4, 2) := by decide +kernel
theorem dX8_resizes_89 : decode cX8_resizes 89 = .ok (.invokevirtual 145, 3) := by decide +kernel
theorem dX8_resizes_92 : decode cX8_resizes 92 = .ok (.ifCond .ne 14, 3) := by decide +kernel
theorem dX8_resizes_95 : decode cX8_resizes 95 = .ok (.aload_n 0, 1) := by decide +kernel
theorem dX8_resizes_96 : decode cX8_resizes 96 = .ok (.iconst 2, 1) := by decide +kernel
theorem dX8_resizes_97 : decode cX8_resizes 97 = .ok (.aload_n 0, 1) := by decide +kernel
theorem dX8_resizes_98 : decode cX8_resizes 98 = .ok (.invokevirtual 108, 3) := by decide +kernel
theorem dX8_resizes_101 : decode cX8_resizes 101 = .ok (.iconst 3, 1) := by decide +kernel
theorem dX8_resizes_102 : decode cX8_resizes 102 = .ok (.invokevirtual 101, 3) := by decide +kernel
theorem dX8_resizes_105 : decode cX8_resizes 105 = .ok (.ireturn, 1) := by decide +kernel
theorem dX8_resizes_106 : decode cX8_resizes 106 = .ok (.iload 4, 2) := by decide +kernel
theorem dX8_resizes_108 : decode cX8_resizes 108 = .ok (.iload_n 3, 1) := by decide +kernel
theorem dX8_resizes_109 : decode cX8_resizes 109 = .ok (.if_icmp .ge 27, 3) := by decide +kernel
theorem dX8_resizes_112 : decode cX8_resizes 112 = .ok (.aload_n 0, 1) := by decide +kernel
theorem dX8_resizes_113 : decode cX8_resizes 113 = .ok (.getfield 7, 3) := by decide +kernel
theorem dX8_resizes_116 : decode cX8_resizes 116 = .ok (.bipush 97, 2) := by decide +kernel
theorem dX8_resizes_118 : decode cX8_resizes 118 = .ok (.iload_n 1, 1) := by decide +kernel
theorem dX8_resizes_119 : decode cX8_resizes 119 = .ok (.iadd, 1) := by decide +kernel
theorem dX8_resizes_120 : decode cX8_resizes 120 = .ok (.aload_n 0, 1) := by decide +kernel
theorem dX8_resizes_121 : decode cX8_resizes 121 = .ok (.aload_n 0, 1) := by decide +kernel
theorem dX8_resizes_122 : decode cX8_resizes 122 = .ok (.getfield 7, 3) := by decide +kernel
theorem dX8_resizes_125 : decode cX8_resizes 125 = .ok (.bipush 97, 2) := by decide +kernel
theorem dX8_resizes_127 : decode cX8_resizes 127 = .ok (.iload_n 1, 1) := by decide +kernel
theorem dX8_resizes_128 : decode cX8_resizes 128 = .ok (.iadd, 1) := by decide +kernel
theorem dX8_resizes_129 : decode cX8_resizes 129 = .ok (.iaload, 1) := by decide +kernel
theorem dX8_resizes_130 : decode cX8_resizes 130 = .ok (.iload 4, 2) := by decide +kernel
theorem dX8_resizes_132 : decode cX8_resizes 132 = .ok (.invokevirtual 78, 3) := by decide +kernel
theorem dX8_resizes_135 : decode cX8_resizes 135 = .ok (.iastore, 1) := by decide +kernel
theorem dX8_resizes_136 : decode cX8_resizes 136 = .ok (.aload_n 0, 1) := by decide +kernel
theorem dX8_resizes_137 : decode cX8_resizes 137 = .ok (.getfield 7, 3) := by decide +kernel
theorem dX8_resizes_140 : decode cX8_resizes 140 = .ok (.bipush 97, 2) := by decide +kernel
theorem dX8_resizes_142 : decode cX8_resizes 142 = .ok (.iload_n 1, 1) := by decide +kernel
theorem dX8_resizes_143 : decode cX8_resizes 143 = .ok (.iadd, 1) := by decide +kernel
theorem dX8_resizes_144 : decode cX8_resizes 144 = .ok (.iaload, 1) := by decide +kernel
theorem dX8_resizes_145 : decode cX8_resizes 145 = .ok (.istore 5, 2) := by decide +kernel
theorem dX8_resizes_147 : decode cX8_resizes 147 = .ok (.iload 4, 2) := by decide +kernel
theorem dX8_resizes_149 : decode cX8_resizes 149 = .ok (.iload_n 3, 1) := by decide +kernel
theorem dX8_resizes_150 : decode cX8_resizes 150 = .ok (.if_icmp .ne 7, 3) := by decide +kernel
theorem dX8_resizes_153 : decode cX8_resizes 153 = .ok (.iconst 0, 1) := by decide +kernel
theorem dX8_resizes_154 : decode cX8_resizes 154 = .ok (.goto 7, 3) := by decide +kernel
theorem dX8_resizes_157 : decode cX8_resizes 157 = .ok (.aload_n 0, 1) := by decide +kernel
theorem dX8_resizes_158 : decode cX8_resizes 158 = .ok (.invokevirtual 133, 3) := by decide +kernel
theorem dX8_resizes_161 : decode cX8_resizes 161 = .ok (.istore 6, 2) := by decide +kernel
theorem dX8_resizes_163 : decode cX8_resizes 163 = .ok (.aload_n 0, 1) := by decide +kernel
theorem dX8_resizes_164 : decode cX8_resizes 164 = .ok (.iload 5, 2) := by decide +kernel
theorem dX8_resizes_166 : decode cX8_resizes 166 = .ok (.invokevirtual 105, 3) := by decide +kernel
theorem dX8_resizes_169 : decode cX8_resizes 169 = .ok (.ireturn, 1) := by decide +kernel
theorem dX8_resize_0 : decode cX8_resize 0 = .ok (.aload_n 0, 1) := by decide +kernel
theorem dX8_resize_1 : decode cX8_resize 1 = .ok (.invokevirtual 112, 3) := by decide +kernel
theorem dX8_resize_4 : decode cX8_resize 4 = .ok (.aload_n 0, 1) := by decide +kernel
theorem dX8_resize_5 : decode cX8_resize 5 = .ok (.aload_n 0, 1) := by decide +kernel
theorem dX8_resize_6 : decode cX8_resize 6 = .ok (.iload_n 1, 1) := by decide +kernel
theorem dX8_resize_7 : decode cX8_resize 7 = .ok (.iload_n 2, 1) := by decide +kernel
theorem dX8_resize_8 : decode cX8_resize 8 = .ok (.invokevirtual 148, 3) := by decide +kernel
theorem dX8_resize_11 : decode cX8_resize 11 = .ok (.invokevirtual 118, 3) := by decide +kernel
theorem dX8_resize_14 : decode cX8_resize 14 = .ok (.ireturn, 1) := by decide +kernel
theorem dX8_wayIs_0 : decode cX8_wayIs 0 = .ok (.iload_n 1, 1) := by decide +kernel
theorem dX8_wayIs_1 : decode cX8_wayIs 1 = .ok (.iconst 0, 1) := by decide +kernel
theorem dX8_wayIs_2 : decode cX8_wayIs 2 = .ok (.iconst 2, 1) := by decide +kernel
theorem dX8_wayIs_3 : decode cX8_wayIs 3 = .ok (.invokestatic 56, 3) := by decide +kernel
theorem dX8_wayIs_6 : decode cX8_wayIs 6 = .ok (.ifCond .ne 9, 3) := by decide +kernel
theorem dX8_wayIs_9 : decode cX8_wayIs 9 = .ok (.aload_n 0, 1) := by decide +kernel
theorem dX8_wayIs_10 : decode cX8_wayIs 10 = .ok (.iconst 1, 1) := by decide +kernel
theorem dX8_wayIs_11 : decode cX8_wayIs 11 = .ok (.invokevirtual 98, 3) := by decide +kernel
theorem dX8_wayIs_14 : decode cX8_wayIs 14 = .ok (.ireturn, 1) := by decide +kernel
theorem dX8_wayIs_15 : decode cX8_wayIs 15 = .ok (.aload_n 0, 1) := by decide +kernel
theorem dX8_wayIs_16 : decode cX8_wayIs 16 = .ok (.getfield 7, 3) := by decide +kernel
theorem dX8_wayIs_19 : decode cX8_wayIs 19 = .ok (.bipush 126, 2) := by decide +kernel
theorem dX8_wayIs_21 : decode cX8_wayIs 21 = .ok (.iaload, 1) := by decide +kernel
theorem dX8_wayIs_22 : decode cX8_wayIs 22 = .ok (.istore_n 2, 1) := by decide +kernel
theorem dX8_wayIs_23 : decode cX8_wayIs 23 = .ok (.iload_n 2, 1) := by decide +kernel
theorem dX8_wayIs_24 : decode cX8_wayIs 24 = .ok (.iload_n 1, 1) := by decide +kernel
theorem dX8_wayIs_25 : decode cX8_wayIs 25 = .ok (.if_icmp .ne 11, 3) := by decide +kernel
theorem dX8_wayIs_28 : decode cX8_wayIs 28 = .ok (.aload_n 0, 1) := by decide +kernel
theorem dX8_wayIs_29 : decode cX8_wayIs 29 = .ok (.iconst 5, 1) := by decide +kernel
theorem dX8_wayIs_30 : decode cX8_wayIs 30 = .ok (.iload_n 1, 1) := by decide +kernel
theorem dX8_wayIs_31 : decode cX8_wayIs 31 = .ok (.iconst 2, 1) := by decide +kernel
theorem dX8_wayIs_32 : decode cX8_wayIs 32 = .ok (.invokevirtual 101, 3) := by decide +kernel
theorem dX8_wayIs_35 : decode cX8_wayIs 35 = .ok (.ireturn, 1) := by decide +kernel
theorem dX8_wayIs_36 : decode cX8_wayIs 36 = .ok (.aload_n 0, 1) := by decide +kernel
theorem dX8_wayIs_37 : decode cX8_wayIs 37 = .ok (.getfield 7, 3) := by decide +kernel
theorem dX8_wayIs_40 : decode cX8_wayIs 40 = .ok (.bipush 126, 2) := by decide +kernel
theorem dX8_wayIs_42 : decode cX8_wayIs 42 = .ok (.iload_n 1, 1) := by decide +kernel
theorem dX8_wayIs_43 : decode cX8_wayIs 43 = .ok (.iastore, 1) := by decide +kernel
theorem dX8_wayIs_44 : decode cX8_wayIs 44 = .ok (.aload_n 0, 1) := by decide +kernel
theorem dX8_wayIs_45 : decode cX8_wayIs 45 = .ok (.invokevirtual 133, 3) := by decide +kernel
theorem dX8_wayIs_48 : decode cX8_wayIs 48 = .ok (.istore_n 3, 1) := by decide +kernel
theorem dX8_wayIs_49 : decode cX8_wayIs 49 = .ok (.aload_n 0, 1) := by decide +kernel
theorem dX8_wayIs_50 : decode cX8_wayIs 50 = .ok (.iload_n 2, 1) := by decide +kernel
theorem dX8_wayIs_51 : decode cX8_wayIs 51 = .ok (.invokevirtual 105, 3) := by decide +kernel
theorem dX8_wayIs_54 : decode cX8_wayIs 54 = .ok (.ireturn, 1) := by decide +kernel
theorem dX8_way_0 : decode cX8_way 0 = .ok (.aload_n 0, 1) := by decide +kernel
theorem dX8_way_1 : decode cX8_way 1 = .ok (.invokevirtual 112, 3) := by decide +kernel
theorem dX8_way_4 : decode cX8_way 4 = .ok (.aload_n 0, 1) := by decide +kernel
theorem dX8_way_5 : decode cX8_way 5 = .ok (.aload_n 0, 1) := by decide +kernel
theorem dX8_way_6 : decode cX8_way 6 = .ok (.iload_n 1, 1) := by decide +kernel
theorem dX8_way_7 : decode cX8_way 7 = .ok (.invokevirtual 151, 3) := by decide +kernel
theorem dX8_way_10 : decode cX8_way 10 = .ok (.invokevirtual 118, 3) := by decide +kernel
theorem dX8_way_13 : decode cX8_way 13 = .ok (.ireturn, 1) := by decide +kernel
theorem dX8_forgets_0 : decode cX8_forgets 0 = .ok (.iload_n 1, 1) := by decide +kernel
theorem dX8_forgets_1 : decode cX8_forgets 1 = .ok (.iconst 0, 1) := by decide +kernel
theorem dX8_forgets_2 : decode cX8_forgets 2 = .ok (.aload_n 0, 1) := by decide +kernel
theorem dX8_forgets_3 : decode cX8_forgets 3 = .ok (.getfield 7, 3) := by decide +kernel
theorem dX8_forgets_6 : decode cX8_forgets 6 = .ok (.bipush 113, 2) := by decide +kernel
theorem dX8_forgets_8 : decode cX8_forgets 8 = .ok (.iaload, 1) := by decide +kernel
theorem dX8_forgets_9 : decode cX8_forgets 9 = .ok (.iconst 1, 1) := by decide +kernel
theorem dX8_forgets_10 : decode cX8_forgets 10 = .ok (.isub, 1) := by decide +kernel
theorem dX8_forgets_11 : decode cX8_forgets 11 = .ok (.invokestatic 56, 3) := by decide +kernel
theorem dX8_forgets_14 : decode cX8_forgets 14 = .ok (.ifCond .ne 9, 3) := by decide +kernel
theorem dX8_forgets_17 : decode cX8_forgets 17 = .ok (.aload_n 0, 1) := by decide +kernel
theorem dX8_forgets_18 : decode cX8_forgets 18 = .ok (.iconst 1, 1) := by decide +kernel
theorem dX8_forgets_19 : decode cX8_forgets 19 = .ok (.invokevirtual 98, 3) := by decide +kernel
theorem dX8_forgets_22 : decode cX8_forgets 22 = .ok (.ireturn, 1) := by decide +kernel
theorem dX8_forgets_23 : decode cX8_forgets 23 = .ok (.aload_n 0, 1) := by decide +kernel
theorem dX8_forgets_24 : decode cX8_forgets 24 = .ok (.iload_n 1, 1) := by decide +kernel
theorem dX8_forgets_25 : decode cX8_forgets 25 = .ok (.invokevirtual 88, 3) := by decide +kernel
theorem dX8_forgets_28 : decode cX8_forgets 28 = .ok (.aload_n 0, 1) := by decide +kernel
theorem dX8_forgets_29 : decode cX8_forgets 29 = .ok (.aload_n 0, 1) := by decide +kernel
theorem dX8_forgets_30 : decode cX8_forgets 30 = .ok (.getfield 7, 3) := by decide +kernel
theorem dX8_forgets_33 : decode cX8_forgets 33 = .ok (.bipush 113, 2) := by decide +kernel
theorem dX8_forgets_35 : decode cX8_forgets 35 = .ok (.iaload, 1) := by decide +kernel
theorem dX8_forgets_36 : decode cX8_forgets 36 = .ok (.invokevirtual 105, 3) := by decide +kernel
theorem dX8_forgets_39 : decode cX8_forgets 39 = .ok (.ireturn, 1) := by decide +kernel
theorem dX8_forget_0 : decode cX8_forget 0 = .ok (.aload_n 0, 1) := by decide +kernel
theorem dX8_forget_1 : decode cX8_forget 1 = .ok (.invokevirtual 112, 3) := by decide +kernel
theorem dX8_forget_4 : decode cX8_forget 4 = .ok (.aload_n 0, 1) := by decide +kernel
theorem dX8_forget_5 : decode cX8_forget 5 = .ok (.aload_n 0, 1) := by decide +kernel
theorem dX8_forget_6 : decode cX8_forget 6 = .ok (.iload_n 1, 1) := by decide +kernel
theorem dX8_forget_7 : decode cX8_forget 7 = .ok (.invokevirtual 154, 3) := by decide +kernel
theorem dX8_forget_10 : decode cX8_forget 10 = .ok (.invokevirtual 118, 3) := by decide +kernel
theorem dX8_forget_13 : decode cX8_forget 13 = .ok (.ireturn, 1) := by decide +kernel
theorem dX8_sizeOf_0 : decode cX8_sizeOf 0 = .ok (.aload_n 0, 1) := by decide +kernel
theorem dX8_sizeOf_1 : decode cX8_sizeOf 1 = .ok (.getfield 7, 3) := by decide +kernel
theorem dX8_sizeOf_4 : decode cX8_sizeOf 4 = .ok (.aload_n 0, 1) := by decide +kernel
theorem dX8_sizeOf_5 : decode cX8_sizeOf 5 = .ok (.getfield 7, 3) := by decide +kernel
theorem dX8_sizeOf_8 : decode cX8_sizeOf 8 = .ok (.bipush 97, 2) := by decide +kernel
theorem dX8_sizeOf_10 : decode cX8_sizeOf 10 = .ok (.iload_n 1, 1) := by decide +kernel
theorem dX8_sizeOf_11 : decode cX8_sizeOf 11 = .ok (.iadd, 1) := by decide +kernel
theorem dX8_sizeOf_12 : decode cX8_sizeOf 12 = .ok (.iaload, 1) := by decide +kernel
theorem dX8_sizeOf_13 : decode cX8_sizeOf 13 = .ok (.iaload, 1) := by decide +kernel
theorem dX8_sizeOf_14 : decode cX8_sizeOf 14 = .ok (.ireturn, 1) := by decide +kernel
theorem dX8_loanOf_0 : decode cX8_loanOf 0 = .ok (.aload_n 0, 1) := by decide +kernel
theorem dX8_loanOf_1 : decode cX8_loanOf 1 = .ok (.iload_n 1, 1) := by decide +kernel
theorem dX8_loanOf_2 : decode cX8_loanOf 2 = .ok (.invokevirtual 127, 3) := by decide +kernel
theorem dX8_loanOf_5 : decode cX8_loanOf 5 = .ok (.ifCond .ne 9, 3) := by decide +kernel
theorem dX8_loanOf_8 : decode cX8_loanOf 8 = .ok (.aload_n 0, 1) := by decide +kernel
theorem dX8_loanOf_9 : decode cX8_loanOf 9 = .ok (.iconst 1, 1) := by decide +kernel
theorem dX8_loanOf_10 : decode cX8_loanOf 10 = .ok (.invokevirtual 98, 3) := by decide +kernel
theorem dX8_loanOf_13 : decode cX8_loanOf 13 = .ok (.ireturn, 1) := by decide +kernel
theorem dX8_loanOf_14 : decode cX8_loanOf 14 = .ok (.iload_n 2, 1) := by decide +kernel
theorem dX8_loanOf_15 : decode cX8_loanOf 15 = .ok (.tableswitch 82 0 4 #[33, 33, 33, 52, 62], 33) := by decide +kernel
theorem dX8_loanOf_48 : decode cX8_loanOf 48 = .ok (.aload_n 0, 1) := by decide +kernel
theorem dX8_loanOf_49 : decode cX8_loanOf 49 = .ok (.aload_n 0, 1) := by decide +kernel
theorem dX8_loanOf_50 : decode cX8_loanOf 50 = .ok (.getfield 7, 3) := by decide +kernel
theorem dX8_loanOf_53 : decode cX8_loanOf 53 = .ok (.bipush 65, 2) := by decide +kernel
theorem dX8_loanOf_55 : decode cX8_loanOf 55 = .ok (.bipush 16, 2) := by decide +kernel
theorem dX8_loanOf_57 : decode cX8_loanOf 57 = .ok (.iload_n 2, 1) := by decide +kernel
theorem dX8_loanOf_58 : decode cX8_loanOf 58 = .ok (.imul, 1) := by decide +kernel
theorem dX8_loanOf_59 : decode cX8_loanOf 59 = .ok (.iadd, 1) := by decide +kernel
theorem dX8_loanOf_60 : decode cX8_loanOf 60 = .ok (.iload_n 1, 1) := by decide +kernel
theorem dX8_loanOf_61 : decode cX8_loanOf 61 = .ok (.iadd, 1) := by decide +kernel
theorem dX8_loanOf_62 : decode cX8_loanOf 62 = .ok (.iaload, 1) := by decide +kernel
theorem dX8_loanOf_63 : decode cX8_loanOf 63 = .ok (.invokevirtual 105, 3) := by decide +kernel
theorem dX8_loanOf_66 : decode cX8_loanOf 66 = .ok (.ireturn, 1) := by decide +kernel
theorem dX8_loanOf_67 : decode cX8_loanOf 67 = .ok (.aload_n 0, 1) := by decide +kernel
theorem dX8_loanOf_68 : decode cX8_loanOf 68 = .ok (.aload_n 0, 1) := by decide +kernel
theorem dX8_loanOf_69 : decode cX8_loanOf 69 = .ok (.iload_n 1, 1) := by decide +kernel
theorem dX8_loanOf_70 : decode cX8_loanOf 70 = .ok (.invokevirtual 157, 3) := by decide +kernel
theorem dX8_loanOf_73 : decode cX8_loanOf 73 = .ok (.invokevirtual 105, 3) := by decide +kernel
theorem dX8_loanOf_76 : decode cX8_loanOf 76 = .ok (.ireturn, 1) := by decide +kernel
theorem dX8_loanOf_77 : decode cX8_loanOf 77 = .ok (.aload_n 0, 1) := by decide +kernel
theorem dX8_loanOf_78 : decode cX8_loanOf 78 = .ok (.aload_n 0, 1) := by decide +kernel
theorem dX8_loanOf_79 : decode cX8_loanOf 79 = .ok (.iload_n 1, 1) := by decide +kernel
theorem dX8_loanOf_80 : decode cX8_loanOf 80 = .ok (.invokevirtual 157, 3) := by decide +kernel
theorem dX8_loanOf_83 : decode cX8_loanOf 83 = .ok (.aload_n 0, 1) := by decide +kernel
theorem dX8_loanOf_84 : decode cX8_loanOf 84 = .ok (.getfield 7, 3) := by decide +kernel
theorem dX8_loanOf_87 : decode cX8_loanOf 87 = .ok (.bipush 81, 2) := by decide +kernel
theorem dX8_loanOf_89 : decode cX8_loanOf 89 = .ok (.iload_n 1, 1) := by decide +kernel
theorem dX8_loanOf_90 : decode cX8_loanOf 90 = .ok (.iadd, 1) := by decide +kernel
theorem dX8_loanOf_91 : decode cX8_loanOf 91 = .ok (.iaload, 1) := by decide +kernel
theorem dX8_loanOf_92 : decode cX8_loanOf 92 = .ok (.isub, 1) := by decide +kernel
theorem dX8_loanOf_93 : decode cX8_loanOf 93 = .ok (.invokevirtual 105, 3) := by decide +kernel
theorem dX8_loanOf_96 : decode cX8_loanOf 96 = .ok (.ireturn, 1) := by decide +kernel
theorem dX8_loanOf_97 : decode cX8_loanOf 97 = .ok (.aload_n 0, 1) := by decide +kernel
theorem dX8_loanOf_98 : decode cX8_loanOf 98 = .ok (.iconst 2, 1) := by decide +kernel
theorem dX8_loanOf_99 : decode cX8_loanOf 99 = .ok (.invokevirtual 98, 3) := by decide +kernel
theorem dX8_loanOf_102 : decode cX8_loanOf 102 = .ok (.ireturn, 1) := by decide +kernel
theorem dX8_held_0 : decode cX8_held 0 = .ok (.iconst 0, 1) := by decide +kernel
theorem dX8_held_1 : decode cX8_held 1 = .ok (.istore_n 3, 1) := by decide +kernel
theorem dX8_held_2 : decode cX8_held 2 = .ok (.iconst 0, 1) := by decide +kernel
theorem dX8_held_3 : decode cX8_held 3 = .ok (.istore 4, 2) := by decide +kernel
theorem dX8_held_5 : decode cX8_held 5 = .ok (.iload 4, 2) := by decide +kernel
theorem dX8_held_7 : decode cX8_held 7 = .ok (.aload_n 0, 1) := by decide +kernel
theorem dX8_held_8 : decode cX8_held 8 = .ok (.getfield 7, 3) := by decide +kernel
theorem dX8_held_11 : decode cX8_held 11 = .ok (.bipush 64, 2) := by decide +kernel
theorem dX8_held_13 : decode cX8_held 13 = .ok (.iaload, 1) := by decide +kernel
theorem dX8_held_14 : decode cX8_held 14 = .ok (.if_icmp .ge 58, 3) := by decide +kernel
theorem dX8_held_17 : decode cX8_held 17 = .ok (.aload_n 0, 1) := by decide +kernel
theorem dX8_held_18 : decode cX8_held 18 = .ok (.getfield 7, 3) := by decide +kernel
theorem dX8_held_21 : decode cX8_held 21 = .ok (.bipush 65, 2) := by decide +kernel
theorem dX8_held_23 : decode cX8_held 23 = .ok (.iload 4, 2) := by decide +kernel
theorem dX8_held_25 : decode cX8_held 25 = .ok (.iadd, 1) := by decide +kernel
theorem dX8_held_26 : decode cX8_held 26 = .ok (.iaload, 1) := by decide +kernel
theorem dX8_held_27 : decode cX8_held 27 = .ok (.iload_n 1, 1) := by decide +kernel
theorem dX8_held_28 : decode cX8_held 28 = .ok (.if_icmp .ne 38, 3) := by decide +kernel
theorem dX8_held_31 : decode cX8_held 31 = .ok (.iload_n 3, 1) := by decide +kernel
theorem dX8_held_32 : decode cX8_held 32 = .ok (.iload_n 2, 1) := by decide +kernel
theorem dX8_held_33 : decode cX8_held 33 = .ok (.ifCond .ne 7, 3) := by decide +kernel
theorem dX8_held_36 : decode cX8_held 36 = .ok (.iconst 1, 1) := by decide +kernel
theorem dX8_held_37 : decode cX8_held 37 = .ok (.goto 27, 3) := by decide +kernel
theorem dX8_held_40 : decode cX8_held 40 = .ok (.iload_n 2, 1) := by decide +kernel
theorem dX8_held_41 : decode cX8_held 41 = .ok (.iconst 1, 1) := by decide +kernel
theorem dX8_held_42 : decode cX8_held 42 = .ok (.if_icmp .ne 16, 3) := by decide +kernel
theorem dX8_held_45 : decode cX8_held 45 = .ok (.aload_n 0, 1) := by decide +kernel
theorem dX8_held_46 : decode cX8_held 46 = .ok (.getfield 7, 3) := by decide +kernel
theorem dX8_held_49 : decode cX8_held 49 = .ok (.bipush 81, 2) := by decide +kernel
theorem dX8_held_51 : decode cX8_held 51 = .ok (.iload 4, 2) := by decide +kernel
theorem dX8_held_53 : decode cX8_held 53 = .ok (.iadd, 1) := by decide +kernel
theorem dX8_held_54 : decode cX8_held 54 = .ok (.iaload, 1) := by decide +kernel
theorem dX8_held_55 : decode cX8_held 55 = .ok (.goto 9, 3) := by decide +kernel
theorem dX8_held_58 : decode cX8_held 58 = .ok (.aload_n 0, 1) := by decide +kernel
theorem dX8_held_59 : decode cX8_held 59 = .ok (.iload 4, 2) := by decide +kernel
theorem dX8_held_61 : decode cX8_held 61 = .ok (.invokevirtual 157, 3) := by decide +kernel
theorem dX8_held_64 : decode cX8_held 64 = .ok (.iadd, 1) := by decide +kernel
theorem dX8_held_65 : decode cX8_held 65 = .ok (.istore_n 3, 1) := by decide +kernel
theorem dX8_held_66 : decode cX8_held 66 = .ok (.iinc 4 1, 3) := by decide +kernel
theorem dX8_held_69 : decode cX8_held 69 = .ok (.goto (-64), 3) := by decide +kernel
theorem dX8_held_72 : decode cX8_held 72 = .ok (.iload_n 3, 1) := by decide +kernel
theorem dX8_held_73 : decode cX8_held 73 = .ok (.ireturn, 1) := by decide +kernel
theorem dX8_nameOf_0 : decode cX8_nameOf 0 = .ok (.iload_n 1, 1) := by decide +kernel
theorem dX8_nameOf_1 : decode cX8_nameOf 1 = .ok (.invokestatic 92, 3) := by decide +kernel
theorem dX8_nameOf_4 : decode cX8_nameOf 4 = .ok (.ifCond .ne 9, 3) := by decide +kernel
theorem dX8_nameOf_7 : decode cX8_nameOf 7 = .ok (.aload_n 0, 1) := by decide +kernel
theorem dX8_nameOf_8 : decode cX8_nameOf 8 = .ok (.iconst 1, 1) := by decide +kernel
theorem dX8_nameOf_9 : decode cX8_nameOf 9 = .ok (.invokevirtual 98, 3) := by decide +kernel
theorem dX8_nameOf_12 : decode cX8_nameOf 12 = .ok (.ireturn, 1) := by decide +kernel
theorem dX8_nameOf_13 : decode cX8_nameOf 13 = .ok (.iload_n 2, 1) := by decide +kernel
theorem dX8_nameOf_14 : decode cX8_nameOf 14 = .ok (.iconst 0, 1) := by decide +kernel
theorem dX8_nameOf_15 : decode cX8_nameOf 15 = .ok (.iconst 3, 1) := by decide +kernel
theorem dX8_nameOf_16 : decode cX8_nameOf 16 = .ok (.invokestatic 56, 3) := by decide +kernel
theorem dX8_nameOf_19 : decode cX8_nameOf 19 = .ok (.ifCond .ne 9, 3) := by decide +kernel
theorem dX8_nameOf_22 : decode cX8_nameOf 22 = .ok (.aload_n 0, 1) := by decide +kernel
theorem dX8_nameOf_23 : decode cX8_nameOf 23 = .ok (.iconst 2, 1) := by decide +kernel
theorem dX8_nameOf_24 : decode cX8_nameOf 24 = .ok (.invokevirtual 98, 3) := by decide +kernel
theorem dX8_nameOf_27 : decode cX8_nameOf 27 = .ok (.ireturn, 1) := by decide +kernel
theorem dX8_nameOf_28 : decode cX8_nameOf 28 = .ok (.aload_n 0, 1) := by decide +kernel
theorem dX8_nameOf_29 : decode cX8_nameOf 29 = .ok (.iload_n 2, 1) := by decide +kernel
theorem dX8_nameOf_30 : decode cX8_nameOf 30 = .ok (.iconst 3, 1) := by decide +kernel
theorem dX8_nameOf_31 : decode cX8_nameOf 31 = .ok (.if_icmp .ne 11, 3) := by decide +kernel
theorem dX8_nameOf_34 : decode cX8_nameOf 34 = .ok (.aload_n 0, 1) := by decide +kernel
theorem dX8_nameOf_35 : decode cX8_nameOf 35 = .ok (.iload_n 1, 1) := by decide +kernel
theorem dX8_nameOf_36 : decode cX8_nameOf 36 = .ok (.invokevirtual 139, 3) := by decide +kernel
theorem dX8_nameOf_39 : decode cX8_nameOf 39 = .ok (.goto 9, 3) := by decide +kernel
theorem dX8_nameOf_42 : decode cX8_nameOf 42 = .ok (.aload_n 0, 1) := by decide +kernel
theorem dX8_nameOf_43 : decode cX8_nameOf 43 = .ok (.iload_n 1, 1) := by decide +kernel
theorem dX8_nameOf_44 : decode cX8_nameOf 44 = .ok (.iload_n 2, 1) := by decide +kernel
theorem dX8_nameOf_45 : decode cX8_nameOf 45 = .ok (.invokevirtual 160, 3) := by decide +kernel
theorem dX8_nameOf_48 : decode cX8_nameOf 48 = .ok (.invokevirtual 105, 3) := by decide +kernel
theorem dX8_nameOf_51 : decode cX8_nameOf 51 = .ok (.ireturn, 1) := by decide +kernel
theorem dX8_waitingOf_0 : decode cX8_waitingOf 0 = .ok (.iload_n 1, 1) := by decide +kernel
theorem dX8_waitingOf_1 : decode cX8_waitingOf 1 = .ok (.iconst 0, 1) := by decide +kernel
theorem dX8_waitingOf_2 : decode cX8_waitingOf 2 = .ok (.aload_n 0, 1) := by decide +kernel
theorem dX8_waitingOf_3 : decode cX8_waitingOf 3 = .ok (.getfield 7, 3) := by decide +kernel
theorem dX8_waitingOf_6 : decode cX8_waitingOf 6 = .ok (.bipush 113, 2) := by decide +kernel
theorem dX8_waitingOf_8 : decode cX8_waitingOf 8 = .ok (.iaload, 1) := by decide +kernel
theorem dX8_waitingOf_9 : decode cX8_waitingOf 9 = .ok (.iconst 1, 1) := by decide +kernel
theorem dX8_waitingOf_10 : decode cX8_waitingOf 10 = .ok (.isub, 1) := by decide +kernel
theorem dX8_waitingOf_11 : decode cX8_waitingOf 11 = .ok (.invokestatic 56, 3) := by decide +kernel
theorem dX8_waitingOf_14 : decode cX8_waitingOf 14 = .ok (.ifCond .ne 9, 3) := by decide +kernel
theorem dX8_waitingOf_17 : decode cX8_waitingOf 17 = .ok (.aload_n 0, 1) := by decide +kernel
theorem dX8_waitingOf_18 : decode cX8_waitingOf 18 = .ok (.iconst 1, 1) := by decide +kernel
theorem dX8_waitingOf_19 : decode cX8_waitingOf 19 = .ok (.invokevirtual 98, 3) := by decide +kernel
theorem dX8_waitingOf_22 : decode cX8_waitingOf 22 = .ok (.ireturn, 1) := by decide +kernel
theorem dX8_waitingOf_23 : decode cX8_waitingOf 23 = .ok (.iload_n 2, 1) := by decide +kernel
theorem dX8_waitingOf_24 : decode cX8_waitingOf 24 = .ok (.iconst 0, 1) := by decide +kernel
theorem dX8_waitingOf_25 : decode cX8_waitingOf 25 = .ok (.iconst 1, 1) := by decide +kernel
theorem dX8_waitingOf_26 : decode cX8_waitingOf 26 = .ok (.invokestatic 56, 3) := by decide +kernel
theorem dX8_waitingOf_29 : decode cX8_waitingOf 29 = .ok (.ifCond .eq 28, 3) := by decide +kernel
theorem dX8_waitingOf_32 : decode cX8_waitingOf 32 = .ok (.aload_n 0, 1) := by decide +kernel
theorem dX8_waitingOf_33 : decode cX8_waitingOf 33 = .ok (.aload_n 0, 1) := by decide +kernel
theorem dX8_waitingOf_34 : decode cX8_waitingOf 34 = .ok (.getfield 7, 3) := by decide +kernel
theorem dX8_waitingOf_37 : decode cX8_waitingOf 37 = .ok (.iload_n 2, 1) := by decide +kernel
theorem dX8_waitingOf_38 : decode cX8_waitingOf 38 = .ok (.ifCond .ne 8, 3) := by decide +kernel
theorem dX8_waitingOf_41 : decode cX8_waitingOf 41 = .ok (.bipush 114, 2) := by decide +kernel
theorem dX8_waitingOf_43 : decode cX8_waitingOf 43 = .ok (.goto 5, 3) := by decide +kernel
theorem dX8_waitingOf_46 : decode cX8_waitingOf 46 = .ok (.bipush 120, 2) := by decide +kernel
theorem dX8_waitingOf_48 : decode cX8_waitingOf 48 = .ok (.iload_n 1, 1) := by decide +kernel
theorem dX8_waitingOf_49 : decode cX8_waitingOf 49 = .ok (.iadd, 1) := by decide +kernel
theorem dX8_waitingOf_50 : decode cX8_waitingOf 50 = .ok (.iaload, 1) := by decide +kernel
theorem dX8_waitingOf_51 : decode cX8_waitingOf 51 = .ok (.invokevirtual 105, 3) := by decide +kernel
theorem dX8_waitingOf_54 : decode cX8_waitingOf 54 = .ok (.goto 8, 3) := by decide +kernel
theorem dX8_waitingOf_57 : decode cX8_waitingOf 57 = .ok (.aload_n 0, 1) := by decide +kernel
theorem dX8_waitingOf_58 : decode cX8_waitingOf 58 = .ok (.iconst 2, 1) := by decide +kernel
theorem dX8_waitingOf_59 : decode cX8_waitingOf 59 = .ok (.invokevirtual 98, 3) := by decide +kernel
theorem dX8_waitingOf_62 : decode cX8_waitingOf 62 = .ok (.ireturn, 1) := by decide +kernel
theorem dX8_startOf_0 : decode cX8_startOf 0 = .ok (.iload_n 1, 1) := by decide +kernel
theorem dX8_startOf_1 : decode cX8_startOf 1 = .ok (.istore_n 2, 1) := by decide +kernel
theorem dX8_startOf_2 : decode cX8_startOf 2 = .ok (.aload_n 0, 1) := by decide +kernel
theorem dX8_startOf_3 : decode cX8_startOf 3 = .ok (.getfield 7, 3) := by decide +kernel
theorem dX8_startOf_6 : decode cX8_startOf 6 = .ok (.iload_n 2, 1) := by decide +kernel
theorem dX8_startOf_7 : decode cX8_startOf 7 = .ok (.iaload, 1) := by decide +kernel
theorem dX8_startOf_8 : decode cX8_startOf 8 = .ok (.ifCond .ne 9, 3) := by decide +kernel
theorem dX8_startOf_11 : decode cX8_startOf 11 = .ok (.iinc 2 (-1), 3) := by decide +kernel
theorem dX8_startOf_14 : decode cX8_startOf 14 = .ok (.goto (-12), 3) := by decide +kernel
theorem dX8_startOf_17 : decode cX8_startOf 17 = .ok (.iload_n 2, 1) := by decide +kernel
theorem dX8_startOf_18 : decode cX8_startOf 18 = .ok (.ireturn, 1) := by decide +kernel
theorem dX8_pieceOf_0 : decode cX8_pieceOf 0 = .ok (.iload_n 1, 1) := by decide +kernel
theorem dX8_pieceOf_1 : decode cX8_pieceOf 1 = .ok (.iconst 0, 1) := by decide +kernel
theorem dX8_pieceOf_2 : decode cX8_pieceOf 2 = .ok (.bipush 63, 2) := by decide +kernel
theorem dX8_pieceOf_4 : decode cX8_pieceOf 4 = .ok (.invokestatic 56, 3) := by decide +kernel
theorem dX8_pieceOf_7 : decode cX8_pieceOf 7 = .ok (.ifCond .ne 9, 3) := by decide +kernel
theorem dX8_pieceOf_10 : decode cX8_pieceOf 10 = .ok (.aload_n 0, 1) := by decide +kernel
theorem dX8_pieceOf_11 : decode cX8_pieceOf 11 = .ok (.iconst 1, 1) := by decide +kernel
theorem dX8_pieceOf_12 : decode cX8_pieceOf 12 = .ok (.invokevirtual 98, 3) := by decide +kernel
theorem dX8_pieceOf_15 : decode cX8_pieceOf 15 = .ok (.ireturn, 1) := by decide +kernel
theorem dX8_pieceOf_16 : decode cX8_pieceOf 16 = .ok (.aload_n 0, 1) := by decide +kernel
theorem dX8_pieceOf_17 : decode cX8_pieceOf 17 = .ok (.iload_n 1, 1) := by decide +kernel
theorem dX8_pieceOf_18 : decode cX8_pieceOf 18 = .ok (.invokevirtual 163, 3) := by decide +kernel
theorem dX8_pieceOf_21 : decode cX8_pieceOf 21 = .ok (.istore_n 3, 1) := by decide +kernel
theorem dX8_pieceOf_22 : decode cX8_pieceOf 22 = .ok (.iload_n 2, 1) := by decide +kernel
theorem dX8_pieceOf_23 : decode cX8_pieceOf 23 = .ok (.tableswitch 84 0 3 #[29, 40, 46, 56], 29) := by decide +kernel
theorem dX8_pieceOf_52 : decode cX8_pieceOf 52 = .ok (.aload_n 0, 1) := by decide +kernel
theorem dX8_pieceOf_53 : decode cX8_pieceOf 53 = .ok (.aload_n 0, 1) := by decide +kernel
theorem dX8_pieceOf_54 : decode cX8_pieceOf 54 = .ok (.getfield 7, 3) := by decide +kernel
theorem dX8_pieceOf_57 : decode cX8_pieceOf 57 = .ok (.iload_n 3, 1) := by decide +kernel
theorem dX8_pieceOf_58 : decode cX8_pieceOf 58 = .ok (.iaload, 1) := by decide +kernel
theorem dX8_pieceOf_59 : decode cX8_pieceOf 59 = .ok (.invokevirtual 105, 3) := by decide +kernel
theorem dX8_pieceOf_62 : decode cX8_pieceOf 62 = .ok (.ireturn, 1) := by decide +kernel
theorem dX8_pieceOf_63 : decode cX8_pieceOf 63 = .ok (.aload_n 0, 1) := by decide +kernel
theorem dX8_pieceOf_64 : decode cX8_pieceOf 64 = .ok (.iload_n 3, 1) := by decide +kernel
theorem dX8_pieceOf_65 : decode cX8_pieceOf 65 = .ok (.invokevirtual 105, 3) := by decide +kernel
theorem dX8_pieceOf_68 : decode cX8_pieceOf 68 = .ok (.ireturn, 1) := by decide +kernel
theorem dX8_pieceOf_69 : decode cX8_pieceOf 69 = .ok (.aload_n 0, 1) := by decide +kernel
theorem dX8_pieceOf_70 : decode cX8_pieceOf 70 = .ok (.aload_n 0, 1) := by decide +kernel
theorem dX8_pieceOf_71 : decode cX8_pieceOf 71 = .ok (.iload_n 3, 1) := by decide +kernel
theorem dX8_pieceOf_72 : decode cX8_pieceOf 72 = .ok (.invokevirtual 60, 3) := by decide +kernel
theorem dX8_pieceOf_75 : decode cX8_pieceOf 75 = .ok (.invokevirtual 105, 3) := by decide +kernel
theorem dX8_pieceOf_78 : decode cX8_pieceOf 78 = .ok (.ireturn, 1) := by decide +kernel
theorem dX8_pieceOf_79 : decode cX8_pieceOf 79 = .ok (.aload_n 0, 1) := by decide +kernel
theorem dX8_pieceOf_80 : decode cX8_pieceOf 80 = .ok (.aload_n 0, 1) := by decide +kernel
theorem dX8_pieceOf_81 : decode cX8_pieceOf 81 = .ok (.getfield 7, 3) := by decide +kernel
theorem dX8_pieceOf_84 : decode cX8_pieceOf 84 = .ok (.iload_n 3, 1) := by decide +kernel
theorem dX8_pieceOf_85 : decode cX8_pieceOf 85 = .ok (.iaload, 1) := by decide +kernel
theorem dX8_pieceOf_86 : decode cX8_pieceOf 86 = .ok (.bipush 64, 2) := by decide +kernel
theorem dX8_pieceOf_88 : decode cX8_pieceOf 88 = .ok (.if_icmp .ne 7, 3) := by decide +kernel
theorem dX8_pieceOf_91 : decode cX8_pieceOf 91 = .ok (.iconst (-1), 1) := by decide +kernel
theorem dX8_pieceOf_92 : decode cX8_pieceOf 92 = .ok (.goto 11, 3) := by decide +kernel
theorem dX8_pieceOf_95 : decode cX8_pieceOf 95 = .ok (.iload_n 3, 1) := by decide +kernel
theorem dX8_pieceOf_96 : decode cX8_pieceOf 96 = .ok (.aload_n 0, 1) := by decide +kernel
theorem dX8_pieceOf_97 : decode cX8_pieceOf 97 = .ok (.getfield 7, 3) := by decide +kernel
theorem dX8_pieceOf_100 : decode cX8_pieceOf 100 = .ok (.iload_n 3, 1) := by decide +kernel
theorem dX8_pieceOf_101 : decode cX8_pieceOf 101 = .ok (.iaload, 1) := by decide +kernel
theorem dX8_pieceOf_102 : decode cX8_pieceOf 102 = .ok (.ixor, 1) := by decide +kernel
theorem dX8_pieceOf_103 : decode cX8_pieceOf 103 = .ok (.invokevirtual 105, 3) := by decide +kernel
theorem dX8_pieceOf_106 : decode cX8_pieceOf 106 = .ok (.ireturn, 1) := by decide +kernel
theorem dX8_pieceOf_107 : decode cX8_pieceOf 107 = .ok (.aload_n 0, 1) := by decide +kernel
theorem dX8_pieceOf_108 : decode cX8_pieceOf 108 = .ok (.iconst 2, 1) := by decide +kernel
theorem dX8_pieceOf_109 : decode cX8_pieceOf 109 = .ok (.invokevirtual 98, 3) := by decide +kernel
theorem dX8_pieceOf_112 : decode cX8_pieceOf 112 = .ok (.ireturn, 1) := by decide +kernel
theorem dX8_freeOf_0 : decode cX8_freeOf 0 = .ok (.iconst 0, 1) := by decide +kernel
theorem dX8_freeOf_1 : decode cX8_freeOf 1 = .ok (.istore_n 2, 1) := by decide +kernel
theorem dX8_freeOf_2 : decode cX8_freeOf 2 = .ok (.iconst 0, 1) := by decide +kernel
theorem dX8_freeOf_3 : decode cX8_freeOf 3 = .ok (.istore_n 3, 1) := by decide +kernel
theorem dX8_freeOf_4 : decode cX8_freeOf 4 = .ok (.iload_n 3, 1) := by decide +kernel
theorem dX8_freeOf_5 : decode cX8_freeOf 5 = .ok (.bipush 64, 2) := by decide +kernel
theorem dX8_freeOf_7 : decode cX8_freeOf 7 = .ok (.if_icmp .ge 35, 3) := by decide +kernel
theorem dX8_freeOf_10 : decode cX8_freeOf 10 = .ok (.iload_n 2, 1) := by decide +kernel
theorem dX8_freeOf_11 : decode cX8_freeOf 11 = .ok (.aload_n 0, 1) := by decide +kernel
theorem dX8_freeOf_12 : decode cX8_freeOf 12 = .ok (.iload_n 3, 1) := by decide +kernel
theorem dX8_freeOf_13 : decode cX8_freeOf 13 = .ok (.invokevirtual 64, 3) := by decide +kernel
theorem dX8_freeOf_16 : decode cX8_freeOf 16 = .ok (.ifCond .eq 17, 3) := by decide +kernel
theorem dX8_freeOf_19 : decode cX8_freeOf 19 = .ok (.aload_n 0, 1) := by decide +kernel
theorem dX8_freeOf_20 : decode cX8_freeOf 20 = .ok (.getfield 7, 3) := by decide +kernel
theorem dX8_freeOf_23 : decode cX8_freeOf 23 = .ok (.iload_n 3, 1) := by decide +kernel
theorem dX8_freeOf_24 : decode cX8_freeOf 24 = .ok (.iaload, 1) := by decide +kernel
theorem dX8_freeOf_25 : decode cX8_freeOf 25 = .ok (.iload_n 1, 1) := by decide +kernel
theorem dX8_freeOf_26 : decode cX8_freeOf 26 = .ok (.if_icmp .ne 7, 3) := by decide +kernel
theorem dX8_freeOf_29 : decode cX8_freeOf 29 = .ok (.iconst 1, 1) := by decide +kernel
theorem dX8_freeOf_30 : decode cX8_freeOf 30 = .ok (.goto 4, 3) := by decide +kernel
theorem dX8_freeOf_33 : decode cX8_freeOf 33 = .ok (.iconst 0, 1) := by decide +kernel
theorem dX8_freeOf_34 : decode cX8_freeOf 34 = .ok (.iadd, 1) := by decide +kernel
theorem dX8_freeOf_35 : decode cX8_freeOf 35 = .ok (.istore_n 2, 1) := by decide +kernel
theorem dX8_freeOf_36 : decode cX8_freeOf 36 = .ok (.iinc 3 1, 3) := by decide +kernel
theorem dX8_freeOf_39 : decode cX8_freeOf 39 = .ok (.goto (-35), 3) := by decide +kernel
theorem dX8_freeOf_42 : decode cX8_freeOf 42 = .ok (.iload_n 2, 1) := by decide +kernel
theorem dX8_freeOf_43 : decode cX8_freeOf 43 = .ok (.ireturn, 1) := by decide +kernel
theorem dX8_free_0 : decode cX8_free 0 = .ok (.iload_n 1, 1) := by decide +kernel
theorem dX8_free_1 : decode cX8_free 1 = .ok (.invokestatic 95, 3) := by decide +kernel
theorem dX8_free_4 : decode cX8_free 4 = .ok (.ifCond .eq 23, 3) := by decide +kernel
theorem dX8_free_7 : decode cX8_free 7 = .ok (.iload_n 1, 1) := by decide +kernel
theorem dX8_free_8 : decode cX8_free 8 = .ok (.invokestatic 72, 3) := by decide +kernel
theorem dX8_free_11 : decode cX8_free 11 = .ok (.iload_n 1, 1) := by decide +kernel
theorem dX8_free_12 : decode cX8_free 12 = .ok (.if_icmp .ne 15, 3) := by decide +kernel
theorem dX8_free_15 : decode cX8_free 15 = .ok (.aload_n 0, 1) := by decide +kernel
theorem dX8_free_16 : decode cX8_free 16 = .ok (.aload_n 0, 1) := by decide +kernel
theorem dX8_free_17 : decode cX8_free 17 = .ok (.iload_n 1, 1) := by decide +kernel
theorem dX8_free_18 : decode cX8_free 18 = .ok (.invokevirtual 166, 3) := by decide +kernel
theorem dX8_free_21 : decode cX8_free 21 = .ok (.invokevirtual 105, 3) := by decide +kernel
theorem dX8_free_24 : decode cX8_free 24 = .ok (.goto 8, 3) := by decide +kernel
theorem dX8_free_27 : decode cX8_free 27 = .ok (.aload_n 0, 1) := by decide +kernel
theorem dX8_free_28 : decode cX8_free 28 = .ok (.iconst 1, 1) := by decide +kernel
theorem dX8_free_29 : decode cX8_free 29 = .ok (.invokevirtual 98, 3) := by decide +kernel
theorem dX8_free_32 : decode cX8_free 32 = .ok (.ireturn, 1) := by decide +kernel
theorem dX8_greatest_0 : decode cX8_greatest 0 = .ok (.aload_n 0, 1) := by decide +kernel
theorem dX8_greatest_1 : decode cX8_greatest 1 = .ok (.invokevirtual 108, 3) := by decide +kernel
theorem dX8_greatest_4 : decode cX8_greatest 4 = .ok (.ifCond .ne 11, 3) := by decide +kernel
theorem dX8_greatest_7 : decode cX8_greatest 7 = .ok (.aload_n 0, 1) := by decide +kernel
theorem dX8_greatest_8 : decode cX8_greatest 8 = .ok (.iconst 1, 1) := by decide +kernel
theorem dX8_greatest_9 : decode cX8_greatest 9 = .ok (.invokevirtual 98, 3) := by decide +kernel
theorem dX8_greatest_12 : decode cX8_greatest 12 = .ok (.goto 11, 3) := by decide +kernel
theorem dX8_greatest_15 : decode cX8_greatest 15 = .ok (.aload_n 0, 1) := by decide +kernel
theorem dX8_greatest_16 : decode cX8_greatest 16 = .ok (.aload_n 0, 1) := by decide +kernel
theorem dX8_greatest_17 : decode cX8_greatest 17 = .ok (.invokevirtual 108, 3) := by decide +kernel
theorem dX8_greatest_20 : decode cX8_greatest 20 = .ok (.invokevirtual 105, 3) := by decide +kernel
theorem dX8_greatest_23 : decode cX8_greatest 23 = .ok (.ireturn, 1) := by decide +kernel
theorem dX8_would_0 : decode cX8_would 0 = .ok (.iload_n 1, 1) := by decide +kernel
theorem dX8_would_1 : decode cX8_would 1 = .ok (.invokestatic 95, 3) := by decide +kernel
theorem dX8_would_4 : decode cX8_would 4 = .ok (.ifCond .ne 9, 3) := by decide +kernel
theorem dX8_would_7 : decode cX8_would 7 = .ok (.aload_n 0, 1) := by decide +kernel
theorem dX8_would_8 : decode cX8_would 8 = .ok (.iconst 1, 1) := by decide +kernel
theorem dX8_would_9 : decode cX8_would 9 = .ok (.invokevirtual 98, 3) := by decide +kernel
theorem dX8_would_12 : decode cX8_would 12 = .ok (.ireturn, 1) := by decide +kernel
theorem dX8_would_13 : decode cX8_would 13 = .ok (.iload_n 1, 1) := by decide +kernel
theorem dX8_would_14 : decode cX8_would 14 = .ok (.invokestatic 72, 3) := by decide +kernel
theorem dX8_would_17 : decode cX8_would 17 = .ok (.istore_n 2, 1) := by decide +kernel
theorem dX8_would_18 : decode cX8_would 18 = .ok (.aload_n 0, 1) := by decide +kernel
theorem dX8_would_19 : decode cX8_would 19 = .ok (.iload_n 2, 1) := by decide +kernel
theorem dX8_would_20 : decode cX8_would 20 = .ok (.invokevirtual 75, 3) := by decide +kernel
theorem dX8_would_23 : decode cX8_would 23 = .ok (.istore_n 3, 1) := by decide +kernel
theorem dX8_would_24 : decode cX8_would 24 = .ok (.iload_n 3, 1) := by decide +kernel
theorem dX8_would_25 : decode cX8_would 25 = .ok (.iconst (-1), 1) := by decide +kernel
theorem dX8_would_26 : decode cX8_would 26 = .ok (.if_icmp .ne 11, 3) := by decide +kernel
theorem dX8_would_29 : decode cX8_would 29 = .ok (.aload_n 0, 1) := by decide +kernel
theorem dX8_would_30 : decode cX8_would 30 = .ok (.iconst 2, 1) := by decide +kernel
theorem dX8_would_31 : decode cX8_would 31 = .ok (.invokevirtual 98, 3) := by decide +kernel
theorem dX8_would_34 : decode cX8_would 34 = .ok (.goto 32, 3) := by decide +kernel
theorem dX8_would_37 : decode cX8_would 37 = .ok (.aload_n 0, 1) := by decide +kernel
theorem dX8_would_38 : decode cX8_would 38 = .ok (.aload_n 0, 1) := by decide +kernel
theorem dX8_would_39 : decode cX8_would 39 = .ok (.getfield 7, 3) := by decide +kernel
theorem dX8_would_42 : decode cX8_would 42 = .ok (.bipush 126, 2) := by decide +kernel
theorem dX8_would_44 : decode cX8_would 44 = .ok (.iaload, 1) := by decide +kernel
theorem dX8_would_45 : decode cX8_would 45 = .ok (.iconst 1, 1) := by decide +kernel
theorem dX8_would_46 : decode cX8_would 46 = .ok (.if_icmp .ne 16, 3) := by decide +kernel
theorem dX8_would_49 : decode cX8_would 49 = .ok (.iload_n 3, 1) := by decide +kernel
theorem dX8_would_50 : decode cX8_would 50 = .ok (.aload_n 0, 1) := by decide +kernel
theorem dX8_would_51 : decode cX8_would 51 = .ok (.getfield 7, 3) := by decide +kernel
theorem dX8_would_54 : decode cX8_would 54 = .ok (.iload_n 3, 1) := by decide +kernel
theorem dX8_would_55 : decode cX8_would 55 = .ok (.iaload, 1) := by decide +kernel
theorem dX8_would_56 : decode cX8_would 56 = .ok (.iadd, 1) := by decide +kernel
theorem dX8_would_57 : decode cX8_would 57 = .ok (.iload_n 2, 1) := by decide +kernel
theorem dX8_would_58 : decode cX8_would 58 = .ok (.isub, 1) := by decide +kernel
theorem dX8_would_59 : decode cX8_would 59 = .ok (.goto 4, 3) := by decide +kernel
theorem dX8_would_62 : decode cX8_would 62 = .ok (.iload_n 3, 1) := by decide +kernel
theorem dX8_would_63 : decode cX8_would 63 = .ok (.invokevirtual 105, 3) := by decide +kernel
theorem dX8_would_66 : decode cX8_would 66 = .ok (.ireturn, 1) := by decide +kernel
theorem dX8_cuts_0 : decode cX8_cuts 0 = .ok (.iload_n 1, 1) := by decide +kernel
theorem dX8_cuts_1 : decode cX8_cuts 1 = .ok (.invokestatic 95, 3) := by decide +kernel
theorem dX8_cuts_4 : decode cX8_cuts 4 = .ok (.ifCond .ne 9, 3) := by decide +kernel
theorem dX8_cuts_7 : decode cX8_cuts 7 = .ok (.aload_n 0, 1) := by decide +kernel
theorem dX8_cuts_8 : decode cX8_cuts 8 = .ok (.iconst 1, 1) := by decide +kernel
theorem dX8_cuts_9 : decode cX8_cuts 9 = .ok (.invokevirtual 98, 3) := by decide +kernel
theorem dX8_cuts_12 : decode cX8_cuts 12 = .ok (.ireturn, 1) := by decide +kernel
theorem dX8_cuts_13 : decode cX8_cuts 13 = .ok (.aload_n 0, 1) := by decide +kernel
theorem dX8_cuts_14 : decode cX8_cuts 14 = .ok (.iload_n 1, 1) := by decide +kernel
theorem dX8_cuts_15 : decode cX8_cuts 15 = .ok (.invokestatic 72, 3) := by decide +kernel
theorem dX8_cuts_18 : decode cX8_cuts 18 = .ok (.invokevirtual 75, 3) := by decide +kernel
theorem dX8_cuts_21 : decode cX8_cuts 21 = .ok (.istore_n 2, 1) := by decide +kernel
theorem dX8_cuts_22 : decode cX8_cuts 22 = .ok (.iload_n 2, 1) := by decide +kernel
theorem dX8_cuts_23 : decode cX8_cuts 23 = .ok (.iconst (-1), 1) := by decide +kernel
theorem dX8_cuts_24 : decode cX8_cuts 24 = .ok (.if_icmp .ne 9, 3) := by decide +kernel
theorem dX8_cuts_27 : decode cX8_cuts 27 = .ok (.aload_n 0, 1) := by decide +kernel
theorem dX8_cuts_28 : decode cX8_cuts 28 = .ok (.iconst 2, 1) := by decide +kernel
theorem dX8_cuts_29 : decode cX8_cuts 29 = .ok (.invokevirtual 98, 3) := by decide +kernel
theorem dX8_cuts_32 : decode cX8_cuts 32 = .ok (.ireturn, 1) := by decide +kernel
theorem dX8_cuts_33 : decode cX8_cuts 33 = .ok (.iconst 0, 1) := by decide +kernel
theorem dX8_cuts_34 : decode cX8_cuts 34 = .ok (.istore_n 3, 1) := by decide +kernel
theorem dX8_cuts_35 : decode cX8_cuts 35 = .ok (.aload_n 0, 1) := by decide +kernel
theorem dX8_cuts_36 : decode cX8_cuts 36 = .ok (.getfield 7, 3) := by decide +kernel
theorem dX8_cuts_39 : decode cX8_cuts 39 = .ok (.iload_n 2, 1) := by decide +kernel
theorem dX8_cuts_40 : decode cX8_cuts 40 = .ok (.iaload, 1) := by decide +kernel
theorem dX8_cuts_41 : decode cX8_cuts 41 = .ok (.istore 4, 2) := by decide +kernel
theorem dX8_cuts_43 : decode cX8_cuts 43 = .ok (.iload 4, 2) := by decide +kernel
theorem dX8_cuts_45 : decode cX8_cuts 45 = .ok (.iload_n 1, 1) := by decide +kernel
theorem dX8_cuts_46 : decode cX8_cuts 46 = .ok (.invokestatic 72, 3) := by decide +kernel
theorem dX8_cuts_49 : decode cX8_cuts 49 = .ok (.if_icmp .le 15, 3) := by decide +kernel
theorem dX8_cuts_52 : decode cX8_cuts 52 = .ok (.iinc 3 1, 3) := by decide +kernel
theorem dX8_cuts_55 : decode cX8_cuts 55 = .ok (.iload 4, 2) := by decide +kernel
theorem dX8_cuts_57 : decode cX8_cuts 57 = .ok (.iconst 2, 1) := by decide +kernel
theorem dX8_cuts_58 : decode cX8_cuts 58 = .ok (.idiv, 1) := by decide +kernel
theorem dX8_cuts_59 : decode cX8_cuts 59 = .ok (.istore 4, 2) := by decide +kernel
theorem dX8_cuts_61 : decode cX8_cuts 61 = .ok (.goto (-18), 3) := by decide +kernel
theorem dX8_cuts_64 : decode cX8_cuts 64 = .ok (.aload_n 0, 1) := by decide +kernel
theorem dX8_cuts_65 : decode cX8_cuts 65 = .ok (.iload_n 3, 1) := by decide +kernel
theorem dX8_cuts_66 : decode cX8_cuts 66 = .ok (.invokevirtual 105, 3) := by decide +kernel
theorem dX8_cuts_69 : decode cX8_cuts 69 = .ok (.ireturn, 1) := by decide +kernel
theorem dX8_fits_0 : decode cX8_fits 0 = .ok (.iload_n 1, 1) := by decide +kernel
theorem dX8_fits_1 : decode cX8_fits 1 = .ok (.invokestatic 95, 3) := by decide +kernel
theorem dX8_fits_4 : decode cX8_fits 4 = .ok (.ifCond .ne 9, 3) := by decide +kernel
theorem dX8_fits_7 : decode cX8_fits 7 = .ok (.aload_n 0, 1) := by decide +kernel
theorem dX8_fits_8 : decode cX8_fits 8 = .ok (.iconst 1, 1) := by decide +kernel
theorem dX8_fits_9 : decode cX8_fits 9 = .ok (.invokevirtual 98, 3) := by decide +kernel
theorem dX8_fits_12 : decode cX8_fits 12 = .ok (.ireturn, 1) := by decide +kernel
theorem dX8_fits_13 : decode cX8_fits 13 = .ok (.iconst 0, 1) := by decide +kernel
theorem dX8_fits_14 : decode cX8_fits 14 = .ok (.istore_n 2, 1) := by decide +kernel
theorem dX8_fits_15 : decode cX8_fits 15 = .ok (.iconst 0, 1) := by decide +kernel
theorem dX8_fits_16 : decode cX8_fits 16 = .ok (.istore_n 3, 1) := by decide +kernel
theorem dX8_fits_17 : decode cX8_fits 17 = .ok (.iload_n 3, 1) := by decide +kernel
theorem dX8_fits_18 : decode cX8_fits 18 = .ok (.bipush 64, 2) := by decide +kernel
theorem dX8_fits_20 : decode cX8_fits 20 = .ok (.if_icmp .ge 35, 3) := by decide +kernel
theorem dX8_fits_23 : decode cX8_fits 23 = .ok (.iload_n 2, 1) := by decide +kernel
theorem dX8_fits_24 : decode cX8_fits 24 = .ok (.aload_n 0, 1) := by decide +kernel
theorem dX8_fits_25 : decode cX8_fits 25 = .ok (.iload_n 3, 1) := by decide +kernel
theorem dX8_fits_26 : decode cX8_fits 26 = .ok (.invokevirtual 64, 3) := by decide +kernel
theorem dX8_fits_29 : decode cX8_fits 29 = .ok (.ifCond .eq 17, 3) := by decide +kernel
theorem dX8_fits_32 : decode cX8_fits 32 = .ok (.aload_n 0, 1) := by decide +kernel
theorem dX8_fits_33 : decode cX8_fits 33 = .ok (.getfield 7, 3) := by decide +kernel
theorem dX8_fits_36 : decode cX8_fits 36 = .ok (.iload_n 3, 1) := by decide +kernel
theorem dX8_fits_37 : decode cX8_fits 37 = .ok (.iaload, 1) := by decide +kernel
theorem dX8_fits_38 : decode cX8_fits 38 = .ok (.iload_n 1, 1) := by decide +kernel
theorem dX8_fits_39 : decode cX8_fits 39 = .ok (.invokestatic 72, 3) := by decide +kernel
theorem dX8_fits_42 : decode cX8_fits 42 = .ok (.idiv, 1) := by decide +kernel
theorem dX8_fits_43 : decode cX8_fits 43 = .ok (.goto 4, 3) := by decide +kernel
theorem dX8_fits_46 : decode cX8_fits 46 = .ok (.iconst 0, 1) := by decide +kernel
theorem dX8_fits_47 : decode cX8_fits 47 = .ok (.iadd, 1) := by decide +kernel
theorem dX8_fits_48 : decode cX8_fits 48 = .ok (.istore_n 2, 1) := by decide +kernel
theorem dX8_fits_49 : decode cX8_fits 49 = .ok (.iinc 3 1, 3) := by decide +kernel
theorem dX8_fits_52 : decode cX8_fits 52 = .ok (.goto (-35), 3) := by decide +kernel
theorem dX8_fits_55 : decode cX8_fits 55 = .ok (.aload_n 0, 1) := by decide +kernel
theorem dX8_fits_56 : decode cX8_fits 56 = .ok (.iload_n 2, 1) := by decide +kernel
theorem dX8_fits_57 : decode cX8_fits 57 = .ok (.invokevirtual 105, 3) := by decide +kernel
theorem dX8_fits_60 : decode cX8_fits 60 = .ok (.ireturn, 1) := by decide +kernel
theorem dX8_hole_0 : decode cX8_hole 0 = .ok (.iconst 0, 1) := by decide +kernel
theorem dX8_hole_1 : decode cX8_hole 1 = .ok (.istore_n 2, 1) := by decide +kernel
theorem dX8_hole_2 : decode cX8_hole 2 = .ok (.iconst 0, 1) := by decide +kernel
theorem dX8_hole_3 : decode cX8_hole 3 = .ok (.istore_n 3, 1) := by decide +kernel
theorem dX8_hole_4 : decode cX8_hole 4 = .ok (.iload_n 3, 1) := by decide +kernel
theorem dX8_hole_5 : decode cX8_hole 5 = .ok (.bipush 64, 2) := by decide +kernel
theorem dX8_hole_7 : decode cX8_hole 7 = .ok (.if_icmp .ge 31, 3) := by decide +kernel
theorem dX8_hole_10 : decode cX8_hole 10 = .ok (.aload_n 0, 1) := by decide +kernel
theorem dX8_hole_11 : decode cX8_hole 11 = .ok (.iload_n 3, 1) := by decide +kernel
theorem dX8_hole_12 : decode cX8_hole 12 = .ok (.invokevirtual 64, 3) := by decide +kernel
theorem dX8_hole_15 : decode cX8_hole 15 = .ok (.ifCond .eq 17, 3) := by decide +kernel
theorem dX8_hole_18 : decode cX8_hole 18 = .ok (.iload_n 2, 1) := by decide +kernel
theorem dX8_hole_19 : decode cX8_hole 19 = .ok (.iload_n 1, 1) := by decide +kernel
theorem dX8_hole_20 : decode cX8_hole 20 = .ok (.if_icmp .ne 9, 3) := by decide +kernel
theorem dX8_hole_23 : decode cX8_hole 23 = .ok (.aload_n 0, 1) := by decide +kernel
theorem dX8_hole_24 : decode cX8_hole 24 = .ok (.iload_n 3, 1) := by decide +kernel
theorem dX8_hole_25 : decode cX8_hole 25 = .ok (.invokevirtual 105, 3) := by decide +kernel
theorem dX8_hole_28 : decode cX8_hole 28 = .ok (.ireturn, 1) := by decide +kernel
theorem dX8_hole_29 : decode cX8_hole 29 = .ok (.iinc 2 1, 3) := by decide +kernel
theorem dX8_hole_32 : decode cX8_hole 32 = .ok (.iinc 3 1, 3) := by decide +kernel
theorem dX8_hole_35 : decode cX8_hole 35 = .ok (.goto (-31), 3) := by decide +kernel
theorem dX8_hole_38 : decode cX8_hole 38 = .ok (.aload_n 0, 1) := by decide +kernel
theorem dX8_hole_39 : decode cX8_hole 39 = .ok (.iconst 1, 1) := by decide +kernel
theorem dX8_hole_40 : decode cX8_hole 40 = .ok (.invokevirtual 98, 3) := by decide +kernel
theorem dX8_hole_43 : decode cX8_hole 43 = .ok (.ireturn, 1) := by decide +kernel
theorem dX8_loansIn_0 : decode cX8_loansIn 0 = .ok (.iconst 0, 1) := by decide +kernel
theorem dX8_loansIn_1 : decode cX8_loansIn 1 = .ok (.istore_n 3, 1) := by decide +kernel
theorem dX8_loansIn_2 : decode cX8_loansIn 2 = .ok (.iconst 0, 1) := by decide +kernel
theorem dX8_loansIn_3 : decode cX8_loansIn 3 = .ok (.istore 4, 2) := by decide +kernel
theorem dX8_loansIn_5 : decode cX8_loansIn 5 = .ok (.iload 4, 2) := by decide +kernel
theorem dX8_loansIn_7 : decode cX8_loansIn 7 = .ok (.aload_n 0, 1) := by decide +kernel
theorem dX8_loansIn_8 : decode cX8_loansIn 8 = .ok (.getfield 7, 3) := by decide +kernel
theorem dX8_loansIn_11 : decode cX8_loansIn 11 = .ok (.bipush 64, 2) := by decide +kernel
theorem dX8_loansIn_13 : decode cX8_loansIn 13 = .ok (.iaload, 1) := by decide +kernel
theorem dX8_loansIn_14 : decode cX8_loansIn 14 = .ok (.if_icmp .ge 51, 3) := by decide +kernel
theorem dX8_loansIn_17 : decode cX8_loansIn 17 = .ok (.aload_n 0, 1) := by decide +kernel
theorem dX8_loansIn_18 : decode cX8_loansIn 18 = .ok (.getfield 7, 3) := by decide +kernel
theorem dX8_loansIn_21 : decode cX8_loansIn 21 = .ok (.bipush 97, 2) := by decide +kernel
theorem dX8_loansIn_23 : decode cX8_loansIn 23 = .ok (.iload 4, 2) := by decide +kernel
theorem dX8_loansIn_25 : decode cX8_loansIn 25 = .ok (.iadd, 1) := by decide +kernel
theorem dX8_loansIn_26 : decode cX8_loansIn 26 = .ok (.iaload, 1) := by decide +kernel
theorem dX8_loansIn_27 : decode cX8_loansIn 27 = .ok (.istore 5, 2) := by decide +kernel
theorem dX8_loansIn_29 : decode cX8_loansIn 29 = .ok (.iload_n 3, 1) := by decide +kernel
theorem dX8_loansIn_30 : decode cX8_loansIn 30 = .ok (.iload 5, 2) := by decide +kernel
theorem dX8_loansIn_32 : decode cX8_loansIn 32 = .ok (.iload_n 1, 1) := by decide +kernel
theorem dX8_loansIn_33 : decode cX8_loansIn 33 = .ok (.iload_n 2, 1) := by decide +kernel
theorem dX8_loansIn_34 : decode cX8_loansIn 34 = .ok (.iadd, 1) := by decide +kernel
theorem dX8_loansIn_35 : decode cX8_loansIn 35 = .ok (.if_icmp .ge 21, 3) := by decide +kernel
theorem dX8_loansIn_38 : decode cX8_loansIn 38 = .ok (.iload_n 1, 1) := by decide +kernel
theorem dX8_loansIn_39 : decode cX8_loansIn 39 = .ok (.iload 5, 2) := by decide +kernel
theorem dX8_loansIn_41 : decode cX8_loansIn 41 = .ok (.aload_n 0, 1) := by decide +kernel
theorem dX8_loansIn_42 : decode cX8_loansIn 42 = .ok (.getfield 7, 3) := by decide +kernel
theorem dX8_loansIn_45 : decode cX8_loansIn 45 = .ok (.iload 5, 2) := by decide +kernel
theorem dX8_loansIn_47 : decode cX8_loansIn 47 = .ok (.iaload, 1) := by decide +kernel
theorem dX8_loansIn_48 : decode cX8_loansIn 48 = .ok (.iadd, 1) := by decide +kernel
theorem dX8_loansIn_49 : decode cX8_loansIn 49 = .ok (.if_icmp .ge 7, 3) := by decide +kernel
theorem dX8_loansIn_52 : decode cX8_loansIn 52 = .ok (.iconst 1, 1) := by decide +kernel
theorem dX8_loansIn_53 : decode cX8_loansIn 53 = .ok (.goto 4, 3) := by decide +kernel
theorem dX8_loansIn_56 : decode cX8_loansIn 56 = .ok (.iconst 0, 1) := by decide +kernel
theorem dX8_loansIn_57 : decode cX8_loansIn 57 = .ok (.iadd, 1) := by decide +kernel
theorem dX8_loansIn_58 : decode cX8_loansIn 58 = .ok (.istore_n 3, 1) := by decide +kernel
theorem dX8_loansIn_59 : decode cX8_loansIn 59 = .ok (.iinc 4 1, 3) := by decide +kernel
theorem dX8_loansIn_62 : decode cX8_loansIn 62 = .ok (.goto (-57), 3) := by decide +kernel
theorem dX8_loansIn_65 : decode cX8_loansIn 65 = .ok (.iload_n 3, 1) := by decide +kernel
theorem dX8_loansIn_66 : decode cX8_loansIn 66 = .ok (.ireturn, 1) := by decide +kernel
theorem dX8_inTheWay_0 : decode cX8_inTheWay 0 = .ok (.iload_n 1, 1) := by decide +kernel
theorem dX8_inTheWay_1 : decode cX8_inTheWay 1 = .ok (.invokestatic 95, 3) := by decide +kernel
theorem dX8_inTheWay_4 : decode cX8_inTheWay 4 = .ok (.ifCond .ne 9, 3) := by decide +kernel
theorem dX8_inTheWay_7 : decode cX8_inTheWay 7 = .ok (.aload_n 0, 1) := by decide +kernel
theorem dX8_inTheWay_8 : decode cX8_inTheWay 8 = .ok (.iconst 1, 1) := by decide +kernel
theorem dX8_inTheWay_9 : decode cX8_inTheWay 9 = .ok (.invokevirtual 98, 3) := by decide +kernel
theorem dX8_inTheWay_12 : decode cX8_inTheWay 12 = .ok (.ireturn, 1) := by decide +kernel
theorem dX8_inTheWay_13 : decode cX8_inTheWay 13 = .ok (.iload_n 1, 1) := by decide +kernel
theorem dX8_inTheWay_14 : decode cX8_inTheWay 14 = .ok (.invokestatic 72, 3) := by decide +kernel
theorem dX8_inTheWay_17 : decode cX8_inTheWay 17 = .ok (.istore_n 2, 1) := by decide +kernel
theorem dX8_inTheWay_18 : decode cX8_inTheWay 18 = .ok (.bipush 16, 2) := by decide +kernel
theorem dX8_inTheWay_20 : decode cX8_inTheWay 20 = .ok (.istore_n 3, 1) := by decide +kernel
theorem dX8_inTheWay_21 : decode cX8_inTheWay 21 = .ok (.iconst 0, 1) := by decide +kernel
theorem dX8_inTheWay_22 : decode cX8_inTheWay 22 = .ok (.istore 4, 2) := by decide +kernel
theorem dX8_inTheWay_24 : decode cX8_inTheWay 24 = .ok (.iload 4, 2) := by decide +kernel
theorem dX8_inTheWay_26 : decode cX8_inTheWay 26 = .ok (.bipush 64, 2) := by decide +kernel
theorem dX8_inTheWay_28 : decode cX8_inTheWay 28 = .ok (.if_icmp .ge 35, 3) := by decide +kernel
theorem dX8_inTheWay_31 : decode cX8_inTheWay 31 = .ok (.aload_n 0, 1) := by decide +kernel
theorem dX8_inTheWay_32 : decode cX8_inTheWay 32 = .ok (.iload 4, 2) := by decide +kernel
theorem dX8_inTheWay_34 : decode cX8_inTheWay 34 = .ok (.iload_n 2, 1) := by decide +kernel
theorem dX8_inTheWay_35 : decode cX8_inTheWay 35 = .ok (.invokevirtual 169, 3) := by decide +kernel
theorem dX8_inTheWay_38 : decode cX8_inTheWay 38 = .ok (.iload_n 3, 1) := by decide +kernel
theorem dX8_inTheWay_39 : decode cX8_inTheWay 39 = .ok (.if_icmp .ge 13, 3) := by decide +kernel
theorem dX8_inTheWay_42 : decode cX8_inTheWay 42 = .ok (.aload_n 0, 1) := by decide +kernel
theorem dX8_inTheWay_43 : decode cX8_inTheWay 43 = .ok (.iload 4, 2) := by decide +kernel
theorem dX8_inTheWay_45 : decode cX8_inTheWay 45 = .ok (.iload_n 2, 1) := by decide +kernel
theorem dX8_inTheWay_46 : decode cX8_inTheWay 46 = .ok (.invokevirtual 169, 3) := by decide +kernel
theorem dX8_inTheWay_49 : decode cX8_inTheWay 49 = .ok (.goto 4, 3) := by decide +kernel
theorem dX8_inTheWay_52 : decode cX8_inTheWay 52 = .ok (.iload_n 3, 1) := by decide +kernel
theorem dX8_inTheWay_53 : decode cX8_inTheWay 53 = .ok (.istore_n 3, 1) := by decide +kernel
theorem dX8_inTheWay_54 : decode cX8_inTheWay 54 = .ok (.iload 4, 2) := by decide +kernel
theorem dX8_inTheWay_56 : decode cX8_inTheWay 56 = .ok (.iload_n 2, 1) := by decide +kernel
theorem dX8_inTheWay_57 : decode cX8_inTheWay 57 = .ok (.iadd, 1) := by decide +kernel
theorem dX8_inTheWay_58 : decode cX8_inTheWay 58 = .ok (.istore 4, 2) := by decide +kernel
theorem dX8_inTheWay_60 : decode cX8_inTheWay 60 = .ok (.goto (-36), 3) := by decide +kernel
theorem dX8_inTheWay_63 : decode cX8_inTheWay 63 = .ok (.aload_n 0, 1) := by decide +kernel
theorem dX8_inTheWay_64 : decode cX8_inTheWay 64 = .ok (.iload_n 3, 1) := by decide +kernel
theorem dX8_inTheWay_65 : decode cX8_inTheWay 65 = .ok (.invokevirtual 105, 3) := by decide +kernel
theorem dX8_inTheWay_68 : decode cX8_inTheWay 68 = .ok (.ireturn, 1) := by decide +kernel
theorem dX8_ranked_0 : decode cX8_ranked 0 = .ok (.iconst 0, 1) := by decide +kernel
theorem dX8_ranked_1 : decode cX8_ranked 1 = .ok (.istore_n 2, 1) := by decide +kernel
theorem dX8_ranked_2 : decode cX8_ranked 2 = .ok (.iload_n 2, 1) := by decide +kernel
theorem dX8_ranked_3 : decode cX8_ranked 3 = .ok (.bipush 100, 2) := by decide +kernel
theorem dX8_ranked_5 : decode cX8_ranked 5 = .ok (.if_icmp .ge 87, 3) := by decide +kernel
theorem dX8_ranked_8 : decode cX8_ranked 8 = .ok (.aload_n 0, 1) := by decide +kernel
theorem dX8_ranked_9 : decode cX8_ranked 9 = .ok (.iload_n 2, 1) := by decide +kernel
theorem dX8_ranked_10 : decode cX8_ranked 10 = .ok (.iconst 0, 1) := by decide +kernel
theorem dX8_ranked_11 : decode cX8_ranked 11 = .ok (.invokevirtual 160, 3) := by decide +kernel
theorem dX8_ranked_14 : decode cX8_ranked 14 = .ok (.ifCond .le 72, 3) := by decide +kernel
theorem dX8_ranked_17 : decode cX8_ranked 17 = .ok (.iconst 0, 1) := by decide +kernel
theorem dX8_ranked_18 : decode cX8_ranked 18 = .ok (.istore_n 3, 1) := by decide +kernel
theorem dX8_ranked_19 : decode cX8_ranked 19 = .ok (.iconst 0, 1) := by decide +kernel
theorem dX8_ranked_20 : decode cX8_ranked 20 = .ok (.istore 4, 2) := by decide +kernel
theorem dX8_ranked_22 : decode cX8_ranked 22 = .ok (.iload 4, 2) := by decide +kernel
theorem dX8_ranked_24 : decode cX8_ranked 24 = .ok (.bipush 100, 2) := by decide +kernel
theorem dX8_ranked_26 : decode cX8_ranked 26 = .ok (.if_icmp .ge 49, 3) := by decide +kernel
theorem dX8_ranked_29 : decode cX8_ranked 29 = .ok (.aload_n 0, 1) := by decide +kernel
theorem dX8_ranked_30 : decode cX8_ranked 30 = .ok (.iload 4, 2) := by decide +kernel
theorem dX8_ranked_32 : decode cX8_ranked 32 = .ok (.iconst 2, 1) := by decide +kernel
theorem dX8_ranked_33 : decode cX8_ranked 33 = .ok (.invokevirtual 160, 3) := by decide +kernel
theorem dX8_ranked_36 : decode cX8_ranked 36 = .ok (.aload_n 0, 1) := by decide +kernel
theorem dX8_ranked_37 : decode cX8_ranked 37 = .ok (.iload_n 2, 1) := by decide +kernel
theorem dX8_ranked_38 : decode cX8_ranked 38 = .ok (.iconst 2, 1) := by decide +kernel
theorem dX8_ranked_39 : decode cX8_ranked 39 = .ok (.invokevirtual 160, 3) := by decide +kernel
theorem dX8_ranked_42 : decode cX8_ranked 42 = .ok (.isub, 1) := by decide +kernel
theorem dX8_ranked_43 : decode cX8_ranked 43 = .ok (.istore 5, 2) := by decide +kernel
theorem dX8_ranked_45 : decode cX8_ranked 45 = .ok (.iload_n 3, 1) := by decide +kernel
theorem dX8_ranked_46 : decode cX8_ranked 46 = .ok (.iload 5, 2) := by decide +kernel
theorem dX8_ranked_48 : decode cX8_ranked 48 = .ok (.ifCond .gt 14, 3) := by decide +kernel
theorem dX8_ranked_51 : decode cX8_ranked 51 = .ok (.iload 5, 2) := by decide +kernel
theorem dX8_ranked_53 : decode cX8_ranked 53 = .ok (.ifCond .ne 13, 3) := by decide +kernel
theorem dX8_ranked_56 : decode cX8_ranked 56 = .ok (.iload 4, 2) := by decide +kernel
theorem dX8_ranked_58 : decode cX8_ranked 58 = .ok (.iload_n 2, 1) := by decide +kernel
theorem dX8_ranked_59 : decode cX8_ranked 59 = .ok (.if_icmp .ge 7, 3) := by decide +kernel
theorem dX8_ranked_62 : decode cX8_ranked 62 = .ok (.iconst 1, 1) := by decide +kernel
theorem dX8_ranked_63 : decode cX8_ranked 63 = .ok (.goto 4, 3) := by decide +kernel
theorem dX8_ranked_66 : decode cX8_ranked 66 = .ok (.iconst 0, 1) := by decide +kernel
theorem dX8_ranked_67 : decode cX8_ranked 67 = .ok (.iadd, 1) := by decide +kernel
theorem dX8_ranked_68 : decode cX8_ranked 68 = .ok (.istore_n 3, 1) := by decide +kernel
theorem dX8_ranked_69 : decode cX8_ranked 69 = .ok (.iinc 4 1, 3) := by decide +kernel
theorem dX8_ranked_72 : decode cX8_ranked 72 = .ok (.goto (-50), 3) := by decide +kernel
theorem dX8_ranked_75 : decode cX8_ranked 75 = .ok (.iload_n 3, 1) := by decide +kernel
theorem dX8_ranked_76 : decode cX8_ranked 76 = .ok (.iload_n 1, 1) := by decide +kernel
theorem dX8_ranked_77 : decode cX8_ranked 77 = .ok (.if_icmp .ne 9, 3) := by decide +kernel
theorem dX8_ranked_80 : decode cX8_ranked 80 = .ok (.aload_n 0, 1) := by decide +kernel
theorem dX8_ranked_81 : decode cX8_ranked 81 = .ok (.iload_n 2, 1) := by decide +kernel
theorem dX8_ranked_82 : decode cX8_ranked 82 = .ok (.invokevirtual 105, 3) := by decide +kernel
theorem dX8_ranked_85 : decode cX8_ranked 85 = .ok (.ireturn, 1) := by decide +kernel
theorem dX8_ranked_86 : decode cX8_ranked 86 = .ok (.iinc 2 1, 3) := by decide +kernel
theorem dX8_ranked_89 : decode cX8_ranked 89 = .ok (.goto (-87), 3) := by decide +kernel
theorem dX8_ranked_92 : decode cX8_ranked 92 = .ok (.aload_n 0, 1) := by decide +kernel
theorem dX8_ranked_93 : decode cX8_ranked 93 = .ok (.iconst 1, 1) := by decide +kernel
theorem dX8_ranked_94 : decode cX8_ranked 94 = .ok (.invokevirtual 98, 3) := by decide +kernel
theorem dX8_ranked_97 : decode cX8_ranked 97 = .ok (.ireturn, 1) := by decide +kernel
theorem dX8_writes_0 : decode cX8_writes 0 = .ok (.aload_n 0, 1) := by decide +kernel
theorem dX8_writes_1 : decode cX8_writes 1 = .ok (.getfield 30, 3) := by decide +kernel
theorem dX8_writes_4 : decode cX8_writes 4 = .ok (.aload_n 0, 1) := by decide +kernel
theorem dX8_writes_5 : decode cX8_writes 5 = .ok (.getfield 172, 3) := by decide +kernel
theorem dX8_writes_8 : decode cX8_writes 8 = .ok (.iload_n 1, 1) := by decide +kernel
theorem dX8_writes_9 : decode cX8_writes 9 = .ok (.i2c, 1) := by decide +kernel
theorem dX8_writes_10 : decode cX8_writes 10 = .ok (.castore, 1) := by decide +kernel
theorem dX8_writes_11 : decode cX8_writes 11 = .ok (.aload_n 0, 1) := by decide +kernel
theorem dX8_writes_12 : decode cX8_writes 12 = .ok (.dup, 1) := by decide +kernel
theorem dX8_writes_13 : decode cX8_writes 13 = .ok (.getfield 172, 3) := by decide +kernel
theorem dX8_writes_16 : decode cX8_writes 16 = .ok (.iconst 1, 1) := by decide +kernel
theorem dX8_writes_17 : decode cX8_writes 17 = .ok (.iadd, 1) := by decide +kernel
theorem dX8_writes_18 : decode cX8_writes 18 = .ok (.putfield 172, 3) := by decide +kernel
theorem dX8_writes_21 : decode cX8_writes 21 = .ok (.return_, 1) := by decide +kernel
theorem dX8_writesNumber_0 : decode cX8_writesNumber 0 = .ok (.iload_n 1, 1) := by decide +kernel
theorem dX8_writesNumber_1 : decode cX8_writesNumber 1 = .ok (.bipush 9, 2) := by decide +kernel
theorem dX8_writesNumber_3 : decode cX8_writesNumber 3 = .ok (.if_icmp .le 14, 3) := by decide +kernel
theorem dX8_writesNumber_6 : decode cX8_writesNumber 6 = .ok (.aload_n 0, 1) := by decide +kernel
theorem dX8_writesNumber_7 : decode cX8_writesNumber 7 = .ok (.bipush 48, 2) := by decide +kernel
theorem dX8_writesNumber_9 : decode cX8_writesNumber 9 = .ok (.iload_n 1, 1) := by decide +kernel
theorem dX8_writesNumber_10 : decode cX8_writesNumber 10 = .ok (.bipush 10, 2) := by decide +kernel
theorem dX8_writesNumber_12 : decode cX8_writesNumber 12 = .ok (.idiv, 1) := by decide +kernel
theorem dX8_writesNumber_13 : decode cX8_writesNumber 13 = .ok (.iadd, 1) := by decide +kernel
theorem dX8_writesNumber_14 : decode cX8_writesNumber 14 = .ok (.invokevirtual 175, 3) := by decide +kernel
theorem dX8_writesNumber_17 : decode cX8_writesNumber 17 = .ok (.aload_n 0, 1) := by decide +kernel
theorem dX8_writesNumber_18 : decode cX8_writesNumber 18 = .ok (.bipush 48, 2) := by decide +kernel
theorem dX8_writesNumber_20 : decode cX8_writesNumber 20 = .ok (.iload_n 1, 1) := by decide +kernel
theorem dX8_writesNumber_21 : decode cX8_writesNumber 21 = .ok (.bipush 10, 2) := by decide +kernel
theorem dX8_writesNumber_23 : decode cX8_writesNumber 23 = .ok (.irem, 1) := by decide +kernel
theorem dX8_writesNumber_24 : decode cX8_writesNumber 24 = .ok (.iadd, 1) := by decide +kernel
theorem dX8_writesNumber_25 : decode cX8_writesNumber 25 = .ok (.invokevirtual 175, 3) := by decide +kernel
theorem dX8_writesNumber_28 : decode cX8_writesNumber 28 = .ok (.return_, 1) := by decide +kernel
theorem dX8_line_0 : decode cX8_line 0 = .ok (.aload_n 0, 1) := by decide +kernel
theorem dX8_line_1 : decode cX8_line 1 = .ok (.iconst 0, 1) := by decide +kernel
theorem dX8_line_2 : decode cX8_line 2 = .ok (.putfield 172, 3) := by decide +kernel
theorem dX8_line_5 : decode cX8_line 5 = .ok (.iconst 0, 1) := by decide +kernel
theorem dX8_line_6 : decode cX8_line 6 = .ok (.istore_n 1, 1) := by decide +kernel
theorem dX8_line_7 : decode cX8_line 7 = .ok (.iload_n 1, 1) := by decide +kernel
theorem dX8_line_8 : decode cX8_line 8 = .ok (.bipush 64, 2) := by decide +kernel
theorem dX8_line_10 : decode cX8_line 10 = .ok (.if_icmp .ge 73, 3) := by decide +kernel
theorem dX8_line_13 : decode cX8_line 13 = .ok (.aload_n 0, 1) := by decide +kernel
theorem dX8_line_14 : decode cX8_line 14 = .ok (.getfield 7, 3) := by decide +kernel
theorem dX8_line_17 : decode cX8_line 17 = .ok (.iload_n 1, 1) := by decide +kernel
theorem dX8_line_18 : decode cX8_line 18 = .ok (.iaload, 1) := by decide +kernel
theorem dX8_line_19 : decode cX8_line 19 = .ok (.ifCond .le 58, 3) := by decide +kernel
theorem dX8_line_22 : decode cX8_line 22 = .ok (.aload_n 0, 1) := by decide +kernel
theorem dX8_line_23 : decode cX8_line 23 = .ok (.getfield 172, 3) := by decide +kernel
theorem dX8_line_26 : decode cX8_line 26 = .ok (.ifCond .le 9, 3) := by decide +kernel
theorem dX8_line_29 : decode cX8_line 29 = .ok (.aload_n 0, 1) := by decide +kernel
theorem dX8_line_30 : decode cX8_line 30 = .ok (.bipush 32, 2) := by decide +kernel
theorem dX8_line_32 : decode cX8_line 32 = .ok (.invokevirtual 175, 3) := by decide +kernel
theorem dX8_line_35 : decode cX8_line 35 = .ok (.aload_n 0, 1) := by decide +kernel
theorem dX8_line_36 : decode cX8_line 36 = .ok (.aload_n 0, 1) := by decide +kernel
theorem dX8_line_37 : decode cX8_line 37 = .ok (.getfield 7, 3) := by decide +kernel
theorem dX8_line_40 : decode cX8_line 40 = .ok (.iload_n 1, 1) := by decide +kernel
theorem dX8_line_41 : decode cX8_line 41 = .ok (.iaload, 1) := by decide +kernel
theorem dX8_line_42 : decode cX8_line 42 = .ok (.invokevirtual 178, 3) := by decide +kernel
theorem dX8_line_45 : decode cX8_line 45 = .ok (.aload_n 0, 1) := by decide +kernel
theorem dX8_line_46 : decode cX8_line 46 = .ok (.iload_n 1, 1) := by decide +kernel
theorem dX8_line_47 : decode cX8_line 47 = .ok (.invokevirtual 60, 3) := by decide +kernel
theorem dX8_line_50 : decode cX8_line 50 = .ok (.istore_n 2, 1) := by decide +kernel
theorem dX8_line_51 : decode cX8_line 51 = .ok (.aload_n 0, 1) := by decide +kernel
theorem dX8_line_52 : decode cX8_line 52 = .ok (.iload_n 2, 1) := by decide +kernel
theorem dX8_line_53 : decode cX8_line 53 = .ok (.iconst (-1), 1) := by decide +kernel
theorem dX8_line_54 : decode cX8_line 54 = .ok (.if_icmp .ne 8, 3) := by decide +kernel
theorem dX8_line_57 : decode cX8_line 57 = .ok (.bipush 46, 2) := by decide +kernel
theorem dX8_line_59 : decode cX8_line 59 = .ok (.goto 5, 3) := by decide +kernel
theorem dX8_line_62 : decode cX8_line 62 = .ok (.bipush 61, 2) := by decide +kernel
theorem dX8_line_64 : decode cX8_line 64 = .ok (.invokevirtual 175, 3) := by decide +kernel
theorem dX8_line_67 : decode cX8_line 67 = .ok (.iload_n 2, 1) := by decide +kernel
theorem dX8_line_68 : decode cX8_line 68 = .ok (.iconst (-1), 1) := by decide +kernel
theorem dX8_line_69 : decode cX8_line 69 = .ok (.if_icmp .eq 8, 3) := by decide +kernel
theorem dX8_line_72 : decode cX8_line 72 = .ok (.aload_n 0, 1) := by decide +kernel
theorem dX8_line_73 : decode cX8_line 73 = .ok (.iload_n 2, 1) := by decide +kernel
theorem dX8_line_74 : decode cX8_line 74 = .ok (.invokevirtual 178, 3) := by decide +kernel
theorem dX8_line_77 : decode cX8_line 77 = .ok (.iinc 1 1, 3) := by decide +kernel
theorem dX8_line_80 : decode cX8_line 80 = .ok (.goto (-73), 3) := by decide +kernel
theorem dX8_line_83 : decode cX8_line 83 = .ok (.aload_n 0, 1) := by decide +kernel
theorem dX8_line_84 : decode cX8_line 84 = .ok (.aload_n 0, 1) := by decide +kernel
theorem dX8_line_85 : decode cX8_line 85 = .ok (.getfield 172, 3) := by decide +kernel
theorem dX8_line_88 : decode cX8_line 88 = .ok (.invokevirtual 105, 3) := by decide +kernel
theorem dX8_line_91 : decode cX8_line 91 = .ok (.ireturn, 1) := by decide +kernel
theorem dX8_map_0 : decode cX8_map 0 = .ok (.aload_n 0, 1) := by decide +kernel
theorem dX8_map_1 : decode cX8_map 1 = .ok (.iconst 0, 1) := by decide +kernel
theorem dX8_map_2 : decode cX8_map 2 = .ok (.putfield 172, 3) := by decide +kernel
theorem dX8_map_5 : decode cX8_map 5 = .ok (.iconst 0, 1) := by decide +kernel
theorem dX8_map_6 : decode cX8_map 6 = .ok (.istore_n 1, 1) := by decide +kernel
theorem dX8_map_7 : decode cX8_map 7 = .ok (.iload_n 1, 1) := by decide +kernel
theorem dX8_map_8 : decode cX8_map 8 = .ok (.bipush 64, 2) := by decide +kernel
theorem dX8_map_10 : decode cX8_map 10 = .ok (.if_icmp .ge 37, 3) := by decide +kernel
theorem dX8_map_13 : decode cX8_map 13 = .ok (.aload_n 0, 1) := by decide +kernel
theorem dX8_map_14 : decode cX8_map 14 = .ok (.aload_n 0, 1) := by decide +kernel
theorem dX8_map_15 : decode cX8_map 15 = .ok (.iload_n 1, 1) := by decide +kernel
theorem dX8_map_16 : decode cX8_map 16 = .ok (.invokevirtual 163, 3) := by decide +kernel
theorem dX8_map_19 : decode cX8_map 19 = .ok (.invokevirtual 60, 3) := by decide +kernel
theorem dX8_map_22 : decode cX8_map 22 = .ok (.istore_n 2, 1) := by decide +kernel
theorem dX8_map_23 : decode cX8_map 23 = .ok (.aload_n 0, 1) := by decide +kernel
theorem dX8_map_24 : decode cX8_map 24 = .ok (.iload_n 2, 1) := by decide +kernel
theorem dX8_map_25 : decode cX8_map 25 = .ok (.iconst (-1), 1) := by decide +kernel
theorem dX8_map_26 : decode cX8_map 26 = .ok (.if_icmp .ne 8, 3) := by decide +kernel
theorem dX8_map_29 : decode cX8_map 29 = .ok (.bipush 46, 2) := by decide +kernel
theorem dX8_map_31 : decode cX8_map 31 = .ok (.goto 7, 3) := by decide +kernel
theorem dX8_map_34 : decode cX8_map 34 = .ok (.bipush 97, 2) := by decide +kernel
theorem dX8_map_36 : decode cX8_map 36 = .ok (.iload_n 2, 1) := by decide +kernel
theorem dX8_map_37 : decode cX8_map 37 = .ok (.iadd, 1) := by decide +kernel
theorem dX8_map_38 : decode cX8_map 38 = .ok (.invokevirtual 175, 3) := by decide +kernel
theorem dX8_map_41 : decode cX8_map 41 = .ok (.iinc 1 1, 3) := by decide +kernel
theorem dX8_map_44 : decode cX8_map 44 = .ok (.goto (-37), 3) := by decide +kernel
theorem dX8_map_47 : decode cX8_map 47 = .ok (.aload_n 0, 1) := by decide +kernel
theorem dX8_map_48 : decode cX8_map 48 = .ok (.aload_n 0, 1) := by decide +kernel
theorem dX8_map_49 : decode cX8_map 49 = .ok (.getfield 172, 3) := by decide +kernel
theorem dX8_map_52 : decode cX8_map 52 = .ok (.invokevirtual 105, 3) := by decide +kernel
theorem dX8_map_55 : decode cX8_map 55 = .ok (.ireturn, 1) := by decide +kernel
theorem dX8_character_0 : decode cX8_character 0 = .ok (.aload_n 0, 1) := by decide +kernel
theorem dX8_character_1 : decode cX8_character 1 = .ok (.iload_n 1, 1) := by decide +kernel
theorem dX8_character_2 : decode cX8_character 2 = .ok (.iconst 0, 1) := by decide +kernel
theorem dX8_character_3 : decode cX8_character 3 = .ok (.aload_n 0, 1) := by decide +kernel
theorem dX8_character_4 : decode cX8_character 4 = .ok (.getfield 172, 3) := by decide +kernel
theorem dX8_character_7 : decode cX8_character 7 = .ok (.iconst 1, 1) := by decide +kernel
theorem dX8_character_8 : decode cX8_character 8 = .ok (.isub, 1) := by decide +kernel
theorem dX8_character_9 : decode cX8_character 9 = .ok (.invokestatic 56, 3) := by decide +kernel
theorem dX8_character_12 : decode cX8_character 12 = .ok (.ifCond .eq 7, 3) := by decide +kernel
theorem dX8_character_15 : decode cX8_character 15 = .ok (.iconst 0, 1) := by decide +kernel
theorem dX8_character_16 : decode cX8_character 16 = .ok (.goto 4, 3) := by decide +kernel
theorem dX8_character_19 : decode cX8_character 19 = .ok (.iconst 1, 1) := by decide +kernel
theorem dX8_character_20 : decode cX8_character 20 = .ok (.putfield 36, 3) := by decide +kernel
theorem dX8_character_23 : decode cX8_character 23 = .ok (.aload_n 0, 1) := by decide +kernel
theorem dX8_character_24 : decode cX8_character 24 = .ok (.getfield 36, 3) := by decide +kernel
theorem dX8_character_27 : decode cX8_character 27 = .ok (.ifCond .ne 12, 3) := by decide +kernel
theorem dX8_character_30 : decode cX8_character 30 = .ok (.aload_n 0, 1) := by decide +kernel
theorem dX8_character_31 : decode cX8_character 31 = .ok (.getfield 30, 3) := by decide +kernel
theorem dX8_character_34 : decode cX8_character 34 = .ok (.iload_n 1, 1) := by decide +kernel
theorem dX8_character_35 : decode cX8_character 35 = .ok (.caload, 1) := by decide +kernel
theorem dX8_character_36 : decode cX8_character 36 = .ok (.goto 4, 3) := by decide +kernel
theorem dX8_character_39 : decode cX8_character 39 = .ok (.iconst 0, 1) := by decide +kernel
theorem dX8_character_40 : decode cX8_character 40 = .ok (.ireturn, 1) := by decide +kernel
theorem dX8_append_0 : decode cX8_append 0 = .ok (.aload_n 0, 1) := by decide +kernel
theorem dX8_append_1 : decode cX8_append 1 = .ok (.getfield 181, 3) := by decide +kernel
theorem dX8_append_4 : decode cX8_append 4 = .ok (.bipush 60, 2) := by decide +kernel
theorem dX8_append_6 : decode cX8_append 6 = .ok (.if_icmp .ne 9, 3) := by decide +kernel
theorem dX8_append_9 : decode cX8_append 9 = .ok (.aload_n 0, 1) := by decide +kernel
theorem dX8_append_10 : decode cX8_append 10 = .ok (.iconst 1, 1) := by decide +kernel
theorem dX8_append_11 : decode cX8_append 11 = .ok (.invokevirtual 98, 3) := by decide +kernel
theorem dX8_append_14 : decode cX8_append 14 = .ok (.ireturn, 1) := by decide +kernel
theorem dX8_append_15 : decode cX8_append 15 = .ok (.aload_n 0, 1) := by decide +kernel
theorem dX8_append_16 : decode cX8_append 16 = .ok (.getfield 22, 3) := by decide +kernel
theorem dX8_append_19 : decode cX8_append 19 = .ok (.aload_n 0, 1) := by decide +kernel
theorem dX8_append_20 : decode cX8_append 20 = .ok (.getfield 181, 3) := by decide +kernel
theorem dX8_append_23 : decode cX8_append 23 = .ok (.iload_n 1, 1) := by decide +kernel
theorem dX8_append_24 : decode cX8_append 24 = .ok (.castore, 1) := by decide +kernel
theorem dX8_append_25 : decode cX8_append 25 = .ok (.aload_n 0, 1) := by decide +kernel
theorem dX8_append_26 : decode cX8_append 26 = .ok (.dup, 1) := by decide +kernel
theorem dX8_append_27 : decode cX8_append 27 = .ok (.getfield 181, 3) := by decide +kernel
theorem dX8_append_30 : decode cX8_append 30 = .ok (.iconst 1, 1) := by decide +kernel
theorem dX8_append_31 : decode cX8_append 31 = .ok (.iadd, 1) := by decide +kernel
theorem dX8_append_32 : decode cX8_append 32 = .ok (.putfield 181, 3) := by decide +kernel
theorem dX8_append_35 : decode cX8_append 35 = .ok (.aload_n 0, 1) := by decide +kernel
theorem dX8_append_36 : decode cX8_append 36 = .ok (.aload_n 0, 1) := by decide +kernel
theorem dX8_append_37 : decode cX8_append 37 = .ok (.getfield 181, 3) := by decide +kernel
theorem dX8_append_40 : decode cX8_append 40 = .ok (.invokevirtual 105, 3) := by decide +kernel
theorem dX8_append_43 : decode cX8_append 43 = .ok (.ireturn, 1) := by decide +kernel
theorem dX8_here_0 : decode cX8_here 0 = .ok (.aload_n 0, 1) := by decide +kernel
theorem dX8_here_1 : decode cX8_here 1 = .ok (.getfield 184, 3) := by decide +kernel
theorem dX8_here_4 : decode cX8_here 4 = .ok (.aload_n 0, 1) := by decide +kernel
theorem dX8_here_5 : decode cX8_here 5 = .ok (.getfield 181, 3) := by decide +kernel
theorem dX8_here_8 : decode cX8_here 8 = .ok (.if_icmp .ge 15, 3) := by decide +kernel
theorem dX8_here_11 : decode cX8_here 11 = .ok (.aload_n 0, 1) := by decide +kernel
theorem dX8_here_12 : decode cX8_here 12 = .ok (.getfield 22, 3) := by decide +kernel
theorem dX8_here_15 : decode cX8_here 15 = .ok (.aload_n 0, 1) := by decide +kernel
theorem dX8_here_16 : decode cX8_here 16 = .ok (.getfield 184, 3) := by decide +kernel
theorem dX8_here_19 : decode cX8_here 19 = .ok (.caload, 1) := by decide +kernel
theorem dX8_here_20 : decode cX8_here 20 = .ok (.goto 4, 3) := by decide +kernel
theorem dX8_here_23 : decode cX8_here 23 = .ok (.iconst (-1), 1) := by decide +kernel
theorem dX8_here_24 : decode cX8_here 24 = .ok (.ireturn, 1) := by decide +kernel
theorem dX8_figures_0 : decode cX8_figures 0 = .ok (.aload_n 0, 1) := by decide +kernel
theorem dX8_figures_1 : decode cX8_figures 1 = .ok (.aload_n 0, 1) := by decide +kernel
theorem dX8_figures_2 : decode cX8_figures 2 = .ok (.getfield 187, 3) := by decide +kernel
theorem dX8_figures_5 : decode cX8_figures 5 = .ok (.ifCond .ne 17, 3) := by decide +kernel
theorem dX8_figures_8 : decode cX8_figures 8 = .ok (.aload_n 0, 1) := by decide +kernel
theorem dX8_figures_9 : decode cX8_figures 9 = .ok (.invokevirtual 190, 3) := by decide +kernel
theorem dX8_figures_12 : decode cX8_figures 12 = .ok (.bipush 48, 2) := by decide +kernel
theorem dX8_figures_14 : decode cX8_figures 14 = .ok (.bipush 57, 2) := by decide +kernel
theorem dX8_figures_16 : decode cX8_figures 16 = .ok (.invokestatic 56, 3) := by decide +kernel
theorem dX8_figures_19 : decode cX8_figures 19 = .ok (.ifCond .ne 7, 3) := by decide +kernel
theorem dX8_figures_22 : decode cX8_figures 22 = .ok (.iconst 1, 1) := by decide +kernel
theorem dX8_figures_23 : decode cX8_figures 23 = .ok (.goto 4, 3) := by decide +kernel
theorem dX8_figures_26 : decode cX8_figures 26 = .ok (.iconst 0, 1) := by decide +kernel
theorem dX8_figures_27 : decode cX8_figures 27 = .ok (.putfield 187, 3) := by decide +kernel
theorem dX8_figures_30 : decode cX8_figures 30 = .ok (.iconst 0, 1) := by decide +kernel
theorem dX8_figures_31 : decode cX8_figures 31 = .ok (.istore_n 2, 1) := by decide +kernel
theorem dX8_figures_32 : decode cX8_figures 32 = .ok (.iconst 0, 1) := by decide +kernel
theorem dX8_figures_33 : decode cX8_figures 33 = .ok (.istore_n 3, 1) := by decide +kernel
theorem dX8_figures_34 : decode cX8_figures 34 = .ok (.aload_n 0, 1) := by decide +kernel
theorem dX8_figures_35 : decode cX8_figures 35 = .ok (.getfield 187, 3) := by decide +kernel
theorem dX8_figures_38 : decode cX8_figures 38 = .ok (.ifCond .ne 51, 3) := by decide +kernel
theorem dX8_figures_41 : decode cX8_figures 41 = .ok (.iload_n 3, 1) := by decide +kernel
theorem dX8_figures_42 : decode cX8_figures 42 = .ok (.iload_n 1, 1) := by decide +kernel
theorem dX8_figures_43 : decode cX8_figures 43 = .ok (.if_icmp .ge 46, 3) := by decide +kernel
theorem dX8_figures_46 : decode cX8_figures 46 = .ok (.aload_n 0, 1) := by decide +kernel
theorem dX8_figures_47 : decode cX8_figures 47 = .ok (.invokevirtual 190, 3) := by decide +kernel
theorem dX8_figures_50 : decode cX8_figures 50 = .ok (.bipush 48, 2) := by decide +kernel
theorem dX8_figures_52 : decode cX8_figures 52 = .ok (.bipush 57, 2) := by decide +kernel
theorem dX8_figures_54 : decode cX8_figures 54 = .ok (.invokestatic 56, 3) := by decide +kernel
theorem dX8_figures_57 : decode cX8_figures 57 = .ok (.ifCond .eq 32, 3) := by decide +kernel
theorem dX8_figures_60 : decode cX8_figures 60 = .ok (.bipush 10, 2) := by decide +kernel
theorem dX8_figures_62 : decode cX8_figures 62 = .ok (.iload_n 2, 1) := by decide +kernel
theorem dX8_figures_63 : decode cX8_figures 63 = .ok (.imul, 1) := by decide +kernel
theorem dX8_figures_64 : decode cX8_figures 64 = .ok (.aload_n 0, 1) := by decide +kernel
theorem dX8_figures_65 : decode cX8_figures 65 = .ok (.invokevirtual 190, 3) := by decide +kernel
theorem dX8_figures_68 : decode cX8_figures 68 = .ok (.iadd, 1) := by decide +kernel
theorem dX8_figures_69 : decode cX8_figures 69 = .ok (.bipush 48, 2) := by decide +kernel
theorem dX8_figures_71 : decode cX8_figures 71 = .ok (.isub, 1) := by decide +kernel
theorem dX8_figures_72 : decode cX8_figures 72 = .ok (.istore_n 2, 1) := by decide +kernel
theorem dX8_figures_73 : decode cX8_figures 73 = .ok (.aload_n 0, 1) := by decide +kernel
theorem dX8_figures_74 : decode cX8_figures 74 = .ok (.dup, 1) := by decide +kernel
theorem dX8_figures_75 : decode cX8_figures 75 = .ok (.getfield 184, 3) := by decide +kernel
theorem dX8_figures_78 : decode cX8_figures 78 = .ok (.iconst 1, 1) := by decide +kernel
theorem dX8_figures_79 : decode cX8_figures 79 = .ok (.iadd, 1) := by decide +kernel
theorem dX8_figures_80 : decode cX8_figures 80 = .ok (.putfield 184, 3) := by decide +kernel
theorem dX8_figures_83 : decode cX8_figures 83 = .ok (.iinc 3 1, 3) := by decide +kernel
theorem dX8_figures_86 : decode cX8_figures 86 = .ok (.goto (-52), 3) := by decide +kernel
theorem dX8_figures_89 : decode cX8_figures 89 = .ok (.iload_n 2, 1) := by decide +kernel
theorem dX8_figures_90 : decode cX8_figures 90 = .ok (.ireturn, 1) := by decide +kernel
theorem dX8_readsOrder_0 : decode cX8_readsOrder 0 = .ok (.aload_n 0, 1) := by decide +kernel
theorem dX8_readsOrder_1 : decode cX8_readsOrder 1 = .ok (.invokevirtual 190, 3) := by decide +kernel
theorem dX8_readsOrder_4 : decode cX8_readsOrder 4 = .ok (.istore_n 2, 1) := by decide +kernel
theorem dX8_readsOrder_5 : decode cX8_readsOrder 5 = .ok (.aload_n 0, 1) := by decide +kernel
theorem dX8_readsOrder_6 : decode cX8_readsOrder 6 = .ok (.dup, 1) := by decide +kernel
theorem dX8_readsOrder_7 : decode cX8_readsOrder 7 = .ok (.getfield 184, 3) := by decide +kernel
theorem dX8_readsOrder_10 : decode cX8_readsOrder 10 = .ok (.iconst 1, 1) := by decide +kernel
theorem dX8_readsOrder_11 : decode cX8_readsOrder 11 = .ok (.iadd, 1) := by decide +kernel
theorem dX8_readsOrder_12 : decode cX8_readsOrder 12 = .ok (.putfield 184, 3) := by decide +kernel
theorem dX8_readsOrder_15 : decode cX8_readsOrder 15 = .ok (.aload_n 0, 1) := by decide +kernel
theorem dX8_readsOrder_16 : decode cX8_readsOrder 16 = .ok (.getfield 33, 3) := by decide +kernel
theorem dX8_readsOrder_19 : decode cX8_readsOrder 19 = .ok (.iload_n 1, 1) := by decide +kernel
theorem dX8_readsOrder_20 : decode cX8_readsOrder 20 = .ok (.iload_n 2, 1) := by decide +kernel
theorem dX8_readsOrder_21 : decode cX8_readsOrder 21 = .ok (.iastore, 1) := by decide +kernel
theorem dX8_readsOrder_22 : decode cX8_readsOrder 22 = .ok (.iload_n 2, 1) := by decide +kernel
theorem dX8_readsOrder_23 : decode cX8_readsOrder 23 = .ok (.tableswitch 188 103 119 #[156, 188, 188, 188, 188, 81, 188, 156, 188, 188, 81, 81, 188, 188, 188, 188, 172], 81) := by decide +kernel
theorem dX8_readsOrder_104 : decode cX8_readsOrder 104 = .ok (.aload_n 0, 1) := by decide +kernel
theorem dX8_readsOrder_105 : decode cX8_readsOrder 105 = .ok (.getfield 33, 3) := by decide +kernel
theorem dX8_readsOrder_108 : decode cX8_readsOrder 108 = .ok (.iload_n 1, 1) := by decide +kernel
theorem dX8_readsOrder_109 : decode cX8_readsOrder 109 = .ok (.iconst 1, 1) := by decide +kernel
theorem dX8_readsOrder_110 : decode cX8_readsOrder 110 = .ok (.iadd, 1) := by decide +kernel
theorem dX8_readsOrder_111 : decode cX8_readsOrder 111 = .ok (.aload_n 0, 1) := by decide +kernel
theorem dX8_readsOrder_112 : decode cX8_readsOrder 112 = .ok (.iconst 2, 1) := by decide +kernel
theorem dX8_readsOrder_113 : decode cX8_readsOrder 113 = .ok (.invokevirtual 193, 3) := by decide +kernel
theorem dX8_readsOrder_116 : decode cX8_readsOrder 116 = .ok (.iastore, 1) := by decide +kernel
theorem dX8_readsOrder_117 : decode cX8_readsOrder 117 = .ok (.aload_n 0, 1) := by decide +kernel
theorem dX8_readsOrder_118 : decode cX8_readsOrder 118 = .ok (.aload_n 0, 1) := by decide +kernel
theorem dX8_readsOrder_119 : decode cX8_readsOrder 119 = .ok (.getfield 187, 3) := by decide +kernel
theorem dX8_readsOrder_122 : decode cX8_readsOrder 122 = .ok (.ifCond .ne 12, 3) := by decide +kernel
theorem dX8_readsOrder_125 : decode cX8_readsOrder 125 = .ok (.aload_n 0, 1) := by decide +kernel
theorem dX8_readsOrder_126 : decode cX8_readsOrder 126 = .ok (.invokevirtual 190, 3) := by decide +kernel
theorem dX8_readsOrder_129 : decode cX8_readsOrder 129 = .ok (.bipush 58, 2) := by decide +kernel
theorem dX8_readsOrder_131 : decode cX8_readsOrder 131 = .ok (.if_icmp .eq 7, 3) := by decide +kernel
theorem dX8_readsOrder_134 : decode cX8_readsOrder 134 = .ok (.iconst 1, 1) := by decide +kernel
theorem dX8_readsOrder_135 : decode cX8_readsOrder 135 = .ok (.goto 4, 3) := by decide +kernel
theorem dX8_readsOrder_138 : decode cX8_readsOrder 138 = .ok (.iconst 0, 1) := by decide +kernel
theorem dX8_readsOrder_139 : decode cX8_readsOrder 139 = .ok (.putfield 187, 3) := by decide +kernel
theorem dX8_readsOrder_142 : decode cX8_readsOrder 142 = .ok (.aload_n 0, 1) := by decide +kernel
theorem dX8_readsOrder_143 : decode cX8_readsOrder 143 = .ok (.dup, 1) := by decide +kernel
theorem dX8_readsOrder_144 : decode cX8_readsOrder 144 = .ok (.getfield 184, 3) := by decide +kernel
theorem dX8_readsOrder_147 : decode cX8_readsOrder 147 = .ok (.aload_n 0, 1) := by decide +kernel
theorem dX8_readsOrder_148 : decode cX8_readsOrder 148 = .ok (.getfield 187, 3) := by decide +kernel
theorem dX8_readsOrder_151 : decode cX8_readsOrder 151 = .ok (.ifCond .eq 7, 3) := by decide +kernel
theorem dX8_readsOrder_154 : decode cX8_readsOrder 154 = .ok (.iconst 0, 1) := by decide +kernel
theorem dX8_readsOrder_155 : decode cX8_readsOrder 155 = .ok (.goto 4, 3) := by decide +kernel
theorem dX8_readsOrder_158 : decode cX8_readsOrder 158 = .ok (.iconst 1, 1) := by decide +kernel
theorem dX8_readsOrder_159 : decode cX8_readsOrder 159 = .ok (.iadd, 1) := by decide +kernel
theorem dX8_readsOrder_160 : decode cX8_readsOrder 160 = .ok (.putfield 184, 3) := by decide +kernel
theorem dX8_readsOrder_163 : decode cX8_readsOrder 163 = .ok (.aload_n 0, 1) := by decide +kernel
theorem dX8_readsOrder_164 : decode cX8_readsOrder 164 = .ok (.getfield 33, 3) := by decide +kernel
theorem dX8_readsOrder_167 : decode cX8_readsOrder 167 = .ok (.iload_n 1, 1) := by decide +kernel
theorem dX8_readsOrder_168 : decode cX8_readsOrder 168 = .ok (.iconst 2, 1) := by decide +kernel
theorem dX8_readsOrder_169 : decode cX8_readsOrder 169 = .ok (.iadd, 1) := by decide +kernel
theorem dX8_readsOrder_170 : decode cX8_readsOrder 170 = .ok (.aload_n 0, 1) := by decide +kernel
theorem dX8_readsOrder_171 : decode cX8_readsOrder 171 = .ok (.iconst 2, 1) := by decide +kernel
theorem dX8_readsOrder_172 : decode cX8_readsOrder 172 = .ok (.invokevirtual 193, 3) := by decide +kernel
theorem dX8_readsOrder_175 : decode cX8_readsOrder 175 = .ok (.iastore, 1) := by decide +kernel
theorem dX8_readsOrder_176 : decode cX8_readsOrder 176 = .ok (.goto 50, 3) := by decide +kernel
theorem dX8_readsOrder_179 : decode cX8_readsOrder 179 = .ok (.aload_n 0, 1) := by decide +kernel
theorem dX8_readsOrder_180 : decode cX8_readsOrder 180 = .ok (.getfield 33, 3) := by decide +kernel
theorem dX8_readsOrder_183 : decode cX8_readsOrder 183 = .ok (.iload_n 1, 1) := by decide +kernel
theorem dX8_readsOrder_184 : decode cX8_readsOrder 184 = .ok (.iconst 1, 1) := by decide +kernel
theorem dX8_readsOrder_185 : decode cX8_readsOrder 185 = .ok (.iadd, 1) := by decide +kernel
theorem dX8_readsOrder_186 : decode cX8_readsOrder 186 = .ok (.aload_n 0, 1) := by decide +kernel
theorem dX8_readsOrder_187 : decode cX8_readsOrder 187 = .ok (.iconst 2, 1) := by decide +kernel
theorem dX8_readsOrder_188 : decode cX8_readsOrder 188 = .ok (.invokevirtual 193, 3) := by decide +kernel
theorem dX8_readsOrder_191 : decode cX8_readsOrder 191 = .ok (.iastore, 1) := by decide +kernel
theorem dX8_readsOrder_192 : decode cX8_readsOrder 192 = .ok (.goto 34, 3) := by decide +kernel
theorem dX8_readsOrder_195 : decode cX8_readsOrder 195 = .ok (.aload_n 0, 1) := by decide +kernel
theorem dX8_readsOrder_196 : decode cX8_readsOrder 196 = .ok (.getfield 33, 3) := by decide +kernel
theorem dX8_readsOrder_199 : decode cX8_readsOrder 199 = .ok (.iload_n 1, 1) := by decide +kernel
theorem dX8_readsOrder_200 : decode cX8_readsOrder 200 = .ok (.iconst 1, 1) := by decide +kernel
theorem dX8_readsOrder_201 : decode cX8_readsOrder 201 = .ok (.iadd, 1) := by decide +kernel
theorem dX8_readsOrder_202 : decode cX8_readsOrder 202 = .ok (.aload_n 0, 1) := by decide +kernel
theorem dX8_readsOrder_203 : decode cX8_readsOrder 203 = .ok (.iconst 1, 1) := by decide +kernel
theorem dX8_readsOrder_204 : decode cX8_readsOrder 204 = .ok (.invokevirtual 193, 3) := by decide +kernel
theorem dX8_readsOrder_207 : decode cX8_readsOrder 207 = .ok (.iastore, 1) := by decide +kernel
theorem dX8_readsOrder_208 : decode cX8_readsOrder 208 = .ok (.goto 18, 3) := by decide +kernel
theorem dX8_readsOrder_211 : decode cX8_readsOrder 211 = .ok (.aload_n 0, 1) := by decide +kernel
theorem dX8_readsOrder_212 : decode cX8_readsOrder 212 = .ok (.iconst 1, 1) := by decide +kernel
theorem dX8_readsOrder_213 : decode cX8_readsOrder 213 = .ok (.putfield 187, 3) := by decide +kernel
theorem dX8_readsOrder_216 : decode cX8_readsOrder 216 = .ok (.aload_n 0, 1) := by decide +kernel
theorem dX8_readsOrder_217 : decode cX8_readsOrder 217 = .ok (.dup, 1) := by decide +kernel
theorem dX8_readsOrder_218 : decode cX8_readsOrder 218 = .ok (.getfield 184, 3) := by decide +kernel
theorem dX8_readsOrder_221 : decode cX8_readsOrder 221 = .ok (.iconst 1, 1) := by decide +kernel
theorem dX8_readsOrder_222 : decode cX8_readsOrder 222 = .ok (.isub, 1) := by decide +kernel
theorem dX8_readsOrder_223 : decode cX8_readsOrder 223 = .ok (.putfield 184, 3) := by decide +kernel
theorem dX8_readsOrder_226 : decode cX8_readsOrder 226 = .ok (.return_, 1) := by decide +kernel
theorem dX8_does_0 : decode cX8_does 0 = .ok (.aload_n 0, 1) := by decide +kernel
theorem dX8_does_1 : decode cX8_does 1 = .ok (.getfield 33, 3) := by decide +kernel
theorem dX8_does_4 : decode cX8_does 4 = .ok (.iload_n 1, 1) := by decide +kernel
theorem dX8_does_5 : decode cX8_does 5 = .ok (.iconst 1, 1) := by decide +kernel
theorem dX8_does_6 : decode cX8_does 6 = .ok (.iadd, 1) := by decide +kernel
theorem dX8_does_7 : decode cX8_does 7 = .ok (.iaload, 1) := by decide +kernel
theorem dX8_does_8 : decode cX8_does 8 = .ok (.istore_n 2, 1) := by decide +kernel
theorem dX8_does_9 : decode cX8_does 9 = .ok (.aload_n 0, 1) := by decide +kernel
theorem dX8_does_10 : decode cX8_does 10 = .ok (.getfield 33, 3) := by decide +kernel
theorem dX8_does_13 : decode cX8_does 13 = .ok (.iload_n 1, 1) := by decide +kernel
theorem dX8_does_14 : decode cX8_does 14 = .ok (.iconst 2, 1) := by decide +kernel
theorem dX8_does_15 : decode cX8_does 15 = .ok (.iadd, 1) := by decide +kernel
theorem dX8_does_16 : decode cX8_does 16 = .ok (.iaload, 1) := by decide +kernel
theorem dX8_does_17 : decode cX8_does 17 = .ok (.istore_n 3, 1) := by decide +kernel
theorem dX8_does_18 : decode cX8_does 18 = .ok (.aload_n 0, 1) := by decide +kernel
theorem dX8_does_19 : decode cX8_does 19 = .ok (.getfield 33, 3) := by decide +kernel
theorem dX8_does_22 : decode cX8_does 22 = .ok (.iload_n 1, 1) := by decide +kernel
theorem dX8_does_23 : decode cX8_does 23 = .ok (.iaload, 1) := by decide +kernel
theorem dX8_does_24 : decode cX8_does 24 = .ok (.tableswitch 97 103 114 #[85, 97, 97, 97, 97, 64, 97, 91, 97, 97, 71, 78], 64) := by decide +kernel
theorem dX8_does_88 : decode cX8_does 88 = .ok (.aload_n 0, 1) := by decide +kernel
theorem dX8_does_89 : decode cX8_does 89 = .ok (.iload_n 2, 1) := by decide +kernel
theorem dX8_does_90 : decode cX8_does 90 = .ok (.iload_n 3, 1) := by decide +kernel
theorem dX8_does_91 : decode cX8_does 91 = .ok (.invokevirtual 115, 3) := by decide +kernel
theorem dX8_does_94 : decode cX8_does 94 = .ok (.ireturn, 1) := by decide +kernel
theorem dX8_does_95 : decode cX8_does 95 = .ok (.aload_n 0, 1) := by decide +kernel
theorem dX8_does_96 : decode cX8_does 96 = .ok (.iload_n 2, 1) := by decide +kernel
theorem dX8_does_97 : decode cX8_does 97 = .ok (.iload_n 3, 1) := by decide +kernel
theorem dX8_does_98 : decode cX8_does 98 = .ok (.invokevirtual 121, 3) := by decide +kernel
theorem dX8_does_101 : decode cX8_does 101 = .ok (.ireturn, 1) := by decide +kernel
theorem dX8_does_102 : decode cX8_does 102 = .ok (.aload_n 0, 1) := by decide +kernel
theorem dX8_does_103 : decode cX8_does 103 = .ok (.iload_n 2, 1) := by decide +kernel
theorem dX8_does_104 : decode cX8_does 104 = .ok (.iload_n 3, 1) := by decide +kernel
theorem dX8_does_105 : decode cX8_does 105 = .ok (.invokevirtual 148, 3) := by decide +kernel
theorem dX8_does_108 : decode cX8_does 108 = .ok (.ireturn, 1) := by decide +kernel
theorem dX8_does_109 : decode cX8_does 109 = .ok (.aload_n 0, 1) := by decide +kernel
theorem dX8_does_110 : decode cX8_does 110 = .ok (.iload_n 2, 1) := by decide +kernel
theorem dX8_does_111 : decode cX8_does 111 = .ok (.invokevirtual 136, 3) := by decide +kernel
theorem dX8_does_114 : decode cX8_does 114 = .ok (.ireturn, 1) := by decide +kernel
theorem dX8_does_115 : decode cX8_does 115 = .ok (.aload_n 0, 1) := by decide +kernel
theorem dX8_does_116 : decode cX8_does 116 = .ok (.iload_n 2, 1) := by decide +kernel
theorem dX8_does_117 : decode cX8_does 117 = .ok (.invokevirtual 142, 3) := by decide +kernel
theorem dX8_does_120 : decode cX8_does 120 = .ok (.ireturn, 1) := by decide +kernel
theorem dX8_does_121 : decode cX8_does 121 = .ok (.aload_n 0, 1) := by decide +kernel
theorem dX8_does_122 : decode cX8_does 122 = .ok (.iload_n 2, 1) := by decide +kernel
theorem dX8_does_123 : decode cX8_does 123 = .ok (.invokevirtual 151, 3) := by decide +kernel
theorem dX8_does_126 : decode cX8_does 126 = .ok (.ireturn, 1) := by decide +kernel
theorem dX8_run_0 : decode cX8_run 0 = .ok (.aload_n 0, 1) := by decide +kernel
theorem dX8_run_1 : decode cX8_run 1 = .ok (.iconst 0, 1) := by decide +kernel
theorem dX8_run_2 : decode cX8_run 2 = .ok (.putfield 184, 3) := by decide +kernel
theorem dX8_run_5 : decode cX8_run 5 = .ok (.aload_n 0, 1) := by decide +kernel
theorem dX8_run_6 : decode cX8_run 6 = .ok (.iconst 0, 1) := by decide +kernel
theorem dX8_run_7 : decode cX8_run 7 = .ok (.putfield 187, 3) := by decide +kernel
theorem dX8_run_10 : decode cX8_run 10 = .ok (.iconst 0, 1) := by decide +kernel
theorem dX8_run_11 : decode cX8_run 11 = .ok (.istore_n 1, 1) := by decide +kernel
theorem dX8_run_12 : decode cX8_run 12 = .ok (.iconst 1, 1) := by decide +kernel
theorem dX8_run_13 : decode cX8_run 13 = .ok (.istore_n 2, 1) := by decide +kernel
theorem dX8_run_14 : decode cX8_run 14 = .ok (.iload_n 2, 1) := by decide +kernel
theorem dX8_run_15 : decode cX8_run 15 = .ok (.ifCond .eq 56, 3) := by decide +kernel
theorem dX8_run_18 : decode cX8_run 18 = .ok (.aload_n 0, 1) := by decide +kernel
theorem dX8_run_19 : decode cX8_run 19 = .ok (.iconst 3, 1) := by decide +kernel
theorem dX8_run_20 : decode cX8_run 20 = .ok (.iload_n 1, 1) := by decide +kernel
theorem dX8_run_21 : decode cX8_run 21 = .ok (.imul, 1) := by decide +kernel
theorem dX8_run_22 : decode cX8_run 22 = .ok (.invokevirtual 196, 3) := by decide +kernel
theorem dX8_run_25 : decode cX8_run 25 = .ok (.iinc 1 1, 3) := by decide +kernel
theorem dX8_run_28 : decode cX8_run 28 = .ok (.aload_n 0, 1) := by decide +kernel
theorem dX8_run_29 : decode cX8_run 29 = .ok (.getfield 187, 3) := by decide +kernel
theorem dX8_run_32 : decode cX8_run 32 = .ok (.ifCond .ne 16, 3) := by decide +kernel
theorem dX8_run_35 : decode cX8_run 35 = .ok (.aload_n 0, 1) := by decide +kernel
theorem dX8_run_36 : decode cX8_run 36 = .ok (.invokevirtual 190, 3) := by decide +kernel
theorem dX8_run_39 : decode cX8_run 39 = .ok (.bipush 59, 2) := by decide +kernel
theorem dX8_run_41 : decode cX8_run 41 = .ok (.if_icmp .ne 7, 3) := by decide +kernel
theorem dX8_run_44 : decode cX8_run 44 = .ok (.iconst 1, 1) := by decide +kernel
theorem dX8_run_45 : decode cX8_run 45 = .ok (.goto 4, 3) := by decide +kernel
theorem dX8_run_48 : decode cX8_run 48 = .ok (.iconst 0, 1) := by decide +kernel
theorem dX8_run_49 : decode cX8_run 49 = .ok (.istore_n 2, 1) := by decide +kernel
theorem dX8_run_50 : decode cX8_run 50 = .ok (.aload_n 0, 1) := by decide +kernel
theorem dX8_run_51 : decode cX8_run 51 = .ok (.dup, 1) := by decide +kernel
theorem dX8_run_52 : decode cX8_run 52 = .ok (.getfield 184, 3) := by decide +kernel
theorem dX8_run_55 : decode cX8_run 55 = .ok (.iload_n 2, 1) := by decide +kernel
theorem dX8_run_56 : decode cX8_run 56 = .ok (.ifCond .eq 7, 3) := by decide +kernel
theorem dX8_run_59 : decode cX8_run 59 = .ok (.iconst 1, 1) := by decide +kernel
theorem dX8_run_60 : decode cX8_run 60 = .ok (.goto 4, 3) := by decide +kernel
theorem dX8_run_63 : decode cX8_run 63 = .ok (.iconst 0, 1) := by decide +kernel
theorem dX8_run_64 : decode cX8_run 64 = .ok (.iadd, 1) := by decide +kernel
theorem dX8_run_65 : decode cX8_run 65 = .ok (.putfield 184, 3) := by decide +kernel
theorem dX8_run_68 : decode cX8_run 68 = .ok (.goto (-54), 3) := by decide +kernel
theorem dX8_run_71 : decode cX8_run 71 = .ok (.aload_n 0, 1) := by decide +kernel
theorem dX8_run_72 : decode cX8_run 72 = .ok (.aload_n 0, 1) := by decide +kernel
theorem dX8_run_73 : decode cX8_run 73 = .ok (.getfield 187, 3) := by decide +kernel
theorem dX8_run_76 : decode cX8_run 76 = .ok (.ifCond .ne 14, 3) := by decide +kernel
theorem dX8_run_79 : decode cX8_run 79 = .ok (.aload_n 0, 1) := by decide +kernel
theorem dX8_run_80 : decode cX8_run 80 = .ok (.getfield 184, 3) := by decide +kernel
theorem dX8_run_83 : decode cX8_run 83 = .ok (.aload_n 0, 1) := by decide +kernel
theorem dX8_run_84 : decode cX8_run 84 = .ok (.getfield 181, 3) := by decide +kernel
theorem dX8_run_87 : decode cX8_run 87 = .ok (.if_icmp .ge 7, 3) := by decide +kernel
theorem dX8_run_90 : decode cX8_run 90 = .ok (.iconst 1, 1) := by decide +kernel
theorem dX8_run_91 : decode cX8_run 91 = .ok (.goto 4, 3) := by decide +kernel
theorem dX8_run_94 : decode cX8_run 94 = .ok (.iconst 0, 1) := by decide +kernel
theorem dX8_run_95 : decode cX8_run 95 = .ok (.putfield 187, 3) := by decide +kernel
theorem dX8_run_98 : decode cX8_run 98 = .ok (.aload_n 0, 1) := by decide +kernel
theorem dX8_run_99 : decode cX8_run 99 = .ok (.iconst 0, 1) := by decide +kernel
theorem dX8_run_100 : decode cX8_run 100 = .ok (.putfield 181, 3) := by decide +kernel
theorem dX8_run_103 : decode cX8_run 103 = .ok (.aload_n 0, 1) := by decide +kernel
theorem dX8_run_104 : decode cX8_run 104 = .ok (.aload_n 0, 1) := by decide +kernel
theorem dX8_run_105 : decode cX8_run 105 = .ok (.getfield 187, 3) := by decide +kernel
theorem dX8_run_108 : decode cX8_run 108 = .ok (.ifCond .eq 10, 3) := by decide +kernel
theorem dX8_run_111 : decode cX8_run 111 = .ok (.aload_n 0, 1) := by decide +kernel
theorem dX8_run_112 : decode cX8_run 112 = .ok (.getfield 184, 3) := by decide +kernel
theorem dX8_run_115 : decode cX8_run 115 = .ok (.goto 4, 3) := by decide +kernel
theorem dX8_run_118 : decode cX8_run 118 = .ok (.iconst (-1), 1) := by decide +kernel
theorem dX8_run_119 : decode cX8_run 119 = .ok (.putfield 26, 3) := by decide +kernel
theorem dX8_run_122 : decode cX8_run 122 = .ok (.aload_n 0, 1) := by decide +kernel
theorem dX8_run_123 : decode cX8_run 123 = .ok (.getfield 187, 3) := by decide +kernel
theorem dX8_run_126 : decode cX8_run 126 = .ok (.ifCond .eq 9, 3) := by decide +kernel
theorem dX8_run_129 : decode cX8_run 129 = .ok (.aload_n 0, 1) := by decide +kernel
theorem dX8_run_130 : decode cX8_run 130 = .ok (.iconst 1, 1) := by decide +kernel
theorem dX8_run_131 : decode cX8_run 131 = .ok (.invokevirtual 98, 3) := by decide +kernel
theorem dX8_run_134 : decode cX8_run 134 = .ok (.ireturn, 1) := by decide +kernel
theorem dX8_run_135 : decode cX8_run 135 = .ok (.aload_n 0, 1) := by decide +kernel
theorem dX8_run_136 : decode cX8_run 136 = .ok (.invokevirtual 112, 3) := by decide +kernel
theorem dX8_run_139 : decode cX8_run 139 = .ok (.iconst 0, 1) := by decide +kernel
theorem dX8_run_140 : decode cX8_run 140 = .ok (.istore_n 3, 1) := by decide +kernel
theorem dX8_run_141 : decode cX8_run 141 = .ok (.iload_n 3, 1) := by decide +kernel
theorem dX8_run_142 : decode cX8_run 142 = .ok (.iload_n 1, 1) := by decide +kernel
theorem dX8_run_143 : decode cX8_run 143 = .ok (.if_icmp .ge 48, 3) := by decide +kernel
theorem dX8_run_146 : decode cX8_run 146 = .ok (.aload_n 0, 1) := by decide +kernel
theorem dX8_run_147 : decode cX8_run 147 = .ok (.iconst 3, 1) := by decide +kernel
theorem dX8_run_148 : decode cX8_run 148 = .ok (.iload_n 3, 1) := by decide +kernel
theorem dX8_run_149 : decode cX8_run 149 = .ok (.imul, 1) := by decide +kernel
theorem dX8_run_150 : decode cX8_run 150 = .ok (.invokevirtual 199, 3) := by decide +kernel
theorem dX8_run_153 : decode cX8_run 153 = .ok (.istore 4, 2) := by decide +kernel
theorem dX8_run_155 : decode cX8_run 155 = .ok (.aload_n 0, 1) := by decide +kernel
theorem dX8_run_156 : decode cX8_run 156 = .ok (.getfield 36, 3) := by decide +kernel
theorem dX8_run_159 : decode cX8_run 159 = .ok (.ifCond .eq 26, 3) := by decide +kernel
theorem dX8_run_162 : decode cX8_run 162 = .ok (.aload_n 0, 1) := by decide +kernel
theorem dX8_run_163 : decode cX8_run 163 = .ok (.aload_n 0, 1) := by decide +kernel
theorem dX8_run_164 : decode cX8_run 164 = .ok (.getfield 39, 3) := by decide +kernel
theorem dX8_run_167 : decode cX8_run 167 = .ok (.ifCond .eq 7, 3) := by decide +kernel
theorem dX8_run_170 : decode cX8_run 170 = .ok (.iconst 2, 1) := by decide +kernel
theorem dX8_run_171 : decode cX8_run 171 = .ok (.goto 4, 3) := by decide +kernel
theorem dX8_run_174 : decode cX8_run 174 = .ok (.iconst 1, 1) := by decide +kernel
theorem dX8_run_175 : decode cX8_run 175 = .ok (.putfield 36, 3) := by decide +kernel
theorem dX8_run_178 : decode cX8_run 178 = .ok (.aload_n 0, 1) := by decide +kernel
theorem dX8_run_179 : decode cX8_run 179 = .ok (.iload 4, 2) := by decide +kernel
theorem dX8_run_181 : decode cX8_run 181 = .ok (.invokevirtual 118, 3) := by decide +kernel
theorem dX8_run_184 : decode cX8_run 184 = .ok (.ireturn, 1) := by decide +kernel
theorem dX8_run_185 : decode cX8_run 185 = .ok (.iinc 3 1, 3) := by decide +kernel
theorem dX8_run_188 : decode cX8_run 188 = .ok (.goto (-47), 3) := by decide +kernel
theorem dX8_run_191 : decode cX8_run 191 = .ok (.aload_n 0, 1) := by decide +kernel
theorem dX8_run_192 : decode cX8_run 192 = .ok (.aload_n 0, 1) := by decide +kernel
theorem dX8_run_193 : decode cX8_run 193 = .ok (.iload_n 1, 1) := by decide +kernel
theorem dX8_run_194 : decode cX8_run 194 = .ok (.invokevirtual 105, 3) := by decide +kernel
theorem dX8_run_197 : decode cX8_run 197 = .ok (.invokevirtual 118, 3) := by decide +kernel
theorem dX8_run_200 : decode cX8_run 200 = .ok (.ireturn, 1) := by decide +kernel
theorem dX8_errorPosition_0 : decode cX8_errorPosition 0 = .ok (.aload_n 0, 1) := by decide +kernel
theorem dX8_errorPosition_1 : decode cX8_errorPosition 1 = .ok (.aload_n 0, 1) := by decide +kernel
theorem dX8_errorPosition_2 : decode cX8_errorPosition 2 = .ok (.getfield 26, 3) := by decide +kernel
theorem dX8_errorPosition_5 : decode cX8_errorPosition 5 = .ok (.invokevirtual 105, 3) := by decide +kernel
theorem dX8_errorPosition_8 : decode cX8_errorPosition 8 = .ok (.ireturn, 1) := by decide +kernel
theorem dX8_refusal_0 : decode cX8_refusal 0 = .ok (.aload_n 0, 1) := by decide +kernel
theorem dX8_refusal_1 : decode cX8_refusal 1 = .ok (.getfield 43, 3) := by decide +kernel
theorem dX8_refusal_4 : decode cX8_refusal 4 = .ok (.ifCond .ne 11, 3) := by decide +kernel
theorem dX8_refusal_7 : decode cX8_refusal 7 = .ok (.aload_n 0, 1) := by decide +kernel
theorem dX8_refusal_8 : decode cX8_refusal 8 = .ok (.iconst 1, 1) := by decide +kernel
theorem dX8_refusal_9 : decode cX8_refusal 9 = .ok (.invokevirtual 98, 3) := by decide +kernel
theorem dX8_refusal_12 : decode cX8_refusal 12 = .ok (.goto 22, 3) := by decide +kernel
theorem dX8_refusal_15 : decode cX8_refusal 15 = .ok (.aload_n 0, 1) := by decide +kernel
theorem dX8_refusal_16 : decode cX8_refusal 16 = .ok (.iload_n 1, 1) := by decide +kernel
theorem dX8_refusal_17 : decode cX8_refusal 17 = .ok (.ifCond .eq 10, 3) := by decide +kernel
theorem dX8_refusal_20 : decode cX8_refusal 20 = .ok (.aload_n 0, 1) := by decide +kernel
theorem dX8_refusal_21 : decode cX8_refusal 21 = .ok (.getfield 46, 3) := by decide +kernel
theorem dX8_refusal_24 : decode cX8_refusal 24 = .ok (.goto 7, 3) := by decide +kernel
theorem dX8_refusal_27 : decode cX8_refusal 27 = .ok (.aload_n 0, 1) := by decide +kernel
theorem dX8_refusal_28 : decode cX8_refusal 28 = .ok (.getfield 43, 3) := by decide +kernel
theorem dX8_refusal_31 : decode cX8_refusal 31 = .ok (.invokevirtual 105, 3) := by decide +kernel
theorem dX8_refusal_34 : decode cX8_refusal 34 = .ok (.ireturn, 1) := by decide +kernel
theorem dX8_all_0 : decode cX8_all 0 = .ok (.iconst 0, 1) := by decide +kernel
theorem dX8_all_1 : decode cX8_all 1 = .ok (.istore_n 2, 1) := by decide +kernel
theorem dX8_all_2 : decode cX8_all 2 = .ok (.iconst 0, 1) := by decide +kernel
theorem dX8_all_3 : decode cX8_all 3 = .ok (.istore_n 3, 1) := by decide +kernel
theorem dX8_all_4 : decode cX8_all 4 = .ok (.iload_n 3, 1) := by decide +kernel
theorem dX8_all_5 : decode cX8_all 5 = .ok (.aload_n 0, 1) := by decide +kernel
theorem dX8_all_6 : decode cX8_all 6 = .ok (.getfield 7, 3) := by decide +kernel
theorem dX8_all_9 : decode cX8_all 9 = .ok (.bipush 64, 2) := by decide +kernel
theorem dX8_all_11 : decode cX8_all 11 = .ok (.iaload, 1) := by decide +kernel
theorem dX8_all_12 : decode cX8_all 12 = .ok (.if_icmp .ge 34, 3) := by decide +kernel
theorem dX8_all_15 : decode cX8_all 15 = .ok (.iload_n 2, 1) := by decide +kernel
theorem dX8_all_16 : decode cX8_all 16 = .ok (.iload_n 1, 1) := by decide +kernel
theorem dX8_all_17 : decode cX8_all 17 = .ok (.iconst 1, 1) := by decide +kernel
theorem dX8_all_18 : decode cX8_all 18 = .ok (.if_icmp .ne 15, 3) := by decide +kernel
theorem dX8_all_21 : decode cX8_all 21 = .ok (.aload_n 0, 1) := by decide +kernel
theorem dX8_all_22 : decode cX8_all 22 = .ok (.getfield 7, 3) := by decide +kernel
theorem dX8_all_25 : decode cX8_all 25 = .ok (.bipush 81, 2) := by decide +kernel
theorem dX8_all_27 : decode cX8_all 27 = .ok (.iload_n 3, 1) := by decide +kernel
theorem dX8_all_28 : decode cX8_all 28 = .ok (.iadd, 1) := by decide +kernel
theorem dX8_all_29 : decode cX8_all 29 = .ok (.iaload, 1) := by decide +kernel
theorem dX8_all_30 : decode cX8_all 30 = .ok (.goto 8, 3) := by decide +kernel
theorem dX8_all_33 : decode cX8_all 33 = .ok (.aload_n 0, 1) := by decide +kernel
theorem dX8_all_34 : decode cX8_all 34 = .ok (.iload_n 3, 1) := by decide +kernel
theorem dX8_all_35 : decode cX8_all 35 = .ok (.invokevirtual 157, 3) := by decide +kernel
theorem dX8_all_38 : decode cX8_all 38 = .ok (.iadd, 1) := by decide +kernel
theorem dX8_all_39 : decode cX8_all 39 = .ok (.istore_n 2, 1) := by decide +kernel
theorem dX8_all_40 : decode cX8_all 40 = .ok (.iinc 3 1, 3) := by decide +kernel
theorem dX8_all_43 : decode cX8_all 43 = .ok (.goto (-39), 3) := by decide +kernel
theorem dX8_all_46 : decode cX8_all 46 = .ok (.iload_n 2, 1) := by decide +kernel
theorem dX8_all_47 : decode cX8_all 47 = .ok (.ireturn, 1) := by decide +kernel
theorem dX8_freePieces_0 : decode cX8_freePieces 0 = .ok (.iconst 0, 1) := by decide +kernel
theorem dX8_freePieces_1 : decode cX8_freePieces 1 = .ok (.istore_n 1, 1) := by decide +kernel
theorem dX8_freePieces_2 : decode cX8_freePieces 2 = .ok (.iconst 0, 1) := by decide +kernel
theorem dX8_freePieces_3 : decode cX8_freePieces 3 = .ok (.istore_n 2, 1) := by decide +kernel
theorem dX8_freePieces_4 : decode cX8_freePieces 4 = .ok (.iload_n 2, 1) := by decide +kernel
theorem dX8_freePieces_5 : decode cX8_freePieces 5 = .ok (.bipush 64, 2) := by decide +kernel
theorem dX8_freePieces_7 : decode cX8_freePieces 7 = .ok (.if_icmp .ge 25, 3) := by decide +kernel
theorem dX8_freePieces_10 : decode cX8_freePieces 10 = .ok (.iload_n 1, 1) := by decide +kernel
theorem dX8_freePieces_11 : decode cX8_freePieces 11 = .ok (.aload_n 0, 1) := by decide +kernel
theorem dX8_freePieces_12 : decode cX8_freePieces 12 = .ok (.iload_n 2, 1) := by decide +kernel
theorem dX8_freePieces_13 : decode cX8_freePieces 13 = .ok (.invokevirtual 64, 3) := by decide +kernel
theorem dX8_freePieces_16 : decode cX8_freePieces 16 = .ok (.ifCond .eq 7, 3) := by decide +kernel
theorem dX8_freePieces_19 : decode cX8_freePieces 19 = .ok (.iconst 1, 1) := by decide +kernel
theorem dX8_freePieces_20 : decode cX8_freePieces 20 = .ok (.goto 4, 3) := by decide +kernel
theorem dX8_freePieces_23 : decode cX8_freePieces 23 = .ok (.iconst 0, 1) := by decide +kernel
theorem dX8_freePieces_24 : decode cX8_freePieces 24 = .ok (.iadd, 1) := by decide +kernel
theorem dX8_freePieces_25 : decode cX8_freePieces 25 = .ok (.istore_n 1, 1) := by decide +kernel
theorem dX8_freePieces_26 : decode cX8_freePieces 26 = .ok (.iinc 2 1, 3) := by decide +kernel
theorem dX8_freePieces_29 : decode cX8_freePieces 29 = .ok (.goto (-25), 3) := by decide +kernel
theorem dX8_freePieces_32 : decode cX8_freePieces 32 = .ok (.iload_n 1, 1) := by decide +kernel
theorem dX8_freePieces_33 : decode cX8_freePieces 33 = .ok (.ireturn, 1) := by decide +kernel
theorem dX8_account_0 : decode cX8_account 0 = .ok (.iload_n 1, 1) := by decide +kernel
theorem dX8_account_1 : decode cX8_account 1 = .ok (.tableswitch 165 0 10 #[59, 71, 71, 81, 90, 102, 118, 118, 135, 147, 156], 59) := by decide +kernel
theorem dX8_account_60 : decode cX8_account 60 = .ok (.aload_n 0, 1) := by decide +kernel
theorem dX8_account_61 : decode cX8_account 61 = .ok (.aload_n 0, 1) := by decide +kernel
theorem dX8_account_62 : decode cX8_account 62 = .ok (.getfield 7, 3) := by decide +kernel
theorem dX8_account_65 : decode cX8_account 65 = .ok (.bipush 64, 2) := by decide +kernel
theorem dX8_account_67 : decode cX8_account 67 = .ok (.iaload, 1) := by decide +kernel
theorem dX8_account_68 : decode cX8_account 68 = .ok (.invokevirtual 105, 3) := by decide +kernel
theorem dX8_account_71 : decode cX8_account 71 = .ok (.ireturn, 1) := by decide +kernel
theorem dX8_account_72 : decode cX8_account 72 = .ok (.aload_n 0, 1) := by decide +kernel
theorem dX8_account_73 : decode cX8_account 73 = .ok (.aload_n 0, 1) := by decide +kernel
theorem dX8_account_74 : decode cX8_account 74 = .ok (.iload_n 1, 1) := by decide +kernel
theorem dX8_account_75 : decode cX8_account 75 = .ok (.invokevirtual 202, 3) := by decide +kernel
theorem dX8_account_78 : decode cX8_account 78 = .ok (.invokevirtual 105, 3) := by decide +kernel
theorem dX8_account_81 : decode cX8_account 81 = .ok (.ireturn, 1) := by decide +kernel
theorem dX8_account_82 : decode cX8_account 82 = .ok (.aload_n 0, 1) := by decide +kernel
theorem dX8_account_83 : decode cX8_account 83 = .ok (.aload_n 0, 1) := by decide +kernel
theorem dX8_account_84 : decode cX8_account 84 = .ok (.invokevirtual 205, 3) := by decide +kernel
theorem dX8_account_87 : decode cX8_account 87 = .ok (.invokevirtual 105, 3) := by decide +kernel
theorem dX8_account_90 : decode cX8_account 90 = .ok (.ireturn, 1) := by decide +kernel
theorem dX8_account_91 : decode cX8_account 91 = .ok (.aload_n 0, 1) := by decide +kernel
theorem dX8_account_92 : decode cX8_account 92 = .ok (.aload_n 0, 1) := by decide +kernel
theorem dX8_account_93 : decode cX8_account 93 = .ok (.getfield 7, 3) := by decide +kernel
theorem dX8_account_96 : decode cX8_account 96 = .ok (.bipush 113, 2) := by decide +kernel
theorem dX8_account_98 : decode cX8_account 98 = .ok (.iaload, 1) := by decide +kernel
theorem dX8_account_99 : decode cX8_account 99 = .ok (.invokevirtual 105, 3) := by decide +kernel
theorem dX8_account_102 : decode cX8_account 102 = .ok (.ireturn, 1) := by decide +kernel
theorem dX8_account_103 : decode cX8_account 103 = .ok (.aload_n 0, 1) := by decide +kernel
theorem dX8_account_104 : decode cX8_account 104 = .ok (.aload_n 0, 1) := by decide +kernel
theorem dX8_account_105 : decode cX8_account 105 = .ok (.iconst 2, 1) := by decide +kernel
theorem dX8_account_106 : decode cX8_account 106 = .ok (.invokevirtual 202, 3) := by decide +kernel
theorem dX8_account_109 : decode cX8_account 109 = .ok (.aload_n 0, 1) := by decide +kernel
theorem dX8_account_110 : decode cX8_account 110 = .ok (.iconst 1, 1) := by decide +kernel
theorem dX8_account_111 : decode cX8_account 111 = .ok (.invokevirtual 202, 3) := by decide +kernel
theorem dX8_account_114 : decode cX8_account 114 = .ok (.isub, 1) := by decide +kernel
theorem dX8_account_115 : decode cX8_account 115 = .ok (.invokevirtual 105, 3) := by decide +kernel
theorem dX8_account_118 : decode cX8_account 118 = .ok (.ireturn, 1) := by decide +kernel
theorem dX8_account_119 : decode cX8_account 119 = .ok (.aload_n 0, 1) := by decide +kernel
theorem dX8_account_120 : decode cX8_account 120 = .ok (.aload_n 0, 1) := by decide +kernel
theorem dX8_account_121 : decode cX8_account 121 = .ok (.getfield 7, 3) := by decide +kernel
theorem dX8_account_124 : decode cX8_account 124 = .ok (.bipush 127, 2) := by decide +kernel
theorem dX8_account_126 : decode cX8_account 126 = .ok (.iload_n 1, 1) := by decide +kernel
theorem dX8_account_127 : decode cX8_account 127 = .ok (.iadd, 1) := by decide +kernel
theorem dX8_account_128 : decode cX8_account 128 = .ok (.bipush 6, 2) := by decide +kernel
theorem dX8_account_130 : decode cX8_account 130 = .ok (.isub, 1) := by decide +kernel
theorem dX8_account_131 : decode cX8_account 131 = .ok (.iaload, 1) := by decide +kernel
theorem dX8_account_132 : decode cX8_account 132 = .ok (.invokevirtual 105, 3) := by decide +kernel
theorem dX8_account_135 : decode cX8_account 135 = .ok (.ireturn, 1) := by decide +kernel
theorem dX8_account_136 : decode cX8_account 136 = .ok (.aload_n 0, 1) := by decide +kernel
theorem dX8_account_137 : decode cX8_account 137 = .ok (.aload_n 0, 1) := by decide +kernel
theorem dX8_account_138 : decode cX8_account 138 = .ok (.getfield 7, 3) := by decide +kernel
theorem dX8_account_141 : decode cX8_account 141 = .ok (.bipush 126, 2) := by decide +kernel
theorem dX8_account_143 : decode cX8_account 143 = .ok (.iaload, 1) := by decide +kernel
theorem dX8_account_144 : decode cX8_account 144 = .ok (.invokevirtual 105, 3) := by decide +kernel
theorem dX8_account_147 : decode cX8_account 147 = .ok (.ireturn, 1) := by decide +kernel
theorem dX8_account_148 : decode cX8_account 148 = .ok (.aload_n 0, 1) := by decide +kernel
theorem dX8_account_149 : decode cX8_account 149 = .ok (.aload_n 0, 1) := by decide +kernel
theorem dX8_account_150 : decode cX8_account 150 = .ok (.getfield 181, 3) := by decide +kernel
theorem dX8_account_153 : decode cX8_account 153 = .ok (.invokevirtual 105, 3) := by decide +kernel
theorem dX8_account_156 : decode cX8_account 156 = .ok (.ireturn, 1) := by decide +kernel
theorem dX8_account_157 : decode cX8_account 157 = .ok (.aload_n 0, 1) := by decide +kernel
theorem dX8_account_158 : decode cX8_account 158 = .ok (.aload_n 0, 1) := by decide +kernel
theorem dX8_account_159 : decode cX8_account 159 = .ok (.getfield 53, 3) := by decide +kernel
theorem dX8_account_162 : decode cX8_account 162 = .ok (.invokevirtual 105, 3) := by decide +kernel
theorem dX8_account_165 : decode cX8_account 165 = .ok (.ireturn, 1) := by decide +kernel
theorem dX8_account_166 : decode cX8_account 166 = .ok (.aload_n 0, 1) := by decide +kernel
theorem dX8_account_167 : decode cX8_account 167 = .ok (.iconst 1, 1) := by decide +kernel
theorem dX8_account_168 : decode cX8_account 168 = .ok (.invokevirtual 98, 3) := by decide +kernel
theorem dX8_account_171 : decode cX8_account 171 = .ok (.ireturn, 1) := by decide +kernel
theorem dX8_isWell_0 : decode cX8_isWell 0 = .ok (.aload_n 0, 1) := by decide +kernel
theorem dX8_isWell_1 : decode cX8_isWell 1 = .ok (.iconst 0, 1) := by decide +kernel
theorem dX8_isWell_2 : decode cX8_isWell 2 = .ok (.putfield 36, 3) := by decide +kernel
theorem dX8_isWell_5 : decode cX8_isWell 5 = .ok (.iconst 1, 1) := by decide +kernel
theorem dX8_isWell_6 : decode cX8_isWell 6 = .ok (.ireturn, 1) := by decide +kernel
theorem dX8_meanWaste_0 : decode cX8_meanWaste 0 = .ok (.aload_n 0, 1) := by decide +kernel
theorem dX8_meanWaste_1 : decode cX8_meanWaste 1 = .ok (.aload_n 0, 1) := by decide +kernel
theorem dX8_meanWaste_2 : decode cX8_meanWaste 2 = .ok (.getfield 7, 3) := by decide +kernel
theorem dX8_meanWaste_5 : decode cX8_meanWaste 5 = .ok (.bipush 64, 2) := by decide +kernel
theorem dX8_meanWaste_7 : decode cX8_meanWaste 7 = .ok (.iaload, 1) := by decide +kernel
theorem dX8_meanWaste_8 : decode cX8_meanWaste 8 = .ok (.ifCond .ne 7, 3) := by decide +kernel
theorem dX8_meanWaste_11 : decode cX8_meanWaste 11 = .ok (.iconst 1, 1) := by decide +kernel
theorem dX8_meanWaste_12 : decode cX8_meanWaste 12 = .ok (.goto 4, 3) := by decide +kernel
theorem dX8_meanWaste_15 : decode cX8_meanWaste 15 = .ok (.iconst 0, 1) := by decide +kernel
theorem dX8_meanWaste_16 : decode cX8_meanWaste 16 = .ok (.putfield 36, 3) := by decide +kernel
theorem dX8_meanWaste_19 : decode cX8_meanWaste 19 = .ok (.aload_n 0, 1) := by decide +kernel
theorem dX8_meanWaste_20 : decode cX8_meanWaste 20 = .ok (.getfield 36, 3) := by decide +kernel
theorem dX8_meanWaste_23 : decode cX8_meanWaste 23 = .ok (.ifCond .ne 27, 3) := by decide +kernel
theorem dX8_meanWaste_26 : decode cX8_meanWaste 26 = .ok (.aload_n 0, 1) := by decide +kernel
theorem dX8_meanWaste_27 : decode cX8_meanWaste 27 = .ok (.iconst 2, 1) := by decide +kernel
theorem dX8_meanWaste_28 : decode cX8_meanWaste 28 = .ok (.invokevirtual 202, 3) := by decide +kernel
theorem dX8_meanWaste_31 : decode cX8_meanWaste 31 = .ok (.aload_n 0, 1) := by decide +kernel
theorem dX8_meanWaste_32 : decode cX8_meanWaste 32 = .ok (.iconst 1, 1) := by decide +kernel
theorem dX8_meanWaste_33 : decode cX8_meanWaste 33 = .ok (.invokevirtual 202, 3) := by decide +kernel
theorem dX8_meanWaste_36 : decode cX8_meanWaste 36 = .ok (.isub, 1) := by decide +kernel
theorem dX8_meanWaste_37 : decode cX8_meanWaste 37 = .ok (.i2d, 1) := by decide +kernel
theorem dX8_meanWaste_38 : decode cX8_meanWaste 38 = .ok (.aload_n 0, 1) := by decide +kernel
theorem dX8_meanWaste_39 : decode cX8_meanWaste 39 = .ok (.getfield 7, 3) := by decide +kernel
theorem dX8_meanWaste_42 : decode cX8_meanWaste 42 = .ok (.bipush 64, 2) := by decide +kernel
theorem dX8_meanWaste_44 : decode cX8_meanWaste 44 = .ok (.iaload, 1) := by decide +kernel
theorem dX8_meanWaste_45 : decode cX8_meanWaste 45 = .ok (.i2d, 1) := by decide +kernel
theorem dX8_meanWaste_46 : decode cX8_meanWaste 46 = .ok (.ddiv, 1) := by decide +kernel
theorem dX8_meanWaste_47 : decode cX8_meanWaste 47 = .ok (.goto 4, 3) := by decide +kernel
theorem dX8_meanWaste_50 : decode cX8_meanWaste 50 = .ok (.dconst 0, 1) := by decide +kernel
theorem dX8_meanWaste_51 : decode cX8_meanWaste 51 = .ok (.dreturn, 1) := by decide +kernel
theorem dX8_lentShare_0 : decode cX8_lentShare 0 = .ok (.aload_n 0, 1) := by decide +kernel
theorem dX8_lentShare_1 : decode cX8_lentShare 1 = .ok (.iconst 0, 1) := by decide +kernel
theorem dX8_lentShare_2 : decode cX8_lentShare 2 = .ok (.putfield 36, 3) := by decide +kernel
theorem dX8_lentShare_5 : decode cX8_lentShare 5 = .ok (.aload_n 0, 1) := by decide +kernel
theorem dX8_lentShare_6 : decode cX8_lentShare 6 = .ok (.iconst 2, 1) := by decide +kernel
theorem dX8_lentShare_7 : decode cX8_lentShare 7 = .ok (.invokevirtual 202, 3) := by decide +kernel
theorem dX8_lentShare_10 : decode cX8_lentShare 10 = .ok (.i2f, 1) := by decide +kernel
theorem dX8_lentShare_11 : decode cX8_lentShare 11 = .ok (.ldc 208, 2) := by decide +kernel
theorem dX8_lentShare_13 : decode cX8_lentShare 13 = .ok (.fdiv, 1) := by decide +kernel
theorem dX8_lentShare_14 : decode cX8_lentShare 14 = .ok (.freturn, 1) := by decide +kernel
theorem dX8_undo_0 : decode cX8_undo 0 = .ok (.aload_n 0, 1) := by decide +kernel
theorem dX8_undo_1 : decode cX8_undo 1 = .ok (.getfield 53, 3) := by decide +kernel
theorem dX8_undo_4 : decode cX8_undo 4 = .ok (.ifCond .ne 9, 3) := by decide +kernel
theorem dX8_undo_7 : decode cX8_undo 7 = .ok (.aload_n 0, 1) := by decide +kernel
theorem dX8_undo_8 : decode cX8_undo 8 = .ok (.iconst 1, 1) := by decide +kernel
theorem dX8_undo_9 : decode cX8_undo 9 = .ok (.invokevirtual 98, 3) := by decide +kernel
theorem dX8_undo_12 : decode cX8_undo 12 = .ok (.ireturn, 1) := by decide +kernel
theorem dX8_undo_13 : decode cX8_undo 13 = .ok (.aload_n 0, 1) := by decide +kernel
theorem dX8_undo_14 : decode cX8_undo 14 = .ok (.dup, 1) := by decide +kernel
theorem dX8_undo_15 : decode cX8_undo 15 = .ok (.getfield 53, 3) := by decide +kernel
theorem dX8_undo_18 : decode cX8_undo 18 = .ok (.iconst 1, 1) := by decide +kernel
theorem dX8_undo_19 : decode cX8_undo 19 = .ok (.isub, 1) := by decide +kernel
theorem dX8_undo_20 : decode cX8_undo 20 = .ok (.putfield 53, 3) := by decide +kernel
theorem dX8_undo_23 : decode cX8_undo 23 = .ok (.aload_n 0, 1) := by decide +kernel
theorem dX8_undo_24 : decode cX8_undo 24 = .ok (.getfield 16, 3) := by decide +kernel
theorem dX8_undo_27 : decode cX8_undo 27 = .ok (.aload_n 0, 1) := by decide +kernel
theorem dX8_undo_28 : decode cX8_undo 28 = .ok (.getfield 53, 3) := by decide +kernel
theorem dX8_undo_31 : decode cX8_undo 31 = .ok (.sipush 129, 3) := by decide +kernel
theorem dX8_undo_34 : decode cX8_undo 34 = .ok (.imul, 1) := by decide +kernel
theorem dX8_undo_35 : decode cX8_undo 35 = .ok (.aload_n 0, 1) := by decide +kernel
theorem dX8_undo_36 : decode cX8_undo 36 = .ok (.getfield 7, 3) := by decide +kernel
theorem dX8_undo_39 : decode cX8_undo 39 = .ok (.iconst 0, 1) := by decide +kernel
theorem dX8_undo_40 : decode cX8_undo 40 = .ok (.invokestatic 49, 3) := by decide +kernel
theorem dX8_undo_43 : decode cX8_undo 43 = .ok (.aload_n 0, 1) := by decide +kernel
theorem dX8_undo_44 : decode cX8_undo 44 = .ok (.aload_n 0, 1) := by decide +kernel
theorem dX8_undo_45 : decode cX8_undo 45 = .ok (.getfield 53, 3) := by decide +kernel
theorem dX8_undo_48 : decode cX8_undo 48 = .ok (.invokevirtual 105, 3) := by decide +kernel
theorem dX8_undo_51 : decode cX8_undo 51 = .ok (.ireturn, 1) := by decide +kernel
theorem dX8_save_0 : decode cX8_save 0 = .ok (.aload_n 0, 1) := by decide +kernel
theorem dX8_save_1 : decode cX8_save 1 = .ok (.getfield 7, 3) := by decide +kernel
theorem dX8_save_4 : decode cX8_save 4 = .ok (.iconst 0, 1) := by decide +kernel
theorem dX8_save_5 : decode cX8_save 5 = .ok (.aload_n 0, 1) := by decide +kernel
theorem dX8_save_6 : decode cX8_save 6 = .ok (.getfield 19, 3) := by decide +kernel
theorem dX8_save_9 : decode cX8_save 9 = .ok (.iconst 0, 1) := by decide +kernel
theorem dX8_save_10 : decode cX8_save 10 = .ok (.invokestatic 49, 3) := by decide +kernel
theorem dX8_save_13 : decode cX8_save 13 = .ok (.aload_n 0, 1) := by decide +kernel
theorem dX8_save_14 : decode cX8_save 14 = .ok (.iconst 1, 1) := by decide +kernel
theorem dX8_save_15 : decode cX8_save 15 = .ok (.putfield 209, 3) := by decide +kernel
theorem dX8_save_18 : decode cX8_save 18 = .ok (.aload_n 0, 1) := by decide +kernel
theorem dX8_save_19 : decode cX8_save 19 = .ok (.aload_n 0, 1) := by decide +kernel
theorem dX8_save_20 : decode cX8_save 20 = .ok (.getfield 7, 3) := by decide +kernel
theorem dX8_save_23 : decode cX8_save 23 = .ok (.bipush 64, 2) := by decide +kernel
theorem dX8_save_25 : decode cX8_save 25 = .ok (.iaload, 1) := by decide +kernel
theorem dX8_save_26 : decode cX8_save 26 = .ok (.invokevirtual 105, 3) := by decide +kernel
theorem dX8_save_29 : decode cX8_save 29 = .ok (.ireturn, 1) := by decide +kernel
theorem dX8_restore_0 : decode cX8_restore 0 = .ok (.aload_n 0, 1) := by decide +kernel
theorem dX8_restore_1 : decode cX8_restore 1 = .ok (.getfield 209, 3) := by decide +kernel
theorem dX8_restore_4 : decode cX8_restore 4 = .ok (.ifCond .ne 9, 3) := by decide +kernel
theorem dX8_restore_7 : decode cX8_restore 7 = .ok (.aload_n 0, 1) := by decide +kernel
theorem dX8_restore_8 : decode cX8_restore 8 = .ok (.iconst 1, 1) := by decide +kernel
theorem dX8_restore_9 : decode cX8_restore 9 = .ok (.invokevirtual 98, 3) := by decide +kernel
theorem dX8_restore_12 : decode cX8_restore 12 = .ok (.ireturn, 1) := by decide +kernel
theorem dX8_restore_13 : decode cX8_restore 13 = .ok (.aload_n 0, 1) := by decide +kernel
theorem dX8_restore_14 : decode cX8_restore 14 = .ok (.getfield 19, 3) := by decide +kernel
theorem dX8_restore_17 : decode cX8_restore 17 = .ok (.iconst 0, 1) := by decide +kernel
theorem dX8_restore_18 : decode cX8_restore 18 = .ok (.aload_n 0, 1) := by decide +kernel
theorem dX8_restore_19 : decode cX8_restore 19 = .ok (.getfield 7, 3) := by decide +kernel
theorem dX8_restore_22 : decode cX8_restore 22 = .ok (.iconst 0, 1) := by decide +kernel
theorem dX8_restore_23 : decode cX8_restore 23 = .ok (.invokestatic 49, 3) := by decide +kernel
theorem dX8_restore_26 : decode cX8_restore 26 = .ok (.aload_n 0, 1) := by decide +kernel
theorem dX8_restore_27 : decode cX8_restore 27 = .ok (.iconst 0, 1) := by decide +kernel
theorem dX8_restore_28 : decode cX8_restore 28 = .ok (.putfield 53, 3) := by decide +kernel
theorem dX8_restore_31 : decode cX8_restore 31 = .ok (.aload_n 0, 1) := by decide +kernel
theorem dX8_restore_32 : decode cX8_restore 32 = .ok (.aload_n 0, 1) := by decide +kernel
theorem dX8_restore_33 : decode cX8_restore 33 = .ok (.getfield 7, 3) := by decide +kernel
theorem dX8_restore_36 : decode cX8_restore 36 = .ok (.bipush 64, 2) := by decide +kernel
theorem dX8_restore_38 : decode cX8_restore 38 = .ok (.iaload, 1) := by decide +kernel
theorem dX8_restore_39 : decode cX8_restore 39 = .ok (.invokevirtual 105, 3) := by decide +kernel
theorem dX8_restore_42 : decode cX8_restore 42 = .ok (.ireturn, 1) := by decide +kernel
theorem dL_lend_0 : decode cL_lend 0 = .ok (.aload_n 3, 1) := by decide +kernel
theorem dL_lend_1 : decode cL_lend 1 = .ok (.iconst 0, 1) := by decide +kernel
theorem dL_lend_2 : decode cL_lend 2 = .ok (.aload_n 0, 1) := by decide +kernel
theorem dL_lend_3 : decode cL_lend 3 = .ok (.iload_n 1, 1) := by decide +kernel
theorem dL_lend_4 : decode cL_lend 4 = .ok (.iload_n 2, 1) := by decide +kernel
theorem dL_lend_5 : decode cL_lend 5 = .ok (.invokevirtual 7, 3) := by decide +kernel
theorem dL_lend_8 : decode cL_lend 8 = .ok (.i2l, 1) := by decide +kernel
theorem dL_lend_9 : decode cL_lend 9 = .ok (.lastore, 1) := by decide +kernel
theorem dL_lend_10 : decode cL_lend 10 = .ok (.goto 11, 3) := by decide +kernel
theorem dL_lend_13 : decode cL_lend 13 = .ok (.astore 4, 2) := by decide +kernel
theorem dL_lend_15 : decode cL_lend 15 = .ok (.iconst 1, 1) := by decide +kernel
theorem dL_lend_16 : decode cL_lend 16 = .ok (.ireturn, 1) := by decide +kernel
theorem dL_lend_17 : decode cL_lend 17 = .ok (.astore 4, 2) := by decide +kernel
theorem dL_lend_19 : decode cL_lend 19 = .ok (.iconst 2, 1) := by decide +kernel
theorem dL_lend_20 : decode cL_lend 20 = .ok (.ireturn, 1) := by decide +kernel
theorem dL_lend_21 : decode cL_lend 21 = .ok (.iconst 0, 1) := by decide +kernel
theorem dL_lend_22 : decode cL_lend 22 = .ok (.ireturn, 1) := by decide +kernel
theorem dL_ask_0 : decode cL_ask 0 = .ok (.aload_n 3, 1) := by decide +kernel
theorem dL_ask_1 : decode cL_ask 1 = .ok (.iconst 0, 1) := by decide +kernel
theorem dL_ask_2 : decode cL_ask 2 = .ok (.aload_n 0, 1) := by decide +kernel
theorem dL_ask_3 : decode cL_ask 3 = .ok (.iload_n 1, 1) := by decide +kernel
theorem dL_ask_4 : decode cL_ask 4 = .ok (.iload_n 2, 1) := by decide +kernel
theorem dL_ask_5 : decode cL_ask 5 = .ok (.invokevirtual 17, 3) := by decide +kernel
theorem dL_ask_8 : decode cL_ask 8 = .ok (.i2l, 1) := by decide +kernel
theorem dL_ask_9 : decode cL_ask 9 = .ok (.lastore, 1) := by decide +kernel
theorem dL_ask_10 : decode cL_ask 10 = .ok (.goto 11, 3) := by decide +kernel
theorem dL_ask_13 : decode cL_ask 13 = .ok (.astore 4, 2) := by decide +kernel
theorem dL_ask_15 : decode cL_ask 15 = .ok (.iconst 1, 1) := by decide +kernel
theorem dL_ask_16 : decode cL_ask 16 = .ok (.ireturn, 1) := by decide +kernel
theorem dL_ask_17 : decode cL_ask 17 = .ok (.astore 4, 2) := by decide +kernel
theorem dL_ask_19 : decode cL_ask 19 = .ok (.iconst 2, 1) := by decide +kernel
theorem dL_ask_20 : decode cL_ask 20 = .ok (.ireturn, 1) := by decide +kernel
theorem dL_ask_21 : decode cL_ask 21 = .ok (.iconst 0, 1) := by decide +kernel
theorem dL_ask_22 : decode cL_ask 22 = .ok (.ireturn, 1) := by decide +kernel
theorem dL_give_0 : decode cL_give 0 = .ok (.aload_n 2, 1) := by decide +kernel
theorem dL_give_1 : decode cL_give 1 = .ok (.iconst 0, 1) := by decide +kernel
theorem dL_give_2 : decode cL_give 2 = .ok (.aload_n 0, 1) := by decide +kernel
theorem dL_give_3 : decode cL_give 3 = .ok (.iload_n 1, 1) := by decide +kernel
theorem dL_give_4 : decode cL_give 4 = .ok (.invokevirtual 20, 3) := by decide +kernel
theorem dL_give_7 : decode cL_give 7 = .ok (.i2l, 1) := by decide +kernel
theorem dL_give_8 : decode cL_give 8 = .ok (.lastore, 1) := by decide +kernel
theorem dL_give_9 : decode cL_give 9 = .ok (.goto 6, 3) := by decide +kernel
theorem dL_give_12 : decode cL_give 12 = .ok (.astore_n 3, 1) := by decide +kernel
theorem dL_give_13 : decode cL_give 13 = .ok (.iconst 1, 1) := by decide +kernel
theorem dL_give_14 : decode cL_give 14 = .ok (.ireturn, 1) := by decide +kernel
theorem dL_give_15 : decode cL_give 15 = .ok (.iconst 0, 1) := by decide +kernel
theorem dL_give_16 : decode cL_give 16 = .ok (.ireturn, 1) := by decide +kernel
theorem dL_giveAll_0 : decode cL_giveAll 0 = .ok (.aload_n 2, 1) := by decide +kernel
theorem dL_giveAll_1 : decode cL_giveAll 1 = .ok (.iconst 0, 1) := by decide +kernel
theorem dL_giveAll_2 : decode cL_giveAll 2 = .ok (.aload_n 0, 1) := by decide +kernel
theorem dL_giveAll_3 : decode cL_giveAll 3 = .ok (.iload_n 1, 1) := by decide +kernel
theorem dL_giveAll_4 : decode cL_giveAll 4 = .ok (.invokevirtual 26, 3) := by decide +kernel
theorem dL_giveAll_7 : decode cL_giveAll 7 = .ok (.i2l, 1) := by decide +kernel
theorem dL_giveAll_8 : decode cL_giveAll 8 = .ok (.lastore, 1) := by decide +kernel
theorem dL_giveAll_9 : decode cL_giveAll 9 = .ok (.goto 9, 3) := by decide +kernel
theorem dL_giveAll_12 : decode cL_giveAll 12 = .ok (.astore_n 3, 1) := by decide +kernel
theorem dL_giveAll_13 : decode cL_giveAll 13 = .ok (.iconst 1, 1) := by decide +kernel
theorem dL_giveAll_14 : decode cL_giveAll 14 = .ok (.ireturn, 1) := by decide +kernel
theorem dL_giveAll_15 : decode cL_giveAll 15 = .ok (.astore_n 3, 1) := by decide +kernel
theorem dL_giveAll_16 : decode cL_giveAll 16 = .ok (.iconst 2, 1) := by decide +kernel
theorem dL_giveAll_17 : decode cL_giveAll 17 = .ok (.ireturn, 1) := by decide +kernel
theorem dL_giveAll_18 : decode cL_giveAll 18 = .ok (.iconst 0, 1) := by decide +kernel
theorem dL_giveAll_19 : decode cL_giveAll 19 = .ok (.ireturn, 1) := by decide +kernel
theorem dL_resize_0 : decode cL_resize 0 = .ok (.aload_n 3, 1) := by decide +kernel
theorem dL_resize_1 : decode cL_resize 1 = .ok (.iconst 0, 1) := by decide +kernel
theorem dL_resize_2 : decode cL_resize 2 = .ok (.aload_n 0, 1) := by decide +kernel
theorem dL_resize_3 : decode cL_resize 3 = .ok (.iload_n 1, 1) := by decide +kernel
theorem dL_resize_4 : decode cL_resize 4 = .ok (.iload_n 2, 1) := by decide +kernel
theorem dL_resize_5 : decode cL_resize 5 = .ok (.invokevirtual 29, 3) := by decide +kernel
theorem dL_resize_8 : decode cL_resize 8 = .ok (.i2l, 1) := by decide +kernel
theorem dL_resize_9 : decode cL_resize 9 = .ok (.lastore, 1) := by decide +kernel
theorem dL_resize_10 : decode cL_resize 10 = .ok (.goto 15, 3) := by decide +kernel
theorem dL_resize_13 : decode cL_resize 13 = .ok (.astore 4, 2) := by decide +kernel
theorem dL_resize_15 : decode cL_resize 15 = .ok (.iconst 1, 1) := by decide +kernel
theorem dL_resize_16 : decode cL_resize 16 = .ok (.ireturn, 1) := by decide +kernel
theorem dL_resize_17 : decode cL_resize 17 = .ok (.astore 4, 2) := by decide +kernel
theorem dL_resize_19 : decode cL_resize 19 = .ok (.iconst 2, 1) := by decide +kernel
theorem dL_resize_20 : decode cL_resize 20 = .ok (.ireturn, 1) := by decide +kernel
theorem dL_resize_21 : decode cL_resize 21 = .ok (.astore 4, 2) := by decide +kernel
theorem dL_resize_23 : decode cL_resize 23 = .ok (.iconst 3, 1) := by decide +kernel
theorem dL_resize_24 : decode cL_resize 24 = .ok (.ireturn, 1) := by decide +kernel
theorem dL_resize_25 : decode cL_resize 25 = .ok (.iconst 0, 1) := by decide +kernel
theorem dL_resize_26 : decode cL_resize 26 = .ok (.ireturn, 1) := by decide +kernel
theorem dL_way_0 : decode cL_way 0 = .ok (.aload_n 2, 1) := by decide +kernel
theorem dL_way_1 : decode cL_way 1 = .ok (.iconst 0, 1) := by decide +kernel
theorem dL_way_2 : decode cL_way 2 = .ok (.aload_n 0, 1) := by decide +kernel
theorem dL_way_3 : decode cL_way 3 = .ok (.iload_n 1, 1) := by decide +kernel
theorem dL_way_4 : decode cL_way 4 = .ok (.invokevirtual 32, 3) := by decide +kernel
theorem dL_way_7 : decode cL_way 7 = .ok (.i2l, 1) := by decide +kernel
theorem dL_way_8 : decode cL_way 8 = .ok (.lastore, 1) := by decide +kernel
theorem dL_way_9 : decode cL_way 9 = .ok (.goto 9, 3) := by decide +kernel
theorem dL_way_12 : decode cL_way 12 = .ok (.astore_n 3, 1) := by decide +kernel
theorem dL_way_13 : decode cL_way 13 = .ok (.iconst 1, 1) := by decide +kernel
theorem dL_way_14 : decode cL_way 14 = .ok (.ireturn, 1) := by decide +kernel
theorem dL_way_15 : decode cL_way 15 = .ok (.astore_n 3, 1) := by decide +kernel
theorem dL_way_16 : decode cL_way 16 = .ok (.iconst 2, 1) := by decide +kernel
theorem dL_way_17 : decode cL_way 17 = .ok (.ireturn, 1) := by decide +kernel
theorem dL_way_18 : decode cL_way 18 = .ok (.iconst 0, 1) := by decide +kernel
theorem dL_way_19 : decode cL_way 19 = .ok (.ireturn, 1) := by decide +kernel
theorem dL_forget_0 : decode cL_forget 0 = .ok (.aload_n 2, 1) := by decide +kernel
theorem dL_forget_1 : decode cL_forget 1 = .ok (.iconst 0, 1) := by decide +kernel
theorem dL_forget_2 : decode cL_forget 2 = .ok (.aload_n 0, 1) := by decide +kernel
theorem dL_forget_3 : decode cL_forget 3 = .ok (.iload_n 1, 1) := by decide +kernel
theorem dL_forget_4 : decode cL_forget 4 = .ok (.invokevirtual 35, 3) := by decide +kernel
theorem dL_forget_7 : decode cL_forget 7 = .ok (.i2l, 1) := by decide +kernel
theorem dL_forget_8 : decode cL_forget 8 = .ok (.lastore, 1) := by decide +kernel
theorem dL_forget_9 : decode cL_forget 9 = .ok (.goto 6, 3) := by decide +kernel
theorem dL_forget_12 : decode cL_forget 12 = .ok (.astore_n 3, 1) := by decide +kernel
theorem dL_forget_13 : decode cL_forget 13 = .ok (.iconst 1, 1) := by decide +kernel
theorem dL_forget_14 : decode cL_forget 14 = .ok (.ireturn, 1) := by decide +kernel
theorem dL_forget_15 : decode cL_forget 15 = .ok (.iconst 0, 1) := by decide +kernel
theorem dL_forget_16 : decode cL_forget 16 = .ok (.ireturn, 1) := by decide +kernel
theorem dL_loanOf_0 : decode cL_loanOf 0 = .ok (.aload_n 3, 1) := by decide +kernel
theorem dL_loanOf_1 : decode cL_loanOf 1 = .ok (.iconst 0, 1) := by decide +kernel
theorem dL_loanOf_2 : decode cL_loanOf 2 = .ok (.aload_n 0, 1) := by decide +kernel
theorem dL_loanOf_3 : decode cL_loanOf 3 = .ok (.iload_n 1, 1) := by decide +kernel
theorem dL_loanOf_4 : decode cL_loanOf 4 = .ok (.iload_n 2, 1) := by decide +kernel
theorem dL_loanOf_5 : decode cL_loanOf 5 = .ok (.invokevirtual 38, 3) := by decide +kernel
theorem dL_loanOf_8 : decode cL_loanOf 8 = .ok (.i2l, 1) := by decide +kernel
theorem dL_loanOf_9 : decode cL_loanOf 9 = .ok (.lastore, 1) := by decide +kernel
theorem dL_loanOf_10 : decode cL_loanOf 10 = .ok (.goto 11, 3) := by decide +kernel
theorem dL_loanOf_13 : decode cL_loanOf 13 = .ok (.astore 4, 2) := by decide +kernel
theorem dL_loanOf_15 : decode cL_loanOf 15 = .ok (.iconst 1, 1) := by decide +kernel
theorem dL_loanOf_16 : decode cL_loanOf 16 = .ok (.ireturn, 1) := by decide +kernel
theorem dL_loanOf_17 : decode cL_loanOf 17 = .ok (.astore 4, 2) := by decide +kernel
theorem dL_loanOf_19 : decode cL_loanOf 19 = .ok (.iconst 2, 1) := by decide +kernel
theorem dL_loanOf_20 : decode cL_loanOf 20 = .ok (.ireturn, 1) := by decide +kernel
theorem dL_loanOf_21 : decode cL_loanOf 21 = .ok (.iconst 0, 1) := by decide +kernel
theorem dL_loanOf_22 : decode cL_loanOf 22 = .ok (.ireturn, 1) := by decide +kernel
theorem dL_nameOf_0 : decode cL_nameOf 0 = .ok (.aload_n 3, 1) := by decide +kernel
theorem dL_nameOf_1 : decode cL_nameOf 1 = .ok (.iconst 0, 1) := by decide +kernel
theorem dL_nameOf_2 : decode cL_nameOf 2 = .ok (.aload_n 0, 1) := by decide +kernel
theorem dL_nameOf_3 : decode cL_nameOf 3 = .ok (.iload_n 1, 1) := by decide +kernel
theorem dL_nameOf_4 : decode cL_nameOf 4 = .ok (.iload_n 2, 1) := by decide +kernel
theorem dL_nameOf_5 : decode cL_nameOf 5 = .ok (.invokevirtual 41, 3) := by decide +kernel
theorem dL_nameOf_8 : decode cL_nameOf 8 = .ok (.i2l, 1) := by decide +kernel
theorem dL_nameOf_9 : decode cL_nameOf 9 = .ok (.lastore, 1) := by decide +kernel
theorem dL_nameOf_10 : decode cL_nameOf 10 = .ok (.goto 11, 3) := by decide +kernel
theorem dL_nameOf_13 : decode cL_nameOf 13 = .ok (.astore 4, 2) := by decide +kernel
theorem dL_nameOf_15 : decode cL_nameOf 15 = .ok (.iconst 1, 1) := by decide +kernel
theorem dL_nameOf_16 : decode cL_nameOf 16 = .ok (.ireturn, 1) := by decide +kernel
theorem dL_nameOf_17 : decode cL_nameOf 17 = .ok (.astore 4, 2) := by decide +kernel
theorem dL_nameOf_19 : decode cL_nameOf 19 = .ok (.iconst 2, 1) := by decide +kernel
theorem dL_nameOf_20 : decode cL_nameOf 20 = .ok (.ireturn, 1) := by decide +kernel
theorem dL_nameOf_21 : decode cL_nameOf 21 = .ok (.iconst 0, 1) := by decide +kernel
theorem dL_nameOf_22 : decode cL_nameOf 22 = .ok (.ireturn, 1) := by decide +kernel
theorem dL_waitingOf_0 : decode cL_waitingOf 0 = .ok (.aload_n 3, 1) := by decide +kernel
theorem dL_waitingOf_1 : decode cL_waitingOf 1 = .ok (.iconst 0, 1) := by decide +kernel
theorem dL_waitingOf_2 : decode cL_waitingOf 2 = .ok (.aload_n 0, 1) := by decide +kernel
theorem dL_waitingOf_3 : decode cL_waitingOf 3 = .ok (.iload_n 1, 1) := by decide +kernel
theorem dL_waitingOf_4 : decode cL_waitingOf 4 = .ok (.iload_n 2, 1) := by decide +kernel
theorem dL_waitingOf_5 : decode cL_waitingOf 5 = .ok (.invokevirtual 44, 3) := by decide +kernel
theorem dL_waitingOf_8 : decode cL_waitingOf 8 = .ok (.i2l, 1) := by decide +kernel
theorem dL_waitingOf_9 : decode cL_waitingOf 9 = .ok (.lastore, 1) := by decide +kernel
theorem dL_waitingOf_10 : decode cL_waitingOf 10 = .ok (.goto 11, 3) := by decide +kernel
theorem dL_waitingOf_13 : decode cL_waitingOf 13 = .ok (.astore 4, 2) := by decide +kernel
theorem dL_waitingOf_15 : decode cL_waitingOf 15 = .ok (.iconst 1, 1) := by decide +kernel
theorem dL_waitingOf_16 : decode cL_waitingOf 16 = .ok (.ireturn, 1) := by decide +kernel
theorem dL_waitingOf_17 : decode cL_waitingOf 17 = .ok (.astore 4, 2) := by decide +kernel
theorem dL_waitingOf_19 : decode cL_waitingOf 19 = .ok (.iconst 2, 1) := by decide +kernel
theorem dL_waitingOf_20 : decode cL_waitingOf 20 = .ok (.ireturn, 1) := by decide +kernel
theorem dL_waitingOf_21 : decode cL_waitingOf 21 = .ok (.iconst 0, 1) := by decide +kernel
theorem dL_waitingOf_22 : decode cL_waitingOf 22 = .ok (.ireturn, 1) := by decide +kernel
theorem dL_pieceOf_0 : decode cL_pieceOf 0 = .ok (.aload_n 3, 1) := by decide +kernel
theorem dL_pieceOf_1 : decode cL_pieceOf 1 = .ok (.iconst 0, 1) := by decide +kernel
theorem dL_pieceOf_2 : decode cL_pieceOf 2 = .ok (.aload_n 0, 1) := by decide +kernel
theorem dL_pieceOf_3 : decode cL_pieceOf 3 = .ok (.iload_n 1, 1) := by decide +kernel
theorem dL_pieceOf_4 : decode cL_pieceOf 4 = .ok (.iload_n 2, 1) := by decide +kernel
theorem dL_pieceOf_5 : decode cL_pieceOf 5 = .ok (.invokevirtual 49, 3) := by decide +kernel
theorem dL_pieceOf_8 : decode cL_pieceOf 8 = .ok (.i2l, 1) := by decide +kernel
theorem dL_pieceOf_9 : decode cL_pieceOf 9 = .ok (.lastore, 1) := by decide +kernel
theorem dL_pieceOf_10 : decode cL_pieceOf 10 = .ok (.goto 11, 3) := by decide +kernel
theorem dL_pieceOf_13 : decode cL_pieceOf 13 = .ok (.astore 4, 2) := by decide +kernel
theorem dL_pieceOf_15 : decode cL_pieceOf 15 = .ok (.iconst 1, 1) := by decide +kernel
theorem dL_pieceOf_16 : decode cL_pieceOf 16 = .ok (.ireturn, 1) := by decide +kernel
theorem dL_pieceOf_17 : decode cL_pieceOf 17 = .ok (.astore 4, 2) := by decide +kernel
theorem dL_pieceOf_19 : decode cL_pieceOf 19 = .ok (.iconst 2, 1) := by decide +kernel
theorem dL_pieceOf_20 : decode cL_pieceOf 20 = .ok (.ireturn, 1) := by decide +kernel
theorem dL_pieceOf_21 : decode cL_pieceOf 21 = .ok (.iconst 0, 1) := by decide +kernel
theorem dL_pieceOf_22 : decode cL_pieceOf 22 = .ok (.ireturn, 1) := by decide +kernel
theorem dL_free_0 : decode cL_free 0 = .ok (.aload_n 3, 1) := by decide +kernel
theorem dL_free_1 : decode cL_free 1 = .ok (.iconst 0, 1) := by decide +kernel
theorem dL_free_2 : decode cL_free 2 = .ok (.aload_n 0, 1) := by decide +kernel
theorem dL_free_3 : decode cL_free 3 = .ok (.iload_n 1, 1) := by decide +kernel
theorem dL_free_4 : decode cL_free 4 = .ok (.iload_n 2, 1) := by decide +kernel
theorem dL_free_5 : decode cL_free 5 = .ok (.invokevirtual 52, 3) := by decide +kernel
theorem dL_free_8 : decode cL_free 8 = .ok (.i2l, 1) := by decide +kernel
theorem dL_free_9 : decode cL_free 9 = .ok (.lastore, 1) := by decide +kernel
theorem dL_free_10 : decode cL_free 10 = .ok (.goto 7, 3) := by decide +kernel
theorem dL_free_13 : decode cL_free 13 = .ok (.astore 4, 2) := by decide +kernel
theorem dL_free_15 : decode cL_free 15 = .ok (.iconst 1, 1) := by decide +kernel
theorem dL_free_16 : decode cL_free 16 = .ok (.ireturn, 1) := by decide +kernel
theorem dL_free_17 : decode cL_free 17 = .ok (.iconst 0, 1) := by decide +kernel
theorem dL_free_18 : decode cL_free 18 = .ok (.ireturn, 1) := by decide +kernel
theorem dL_greatest_0 : decode cL_greatest 0 = .ok (.aload_n 1, 1) := by decide +kernel
theorem dL_greatest_1 : decode cL_greatest 1 = .ok (.iconst 0, 1) := by decide +kernel
theorem dL_greatest_2 : decode cL_greatest 2 = .ok (.aload_n 0, 1) := by decide +kernel
theorem dL_greatest_3 : decode cL_greatest 3 = .ok (.invokevirtual 56, 3) := by decide +kernel
theorem dL_greatest_6 : decode cL_greatest 6 = .ok (.i2l, 1) := by decide +kernel
theorem dL_greatest_7 : decode cL_greatest 7 = .ok (.lastore, 1) := by decide +kernel
theorem dL_greatest_8 : decode cL_greatest 8 = .ok (.goto 6, 3) := by decide +kernel
theorem dL_greatest_11 : decode cL_greatest 11 = .ok (.astore_n 2, 1) := by decide +kernel
theorem dL_greatest_12 : decode cL_greatest 12 = .ok (.iconst 1, 1) := by decide +kernel
theorem dL_greatest_13 : decode cL_greatest 13 = .ok (.ireturn, 1) := by decide +kernel
theorem dL_greatest_14 : decode cL_greatest 14 = .ok (.iconst 0, 1) := by decide +kernel
theorem dL_greatest_15 : decode cL_greatest 15 = .ok (.ireturn, 1) := by decide +kernel
theorem dL_would_0 : decode cL_would 0 = .ok (.aload_n 2, 1) := by decide +kernel
theorem dL_would_1 : decode cL_would 1 = .ok (.iconst 0, 1) := by decide +kernel
theorem dL_would_2 : decode cL_would 2 = .ok (.aload_n 0, 1) := by decide +kernel
theorem dL_would_3 : decode cL_would 3 = .ok (.iload_n 1, 1) := by decide +kernel
theorem dL_would_4 : decode cL_would 4 = .ok (.invokevirtual 60, 3) := by decide +kernel
theorem dL_would_7 : decode cL_would 7 = .ok (.i2l, 1) := by decide +kernel
theorem dL_would_8 : decode cL_would 8 = .ok (.lastore, 1) := by decide +kernel
theorem dL_would_9 : decode cL_would 9 = .ok (.goto 9, 3) := by decide +kernel
theorem dL_would_12 : decode cL_would 12 = .ok (.astore_n 3, 1) := by decide +kernel
theorem dL_would_13 : decode cL_would 13 = .ok (.iconst 1, 1) := by decide +kernel
theorem dL_would_14 : decode cL_would 14 = .ok (.ireturn, 1) := by decide +kernel
theorem dL_would_15 : decode cL_would 15 = .ok (.astore_n 3, 1) := by decide +kernel
theorem dL_would_16 : decode cL_would 16 = .ok (.iconst 2, 1) := by decide +kernel
theorem dL_would_17 : decode cL_would 17 = .ok (.ireturn, 1) := by decide +kernel
theorem dL_would_18 : decode cL_would 18 = .ok (.iconst 0, 1) := by decide +kernel
theorem dL_would_19 : decode cL_would 19 = .ok (.ireturn, 1) := by decide +kernel
theorem dL_cuts_0 : decode cL_cuts 0 = .ok (.aload_n 2, 1) := by decide +kernel
theorem dL_cuts_1 : decode cL_cuts 1 = .ok (.iconst 0, 1) := by decide +kernel
theorem dL_cuts_2 : decode cL_cuts 2 = .ok (.aload_n 0, 1) := by decide +kernel
theorem dL_cuts_3 : decode cL_cuts 3 = .ok (.iload_n 1, 1) := by decide +kernel
theorem dL_cuts_4 : decode cL_cuts 4 = .ok (.invokevirtual 63, 3) := by decide +kernel
theorem dL_cuts_7 : decode cL_cuts 7 = .ok (.i2l, 1) := by decide +kernel
theorem dL_cuts_8 : decode cL_cuts 8 = .ok (.lastore, 1) := by decide +kernel
theorem dL_cuts_9 : decode cL_cuts 9 = .ok (.goto 9, 3) := by decide +kernel
theorem dL_cuts_12 : decode cL_cuts 12 = .ok (.astore_n 3, 1) := by decide +kernel
theorem dL_cuts_13 : decode cL_cuts 13 = .ok (.iconst 1, 1) := by decide +kernel
theorem dL_cuts_14 : decode cL_cuts 14 = .ok (.ireturn, 1) := by decide +kernel
theorem dL_cuts_15 : decode cL_cuts 15 = .ok (.astore_n 3, 1) := by decide +kernel
theorem dL_cuts_16 : decode cL_cuts 16 = .ok (.iconst 2, 1) := by decide +kernel
theorem dL_cuts_17 : decode cL_cuts 17 = .ok (.ireturn, 1) := by decide +kernel
theorem dL_cuts_18 : decode cL_cuts 18 = .ok (.iconst 0, 1) := by decide +kernel
theorem dL_cuts_19 : decode cL_cuts 19 = .ok (.ireturn, 1) := by decide +kernel
theorem dL_fits_0 : decode cL_fits 0 = .ok (.aload_n 2, 1) := by decide +kernel
theorem dL_fits_1 : decode cL_fits 1 = .ok (.iconst 0, 1) := by decide +kernel
theorem dL_fits_2 : decode cL_fits 2 = .ok (.aload_n 0, 1) := by decide +kernel
theorem dL_fits_3 : decode cL_fits 3 = .ok (.iload_n 1, 1) := by decide +kernel
theorem dL_fits_4 : decode cL_fits 4 = .ok (.invokevirtual 66, 3) := by decide +kernel
theorem dL_fits_7 : decode cL_fits 7 = .ok (.i2l, 1) := by decide +kernel
theorem dL_fits_8 : decode cL_fits 8 = .ok (.lastore, 1) := by decide +kernel
theorem dL_fits_9 : decode cL_fits 9 = .ok (.goto 6, 3) := by decide +kernel
theorem dL_fits_12 : decode cL_fits 12 = .ok (.astore_n 3, 1) := by decide +kernel
theorem dL_fits_13 : decode cL_fits 13 = .ok (.iconst 1, 1) := by decide +kernel
theorem dL_fits_14 : decode cL_fits 14 = .ok (.ireturn, 1) := by decide +kernel
theorem dL_fits_15 : decode cL_fits 15 = .ok (.iconst 0, 1) := by decide +kernel
theorem dL_fits_16 : decode cL_fits 16 = .ok (.ireturn, 1) := by decide +kernel
theorem dL_hole_0 : decode cL_hole 0 = .ok (.aload_n 2, 1) := by decide +kernel
theorem dL_hole_1 : decode cL_hole 1 = .ok (.iconst 0, 1) := by decide +kernel
theorem dL_hole_2 : decode cL_hole 2 = .ok (.aload_n 0, 1) := by decide +kernel
theorem dL_hole_3 : decode cL_hole 3 = .ok (.iload_n 1, 1) := by decide +kernel
theorem dL_hole_4 : decode cL_hole 4 = .ok (.invokevirtual 69, 3) := by decide +kernel
theorem dL_hole_7 : decode cL_hole 7 = .ok (.i2l, 1) := by decide +kernel
theorem dL_hole_8 : decode cL_hole 8 = .ok (.lastore, 1) := by decide +kernel
theorem dL_hole_9 : decode cL_hole 9 = .ok (.goto 6, 3) := by decide +kernel
theorem dL_hole_12 : decode cL_hole 12 = .ok (.astore_n 3, 1) := by decide +kernel
theorem dL_hole_13 : decode cL_hole 13 = .ok (.iconst 1, 1) := by decide +kernel
theorem dL_hole_14 : decode cL_hole 14 = .ok (.ireturn, 1) := by decide +kernel
theorem dL_hole_15 : decode cL_hole 15 = .ok (.iconst 0, 1) := by decide +kernel
theorem dL_hole_16 : decode cL_hole 16 = .ok (.ireturn, 1) := by decide +kernel
theorem dL_inTheWay_0 : decode cL_inTheWay 0 = .ok (.aload_n 2, 1) := by decide +kernel
theorem dL_inTheWay_1 : decode cL_inTheWay 1 = .ok (.iconst 0, 1) := by decide +kernel
theorem dL_inTheWay_2 : decode cL_inTheWay 2 = .ok (.aload_n 0, 1) := by decide +kernel
theorem dL_inTheWay_3 : decode cL_inTheWay 3 = .ok (.iload_n 1, 1) := by decide +kernel
theorem dL_inTheWay_4 : decode cL_inTheWay 4 = .ok (.invokevirtual 72, 3) := by decide +kernel
theorem dL_inTheWay_7 : decode cL_inTheWay 7 = .ok (.i2l, 1) := by decide +kernel
theorem dL_inTheWay_8 : decode cL_inTheWay 8 = .ok (.lastore, 1) := by decide +kernel
theorem dL_inTheWay_9 : decode cL_inTheWay 9 = .ok (.goto 6, 3) := by decide +kernel
theorem dL_inTheWay_12 : decode cL_inTheWay 12 = .ok (.astore_n 3, 1) := by decide +kernel
theorem dL_inTheWay_13 : decode cL_inTheWay 13 = .ok (.iconst 1, 1) := by decide +kernel
theorem dL_inTheWay_14 : decode cL_inTheWay 14 = .ok (.ireturn, 1) := by decide +kernel
theorem dL_inTheWay_15 : decode cL_inTheWay 15 = .ok (.iconst 0, 1) := by decide +kernel
theorem dL_inTheWay_16 : decode cL_inTheWay 16 = .ok (.ireturn, 1) := by decide +kernel
theorem dL_ranked_0 : decode cL_ranked 0 = .ok (.aload_n 2, 1) := by decide +kernel
theorem dL_ranked_1 : decode cL_ranked 1 = .ok (.iconst 0, 1) := by decide +kernel
theorem dL_ranked_2 : decode cL_ranked 2 = .ok (.aload_n 0, 1) := by decide +kernel
theorem dL_ranked_3 : decode cL_ranked 3 = .ok (.iload_n 1, 1) := by decide +kernel
theorem dL_ranked_4 : decode cL_ranked 4 = .ok (.invokevirtual 75, 3) := by decide +kernel
theorem dL_ranked_7 : decode cL_ranked 7 = .ok (.i2l, 1) := by decide +kernel
theorem dL_ranked_8 : decode cL_ranked 8 = .ok (.lastore, 1) := by decide +kernel
theorem dL_ranked_9 : decode cL_ranked 9 = .ok (.goto 6, 3) := by decide +kernel
theorem dL_ranked_12 : decode cL_ranked 12 = .ok (.astore_n 3, 1) := by decide +kernel
theorem dL_ranked_13 : decode cL_ranked 13 = .ok (.iconst 1, 1) := by decide +kernel
theorem dL_ranked_14 : decode cL_ranked 14 = .ok (.ireturn, 1) := by decide +kernel
theorem dL_ranked_15 : decode cL_ranked 15 = .ok (.iconst 0, 1) := by decide +kernel
theorem dL_ranked_16 : decode cL_ranked 16 = .ok (.ireturn, 1) := by decide +kernel
theorem dL_character_0 : decode cL_character 0 = .ok (.aload_n 2, 1) := by decide +kernel
theorem dL_character_1 : decode cL_character 1 = .ok (.iconst 0, 1) := by decide +kernel
theorem dL_character_2 : decode cL_character 2 = .ok (.aload_n 0, 1) := by decide +kernel
theorem dL_character_3 : decode cL_character 3 = .ok (.iload_n 1, 1) := by decide +kernel
theorem dL_character_4 : decode cL_character 4 = .ok (.invokevirtual 78, 3) := by decide +kernel
theorem dL_character_7 : decode cL_character 7 = .ok (.i2l, 1) := by decide +kernel
theorem dL_character_8 : decode cL_character 8 = .ok (.lastore, 1) := by decide +kernel
theorem dL_character_9 : decode cL_character 9 = .ok (.goto 6, 3) := by decide +kernel
theorem dL_character_12 : decode cL_character 12 = .ok (.astore_n 3, 1) := by decide +kernel
theorem dL_character_13 : decode cL_character 13 = .ok (.iconst 1, 1) := by decide +kernel
theorem dL_character_14 : decode cL_character 14 = .ok (.ireturn, 1) := by decide +kernel
theorem dL_character_15 : decode cL_character 15 = .ok (.iconst 0, 1) := by decide +kernel
theorem dL_character_16 : decode cL_character 16 = .ok (.ireturn, 1) := by decide +kernel
theorem dL_append_0 : decode cL_append 0 = .ok (.aload_n 2, 1) := by decide +kernel
theorem dL_append_1 : decode cL_append 1 = .ok (.iconst 0, 1) := by decide +kernel
theorem dL_append_2 : decode cL_append 2 = .ok (.aload_n 0, 1) := by decide +kernel
theorem dL_append_3 : decode cL_append 3 = .ok (.iload_n 1, 1) := by decide +kernel
theorem dL_append_4 : decode cL_append 4 = .ok (.invokevirtual 82, 3) := by decide +kernel
theorem dL_append_7 : decode cL_append 7 = .ok (.i2l, 1) := by decide +kernel
theorem dL_append_8 : decode cL_append 8 = .ok (.lastore, 1) := by decide +kernel
theorem dL_append_9 : decode cL_append 9 = .ok (.goto 6, 3) := by decide +kernel
theorem dL_append_12 : decode cL_append 12 = .ok (.astore_n 3, 1) := by decide +kernel
theorem dL_append_13 : decode cL_append 13 = .ok (.iconst 1, 1) := by decide +kernel
theorem dL_append_14 : decode cL_append 14 = .ok (.ireturn, 1) := by decide +kernel
theorem dL_append_15 : decode cL_append 15 = .ok (.iconst 0, 1) := by decide +kernel
theorem dL_append_16 : decode cL_append 16 = .ok (.ireturn, 1) := by decide +kernel
theorem dL_run_0 : decode cL_run 0 = .ok (.aload_n 1, 1) := by decide +kernel
theorem dL_run_1 : decode cL_run 1 = .ok (.iconst 0, 1) := by decide +kernel
theorem dL_run_2 : decode cL_run 2 = .ok (.aload_n 0, 1) := by decide +kernel
theorem dL_run_3 : decode cL_run 3 = .ok (.invokevirtual 88, 3) := by decide +kernel
theorem dL_run_6 : decode cL_run 6 = .ok (.i2l, 1) := by decide +kernel
theorem dL_run_7 : decode cL_run 7 = .ok (.lastore, 1) := by decide +kernel
theorem dL_run_8 : decode cL_run 8 = .ok (.goto 9, 3) := by decide +kernel
theorem dL_run_11 : decode cL_run 11 = .ok (.astore_n 2, 1) := by decide +kernel
theorem dL_run_12 : decode cL_run 12 = .ok (.iconst 1, 1) := by decide +kernel
theorem dL_run_13 : decode cL_run 13 = .ok (.ireturn, 1) := by decide +kernel
theorem dL_run_14 : decode cL_run 14 = .ok (.astore_n 2, 1) := by decide +kernel
theorem dL_run_15 : decode cL_run 15 = .ok (.iconst 2, 1) := by decide +kernel
theorem dL_run_16 : decode cL_run 16 = .ok (.ireturn, 1) := by decide +kernel
theorem dL_run_17 : decode cL_run 17 = .ok (.iconst 0, 1) := by decide +kernel
theorem dL_run_18 : decode cL_run 18 = .ok (.ireturn, 1) := by decide +kernel
theorem dL_refusal_0 : decode cL_refusal 0 = .ok (.aload_n 2, 1) := by decide +kernel
theorem dL_refusal_1 : decode cL_refusal 1 = .ok (.iconst 0, 1) := by decide +kernel
theorem dL_refusal_2 : decode cL_refusal 2 = .ok (.aload_n 0, 1) := by decide +kernel
theorem dL_refusal_3 : decode cL_refusal 3 = .ok (.iload_n 1, 1) := by decide +kernel
theorem dL_refusal_4 : decode cL_refusal 4 = .ok (.invokevirtual 91, 3) := by decide +kernel
theorem dL_refusal_7 : decode cL_refusal 7 = .ok (.i2l, 1) := by decide +kernel
theorem dL_refusal_8 : decode cL_refusal 8 = .ok (.lastore, 1) := by decide +kernel
theorem dL_refusal_9 : decode cL_refusal 9 = .ok (.goto 6, 3) := by decide +kernel
theorem dL_refusal_12 : decode cL_refusal 12 = .ok (.astore_n 3, 1) := by decide +kernel
theorem dL_refusal_13 : decode cL_refusal 13 = .ok (.iconst 1, 1) := by decide +kernel
theorem dL_refusal_14 : decode cL_refusal 14 = .ok (.ireturn, 1) := by decide +kernel
theorem dL_refusal_15 : decode cL_refusal 15 = .ok (.iconst 0, 1) := by decide +kernel
theorem dL_refusal_16 : decode cL_refusal 16 = .ok (.ireturn, 1) := by decide +kernel
theorem dL_account_0 : decode cL_account 0 = .ok (.aload_n 2, 1) := by decide +kernel
theorem dL_account_1 : decode cL_account 1 = .ok (.iconst 0, 1) := by decide +kernel
theorem dL_account_2 : decode cL_account 2 = .ok (.aload_n 0, 1) := by decide +kernel
theorem dL_account_3 : decode cL_account 3 = .ok (.iload_n 1, 1) := by decide +kernel
theorem dL_account_4 : decode cL_account 4 = .ok (.invokevirtual 95, 3) := by decide +kernel
theorem dL_account_7 : decode cL_account 7 = .ok (.i2l, 1) := by decide +kernel
theorem dL_account_8 : decode cL_account 8 = .ok (.lastore, 1) := by decide +kernel
theorem dL_account_9 : decode cL_account 9 = .ok (.goto 6, 3) := by decide +kernel
theorem dL_account_12 : decode cL_account 12 = .ok (.astore_n 3, 1) := by decide +kernel
theorem dL_account_13 : decode cL_account 13 = .ok (.iconst 1, 1) := by decide +kernel
theorem dL_account_14 : decode cL_account 14 = .ok (.ireturn, 1) := by decide +kernel
theorem dL_account_15 : decode cL_account 15 = .ok (.iconst 0, 1) := by decide +kernel
theorem dL_account_16 : decode cL_account 16 = .ok (.ireturn, 1) := by decide +kernel
theorem dL_meanWaste_0 : decode cL_meanWaste 0 = .ok (.aload_n 1, 1) := by decide +kernel
theorem dL_meanWaste_1 : decode cL_meanWaste 1 = .ok (.iconst 0, 1) := by decide +kernel
theorem dL_meanWaste_2 : decode cL_meanWaste 2 = .ok (.aload_n 0, 1) := by decide +kernel
theorem dL_meanWaste_3 : decode cL_meanWaste 3 = .ok (.invokevirtual 98, 3) := by decide +kernel
theorem dL_meanWaste_6 : decode cL_meanWaste 6 = .ok (.dastore, 1) := by decide +kernel
theorem dL_meanWaste_7 : decode cL_meanWaste 7 = .ok (.goto 6, 3) := by decide +kernel
theorem dL_meanWaste_10 : decode cL_meanWaste 10 = .ok (.astore_n 2, 1) := by decide +kernel
theorem dL_meanWaste_11 : decode cL_meanWaste 11 = .ok (.iconst 1, 1) := by decide +kernel
theorem dL_meanWaste_12 : decode cL_meanWaste 12 = .ok (.ireturn, 1) := by decide +kernel
theorem dL_meanWaste_13 : decode cL_meanWaste 13 = .ok (.iconst 0, 1) := by decide +kernel
theorem dL_meanWaste_14 : decode cL_meanWaste 14 = .ok (.ireturn, 1) := by decide +kernel
theorem dL_undo_0 : decode cL_undo 0 = .ok (.aload_n 1, 1) := by decide +kernel
theorem dL_undo_1 : decode cL_undo 1 = .ok (.iconst 0, 1) := by decide +kernel
theorem dL_undo_2 : decode cL_undo 2 = .ok (.aload_n 0, 1) := by decide +kernel
theorem dL_undo_3 : decode cL_undo 3 = .ok (.invokevirtual 104, 3) := by decide +kernel
theorem dL_undo_6 : decode cL_undo 6 = .ok (.i2l, 1) := by decide +kernel
theorem dL_undo_7 : decode cL_undo 7 = .ok (.lastore, 1) := by decide +kernel
theorem dL_undo_8 : decode cL_undo 8 = .ok (.goto 6, 3) := by decide +kernel
theorem dL_undo_11 : decode cL_undo 11 = .ok (.astore_n 2, 1) := by decide +kernel
theorem dL_undo_12 : decode cL_undo 12 = .ok (.iconst 1, 1) := by decide +kernel
theorem dL_undo_13 : decode cL_undo 13 = .ok (.ireturn, 1) := by decide +kernel
theorem dL_undo_14 : decode cL_undo 14 = .ok (.iconst 0, 1) := by decide +kernel
theorem dL_undo_15 : decode cL_undo 15 = .ok (.ireturn, 1) := by decide +kernel
theorem dL_restore_0 : decode cL_restore 0 = .ok (.aload_n 1, 1) := by decide +kernel
theorem dL_restore_1 : decode cL_restore 1 = .ok (.iconst 0, 1) := by decide +kernel
theorem dL_restore_2 : decode cL_restore 2 = .ok (.aload_n 0, 1) := by decide +kernel
theorem dL_restore_3 : decode cL_restore 3 = .ok (.invokevirtual 107, 3) := by decide +kernel
theorem dL_restore_6 : decode cL_restore 6 = .ok (.i2l, 1) := by decide +kernel
theorem dL_restore_7 : decode cL_restore 7 = .ok (.lastore, 1) := by decide +kernel
theorem dL_restore_8 : decode cL_restore 8 = .ok (.goto 6, 3) := by decide +kernel
theorem dL_restore_11 : decode cL_restore 11 = .ok (.astore_n 2, 1) := by decide +kernel
theorem dL_restore_12 : decode cL_restore 12 = .ok (.iconst 1, 1) := by decide +kernel
theorem dL_restore_13 : decode cL_restore 13 = .ok (.ireturn, 1) := by decide +kernel
theorem dL_restore_14 : decode cL_restore 14 = .ok (.iconst 0, 1) := by decide +kernel
theorem dL_restore_15 : decode cL_restore 15 = .ok (.ireturn, 1) := by decide +kernel
theorem dL_law_0 : decode cL_law 0 = .ok (.new 8, 3) := by decide +kernel
theorem dL_law_3 : decode cL_law 3 = .ok (.dup, 1) := by decide +kernel
theorem dL_law_4 : decode cL_law 4 = .ok (.invokespecial 110, 3) := by decide +kernel
theorem dL_law_7 : decode cL_law 7 = .ok (.astore_n 1, 1) := by decide +kernel
theorem dL_law_8 : decode cL_law 8 = .ok (.new 111, 3) := by decide +kernel
theorem dL_law_11 : decode cL_law 11 = .ok (.dup, 1) := by decide +kernel
theorem dL_law_12 : decode cL_law 12 = .ok (.invokespecial 113, 3) := by decide +kernel
theorem dL_law_15 : decode cL_law 15 = .ok (.astore_n 2, 1) := by decide +kernel
theorem dL_law_16 : decode cL_law 16 = .ok (.iconst 1, 1) := by decide +kernel
theorem dL_law_17 : decode cL_law 17 = .ok (.newarray .long, 2) := by decide +kernel
theorem dL_law_19 : decode cL_law 19 = .ok (.astore_n 3, 1) := by decide +kernel
theorem dL_law_20 : decode cL_law 20 = .ok (.iconst 1, 1) := by decide +kernel
theorem dL_law_21 : decode cL_law 21 = .ok (.newarray .double, 2) := by decide +kernel
theorem dL_law_23 : decode cL_law 23 = .ok (.astore 4, 2) := by decide +kernel
theorem dL_law_25 : decode cL_law 25 = .ok (.iconst 0, 1) := by decide +kernel
theorem dL_law_26 : decode cL_law 26 = .ok (.istore 5, 2) := by decide +kernel
theorem dL_law_28 : decode cL_law 28 = .ok (.iload 5, 2) := by decide +kernel
theorem dL_law_30 : decode cL_law 30 = .ok (.aload_n 0, 1) := by decide +kernel
theorem dL_law_31 : decode cL_law 31 = .ok (.arraylength, 1) := by decide +kernel
theorem dL_law_32 : decode cL_law 32 = .ok (.iconst 3, 1) := by decide +kernel
theorem dL_law_33 : decode cL_law 33 = .ok (.isub, 1) := by decide +kernel
theorem dL_law_34 : decode cL_law 34 = .ok (.if_icmp .gt 1875, 3) := by decide +kernel
theorem dL_law_37 : decode cL_law 37 = .ok (.aload_n 0, 1) := by decide +kernel
theorem dL_law_38 : decode cL_law 38 = .ok (.iload 5, 2) := by decide +kernel
theorem dL_law_40 : decode cL_law 40 = .ok (.iaload, 1) := by decide +kernel
theorem dL_law_41 : decode cL_law 41 = .ok (.bipush 63, 2) := by decide +kernel
theorem dL_law_43 : decode cL_law 43 = .ok (.iand, 1) := by decide +kernel
theorem dL_law_44 : decode cL_law 44 = .ok (.tableswitch 1859 0 32 #[148, 216, 284, 340, 396, 464, 520, 576, 644, 712, 780, 848, 932, 976, 1032, 1088, 1144, 1200, 1256, 1312, 1325, 1338, 1394, 1452, 1496, 1509, 1581, 1637, 1650, 1715, 1758, 1802, 1815], 148) := by decide +kernel
theorem dL_law_192 : decode cL_law 192 = .ok (.aload_n 1, 1) := by decide +kernel
theorem dL_law_193 : decode cL_law 193 = .ok (.aload_n 0, 1) := by decide +kernel
theorem dL_law_194 : decode cL_law 194 = .ok (.iload 5, 2) := by decide +kernel
theorem dL_law_196 : decode cL_law 196 = .ok (.iconst 1, 1) := by decide +kernel
theorem dL_law_197 : decode cL_law 197 = .ok (.iadd, 1) := by decide +kernel
theorem dL_law_198 : decode cL_law 198 = .ok (.iaload, 1) := by decide +kernel
theorem dL_law_199 : decode cL_law 199 = .ok (.aload_n 0, 1) := by decide +kernel
theorem dL_law_200 : decode cL_law 200 = .ok (.iload 5, 2) := by decide +kernel
theorem dL_law_202 : decode cL_law 202 = .ok (.iconst 2, 1) := by decide +kernel
theorem dL_law_203 : decode cL_law 203 = .ok (.iadd, 1) := by decide +kernel
theorem dL_law_204 : decode cL_law 204 = .ok (.iaload, 1) := by decide +kernel
theorem dL_law_205 : decode cL_law 205 = .ok (.aload_n 3, 1) := by decide +kernel
theorem dL_law_206 : decode cL_law 206 = .ok (.invokestatic 114, 3) := by decide +kernel
theorem dL_law_209 : decode cL_law 209 = .ok (.istore 6, 2) := by decide +kernel
theorem dL_law_211 : decode cL_law 211 = .ok (.aload_n 2, 1) := by decide +kernel
theorem dL_law_212 : decode cL_law 212 = .ok (.aload_n 0, 1) := by decide +kernel
theorem dL_law_213 : decode cL_law 213 = .ok (.iload 5, 2) := by decide +kernel
theorem dL_law_215 : decode cL_law 215 = .ok (.iconst 1, 1) := by decide +kernel
theorem dL_law_216 : decode cL_law 216 = .ok (.iadd, 1) := by decide +kernel
theorem dL_law_217 : decode cL_law 217 = .ok (.iaload, 1) := by decide +kernel
theorem dL_law_218 : decode cL_law 218 = .ok (.aload_n 0, 1) := by decide +kernel
theorem dL_law_219 : decode cL_law 219 = .ok (.iload 5, 2) := by decide +kernel
theorem dL_law_221 : decode cL_law 221 = .ok (.iconst 2, 1) := by decide +kernel
theorem dL_law_222 : decode cL_law 222 = .ok (.iadd, 1) := by decide +kernel
theorem dL_law_223 : decode cL_law 223 = .ok (.iaload, 1) := by decide +kernel
theorem dL_law_224 : decode cL_law 224 = .ok (.invokevirtual 119, 3) := by decide +kernel
theorem dL_law_227 : decode cL_law 227 = .ok (.istore 7, 2) := by decide +kernel
theorem dL_law_229 : decode cL_law 229 = .ok (.aload_n 2, 1) := by decide +kernel
theorem dL_law_230 : decode cL_law 230 = .ok (.invokevirtual 120, 3) := by decide +kernel
theorem dL_law_233 : decode cL_law 233 = .ok (.iload 6, 2) := by decide +kernel
theorem dL_law_235 : decode cL_law 235 = .ok (.if_icmp .eq 5, 3) := by decide +kernel
theorem dL_law_238 : decode cL_law 238 = .ok (.iconst 0, 1) := by decide +kernel
theorem dL_law_239 : decode cL_law 239 = .ok (.ireturn, 1) := by decide +kernel
theorem dL_law_240 : decode cL_law 240 = .ok (.iload 6, 2) := by decide +kernel
theorem dL_law_242 : decode cL_law 242 = .ok (.ifCond .ne 15, 3) := by decide +kernel
theorem dL_law_245 : decode cL_law 245 = .ok (.aload_n 3, 1) := by decide +kernel
theorem dL_law_246 : decode cL_law 246 = .ok (.iconst 0, 1) := by decide +kernel
theorem dL_law_247 : decode cL_law 247 = .ok (.laload, 1) := by decide +kernel
theorem dL_law_248 : decode cL_law 248 = .ok (.iload 7, 2) := by decide +kernel
theorem dL_law_250 : decode cL_law 250 = .ok (.i2l, 1) := by decide +kernel
theorem dL_law_251 : decode cL_law 251 = .ok (.lcmp, 1) := by decide +kernel
theorem dL_law_252 : decode cL_law 252 = .ok (.ifCond .eq 5, 3) := by decide +kernel
theorem dL_law_255 : decode cL_law 255 = .ok (.iconst 0, 1) := by decide +kernel
theorem dL_law_256 : decode cL_law 256 = .ok (.ireturn, 1) := by decide +kernel
theorem dL_law_257 : decode cL_law 257 = .ok (.goto 1646, 3) := by decide +kernel
theorem dL_law_260 : decode cL_law 260 = .ok (.aload_n 1, 1) := by decide +kernel
theorem dL_law_261 : decode cL_law 261 = .ok (.aload_n 0, 1) := by decide +kernel
theorem dL_law_262 : decode cL_law 262 = .ok (.iload 5, 2) := by decide +kernel
theorem dL_law_264 : decode cL_law 264 = .ok (.iconst 1, 1) := by decide +kernel
theorem dL_law_265 : decode cL_law 265 = .ok (.iadd, 1) := by decide +kernel
theorem dL_law_266 : decode cL_law 266 = .ok (.iaload, 1) := by decide +kernel
theorem dL_law_267 : decode cL_law 267 = .ok (.aload_n 0, 1) := by decide +kernel
theorem dL_law_268 : decode cL_law 268 = .ok (.iload 5, 2) := by decide +kernel
theorem dL_law_270 : decode cL_law 270 = .ok (.iconst 2, 1) := by decide +kernel
theorem dL_law_271 : decode cL_law 271 = .ok (.iadd, 1) := by decide +kernel
theorem dL_law_272 : decode cL_law 272 = .ok (.iaload, 1) := by decide +kernel
theorem dL_law_273 : decode cL_law 273 = .ok (.aload_n 3, 1) := by decide +kernel
theorem dL_law_274 : decode cL_law 274 = .ok (.invokestatic 123, 3) := by decide +kernel
theorem dL_law_277 : decode cL_law 277 = .ok (.istore 6, 2) := by decide +kernel
theorem dL_law_279 : decode cL_law 279 = .ok (.aload_n 2, 1) := by decide +kernel
theorem dL_law_280 : decode cL_law 280 = .ok (.aload_n 0, 1) := by decide +kernel
theorem dL_law_281 : decode cL_law 281 = .ok (.iload 5, 2) := by decide +kernel
theorem dL_law_283 : decode cL_law 283 = .ok (.iconst 1, 1) := by decide +kernel
theorem dL_law_284 : decode cL_law 284 = .ok (.iadd, 1) := by decide +kernel
theorem dL_law_285 : decode cL_law 285 = .ok (.iaload, 1) := by decide +kernel
theorem dL_law_286 : decode cL_law 286 = .ok (.aload_n 0, 1) := by decide +kernel
theorem dL_law_287 : decode cL_law 287 = .ok (.iload 5, 2) := by decide +kernel
theorem dL_law_289 : decode cL_law 289 = .ok (.iconst 2, 1) := by decide +kernel
theorem dL_law_290 : decode cL_law 290 = .ok (.iadd, 1) := by decide +kernel
theorem dL_law_291 : decode cL_law 291 = .ok (.iaload, 1) := by decide +kernel
theorem dL_law_292 : decode cL_law 292 = .ok (.invokevirtual 125, 3) := by decide +kernel
theorem dL_law_295 : decode cL_law 295 = .ok (.istore 7, 2) := by decide +kernel
theorem dL_law_297 : decode cL_law 297 = .ok (.aload_n 2, 1) := by decide +kernel
theorem dL_law_298 : decode cL_law 298 = .ok (.invokevirtual 120, 3) := by decide +kernel
theorem dL_law_301 : decode cL_law 301 = .ok (.iload 6, 2) := by decide +kernel
theorem dL_law_303 : decode cL_law 303 = .ok (.if_icmp .eq 5, 3) := by decide +kernel
theorem dL_law_306 : decode cL_law 306 = .ok (.iconst 0, 1) := by decide +kernel
theorem dL_law_307 : decode cL_law 307 = .ok (.ireturn, 1) := by decide +kernel
theorem dL_law_308 : decode cL_law 308 = .ok (.iload 6, 2) := by decide +kernel
theorem dL_law_310 : decode cL_law 310 = .ok (.ifCond .ne 15, 3) := by decide +kernel
theorem dL_law_313 : decode cL_law 313 = .ok (.aload_n 3, 1) := by decide +kernel
theorem dL_law_314 : decode cL_law 314 = .ok (.iconst 0, 1) := by decide +kernel
theorem dL_law_315 : decode cL_law 315 = .ok (.laload, 1) := by decide +kernel
theorem dL_law_316 : decode cL_law 316 = .ok (.iload 7, 2) := by decide +kernel
theorem dL_law_318 : decode cL_law 318 = .ok (.i2l, 1) := by decide +kernel
theorem dL_law_319 : decode cL_law 319 = .ok (.lcmp, 1) := by decide +kernel
theorem dL_law_320 : decode cL_law 320 = .ok (.ifCond .eq 5, 3) := by decide +kernel
theorem dL_law_323 : decode cL_law 323 = .ok (.iconst 0, 1) := by decide +kernel
theorem dL_law_324 : decode cL_law 324 = .ok (.ireturn, 1) := by decide +kernel
theorem dL_law_325 : decode cL_law 325 = .ok (.goto 1578, 3) := by decide +kernel
theorem dL_law_328 : decode cL_law 328 = .ok (.aload_n 1, 1) := by decide +kernel
theorem dL_law_329 : decode cL_law 329 = .ok (.aload_n 0, 1) := by decide +kernel
theorem dL_law_330 : decode cL_law 330 = .ok (.iload 5, 2) := by decide +kernel
theorem dL_law_332 : decode cL_law 332 = .ok (.iconst 1, 1) := by decide +kernel
theorem dL_law_333 : decode cL_law 333 = .ok (.iadd, 1) := by decide +kernel
theorem dL_law_334 : decode cL_law 334 = .ok (.iaload, 1) := by decide +kernel
theorem dL_law_335 : decode cL_law 335 = .ok (.aload_n 3, 1) := by decide +kernel
theorem dL_law_336 : decode cL_law 336 = .ok (.invokestatic 126, 3) := by decide +kernel
theorem dL_law_339 : decode cL_law 339 = .ok (.istore 6, 2) := by decide +kernel
theorem dL_law_341 : decode cL_law 341 = .ok (.aload_n 2, 1) := by decide +kernel
theorem dL_law_342 : decode cL_law 342 = .ok (.aload_n 0, 1) := by decide +kernel
theorem dL_law_343 : decode cL_law 343 = .ok (.iload 5, 2) := by decide +kernel
theorem dL_law_345 : decode cL_law 345 = .ok (.iconst 1, 1) := by decide +kernel
theorem dL_law_346 : decode cL_law 346 = .ok (.iadd, 1) := by decide +kernel
theorem dL_law_347 : decode cL_law 347 = .ok (.iaload, 1) := by decide +kernel
theorem dL_law_348 : decode cL_law 348 = .ok (.invokevirtual 129, 3) := by decide +kernel
theorem dL_law_351 : decode cL_law 351 = .ok (.istore 7, 2) := by decide +kernel
theorem dL_law_353 : decode cL_law 353 = .ok (.aload_n 2, 1) := by decide +kernel
theorem dL_law_354 : decode cL_law 354 = .ok (.invokevirtual 120, 3) := by decide +kernel
theorem dL_law_357 : decode cL_law 357 = .ok (.iload 6, 2) := by decide +kernel
theorem dL_law_359 : decode cL_law 359 = .ok (.if_icmp .eq 5, 3) := by decide +kernel
theorem dL_law_362 : decode cL_law 362 = .ok (.iconst 0, 1) := by decide +kernel
theorem dL_law_363 : decode cL_law 363 = .ok (.ireturn, 1) := by decide +kernel
theorem dL_law_364 : decode cL_law 364 = .ok (.iload 6, 2) := by decide +kernel
theorem dL_law_366 : decode cL_law 366 = .ok (.ifCond .ne 15, 3) := by decide +kernel
theorem dL_law_369 : decode cL_law 369 = .ok (.aload_n 3, 1) := by decide +kernel
theorem dL_law_370 : decode cL_law 370 = .ok (.iconst 0, 1) := by decide +kernel
theorem dL_law_371 : decode cL_law 371 = .ok (.laload, 1) := by decide +kernel
theorem dL_law_372 : decode cL_law 372 = .ok (.iload 7, 2) := by decide +kernel
theorem dL_law_374 : decode cL_law 374 = .ok (.i2l, 1) := by decide +kernel
theorem dL_law_375 : decode cL_law 375 = .ok (.lcmp, 1) := by decide +kernel
theorem dL_law_376 : decode cL_law 376 = .ok (.ifCond .eq 5, 3) := by decide +kernel
theorem dL_law_379 : decode cL_law 379 = .ok (.iconst 0, 1) := by decide +kernel
theorem dL_law_380 : decode cL_law 380 = .ok (.ireturn, 1) := by decide +kernel
theorem dL_law_381 : decode cL_law 381 = .ok (.goto 1522, 3) := by decide +kernel
theorem dL_law_384 : decode cL_law 384 = .ok (.aload_n 1, 1) := by decide +kernel
theorem dL_law_385 : decode cL_law 385 = .ok (.aload_n 0, 1) := by decide +kernel
theorem dL_law_386 : decode cL_law 386 = .ok (.iload 5, 2) := by decide +kernel
theorem dL_law_388 : decode cL_law 388 = .ok (.iconst 1, 1) := by decide +kernel
theorem dL_law_389 : decode cL_law 389 = .ok (.iadd, 1) := by decide +kernel
theorem dL_law_390 : decode cL_law 390 = .ok (.iaload, 1) := by decide +kernel
theorem dL_law_391 : decode cL_law 391 = .ok (.aload_n 3, 1) := by decide +kernel
theorem dL_law_392 : decode cL_law 392 = .ok (.invokestatic 130, 3) := by decide +kernel
theorem dL_law_395 : decode cL_law 395 = .ok (.istore 6, 2) := by decide +kernel
theorem dL_law_397 : decode cL_law 397 = .ok (.aload_n 2, 1) := by decide +kernel
theorem dL_law_398 : decode cL_law 398 = .ok (.aload_n 0, 1) := by decide +kernel
theorem dL_law_399 : decode cL_law 399 = .ok (.iload 5, 2) := by decide +kernel
theorem dL_law_401 : decode cL_law 401 = .ok (.iconst 1, 1) := by decide +kernel
theorem dL_law_402 : decode cL_law 402 = .ok (.iadd, 1) := by decide +kernel
theorem dL_law_403 : decode cL_law 403 = .ok (.iaload, 1) := by decide +kernel
theorem dL_law_404 : decode cL_law 404 = .ok (.invokevirtual 132, 3) := by decide +kernel
theorem dL_law_407 : decode cL_law 407 = .ok (.istore 7, 2) := by decide +kernel
theorem dL_law_409 : decode cL_law 409 = .ok (.aload_n 2, 1) := by decide +kernel
theorem dL_law_410 : decode cL_law 410 = .ok (.invokevirtual 120, 3) := by decide +kernel
theorem dL_law_413 : decode cL_law 413 = .ok (.iload 6, 2) := by decide +kernel
theorem dL_law_415 : decode cL_law 415 = .ok (.if_icmp .eq 5, 3) := by decide +kernel
theorem dL_law_418 : decode cL_law 418 = .ok (.iconst 0, 1) := by decide +kernel
theorem dL_law_419 : decode cL_law 419 = .ok (.ireturn, 1) := by decide +kernel
theorem dL_law_420 : decode cL_law 420 = .ok (.iload 6, 2) := by decide +kernel
theorem dL_law_422 : decode cL_law 422 = .ok (.ifCond .ne 15, 3) := by decide +kernel
theorem dL_law_425 : decode cL_law 425 = .ok (.aload_n 3, 1) := by decide +kernel
theorem dL_law_426 : decode cL_law 426 = .ok (.iconst 0, 1) := by decide +kernel
theorem dL_law_427 : decode cL_law 427 = .ok (.laload, 1) := by decide +kernel
theorem dL_law_428 : decode cL_law 428 = .ok (.iload 7, 2) := by decide +kernel
theorem dL_law_430 : decode cL_law 430 = .ok (.i2l, 1) := by decide +kernel
theorem dL_law_431 : decode cL_law 431 = .ok (.lcmp, 1) := by decide +kernel
theorem dL_law_432 : decode cL_law 432 = .ok (.ifCond .eq 5, 3) := by decide +kernel
theorem dL_law_435 : decode cL_law 435 = .ok (.iconst 0, 1) := by decide +kernel
theorem dL_law_436 : decode cL_law 436 = .ok (.ireturn, 1) := by decide +kernel
theorem dL_law_437 : decode cL_law 437 = .ok (.goto 1466, 3) := by decide +kernel
theorem dL_law_440 : decode cL_law 440 = .ok (.aload_n 1, 1) := by decide +kernel
theorem dL_law_441 : decode cL_law 441 = .ok (.aload_n 0, 1) := by decide +kernel
theorem dL_law_442 : decode cL_law 442 = .ok (.iload 5, 2) := by decide +kernel
theorem dL_law_444 : decode cL_law 444 = .ok (.iconst 1, 1) := by decide +kernel
theorem dL_law_445 : decode cL_law 445 = .ok (.iadd, 1) := by decide +kernel
theorem dL_law_446 : decode cL_law 446 = .ok (.iaload, 1) := by decide +kernel
theorem dL_law_447 : decode cL_law 447 = .ok (.aload_n 0, 1) := by decide +kernel
theorem dL_law_448 : decode cL_law 448 = .ok (.iload 5, 2) := by decide +kernel
theorem dL_law_450 : decode cL_law 450 = .ok (.iconst 2, 1) := by decide +kernel
theorem dL_law_451 : decode cL_law 451 = .ok (.iadd, 1) := by decide +kernel
theorem dL_law_452 : decode cL_law 452 = .ok (.iaload, 1) := by decide +kernel
theorem dL_law_453 : decode cL_law 453 = .ok (.aload_n 3, 1) := by decide +kernel
theorem dL_law_454 : decode cL_law 454 = .ok (.invokestatic 133, 3) := by decide +kernel
theorem dL_law_457 : decode cL_law 457 = .ok (.istore 6, 2) := by decide +kernel
theorem dL_law_459 : decode cL_law 459 = .ok (.aload_n 2, 1) := by decide +kernel
theorem dL_law_460 : decode cL_law 460 = .ok (.aload_n 0, 1) := by decide +kernel
theorem dL_law_461 : decode cL_law 461 = .ok (.iload 5, 2) := by decide +kernel
theorem dL_law_463 : decode cL_law 463 = .ok (.iconst 1, 1) := by decide +kernel
theorem dL_law_464 : decode cL_law 464 = .ok (.iadd, 1) := by decide +kernel
theorem dL_law_465 : decode cL_law 465 = .ok (.iaload, 1) := by decide +kernel
theorem dL_law_466 : decode cL_law 466 = .ok (.aload_n 0, 1) := by decide +kernel
theorem dL_law_467 : decode cL_law 467 = .ok (.iload 5, 2) := by decide +kernel
theorem dL_law_469 : decode cL_law 469 = .ok (.iconst 2, 1) := by decide +kernel
theorem dL_law_470 : decode cL_law 470 = .ok (.iadd, 1) := by decide +kernel
theorem dL_law_471 : decode cL_law 471 = .ok (.iaload, 1) := by decide +kernel
theorem dL_law_472 : decode cL_law 472 = .ok (.invokevirtual 135, 3) := by decide +kernel
theorem dL_law_475 : decode cL_law 475 = .ok (.istore 7, 2) := by decide +kernel
theorem dL_law_477 : decode cL_law 477 = .ok (.aload_n 2, 1) := by decide +kernel
theorem dL_law_478 : decode cL_law 478 = .ok (.invokevirtual 120, 3) := by decide +kernel
theorem dL_law_481 : decode cL_law 481 = .ok (.iload 6, 2) := by decide +kernel
theorem dL_law_483 : decode cL_law 483 = .ok (.if_icmp .eq 5, 3) := by decide +kernel
theorem dL_law_486 : decode cL_law 486 = .ok (.iconst 0, 1) := by decide +kernel
theorem dL_law_487 : decode cL_law 487 = .ok (.ireturn, 1) := by decide +kernel
theorem dL_law_488 : decode cL_law 488 = .ok (.iload 6, 2) := by decide +kernel
theorem dL_law_490 : decode cL_law 490 = .ok (.ifCond .ne 15, 3) := by decide +kernel
theorem dL_law_493 : decode cL_law 493 = .ok (.aload_n 3, 1) := by decide +kernel
theorem dL_law_494 : decode cL_law 494 = .ok (.iconst 0, 1) := by decide +kernel
theorem dL_law_495 : decode cL_law 495 = .ok (.laload, 1) := by decide +kernel
theorem dL_law_496 : decode cL_law 496 = .ok (.iload 7, 2) := by decide +kernel
theorem dL_law_498 : decode cL_law 498 = .ok (.i2l, 1) := by decide +kernel
theorem dL_law_499 : decode cL_law 499 = .ok (.lcmp, 1) := by decide +kernel
theorem dL_law_500 : decode cL_law 500 = .ok (.ifCond .eq 5, 3) := by decide +kernel
theorem dL_law_503 : decode cL_law 503 = .ok (.iconst 0, 1) := by decide +kernel
theorem dL_law_504 : decode cL_law 504 = .ok (.ireturn, 1) := by decide +kernel
theorem dL_law_505 : decode cL_law 505 = .ok (.goto 1398, 3) := by decide +kernel
theorem dL_law_508 : decode cL_law 508 = .ok (.aload_n 1, 1) := by decide +kernel
theorem dL_law_509 : decode cL_law 509 = .ok (.aload_n 0, 1) := by decide +kernel
theorem dL_law_510 : decode cL_law 510 = .ok (.iload 5, 2) := by decide +kernel
theorem dL_law_512 : decode cL_law 512 = .ok (.iconst 1, 1) := by decide +kernel
theorem dL_law_513 : decode cL_law 513 = .ok (.iadd, 1) := by decide +kernel
theorem dL_law_514 : decode cL_law 514 = .ok (.iaload, 1) := by decide +kernel
theorem dL_law_515 : decode cL_law 515 = .ok (.aload_n 3, 1) := by decide +kernel
theorem dL_law_516 : decode cL_law 516 = .ok (.invokestatic 136, 3) := by decide +kernel
theorem dL_law_519 : decode cL_law 519 = .ok (.istore 6, 2) := by decide +kernel
theorem dL_law_521 : decode cL_law 521 = .ok (.aload_n 2, 1) := by decide +kernel
theorem dL_law_522 : decode cL_law 522 = .ok (.aload_n 0, 1) := by decide +kernel
theorem dL_law_523 : decode cL_law 523 = .ok (.iload 5, 2) := by decide +kernel
theorem dL_law_525 : decode cL_law 525 = .ok (.iconst 1, 1) := by decide +kernel
theorem dL_law_526 : decode cL_law 526 = .ok (.iadd, 1) := by decide +kernel
theorem dL_law_527 : decode cL_law 527 = .ok (.iaload, 1) := by decide +kernel
theorem dL_law_528 : decode cL_law 528 = .ok (.invokevirtual 138, 3) := by decide +kernel
theorem dL_law_531 : decode cL_law 531 = .ok (.istore 7, 2) := by decide +kernel
theorem dL_law_533 : decode cL_law 533 = .ok (.aload_n 2, 1) := by decide +kernel
theorem dL_law_534 : decode cL_law 534 = .ok (.invokevirtual 120, 3) := by decide +kernel
theorem dL_law_537 : decode cL_law 537 = .ok (.iload 6, 2) := by decide +kernel
theorem dL_law_539 : decode cL_law 539 = .ok (.if_icmp .eq 5, 3) := by decide +kernel
theorem dL_law_542 : decode cL_law 542 = .ok (.iconst 0, 1) := by decide +kernel
theorem dL_law_543 : decode cL_law 543 = .ok (.ireturn, 1) := by decide +kernel
theorem dL_law_544 : decode cL_law 544 = .ok (.iload 6, 2) := by decide +kernel
theorem dL_law_546 : decode cL_law 546 = .ok (.ifCond .ne 15, 3) := by decide +kernel
theorem dL_law_549 : decode cL_law 549 = .ok (.aload_n 3, 1) := by decide +kernel
theorem dL_law_550 : decode cL_law 550 = .ok (.iconst 0, 1) := by decide +kernel
theorem dL_law_551 : decode cL_law 551 = .ok (.laload, 1) := by decide +kernel
theorem dL_law_552 : decode cL_law 552 = .ok (.iload 7, 2) := by decide +kernel
theorem dL_law_554 : decode cL_law 554 = .ok (.i2l, 1) := by decide +kernel
theorem dL_law_555 : decode cL_law 555 = .ok (.lcmp, 1) := by decide +kernel
theorem dL_law_556 : decode cL_law 556 = .ok (.ifCond .eq 5, 3) := by decide +kernel
theorem dL_law_559 : decode cL_law 559 = .ok (.iconst 0, 1) := by decide +kernel
theorem dL_law_560 : decode cL_law 560 = .ok (.ireturn, 1) := by decide +kernel
theorem dL_law_561 : decode cL_law 561 = .ok (.goto 1342, 3) := by decide +kernel
theorem dL_law_564 : decode cL_law 564 = .ok (.aload_n 1, 1) := by decide +kernel
theorem dL_law_565 : decode cL_law 565 = .ok (.aload_n 0, 1) := by decide +kernel
theorem dL_law_566 : decode cL_law 566 = .ok (.iload 5, 2) := by decide +kernel
theorem dL_law_568 : decode cL_law 568 = .ok (.iconst 1, 1) := by decide +kernel
theorem dL_law_569 : decode cL_law 569 = .ok (.iadd, 1) := by decide +kernel
theorem dL_law_570 : decode cL_law 570 = .ok (.iaload, 1) := by decide +kernel
theorem dL_law_571 : decode cL_law 571 = .ok (.aload_n 3, 1) := by decide +kernel
theorem dL_law_572 : decode cL_law 572 = .ok (.invokestatic 139, 3) := by decide +kernel
theorem dL_law_575 : decode cL_law 575 = .ok (.istore 6, 2) := by decide +kernel
theorem dL_law_577 : decode cL_law 577 = .ok (.aload_n 2, 1) := by decide +kernel
theorem dL_law_578 : decode cL_law 578 = .ok (.aload_n 0, 1) := by decide +kernel
theorem dL_law_579 : decode cL_law 579 = .ok (.iload 5, 2) := by decide +kernel
theorem dL_law_581 : decode cL_law 581 = .ok (.iconst 1, 1) := by decide +kernel
theorem dL_law_582 : decode cL_law 582 = .ok (.iadd, 1) := by decide +kernel
theorem dL_law_583 : decode cL_law 583 = .ok (.iaload, 1) := by decide +kernel
theorem dL_law_584 : decode cL_law 584 = .ok (.invokevirtual 141, 3) := by decide +kernel
theorem dL_law_587 : decode cL_law 587 = .ok (.istore 7, 2) := by decide +kernel
theorem dL_law_589 : decode cL_law 589 = .ok (.aload_n 2, 1) := by decide +kernel
theorem dL_law_590 : decode cL_law 590 = .ok (.invokevirtual 120, 3) := by decide +kernel
theorem dL_law_593 : decode cL_law 593 = .ok (.iload 6, 2) := by decide +kernel
theorem dL_law_595 : decode cL_law 595 = .ok (.if_icmp .eq 5, 3) := by decide +kernel
theorem dL_law_598 : decode cL_law 598 = .ok (.iconst 0, 1) := by decide +kernel
theorem dL_law_599 : decode cL_law 599 = .ok (.ireturn, 1) := by decide +kernel
theorem dL_law_600 : decode cL_law 600 = .ok (.iload 6, 2) := by decide +kernel
theorem dL_law_602 : decode cL_law 602 = .ok (.ifCond .ne 15, 3) := by decide +kernel
theorem dL_law_605 : decode cL_law 605 = .ok (.aload_n 3, 1) := by decide +kernel
theorem dL_law_606 : decode cL_law 606 = .ok (.iconst 0, 1) := by decide +kernel
theorem dL_law_607 : decode cL_law 607 = .ok (.laload, 1) := by decide +kernel
theorem dL_law_608 : decode cL_law 608 = .ok (.iload 7, 2) := by decide +kernel
theorem dL_law_610 : decode cL_law 610 = .ok (.i2l, 1) := by decide +kernel
theorem dL_law_611 : decode cL_law 611 = .ok (.lcmp, 1) := by decide +kernel
theorem dL_law_612 : decode cL_law 612 = .ok (.ifCond .eq 5, 3) := by decide +kernel
theorem dL_law_615 : decode cL_law 615 = .ok (.iconst 0, 1) := by decide +kernel
theorem dL_law_616 : decode cL_law 616 = .ok (.ireturn, 1) := by decide +kernel
theorem dL_law_617 : decode cL_law 617 = .ok (.goto 1286, 3) := by decide +kernel
theorem dL_law_620 : decode cL_law 620 = .ok (.aload_n 1, 1) := by decide +kernel
theorem dL_law_621 : decode cL_law 621 = .ok (.aload_n 0, 1) := by decide +kernel
theorem dL_law_622 : decode cL_law 622 = .ok (.iload 5, 2) := by decide +kernel
theorem dL_law_624 : decode cL_law 624 = .ok (.iconst 1, 1) := by decide +kernel
theorem dL_law_625 : decode cL_law 625 = .ok (.iadd, 1) := by decide +kernel
theorem dL_law_626 : decode cL_law 626 = .ok (.iaload, 1) := by decide +kernel
theorem dL_law_627 : decode cL_law 627 = .ok (.aload_n 0, 1) := by decide +kernel
theorem dL_law_628 : decode cL_law 628 = .ok (.iload 5, 2) := by decide +kernel
theorem dL_law_630 : decode cL_law 630 = .ok (.iconst 2, 1) := by decide +kernel
theorem dL_law_631 : decode cL_law 631 = .ok (.iadd, 1) := by decide +kernel
theorem dL_law_632 : decode cL_law 632 = .ok (.iaload, 1) := by decide +kernel
theorem dL_law_633 : decode cL_law 633 = .ok (.aload_n 3, 1) := by decide +kernel
theorem dL_law_634 : decode cL_law 634 = .ok (.invokestatic 142, 3) := by decide +kernel
theorem dL_law_637 : decode cL_law 637 = .ok (.istore 6, 2) := by decide +kernel
theorem dL_law_639 : decode cL_law 639 = .ok (.aload_n 2, 1) := by decide +kernel
theorem dL_law_640 : decode cL_law 640 = .ok (.aload_n 0, 1) := by decide +kernel
theorem dL_law_641 : decode cL_law 641 = .ok (.iload 5, 2) := by decide +kernel
theorem dL_law_643 : decode cL_law 643 = .ok (.iconst 1, 1) := by decide +kernel
theorem dL_law_644 : decode cL_law 644 = .ok (.iadd, 1) := by decide +kernel
theorem dL_law_645 : decode cL_law 645 = .ok (.iaload, 1) := by decide +kernel
theorem dL_law_646 : decode cL_law 646 = .ok (.aload_n 0, 1) := by decide +kernel
theorem dL_law_647 : decode cL_law 647 = .ok (.iload 5, 2) := by decide +kernel
theorem dL_law_649 : decode cL_law 649 = .ok (.iconst 2, 1) := by decide +kernel
theorem dL_law_650 : decode cL_law 650 = .ok (.iadd, 1) := by decide +kernel
theorem dL_law_651 : decode cL_law 651 = .ok (.iaload, 1) := by decide +kernel
theorem dL_law_652 : decode cL_law 652 = .ok (.invokevirtual 144, 3) := by decide +kernel
theorem dL_law_655 : decode cL_law 655 = .ok (.istore 7, 2) := by decide +kernel
theorem dL_law_657 : decode cL_law 657 = .ok (.aload_n 2, 1) := by decide +kernel
theorem dL_law_658 : decode cL_law 658 = .ok (.invokevirtual 120, 3) := by decide +kernel
theorem dL_law_661 : decode cL_law 661 = .ok (.iload 6, 2) := by decide +kernel
theorem dL_law_663 : decode cL_law 663 = .ok (.if_icmp .eq 5, 3) := by decide +kernel
theorem dL_law_666 : decode cL_law 666 = .ok (.iconst 0, 1) := by decide +kernel
theorem dL_law_667 : decode cL_law 667 = .ok (.ireturn, 1) := by decide +kernel
theorem dL_law_668 : decode cL_law 668 = .ok (.iload 6, 2) := by decide +kernel
theorem dL_law_670 : decode cL_law 670 = .ok (.ifCond .ne 15, 3) := by decide +kernel
theorem dL_law_673 : decode cL_law 673 = .ok (.aload_n 3, 1) := by decide +kernel
theorem dL_law_674 : decode cL_law 674 = .ok (.iconst 0, 1) := by decide +kernel
theorem dL_law_675 : decode cL_law 675 = .ok (.laload, 1) := by decide +kernel
theorem dL_law_676 : decode cL_law 676 = .ok (.iload 7, 2) := by decide +kernel
theorem dL_law_678 : decode cL_law 678 = .ok (.i2l, 1) := by decide +kernel
theorem dL_law_679 : decode cL_law 679 = .ok (.lcmp, 1) := by decide +kernel
theorem dL_law_680 : decode cL_law 680 = .ok (.ifCond .eq 5, 3) := by decide +kernel
theorem dL_law_683 : decode cL_law 683 = .ok (.iconst 0, 1) := by decide +kernel
theorem dL_law_684 : decode cL_law 684 = .ok (.ireturn, 1) := by decide +kernel
theorem dL_law_685 : decode cL_law 685 = .ok (.goto 1218, 3) := by decide +kernel
theorem dL_law_688 : decode cL_law 688 = .ok (.aload_n 1, 1) := by decide +kernel
theorem dL_law_689 : decode cL_law 689 = .ok (.aload_n 0, 1) := by decide +kernel
theorem dL_law_690 : decode cL_law 690 = .ok (.iload 5, 2) := by decide +kernel
theorem dL_law_692 : decode cL_law 692 = .ok (.iconst 1, 1) := by decide +kernel
theorem dL_law_693 : decode cL_law 693 = .ok (.iadd, 1) := by decide +kernel
theorem dL_law_694 : decode cL_law 694 = .ok (.iaload, 1) := by decide +kernel
theorem dL_law_695 : decode cL_law 695 = .ok (.aload_n 0, 1) := by decide +kernel
theorem dL_law_696 : decode cL_law 696 = .ok (.iload 5, 2) := by decide +kernel
theorem dL_law_698 : decode cL_law 698 = .ok (.iconst 2, 1) := by decide +kernel
theorem dL_law_699 : decode cL_law 699 = .ok (.iadd, 1) := by decide +kernel
theorem dL_law_700 : decode cL_law 700 = .ok (.iaload, 1) := by decide +kernel
theorem dL_law_701 : decode cL_law 701 = .ok (.aload_n 3, 1) := by decide +kernel
theorem dL_law_702 : decode cL_law 702 = .ok (.invokestatic 145, 3) := by decide +kernel
theorem dL_law_705 : decode cL_law 705 = .ok (.istore 6, 2) := by decide +kernel
theorem dL_law_707 : decode cL_law 707 = .ok (.aload_n 2, 1) := by decide +kernel
theorem dL_law_708 : decode cL_law 708 = .ok (.aload_n 0, 1) := by decide +kernel
theorem dL_law_709 : decode cL_law 709 = .ok (.iload 5, 2) := by decide +kernel
theorem dL_law_711 : decode cL_law 711 = .ok (.iconst 1, 1) := by decide +kernel
theorem dL_law_712 : decode cL_law 712 = .ok (.iadd, 1) := by decide +kernel
theorem dL_law_713 : decode cL_law 713 = .ok (.iaload, 1) := by decide +kernel
theorem dL_law_714 : decode cL_law 714 = .ok (.aload_n 0, 1) := by decide +kernel
theorem dL_law_715 : decode cL_law 715 = .ok (.iload 5, 2) := by decide +kernel
theorem dL_law_717 : decode cL_law 717 = .ok (.iconst 2, 1) := by decide +kernel
theorem dL_law_718 : decode cL_law 718 = .ok (.iadd, 1) := by decide +kernel
theorem dL_law_719 : decode cL_law 719 = .ok (.iaload, 1) := by decide +kernel
theorem dL_law_720 : decode cL_law 720 = .ok (.invokevirtual 147, 3) := by decide +kernel
theorem dL_law_723 : decode cL_law 723 = .ok (.istore 7, 2) := by decide +kernel
theorem dL_law_725 : decode cL_law 725 = .ok (.aload_n 2, 1) := by decide +kernel
theorem dL_law_726 : decode cL_law 726 = .ok (.invokevirtual 120, 3) := by decide +kernel
theorem dL_law_729 : decode cL_law 729 = .ok (.iload 6, 2) := by decide +kernel
theorem dL_law_731 : decode cL_law 731 = .ok (.if_icmp .eq 5, 3) := by decide +kernel
theorem dL_law_734 : decode cL_law 734 = .ok (.iconst 0, 1) := by decide +kernel
theorem dL_law_735 : decode cL_law 735 = .ok (.ireturn, 1) := by decide +kernel
theorem dL_law_736 : decode cL_law 736 = .ok (.iload 6, 2) := by decide +kernel
theorem dL_law_738 : decode cL_law 738 = .ok (.ifCond .ne 15, 3) := by decide +kernel
theorem dL_law_741 : decode cL_law 741 = .ok (.aload_n 3, 1) := by decide +kernel
theorem dL_law_742 : decode cL_law 742 = .ok (.iconst 0, 1) := by decide +kernel
theorem dL_law_743 : decode cL_law 743 = .ok (.laload, 1) := by decide +kernel
theorem dL_law_744 : decode cL_law 744 = .ok (.iload 7, 2) := by decide +kernel
theorem dL_law_746 : decode cL_law 746 = .ok (.i2l, 1) := by decide +kernel
theorem dL_law_747 : decode cL_law 747 = .ok (.lcmp, 1) := by decide +kernel
theorem dL_law_748 : decode cL_law 748 = .ok (.ifCond .eq 5, 3) := by decide +kernel
theorem dL_law_751 : decode cL_law 751 = .ok (.iconst 0, 1) := by decide +kernel
theorem dL_law_752 : decode cL_law 752 = .ok (.ireturn, 1) := by decide +kernel
theorem dL_law_753 : decode cL_law 753 = .ok (.goto 1150, 3) := by decide +kernel
theorem dL_law_756 : decode cL_law 756 = .ok (.aload_n 1, 1) := by decide +kernel
theorem dL_law_757 : decode cL_law 757 = .ok (.aload_n 0, 1) := by decide +kernel
theorem dL_law_758 : decode cL_law 758 = .ok (.iload 5, 2) := by decide +kernel
theorem dL_law_760 : decode cL_law 760 = .ok (.iconst 1, 1) := by decide +kernel
theorem dL_law_761 : decode cL_law 761 = .ok (.iadd, 1) := by decide +kernel
theorem dL_law_762 : decode cL_law 762 = .ok (.iaload, 1) := by decide +kernel
theorem dL_law_763 : decode cL_law 763 = .ok (.aload_n 0, 1) := by decide +kernel
theorem dL_law_764 : decode cL_law 764 = .ok (.iload 5, 2) := by decide +kernel
theorem dL_law_766 : decode cL_law 766 = .ok (.iconst 2, 1) := by decide +kernel
theorem dL_law_767 : decode cL_law 767 = .ok (.iadd, 1) := by decide +kernel
theorem dL_law_768 : decode cL_law 768 = .ok (.iaload, 1) := by decide +kernel
theorem dL_law_769 : decode cL_law 769 = .ok (.aload_n 3, 1) := by decide +kernel
theorem dL_law_770 : decode cL_law 770 = .ok (.invokestatic 148, 3) := by decide +kernel
theorem dL_law_773 : decode cL_law 773 = .ok (.istore 6, 2) := by decide +kernel
theorem dL_law_775 : decode cL_law 775 = .ok (.aload_n 2, 1) := by decide +kernel
theorem dL_law_776 : decode cL_law 776 = .ok (.aload_n 0, 1) := by decide +kernel
theorem dL_law_777 : decode cL_law 777 = .ok (.iload 5, 2) := by decide +kernel
theorem dL_law_779 : decode cL_law 779 = .ok (.iconst 1, 1) := by decide +kernel
theorem dL_law_780 : decode cL_law 780 = .ok (.iadd, 1) := by decide +kernel
theorem dL_law_781 : decode cL_law 781 = .ok (.iaload, 1) := by decide +kernel
theorem dL_law_782 : decode cL_law 782 = .ok (.aload_n 0, 1) := by decide +kernel
theorem dL_law_783 : decode cL_law 783 = .ok (.iload 5, 2) := by decide +kernel
theorem dL_law_785 : decode cL_law 785 = .ok (.iconst 2, 1) := by decide +kernel
theorem dL_law_786 : decode cL_law 786 = .ok (.iadd, 1) := by decide +kernel
theorem dL_law_787 : decode cL_law 787 = .ok (.iaload, 1) := by decide +kernel
theorem dL_law_788 : decode cL_law 788 = .ok (.invokevirtual 150, 3) := by decide +kernel
theorem dL_law_791 : decode cL_law 791 = .ok (.istore 7, 2) := by decide +kernel
theorem dL_law_793 : decode cL_law 793 = .ok (.aload_n 2, 1) := by decide +kernel
theorem dL_law_794 : decode cL_law 794 = .ok (.invokevirtual 120, 3) := by decide +kernel
theorem dL_law_797 : decode cL_law 797 = .ok (.iload 6, 2) := by decide +kernel
theorem dL_law_799 : decode cL_law 799 = .ok (.if_icmp .eq 5, 3) := by decide +kernel
theorem dL_law_802 : decode cL_law 802 = .ok (.iconst 0, 1) := by decide +kernel
theorem dL_law_803 : decode cL_law 803 = .ok (.ireturn, 1) := by decide +kernel
theorem dL_law_804 : decode cL_law 804 = .ok (.iload 6, 2) := by decide +kernel
theorem dL_law_806 : decode cL_law 806 = .ok (.ifCond .ne 15, 3) := by decide +kernel
theorem dL_law_809 : decode cL_law 809 = .ok (.aload_n 3, 1) := by decide +kernel
theorem dL_law_810 : decode cL_law 810 = .ok (.iconst 0, 1) := by decide +kernel
theorem dL_law_811 : decode cL_law 811 = .ok (.laload, 1) := by decide +kernel
theorem dL_law_812 : decode cL_law 812 = .ok (.iload 7, 2) := by decide +kernel
theorem dL_law_814 : decode cL_law 814 = .ok (.i2l, 1) := by decide +kernel
theorem dL_law_815 : decode cL_law 815 = .ok (.lcmp, 1) := by decide +kernel
theorem dL_law_816 : decode cL_law 816 = .ok (.ifCond .eq 5, 3) := by decide +kernel
theorem dL_law_819 : decode cL_law 819 = .ok (.iconst 0, 1) := by decide +kernel
theorem dL_law_820 : decode cL_law 820 = .ok (.ireturn, 1) := by decide +kernel
theorem dL_law_821 : decode cL_law 821 = .ok (.goto 1082, 3) := by decide +kernel
theorem dL_law_824 : decode cL_law 824 = .ok (.aload_n 1, 1) := by decide +kernel
theorem dL_law_825 : decode cL_law 825 = .ok (.aload_n 0, 1) := by decide +kernel
theorem dL_law_826 : decode cL_law 826 = .ok (.iload 5, 2) := by decide +kernel
theorem dL_law_828 : decode cL_law 828 = .ok (.iconst 1, 1) := by decide +kernel
theorem dL_law_829 : decode cL_law 829 = .ok (.iadd, 1) := by decide +kernel
theorem dL_law_830 : decode cL_law 830 = .ok (.iaload, 1) := by decide +kernel
theorem dL_law_831 : decode cL_law 831 = .ok (.aload_n 0, 1) := by decide +kernel
theorem dL_law_832 : decode cL_law 832 = .ok (.iload 5, 2) := by decide +kernel
theorem dL_law_834 : decode cL_law 834 = .ok (.iconst 2, 1) := by decide +kernel
theorem dL_law_835 : decode cL_law 835 = .ok (.iadd, 1) := by decide +kernel
theorem dL_law_836 : decode cL_law 836 = .ok (.iaload, 1) := by decide +kernel
theorem dL_law_837 : decode cL_law 837 = .ok (.aload_n 3, 1) := by decide +kernel
theorem dL_law_838 : decode cL_law 838 = .ok (.invokestatic 151, 3) := by decide +kernel
theorem dL_law_841 : decode cL_law 841 = .ok (.istore 6, 2) := by decide +kernel
theorem dL_law_843 : decode cL_law 843 = .ok (.aload_n 2, 1) := by decide +kernel
theorem dL_law_844 : decode cL_law 844 = .ok (.aload_n 0, 1) := by decide +kernel
theorem dL_law_845 : decode cL_law 845 = .ok (.iload 5, 2) := by decide +kernel
theorem dL_law_847 : decode cL_law 847 = .ok (.iconst 1, 1) := by decide +kernel
theorem dL_law_848 : decode cL_law 848 = .ok (.iadd, 1) := by decide +kernel
theorem dL_law_849 : decode cL_law 849 = .ok (.iaload, 1) := by decide +kernel
theorem dL_law_850 : decode cL_law 850 = .ok (.aload_n 0, 1) := by decide +kernel
theorem dL_law_851 : decode cL_law 851 = .ok (.iload 5, 2) := by decide +kernel
theorem dL_law_853 : decode cL_law 853 = .ok (.iconst 2, 1) := by decide +kernel
theorem dL_law_854 : decode cL_law 854 = .ok (.iadd, 1) := by decide +kernel
theorem dL_law_855 : decode cL_law 855 = .ok (.iaload, 1) := by decide +kernel
theorem dL_law_856 : decode cL_law 856 = .ok (.invokevirtual 153, 3) := by decide +kernel
theorem dL_law_859 : decode cL_law 859 = .ok (.istore 7, 2) := by decide +kernel
theorem dL_law_861 : decode cL_law 861 = .ok (.aload_n 2, 1) := by decide +kernel
theorem dL_law_862 : decode cL_law 862 = .ok (.invokevirtual 120, 3) := by decide +kernel
theorem dL_law_865 : decode cL_law 865 = .ok (.iload 6, 2) := by decide +kernel
theorem dL_law_867 : decode cL_law 867 = .ok (.if_icmp .eq 5, 3) := by decide +kernel
theorem dL_law_870 : decode cL_law 870 = .ok (.iconst 0, 1) := by decide +kernel
theorem dL_law_871 : decode cL_law 871 = .ok (.ireturn, 1) := by decide +kernel
theorem dL_law_872 : decode cL_law 872 = .ok (.iload 6, 2) := by decide +kernel
theorem dL_law_874 : decode cL_law 874 = .ok (.ifCond .ne 15, 3) := by decide +kernel
theorem dL_law_877 : decode cL_law 877 = .ok (.aload_n 3, 1) := by decide +kernel
theorem dL_law_878 : decode cL_law 878 = .ok (.iconst 0, 1) := by decide +kernel
theorem dL_law_879 : decode cL_law 879 = .ok (.laload, 1) := by decide +kernel
theorem dL_law_880 : decode cL_law 880 = .ok (.iload 7, 2) := by decide +kernel
theorem dL_law_882 : decode cL_law 882 = .ok (.i2l, 1) := by decide +kernel
theorem dL_law_883 : decode cL_law 883 = .ok (.lcmp, 1) := by decide +kernel
theorem dL_law_884 : decode cL_law 884 = .ok (.ifCond .eq 5, 3) := by decide +kernel
theorem dL_law_887 : decode cL_law 887 = .ok (.iconst 0, 1) := by decide +kernel
theorem dL_law_888 : decode cL_law 888 = .ok (.ireturn, 1) := by decide +kernel
theorem dL_law_889 : decode cL_law 889 = .ok (.goto 1014, 3) := by decide +kernel
theorem dL_law_892 : decode cL_law 892 = .ok (.aload_n 1, 1) := by decide +kernel
theorem dL_law_893 : decode cL_law 893 = .ok (.aload_n 0, 1) := by decide +kernel
theorem dL_law_894 : decode cL_law 894 = .ok (.iload 5, 2) := by decide +kernel
theorem dL_law_896 : decode cL_law 896 = .ok (.iconst 1, 1) := by decide +kernel
theorem dL_law_897 : decode cL_law 897 = .ok (.iadd, 1) := by decide +kernel
theorem dL_law_898 : decode cL_law 898 = .ok (.iaload, 1) := by decide +kernel
theorem dL_law_899 : decode cL_law 899 = .ok (.aload_n 0, 1) := by decide +kernel
theorem dL_law_900 : decode cL_law 900 = .ok (.iload 5, 2) := by decide +kernel
theorem dL_law_902 : decode cL_law 902 = .ok (.iconst 2, 1) := by decide +kernel
theorem dL_law_903 : decode cL_law 903 = .ok (.iadd, 1) := by decide +kernel
theorem dL_law_904 : decode cL_law 904 = .ok (.iaload, 1) := by decide +kernel
theorem dL_law_905 : decode cL_law 905 = .ok (.ifCond .eq 7, 3) := by decide +kernel
theorem dL_law_908 : decode cL_law 908 = .ok (.iconst 1, 1) := by decide +kernel
theorem dL_law_909 : decode cL_law 909 = .ok (.goto 4, 3) := by decide +kernel
theorem dL_law_912 : decode cL_law 912 = .ok (.iconst 0, 1) := by decide +kernel
theorem dL_law_913 : decode cL_law 913 = .ok (.aload_n 3, 1) := by decide +kernel
theorem dL_law_914 : decode cL_law 914 = .ok (.invokestatic 154, 3) := by decide +kernel
theorem dL_law_917 : decode cL_law 917 = .ok (.istore 6, 2) := by decide +kernel
theorem dL_law_919 : decode cL_law 919 = .ok (.aload_n 2, 1) := by decide +kernel
theorem dL_law_920 : decode cL_law 920 = .ok (.aload_n 0, 1) := by decide +kernel
theorem dL_law_921 : decode cL_law 921 = .ok (.iload 5, 2) := by decide +kernel
theorem dL_law_923 : decode cL_law 923 = .ok (.iconst 1, 1) := by decide +kernel
theorem dL_law_924 : decode cL_law 924 = .ok (.iadd, 1) := by decide +kernel
theorem dL_law_925 : decode cL_law 925 = .ok (.iaload, 1) := by decide +kernel
theorem dL_law_926 : decode cL_law 926 = .ok (.aload_n 0, 1) := by decide +kernel
theorem dL_law_927 : decode cL_law 927 = .ok (.iload 5, 2) := by decide +kernel
theorem dL_law_929 : decode cL_law 929 = .ok (.iconst 2, 1) := by decide +kernel
theorem dL_law_930 : decode cL_law 930 = .ok (.iadd, 1) := by decide +kernel
theorem dL_law_931 : decode cL_law 931 = .ok (.iaload, 1) := by decide +kernel
theorem dL_law_932 : decode cL_law 932 = .ok (.ifCond .eq 7, 3) := by decide +kernel
theorem dL_law_935 : decode cL_law 935 = .ok (.iconst 1, 1) := by decide +kernel
theorem dL_law_936 : decode cL_law 936 = .ok (.goto 4, 3) := by decide +kernel
theorem dL_law_939 : decode cL_law 939 = .ok (.iconst 0, 1) := by decide +kernel
theorem dL_law_940 : decode cL_law 940 = .ok (.invokevirtual 157, 3) := by decide +kernel
theorem dL_law_943 : decode cL_law 943 = .ok (.istore 7, 2) := by decide +kernel
theorem dL_law_945 : decode cL_law 945 = .ok (.aload_n 2, 1) := by decide +kernel
theorem dL_law_946 : decode cL_law 946 = .ok (.invokevirtual 120, 3) := by decide +kernel
theorem dL_law_949 : decode cL_law 949 = .ok (.iload 6, 2) := by decide +kernel
theorem dL_law_951 : decode cL_law 951 = .ok (.if_icmp .eq 5, 3) := by decide +kernel
theorem dL_law_954 : decode cL_law 954 = .ok (.iconst 0, 1) := by decide +kernel
theorem dL_law_955 : decode cL_law 955 = .ok (.ireturn, 1) := by decide +kernel
theorem dL_law_956 : decode cL_law 956 = .ok (.iload 6, 2) := by decide +kernel
theorem dL_law_958 : decode cL_law 958 = .ok (.ifCond .ne 15, 3) := by decide +kernel
theorem dL_law_961 : decode cL_law 961 = .ok (.aload_n 3, 1) := by decide +kernel
theorem dL_law_962 : decode cL_law 962 = .ok (.iconst 0, 1) := by decide +kernel
theorem dL_law_963 : decode cL_law 963 = .ok (.laload, 1) := by decide +kernel
theorem dL_law_964 : decode cL_law 964 = .ok (.iload 7, 2) := by decide +kernel
theorem dL_law_966 : decode cL_law 966 = .ok (.i2l, 1) := by decide +kernel
theorem dL_law_967 : decode cL_law 967 = .ok (.lcmp, 1) := by decide +kernel
theorem dL_law_968 : decode cL_law 968 = .ok (.ifCond .eq 5, 3) := by decide +kernel
theorem dL_law_971 : decode cL_law 971 = .ok (.iconst 0, 1) := by decide +kernel
theorem dL_law_972 : decode cL_law 972 = .ok (.ireturn, 1) := by decide +kernel
theorem dL_law_973 : decode cL_law 973 = .ok (.goto 930, 3) := by decide +kernel
theorem dL_law_976 : decode cL_law 976 = .ok (.aload_n 1, 1) := by decide +kernel
theorem dL_law_977 : decode cL_law 977 = .ok (.aload_n 3, 1) := by decide +kernel
theorem dL_law_978 : decode cL_law 978 = .ok (.invokestatic 158, 3) := by decide +kernel
theorem dL_law_981 : decode cL_law 981 = .ok (.istore 6, 2) := by decide +kernel
theorem dL_law_983 : decode cL_law 983 = .ok (.aload_n 2, 1) := by decide +kernel
theorem dL_law_984 : decode cL_law 984 = .ok (.invokevirtual 161, 3) := by decide +kernel
theorem dL_law_987 : decode cL_law 987 = .ok (.istore 7, 2) := by decide +kernel
theorem dL_law_989 : decode cL_law 989 = .ok (.aload_n 2, 1) := by decide +kernel
theorem dL_law_990 : decode cL_law 990 = .ok (.invokevirtual 120, 3) := by decide +kernel
theorem dL_law_993 : decode cL_law 993 = .ok (.iload 6, 2) := by decide +kernel
theorem dL_law_995 : decode cL_law 995 = .ok (.if_icmp .eq 5, 3) := by decide +kernel
theorem dL_law_998 : decode cL_law 998 = .ok (.iconst 0, 1) := by decide +kernel
theorem dL_law_999 : decode cL_law 999 = .ok (.ireturn, 1) := by decide +kernel
theorem dL_law_1000 : decode cL_law 1000 = .ok (.iload 6, 2) := by decide +kernel
theorem dL_law_1002 : decode cL_law 1002 = .ok (.ifCond .ne 15, 3) := by decide +kernel
theorem dL_law_1005 : decode cL_law 1005 = .ok (.aload_n 3, 1) := by decide +kernel
theorem dL_law_1006 : decode cL_law 1006 = .ok (.iconst 0, 1) := by decide +kernel
theorem dL_law_1007 : decode cL_law 1007 = .ok (.laload, 1) := by decide +kernel
theorem dL_law_1008 : decode cL_law 1008 = .ok (.iload 7, 2) := by decide +kernel
theorem dL_law_1010 : decode cL_law 1010 = .ok (.i2l, 1) := by decide +kernel
theorem dL_law_1011 : decode cL_law 1011 = .ok (.lcmp, 1) := by decide +kernel
theorem dL_law_1012 : decode cL_law 1012 = .ok (.ifCond .eq 5, 3) := by decide +kernel
theorem dL_law_1015 : decode cL_law 1015 = .ok (.iconst 0, 1) := by decide +kernel
theorem dL_law_1016 : decode cL_law 1016 = .ok (.ireturn, 1) := by decide +kernel
theorem dL_law_1017 : decode cL_law 1017 = .ok (.goto 886, 3) := by decide +kernel
theorem dL_law_1020 : decode cL_law 1020 = .ok (.aload_n 1, 1) := by decide +kernel
theorem dL_law_1021 : decode cL_law 1021 = .ok (.aload_n 0, 1) := by decide +kernel
theorem dL_law_1022 : decode cL_law 1022 = .ok (.iload 5, 2) := by decide +kernel
theorem dL_law_1024 : decode cL_law 1024 = .ok (.iconst 1, 1) := by decide +kernel
theorem dL_law_1025 : decode cL_law 1025 = .ok (.iadd, 1) := by decide +kernel
theorem dL_law_1026 : decode cL_law 1026 = .ok (.iaload, 1) := by decide +kernel
theorem dL_law_1027 : decode cL_law 1027 = .ok (.aload_n 3, 1) := by decide +kernel
theorem dL_law_1028 : decode cL_law 1028 = .ok (.invokestatic 162, 3) := by decide +kernel
theorem dL_law_1031 : decode cL_law 1031 = .ok (.istore 6, 2) := by decide +kernel
theorem dL_law_1033 : decode cL_law 1033 = .ok (.aload_n 2, 1) := by decide +kernel
theorem dL_law_1034 : decode cL_law 1034 = .ok (.aload_n 0, 1) := by decide +kernel
theorem dL_law_1035 : decode cL_law 1035 = .ok (.iload 5, 2) := by decide +kernel
theorem dL_law_1037 : decode cL_law 1037 = .ok (.iconst 1, 1) := by decide +kernel
theorem dL_law_1038 : decode cL_law 1038 = .ok (.iadd, 1) := by decide +kernel
theorem dL_law_1039 : decode cL_law 1039 = .ok (.iaload, 1) := by decide +kernel
theorem dL_law_1040 : decode cL_law 1040 = .ok (.invokevirtual 164, 3) := by decide +kernel
theorem dL_law_1043 : decode cL_law 1043 = .ok (.istore 7, 2) := by decide +kernel
theorem dL_law_1045 : decode cL_law 1045 = .ok (.aload_n 2, 1) := by decide +kernel
theorem dL_law_1046 : decode cL_law 1046 = .ok (.invokevirtual 120, 3) := by decide +kernel
theorem dL_law_1049 : decode cL_law 1049 = .ok (.iload 6, 2) := by decide +kernel
theorem dL_law_1051 : decode cL_law 1051 = .ok (.if_icmp .eq 5, 3) := by decide +kernel
theorem dL_law_1054 : decode cL_law 1054 = .ok (.iconst 0, 1) := by decide +kernel
theorem dL_law_1055 : decode cL_law 1055 = .ok (.ireturn, 1) := by decide +kernel
theorem dL_law_1056 : decode cL_law 1056 = .ok (.iload 6, 2) := by decide +kernel
theorem dL_law_1058 : decode cL_law 1058 = .ok (.ifCond .ne 15, 3) := by decide +kernel
theorem dL_law_1061 : decode cL_law 1061 = .ok (.aload_n 3, 1) := by decide +kernel
theorem dL_law_1062 : decode cL_law 1062 = .ok (.iconst 0, 1) := by decide +kernel
theorem dL_law_1063 : decode cL_law 1063 = .ok (.laload, 1) := by decide +kernel
theorem dL_law_1064 : decode cL_law 1064 = .ok (.iload 7, 2) := by decide +kernel
theorem dL_law_1066 : decode cL_law 1066 = .ok (.i2l, 1) := by decide +kernel
theorem dL_law_1067 : decode cL_law 1067 = .ok (.lcmp, 1) := by decide +kernel
theorem dL_law_1068 : decode cL_law 1068 = .ok (.ifCond .eq 5, 3) := by decide +kernel
theorem dL_law_1071 : decode cL_law 1071 = .ok (.iconst 0, 1) := by decide +kernel
theorem dL_law_1072 : decode cL_law 1072 = .ok (.ireturn, 1) := by decide +kernel
theorem dL_law_1073 : decode cL_law 1073 = .ok (.goto 830, 3) := by decide +kernel
theorem dL_law_1076 : decode cL_law 1076 = .ok (.aload_n 1, 1) := by decide +kernel
theorem dL_law_1077 : decode cL_law 1077 = .ok (.aload_n 0, 1) := by decide +kernel
theorem dL_law_1078 : decode cL_law 1078 = .ok (.iload 5, 2) := by decide +kernel
theorem dL_law_1080 : decode cL_law 1080 = .ok (.iconst 1, 1) := by decide +kernel
theorem dL_law_1081 : decode cL_law 1081 = .ok (.iadd, 1) := by decide +kernel
theorem dL_law_1082 : decode cL_law 1082 = .ok (.iaload, 1) := by decide +kernel
theorem dL_law_1083 : decode cL_law 1083 = .ok (.aload_n 3, 1) := by decide +kernel
theorem dL_law_1084 : decode cL_law 1084 = .ok (.invokestatic 165, 3) := by decide +kernel
theorem dL_law_1087 : decode cL_law 1087 = .ok (.istore 6, 2) := by decide +kernel
theorem dL_law_1089 : decode cL_law 1089 = .ok (.aload_n 2, 1) := by decide +kernel
theorem dL_law_1090 : decode cL_law 1090 = .ok (.aload_n 0, 1) := by decide +kernel
theorem dL_law_1091 : decode cL_law 1091 = .ok (.iload 5, 2) := by decide +kernel
theorem dL_law_1093 : decode cL_law 1093 = .ok (.iconst 1, 1) := by decide +kernel
theorem dL_law_1094 : decode cL_law 1094 = .ok (.iadd, 1) := by decide +kernel
theorem dL_law_1095 : decode cL_law 1095 = .ok (.iaload, 1) := by decide +kernel
theorem dL_law_1096 : decode cL_law 1096 = .ok (.invokevirtual 167, 3) := by decide +kernel
theorem dL_law_1099 : decode cL_law 1099 = .ok (.istore 7, 2) := by decide +kernel
theorem dL_law_1101 : decode cL_law 1101 = .ok (.aload_n 2, 1) := by decide +kernel
theorem dL_law_1102 : decode cL_law 1102 = .ok (.invokevirtual 120, 3) := by decide +kernel
theorem dL_law_1105 : decode cL_law 1105 = .ok (.iload 6, 2) := by decide +kernel
theorem dL_law_1107 : decode cL_law 1107 = .ok (.if_icmp .eq 5, 3) := by decide +kernel
theorem dL_law_1110 : decode cL_law 1110 = .ok (.iconst 0, 1) := by decide +kernel
theorem dL_law_1111 : decode cL_law 1111 = .ok (.ireturn, 1) := by decide +kernel
theorem dL_law_1112 : decode cL_law 1112 = .ok (.iload 6, 2) := by decide +kernel
theorem dL_law_1114 : decode cL_law 1114 = .ok (.ifCond .ne 15, 3) := by decide +kernel
theorem dL_law_1117 : decode cL_law 1117 = .ok (.aload_n 3, 1) := by decide +kernel
theorem dL_law_1118 : decode cL_law 1118 = .ok (.iconst 0, 1) := by decide +kernel
theorem dL_law_1119 : decode cL_law 1119 = .ok (.laload, 1) := by decide +kernel
theorem dL_law_1120 : decode cL_law 1120 = .ok (.iload 7, 2) := by decide +kernel
theorem dL_law_1122 : decode cL_law 1122 = .ok (.i2l, 1) := by decide +kernel
theorem dL_law_1123 : decode cL_law 1123 = .ok (.lcmp, 1) := by decide +kernel
theorem dL_law_1124 : decode cL_law 1124 = .ok (.ifCond .eq 5, 3) := by decide +kernel
theorem dL_law_1127 : decode cL_law 1127 = .ok (.iconst 0, 1) := by decide +kernel
theorem dL_law_1128 : decode cL_law 1128 = .ok (.ireturn, 1) := by decide +kernel
theorem dL_law_1129 : decode cL_law 1129 = .ok (.goto 774, 3) := by decide +kernel
theorem dL_law_1132 : decode cL_law 1132 = .ok (.aload_n 1, 1) := by decide +kernel
theorem dL_law_1133 : decode cL_law 1133 = .ok (.aload_n 0, 1) := by decide +kernel
theorem dL_law_1134 : decode cL_law 1134 = .ok (.iload 5, 2) := by decide +kernel
theorem dL_law_1136 : decode cL_law 1136 = .ok (.iconst 1, 1) := by decide +kernel
theorem dL_law_1137 : decode cL_law 1137 = .ok (.iadd, 1) := by decide +kernel
theorem dL_law_1138 : decode cL_law 1138 = .ok (.iaload, 1) := by decide +kernel
theorem dL_law_1139 : decode cL_law 1139 = .ok (.aload_n 3, 1) := by decide +kernel
theorem dL_law_1140 : decode cL_law 1140 = .ok (.invokestatic 168, 3) := by decide +kernel
theorem dL_law_1143 : decode cL_law 1143 = .ok (.istore 6, 2) := by decide +kernel
theorem dL_law_1145 : decode cL_law 1145 = .ok (.aload_n 2, 1) := by decide +kernel
theorem dL_law_1146 : decode cL_law 1146 = .ok (.aload_n 0, 1) := by decide +kernel
theorem dL_law_1147 : decode cL_law 1147 = .ok (.iload 5, 2) := by decide +kernel
theorem dL_law_1149 : decode cL_law 1149 = .ok (.iconst 1, 1) := by decide +kernel
theorem dL_law_1150 : decode cL_law 1150 = .ok (.iadd, 1) := by decide +kernel
theorem dL_law_1151 : decode cL_law 1151 = .ok (.iaload, 1) := by decide +kernel
theorem dL_law_1152 : decode cL_law 1152 = .ok (.invokevirtual 170, 3) := by decide +kernel
theorem dL_law_1155 : decode cL_law 1155 = .ok (.istore 7, 2) := by decide +kernel
theorem dL_law_1157 : decode cL_law 1157 = .ok (.aload_n 2, 1) := by decide +kernel
theorem dL_law_1158 : decode cL_law 1158 = .ok (.invokevirtual 120, 3) := by decide +kernel
theorem dL_law_1161 : decode cL_law 1161 = .ok (.iload 6, 2) := by decide +kernel
theorem dL_law_1163 : decode cL_law 1163 = .ok (.if_icmp .eq 5, 3) := by decide +kernel
theorem dL_law_1166 : decode cL_law 1166 = .ok (.iconst 0, 1) := by decide +kernel
theorem dL_law_1167 : decode cL_law 1167 = .ok (.ireturn, 1) := by decide +kernel
theorem dL_law_1168 : decode cL_law 1168 = .ok (.iload 6, 2) := by decide +kernel
theorem dL_law_1170 : decode cL_law 1170 = .ok (.ifCond .ne 15, 3) := by decide +kernel
theorem dL_law_1173 : decode cL_law 1173 = .ok (.aload_n 3, 1) := by decide +kernel
theorem dL_law_1174 : decode cL_law 1174 = .ok (.iconst 0, 1) := by decide +kernel
theorem dL_law_1175 : decode cL_law 1175 = .ok (.laload, 1) := by decide +kernel
theorem dL_law_1176 : decode cL_law 1176 = .ok (.iload 7, 2) := by decide +kernel
theorem dL_law_1178 : decode cL_law 1178 = .ok (.i2l, 1) := by decide +kernel
theorem dL_law_1179 : decode cL_law 1179 = .ok (.lcmp, 1) := by decide +kernel
theorem dL_law_1180 : decode cL_law 1180 = .ok (.ifCond .eq 5, 3) := by decide +kernel
theorem dL_law_1183 : decode cL_law 1183 = .ok (.iconst 0, 1) := by decide +kernel
theorem dL_law_1184 : decode cL_law 1184 = .ok (.ireturn, 1) := by decide +kernel
theorem dL_law_1185 : decode cL_law 1185 = .ok (.goto 718, 3) := by decide +kernel
theorem dL_law_1188 : decode cL_law 1188 = .ok (.aload_n 1, 1) := by decide +kernel
theorem dL_law_1189 : decode cL_law 1189 = .ok (.aload_n 0, 1) := by decide +kernel
theorem dL_law_1190 : decode cL_law 1190 = .ok (.iload 5, 2) := by decide +kernel
theorem dL_law_1192 : decode cL_law 1192 = .ok (.iconst 1, 1) := by decide +kernel
theorem dL_law_1193 : decode cL_law 1193 = .ok (.iadd, 1) := by decide +kernel
theorem dL_law_1194 : decode cL_law 1194 = .ok (.iaload, 1) := by decide +kernel
theorem dL_law_1195 : decode cL_law 1195 = .ok (.aload_n 3, 1) := by decide +kernel
theorem dL_law_1196 : decode cL_law 1196 = .ok (.invokestatic 171, 3) := by decide +kernel
theorem dL_law_1199 : decode cL_law 1199 = .ok (.istore 6, 2) := by decide +kernel
theorem dL_law_1201 : decode cL_law 1201 = .ok (.aload_n 2, 1) := by decide +kernel
theorem dL_law_1202 : decode cL_law 1202 = .ok (.aload_n 0, 1) := by decide +kernel
theorem dL_law_1203 : decode cL_law 1203 = .ok (.iload 5, 2) := by decide +kernel
theorem dL_law_1205 : decode cL_law 1205 = .ok (.iconst 1, 1) := by decide +kernel
theorem dL_law_1206 : decode cL_law 1206 = .ok (.iadd, 1) := by decide +kernel
theorem dL_law_1207 : decode cL_law 1207 = .ok (.iaload, 1) := by decide +kernel
theorem dL_law_1208 : decode cL_law 1208 = .ok (.invokevirtual 173, 3) := by decide +kernel
theorem dL_law_1211 : decode cL_law 1211 = .ok (.istore 7, 2) := by decide +kernel
theorem dL_law_1213 : decode cL_law 1213 = .ok (.aload_n 2, 1) := by decide +kernel
theorem dL_law_1214 : decode cL_law 1214 = .ok (.invokevirtual 120, 3) := by decide +kernel
theorem dL_law_1217 : decode cL_law 1217 = .ok (.iload 6, 2) := by decide +kernel
theorem dL_law_1219 : decode cL_law 1219 = .ok (.if_icmp .eq 5, 3) := by decide +kernel
theorem dL_law_1222 : decode cL_law 1222 = .ok (.iconst 0, 1) := by decide +kernel
theorem dL_law_1223 : decode cL_law 1223 = .ok (.ireturn, 1) := by decide +kernel
theorem dL_law_1224 : decode cL_law 1224 = .ok (.iload 6, 2) := by decide +kernel
theorem dL_law_1226 : decode cL_law 1226 = .ok (.ifCond .ne 15, 3) := by decide +kernel
theorem dL_law_1229 : decode cL_law 1229 = .ok (.aload_n 3, 1) := by decide +kernel
theorem dL_law_1230 : decode cL_law 1230 = .ok (.iconst 0, 1) := by decide +kernel
theorem dL_law_1231 : decode cL_law 1231 = .ok (.laload, 1) := by decide +kernel
theorem dL_law_1232 : decode cL_law 1232 = .ok (.iload 7, 2) := by decide +kernel
theorem dL_law_1234 : decode cL_law 1234 = .ok (.i2l, 1) := by decide +kernel
theorem dL_law_1235 : decode cL_law 1235 = .ok (.lcmp, 1) := by decide +kernel
theorem dL_law_1236 : decode cL_law 1236 = .ok (.ifCond .eq 5, 3) := by decide +kernel
theorem dL_law_1239 : decode cL_law 1239 = .ok (.iconst 0, 1) := by decide +kernel
theorem dL_law_1240 : decode cL_law 1240 = .ok (.ireturn, 1) := by decide +kernel
theorem dL_law_1241 : decode cL_law 1241 = .ok (.goto 662, 3) := by decide +kernel
theorem dL_law_1244 : decode cL_law 1244 = .ok (.aload_n 1, 1) := by decide +kernel
theorem dL_law_1245 : decode cL_law 1245 = .ok (.aload_n 0, 1) := by decide +kernel
theorem dL_law_1246 : decode cL_law 1246 = .ok (.iload 5, 2) := by decide +kernel
theorem dL_law_1248 : decode cL_law 1248 = .ok (.iconst 1, 1) := by decide +kernel
theorem dL_law_1249 : decode cL_law 1249 = .ok (.iadd, 1) := by decide +kernel
theorem dL_law_1250 : decode cL_law 1250 = .ok (.iaload, 1) := by decide +kernel
theorem dL_law_1251 : decode cL_law 1251 = .ok (.aload_n 3, 1) := by decide +kernel
theorem dL_law_1252 : decode cL_law 1252 = .ok (.invokestatic 174, 3) := by decide +kernel
theorem dL_law_1255 : decode cL_law 1255 = .ok (.istore 6, 2) := by decide +kernel
theorem dL_law_1257 : decode cL_law 1257 = .ok (.aload_n 2, 1) := by decide +kernel
theorem dL_law_1258 : decode cL_law 1258 = .ok (.aload_n 0, 1) := by decide +kernel
theorem dL_law_1259 : decode cL_law 1259 = .ok (.iload 5, 2) := by decide +kernel
theorem dL_law_1261 : decode cL_law 1261 = .ok (.iconst 1, 1) := by decide +kernel
theorem dL_law_1262 : decode cL_law 1262 = .ok (.iadd, 1) := by decide +kernel
theorem dL_law_1263 : decode cL_law 1263 = .ok (.iaload, 1) := by decide +kernel
theorem dL_law_1264 : decode cL_law 1264 = .ok (.invokevirtual 176, 3) := by decide +kernel
theorem dL_law_1267 : decode cL_law 1267 = .ok (.istore 7, 2) := by decide +kernel
theorem dL_law_1269 : decode cL_law 1269 = .ok (.aload_n 2, 1) := by decide +kernel
theorem dL_law_1270 : decode cL_law 1270 = .ok (.invokevirtual 120, 3) := by decide +kernel
theorem dL_law_1273 : decode cL_law 1273 = .ok (.iload 6, 2) := by decide +kernel
theorem dL_law_1275 : decode cL_law 1275 = .ok (.if_icmp .eq 5, 3) := by decide +kernel
theorem dL_law_1278 : decode cL_law 1278 = .ok (.iconst 0, 1) := by decide +kernel
theorem dL_law_1279 : decode cL_law 1279 = .ok (.ireturn, 1) := by decide +kernel
theorem dL_law_1280 : decode cL_law 1280 = .ok (.iload 6, 2) := by decide +kernel
theorem dL_law_1282 : decode cL_law 1282 = .ok (.ifCond .ne 15, 3) := by decide +kernel
theorem dL_law_1285 : decode cL_law 1285 = .ok (.aload_n 3, 1) := by decide +kernel
theorem dL_law_1286 : decode cL_law 1286 = .ok (.iconst 0, 1) := by decide +kernel
theorem dL_law_1287 : decode cL_law 1287 = .ok (.laload, 1) := by decide +kernel
theorem dL_law_1288 : decode cL_law 1288 = .ok (.iload 7, 2) := by decide +kernel
theorem dL_law_1290 : decode cL_law 1290 = .ok (.i2l, 1) := by decide +kernel
theorem dL_law_1291 : decode cL_law 1291 = .ok (.lcmp, 1) := by decide +kernel
theorem dL_law_1292 : decode cL_law 1292 = .ok (.ifCond .eq 5, 3) := by decide +kernel
theorem dL_law_1295 : decode cL_law 1295 = .ok (.iconst 0, 1) := by decide +kernel
theorem dL_law_1296 : decode cL_law 1296 = .ok (.ireturn, 1) := by decide +kernel
theorem dL_law_1297 : decode cL_law 1297 = .ok (.goto 606, 3) := by decide +kernel
theorem dL_law_1300 : decode cL_law 1300 = .ok (.aload_n 1, 1) := by decide +kernel
theorem dL_law_1301 : decode cL_law 1301 = .ok (.aload_n 0, 1) := by decide +kernel
theorem dL_law_1302 : decode cL_law 1302 = .ok (.iload 5, 2) := by decide +kernel
theorem dL_law_1304 : decode cL_law 1304 = .ok (.iconst 1, 1) := by decide +kernel
theorem dL_law_1305 : decode cL_law 1305 = .ok (.iadd, 1) := by decide +kernel
theorem dL_law_1306 : decode cL_law 1306 = .ok (.iaload, 1) := by decide +kernel
theorem dL_law_1307 : decode cL_law 1307 = .ok (.aload_n 3, 1) := by decide +kernel
theorem dL_law_1308 : decode cL_law 1308 = .ok (.invokestatic 177, 3) := by decide +kernel
theorem dL_law_1311 : decode cL_law 1311 = .ok (.istore 6, 2) := by decide +kernel
theorem dL_law_1313 : decode cL_law 1313 = .ok (.aload_n 2, 1) := by decide +kernel
theorem dL_law_1314 : decode cL_law 1314 = .ok (.aload_n 0, 1) := by decide +kernel
theorem dL_law_1315 : decode cL_law 1315 = .ok (.iload 5, 2) := by decide +kernel
theorem dL_law_1317 : decode cL_law 1317 = .ok (.iconst 1, 1) := by decide +kernel
theorem dL_law_1318 : decode cL_law 1318 = .ok (.iadd, 1) := by decide +kernel
theorem dL_law_1319 : decode cL_law 1319 = .ok (.iaload, 1) := by decide +kernel
theorem dL_law_1320 : decode cL_law 1320 = .ok (.invokevirtual 179, 3) := by decide +kernel
theorem dL_law_1323 : decode cL_law 1323 = .ok (.istore 7, 2) := by decide +kernel
theorem dL_law_1325 : decode cL_law 1325 = .ok (.aload_n 2, 1) := by decide +kernel
theorem dL_law_1326 : decode cL_law 1326 = .ok (.invokevirtual 120, 3) := by decide +kernel
theorem dL_law_1329 : decode cL_law 1329 = .ok (.iload 6, 2) := by decide +kernel
theorem dL_law_1331 : decode cL_law 1331 = .ok (.if_icmp .eq 5, 3) := by decide +kernel
theorem dL_law_1334 : decode cL_law 1334 = .ok (.iconst 0, 1) := by decide +kernel
theorem dL_law_1335 : decode cL_law 1335 = .ok (.ireturn, 1) := by decide +kernel
theorem dL_law_1336 : decode cL_law 1336 = .ok (.iload 6, 2) := by decide +kernel
theorem dL_law_1338 : decode cL_law 1338 = .ok (.ifCond .ne 15, 3) := by decide +kernel
theorem dL_law_1341 : decode cL_law 1341 = .ok (.aload_n 3, 1) := by decide +kernel
theorem dL_law_1342 : decode cL_law 1342 = .ok (.iconst 0, 1) := by decide +kernel
theorem dL_law_1343 : decode cL_law 1343 = .ok (.laload, 1) := by decide +kernel
theorem dL_law_1344 : decode cL_law 1344 = .ok (.iload 7, 2) := by decide +kernel
theorem dL_law_1346 : decode cL_law 1346 = .ok (.i2l, 1) := by decide +kernel
theorem dL_law_1347 : decode cL_law 1347 = .ok (.lcmp, 1) := by decide +kernel
theorem dL_law_1348 : decode cL_law 1348 = .ok (.ifCond .eq 5, 3) := by decide +kernel
theorem dL_law_1351 : decode cL_law 1351 = .ok (.iconst 0, 1) := by decide +kernel
theorem dL_law_1352 : decode cL_law 1352 = .ok (.ireturn, 1) := by decide +kernel
theorem dL_law_1353 : decode cL_law 1353 = .ok (.goto 550, 3) := by decide +kernel
theorem dL_law_1356 : decode cL_law 1356 = .ok (.aload_n 1, 1) := by decide +kernel
theorem dL_law_1357 : decode cL_law 1357 = .ok (.invokevirtual 180, 3) := by decide +kernel
theorem dL_law_1360 : decode cL_law 1360 = .ok (.aload_n 2, 1) := by decide +kernel
theorem dL_law_1361 : decode cL_law 1361 = .ok (.invokevirtual 183, 3) := by decide +kernel
theorem dL_law_1364 : decode cL_law 1364 = .ok (.if_icmp .eq 539, 3) := by decide +kernel
theorem dL_law_1367 : decode cL_law 1367 = .ok (.iconst 0, 1) := by decide +kernel
theorem dL_law_1368 : decode cL_law 1368 = .ok (.ireturn, 1) := by decide +kernel
theorem dL_law_1369 : decode cL_law 1369 = .ok (.aload_n 1, 1) := by decide +kernel
theorem dL_law_1370 : decode cL_law 1370 = .ok (.invokevirtual 184, 3) := by decide +kernel
theorem dL_law_1373 : decode cL_law 1373 = .ok (.aload_n 2, 1) := by decide +kernel
theorem dL_law_1374 : decode cL_law 1374 = .ok (.invokevirtual 187, 3) := by decide +kernel
theorem dL_law_1377 : decode cL_law 1377 = .ok (.if_icmp .eq 526, 3) := by decide +kernel
theorem dL_law_1380 : decode cL_law 1380 = .ok (.iconst 0, 1) := by decide +kernel
theorem dL_law_1381 : decode cL_law 1381 = .ok (.ireturn, 1) := by decide +kernel
theorem dL_law_1382 : decode cL_law 1382 = .ok (.aload_n 1, 1) := by decide +kernel
theorem dL_law_1383 : decode cL_law 1383 = .ok (.aload_n 0, 1) := by decide +kernel
theorem dL_law_1384 : decode cL_law 1384 = .ok (.iload 5, 2) := by decide +kernel
theorem dL_law_1386 : decode cL_law 1386 = .ok (.iconst 1, 1) := by decide +kernel
theorem dL_law_1387 : decode cL_law 1387 = .ok (.iadd, 1) := by decide +kernel
theorem dL_law_1388 : decode cL_law 1388 = .ok (.iaload, 1) := by decide +kernel
theorem dL_law_1389 : decode cL_law 1389 = .ok (.aload_n 3, 1) := by decide +kernel
theorem dL_law_1390 : decode cL_law 1390 = .ok (.invokestatic 188, 3) := by decide +kernel
theorem dL_law_1393 : decode cL_law 1393 = .ok (.istore 6, 2) := by decide +kernel
theorem dL_law_1395 : decode cL_law 1395 = .ok (.aload_n 2, 1) := by decide +kernel
theorem dL_law_1396 : decode cL_law 1396 = .ok (.aload_n 0, 1) := by decide +kernel
theorem dL_law_1397 : decode cL_law 1397 = .ok (.iload 5, 2) := by decide +kernel
theorem dL_law_1399 : decode cL_law 1399 = .ok (.iconst 1, 1) := by decide +kernel
theorem dL_law_1400 : decode cL_law 1400 = .ok (.iadd, 1) := by decide +kernel
theorem dL_law_1401 : decode cL_law 1401 = .ok (.iaload, 1) := by decide +kernel
theorem dL_law_1402 : decode cL_law 1402 = .ok (.invokevirtual 190, 3) := by decide +kernel
theorem dL_law_1405 : decode cL_law 1405 = .ok (.istore 7, 2) := by decide +kernel
theorem dL_law_1407 : decode cL_law 1407 = .ok (.aload_n 2, 1) := by decide +kernel
theorem dL_law_1408 : decode cL_law 1408 = .ok (.invokevirtual 120, 3) := by decide +kernel
theorem dL_law_1411 : decode cL_law 1411 = .ok (.iload 6, 2) := by decide +kernel
theorem dL_law_1413 : decode cL_law 1413 = .ok (.if_icmp .eq 5, 3) := by decide +kernel
theorem dL_law_1416 : decode cL_law 1416 = .ok (.iconst 0, 1) := by decide +kernel
theorem dL_law_1417 : decode cL_law 1417 = .ok (.ireturn, 1) := by decide +kernel
theorem dL_law_1418 : decode cL_law 1418 = .ok (.iload 6, 2) := by decide +kernel
theorem dL_law_1420 : decode cL_law 1420 = .ok (.ifCond .ne 15, 3) := by decide +kernel
theorem dL_law_1423 : decode cL_law 1423 = .ok (.aload_n 3, 1) := by decide +kernel
theorem dL_law_1424 : decode cL_law 1424 = .ok (.iconst 0, 1) := by decide +kernel
theorem dL_law_1425 : decode cL_law 1425 = .ok (.laload, 1) := by decide +kernel
theorem dL_law_1426 : decode cL_law 1426 = .ok (.iload 7, 2) := by decide +kernel
theorem dL_law_1428 : decode cL_law 1428 = .ok (.i2l, 1) := by decide +kernel
theorem dL_law_1429 : decode cL_law 1429 = .ok (.lcmp, 1) := by decide +kernel
theorem dL_law_1430 : decode cL_law 1430 = .ok (.ifCond .eq 5, 3) := by decide +kernel
theorem dL_law_1433 : decode cL_law 1433 = .ok (.iconst 0, 1) := by decide +kernel
theorem dL_law_1434 : decode cL_law 1434 = .ok (.ireturn, 1) := by decide +kernel
theorem dL_law_1435 : decode cL_law 1435 = .ok (.goto 468, 3) := by decide +kernel
theorem dL_law_1438 : decode cL_law 1438 = .ok (.aload_n 1, 1) := by decide +kernel
theorem dL_law_1439 : decode cL_law 1439 = .ok (.aload_n 0, 1) := by decide +kernel
theorem dL_law_1440 : decode cL_law 1440 = .ok (.iload 5, 2) := by decide +kernel
theorem dL_law_1442 : decode cL_law 1442 = .ok (.iconst 1, 1) := by decide +kernel
theorem dL_law_1443 : decode cL_law 1443 = .ok (.iadd, 1) := by decide +kernel
theorem dL_law_1444 : decode cL_law 1444 = .ok (.iaload, 1) := by decide +kernel
theorem dL_law_1445 : decode cL_law 1445 = .ok (.i2c, 1) := by decide +kernel
theorem dL_law_1446 : decode cL_law 1446 = .ok (.aload_n 3, 1) := by decide +kernel
theorem dL_law_1447 : decode cL_law 1447 = .ok (.invokestatic 191, 3) := by decide +kernel
theorem dL_law_1450 : decode cL_law 1450 = .ok (.istore 6, 2) := by decide +kernel
theorem dL_law_1452 : decode cL_law 1452 = .ok (.aload_n 2, 1) := by decide +kernel
theorem dL_law_1453 : decode cL_law 1453 = .ok (.aload_n 0, 1) := by decide +kernel
theorem dL_law_1454 : decode cL_law 1454 = .ok (.iload 5, 2) := by decide +kernel
theorem dL_law_1456 : decode cL_law 1456 = .ok (.iconst 1, 1) := by decide +kernel
theorem dL_law_1457 : decode cL_law 1457 = .ok (.iadd, 1) := by decide +kernel
theorem dL_law_1458 : decode cL_law 1458 = .ok (.iaload, 1) := by decide +kernel
theorem dL_law_1459 : decode cL_law 1459 = .ok (.i2c, 1) := by decide +kernel
theorem dL_law_1460 : decode cL_law 1460 = .ok (.invokevirtual 194, 3) := by decide +kernel
theorem dL_law_1463 : decode cL_law 1463 = .ok (.istore 7, 2) := by decide +kernel
theorem dL_law_1465 : decode cL_law 1465 = .ok (.aload_n 2, 1) := by decide +kernel
theorem dL_law_1466 : decode cL_law 1466 = .ok (.invokevirtual 120, 3) := by decide +kernel
theorem dL_law_1469 : decode cL_law 1469 = .ok (.iload 6, 2) := by decide +kernel
theorem dL_law_1471 : decode cL_law 1471 = .ok (.if_icmp .eq 5, 3) := by decide +kernel
theorem dL_law_1474 : decode cL_law 1474 = .ok (.iconst 0, 1) := by decide +kernel
theorem dL_law_1475 : decode cL_law 1475 = .ok (.ireturn, 1) := by decide +kernel
theorem dL_law_1476 : decode cL_law 1476 = .ok (.iload 6, 2) := by decide +kernel
theorem dL_law_1478 : decode cL_law 1478 = .ok (.ifCond .ne 15, 3) := by decide +kernel
theorem dL_law_1481 : decode cL_law 1481 = .ok (.aload_n 3, 1) := by decide +kernel
theorem dL_law_1482 : decode cL_law 1482 = .ok (.iconst 0, 1) := by decide +kernel
theorem dL_law_1483 : decode cL_law 1483 = .ok (.laload, 1) := by decide +kernel
theorem dL_law_1484 : decode cL_law 1484 = .ok (.iload 7, 2) := by decide +kernel
theorem dL_law_1486 : decode cL_law 1486 = .ok (.i2l, 1) := by decide +kernel
theorem dL_law_1487 : decode cL_law 1487 = .ok (.lcmp, 1) := by decide +kernel
theorem dL_law_1488 : decode cL_law 1488 = .ok (.ifCond .eq 5, 3) := by decide +kernel
theorem dL_law_1491 : decode cL_law 1491 = .ok (.iconst 0, 1) := by decide +kernel
theorem dL_law_1492 : decode cL_law 1492 = .ok (.ireturn, 1) := by decide +kernel
theorem dL_law_1493 : decode cL_law 1493 = .ok (.goto 410, 3) := by decide +kernel
theorem dL_law_1496 : decode cL_law 1496 = .ok (.aload_n 1, 1) := by decide +kernel
theorem dL_law_1497 : decode cL_law 1497 = .ok (.aload_n 3, 1) := by decide +kernel
theorem dL_law_1498 : decode cL_law 1498 = .ok (.invokestatic 195, 3) := by decide +kernel
theorem dL_law_1501 : decode cL_law 1501 = .ok (.istore 6, 2) := by decide +kernel
theorem dL_law_1503 : decode cL_law 1503 = .ok (.aload_n 2, 1) := by decide +kernel
theorem dL_law_1504 : decode cL_law 1504 = .ok (.invokevirtual 197, 3) := by decide +kernel
theorem dL_law_1507 : decode cL_law 1507 = .ok (.istore 7, 2) := by decide +kernel
theorem dL_law_1509 : decode cL_law 1509 = .ok (.aload_n 2, 1) := by decide +kernel
theorem dL_law_1510 : decode cL_law 1510 = .ok (.invokevirtual 120, 3) := by decide +kernel
theorem dL_law_1513 : decode cL_law 1513 = .ok (.iload 6, 2) := by decide +kernel
theorem dL_law_1515 : decode cL_law 1515 = .ok (.if_icmp .eq 5, 3) := by decide +kernel
theorem dL_law_1518 : decode cL_law 1518 = .ok (.iconst 0, 1) := by decide +kernel
theorem dL_law_1519 : decode cL_law 1519 = .ok (.ireturn, 1) := by decide +kernel
theorem dL_law_1520 : decode cL_law 1520 = .ok (.iload 6, 2) := by decide +kernel
theorem dL_law_1522 : decode cL_law 1522 = .ok (.ifCond .ne 15, 3) := by decide +kernel
theorem dL_law_1525 : decode cL_law 1525 = .ok (.aload_n 3, 1) := by decide +kernel
theorem dL_law_1526 : decode cL_law 1526 = .ok (.iconst 0, 1) := by decide +kernel
theorem dL_law_1527 : decode cL_law 1527 = .ok (.laload, 1) := by decide +kernel
theorem dL_law_1528 : decode cL_law 1528 = .ok (.iload 7, 2) := by decide +kernel
theorem dL_law_1530 : decode cL_law 1530 = .ok (.i2l, 1) := by decide +kernel
theorem dL_law_1531 : decode cL_law 1531 = .ok (.lcmp, 1) := by decide +kernel
theorem dL_law_1532 : decode cL_law 1532 = .ok (.ifCond .eq 5, 3) := by decide +kernel
theorem dL_law_1535 : decode cL_law 1535 = .ok (.iconst 0, 1) := by decide +kernel
theorem dL_law_1536 : decode cL_law 1536 = .ok (.ireturn, 1) := by decide +kernel
theorem dL_law_1537 : decode cL_law 1537 = .ok (.goto 366, 3) := by decide +kernel
theorem dL_law_1540 : decode cL_law 1540 = .ok (.aload_n 1, 1) := by decide +kernel
theorem dL_law_1541 : decode cL_law 1541 = .ok (.invokevirtual 198, 3) := by decide +kernel
theorem dL_law_1544 : decode cL_law 1544 = .ok (.aload_n 2, 1) := by decide +kernel
theorem dL_law_1545 : decode cL_law 1545 = .ok (.invokevirtual 201, 3) := by decide +kernel
theorem dL_law_1548 : decode cL_law 1548 = .ok (.if_icmp .eq 355, 3) := by decide +kernel
theorem dL_law_1551 : decode cL_law 1551 = .ok (.iconst 0, 1) := by decide +kernel
theorem dL_law_1552 : decode cL_law 1552 = .ok (.ireturn, 1) := by decide +kernel
theorem dL_law_1553 : decode cL_law 1553 = .ok (.aload_n 1, 1) := by decide +kernel
theorem dL_law_1554 : decode cL_law 1554 = .ok (.aload_n 0, 1) := by decide +kernel
theorem dL_law_1555 : decode cL_law 1555 = .ok (.iload 5, 2) := by decide +kernel
theorem dL_law_1557 : decode cL_law 1557 = .ok (.iconst 1, 1) := by decide +kernel
theorem dL_law_1558 : decode cL_law 1558 = .ok (.iadd, 1) := by decide +kernel
theorem dL_law_1559 : decode cL_law 1559 = .ok (.iaload, 1) := by decide +kernel
theorem dL_law_1560 : decode cL_law 1560 = .ok (.ifCond .eq 7, 3) := by decide +kernel
theorem dL_law_1563 : decode cL_law 1563 = .ok (.iconst 1, 1) := by decide +kernel
theorem dL_law_1564 : decode cL_law 1564 = .ok (.goto 4, 3) := by decide +kernel
theorem dL_law_1567 : decode cL_law 1567 = .ok (.iconst 0, 1) := by decide +kernel
theorem dL_law_1568 : decode cL_law 1568 = .ok (.aload_n 3, 1) := by decide +kernel
theorem dL_law_1569 : decode cL_law 1569 = .ok (.invokestatic 202, 3) := by decide +kernel
theorem dL_law_1572 : decode cL_law 1572 = .ok (.istore 6, 2) := by decide +kernel
theorem dL_law_1574 : decode cL_law 1574 = .ok (.aload_n 2, 1) := by decide +kernel
theorem dL_law_1575 : decode cL_law 1575 = .ok (.aload_n 0, 1) := by decide +kernel
theorem dL_law_1576 : decode cL_law 1576 = .ok (.iload 5, 2) := by decide +kernel
theorem dL_law_1578 : decode cL_law 1578 = .ok (.iconst 1, 1) := by decide +kernel
theorem dL_law_1579 : decode cL_law 1579 = .ok (.iadd, 1) := by decide +kernel
theorem dL_law_1580 : decode cL_law 1580 = .ok (.iaload, 1) := by decide +kernel
theorem dL_law_1581 : decode cL_law 1581 = .ok (.ifCond .eq 7, 3) := by decide +kernel
theorem dL_law_1584 : decode cL_law 1584 = .ok (.iconst 1, 1) := by decide +kernel
theorem dL_law_1585 : decode cL_law 1585 = .ok (.goto 4, 3) := by decide +kernel
theorem dL_law_1588 : decode cL_law 1588 = .ok (.iconst 0, 1) := by decide +kernel
theorem dL_law_1589 : decode cL_law 1589 = .ok (.invokevirtual 205, 3) := by decide +kernel
theorem dL_law_1592 : decode cL_law 1592 = .ok (.istore 7, 2) := by decide +kernel
theorem dL_law_1594 : decode cL_law 1594 = .ok (.aload_n 2, 1) := by decide +kernel
theorem dL_law_1595 : decode cL_law 1595 = .ok (.invokevirtual 120, 3) := by decide +kernel
theorem dL_law_1598 : decode cL_law 1598 = .ok (.iload 6, 2) := by decide +kernel
theorem dL_law_1600 : decode cL_law 1600 = .ok (.if_icmp .eq 5, 3) := by decide +kernel
theorem dL_law_1603 : decode cL_law 1603 = .ok (.iconst 0, 1) := by decide +kernel
theorem dL_law_1604 : decode cL_law 1604 = .ok (.ireturn, 1) := by decide +kernel
theorem dL_law_1605 : decode cL_law 1605 = .ok (.iload 6, 2) := by decide +kernel
theorem dL_law_1607 : decode cL_law 1607 = .ok (.ifCond .ne 15, 3) := by decide +kernel
theorem dL_law_1610 : decode cL_law 1610 = .ok (.aload_n 3, 1) := by decide +kernel
theorem dL_law_1611 : decode cL_law 1611 = .ok (.iconst 0, 1) := by decide +kernel
theorem dL_law_1612 : decode cL_law 1612 = .ok (.laload, 1) := by decide +kernel
theorem dL_law_1613 : decode cL_law 1613 = .ok (.iload 7, 2) := by decide +kernel
theorem dL_law_1615 : decode cL_law 1615 = .ok (.i2l, 1) := by decide +kernel
theorem dL_law_1616 : decode cL_law 1616 = .ok (.lcmp, 1) := by decide +kernel
theorem dL_law_1617 : decode cL_law 1617 = .ok (.ifCond .eq 5, 3) := by decide +kernel
theorem dL_law_1620 : decode cL_law 1620 = .ok (.iconst 0, 1) := by decide +kernel
theorem dL_law_1621 : decode cL_law 1621 = .ok (.ireturn, 1) := by decide +kernel
theorem dL_law_1622 : decode cL_law 1622 = .ok (.goto 281, 3) := by decide +kernel
theorem dL_law_1625 : decode cL_law 1625 = .ok (.aload_n 1, 1) := by decide +kernel
theorem dL_law_1626 : decode cL_law 1626 = .ok (.aload_n 0, 1) := by decide +kernel
theorem dL_law_1627 : decode cL_law 1627 = .ok (.iload 5, 2) := by decide +kernel
theorem dL_law_1629 : decode cL_law 1629 = .ok (.iconst 1, 1) := by decide +kernel
theorem dL_law_1630 : decode cL_law 1630 = .ok (.iadd, 1) := by decide +kernel
theorem dL_law_1631 : decode cL_law 1631 = .ok (.iaload, 1) := by decide +kernel
theorem dL_law_1632 : decode cL_law 1632 = .ok (.aload_n 3, 1) := by decide +kernel
theorem dL_law_1633 : decode cL_law 1633 = .ok (.invokestatic 206, 3) := by decide +kernel
theorem dL_law_1636 : decode cL_law 1636 = .ok (.istore 6, 2) := by decide +kernel
theorem dL_law_1638 : decode cL_law 1638 = .ok (.aload_n 2, 1) := by decide +kernel
theorem dL_law_1639 : decode cL_law 1639 = .ok (.aload_n 0, 1) := by decide +kernel
theorem dL_law_1640 : decode cL_law 1640 = .ok (.iload 5, 2) := by decide +kernel
theorem dL_law_1642 : decode cL_law 1642 = .ok (.iconst 1, 1) := by decide +kernel
theorem dL_law_1643 : decode cL_law 1643 = .ok (.iadd, 1) := by decide +kernel
theorem dL_law_1644 : decode cL_law 1644 = .ok (.iaload, 1) := by decide +kernel
theorem dL_law_1645 : decode cL_law 1645 = .ok (.invokevirtual 208, 3) := by decide +kernel
theorem dL_law_1648 : decode cL_law 1648 = .ok (.istore 7, 2) := by decide +kernel
theorem dL_law_1650 : decode cL_law 1650 = .ok (.aload_n 2, 1) := by decide +kernel
theorem dL_law_1651 : decode cL_law 1651 = .ok (.invokevirtual 120, 3) := by decide +kernel
theorem dL_law_1654 : decode cL_law 1654 = .ok (.iload 6, 2) := by decide +kernel
theorem dL_law_1656 : decode cL_law 1656 = .ok (.if_icmp .eq 5, 3) := by decide +kernel
theorem dL_law_1659 : decode cL_law 1659 = .ok (.iconst 0, 1) := by decide +kernel
theorem dL_law_1660 : decode cL_law 1660 = .ok (.ireturn, 1) := by decide +kernel
theorem dL_law_1661 : decode cL_law 1661 = .ok (.iload 6, 2) := by decide +kernel
theorem dL_law_1663 : decode cL_law 1663 = .ok (.ifCond .ne 15, 3) := by decide +kernel
theorem dL_law_1666 : decode cL_law 1666 = .ok (.aload_n 3, 1) := by decide +kernel
theorem dL_law_1667 : decode cL_law 1667 = .ok (.iconst 0, 1) := by decide +kernel
theorem dL_law_1668 : decode cL_law 1668 = .ok (.laload, 1) := by decide +kernel
theorem dL_law_1669 : decode cL_law 1669 = .ok (.iload 7, 2) := by decide +kernel
theorem dL_law_1671 : decode cL_law 1671 = .ok (.i2l, 1) := by decide +kernel
theorem dL_law_1672 : decode cL_law 1672 = .ok (.lcmp, 1) := by decide +kernel
theorem dL_law_1673 : decode cL_law 1673 = .ok (.ifCond .eq 5, 3) := by decide +kernel
theorem dL_law_1676 : decode cL_law 1676 = .ok (.iconst 0, 1) := by decide +kernel
theorem dL_law_1677 : decode cL_law 1677 = .ok (.ireturn, 1) := by decide +kernel
theorem dL_law_1678 : decode cL_law 1678 = .ok (.goto 225, 3) := by decide +kernel
theorem dL_law_1681 : decode cL_law 1681 = .ok (.aload_n 1, 1) := by decide +kernel
theorem dL_law_1682 : decode cL_law 1682 = .ok (.invokevirtual 209, 3) := by decide +kernel
theorem dL_law_1685 : decode cL_law 1685 = .ok (.aload_n 2, 1) := by decide +kernel
theorem dL_law_1686 : decode cL_law 1686 = .ok (.invokevirtual 213, 3) := by decide +kernel
theorem dL_law_1689 : decode cL_law 1689 = .ok (.if_icmp .eq 214, 3) := by decide +kernel
theorem dL_law_1692 : decode cL_law 1692 = .ok (.iconst 0, 1) := by decide +kernel
theorem dL_law_1693 : decode cL_law 1693 = .ok (.ireturn, 1) := by decide +kernel
theorem dL_law_1694 : decode cL_law 1694 = .ok (.aload_n 1, 1) := by decide +kernel
theorem dL_law_1695 : decode cL_law 1695 = .ok (.aload 4, 2) := by decide +kernel
theorem dL_law_1697 : decode cL_law 1697 = .ok (.invokestatic 214, 3) := by decide +kernel
theorem dL_law_1700 : decode cL_law 1700 = .ok (.istore 6, 2) := by decide +kernel
theorem dL_law_1702 : decode cL_law 1702 = .ok (.aload_n 2, 1) := by decide +kernel
theorem dL_law_1703 : decode cL_law 1703 = .ok (.invokevirtual 217, 3) := by decide +kernel
theorem dL_law_1706 : decode cL_law 1706 = .ok (.dstore 7, 2) := by decide +kernel
theorem dL_law_1708 : decode cL_law 1708 = .ok (.aload_n 2, 1) := by decide +kernel
theorem dL_law_1709 : decode cL_law 1709 = .ok (.invokevirtual 120, 3) := by decide +kernel
theorem dL_law_1712 : decode cL_law 1712 = .ok (.iload 6, 2) := by decide +kernel
theorem dL_law_1714 : decode cL_law 1714 = .ok (.if_icmp .eq 5, 3) := by decide +kernel
theorem dL_law_1717 : decode cL_law 1717 = .ok (.iconst 0, 1) := by decide +kernel
theorem dL_law_1718 : decode cL_law 1718 = .ok (.ireturn, 1) := by decide +kernel
theorem dL_law_1719 : decode cL_law 1719 = .ok (.iload 6, 2) := by decide +kernel
theorem dL_law_1721 : decode cL_law 1721 = .ok (.ifCond .ne 35, 3) := by decide +kernel
theorem dL_law_1724 : decode cL_law 1724 = .ok (.aload 4, 2) := by decide +kernel
theorem dL_law_1726 : decode cL_law 1726 = .ok (.iconst 0, 1) := by decide +kernel
theorem dL_law_1727 : decode cL_law 1727 = .ok (.daload, 1) := by decide +kernel
theorem dL_law_1728 : decode cL_law 1728 = .ok (.dload 7, 2) := by decide +kernel
theorem dL_law_1730 : decode cL_law 1730 = .ok (.dcmp .l, 1) := by decide +kernel
theorem dL_law_1731 : decode cL_law 1731 = .ok (.ifCond .eq 25, 3) := by decide +kernel
theorem dL_law_1734 : decode cL_law 1734 = .ok (.aload 4, 2) := by decide +kernel
theorem dL_law_1736 : decode cL_law 1736 = .ok (.iconst 0, 1) := by decide +kernel
theorem dL_law_1737 : decode cL_law 1737 = .ok (.daload, 1) := by decide +kernel
theorem dL_law_1738 : decode cL_law 1738 = .ok (.aload 4, 2) := by decide +kernel
theorem dL_law_1740 : decode cL_law 1740 = .ok (.iconst 0, 1) := by decide +kernel
theorem dL_law_1741 : decode cL_law 1741 = .ok (.daload, 1) := by decide +kernel
theorem dL_law_1742 : decode cL_law 1742 = .ok (.dcmp .l, 1) := by decide +kernel
theorem dL_law_1743 : decode cL_law 1743 = .ok (.ifCond .eq 11, 3) := by decide +kernel
theorem dL_law_1746 : decode cL_law 1746 = .ok (.dload 7, 2) := by decide +kernel
theorem dL_law_1748 : decode cL_law 1748 = .ok (.dload 7, 2) := by decide +kernel
theorem dL_law_1750 : decode cL_law 1750 = .ok (.dcmp .l, 1) := by decide +kernel
theorem dL_law_1751 : decode cL_law 1751 = .ok (.ifCond .ne 5, 3) := by decide +kernel
theorem dL_law_1754 : decode cL_law 1754 = .ok (.iconst 0, 1) := by decide +kernel
theorem dL_law_1755 : decode cL_law 1755 = .ok (.ireturn, 1) := by decide +kernel
theorem dL_law_1756 : decode cL_law 1756 = .ok (.goto 147, 3) := by decide +kernel
theorem dL_law_1759 : decode cL_law 1759 = .ok (.aload_n 1, 1) := by decide +kernel
theorem dL_law_1760 : decode cL_law 1760 = .ok (.invokevirtual 218, 3) := by decide +kernel
theorem dL_law_1763 : decode cL_law 1763 = .ok (.f2d, 1) := by decide +kernel
theorem dL_law_1764 : decode cL_law 1764 = .ok (.dstore 6, 2) := by decide +kernel
theorem dL_law_1766 : decode cL_law 1766 = .ok (.aload_n 2, 1) := by decide +kernel
theorem dL_law_1767 : decode cL_law 1767 = .ok (.invokevirtual 222, 3) := by decide +kernel
theorem dL_law_1770 : decode cL_law 1770 = .ok (.f2d, 1) := by decide +kernel
theorem dL_law_1771 : decode cL_law 1771 = .ok (.dstore 8, 2) := by decide +kernel
theorem dL_law_1773 : decode cL_law 1773 = .ok (.dload 6, 2) := by decide +kernel
theorem dL_law_1775 : decode cL_law 1775 = .ok (.dload 8, 2) := by decide +kernel
theorem dL_law_1777 : decode cL_law 1777 = .ok (.dcmp .l, 1) := by decide +kernel
theorem dL_law_1778 : decode cL_law 1778 = .ok (.ifCond .eq 21, 3) := by decide +kernel
theorem dL_law_1781 : decode cL_law 1781 = .ok (.dload 6, 2) := by decide +kernel
theorem dL_law_1783 : decode cL_law 1783 = .ok (.dload 6, 2) := by decide +kernel
theorem dL_law_1785 : decode cL_law 1785 = .ok (.dcmp .l, 1) := by decide +kernel
theorem dL_law_1786 : decode cL_law 1786 = .ok (.ifCond .eq 11, 3) := by decide +kernel
theorem dL_law_1789 : decode cL_law 1789 = .ok (.dload 8, 2) := by decide +kernel
theorem dL_law_1791 : decode cL_law 1791 = .ok (.dload 8, 2) := by decide +kernel
theorem dL_law_1793 : decode cL_law 1793 = .ok (.dcmp .l, 1) := by decide +kernel
theorem dL_law_1794 : decode cL_law 1794 = .ok (.ifCond .ne 5, 3) := by decide +kernel
theorem dL_law_1797 : decode cL_law 1797 = .ok (.iconst 0, 1) := by decide +kernel
theorem dL_law_1798 : decode cL_law 1798 = .ok (.ireturn, 1) := by decide +kernel
theorem dL_law_1799 : decode cL_law 1799 = .ok (.goto 104, 3) := by decide +kernel
theorem dL_law_1802 : decode cL_law 1802 = .ok (.aload_n 1, 1) := by decide +kernel
theorem dL_law_1803 : decode cL_law 1803 = .ok (.aload_n 3, 1) := by decide +kernel
theorem dL_law_1804 : decode cL_law 1804 = .ok (.invokestatic 223, 3) := by decide +kernel
theorem dL_law_1807 : decode cL_law 1807 = .ok (.istore 6, 2) := by decide +kernel
theorem dL_law_1809 : decode cL_law 1809 = .ok (.aload_n 2, 1) := by decide +kernel
theorem dL_law_1810 : decode cL_law 1810 = .ok (.invokevirtual 225, 3) := by decide +kernel
theorem dL_law_1813 : decode cL_law 1813 = .ok (.istore 7, 2) := by decide +kernel
theorem dL_law_1815 : decode cL_law 1815 = .ok (.aload_n 2, 1) := by decide +kernel
theorem dL_law_1816 : decode cL_law 1816 = .ok (.invokevirtual 120, 3) := by decide +kernel
theorem dL_law_1819 : decode cL_law 1819 = .ok (.iload 6, 2) := by decide +kernel
theorem dL_law_1821 : decode cL_law 1821 = .ok (.if_icmp .eq 5, 3) := by decide +kernel
theorem dL_law_1824 : decode cL_law 1824 = .ok (.iconst 0, 1) := by decide +kernel
theorem dL_law_1825 : decode cL_law 1825 = .ok (.ireturn, 1) := by decide +kernel
theorem dL_law_1826 : decode cL_law 1826 = .ok (.iload 6, 2) := by decide +kernel
theorem dL_law_1828 : decode cL_law 1828 = .ok (.ifCond .ne 15, 3) := by decide +kernel
theorem dL_law_1831 : decode cL_law 1831 = .ok (.aload_n 3, 1) := by decide +kernel
theorem dL_law_1832 : decode cL_law 1832 = .ok (.iconst 0, 1) := by decide +kernel
theorem dL_law_1833 : decode cL_law 1833 = .ok (.laload, 1) := by decide +kernel
theorem dL_law_1834 : decode cL_law 1834 = .ok (.iload 7, 2) := by decide +kernel
theorem dL_law_1836 : decode cL_law 1836 = .ok (.i2l, 1) := by decide +kernel
theorem dL_law_1837 : decode cL_law 1837 = .ok (.lcmp, 1) := by decide +kernel
theorem dL_law_1838 : decode cL_law 1838 = .ok (.ifCond .eq 5, 3) := by decide +kernel
theorem dL_law_1841 : decode cL_law 1841 = .ok (.iconst 0, 1) := by decide +kernel
theorem dL_law_1842 : decode cL_law 1842 = .ok (.ireturn, 1) := by decide +kernel
theorem dL_law_1843 : decode cL_law 1843 = .ok (.goto 60, 3) := by decide +kernel
theorem dL_law_1846 : decode cL_law 1846 = .ok (.aload_n 1, 1) := by decide +kernel
theorem dL_law_1847 : decode cL_law 1847 = .ok (.invokevirtual 226, 3) := by decide +kernel
theorem dL_law_1850 : decode cL_law 1850 = .ok (.aload_n 2, 1) := by decide +kernel
theorem dL_law_1851 : decode cL_law 1851 = .ok (.invokevirtual 229, 3) := by decide +kernel
theorem dL_law_1854 : decode cL_law 1854 = .ok (.if_icmp .eq 49, 3) := by decide +kernel
theorem dL_law_1857 : decode cL_law 1857 = .ok (.iconst 0, 1) := by decide +kernel
theorem dL_law_1858 : decode cL_law 1858 = .ok (.ireturn, 1) := by decide +kernel
theorem dL_law_1859 : decode cL_law 1859 = .ok (.aload_n 1, 1) := by decide +kernel
theorem dL_law_1860 : decode cL_law 1860 = .ok (.aload_n 3, 1) := by decide +kernel
theorem dL_law_1861 : decode cL_law 1861 = .ok (.invokestatic 230, 3) := by decide +kernel
theorem dL_law_1864 : decode cL_law 1864 = .ok (.istore 6, 2) := by decide +kernel
theorem dL_law_1866 : decode cL_law 1866 = .ok (.aload_n 2, 1) := by decide +kernel
theorem dL_law_1867 : decode cL_law 1867 = .ok (.invokevirtual 232, 3) := by decide +kernel
theorem dL_law_1870 : decode cL_law 1870 = .ok (.istore 7, 2) := by decide +kernel
theorem dL_law_1872 : decode cL_law 1872 = .ok (.aload_n 2, 1) := by decide +kernel
theorem dL_law_1873 : decode cL_law 1873 = .ok (.invokevirtual 120, 3) := by decide +kernel
theorem dL_law_1876 : decode cL_law 1876 = .ok (.iload 6, 2) := by decide +kernel
theorem dL_law_1878 : decode cL_law 1878 = .ok (.if_icmp .eq 5, 3) := by decide +kernel
theorem dL_law_1881 : decode cL_law 1881 = .ok (.iconst 0, 1) := by decide +kernel
theorem dL_law_1882 : decode cL_law 1882 = .ok (.ireturn, 1) := by decide +kernel
theorem dL_law_1883 : decode cL_law 1883 = .ok (.iload 6, 2) := by decide +kernel
theorem dL_law_1885 : decode cL_law 1885 = .ok (.ifCond .ne 15, 3) := by decide +kernel
theorem dL_law_1888 : decode cL_law 1888 = .ok (.aload_n 3, 1) := by decide +kernel
theorem dL_law_1889 : decode cL_law 1889 = .ok (.iconst 0, 1) := by decide +kernel
theorem dL_law_1890 : decode cL_law 1890 = .ok (.laload, 1) := by decide +kernel
theorem dL_law_1891 : decode cL_law 1891 = .ok (.iload 7, 2) := by decide +kernel
theorem dL_law_1893 : decode cL_law 1893 = .ok (.i2l, 1) := by decide +kernel
theorem dL_law_1894 : decode cL_law 1894 = .ok (.lcmp, 1) := by decide +kernel
theorem dL_law_1895 : decode cL_law 1895 = .ok (.ifCond .eq 5, 3) := by decide +kernel
theorem dL_law_1898 : decode cL_law 1898 = .ok (.iconst 0, 1) := by decide +kernel
theorem dL_law_1899 : decode cL_law 1899 = .ok (.ireturn, 1) := by decide +kernel
theorem dL_law_1900 : decode cL_law 1900 = .ok (.goto 3, 3) := by decide +kernel
theorem dL_law_1903 : decode cL_law 1903 = .ok (.iinc 5 3, 3) := by decide +kernel
theorem dL_law_1906 : decode cL_law 1906 = .ok (.goto (-1878), 3) := by decide +kernel
theorem dL_law_1909 : decode cL_law 1909 = .ok (.iconst 1, 1) := by decide +kernel
theorem dL_law_1910 : decode cL_law 1910 = .ok (.ireturn, 1) := by decide +kernel
