theorem dX0_init_0 : decode cX0_init 0 = .ok (.aload_n 0, 1) := by decide +kernel
theorem dX0_init_1 : decode cX0_init 1 = .ok (.invokespecial 3, 3) := by decide +kernel
theorem dX0_init_4 : decode cX0_init 4 = .ok (.aload_n 0, 1) := by decide +kernel
theorem dX0_init_5 : decode cX0_init 5 = .ok (.iconst (-1), 1) := by decide +kernel
theorem dX0_init_6 : decode cX0_init 6 = .ok (.putfield 9, 3) := by decide +kernel
theorem dX0_init_9 : decode cX0_init 9 = .ok (.aload_n 0, 1) := by decide +kernel
theorem dX0_init_10 : decode cX0_init 10 = .ok (.iload_n 1, 1) := by decide +kernel
theorem dX0_init_11 : decode cX0_init 11 = .ok (.putfield 15, 3) := by decide +kernel
theorem dX0_init_14 : decode cX0_init 14 = .ok (.return_, 1) := by decide +kernel
theorem dX0_isSealed_0 : decode cX0_isSealed 0 = .ok (.aload_n 0, 1) := by decide +kernel
theorem dX0_isSealed_1 : decode cX0_isSealed 1 = .ok (.getfield 9, 3) := by decide +kernel
theorem dX0_isSealed_4 : decode cX0_isSealed 4 = .ok (.iconst (-1), 1) := by decide +kernel
theorem dX0_isSealed_5 : decode cX0_isSealed 5 = .ok (.if_icmp .eq 7, 3) := by decide +kernel
theorem dX0_isSealed_8 : decode cX0_isSealed 8 = .ok (.iconst 1, 1) := by decide +kernel
theorem dX0_isSealed_9 : decode cX0_isSealed 9 = .ok (.goto 4, 3) := by decide +kernel
theorem dX0_isSealed_12 : decode cX0_isSealed 12 = .ok (.iconst 0, 1) := by decide +kernel
theorem dX0_isSealed_13 : decode cX0_isSealed 13 = .ok (.ireturn, 1) := by decide +kernel
theorem dX1_init_0 : decode cX1_init 0 = .ok (.aload_n 0, 1) := by decide +kernel
theorem dX1_init_1 : decode cX1_init 1 = .ok (.invokespecial 3, 3) := by decide +kernel
theorem dX1_init_4 : decode cX1_init 4 = .ok (.aload_n 0, 1) := by decide +kernel
theorem dX1_init_5 : decode cX1_init 5 = .ok (.iconst (-1), 1) := by decide +kernel
theorem dX1_init_6 : decode cX1_init 6 = .ok (.putfield 9, 3) := by decide +kernel
theorem dX1_init_9 : decode cX1_init 9 = .ok (.aload_n 0, 1) := by decide +kernel
theorem dX1_init_10 : decode cX1_init 10 = .ok (.iconst 0, 1) := by decide +kernel
theorem dX1_init_11 : decode cX1_init 11 = .ok (.putfield 15, 3) := by decide +kernel
theorem dX1_init_14 : decode cX1_init 14 = .ok (.aload_n 0, 1) := by decide +kernel
theorem dX1_init_15 : decode cX1_init 15 = .ok (.iconst (-1), 1) := by decide +kernel
theorem dX1_init_16 : decode cX1_init 16 = .ok (.putfield 18, 3) := by decide +kernel
theorem dX1_init_19 : decode cX1_init 19 = .ok (.aload_n 0, 1) := by decide +kernel
theorem dX1_init_20 : decode cX1_init 20 = .ok (.iconst (-1), 1) := by decide +kernel
theorem dX1_init_21 : decode cX1_init 21 = .ok (.putfield 21, 3) := by decide +kernel
theorem dX1_init_24 : decode cX1_init 24 = .ok (.aload_n 0, 1) := by decide +kernel
theorem dX1_init_25 : decode cX1_init 25 = .ok (.iload_n 1, 1) := by decide +kernel
theorem dX1_init_26 : decode cX1_init 26 = .ok (.putfield 24, 3) := by decide +kernel
theorem dX1_init_29 : decode cX1_init 29 = .ok (.aload_n 0, 1) := by decide +kernel
theorem dX1_init_30 : decode cX1_init 30 = .ok (.iload_n 2, 1) := by decide +kernel
theorem dX1_init_31 : decode cX1_init 31 = .ok (.putfield 27, 3) := by decide +kernel
theorem dX1_init_34 : decode cX1_init 34 = .ok (.return_, 1) := by decide +kernel
theorem dX1_crateNumber_0 : decode cX1_crateNumber 0 = .ok (.aload_n 0, 1) := by decide +kernel
theorem dX1_crateNumber_1 : decode cX1_crateNumber 1 = .ok (.getfield 30, 3) := by decide +kernel
theorem dX1_crateNumber_4 : decode cX1_crateNumber 4 = .ok (.ifnonnull 7, 3) := by decide +kernel
theorem dX1_crateNumber_7 : decode cX1_crateNumber 7 = .ok (.iconst (-1), 1) := by decide +kernel
theorem dX1_crateNumber_8 : decode cX1_crateNumber 8 = .ok (.goto 10, 3) := by decide +kernel
theorem dX1_crateNumber_11 : decode cX1_crateNumber 11 = .ok (.aload_n 0, 1) := by decide +kernel
theorem dX1_crateNumber_12 : decode cX1_crateNumber 12 = .ok (.getfield 30, 3) := by decide +kernel
theorem dX1_crateNumber_15 : decode cX1_crateNumber 15 = .ok (.getfield 34, 3) := by decide +kernel
theorem dX1_crateNumber_18 : decode cX1_crateNumber 18 = .ok (.ireturn, 1) := by decide +kernel
theorem dX1_isSealedIn_0 : decode cX1_isSealedIn 0 = .ok (.aload_n 0, 1) := by decide +kernel
theorem dX1_isSealedIn_1 : decode cX1_isSealedIn 1 = .ok (.getfield 30, 3) := by decide +kernel
theorem dX1_isSealedIn_4 : decode cX1_isSealedIn 4 = .ok (.ifnull 17, 3) := by decide +kernel
theorem dX1_isSealedIn_7 : decode cX1_isSealedIn 7 = .ok (.aload_n 0, 1) := by decide +kernel
theorem dX1_isSealedIn_8 : decode cX1_isSealedIn 8 = .ok (.getfield 30, 3) := by decide +kernel
theorem dX1_isSealedIn_11 : decode cX1_isSealedIn 11 = .ok (.invokevirtual 39, 3) := by decide +kernel
theorem dX1_isSealedIn_14 : decode cX1_isSealedIn 14 = .ok (.ifCond .eq 7, 3) := by decide +kernel
theorem dX1_isSealedIn_17 : decode cX1_isSealedIn 17 = .ok (.iconst 1, 1) := by decide +kernel
theorem dX1_isSealedIn_18 : decode cX1_isSealedIn 18 = .ok (.goto 4, 3) := by decide +kernel
theorem dX1_isSealedIn_21 : decode cX1_isSealedIn 21 = .ok (.iconst 0, 1) := by decide +kernel
theorem dX1_isSealedIn_22 : decode cX1_isSealedIn 22 = .ok (.ireturn, 1) := by decide +kernel
theorem dX1_isFinished_0 : decode cX1_isFinished 0 = .ok (.aload_n 0, 1) := by decide +kernel
theorem dX1_isFinished_1 : decode cX1_isFinished 1 = .ok (.getfield 15, 3) := by decide +kernel
theorem dX1_isFinished_4 : decode cX1_isFinished 4 = .ok (.iconst 3, 1) := by decide +kernel
theorem dX1_isFinished_5 : decode cX1_isFinished 5 = .ok (.if_icmp .eq 18, 3) := by decide +kernel
theorem dX1_isFinished_8 : decode cX1_isFinished 8 = .ok (.aload_n 0, 1) := by decide +kernel
theorem dX1_isFinished_9 : decode cX1_isFinished 9 = .ok (.getfield 15, 3) := by decide +kernel
theorem dX1_isFinished_12 : decode cX1_isFinished 12 = .ok (.iconst 1, 1) := by decide +kernel
theorem dX1_isFinished_13 : decode cX1_isFinished 13 = .ok (.if_icmp .ne 14, 3) := by decide +kernel
theorem dX1_isFinished_16 : decode cX1_isFinished 16 = .ok (.aload_n 0, 1) := by decide +kernel
theorem dX1_isFinished_17 : decode cX1_isFinished 17 = .ok (.getfield 43, 3) := by decide +kernel
theorem dX1_isFinished_20 : decode cX1_isFinished 20 = .ok (.ifCond .eq 7, 3) := by decide +kernel
theorem dX1_isFinished_23 : decode cX1_isFinished 23 = .ok (.iconst 1, 1) := by decide +kernel
theorem dX1_isFinished_24 : decode cX1_isFinished 24 = .ok (.goto 4, 3) := by decide +kernel
theorem dX1_isFinished_27 : decode cX1_isFinished 27 = .ok (.iconst 0, 1) := by decide +kernel
theorem dX1_isFinished_28 : decode cX1_isFinished 28 = .ok (.ireturn, 1) := by decide +kernel
theorem dX1_awaitsCertificate_0 : decode cX1_awaitsCertificate 0 = .ok (.aload_n 0, 1) := by decide +kernel
theorem dX1_awaitsCertificate_1 : decode cX1_awaitsCertificate 1 = .ok (.invokevirtual 47, 3) := by decide +kernel
theorem dX1_awaitsCertificate_4 : decode cX1_awaitsCertificate 4 = .ok (.ifCond .eq 22, 3) := by decide +kernel
theorem dX1_awaitsCertificate_7 : decode cX1_awaitsCertificate 7 = .ok (.aload_n 0, 1) := by decide +kernel
theorem dX1_awaitsCertificate_8 : decode cX1_awaitsCertificate 8 = .ok (.getfield 50, 3) := by decide +kernel
theorem dX1_awaitsCertificate_11 : decode cX1_awaitsCertificate 11 = .ok (.ifCond .ne 15, 3) := by decide +kernel
theorem dX1_awaitsCertificate_14 : decode cX1_awaitsCertificate 14 = .ok (.aload_n 0, 1) := by decide +kernel
theorem dX1_awaitsCertificate_15 : decode cX1_awaitsCertificate 15 = .ok (.getfield 21, 3) := by decide +kernel
theorem dX1_awaitsCertificate_18 : decode cX1_awaitsCertificate 18 = .ok (.iconst (-1), 1) := by decide +kernel
theorem dX1_awaitsCertificate_19 : decode cX1_awaitsCertificate 19 = .ok (.if_icmp .ne 7, 3) := by decide +kernel
theorem dX1_awaitsCertificate_22 : decode cX1_awaitsCertificate 22 = .ok (.iconst 1, 1) := by decide +kernel
theorem dX1_awaitsCertificate_23 : decode cX1_awaitsCertificate 23 = .ok (.goto 4, 3) := by decide +kernel
theorem dX1_awaitsCertificate_26 : decode cX1_awaitsCertificate 26 = .ok (.iconst 0, 1) := by decide +kernel
theorem dX1_awaitsCertificate_27 : decode cX1_awaitsCertificate 27 = .ok (.ireturn, 1) := by decide +kernel
theorem dX2_init_0 : decode cX2_init 0 = .ok (.aload_n 0, 1) := by decide +kernel
theorem dX2_init_1 : decode cX2_init 1 = .ok (.invokespecial 1, 3) := by decide +kernel
theorem dX2_init_4 : decode cX2_init 4 = .ok (.aload_n 0, 1) := by decide +kernel
theorem dX2_init_5 : decode cX2_init 5 = .ok (.bipush 60, 2) := by decide +kernel
theorem dX2_init_7 : decode cX2_init 7 = .ok (.anewarray 9, 3) := by decide +kernel
theorem dX2_init_10 : decode cX2_init 10 = .ok (.putfield 11, 3) := by decide +kernel
theorem dX2_init_13 : decode cX2_init 13 = .ok (.aload_n 0, 1) := by decide +kernel
theorem dX2_init_14 : decode cX2_init 14 = .ok (.bipush 10, 2) := by decide +kernel
theorem dX2_init_16 : decode cX2_init 16 = .ok (.anewarray 15, 3) := by decide +kernel
theorem dX2_init_19 : decode cX2_init 19 = .ok (.putfield 17, 3) := by decide +kernel
theorem dX2_init_22 : decode cX2_init 22 = .ok (.iconst 0, 1) := by decide +kernel
theorem dX2_init_23 : decode cX2_init 23 = .ok (.istore_n 1, 1) := by decide +kernel
theorem dX2_init_24 : decode cX2_init 24 = .ok (.iload_n 1, 1) := by decide +kernel
theorem dX2_init_25 : decode cX2_init 25 = .ok (.bipush 10, 2) := by decide +kernel
theorem dX2_init_27 : decode cX2_init 27 = .ok (.if_icmp .ge 23, 3) := by decide +kernel
theorem dX2_init_30 : decode cX2_init 30 = .ok (.aload_n 0, 1) := by decide +kernel
theorem dX2_init_31 : decode cX2_init 31 = .ok (.getfield 17, 3) := by decide +kernel
theorem dX2_init_34 : decode cX2_init 34 = .ok (.iload_n 1, 1) := by decide +kernel
theorem dX2_init_35 : decode cX2_init 35 = .ok (.new 15, 3) := by decide +kernel
theorem dX2_init_38 : decode cX2_init 38 = .ok (.dup, 1) := by decide +kernel
theorem dX2_init_39 : decode cX2_init 39 = .ok (.iload_n 1, 1) := by decide +kernel
theorem dX2_init_40 : decode cX2_init 40 = .ok (.invokespecial 21, 3) := by decide +kernel
theorem dX2_init_43 : decode cX2_init 43 = .ok (.aastore, 1) := by decide +kernel
theorem dX2_init_44 : decode cX2_init 44 = .ok (.iinc 1 1, 3) := by decide +kernel
theorem dX2_init_47 : decode cX2_init 47 = .ok (.goto (-23), 3) := by decide +kernel
theorem dX2_init_50 : decode cX2_init 50 = .ok (.return_, 1) := by decide +kernel
theorem dX2_bring_0 : decode cX2_bring 0 = .ok (.iload_n 3, 1) := by decide +kernel
theorem dX2_bring_1 : decode cX2_bring 1 = .ok (.invokestatic 24, 3) := by decide +kernel
theorem dX2_bring_4 : decode cX2_bring 4 = .ok (.iload_n 1, 1) := by decide +kernel
theorem dX2_bring_5 : decode cX2_bring 5 = .ok (.ifCond .lt 17, 3) := by decide +kernel
theorem dX2_bring_8 : decode cX2_bring 8 = .ok (.iload_n 1, 1) := by decide +kernel
theorem dX2_bring_9 : decode cX2_bring 9 = .ok (.iconst 3, 1) := by decide +kernel
theorem dX2_bring_10 : decode cX2_bring 10 = .ok (.if_icmp .ge 12, 3) := by decide +kernel
theorem dX2_bring_13 : decode cX2_bring 13 = .ok (.iload_n 2, 1) := by decide +kernel
theorem dX2_bring_14 : decode cX2_bring 14 = .ok (.ifCond .lt 8, 3) := by decide +kernel
theorem dX2_bring_17 : decode cX2_bring 17 = .ok (.iload_n 2, 1) := by decide +kernel
theorem dX2_bring_18 : decode cX2_bring 18 = .ok (.iconst 4, 1) := by decide +kernel
theorem dX2_bring_19 : decode cX2_bring 19 = .ok (.if_icmp .lt 13, 3) := by decide +kernel
theorem dX2_bring_22 : decode cX2_bring 22 = .ok (.new 27, 3) := by decide +kernel
theorem dX2_bring_25 : decode cX2_bring 25 = .ok (.dup, 1) := by decide +kernel
theorem dX2_bring_26 : decode cX2_bring 26 = .ok (.ldc 29, 2) := by decide +kernel
theorem dX2_bring_28 : decode cX2_bring 28 = .ok (.invokespecial 31, 3) := by decide +kernel
theorem dX2_bring_31 : decode cX2_bring 31 = .ok (.athrow, 1) := by decide +kernel
theorem dX2_bring_32 : decode cX2_bring 32 = .ok (.aload_n 0, 1) := by decide +kernel
theorem dX2_bring_33 : decode cX2_bring 33 = .ok (.getfield 34, 3) := by decide +kernel
theorem dX2_bring_36 : decode cX2_bring 36 = .ok (.ifCond .lt 15, 3) := by decide +kernel
theorem dX2_bring_39 : decode cX2_bring 39 = .ok (.aload_n 0, 1) := by decide +kernel
theorem dX2_bring_40 : decode cX2_bring 40 = .ok (.getfield 34, 3) := by decide +kernel
theorem dX2_bring_43 : decode cX2_bring 43 = .ok (.aload_n 0, 1) := by decide +kernel
theorem dX2_bring_44 : decode cX2_bring 44 = .ok (.getfield 11, 3) := by decide +kernel
theorem dX2_bring_47 : decode cX2_bring 47 = .ok (.arraylength, 1) := by decide +kernel
theorem dX2_bring_48 : decode cX2_bring 48 = .ok (.if_icmp .lt 13, 3) := by decide +kernel
theorem dX2_bring_51 : decode cX2_bring 51 = .ok (.new 38, 3) := by decide +kernel
theorem dX2_bring_54 : decode cX2_bring 54 = .ok (.dup, 1) := by decide +kernel
theorem dX2_bring_55 : decode cX2_bring 55 = .ok (.ldc 40, 2) := by decide +kernel
theorem dX2_bring_57 : decode cX2_bring 57 = .ok (.invokespecial 42, 3) := by decide +kernel
theorem dX2_bring_60 : decode cX2_bring 60 = .ok (.athrow, 1) := by decide +kernel
theorem dX2_bring_61 : decode cX2_bring 61 = .ok (.new 9, 3) := by decide +kernel
theorem dX2_bring_64 : decode cX2_bring 64 = .ok (.dup, 1) := by decide +kernel
theorem dX2_bring_65 : decode cX2_bring 65 = .ok (.iload_n 1, 1) := by decide +kernel
theorem dX2_bring_66 : decode cX2_bring 66 = .ok (.iload_n 2, 1) := by decide +kernel
theorem dX2_bring_67 : decode cX2_bring 67 = .ok (.invokespecial 43, 3) := by decide +kernel
theorem dX2_bring_70 : decode cX2_bring 70 = .ok (.astore 4, 2) := by decide +kernel
theorem dX2_bring_72 : decode cX2_bring 72 = .ok (.aload_n 0, 1) := by decide +kernel
theorem dX2_bring_73 : decode cX2_bring 73 = .ok (.getfield 34, 3) := by decide +kernel
theorem dX2_bring_76 : decode cX2_bring 76 = .ok (.istore 5, 2) := by decide +kernel
theorem dX2_bring_78 : decode cX2_bring 78 = .ok (.aload_n 0, 1) := by decide +kernel
theorem dX2_bring_79 : decode cX2_bring 79 = .ok (.getfield 11, 3) := by decide +kernel
theorem dX2_bring_82 : decode cX2_bring 82 = .ok (.iload 5, 2) := by decide +kernel
theorem dX2_bring_84 : decode cX2_bring 84 = .ok (.aload 4, 2) := by decide +kernel
theorem dX2_bring_86 : decode cX2_bring 86 = .ok (.aastore, 1) := by decide +kernel
theorem dX2_bring_87 : decode cX2_bring 87 = .ok (.aload_n 0, 1) := by decide +kernel
theorem dX2_bring_88 : decode cX2_bring 88 = .ok (.dup, 1) := by decide +kernel
theorem dX2_bring_89 : decode cX2_bring 89 = .ok (.getfield 34, 3) := by decide +kernel
theorem dX2_bring_92 : decode cX2_bring 92 = .ok (.iconst 1, 1) := by decide +kernel
theorem dX2_bring_93 : decode cX2_bring 93 = .ok (.iadd, 1) := by decide +kernel
theorem dX2_bring_94 : decode cX2_bring 94 = .ok (.putfield 34, 3) := by decide +kernel
theorem dX2_bring_97 : decode cX2_bring 97 = .ok (.aload_n 0, 1) := by decide +kernel
theorem dX2_bring_98 : decode cX2_bring 98 = .ok (.aload 4, 2) := by decide +kernel
theorem dX2_bring_100 : decode cX2_bring 100 = .ok (.iload_n 3, 1) := by decide +kernel
theorem dX2_bring_101 : decode cX2_bring 101 = .ok (.invokevirtual 46, 3) := by decide +kernel
theorem dX2_bring_104 : decode cX2_bring 104 = .ok (.iload 5, 2) := by decide +kernel
theorem dX2_bring_106 : decode cX2_bring 106 = .ok (.ireturn, 1) := by decide +kernel
theorem dX2_offer_0 : decode cX2_offer 0 = .ok (.aload_n 0, 1) := by decide +kernel
theorem dX2_offer_1 : decode cX2_offer 1 = .ok (.iload_n 1, 1) := by decide +kernel
theorem dX2_offer_2 : decode cX2_offer 2 = .ok (.invokevirtual 50, 3) := by decide +kernel
theorem dX2_offer_5 : decode cX2_offer 5 = .ok (.astore_n 3, 1) := by decide +kernel
theorem dX2_offer_6 : decode cX2_offer 6 = .ok (.iload_n 2, 1) := by decide +kernel
theorem dX2_offer_7 : decode cX2_offer 7 = .ok (.invokestatic 24, 3) := by decide +kernel
theorem dX2_offer_10 : decode cX2_offer 10 = .ok (.iload_n 2, 1) := by decide +kernel
theorem dX2_offer_11 : decode cX2_offer 11 = .ok (.aload_n 3, 1) := by decide +kernel
theorem dX2_offer_12 : decode cX2_offer 12 = .ok (.getfield 54, 3) := by decide +kernel
theorem dX2_offer_15 : decode cX2_offer 15 = .ok (.if_icmp .ne 13, 3) := by decide +kernel
theorem dX2_offer_18 : decode cX2_offer 18 = .ok (.new 27, 3) := by decide +kernel
theorem dX2_offer_21 : decode cX2_offer 21 = .ok (.dup, 1) := by decide +kernel
theorem dX2_offer_22 : decode cX2_offer 22 = .ok (.ldc 57, 2) := by decide +kernel
theorem dX2_offer_24 : decode cX2_offer 24 = .ok (.invokespecial 31, 3) := by decide +kernel
theorem dX2_offer_27 : decode cX2_offer 27 = .ok (.athrow, 1) := by decide +kernel
theorem dX2_offer_28 : decode cX2_offer 28 = .ok (.aload_n 3, 1) := by decide +kernel
theorem dX2_offer_29 : decode cX2_offer 29 = .ok (.invokestatic 59, 3) := by decide +kernel
theorem dX2_offer_32 : decode cX2_offer 32 = .ok (.aload_n 3, 1) := by decide +kernel
theorem dX2_offer_33 : decode cX2_offer 33 = .ok (.iload_n 2, 1) := by decide +kernel
theorem dX2_offer_34 : decode cX2_offer 34 = .ok (.putfield 63, 3) := by decide +kernel
theorem dX2_offer_37 : decode cX2_offer 37 = .ok (.aload_n 3, 1) := by decide +kernel
theorem dX2_offer_38 : decode cX2_offer 38 = .ok (.getfield 54, 3) := by decide +kernel
theorem dX2_offer_41 : decode cX2_offer 41 = .ok (.ireturn, 1) := by decide +kernel
theorem dX2_answer_0 : decode cX2_answer 0 = .ok (.aload_n 0, 1) := by decide +kernel
theorem dX2_answer_1 : decode cX2_answer 1 = .ok (.iload_n 1, 1) := by decide +kernel
theorem dX2_answer_2 : decode cX2_answer 2 = .ok (.invokevirtual 50, 3) := by decide +kernel
theorem dX2_answer_5 : decode cX2_answer 5 = .ok (.astore_n 3, 1) := by decide +kernel
theorem dX2_answer_6 : decode cX2_answer 6 = .ok (.aload_n 3, 1) := by decide +kernel
theorem dX2_answer_7 : decode cX2_answer 7 = .ok (.getfield 66, 3) := by decide +kernel
theorem dX2_answer_10 : decode cX2_answer 10 = .ok (.ifCond .ne 11, 3) := by decide +kernel
theorem dX2_answer_13 : decode cX2_answer 13 = .ok (.aload_n 3, 1) := by decide +kernel
theorem dX2_answer_14 : decode cX2_answer 14 = .ok (.getfield 63, 3) := by decide +kernel
theorem dX2_answer_17 : decode cX2_answer 17 = .ok (.iconst (-1), 1) := by decide +kernel
theorem dX2_answer_18 : decode cX2_answer 18 = .ok (.if_icmp .ne 13, 3) := by decide +kernel
theorem dX2_answer_21 : decode cX2_answer 21 = .ok (.new 38, 3) := by decide +kernel
theorem dX2_answer_24 : decode cX2_answer 24 = .ok (.dup, 1) := by decide +kernel
theorem dX2_answer_25 : decode cX2_answer 25 = .ok (.ldc 70, 2) := by decide +kernel
theorem dX2_answer_27 : decode cX2_answer 27 = .ok (.invokespecial 42, 3) := by decide +kernel
theorem dX2_answer_30 : decode cX2_answer 30 = .ok (.athrow, 1) := by decide +kernel
theorem dX2_answer_31 : decode cX2_answer 31 = .ok (.aload_n 3, 1) := by decide +kernel
theorem dX2_answer_32 : decode cX2_answer 32 = .ok (.getfield 63, 3) := by decide +kernel
theorem dX2_answer_35 : decode cX2_answer 35 = .ok (.istore 4, 2) := by decide +kernel
theorem dX2_answer_37 : decode cX2_answer 37 = .ok (.aload_n 3, 1) := by decide +kernel
theorem dX2_answer_38 : decode cX2_answer 38 = .ok (.iconst (-1), 1) := by decide +kernel
theorem dX2_answer_39 : decode cX2_answer 39 = .ok (.putfield 63, 3) := by decide +kernel
theorem dX2_answer_42 : decode cX2_answer 42 = .ok (.iload_n 2, 1) := by decide +kernel
theorem dX2_answer_43 : decode cX2_answer 43 = .ok (.ifCond .eq 10, 3) := by decide +kernel
theorem dX2_answer_46 : decode cX2_answer 46 = .ok (.aload_n 0, 1) := by decide +kernel
theorem dX2_answer_47 : decode cX2_answer 47 = .ok (.aload_n 3, 1) := by decide +kernel
theorem dX2_answer_48 : decode cX2_answer 48 = .ok (.iload 4, 2) := by decide +kernel
theorem dX2_answer_50 : decode cX2_answer 50 = .ok (.invokevirtual 46, 3) := by decide +kernel
theorem dX2_answer_53 : decode cX2_answer 53 = .ok (.aload_n 3, 1) := by decide +kernel
theorem dX2_answer_54 : decode cX2_answer 54 = .ok (.getfield 54, 3) := by decide +kernel
theorem dX2_answer_57 : decode cX2_answer 57 = .ok (.ireturn, 1) := by decide +kernel
theorem dX2_pack_0 : decode cX2_pack 0 = .ok (.aload_n 0, 1) := by decide +kernel
theorem dX2_pack_1 : decode cX2_pack 1 = .ok (.iload_n 1, 1) := by decide +kernel
theorem dX2_pack_2 : decode cX2_pack 2 = .ok (.invokevirtual 50, 3) := by decide +kernel
theorem dX2_pack_5 : decode cX2_pack 5 = .ok (.astore_n 3, 1) := by decide +kernel
theorem dX2_pack_6 : decode cX2_pack 6 = .ok (.aload_n 0, 1) := by decide +kernel
theorem dX2_pack_7 : decode cX2_pack 7 = .ok (.iload_n 2, 1) := by decide +kernel
theorem dX2_pack_8 : decode cX2_pack 8 = .ok (.invokevirtual 72, 3) := by decide +kernel
theorem dX2_pack_11 : decode cX2_pack 11 = .ok (.astore 4, 2) := by decide +kernel
theorem dX2_pack_13 : decode cX2_pack 13 = .ok (.aload_n 3, 1) := by decide +kernel
theorem dX2_pack_14 : decode cX2_pack 14 = .ok (.invokestatic 59, 3) := by decide +kernel
theorem dX2_pack_17 : decode cX2_pack 17 = .ok (.aload 4, 2) := by decide +kernel
theorem dX2_pack_19 : decode cX2_pack 19 = .ok (.invokevirtual 76, 3) := by decide +kernel
theorem dX2_pack_22 : decode cX2_pack 22 = .ok (.ifCond .ne 15, 3) := by decide +kernel
theorem dX2_pack_25 : decode cX2_pack 25 = .ok (.aload 4, 2) := by decide +kernel
theorem dX2_pack_27 : decode cX2_pack 27 = .ok (.getfield 80, 3) := by decide +kernel
theorem dX2_pack_30 : decode cX2_pack 30 = .ok (.aload_n 3, 1) := by decide +kernel
theorem dX2_pack_31 : decode cX2_pack 31 = .ok (.getfield 54, 3) := by decide +kernel
theorem dX2_pack_34 : decode cX2_pack 34 = .ok (.if_icmp .eq 13, 3) := by decide +kernel
theorem dX2_pack_37 : decode cX2_pack 37 = .ok (.new 38, 3) := by decide +kernel
theorem dX2_pack_40 : decode cX2_pack 40 = .ok (.dup, 1) := by decide +kernel
theorem dX2_pack_41 : decode cX2_pack 41 = .ok (.ldc 81, 2) := by decide +kernel
theorem dX2_pack_43 : decode cX2_pack 43 = .ok (.invokespecial 42, 3) := by decide +kernel
theorem dX2_pack_46 : decode cX2_pack 46 = .ok (.athrow, 1) := by decide +kernel
theorem dX2_pack_47 : decode cX2_pack 47 = .ok (.aload_n 3, 1) := by decide +kernel
theorem dX2_pack_48 : decode cX2_pack 48 = .ok (.aload 4, 2) := by decide +kernel
theorem dX2_pack_50 : decode cX2_pack 50 = .ok (.putfield 83, 3) := by decide +kernel
theorem dX2_pack_53 : decode cX2_pack 53 = .ok (.aload_n 0, 1) := by decide +kernel
theorem dX2_pack_54 : decode cX2_pack 54 = .ok (.aload 4, 2) := by decide +kernel
theorem dX2_pack_56 : decode cX2_pack 56 = .ok (.invokevirtual 87, 3) := by decide +kernel
theorem dX2_pack_59 : decode cX2_pack 59 = .ok (.ireturn, 1) := by decide +kernel
theorem dX2_unpack_0 : decode cX2_unpack 0 = .ok (.aload_n 0, 1) := by decide +kernel
theorem dX2_unpack_1 : decode cX2_unpack 1 = .ok (.iload_n 1, 1) := by decide +kernel
theorem dX2_unpack_2 : decode cX2_unpack 2 = .ok (.invokevirtual 50, 3) := by decide +kernel
theorem dX2_unpack_5 : decode cX2_unpack 5 = .ok (.astore_n 2, 1) := by decide +kernel
theorem dX2_unpack_6 : decode cX2_unpack 6 = .ok (.aload_n 2, 1) := by decide +kernel
theorem dX2_unpack_7 : decode cX2_unpack 7 = .ok (.getfield 83, 3) := by decide +kernel
theorem dX2_unpack_10 : decode cX2_unpack 10 = .ok (.astore_n 3, 1) := by decide +kernel
theorem dX2_unpack_11 : decode cX2_unpack 11 = .ok (.aload_n 2, 1) := by decide +kernel
theorem dX2_unpack_12 : decode cX2_unpack 12 = .ok (.getfield 66, 3) := by decide +kernel
theorem dX2_unpack_15 : decode cX2_unpack 15 = .ok (.ifCond .ne 14, 3) := by decide +kernel
theorem dX2_unpack_18 : decode cX2_unpack 18 = .ok (.aload_n 3, 1) := by decide +kernel
theorem dX2_unpack_19 : decode cX2_unpack 19 = .ok (.ifnull 10, 3) := by decide +kernel
theorem dX2_unpack_22 : decode cX2_unpack 22 = .ok (.aload_n 3, 1) := by decide +kernel
theorem dX2_unpack_23 : decode cX2_unpack 23 = .ok (.invokevirtual 76, 3) := by decide +kernel
theorem dX2_unpack_26 : decode cX2_unpack 26 = .ok (.ifCond .eq 13, 3) := by decide +kernel
theorem dX2_unpack_29 : decode cX2_unpack 29 = .ok (.new 38, 3) := by decide +kernel
theorem dX2_unpack_32 : decode cX2_unpack 32 = .ok (.dup, 1) := by decide +kernel
theorem dX2_unpack_33 : decode cX2_unpack 33 = .ok (.ldc 91, 2) := by decide +kernel
theorem dX2_unpack_35 : decode cX2_unpack 35 = .ok (.invokespecial 42, 3) := by decide +kernel
theorem dX2_unpack_38 : decode cX2_unpack 38 = .ok (.athrow, 1) := by decide +kernel
theorem dX2_unpack_39 : decode cX2_unpack 39 = .ok (.aload_n 2, 1) := by decide +kernel
theorem dX2_unpack_40 : decode cX2_unpack 40 = .ok (.aconst_null, 1) := by decide +kernel
theorem dX2_unpack_41 : decode cX2_unpack 41 = .ok (.putfield 83, 3) := by decide +kernel
theorem dX2_unpack_44 : decode cX2_unpack 44 = .ok (.aload_n 3, 1) := by decide +kernel
theorem dX2_unpack_45 : decode cX2_unpack 45 = .ok (.getfield 93, 3) := by decide +kernel
theorem dX2_unpack_48 : decode cX2_unpack 48 = .ok (.ireturn, 1) := by decide +kernel
theorem dX2_seal_0 : decode cX2_seal 0 = .ok (.aload_n 0, 1) := by decide +kernel
theorem dX2_seal_1 : decode cX2_seal 1 = .ok (.iload_n 1, 1) := by decide +kernel
theorem dX2_seal_2 : decode cX2_seal 2 = .ok (.invokevirtual 72, 3) := by decide +kernel
theorem dX2_seal_5 : decode cX2_seal 5 = .ok (.astore_n 2, 1) := by decide +kernel
theorem dX2_seal_6 : decode cX2_seal 6 = .ok (.aload_n 2, 1) := by decide +kernel
theorem dX2_seal_7 : decode cX2_seal 7 = .ok (.invokevirtual 76, 3) := by decide +kernel
theorem dX2_seal_10 : decode cX2_seal 10 = .ok (.ifCond .ne 12, 3) := by decide +kernel
theorem dX2_seal_13 : decode cX2_seal 13 = .ok (.aload_n 0, 1) := by decide +kernel
theorem dX2_seal_14 : decode cX2_seal 14 = .ok (.getfield 96, 3) := by decide +kernel
theorem dX2_seal_17 : decode cX2_seal 17 = .ok (.bipush 100, 2) := by decide +kernel
theorem dX2_seal_19 : decode cX2_seal 19 = .ok (.if_icmp .lt 13, 3) := by decide +kernel
theorem dX2_seal_22 : decode cX2_seal 22 = .ok (.new 38, 3) := by decide +kernel
theorem dX2_seal_25 : decode cX2_seal 25 = .ok (.dup, 1) := by decide +kernel
theorem dX2_seal_26 : decode cX2_seal 26 = .ok (.ldc 99, 2) := by decide +kernel
theorem dX2_seal_28 : decode cX2_seal 28 = .ok (.invokespecial 42, 3) := by decide +kernel
theorem dX2_seal_31 : decode cX2_seal 31 = .ok (.athrow, 1) := by decide +kernel
theorem dX2_seal_32 : decode cX2_seal 32 = .ok (.aload_n 2, 1) := by decide +kernel
theorem dX2_seal_33 : decode cX2_seal 33 = .ok (.aload_n 0, 1) := by decide +kernel
theorem dX2_seal_34 : decode cX2_seal 34 = .ok (.getfield 96, 3) := by decide +kernel
theorem dX2_seal_37 : decode cX2_seal 37 = .ok (.putfield 101, 3) := by decide +kernel
theorem dX2_seal_40 : decode cX2_seal 40 = .ok (.aload_n 2, 1) := by decide +kernel
theorem dX2_seal_41 : decode cX2_seal 41 = .ok (.aload_n 0, 1) := by decide +kernel
theorem dX2_seal_42 : decode cX2_seal 42 = .ok (.aload_n 2, 1) := by decide +kernel
theorem dX2_seal_43 : decode cX2_seal 43 = .ok (.invokevirtual 87, 3) := by decide +kernel
theorem dX2_seal_46 : decode cX2_seal 46 = .ok (.putfield 104, 3) := by decide +kernel
theorem dX2_seal_49 : decode cX2_seal 49 = .ok (.aload_n 0, 1) := by decide +kernel
theorem dX2_seal_50 : decode cX2_seal 50 = .ok (.dup, 1) := by decide +kernel
theorem dX2_seal_51 : decode cX2_seal 51 = .ok (.getfield 96, 3) := by decide +kernel
theorem dX2_seal_54 : decode cX2_seal 54 = .ok (.iconst 1, 1) := by decide +kernel
theorem dX2_seal_55 : decode cX2_seal 55 = .ok (.iadd, 1) := by decide +kernel
theorem dX2_seal_56 : decode cX2_seal 56 = .ok (.putfield 96, 3) := by decide +kernel
theorem dX2_seal_59 : decode cX2_seal 59 = .ok (.aload_n 2, 1) := by decide +kernel
theorem dX2_seal_60 : decode cX2_seal 60 = .ok (.getfield 101, 3) := by decide +kernel
theorem dX2_seal_63 : decode cX2_seal 63 = .ok (.ireturn, 1) := by decide +kernel
theorem dX2_open_0 : decode cX2_open 0 = .ok (.aload_n 0, 1) := by decide +kernel
theorem dX2_open_1 : decode cX2_open 1 = .ok (.iload_n 1, 1) := by decide +kernel
theorem dX2_open_2 : decode cX2_open 2 = .ok (.invokevirtual 72, 3) := by decide +kernel
theorem dX2_open_5 : decode cX2_open 5 = .ok (.astore_n 3, 1) := by decide +kernel
theorem dX2_open_6 : decode cX2_open 6 = .ok (.iload_n 2, 1) := by decide +kernel
theorem dX2_open_7 : decode cX2_open 7 = .ok (.ifCond .lt 9, 3) := by decide +kernel
theorem dX2_open_10 : decode cX2_open 10 = .ok (.iload_n 2, 1) := by decide +kernel
theorem dX2_open_11 : decode cX2_open 11 = .ok (.bipush 99, 2) := by decide +kernel
theorem dX2_open_13 : decode cX2_open 13 = .ok (.if_icmp .le 13, 3) := by decide +kernel
theorem dX2_open_16 : decode cX2_open 16 = .ok (.new 27, 3) := by decide +kernel
theorem dX2_open_19 : decode cX2_open 19 = .ok (.dup, 1) := by decide +kernel
theorem dX2_open_20 : decode cX2_open 20 = .ok (.ldc 107, 2) := by decide +kernel
theorem dX2_open_22 : decode cX2_open 22 = .ok (.invokespecial 31, 3) := by decide +kernel
theorem dX2_open_25 : decode cX2_open 25 = .ok (.athrow, 1) := by decide +kernel
theorem dX2_open_26 : decode cX2_open 26 = .ok (.aload_n 3, 1) := by decide +kernel
theorem dX2_open_27 : decode cX2_open 27 = .ok (.invokevirtual 76, 3) := by decide +kernel
theorem dX2_open_30 : decode cX2_open 30 = .ok (.ifCond .ne 13, 3) := by decide +kernel
theorem dX2_open_33 : decode cX2_open 33 = .ok (.new 38, 3) := by decide +kernel
theorem dX2_open_36 : decode cX2_open 36 = .ok (.dup, 1) := by decide +kernel
theorem dX2_open_37 : decode cX2_open 37 = .ok (.ldc 109, 2) := by decide +kernel
theorem dX2_open_39 : decode cX2_open 39 = .ok (.invokespecial 42, 3) := by decide +kernel
theorem dX2_open_42 : decode cX2_open 42 = .ok (.athrow, 1) := by decide +kernel
theorem dX2_open_43 : decode cX2_open 43 = .ok (.iload_n 2, 1) := by decide +kernel
theorem dX2_open_44 : decode cX2_open 44 = .ok (.aload_n 3, 1) := by decide +kernel
theorem dX2_open_45 : decode cX2_open 45 = .ok (.getfield 104, 3) := by decide +kernel
theorem dX2_open_48 : decode cX2_open 48 = .ok (.isub, 1) := by decide +kernel
theorem dX2_open_49 : decode cX2_open 49 = .ok (.istore 4, 2) := by decide +kernel
theorem dX2_open_51 : decode cX2_open 51 = .ok (.aload_n 3, 1) := by decide +kernel
theorem dX2_open_52 : decode cX2_open 52 = .ok (.iconst (-1), 1) := by decide +kernel
theorem dX2_open_53 : decode cX2_open 53 = .ok (.putfield 101, 3) := by decide +kernel
theorem dX2_open_56 : decode cX2_open 56 = .ok (.iload 4, 2) := by decide +kernel
theorem dX2_open_58 : decode cX2_open 58 = .ok (.ifCond .eq 13, 3) := by decide +kernel
theorem dX2_open_61 : decode cX2_open 61 = .ok (.aload_n 0, 1) := by decide +kernel
theorem dX2_open_62 : decode cX2_open 62 = .ok (.dup, 1) := by decide +kernel
theorem dX2_open_63 : decode cX2_open 63 = .ok (.getfield 111, 3) := by decide +kernel
theorem dX2_open_66 : decode cX2_open 66 = .ok (.iconst 1, 1) := by decide +kernel
theorem dX2_open_67 : decode cX2_open 67 = .ok (.iadd, 1) := by decide +kernel
theorem dX2_open_68 : decode cX2_open 68 = .ok (.putfield 111, 3) := by decide +kernel
theorem dX2_open_71 : decode cX2_open 71 = .ok (.iload 4, 2) := by decide +kernel
theorem dX2_open_73 : decode cX2_open 73 = .ok (.ireturn, 1) := by decide +kernel
theorem dX2_carry_0 : decode cX2_carry 0 = .ok (.aload_n 0, 1) := by decide +kernel
theorem dX2_carry_1 : decode cX2_carry 1 = .ok (.iload_n 1, 1) := by decide +kernel
theorem dX2_carry_2 : decode cX2_carry 2 = .ok (.invokevirtual 72, 3) := by decide +kernel
theorem dX2_carry_5 : decode cX2_carry 5 = .ok (.astore_n 3, 1) := by decide +kernel
theorem dX2_carry_6 : decode cX2_carry 6 = .ok (.iload_n 2, 1) := by decide +kernel
theorem dX2_carry_7 : decode cX2_carry 7 = .ok (.invokestatic 24, 3) := by decide +kernel
theorem dX2_carry_10 : decode cX2_carry 10 = .ok (.iload_n 2, 1) := by decide +kernel
theorem dX2_carry_11 : decode cX2_carry 11 = .ok (.aload_n 3, 1) := by decide +kernel
theorem dX2_carry_12 : decode cX2_carry 12 = .ok (.getfield 80, 3) := by decide +kernel
theorem dX2_carry_15 : decode cX2_carry 15 = .ok (.if_icmp .ne 13, 3) := by decide +kernel
theorem dX2_carry_18 : decode cX2_carry 18 = .ok (.new 27, 3) := by decide +kernel
theorem dX2_carry_21 : decode cX2_carry 21 = .ok (.dup, 1) := by decide +kernel
theorem dX2_carry_22 : decode cX2_carry 22 = .ok (.ldc 114, 2) := by decide +kernel
theorem dX2_carry_24 : decode cX2_carry 24 = .ok (.invokespecial 31, 3) := by decide +kernel
theorem dX2_carry_27 : decode cX2_carry 27 = .ok (.athrow, 1) := by decide +kernel
theorem dX2_carry_28 : decode cX2_carry 28 = .ok (.aload_n 3, 1) := by decide +kernel
theorem dX2_carry_29 : decode cX2_carry 29 = .ok (.invokevirtual 76, 3) := by decide +kernel
theorem dX2_carry_32 : decode cX2_carry 32 = .ok (.ifCond .ne 21, 3) := by decide +kernel
theorem dX2_carry_35 : decode cX2_carry 35 = .ok (.aload_n 0, 1) := by decide +kernel
theorem dX2_carry_36 : decode cX2_carry 36 = .ok (.aload_n 3, 1) := by decide +kernel
theorem dX2_carry_37 : decode cX2_carry 37 = .ok (.invokevirtual 87, 3) := by decide +kernel
theorem dX2_carry_40 : decode cX2_carry 40 = .ok (.ifCond .le 13, 3) := by decide +kernel
theorem dX2_carry_43 : decode cX2_carry 43 = .ok (.new 38, 3) := by decide +kernel
theorem dX2_carry_46 : decode cX2_carry 46 = .ok (.dup, 1) := by decide +kernel
theorem dX2_carry_47 : decode cX2_carry 47 = .ok (.ldc 116, 2) := by decide +kernel
theorem dX2_carry_49 : decode cX2_carry 49 = .ok (.invokespecial 42, 3) := by decide +kernel
theorem dX2_carry_52 : decode cX2_carry 52 = .ok (.athrow, 1) := by decide +kernel
theorem dX2_carry_53 : decode cX2_carry 53 = .ok (.aload_n 3, 1) := by decide +kernel
theorem dX2_carry_54 : decode cX2_carry 54 = .ok (.getfield 80, 3) := by decide +kernel
theorem dX2_carry_57 : decode cX2_carry 57 = .ok (.istore 4, 2) := by decide +kernel
theorem dX2_carry_59 : decode cX2_carry 59 = .ok (.aload_n 3, 1) := by decide +kernel
theorem dX2_carry_60 : decode cX2_carry 60 = .ok (.iload_n 2, 1) := by decide +kernel
theorem dX2_carry_61 : decode cX2_carry 61 = .ok (.putfield 80, 3) := by decide +kernel
theorem dX2_carry_64 : decode cX2_carry 64 = .ok (.aload_n 0, 1) := by decide +kernel
theorem dX2_carry_65 : decode cX2_carry 65 = .ok (.aload_n 3, 1) := by decide +kernel
theorem dX2_carry_66 : decode cX2_carry 66 = .ok (.invokevirtual 118, 3) := by decide +kernel
theorem dX2_carry_69 : decode cX2_carry 69 = .ok (.iload 4, 2) := by decide +kernel
theorem dX2_carry_71 : decode cX2_carry 71 = .ok (.ireturn, 1) := by decide +kernel
theorem dX2_wipe_0 : decode cX2_wipe 0 = .ok (.aload_n 0, 1) := by decide +kernel
theorem dX2_wipe_1 : decode cX2_wipe 1 = .ok (.iload_n 1, 1) := by decide +kernel
theorem dX2_wipe_2 : decode cX2_wipe 2 = .ok (.invokevirtual 50, 3) := by decide +kernel
theorem dX2_wipe_5 : decode cX2_wipe 5 = .ok (.astore 4, 2) := by decide +kernel
theorem dX2_wipe_7 : decode cX2_wipe 7 = .ok (.iload_n 3, 1) := by decide +kernel
theorem dX2_wipe_8 : decode cX2_wipe 8 = .ok (.invokestatic 24, 3) := by decide +kernel
theorem dX2_wipe_11 : decode cX2_wipe 11 = .ok (.iload_n 2, 1) := by decide +kernel
theorem dX2_wipe_12 : decode cX2_wipe 12 = .ok (.ifCond .lt 8, 3) := by decide +kernel
theorem dX2_wipe_15 : decode cX2_wipe 15 = .ok (.iload_n 2, 1) := by decide +kernel
theorem dX2_wipe_16 : decode cX2_wipe 16 = .ok (.iconst 3, 1) := by decide +kernel
theorem dX2_wipe_17 : decode cX2_wipe 17 = .ok (.if_icmp .lt 13, 3) := by decide +kernel
theorem dX2_wipe_20 : decode cX2_wipe 20 = .ok (.new 27, 3) := by decide +kernel
theorem dX2_wipe_23 : decode cX2_wipe 23 = .ok (.dup, 1) := by decide +kernel
theorem dX2_wipe_24 : decode cX2_wipe 24 = .ok (.ldc 122, 2) := by decide +kernel
theorem dX2_wipe_26 : decode cX2_wipe 26 = .ok (.invokespecial 31, 3) := by decide +kernel
theorem dX2_wipe_29 : decode cX2_wipe 29 = .ok (.athrow, 1) := by decide +kernel
theorem dX2_wipe_30 : decode cX2_wipe 30 = .ok (.aload 4, 2) := by decide +kernel
theorem dX2_wipe_32 : decode cX2_wipe 32 = .ok (.iload_n 3, 1) := by decide +kernel
theorem dX2_wipe_33 : decode cX2_wipe 33 = .ok (.invokestatic 124, 3) := by decide +kernel
theorem dX2_wipe_36 : decode cX2_wipe 36 = .ok (.aload 4, 2) := by decide +kernel
theorem dX2_wipe_38 : decode cX2_wipe 38 = .ok (.invokestatic 127, 3) := by decide +kernel
theorem dX2_wipe_41 : decode cX2_wipe 41 = .ok (.aload 4, 2) := by decide +kernel
theorem dX2_wipe_43 : decode cX2_wipe 43 = .ok (.getfield 130, 3) := by decide +kernel
theorem dX2_wipe_46 : decode cX2_wipe 46 = .ok (.iconst 1, 1) := by decide +kernel
theorem dX2_wipe_47 : decode cX2_wipe 47 = .ok (.if_icmp .eq 12, 3) := by decide +kernel
theorem dX2_wipe_50 : decode cX2_wipe 50 = .ok (.aload 4, 2) := by decide +kernel
theorem dX2_wipe_52 : decode cX2_wipe 52 = .ok (.getfield 130, 3) := by decide +kernel
theorem dX2_wipe_55 : decode cX2_wipe 55 = .ok (.iconst 3, 1) := by decide +kernel
theorem dX2_wipe_56 : decode cX2_wipe 56 = .ok (.if_icmp .ne 13, 3) := by decide +kernel
theorem dX2_wipe_59 : decode cX2_wipe 59 = .ok (.new 38, 3) := by decide +kernel
theorem dX2_wipe_62 : decode cX2_wipe 62 = .ok (.dup, 1) := by decide +kernel
theorem dX2_wipe_63 : decode cX2_wipe 63 = .ok (.ldc 133, 2) := by decide +kernel
theorem dX2_wipe_65 : decode cX2_wipe 65 = .ok (.invokespecial 42, 3) := by decide +kernel
theorem dX2_wipe_68 : decode cX2_wipe 68 = .ok (.athrow, 1) := by decide +kernel
theorem dX2_wipe_69 : decode cX2_wipe 69 = .ok (.iload_n 2, 1) := by decide +kernel
theorem dX2_wipe_70 : decode cX2_wipe 70 = .ok (.aload 4, 2) := by decide +kernel
theorem dX2_wipe_72 : decode cX2_wipe 72 = .ok (.getfield 135, 3) := by decide +kernel
theorem dX2_wipe_75 : decode cX2_wipe 75 = .ok (.if_icmp .ne 16, 3) := by decide +kernel
theorem dX2_wipe_78 : decode cX2_wipe 78 = .ok (.aload 4, 2) := by decide +kernel
theorem dX2_wipe_80 : decode cX2_wipe 80 = .ok (.getfield 138, 3) := by decide +kernel
theorem dX2_wipe_83 : decode cX2_wipe 83 = .ok (.iconst 3, 1) := by decide +kernel
theorem dX2_wipe_84 : decode cX2_wipe 84 = .ok (.if_icmp .ge 7, 3) := by decide +kernel
theorem dX2_wipe_87 : decode cX2_wipe 87 = .ok (.iconst 1, 1) := by decide +kernel
theorem dX2_wipe_88 : decode cX2_wipe 88 = .ok (.goto 4, 3) := by decide +kernel
theorem dX2_wipe_91 : decode cX2_wipe 91 = .ok (.iconst 0, 1) := by decide +kernel
theorem dX2_wipe_92 : decode cX2_wipe 92 = .ok (.istore 5, 2) := by decide +kernel
theorem dX2_wipe_94 : decode cX2_wipe 94 = .ok (.aload 4, 2) := by decide +kernel
theorem dX2_wipe_96 : decode cX2_wipe 96 = .ok (.iload 5, 2) := by decide +kernel
theorem dX2_wipe_98 : decode cX2_wipe 98 = .ok (.ifCond .eq 7, 3) := by decide +kernel
theorem dX2_wipe_101 : decode cX2_wipe 101 = .ok (.iconst 1, 1) := by decide +kernel
theorem dX2_wipe_102 : decode cX2_wipe 102 = .ok (.goto 4, 3) := by decide +kernel
theorem dX2_wipe_105 : decode cX2_wipe 105 = .ok (.iconst 2, 1) := by decide +kernel
theorem dX2_wipe_106 : decode cX2_wipe 106 = .ok (.putfield 130, 3) := by decide +kernel
theorem dX2_wipe_109 : decode cX2_wipe 109 = .ok (.aload 4, 2) := by decide +kernel
theorem dX2_wipe_111 : decode cX2_wipe 111 = .ok (.aload 4, 2) := by decide +kernel
theorem dX2_wipe_113 : decode cX2_wipe 113 = .ok (.getfield 54, 3) := by decide +kernel
theorem dX2_wipe_116 : decode cX2_wipe 116 = .ok (.putfield 141, 3) := by decide +kernel
theorem dX2_wipe_119 : decode cX2_wipe 119 = .ok (.aload 4, 2) := by decide +kernel
theorem dX2_wipe_121 : decode cX2_wipe 121 = .ok (.iconst 0, 1) := by decide +kernel
theorem dX2_wipe_122 : decode cX2_wipe 122 = .ok (.putfield 144, 3) := by decide +kernel
theorem dX2_wipe_125 : decode cX2_wipe 125 = .ok (.aload 4, 2) := by decide +kernel
theorem dX2_wipe_127 : decode cX2_wipe 127 = .ok (.getfield 130, 3) := by decide +kernel
theorem dX2_wipe_130 : decode cX2_wipe 130 = .ok (.ireturn, 1) := by decide +kernel
theorem dX2_smash_0 : decode cX2_smash 0 = .ok (.aload_n 0, 1) := by decide +kernel
theorem dX2_smash_1 : decode cX2_smash 1 = .ok (.iload_n 1, 1) := by decide +kernel
theorem dX2_smash_2 : decode cX2_smash 2 = .ok (.invokevirtual 50, 3) := by decide +kernel
theorem dX2_smash_5 : decode cX2_smash 5 = .ok (.astore_n 3, 1) := by decide +kernel
theorem dX2_smash_6 : decode cX2_smash 6 = .ok (.iload_n 2, 1) := by decide +kernel
theorem dX2_smash_7 : decode cX2_smash 7 = .ok (.invokestatic 24, 3) := by decide +kernel
theorem dX2_smash_10 : decode cX2_smash 10 = .ok (.aload_n 3, 1) := by decide +kernel
theorem dX2_smash_11 : decode cX2_smash 11 = .ok (.iload_n 2, 1) := by decide +kernel
theorem dX2_smash_12 : decode cX2_smash 12 = .ok (.invokestatic 124, 3) := by decide +kernel
theorem dX2_smash_15 : decode cX2_smash 15 = .ok (.aload_n 3, 1) := by decide +kernel
theorem dX2_smash_16 : decode cX2_smash 16 = .ok (.invokestatic 127, 3) := by decide +kernel
theorem dX2_smash_19 : decode cX2_smash 19 = .ok (.aload_n 3, 1) := by decide +kernel
theorem dX2_smash_20 : decode cX2_smash 20 = .ok (.getfield 130, 3) := by decide +kernel
theorem dX2_smash_23 : decode cX2_smash 23 = .ok (.iconst 3, 1) := by decide +kernel
theorem dX2_smash_24 : decode cX2_smash 24 = .ok (.if_icmp .ne 13, 3) := by decide +kernel
theorem dX2_smash_27 : decode cX2_smash 27 = .ok (.new 38, 3) := by decide +kernel
theorem dX2_smash_30 : decode cX2_smash 30 = .ok (.dup, 1) := by decide +kernel
theorem dX2_smash_31 : decode cX2_smash 31 = .ok (.ldc 147, 2) := by decide +kernel
theorem dX2_smash_33 : decode cX2_smash 33 = .ok (.invokespecial 42, 3) := by decide +kernel
theorem dX2_smash_36 : decode cX2_smash 36 = .ok (.athrow, 1) := by decide +kernel
theorem dX2_smash_37 : decode cX2_smash 37 = .ok (.aload_n 3, 1) := by decide +kernel
theorem dX2_smash_38 : decode cX2_smash 38 = .ok (.getfield 130, 3) := by decide +kernel
theorem dX2_smash_41 : decode cX2_smash 41 = .ok (.istore 4, 2) := by decide +kernel
theorem dX2_smash_43 : decode cX2_smash 43 = .ok (.aload_n 3, 1) := by decide +kernel
theorem dX2_smash_44 : decode cX2_smash 44 = .ok (.iconst 3, 1) := by decide +kernel
theorem dX2_smash_45 : decode cX2_smash 45 = .ok (.putfield 130, 3) := by decide +kernel
theorem dX2_smash_48 : decode cX2_smash 48 = .ok (.iload 4, 2) := by decide +kernel
theorem dX2_smash_50 : decode cX2_smash 50 = .ok (.ireturn, 1) := by decide +kernel
theorem dX2_check_0 : decode cX2_check 0 = .ok (.aload_n 0, 1) := by decide +kernel
theorem dX2_check_1 : decode cX2_check 1 = .ok (.iload_n 1, 1) := by decide +kernel
theorem dX2_check_2 : decode cX2_check 2 = .ok (.invokevirtual 50, 3) := by decide +kernel
theorem dX2_check_5 : decode cX2_check 5 = .ok (.astore 4, 2) := by decide +kernel
theorem dX2_check_7 : decode cX2_check 7 = .ok (.iload_n 2, 1) := by decide +kernel
theorem dX2_check_8 : decode cX2_check 8 = .ok (.invokestatic 24, 3) := by decide +kernel
theorem dX2_check_11 : decode cX2_check 11 = .ok (.aload 4, 2) := by decide +kernel
theorem dX2_check_13 : decode cX2_check 13 = .ok (.getfield 130, 3) := by decide +kernel
theorem dX2_check_16 : decode cX2_check 16 = .ok (.iconst 1, 1) := by decide +kernel
theorem dX2_check_17 : decode cX2_check 17 = .ok (.if_icmp .ne 22, 3) := by decide +kernel
theorem dX2_check_20 : decode cX2_check 20 = .ok (.iload_n 2, 1) := by decide +kernel
theorem dX2_check_21 : decode cX2_check 21 = .ok (.aload 4, 2) := by decide +kernel
theorem dX2_check_23 : decode cX2_check 23 = .ok (.getfield 141, 3) := by decide +kernel
theorem dX2_check_26 : decode cX2_check 26 = .ok (.if_icmp .ne 13, 3) := by decide +kernel
theorem dX2_check_29 : decode cX2_check 29 = .ok (.new 27, 3) := by decide +kernel
theorem dX2_check_32 : decode cX2_check 32 = .ok (.dup, 1) := by decide +kernel
theorem dX2_check_33 : decode cX2_check 33 = .ok (.ldc 149, 2) := by decide +kernel
theorem dX2_check_35 : decode cX2_check 35 = .ok (.invokespecial 31, 3) := by decide +kernel
theorem dX2_check_38 : decode cX2_check 38 = .ok (.athrow, 1) := by decide +kernel
theorem dX2_check_39 : decode cX2_check 39 = .ok (.aload 4, 2) := by decide +kernel
theorem dX2_check_41 : decode cX2_check 41 = .ok (.invokestatic 127, 3) := by decide +kernel
theorem dX2_check_44 : decode cX2_check 44 = .ok (.aload 4, 2) := by decide +kernel
theorem dX2_check_46 : decode cX2_check 46 = .ok (.getfield 130, 3) := by decide +kernel
theorem dX2_check_49 : decode cX2_check 49 = .ok (.iconst 1, 1) := by decide +kernel
theorem dX2_check_50 : decode cX2_check 50 = .ok (.if_icmp .eq 13, 3) := by decide +kernel
theorem dX2_check_53 : decode cX2_check 53 = .ok (.new 38, 3) := by decide +kernel
theorem dX2_check_56 : decode cX2_check 56 = .ok (.dup, 1) := by decide +kernel
theorem dX2_check_57 : decode cX2_check 57 = .ok (.ldc 151, 2) := by decide +kernel
theorem dX2_check_59 : decode cX2_check 59 = .ok (.invokespecial 42, 3) := by decide +kernel
theorem dX2_check_62 : decode cX2_check 62 = .ok (.athrow, 1) := by decide +kernel
theorem dX2_check_63 : decode cX2_check 63 = .ok (.aload 4, 2) := by decide +kernel
theorem dX2_check_65 : decode cX2_check 65 = .ok (.iload_n 3, 1) := by decide +kernel
theorem dX2_check_66 : decode cX2_check 66 = .ok (.putfield 144, 3) := by decide +kernel
theorem dX2_check_69 : decode cX2_check 69 = .ok (.iload_n 3, 1) := by decide +kernel
theorem dX2_check_70 : decode cX2_check 70 = .ok (.ifCond .ne 9, 3) := by decide +kernel
theorem dX2_check_73 : decode cX2_check 73 = .ok (.aload 4, 2) := by decide +kernel
theorem dX2_check_75 : decode cX2_check 75 = .ok (.iconst 2, 1) := by decide +kernel
theorem dX2_check_76 : decode cX2_check 76 = .ok (.putfield 130, 3) := by decide +kernel
theorem dX2_check_79 : decode cX2_check 79 = .ok (.aload 4, 2) := by decide +kernel
theorem dX2_check_81 : decode cX2_check 81 = .ok (.getfield 130, 3) := by decide +kernel
theorem dX2_check_84 : decode cX2_check 84 = .ok (.ireturn, 1) := by decide +kernel
theorem dX2_lose_0 : decode cX2_lose 0 = .ok (.aload_n 0, 1) := by decide +kernel
theorem dX2_lose_1 : decode cX2_lose 1 = .ok (.iload_n 1, 1) := by decide +kernel
theorem dX2_lose_2 : decode cX2_lose 2 = .ok (.invokevirtual 50, 3) := by decide +kernel
theorem dX2_lose_5 : decode cX2_lose 5 = .ok (.astore_n 2, 1) := by decide +kernel
theorem dX2_lose_6 : decode cX2_lose 6 = .ok (.aload_n 2, 1) := by decide +kernel
theorem dX2_lose_7 : decode cX2_lose 7 = .ok (.getfield 66, 3) := by decide +kernel
theorem dX2_lose_10 : decode cX2_lose 10 = .ok (.ifCond .eq 13, 3) := by decide +kernel
theorem dX2_lose_13 : decode cX2_lose 13 = .ok (.new 38, 3) := by decide +kernel
theorem dX2_lose_16 : decode cX2_lose 16 = .ok (.dup, 1) := by decide +kernel
theorem dX2_lose_17 : decode cX2_lose 17 = .ok (.ldc 153, 2) := by decide +kernel
theorem dX2_lose_19 : decode cX2_lose 19 = .ok (.invokespecial 42, 3) := by decide +kernel
theorem dX2_lose_22 : decode cX2_lose 22 = .ok (.athrow, 1) := by decide +kernel
theorem dX2_lose_23 : decode cX2_lose 23 = .ok (.aload_n 2, 1) := by decide +kernel
theorem dX2_lose_24 : decode cX2_lose 24 = .ok (.iconst 1, 1) := by decide +kernel
theorem dX2_lose_25 : decode cX2_lose 25 = .ok (.putfield 66, 3) := by decide +kernel
theorem dX2_lose_28 : decode cX2_lose 28 = .ok (.aload_n 2, 1) := by decide +kernel
theorem dX2_lose_29 : decode cX2_lose 29 = .ok (.iconst (-1), 1) := by decide +kernel
theorem dX2_lose_30 : decode cX2_lose 30 = .ok (.putfield 63, 3) := by decide +kernel
theorem dX2_lose_33 : decode cX2_lose 33 = .ok (.aload_n 2, 1) := by decide +kernel
theorem dX2_lose_34 : decode cX2_lose 34 = .ok (.getfield 54, 3) := by decide +kernel
theorem dX2_lose_37 : decode cX2_lose 37 = .ok (.ireturn, 1) := by decide +kernel
theorem dX2_find_0 : decode cX2_find 0 = .ok (.aload_n 0, 1) := by decide +kernel
theorem dX2_find_1 : decode cX2_find 1 = .ok (.iload_n 1, 1) := by decide +kernel
theorem dX2_find_2 : decode cX2_find 2 = .ok (.invokevirtual 50, 3) := by decide +kernel
theorem dX2_find_5 : decode cX2_find 5 = .ok (.astore_n 2, 1) := by decide +kernel
theorem dX2_find_6 : decode cX2_find 6 = .ok (.aload_n 2, 1) := by decide +kernel
theorem dX2_find_7 : decode cX2_find 7 = .ok (.getfield 66, 3) := by decide +kernel
theorem dX2_find_10 : decode cX2_find 10 = .ok (.ifCond .ne 13, 3) := by decide +kernel
theorem dX2_find_13 : decode cX2_find 13 = .ok (.new 38, 3) := by decide +kernel
theorem dX2_find_16 : decode cX2_find 16 = .ok (.dup, 1) := by decide +kernel
theorem dX2_find_17 : decode cX2_find 17 = .ok (.ldc 155, 2) := by decide +kernel
theorem dX2_find_19 : decode cX2_find 19 = .ok (.invokespecial 42, 3) := by decide +kernel
theorem dX2_find_22 : decode cX2_find 22 = .ok (.athrow, 1) := by decide +kernel
theorem dX2_find_23 : decode cX2_find 23 = .ok (.aload_n 2, 1) := by decide +kernel
theorem dX2_find_24 : decode cX2_find 24 = .ok (.iconst 0, 1) := by decide +kernel
theorem dX2_find_25 : decode cX2_find 25 = .ok (.putfield 66, 3) := by decide +kernel
theorem dX2_find_28 : decode cX2_find 28 = .ok (.aload_n 2, 1) := by decide +kernel
theorem dX2_find_29 : decode cX2_find 29 = .ok (.invokevirtual 157, 3) := by decide +kernel
theorem dX2_find_32 : decode cX2_find 32 = .ok (.ireturn, 1) := by decide +kernel
theorem dX2_certify_0 : decode cX2_certify 0 = .ok (.iload_n 1, 1) := by decide +kernel
theorem dX2_certify_1 : decode cX2_certify 1 = .ok (.invokestatic 24, 3) := by decide +kernel
theorem dX2_certify_4 : decode cX2_certify 4 = .ok (.iconst 0, 1) := by decide +kernel
theorem dX2_certify_5 : decode cX2_certify 5 = .ok (.istore_n 2, 1) := by decide +kernel
theorem dX2_certify_6 : decode cX2_certify 6 = .ok (.aload_n 0, 1) := by decide +kernel
theorem dX2_certify_7 : decode cX2_certify 7 = .ok (.getfield 11, 3) := by decide +kernel
theorem dX2_certify_10 : decode cX2_certify 10 = .ok (.astore_n 3, 1) := by decide +kernel
theorem dX2_certify_11 : decode cX2_certify 11 = .ok (.aload_n 3, 1) := by decide +kernel
theorem dX2_certify_12 : decode cX2_certify 12 = .ok (.arraylength, 1) := by decide +kernel
theorem dX2_certify_13 : decode cX2_certify 13 = .ok (.istore 4, 2) := by decide +kernel
theorem dX2_certify_15 : decode cX2_certify 15 = .ok (.iconst 0, 1) := by decide +kernel
theorem dX2_certify_16 : decode cX2_certify 16 = .ok (.istore 5, 2) := by decide +kernel
theorem dX2_certify_18 : decode cX2_certify 18 = .ok (.iload 5, 2) := by decide +kernel
theorem dX2_certify_20 : decode cX2_certify 20 = .ok (.iload 4, 2) := by decide +kernel
theorem dX2_certify_22 : decode cX2_certify 22 = .ok (.if_icmp .ge 49, 3) := by decide +kernel
theorem dX2_certify_25 : decode cX2_certify 25 = .ok (.aload_n 3, 1) := by decide +kernel
theorem dX2_certify_26 : decode cX2_certify 26 = .ok (.iload 5, 2) := by decide +kernel
theorem dX2_certify_28 : decode cX2_certify 28 = .ok (.aaload, 1) := by decide +kernel
theorem dX2_certify_29 : decode cX2_certify 29 = .ok (.astore 6, 2) := by decide +kernel
theorem dX2_certify_31 : decode cX2_certify 31 = .ok (.aload 6, 2) := by decide +kernel
theorem dX2_certify_33 : decode cX2_certify 33 = .ok (.ifnull 32, 3) := by decide +kernel
theorem dX2_certify_36 : decode cX2_certify 36 = .ok (.aload 6, 2) := by decide +kernel
theorem dX2_certify_38 : decode cX2_certify 38 = .ok (.getfield 54, 3) := by decide +kernel
theorem dX2_certify_41 : decode cX2_certify 41 = .ok (.iload_n 1, 1) := by decide +kernel
theorem dX2_certify_42 : decode cX2_certify 42 = .ok (.if_icmp .ne 23, 3) := by decide +kernel
theorem dX2_certify_45 : decode cX2_certify 45 = .ok (.aload 6, 2) := by decide +kernel
theorem dX2_certify_47 : decode cX2_certify 47 = .ok (.invokevirtual 161, 3) := by decide +kernel
theorem dX2_certify_50 : decode cX2_certify 50 = .ok (.ifCond .eq 15, 3) := by decide +kernel
theorem dX2_certify_53 : decode cX2_certify 53 = .ok (.aload 6, 2) := by decide +kernel
theorem dX2_certify_55 : decode cX2_certify 55 = .ok (.aload_n 0, 1) := by decide +kernel
theorem dX2_certify_56 : decode cX2_certify 56 = .ok (.getfield 164, 3) := by decide +kernel
theorem dX2_certify_59 : decode cX2_certify 59 = .ok (.putfield 167, 3) := by decide +kernel
theorem dX2_certify_62 : decode cX2_certify 62 = .ok (.iinc 2 1, 3) := by decide +kernel
theorem dX2_certify_65 : decode cX2_certify 65 = .ok (.iinc 5 1, 3) := by decide +kernel
theorem dX2_certify_68 : decode cX2_certify 68 = .ok (.goto (-50), 3) := by decide +kernel
theorem dX2_certify_71 : decode cX2_certify 71 = .ok (.iload_n 2, 1) := by decide +kernel
theorem dX2_certify_72 : decode cX2_certify 72 = .ok (.ifCond .ne 13, 3) := by decide +kernel
theorem dX2_certify_75 : decode cX2_certify 75 = .ok (.new 170, 3) := by decide +kernel
theorem dX2_certify_78 : decode cX2_certify 78 = .ok (.dup, 1) := by decide +kernel
theorem dX2_certify_79 : decode cX2_certify 79 = .ok (.ldc 172, 2) := by decide +kernel
theorem dX2_certify_81 : decode cX2_certify 81 = .ok (.invokespecial 174, 3) := by decide +kernel
theorem dX2_certify_84 : decode cX2_certify 84 = .ok (.athrow, 1) := by decide +kernel
theorem dX2_certify_85 : decode cX2_certify 85 = .ok (.aload_n 0, 1) := by decide +kernel
theorem dX2_certify_86 : decode cX2_certify 86 = .ok (.dup, 1) := by decide +kernel
theorem dX2_certify_87 : decode cX2_certify 87 = .ok (.getfield 164, 3) := by decide +kernel
theorem dX2_certify_90 : decode cX2_certify 90 = .ok (.iconst 1, 1) := by decide +kernel
theorem dX2_certify_91 : decode cX2_certify 91 = .ok (.iadd, 1) := by decide +kernel
theorem dX2_certify_92 : decode cX2_certify 92 = .ok (.putfield 164, 3) := by decide +kernel
theorem dX2_certify_95 : decode cX2_certify 95 = .ok (.iload_n 2, 1) := by decide +kernel
theorem dX2_certify_96 : decode cX2_certify 96 = .ok (.ireturn, 1) := by decide +kernel
theorem dX2_disks_0 : decode cX2_disks 0 = .ok (.aload_n 0, 1) := by decide +kernel
theorem dX2_disks_1 : decode cX2_disks 1 = .ok (.getfield 34, 3) := by decide +kernel
theorem dX2_disks_4 : decode cX2_disks 4 = .ok (.ireturn, 1) := by decide +kernel
theorem dX2_keeperOf_0 : decode cX2_keeperOf 0 = .ok (.aload_n 0, 1) := by decide +kernel
theorem dX2_keeperOf_1 : decode cX2_keeperOf 1 = .ok (.iload_n 1, 1) := by decide +kernel
theorem dX2_keeperOf_2 : decode cX2_keeperOf 2 = .ok (.invokevirtual 50, 3) := by decide +kernel
theorem dX2_keeperOf_5 : decode cX2_keeperOf 5 = .ok (.getfield 54, 3) := by decide +kernel
theorem dX2_keeperOf_8 : decode cX2_keeperOf 8 = .ok (.ireturn, 1) := by decide +kernel
theorem dX2_keeperByLog_0 : decode cX2_keeperByLog 0 = .ok (.aload_n 0, 1) := by decide +kernel
theorem dX2_keeperByLog_1 : decode cX2_keeperByLog 1 = .ok (.iload_n 1, 1) := by decide +kernel
theorem dX2_keeperByLog_2 : decode cX2_keeperByLog 2 = .ok (.invokevirtual 50, 3) := by decide +kernel
theorem dX2_keeperByLog_5 : decode cX2_keeperByLog 5 = .ok (.getfield 175, 3) := by decide +kernel
theorem dX2_keeperByLog_8 : decode cX2_keeperByLog 8 = .ok (.ireturn, 1) := by decide +kernel
theorem dX2_crateOf_0 : decode cX2_crateOf 0 = .ok (.aload_n 0, 1) := by decide +kernel
theorem dX2_crateOf_1 : decode cX2_crateOf 1 = .ok (.iload_n 1, 1) := by decide +kernel
theorem dX2_crateOf_2 : decode cX2_crateOf 2 = .ok (.invokevirtual 50, 3) := by decide +kernel
theorem dX2_crateOf_5 : decode cX2_crateOf 5 = .ok (.invokevirtual 157, 3) := by decide +kernel
theorem dX2_crateOf_8 : decode cX2_crateOf 8 = .ok (.ireturn, 1) := by decide +kernel
theorem dX2_stateOf_0 : decode cX2_stateOf 0 = .ok (.aload_n 0, 1) := by decide +kernel
theorem dX2_stateOf_1 : decode cX2_stateOf 1 = .ok (.iload_n 1, 1) := by decide +kernel
theorem dX2_stateOf_2 : decode cX2_stateOf 2 = .ok (.invokevirtual 50, 3) := by decide +kernel
theorem dX2_stateOf_5 : decode cX2_stateOf 5 = .ok (.getfield 130, 3) := by decide +kernel
theorem dX2_stateOf_8 : decode cX2_stateOf 8 = .ok (.ireturn, 1) := by decide +kernel
theorem dX2_isDone_0 : decode cX2_isDone 0 = .ok (.aload_n 0, 1) := by decide +kernel
theorem dX2_isDone_1 : decode cX2_isDone 1 = .ok (.iload_n 1, 1) := by decide +kernel
theorem dX2_isDone_2 : decode cX2_isDone 2 = .ok (.invokevirtual 50, 3) := by decide +kernel
theorem dX2_isDone_5 : decode cX2_isDone 5 = .ok (.invokevirtual 178, 3) := by decide +kernel
theorem dX2_isDone_8 : decode cX2_isDone 8 = .ok (.ireturn, 1) := by decide +kernel
theorem dX2_offeredTo_0 : decode cX2_offeredTo 0 = .ok (.aload_n 0, 1) := by decide +kernel
theorem dX2_offeredTo_1 : decode cX2_offeredTo 1 = .ok (.iload_n 1, 1) := by decide +kernel
theorem dX2_offeredTo_2 : decode cX2_offeredTo 2 = .ok (.invokevirtual 50, 3) := by decide +kernel
theorem dX2_offeredTo_5 : decode cX2_offeredTo 5 = .ok (.getfield 63, 3) := by decide +kernel
theorem dX2_offeredTo_8 : decode cX2_offeredTo 8 = .ok (.ireturn, 1) := by decide +kernel
theorem dX2_certificateOf_0 : decode cX2_certificateOf 0 = .ok (.aload_n 0, 1) := by decide +kernel
theorem dX2_certificateOf_1 : decode cX2_certificateOf 1 = .ok (.iload_n 1, 1) := by decide +kernel
theorem dX2_certificateOf_2 : decode cX2_certificateOf 2 = .ok (.invokevirtual 50, 3) := by decide +kernel
theorem dX2_certificateOf_5 : decode cX2_certificateOf 5 = .ok (.getfield 167, 3) := by decide +kernel
theorem dX2_certificateOf_8 : decode cX2_certificateOf 8 = .ok (.ireturn, 1) := by decide +kernel
theorem dX2_crateKeeper_0 : decode cX2_crateKeeper 0 = .ok (.aload_n 0, 1) := by decide +kernel
theorem dX2_crateKeeper_1 : decode cX2_crateKeeper 1 = .ok (.iload_n 1, 1) := by decide +kernel
theorem dX2_crateKeeper_2 : decode cX2_crateKeeper 2 = .ok (.invokevirtual 72, 3) := by decide +kernel
theorem dX2_crateKeeper_5 : decode cX2_crateKeeper 5 = .ok (.getfield 80, 3) := by decide +kernel
theorem dX2_crateKeeper_8 : decode cX2_crateKeeper 8 = .ok (.ireturn, 1) := by decide +kernel
theorem dX2_sealOf_0 : decode cX2_sealOf 0 = .ok (.aload_n 0, 1) := by decide +kernel
theorem dX2_sealOf_1 : decode cX2_sealOf 1 = .ok (.iload_n 1, 1) := by decide +kernel
theorem dX2_sealOf_2 : decode cX2_sealOf 2 = .ok (.invokevirtual 72, 3) := by decide +kernel
theorem dX2_sealOf_5 : decode cX2_sealOf 5 = .ok (.getfield 101, 3) := by decide +kernel
theorem dX2_sealOf_8 : decode cX2_sealOf 8 = .ok (.ireturn, 1) := by decide +kernel
theorem dX2_has_0 : decode cX2_has 0 = .ok (.iload_n 1, 1) := by decide +kernel
theorem dX2_has_1 : decode cX2_has 1 = .ok (.invokestatic 24, 3) := by decide +kernel
theorem dX2_has_4 : decode cX2_has 4 = .ok (.iconst 0, 1) := by decide +kernel
theorem dX2_has_5 : decode cX2_has 5 = .ok (.istore_n 2, 1) := by decide +kernel
theorem dX2_has_6 : decode cX2_has 6 = .ok (.aload_n 0, 1) := by decide +kernel
theorem dX2_has_7 : decode cX2_has 7 = .ok (.getfield 11, 3) := by decide +kernel
theorem dX2_has_10 : decode cX2_has 10 = .ok (.astore_n 3, 1) := by decide +kernel
theorem dX2_has_11 : decode cX2_has 11 = .ok (.aload_n 3, 1) := by decide +kernel
theorem dX2_has_12 : decode cX2_has 12 = .ok (.arraylength, 1) := by decide +kernel
theorem dX2_has_13 : decode cX2_has 13 = .ok (.istore 4, 2) := by decide +kernel
theorem dX2_has_15 : decode cX2_has 15 = .ok (.iconst 0, 1) := by decide +kernel
theorem dX2_has_16 : decode cX2_has 16 = .ok (.istore 5, 2) := by decide +kernel
theorem dX2_has_18 : decode cX2_has 18 = .ok (.iload 5, 2) := by decide +kernel
theorem dX2_has_20 : decode cX2_has 20 = .ok (.iload 4, 2) := by decide +kernel
theorem dX2_has_22 : decode cX2_has 22 = .ok (.if_icmp .ge 32, 3) := by decide +kernel
theorem dX2_has_25 : decode cX2_has 25 = .ok (.aload_n 3, 1) := by decide +kernel
theorem dX2_has_26 : decode cX2_has 26 = .ok (.iload 5, 2) := by decide +kernel
theorem dX2_has_28 : decode cX2_has 28 = .ok (.aaload, 1) := by decide +kernel
theorem dX2_has_29 : decode cX2_has 29 = .ok (.astore 6, 2) := by decide +kernel
theorem dX2_has_31 : decode cX2_has 31 = .ok (.aload 6, 2) := by decide +kernel
theorem dX2_has_33 : decode cX2_has 33 = .ok (.ifnull 15, 3) := by decide +kernel
theorem dX2_has_36 : decode cX2_has 36 = .ok (.aload 6, 2) := by decide +kernel
theorem dX2_has_38 : decode cX2_has 38 = .ok (.getfield 54, 3) := by decide +kernel
theorem dX2_has_41 : decode cX2_has 41 = .ok (.iload_n 1, 1) := by decide +kernel
theorem dX2_has_42 : decode cX2_has 42 = .ok (.if_icmp .ne 6, 3) := by decide +kernel
theorem dX2_has_45 : decode cX2_has 45 = .ok (.iinc 2 1, 3) := by decide +kernel
theorem dX2_has_48 : decode cX2_has 48 = .ok (.iinc 5 1, 3) := by decide +kernel
theorem dX2_has_51 : decode cX2_has 51 = .ok (.goto (-33), 3) := by decide +kernel
theorem dX2_has_54 : decode cX2_has 54 = .ok (.iload_n 2, 1) := by decide +kernel
theorem dX2_has_55 : decode cX2_has 55 = .ok (.ireturn, 1) := by decide +kernel
theorem dX2_missing_0 : decode cX2_missing 0 = .ok (.iconst 0, 1) := by decide +kernel
theorem dX2_missing_1 : decode cX2_missing 1 = .ok (.istore_n 1, 1) := by decide +kernel
theorem dX2_missing_2 : decode cX2_missing 2 = .ok (.aload_n 0, 1) := by decide +kernel
theorem dX2_missing_3 : decode cX2_missing 3 = .ok (.getfield 11, 3) := by decide +kernel
theorem dX2_missing_6 : decode cX2_missing 6 = .ok (.astore_n 2, 1) := by decide +kernel
theorem dX2_missing_7 : decode cX2_missing 7 = .ok (.aload_n 2, 1) := by decide +kernel
theorem dX2_missing_8 : decode cX2_missing 8 = .ok (.arraylength, 1) := by decide +kernel
theorem dX2_missing_9 : decode cX2_missing 9 = .ok (.istore_n 3, 1) := by decide +kernel
theorem dX2_missing_10 : decode cX2_missing 10 = .ok (.iconst 0, 1) := by decide +kernel
theorem dX2_missing_11 : decode cX2_missing 11 = .ok (.istore 4, 2) := by decide +kernel
theorem dX2_missing_13 : decode cX2_missing 13 = .ok (.iload 4, 2) := by decide +kernel
theorem dX2_missing_15 : decode cX2_missing 15 = .ok (.iload_n 3, 1) := by decide +kernel
theorem dX2_missing_16 : decode cX2_missing 16 = .ok (.if_icmp .ge 31, 3) := by decide +kernel
theorem dX2_missing_19 : decode cX2_missing 19 = .ok (.aload_n 2, 1) := by decide +kernel
theorem dX2_missing_20 : decode cX2_missing 20 = .ok (.iload 4, 2) := by decide +kernel
theorem dX2_missing_22 : decode cX2_missing 22 = .ok (.aaload, 1) := by decide +kernel
theorem dX2_missing_23 : decode cX2_missing 23 = .ok (.astore 5, 2) := by decide +kernel
theorem dX2_missing_25 : decode cX2_missing 25 = .ok (.aload 5, 2) := by decide +kernel
theorem dX2_missing_27 : decode cX2_missing 27 = .ok (.ifnull 14, 3) := by decide +kernel
theorem dX2_missing_30 : decode cX2_missing 30 = .ok (.aload 5, 2) := by decide +kernel
theorem dX2_missing_32 : decode cX2_missing 32 = .ok (.getfield 66, 3) := by decide +kernel
theorem dX2_missing_35 : decode cX2_missing 35 = .ok (.ifCond .eq 6, 3) := by decide +kernel
theorem dX2_missing_38 : decode cX2_missing 38 = .ok (.iinc 1 1, 3) := by decide +kernel
theorem dX2_missing_41 : decode cX2_missing 41 = .ok (.iinc 4 1, 3) := by decide +kernel
theorem dX2_missing_44 : decode cX2_missing 44 = .ok (.goto (-31), 3) := by decide +kernel
theorem dX2_missing_47 : decode cX2_missing 47 = .ok (.iload_n 1, 1) := by decide +kernel
theorem dX2_missing_48 : decode cX2_missing 48 = .ok (.ireturn, 1) := by decide +kernel
theorem dX2_oddCounts_0 : decode cX2_oddCounts 0 = .ok (.aload_n 0, 1) := by decide +kernel
theorem dX2_oddCounts_1 : decode cX2_oddCounts 1 = .ok (.getfield 111, 3) := by decide +kernel
theorem dX2_oddCounts_4 : decode cX2_oddCounts 4 = .ok (.ireturn, 1) := by decide +kernel
theorem dX2_logged_0 : decode cX2_logged 0 = .ok (.aload_n 0, 1) := by decide +kernel
theorem dX2_logged_1 : decode cX2_logged 1 = .ok (.getfield 181, 3) := by decide +kernel
theorem dX2_logged_4 : decode cX2_logged 4 = .ok (.ireturn, 1) := by decide +kernel
theorem dX2_certificates_0 : decode cX2_certificates 0 = .ok (.aload_n 0, 1) := by decide +kernel
theorem dX2_certificates_1 : decode cX2_certificates 1 = .ok (.getfield 164, 3) := by decide +kernel
theorem dX2_certificates_4 : decode cX2_certificates 4 = .ok (.ireturn, 1) := by decide +kernel
theorem dX2_findDisk_0 : decode cX2_findDisk 0 = .ok (.iload_n 1, 1) := by decide +kernel
theorem dX2_findDisk_1 : decode cX2_findDisk 1 = .ok (.ifCond .lt 12, 3) := by decide +kernel
theorem dX2_findDisk_4 : decode cX2_findDisk 4 = .ok (.iload_n 1, 1) := by decide +kernel
theorem dX2_findDisk_5 : decode cX2_findDisk 5 = .ok (.aload_n 0, 1) := by decide +kernel
theorem dX2_findDisk_6 : decode cX2_findDisk 6 = .ok (.getfield 11, 3) := by decide +kernel
theorem dX2_findDisk_9 : decode cX2_findDisk 9 = .ok (.arraylength, 1) := by decide +kernel
theorem dX2_findDisk_10 : decode cX2_findDisk 10 = .ok (.if_icmp .lt 7, 3) := by decide +kernel
theorem dX2_findDisk_13 : decode cX2_findDisk 13 = .ok (.aconst_null, 1) := by decide +kernel
theorem dX2_findDisk_14 : decode cX2_findDisk 14 = .ok (.goto 9, 3) := by decide +kernel
theorem dX2_findDisk_17 : decode cX2_findDisk 17 = .ok (.aload_n 0, 1) := by decide +kernel
theorem dX2_findDisk_18 : decode cX2_findDisk 18 = .ok (.getfield 11, 3) := by decide +kernel
theorem dX2_findDisk_21 : decode cX2_findDisk 21 = .ok (.iload_n 1, 1) := by decide +kernel
theorem dX2_findDisk_22 : decode cX2_findDisk 22 = .ok (.aaload, 1) := by decide +kernel
theorem dX2_findDisk_23 : decode cX2_findDisk 23 = .ok (.astore_n 2, 1) := by decide +kernel
theorem dX2_findDisk_24 : decode cX2_findDisk 24 = .ok (.aload_n 2, 1) := by decide +kernel
theorem dX2_findDisk_25 : decode cX2_findDisk 25 = .ok (.ifnonnull 13, 3) := by decide +kernel
theorem dX2_findDisk_28 : decode cX2_findDisk 28 = .ok (.new 184, 3) := by decide +kernel
theorem dX2_findDisk_31 : decode cX2_findDisk 31 = .ok (.dup, 1) := by decide +kernel
theorem dX2_findDisk_32 : decode cX2_findDisk 32 = .ok (.ldc 186, 2) := by decide +kernel
theorem dX2_findDisk_34 : decode cX2_findDisk 34 = .ok (.invokespecial 188, 3) := by decide +kernel
theorem dX2_findDisk_37 : decode cX2_findDisk 37 = .ok (.athrow, 1) := by decide +kernel
theorem dX2_findDisk_38 : decode cX2_findDisk 38 = .ok (.aload_n 2, 1) := by decide +kernel
theorem dX2_findDisk_39 : decode cX2_findDisk 39 = .ok (.areturn, 1) := by decide +kernel
theorem dX2_findCrate_0 : decode cX2_findCrate 0 = .ok (.iload_n 1, 1) := by decide +kernel
theorem dX2_findCrate_1 : decode cX2_findCrate 1 = .ok (.ifCond .lt 12, 3) := by decide +kernel
theorem dX2_findCrate_4 : decode cX2_findCrate 4 = .ok (.iload_n 1, 1) := by decide +kernel
theorem dX2_findCrate_5 : decode cX2_findCrate 5 = .ok (.aload_n 0, 1) := by decide +kernel
theorem dX2_findCrate_6 : decode cX2_findCrate 6 = .ok (.getfield 17, 3) := by decide +kernel
theorem dX2_findCrate_9 : decode cX2_findCrate 9 = .ok (.arraylength, 1) := by decide +kernel
theorem dX2_findCrate_10 : decode cX2_findCrate 10 = .ok (.if_icmp .lt 7, 3) := by decide +kernel
theorem dX2_findCrate_13 : decode cX2_findCrate 13 = .ok (.aconst_null, 1) := by decide +kernel
theorem dX2_findCrate_14 : decode cX2_findCrate 14 = .ok (.goto 9, 3) := by decide +kernel
theorem dX2_findCrate_17 : decode cX2_findCrate 17 = .ok (.aload_n 0, 1) := by decide +kernel
theorem dX2_findCrate_18 : decode cX2_findCrate 18 = .ok (.getfield 17, 3) := by decide +kernel
theorem dX2_findCrate_21 : decode cX2_findCrate 21 = .ok (.iload_n 1, 1) := by decide +kernel
theorem dX2_findCrate_22 : decode cX2_findCrate 22 = .ok (.aaload, 1) := by decide +kernel
theorem dX2_findCrate_23 : decode cX2_findCrate 23 = .ok (.astore_n 2, 1) := by decide +kernel
theorem dX2_findCrate_24 : decode cX2_findCrate 24 = .ok (.aload_n 2, 1) := by decide +kernel
theorem dX2_findCrate_25 : decode cX2_findCrate 25 = .ok (.ifnonnull 13, 3) := by decide +kernel
theorem dX2_findCrate_28 : decode cX2_findCrate 28 = .ok (.new 184, 3) := by decide +kernel
theorem dX2_findCrate_31 : decode cX2_findCrate 31 = .ok (.dup, 1) := by decide +kernel
theorem dX2_findCrate_32 : decode cX2_findCrate 32 = .ok (.ldc 189, 2) := by decide +kernel
theorem dX2_findCrate_34 : decode cX2_findCrate 34 = .ok (.invokespecial 188, 3) := by decide +kernel
theorem dX2_findCrate_37 : decode cX2_findCrate 37 = .ok (.athrow, 1) := by decide +kernel
theorem dX2_findCrate_38 : decode cX2_findCrate 38 = .ok (.aload_n 2, 1) := by decide +kernel
theorem dX2_findCrate_39 : decode cX2_findCrate 39 = .ok (.areturn, 1) := by decide +kernel
theorem dX2_countDisksIn_0 : decode cX2_countDisksIn 0 = .ok (.iconst 0, 1) := by decide +kernel
theorem dX2_countDisksIn_1 : decode cX2_countDisksIn 1 = .ok (.istore_n 2, 1) := by decide +kernel
theorem dX2_countDisksIn_2 : decode cX2_countDisksIn 2 = .ok (.aload_n 0, 1) := by decide +kernel
theorem dX2_countDisksIn_3 : decode cX2_countDisksIn 3 = .ok (.getfield 11, 3) := by decide +kernel
theorem dX2_countDisksIn_6 : decode cX2_countDisksIn 6 = .ok (.astore_n 3, 1) := by decide +kernel
theorem dX2_countDisksIn_7 : decode cX2_countDisksIn 7 = .ok (.aload_n 3, 1) := by decide +kernel
theorem dX2_countDisksIn_8 : decode cX2_countDisksIn 8 = .ok (.arraylength, 1) := by decide +kernel
theorem dX2_countDisksIn_9 : decode cX2_countDisksIn 9 = .ok (.istore 4, 2) := by decide +kernel
theorem dX2_countDisksIn_11 : decode cX2_countDisksIn 11 = .ok (.iconst 0, 1) := by decide +kernel
theorem dX2_countDisksIn_12 : decode cX2_countDisksIn 12 = .ok (.istore 5, 2) := by decide +kernel
theorem dX2_countDisksIn_14 : decode cX2_countDisksIn 14 = .ok (.iload 5, 2) := by decide +kernel
theorem dX2_countDisksIn_16 : decode cX2_countDisksIn 16 = .ok (.iload 4, 2) := by decide +kernel
theorem dX2_countDisksIn_18 : decode cX2_countDisksIn 18 = .ok (.if_icmp .ge 35, 3) := by decide +kernel
theorem dX2_countDisksIn_21 : decode cX2_countDisksIn 21 = .ok (.aload_n 3, 1) := by decide +kernel
theorem dX2_countDisksIn_22 : decode cX2_countDisksIn 22 = .ok (.iload 5, 2) := by decide +kernel
theorem dX2_countDisksIn_24 : decode cX2_countDisksIn 24 = .ok (.aaload, 1) := by decide +kernel
theorem dX2_countDisksIn_25 : decode cX2_countDisksIn 25 = .ok (.astore 6, 2) := by decide +kernel
theorem dX2_countDisksIn_27 : decode cX2_countDisksIn 27 = .ok (.aload 6, 2) := by decide +kernel
theorem dX2_countDisksIn_29 : decode cX2_countDisksIn 29 = .ok (.ifnull 18, 3) := by decide +kernel
theorem dX2_countDisksIn_32 : decode cX2_countDisksIn 32 = .ok (.aload 6, 2) := by decide +kernel
theorem dX2_countDisksIn_34 : decode cX2_countDisksIn 34 = .ok (.invokevirtual 157, 3) := by decide +kernel
theorem dX2_countDisksIn_37 : decode cX2_countDisksIn 37 = .ok (.aload_n 1, 1) := by decide +kernel
theorem dX2_countDisksIn_38 : decode cX2_countDisksIn 38 = .ok (.getfield 93, 3) := by decide +kernel
theorem dX2_countDisksIn_41 : decode cX2_countDisksIn 41 = .ok (.if_icmp .ne 6, 3) := by decide +kernel
theorem dX2_countDisksIn_44 : decode cX2_countDisksIn 44 = .ok (.iinc 2 1, 3) := by decide +kernel
theorem dX2_countDisksIn_47 : decode cX2_countDisksIn 47 = .ok (.iinc 5 1, 3) := by decide +kernel
theorem dX2_countDisksIn_50 : decode cX2_countDisksIn 50 = .ok (.goto (-36), 3) := by decide +kernel
theorem dX2_countDisksIn_53 : decode cX2_countDisksIn 53 = .ok (.iload_n 2, 1) := by decide +kernel
theorem dX2_countDisksIn_54 : decode cX2_countDisksIn 54 = .ok (.ireturn, 1) := by decide +kernel
theorem dX2_handOverDisksIn_0 : decode cX2_handOverDisksIn 0 = .ok (.aload_n 0, 1) := by decide +kernel
theorem dX2_handOverDisksIn_1 : decode cX2_handOverDisksIn 1 = .ok (.getfield 11, 3) := by decide +kernel
theorem dX2_handOverDisksIn_4 : decode cX2_handOverDisksIn 4 = .ok (.astore_n 2, 1) := by decide +kernel
theorem dX2_handOverDisksIn_5 : decode cX2_handOverDisksIn 5 = .ok (.aload_n 2, 1) := by decide +kernel
theorem dX2_handOverDisksIn_6 : decode cX2_handOverDisksIn 6 = .ok (.arraylength, 1) := by decide +kernel
theorem dX2_handOverDisksIn_7 : decode cX2_handOverDisksIn 7 = .ok (.istore_n 3, 1) := by decide +kernel
theorem dX2_handOverDisksIn_8 : decode cX2_handOverDisksIn 8 = .ok (.iconst 0, 1) := by decide +kernel
theorem dX2_handOverDisksIn_9 : decode cX2_handOverDisksIn 9 = .ok (.istore 4, 2) := by decide +kernel
theorem dX2_handOverDisksIn_11 : decode cX2_handOverDisksIn 11 = .ok (.iload 4, 2) := by decide +kernel
theorem dX2_handOverDisksIn_13 : decode cX2_handOverDisksIn 13 = .ok (.iload_n 3, 1) := by decide +kernel
theorem dX2_handOverDisksIn_14 : decode cX2_handOverDisksIn 14 = .ok (.if_icmp .ge 42, 3) := by decide +kernel
theorem dX2_handOverDisksIn_17 : decode cX2_handOverDisksIn 17 = .ok (.aload_n 2, 1) := by decide +kernel
theorem dX2_handOverDisksIn_18 : decode cX2_handOverDisksIn 18 = .ok (.iload 4, 2) := by decide +kernel
theorem dX2_handOverDisksIn_20 : decode cX2_handOverDisksIn 20 = .ok (.aaload, 1) := by decide +kernel
theorem dX2_handOverDisksIn_21 : decode cX2_handOverDisksIn 21 = .ok (.astore 5, 2) := by decide +kernel
theorem dX2_handOverDisksIn_23 : decode cX2_handOverDisksIn 23 = .ok (.aload 5, 2) := by decide +kernel
theorem dX2_handOverDisksIn_25 : decode cX2_handOverDisksIn 25 = .ok (.ifnull 25, 3) := by decide +kernel
theorem dX2_handOverDisksIn_28 : decode cX2_handOverDisksIn 28 = .ok (.aload 5, 2) := by decide +kernel
theorem dX2_handOverDisksIn_30 : decode cX2_handOverDisksIn 30 = .ok (.invokevirtual 157, 3) := by decide +kernel
theorem dX2_handOverDisksIn_33 : decode cX2_handOverDisksIn 33 = .ok (.aload_n 1, 1) := by decide +kernel
theorem dX2_handOverDisksIn_34 : decode cX2_handOverDisksIn 34 = .ok (.getfield 93, 3) := by decide +kernel
theorem dX2_handOverDisksIn_37 : decode cX2_handOverDisksIn 37 = .ok (.if_icmp .ne 13, 3) := by decide +kernel
theorem dX2_handOverDisksIn_40 : decode cX2_handOverDisksIn 40 = .ok (.aload_n 0, 1) := by decide +kernel
theorem dX2_handOverDisksIn_41 : decode cX2_handOverDisksIn 41 = .ok (.aload 5, 2) := by decide +kernel
theorem dX2_handOverDisksIn_43 : decode cX2_handOverDisksIn 43 = .ok (.aload_n 1, 1) := by decide +kernel
theorem dX2_handOverDisksIn_44 : decode cX2_handOverDisksIn 44 = .ok (.getfield 80, 3) := by decide +kernel
theorem dX2_handOverDisksIn_47 : decode cX2_handOverDisksIn 47 = .ok (.invokevirtual 46, 3) := by decide +kernel
theorem dX2_handOverDisksIn_50 : decode cX2_handOverDisksIn 50 = .ok (.iinc 4 1, 3) := by decide +kernel
theorem dX2_handOverDisksIn_53 : decode cX2_handOverDisksIn 53 = .ok (.goto (-42), 3) := by decide +kernel
theorem dX2_handOverDisksIn_56 : decode cX2_handOverDisksIn 56 = .ok (.return_, 1) := by decide +kernel
theorem dX2_handOver_0 : decode cX2_handOver 0 = .ok (.aload_n 1, 1) := by decide +kernel
theorem dX2_handOver_1 : decode cX2_handOver 1 = .ok (.iload_n 2, 1) := by decide +kernel
theorem dX2_handOver_2 : decode cX2_handOver 2 = .ok (.putfield 54, 3) := by decide +kernel
theorem dX2_handOver_5 : decode cX2_handOver 5 = .ok (.aload_n 1, 1) := by decide +kernel
theorem dX2_handOver_6 : decode cX2_handOver 6 = .ok (.iload_n 2, 1) := by decide +kernel
theorem dX2_handOver_7 : decode cX2_handOver 7 = .ok (.putfield 175, 3) := by decide +kernel
theorem dX2_handOver_10 : decode cX2_handOver 10 = .ok (.aload_n 0, 1) := by decide +kernel
theorem dX2_handOver_11 : decode cX2_handOver 11 = .ok (.dup, 1) := by decide +kernel
theorem dX2_handOver_12 : decode cX2_handOver 12 = .ok (.getfield 181, 3) := by decide +kernel
theorem dX2_handOver_15 : decode cX2_handOver 15 = .ok (.iconst 1, 1) := by decide +kernel
theorem dX2_handOver_16 : decode cX2_handOver 16 = .ok (.iadd, 1) := by decide +kernel
theorem dX2_handOver_17 : decode cX2_handOver 17 = .ok (.putfield 181, 3) := by decide +kernel
theorem dX2_handOver_20 : decode cX2_handOver 20 = .ok (.return_, 1) := by decide +kernel
theorem dX2_requireKeeper_0 : decode cX2_requireKeeper 0 = .ok (.iload_n 0, 1) := by decide +kernel
theorem dX2_requireKeeper_1 : decode cX2_requireKeeper 1 = .ok (.ifCond .lt 9, 3) := by decide +kernel
theorem dX2_requireKeeper_4 : decode cX2_requireKeeper 4 = .ok (.iload_n 0, 1) := by decide +kernel
theorem dX2_requireKeeper_5 : decode cX2_requireKeeper 5 = .ok (.bipush 8, 2) := by decide +kernel
theorem dX2_requireKeeper_7 : decode cX2_requireKeeper 7 = .ok (.if_icmp .lt 13, 3) := by decide +kernel
theorem dX2_requireKeeper_10 : decode cX2_requireKeeper 10 = .ok (.new 184, 3) := by decide +kernel
theorem dX2_requireKeeper_13 : decode cX2_requireKeeper 13 = .ok (.dup, 1) := by decide +kernel
theorem dX2_requireKeeper_14 : decode cX2_requireKeeper 14 = .ok (.ldc 191, 2) := by decide +kernel
theorem dX2_requireKeeper_16 : decode cX2_requireKeeper 16 = .ok (.invokespecial 188, 3) := by decide +kernel
theorem dX2_requireKeeper_19 : decode cX2_requireKeeper 19 = .ok (.athrow, 1) := by decide +kernel
theorem dX2_requireKeeper_20 : decode cX2_requireKeeper 20 = .ok (.return_, 1) := by decide +kernel
theorem dX2_requireLoose_0 : decode cX2_requireLoose 0 = .ok (.aload_n 0, 1) := by decide +kernel
theorem dX2_requireLoose_1 : decode cX2_requireLoose 1 = .ok (.getfield 66, 3) := by decide +kernel
theorem dX2_requireLoose_4 : decode cX2_requireLoose 4 = .ok (.ifCond .ne 18, 3) := by decide +kernel
theorem dX2_requireLoose_7 : decode cX2_requireLoose 7 = .ok (.aload_n 0, 1) := by decide +kernel
theorem dX2_requireLoose_8 : decode cX2_requireLoose 8 = .ok (.getfield 63, 3) := by decide +kernel
theorem dX2_requireLoose_11 : decode cX2_requireLoose 11 = .ok (.iconst (-1), 1) := by decide +kernel
theorem dX2_requireLoose_12 : decode cX2_requireLoose 12 = .ok (.if_icmp .ne 10, 3) := by decide +kernel
theorem dX2_requireLoose_15 : decode cX2_requireLoose 15 = .ok (.aload_n 0, 1) := by decide +kernel
theorem dX2_requireLoose_16 : decode cX2_requireLoose 16 = .ok (.getfield 83, 3) := by decide +kernel
theorem dX2_requireLoose_19 : decode cX2_requireLoose 19 = .ok (.ifnull 13, 3) := by decide +kernel
theorem dX2_requireLoose_22 : decode cX2_requireLoose 22 = .ok (.new 38, 3) := by decide +kernel
theorem dX2_requireLoose_25 : decode cX2_requireLoose 25 = .ok (.dup, 1) := by decide +kernel
theorem dX2_requireLoose_26 : decode cX2_requireLoose 26 = .ok (.ldc 193, 2) := by decide +kernel
theorem dX2_requireLoose_28 : decode cX2_requireLoose 28 = .ok (.invokespecial 42, 3) := by decide +kernel
theorem dX2_requireLoose_31 : decode cX2_requireLoose 31 = .ok (.athrow, 1) := by decide +kernel
theorem dX2_requireLoose_32 : decode cX2_requireLoose 32 = .ok (.return_, 1) := by decide +kernel
theorem dX2_requireWithinReach_0 : decode cX2_requireWithinReach 0 = .ok (.aload_n 0, 1) := by decide +kernel
theorem dX2_requireWithinReach_1 : decode cX2_requireWithinReach 1 = .ok (.getfield 66, 3) := by decide +kernel
theorem dX2_requireWithinReach_4 : decode cX2_requireWithinReach 4 = .ok (.ifCond .ne 18, 3) := by decide +kernel
theorem dX2_requireWithinReach_7 : decode cX2_requireWithinReach 7 = .ok (.aload_n 0, 1) := by decide +kernel
theorem dX2_requireWithinReach_8 : decode cX2_requireWithinReach 8 = .ok (.getfield 63, 3) := by decide +kernel
theorem dX2_requireWithinReach_11 : decode cX2_requireWithinReach 11 = .ok (.iconst (-1), 1) := by decide +kernel
theorem dX2_requireWithinReach_12 : decode cX2_requireWithinReach 12 = .ok (.if_icmp .ne 10, 3) := by decide +kernel
theorem dX2_requireWithinReach_15 : decode cX2_requireWithinReach 15 = .ok (.aload_n 0, 1) := by decide +kernel
theorem dX2_requireWithinReach_16 : decode cX2_requireWithinReach 16 = .ok (.invokevirtual 195, 3) := by decide +kernel
theorem dX2_requireWithinReach_19 : decode cX2_requireWithinReach 19 = .ok (.ifCond .eq 13, 3) := by decide +kernel
theorem dX2_requireWithinReach_22 : decode cX2_requireWithinReach 22 = .ok (.new 38, 3) := by decide +kernel
theorem dX2_requireWithinReach_25 : decode cX2_requireWithinReach 25 = .ok (.dup, 1) := by decide +kernel
theorem dX2_requireWithinReach_26 : decode cX2_requireWithinReach 26 = .ok (.ldc 198, 2) := by decide +kernel
theorem dX2_requireWithinReach_28 : decode cX2_requireWithinReach 28 = .ok (.invokespecial 42, 3) := by decide +kernel
theorem dX2_requireWithinReach_31 : decode cX2_requireWithinReach 31 = .ok (.athrow, 1) := by decide +kernel
theorem dX2_requireWithinReach_32 : decode cX2_requireWithinReach 32 = .ok (.return_, 1) := by decide +kernel
theorem dX2_requireWitnessIsNotKeeper_0 : decode cX2_requireWitnessIsNotKeeper 0 = .ok (.iload_n 1, 1) := by decide +kernel
theorem dX2_requireWitnessIsNotKeeper_1 : decode cX2_requireWitnessIsNotKeeper 1 = .ok (.aload_n 0, 1) := by decide +kernel
theorem dX2_requireWitnessIsNotKeeper_2 : decode cX2_requireWitnessIsNotKeeper 2 = .ok (.getfield 54, 3) := by decide +kernel
theorem dX2_requireWitnessIsNotKeeper_5 : decode cX2_requireWitnessIsNotKeeper 5 = .ok (.if_icmp .ne 13, 3) := by decide +kernel
theorem dX2_requireWitnessIsNotKeeper_8 : decode cX2_requireWitnessIsNotKeeper 8 = .ok (.new 27, 3) := by decide +kernel
theorem dX2_requireWitnessIsNotKeeper_11 : decode cX2_requireWitnessIsNotKeeper 11 = .ok (.dup, 1) := by decide +kernel
theorem dX2_requireWitnessIsNotKeeper_12 : decode cX2_requireWitnessIsNotKeeper 12 = .ok (.ldc 200, 2) := by decide +kernel
theorem dX2_requireWitnessIsNotKeeper_14 : decode cX2_requireWitnessIsNotKeeper 14 = .ok (.invokespecial 31, 3) := by decide +kernel
theorem dX2_requireWitnessIsNotKeeper_17 : decode cX2_requireWitnessIsNotKeeper 17 = .ok (.athrow, 1) := by decide +kernel
theorem dX2_requireWitnessIsNotKeeper_18 : decode cX2_requireWitnessIsNotKeeper 18 = .ok (.return_, 1) := by decide +kernel
theorem dL_draw_0 : decode cL_draw 0 = .ok (.iload_n 1, 1) := by decide +kernel
theorem dL_draw_1 : decode cL_draw 1 = .ok (.aload_n 0, 1) := by decide +kernel
theorem dL_draw_2 : decode cL_draw 2 = .ok (.arraylength, 1) := by decide +kernel
theorem dL_draw_3 : decode cL_draw 3 = .ok (.if_icmp .ge 9, 3) := by decide +kernel
theorem dL_draw_6 : decode cL_draw 6 = .ok (.aload_n 0, 1) := by decide +kernel
theorem dL_draw_7 : decode cL_draw 7 = .ok (.iload_n 1, 1) := by decide +kernel
theorem dL_draw_8 : decode cL_draw 8 = .ok (.iaload, 1) := by decide +kernel
theorem dL_draw_9 : decode cL_draw 9 = .ok (.goto 14, 3) := by decide +kernel
theorem dL_draw_12 : decode cL_draw 12 = .ok (.ldc 7, 2) := by decide +kernel
theorem dL_draw_14 : decode cL_draw 14 = .ok (.iload_n 1, 1) := by decide +kernel
theorem dL_draw_15 : decode cL_draw 15 = .ok (.sipush 199, 3) := by decide +kernel
theorem dL_draw_18 : decode cL_draw 18 = .ok (.iadd, 1) := by decide +kernel
theorem dL_draw_19 : decode cL_draw 19 = .ok (.imul, 1) := by decide +kernel
theorem dL_draw_20 : decode cL_draw 20 = .ok (.ldc 8, 2) := by decide +kernel
theorem dL_draw_22 : decode cL_draw 22 = .ok (.iadd, 1) := by decide +kernel
theorem dL_draw_23 : decode cL_draw 23 = .ok (.istore_n 3, 1) := by decide +kernel
theorem dL_draw_24 : decode cL_draw 24 = .ok (.iload_n 3, 1) := by decide +kernel
theorem dL_draw_25 : decode cL_draw 25 = .ok (.ldc 9, 2) := by decide +kernel
theorem dL_draw_27 : decode cL_draw 27 = .ok (.iand, 1) := by decide +kernel
theorem dL_draw_28 : decode cL_draw 28 = .ok (.iload_n 2, 1) := by decide +kernel
theorem dL_draw_29 : decode cL_draw 29 = .ok (.irem, 1) := by decide +kernel
theorem dL_draw_30 : decode cL_draw 30 = .ok (.ireturn, 1) := by decide +kernel
theorem dL_asks_0 : decode cL_asks 0 = .ok (.iload_n 1, 1) := by decide +kernel
theorem dL_asks_1 : decode cL_asks 1 = .ok (.ifCond .ne 12, 3) := by decide +kernel
theorem dL_asks_4 : decode cL_asks 4 = .ok (.aload_n 0, 1) := by decide +kernel
theorem dL_asks_5 : decode cL_asks 5 = .ok (.iload_n 2, 1) := by decide +kernel
theorem dL_asks_6 : decode cL_asks 6 = .ok (.iload_n 3, 1) := by decide +kernel
theorem dL_asks_7 : decode cL_asks 7 = .ok (.invokevirtual 10, 3) := by decide +kernel
theorem dL_asks_10 : decode cL_asks 10 = .ok (.goto 184, 3) := by decide +kernel
theorem dL_asks_13 : decode cL_asks 13 = .ok (.iload_n 1, 1) := by decide +kernel
theorem dL_asks_14 : decode cL_asks 14 = .ok (.iconst 1, 1) := by decide +kernel
theorem dL_asks_15 : decode cL_asks 15 = .ok (.if_icmp .ne 20, 3) := by decide +kernel
theorem dL_asks_18 : decode cL_asks 18 = .ok (.aload_n 0, 1) := by decide +kernel
theorem dL_asks_19 : decode cL_asks 19 = .ok (.iload_n 2, 1) := by decide +kernel
theorem dL_asks_20 : decode cL_asks 20 = .ok (.iload_n 3, 1) := by decide +kernel
theorem dL_asks_21 : decode cL_asks 21 = .ok (.ifCond .le 7, 3) := by decide +kernel
theorem dL_asks_24 : decode cL_asks 24 = .ok (.iconst 1, 1) := by decide +kernel
theorem dL_asks_25 : decode cL_asks 25 = .ok (.goto 4, 3) := by decide +kernel
theorem dL_asks_28 : decode cL_asks 28 = .ok (.iconst 0, 1) := by decide +kernel
theorem dL_asks_29 : decode cL_asks 29 = .ok (.invokevirtual 16, 3) := by decide +kernel
theorem dL_asks_32 : decode cL_asks 32 = .ok (.goto 162, 3) := by decide +kernel
theorem dL_asks_35 : decode cL_asks 35 = .ok (.iload_n 1, 1) := by decide +kernel
theorem dL_asks_36 : decode cL_asks 36 = .ok (.iconst 2, 1) := by decide +kernel
theorem dL_asks_37 : decode cL_asks 37 = .ok (.if_icmp .ne 12, 3) := by decide +kernel
theorem dL_asks_40 : decode cL_asks 40 = .ok (.aload_n 0, 1) := by decide +kernel
theorem dL_asks_41 : decode cL_asks 41 = .ok (.iload_n 2, 1) := by decide +kernel
theorem dL_asks_42 : decode cL_asks 42 = .ok (.iload_n 3, 1) := by decide +kernel
theorem dL_asks_43 : decode cL_asks 43 = .ok (.invokevirtual 20, 3) := by decide +kernel
theorem dL_asks_46 : decode cL_asks 46 = .ok (.goto 148, 3) := by decide +kernel
theorem dL_asks_49 : decode cL_asks 49 = .ok (.iload_n 1, 1) := by decide +kernel
theorem dL_asks_50 : decode cL_asks 50 = .ok (.iconst 3, 1) := by decide +kernel
theorem dL_asks_51 : decode cL_asks 51 = .ok (.if_icmp .ne 11, 3) := by decide +kernel
theorem dL_asks_54 : decode cL_asks 54 = .ok (.aload_n 0, 1) := by decide +kernel
theorem dL_asks_55 : decode cL_asks 55 = .ok (.iload_n 2, 1) := by decide +kernel
theorem dL_asks_56 : decode cL_asks 56 = .ok (.invokevirtual 23, 3) := by decide +kernel
theorem dL_asks_59 : decode cL_asks 59 = .ok (.goto 135, 3) := by decide +kernel
theorem dL_asks_62 : decode cL_asks 62 = .ok (.iload_n 1, 1) := by decide +kernel
theorem dL_asks_63 : decode cL_asks 63 = .ok (.iconst 4, 1) := by decide +kernel
theorem dL_asks_64 : decode cL_asks 64 = .ok (.if_icmp .ne 14, 3) := by decide +kernel
theorem dL_asks_67 : decode cL_asks 67 = .ok (.aload_n 0, 1) := by decide +kernel
theorem dL_asks_68 : decode cL_asks 68 = .ok (.iload_n 2, 1) := by decide +kernel
theorem dL_asks_69 : decode cL_asks 69 = .ok (.iload_n 3, 1) := by decide +kernel
theorem dL_asks_70 : decode cL_asks 70 = .ok (.iload 4, 2) := by decide +kernel
theorem dL_asks_72 : decode cL_asks 72 = .ok (.invokevirtual 27, 3) := by decide +kernel
theorem dL_asks_75 : decode cL_asks 75 = .ok (.goto 119, 3) := by decide +kernel
theorem dL_asks_78 : decode cL_asks 78 = .ok (.iload_n 1, 1) := by decide +kernel
theorem dL_asks_79 : decode cL_asks 79 = .ok (.iconst 5, 1) := by decide +kernel
theorem dL_asks_80 : decode cL_asks 80 = .ok (.if_icmp .ne 12, 3) := by decide +kernel
theorem dL_asks_83 : decode cL_asks 83 = .ok (.aload_n 0, 1) := by decide +kernel
theorem dL_asks_84 : decode cL_asks 84 = .ok (.iload_n 2, 1) := by decide +kernel
theorem dL_asks_85 : decode cL_asks 85 = .ok (.iload_n 3, 1) := by decide +kernel
theorem dL_asks_86 : decode cL_asks 86 = .ok (.invokevirtual 31, 3) := by decide +kernel
theorem dL_asks_89 : decode cL_asks 89 = .ok (.goto 105, 3) := by decide +kernel
theorem dL_asks_92 : decode cL_asks 92 = .ok (.iload_n 1, 1) := by decide +kernel
theorem dL_asks_93 : decode cL_asks 93 = .ok (.bipush 6, 2) := by decide +kernel
theorem dL_asks_95 : decode cL_asks 95 = .ok (.if_icmp .ne 22, 3) := by decide +kernel
theorem dL_asks_98 : decode cL_asks 98 = .ok (.aload_n 0, 1) := by decide +kernel
theorem dL_asks_99 : decode cL_asks 99 = .ok (.iload_n 2, 1) := by decide +kernel
theorem dL_asks_100 : decode cL_asks 100 = .ok (.iload_n 3, 1) := by decide +kernel
theorem dL_asks_101 : decode cL_asks 101 = .ok (.iload 4, 2) := by decide +kernel
theorem dL_asks_103 : decode cL_asks 103 = .ok (.ifCond .le 7, 3) := by decide +kernel
theorem dL_asks_106 : decode cL_asks 106 = .ok (.iconst 1, 1) := by decide +kernel
theorem dL_asks_107 : decode cL_asks 107 = .ok (.goto 4, 3) := by decide +kernel
theorem dL_asks_110 : decode cL_asks 110 = .ok (.iconst 0, 1) := by decide +kernel
theorem dL_asks_111 : decode cL_asks 111 = .ok (.invokevirtual 34, 3) := by decide +kernel
theorem dL_asks_114 : decode cL_asks 114 = .ok (.goto 80, 3) := by decide +kernel
theorem dL_asks_117 : decode cL_asks 117 = .ok (.iload_n 1, 1) := by decide +kernel
theorem dL_asks_118 : decode cL_asks 118 = .ok (.bipush 7, 2) := by decide +kernel
theorem dL_asks_120 : decode cL_asks 120 = .ok (.if_icmp .ne 11, 3) := by decide +kernel
theorem dL_asks_123 : decode cL_asks 123 = .ok (.aload_n 0, 1) := by decide +kernel
theorem dL_asks_124 : decode cL_asks 124 = .ok (.iload_n 2, 1) := by decide +kernel
theorem dL_asks_125 : decode cL_asks 125 = .ok (.invokevirtual 38, 3) := by decide +kernel
theorem dL_asks_128 : decode cL_asks 128 = .ok (.goto 66, 3) := by decide +kernel
theorem dL_asks_131 : decode cL_asks 131 = .ok (.iload_n 1, 1) := by decide +kernel
theorem dL_asks_132 : decode cL_asks 132 = .ok (.bipush 8, 2) := by decide +kernel
theorem dL_asks_134 : decode cL_asks 134 = .ok (.if_icmp .ne 11, 3) := by decide +kernel
theorem dL_asks_137 : decode cL_asks 137 = .ok (.aload_n 0, 1) := by decide +kernel
theorem dL_asks_138 : decode cL_asks 138 = .ok (.iload_n 2, 1) := by decide +kernel
theorem dL_asks_139 : decode cL_asks 139 = .ok (.invokevirtual 41, 3) := by decide +kernel
theorem dL_asks_142 : decode cL_asks 142 = .ok (.goto 52, 3) := by decide +kernel
theorem dL_asks_145 : decode cL_asks 145 = .ok (.iload_n 1, 1) := by decide +kernel
theorem dL_asks_146 : decode cL_asks 146 = .ok (.bipush 9, 2) := by decide +kernel
theorem dL_asks_148 : decode cL_asks 148 = .ok (.if_icmp .ne 11, 3) := by decide +kernel
theorem dL_asks_151 : decode cL_asks 151 = .ok (.aload_n 0, 1) := by decide +kernel
theorem dL_asks_152 : decode cL_asks 152 = .ok (.iload_n 2, 1) := by decide +kernel
theorem dL_asks_153 : decode cL_asks 153 = .ok (.invokevirtual 44, 3) := by decide +kernel
theorem dL_asks_156 : decode cL_asks 156 = .ok (.goto 38, 3) := by decide +kernel
theorem dL_asks_159 : decode cL_asks 159 = .ok (.iload_n 1, 1) := by decide +kernel
theorem dL_asks_160 : decode cL_asks 160 = .ok (.bipush 10, 2) := by decide +kernel
theorem dL_asks_162 : decode cL_asks 162 = .ok (.if_icmp .ne 12, 3) := by decide +kernel
theorem dL_asks_165 : decode cL_asks 165 = .ok (.aload_n 0, 1) := by decide +kernel
theorem dL_asks_166 : decode cL_asks 166 = .ok (.iload_n 2, 1) := by decide +kernel
theorem dL_asks_167 : decode cL_asks 167 = .ok (.iload_n 3, 1) := by decide +kernel
theorem dL_asks_168 : decode cL_asks 168 = .ok (.invokevirtual 47, 3) := by decide +kernel
theorem dL_asks_171 : decode cL_asks 171 = .ok (.goto 23, 3) := by decide +kernel
theorem dL_asks_174 : decode cL_asks 174 = .ok (.iload_n 1, 1) := by decide +kernel
theorem dL_asks_175 : decode cL_asks 175 = .ok (.bipush 11, 2) := by decide +kernel
theorem dL_asks_177 : decode cL_asks 177 = .ok (.if_icmp .ne 12, 3) := by decide +kernel
theorem dL_asks_180 : decode cL_asks 180 = .ok (.aload_n 0, 1) := by decide +kernel
theorem dL_asks_181 : decode cL_asks 181 = .ok (.iload_n 2, 1) := by decide +kernel
theorem dL_asks_182 : decode cL_asks 182 = .ok (.iload_n 3, 1) := by decide +kernel
theorem dL_asks_183 : decode cL_asks 183 = .ok (.invokevirtual 50, 3) := by decide +kernel
theorem dL_asks_186 : decode cL_asks 186 = .ok (.goto 8, 3) := by decide +kernel
theorem dL_asks_189 : decode cL_asks 189 = .ok (.aload_n 0, 1) := by decide +kernel
theorem dL_asks_190 : decode cL_asks 190 = .ok (.iload_n 2, 1) := by decide +kernel
theorem dL_asks_191 : decode cL_asks 191 = .ok (.invokevirtual 53, 3) := by decide +kernel
theorem dL_asks_194 : decode cL_asks 194 = .ok (.ireturn, 1) := by decide +kernel
theorem dL_asks_195 : decode cL_asks 195 = .ok (.astore 5, 2) := by decide +kernel
theorem dL_asks_197 : decode cL_asks 197 = .ok (.bipush (-8), 2) := by decide +kernel
theorem dL_asks_199 : decode cL_asks 199 = .ok (.ireturn, 1) := by decide +kernel
theorem dL_asks_200 : decode cL_asks 200 = .ok (.astore 5, 2) := by decide +kernel
theorem dL_asks_202 : decode cL_asks 202 = .ok (.bipush (-9), 2) := by decide +kernel
theorem dL_asks_204 : decode cL_asks 204 = .ok (.ireturn, 1) := by decide +kernel
theorem dL_asks_205 : decode cL_asks 205 = .ok (.astore 5, 2) := by decide +kernel
theorem dL_asks_207 : decode cL_asks 207 = .ok (.bipush (-10), 2) := by decide +kernel
theorem dL_asks_209 : decode cL_asks 209 = .ok (.ireturn, 1) := by decide +kernel
theorem dL_disk_0 : decode cL_disk 0 = .ok (.aload_n 0, 1) := by decide +kernel
theorem dL_disk_1 : decode cL_disk 1 = .ok (.iload_n 1, 1) := by decide +kernel
theorem dL_disk_2 : decode cL_disk 2 = .ok (.invokevirtual 62, 3) := by decide +kernel
theorem dL_disk_5 : decode cL_disk 5 = .ok (.bipush 8, 2) := by decide +kernel
theorem dL_disk_7 : decode cL_disk 7 = .ok (.aload_n 0, 1) := by decide +kernel
theorem dL_disk_8 : decode cL_disk 8 = .ok (.iload_n 1, 1) := by decide +kernel
theorem dL_disk_9 : decode cL_disk 9 = .ok (.invokevirtual 65, 3) := by decide +kernel
theorem dL_disk_12 : decode cL_disk 12 = .ok (.iconst 1, 1) := by decide +kernel
theorem dL_disk_13 : decode cL_disk 13 = .ok (.iadd, 1) := by decide +kernel
theorem dL_disk_14 : decode cL_disk 14 = .ok (.imul, 1) := by decide +kernel
theorem dL_disk_15 : decode cL_disk 15 = .ok (.iadd, 1) := by decide +kernel
theorem dL_disk_16 : decode cL_disk 16 = .ok (.bipush 88, 2) := by decide +kernel
theorem dL_disk_18 : decode cL_disk 18 = .ok (.aload_n 0, 1) := by decide +kernel
theorem dL_disk_19 : decode cL_disk 19 = .ok (.iload_n 1, 1) := by decide +kernel
theorem dL_disk_20 : decode cL_disk 20 = .ok (.invokevirtual 68, 3) := by decide +kernel
theorem dL_disk_23 : decode cL_disk 23 = .ok (.imul, 1) := by decide +kernel
theorem dL_disk_24 : decode cL_disk 24 = .ok (.iadd, 1) := by decide +kernel
theorem dL_disk_25 : decode cL_disk 25 = .ok (.sipush 352, 3) := by decide +kernel
theorem dL_disk_28 : decode cL_disk 28 = .ok (.aload_n 0, 1) := by decide +kernel
theorem dL_disk_29 : decode cL_disk 29 = .ok (.iload_n 1, 1) := by decide +kernel
theorem dL_disk_30 : decode cL_disk 30 = .ok (.invokevirtual 71, 3) := by decide +kernel
theorem dL_disk_33 : decode cL_disk 33 = .ok (.iconst 1, 1) := by decide +kernel
theorem dL_disk_34 : decode cL_disk 34 = .ok (.iadd, 1) := by decide +kernel
theorem dL_disk_35 : decode cL_disk 35 = .ok (.imul, 1) := by decide +kernel
theorem dL_disk_36 : decode cL_disk 36 = .ok (.iadd, 1) := by decide +kernel
theorem dL_disk_37 : decode cL_disk 37 = .ok (.sipush 3168, 3) := by decide +kernel
theorem dL_disk_40 : decode cL_disk 40 = .ok (.aload_n 0, 1) := by decide +kernel
theorem dL_disk_41 : decode cL_disk 41 = .ok (.iload_n 1, 1) := by decide +kernel
theorem dL_disk_42 : decode cL_disk 42 = .ok (.invokevirtual 74, 3) := by decide +kernel
theorem dL_disk_45 : decode cL_disk 45 = .ok (.ifCond .eq 7, 3) := by decide +kernel
theorem dL_disk_48 : decode cL_disk 48 = .ok (.iconst 1, 1) := by decide +kernel
theorem dL_disk_49 : decode cL_disk 49 = .ok (.goto 4, 3) := by decide +kernel
theorem dL_disk_52 : decode cL_disk 52 = .ok (.iconst 0, 1) := by decide +kernel
theorem dL_disk_53 : decode cL_disk 53 = .ok (.imul, 1) := by decide +kernel
theorem dL_disk_54 : decode cL_disk 54 = .ok (.iadd, 1) := by decide +kernel
theorem dL_disk_55 : decode cL_disk 55 = .ok (.sipush 6336, 3) := by decide +kernel
theorem dL_disk_58 : decode cL_disk 58 = .ok (.aload_n 0, 1) := by decide +kernel
theorem dL_disk_59 : decode cL_disk 59 = .ok (.iload_n 1, 1) := by decide +kernel
theorem dL_disk_60 : decode cL_disk 60 = .ok (.invokevirtual 78, 3) := by decide +kernel
theorem dL_disk_63 : decode cL_disk 63 = .ok (.iconst 1, 1) := by decide +kernel
theorem dL_disk_64 : decode cL_disk 64 = .ok (.iadd, 1) := by decide +kernel
theorem dL_disk_65 : decode cL_disk 65 = .ok (.imul, 1) := by decide +kernel
theorem dL_disk_66 : decode cL_disk 66 = .ok (.iadd, 1) := by decide +kernel
theorem dL_disk_67 : decode cL_disk 67 = .ok (.ireturn, 1) := by decide +kernel
theorem dL_all_0 : decode cL_all 0 = .ok (.iconst 0, 1) := by decide +kernel
theorem dL_all_1 : decode cL_all 1 = .ok (.istore_n 3, 1) := by decide +kernel
theorem dL_all_2 : decode cL_all 2 = .ok (.iload_n 3, 1) := by decide +kernel
theorem dL_all_3 : decode cL_all 3 = .ok (.aload_n 1, 1) := by decide +kernel
theorem dL_all_4 : decode cL_all 4 = .ok (.iconst 0, 1) := by decide +kernel
theorem dL_all_5 : decode cL_all 5 = .ok (.iaload, 1) := by decide +kernel
theorem dL_all_6 : decode cL_all 6 = .ok (.if_icmp .ge 17, 3) := by decide +kernel
theorem dL_all_9 : decode cL_all 9 = .ok (.aload_n 2, 1) := by decide +kernel
theorem dL_all_10 : decode cL_all 10 = .ok (.iload_n 3, 1) := by decide +kernel
theorem dL_all_11 : decode cL_all 11 = .ok (.aload_n 0, 1) := by decide +kernel
theorem dL_all_12 : decode cL_all 12 = .ok (.iload_n 3, 1) := by decide +kernel
theorem dL_all_13 : decode cL_all 13 = .ok (.invokestatic 81, 3) := by decide +kernel
theorem dL_all_16 : decode cL_all 16 = .ok (.iastore, 1) := by decide +kernel
theorem dL_all_17 : decode cL_all 17 = .ok (.iinc 3 1, 3) := by decide +kernel
theorem dL_all_20 : decode cL_all 20 = .ok (.goto (-18), 3) := by decide +kernel
theorem dL_all_23 : decode cL_all 23 = .ok (.return_, 1) := by decide +kernel
theorem dL_areSame_0 : decode cL_areSame 0 = .ok (.iconst 1, 1) := by decide +kernel
theorem dL_areSame_1 : decode cL_areSame 1 = .ok (.istore 5, 2) := by decide +kernel
theorem dL_areSame_3 : decode cL_areSame 3 = .ok (.iconst 0, 1) := by decide +kernel
theorem dL_areSame_4 : decode cL_areSame 4 = .ok (.istore 6, 2) := by decide +kernel
theorem dL_areSame_6 : decode cL_areSame 6 = .ok (.iload 6, 2) := by decide +kernel
theorem dL_areSame_8 : decode cL_areSame 8 = .ok (.aload_n 1, 1) := by decide +kernel
theorem dL_areSame_9 : decode cL_areSame 9 = .ok (.iconst 0, 1) := by decide +kernel
theorem dL_areSame_10 : decode cL_areSame 10 = .ok (.iaload, 1) := by decide +kernel
theorem dL_areSame_11 : decode cL_areSame 11 = .ok (.if_icmp .ge 45, 3) := by decide +kernel
theorem dL_areSame_14 : decode cL_areSame 14 = .ok (.iload 5, 2) := by decide +kernel
theorem dL_areSame_16 : decode cL_areSame 16 = .ok (.ifCond .eq 40, 3) := by decide +kernel
theorem dL_areSame_19 : decode cL_areSame 19 = .ok (.lload_n 3, 1) := by decide +kernel
theorem dL_areSame_20 : decode cL_areSame 20 = .ok (.iload 6, 2) := by decide +kernel
theorem dL_areSame_22 : decode cL_areSame 22 = .ok (.lshr, 1) := by decide +kernel
theorem dL_areSame_23 : decode cL_areSame 23 = .ok (.lconst 1, 1) := by decide +kernel
theorem dL_areSame_24 : decode cL_areSame 24 = .ok (.land, 1) := by decide +kernel
theorem dL_areSame_25 : decode cL_areSame 25 = .ok (.lconst 1, 1) := by decide +kernel
theorem dL_areSame_26 : decode cL_areSame 26 = .ok (.lcmp, 1) := by decide +kernel
theorem dL_areSame_27 : decode cL_areSame 27 = .ok (.ifCond .eq 16, 3) := by decide +kernel
theorem dL_areSame_30 : decode cL_areSame 30 = .ok (.aload_n 0, 1) := by decide +kernel
theorem dL_areSame_31 : decode cL_areSame 31 = .ok (.iload 6, 2) := by decide +kernel
theorem dL_areSame_33 : decode cL_areSame 33 = .ok (.invokestatic 81, 3) := by decide +kernel
theorem dL_areSame_36 : decode cL_areSame 36 = .ok (.aload_n 2, 1) := by decide +kernel
theorem dL_areSame_37 : decode cL_areSame 37 = .ok (.iload 6, 2) := by decide +kernel
theorem dL_areSame_39 : decode cL_areSame 39 = .ok (.iaload, 1) := by decide +kernel
theorem dL_areSame_40 : decode cL_areSame 40 = .ok (.if_icmp .ne 7, 3) := by decide +kernel
theorem dL_areSame_43 : decode cL_areSame 43 = .ok (.iconst 1, 1) := by decide +kernel
theorem dL_areSame_44 : decode cL_areSame 44 = .ok (.goto 4, 3) := by decide +kernel
theorem dL_areSame_47 : decode cL_areSame 47 = .ok (.iconst 0, 1) := by decide +kernel
theorem dL_areSame_48 : decode cL_areSame 48 = .ok (.istore 5, 2) := by decide +kernel
theorem dL_areSame_50 : decode cL_areSame 50 = .ok (.iinc 6 1, 3) := by decide +kernel
theorem dL_areSame_53 : decode cL_areSame 53 = .ok (.goto (-47), 3) := by decide +kernel
theorem dL_areSame_56 : decode cL_areSame 56 = .ok (.iload 5, 2) := by decide +kernel
theorem dL_areSame_58 : decode cL_areSame 58 = .ok (.ireturn, 1) := by decide +kernel
theorem dL_isMissing_0 : decode cL_isMissing 0 = .ok (.aload_n 0, 1) := by decide +kernel
theorem dL_isMissing_1 : decode cL_isMissing 1 = .ok (.iconst 0, 1) := by decide +kernel
theorem dL_isMissing_2 : decode cL_isMissing 2 = .ok (.laload, 1) := by decide +kernel
theorem dL_isMissing_3 : decode cL_isMissing 3 = .ok (.iload_n 1, 1) := by decide +kernel
theorem dL_isMissing_4 : decode cL_isMissing 4 = .ok (.lshr, 1) := by decide +kernel
theorem dL_isMissing_5 : decode cL_isMissing 5 = .ok (.lconst 1, 1) := by decide +kernel
theorem dL_isMissing_6 : decode cL_isMissing 6 = .ok (.land, 1) := by decide +kernel
theorem dL_isMissing_7 : decode cL_isMissing 7 = .ok (.lconst 1, 1) := by decide +kernel
theorem dL_isMissing_8 : decode cL_isMissing 8 = .ok (.lcmp, 1) := by decide +kernel
theorem dL_isMissing_9 : decode cL_isMissing 9 = .ok (.ifCond .ne 7, 3) := by decide +kernel
theorem dL_isMissing_12 : decode cL_isMissing 12 = .ok (.iconst 1, 1) := by decide +kernel
theorem dL_isMissing_13 : decode cL_isMissing 13 = .ok (.goto 4, 3) := by decide +kernel
theorem dL_isMissing_16 : decode cL_isMissing 16 = .ok (.iconst 0, 1) := by decide +kernel
theorem dL_isMissing_17 : decode cL_isMissing 17 = .ok (.ireturn, 1) := by decide +kernel
theorem dL_isShut_0 : decode cL_isShut 0 = .ok (.aload_n 0, 1) := by decide +kernel
theorem dL_isShut_1 : decode cL_isShut 1 = .ok (.iload_n 1, 1) := by decide +kernel
theorem dL_isShut_2 : decode cL_isShut 2 = .ok (.invokevirtual 65, 3) := by decide +kernel
theorem dL_isShut_5 : decode cL_isShut 5 = .ok (.ifCond .lt 19, 3) := by decide +kernel
theorem dL_isShut_8 : decode cL_isShut 8 = .ok (.aload_n 0, 1) := by decide +kernel
theorem dL_isShut_9 : decode cL_isShut 9 = .ok (.aload_n 0, 1) := by decide +kernel
theorem dL_isShut_10 : decode cL_isShut 10 = .ok (.iload_n 1, 1) := by decide +kernel
theorem dL_isShut_11 : decode cL_isShut 11 = .ok (.invokevirtual 65, 3) := by decide +kernel
theorem dL_isShut_14 : decode cL_isShut 14 = .ok (.invokevirtual 87, 3) := by decide +kernel
theorem dL_isShut_17 : decode cL_isShut 17 = .ok (.ifCond .lt 7, 3) := by decide +kernel
theorem dL_isShut_20 : decode cL_isShut 20 = .ok (.iconst 1, 1) := by decide +kernel
theorem dL_isShut_21 : decode cL_isShut 21 = .ok (.goto 4, 3) := by decide +kernel
theorem dL_isShut_24 : decode cL_isShut 24 = .ok (.iconst 0, 1) := by decide +kernel
theorem dL_isShut_25 : decode cL_isShut 25 = .ok (.ireturn, 1) := by decide +kernel
theorem dL_isFree_0 : decode cL_isFree 0 = .ok (.aload_n 1, 1) := by decide +kernel
theorem dL_isFree_1 : decode cL_isFree 1 = .ok (.iload_n 2, 1) := by decide +kernel
theorem dL_isFree_2 : decode cL_isFree 2 = .ok (.invokestatic 90, 3) := by decide +kernel
theorem dL_isFree_5 : decode cL_isFree 5 = .ok (.ifCond .ne 24, 3) := by decide +kernel
theorem dL_isFree_8 : decode cL_isFree 8 = .ok (.aload_n 0, 1) := by decide +kernel
theorem dL_isFree_9 : decode cL_isFree 9 = .ok (.iload_n 2, 1) := by decide +kernel
theorem dL_isFree_10 : decode cL_isFree 10 = .ok (.invokevirtual 71, 3) := by decide +kernel
theorem dL_isFree_13 : decode cL_isFree 13 = .ok (.iconst (-1), 1) := by decide +kernel
theorem dL_isFree_14 : decode cL_isFree 14 = .ok (.if_icmp .ne 15, 3) := by decide +kernel
theorem dL_isFree_17 : decode cL_isFree 17 = .ok (.aload_n 0, 1) := by decide +kernel
theorem dL_isFree_18 : decode cL_isFree 18 = .ok (.iload_n 2, 1) := by decide +kernel
theorem dL_isFree_19 : decode cL_isFree 19 = .ok (.invokestatic 94, 3) := by decide +kernel
theorem dL_isFree_22 : decode cL_isFree 22 = .ok (.ifCond .ne 7, 3) := by decide +kernel
theorem dL_isFree_25 : decode cL_isFree 25 = .ok (.iconst 1, 1) := by decide +kernel
theorem dL_isFree_26 : decode cL_isFree 26 = .ok (.goto 4, 3) := by decide +kernel
theorem dL_isFree_29 : decode cL_isFree 29 = .ok (.iconst 0, 1) := by decide +kernel
theorem dL_isFree_30 : decode cL_isFree 30 = .ok (.ireturn, 1) := by decide +kernel
theorem dL_countIn_0 : decode cL_countIn 0 = .ok (.iconst 0, 1) := by decide +kernel
theorem dL_countIn_1 : decode cL_countIn 1 = .ok (.istore_n 3, 1) := by decide +kernel
theorem dL_countIn_2 : decode cL_countIn 2 = .ok (.iconst 0, 1) := by decide +kernel
theorem dL_countIn_3 : decode cL_countIn 3 = .ok (.istore 4, 2) := by decide +kernel
theorem dL_countIn_5 : decode cL_countIn 5 = .ok (.iload 4, 2) := by decide +kernel
theorem dL_countIn_7 : decode cL_countIn 7 = .ok (.aload_n 1, 1) := by decide +kernel
theorem dL_countIn_8 : decode cL_countIn 8 = .ok (.iconst 0, 1) := by decide +kernel
theorem dL_countIn_9 : decode cL_countIn 9 = .ok (.iaload, 1) := by decide +kernel
theorem dL_countIn_10 : decode cL_countIn 10 = .ok (.if_icmp .ge 27, 3) := by decide +kernel
theorem dL_countIn_13 : decode cL_countIn 13 = .ok (.iload_n 3, 1) := by decide +kernel
theorem dL_countIn_14 : decode cL_countIn 14 = .ok (.aload_n 0, 1) := by decide +kernel
theorem dL_countIn_15 : decode cL_countIn 15 = .ok (.iload 4, 2) := by decide +kernel
theorem dL_countIn_17 : decode cL_countIn 17 = .ok (.invokevirtual 65, 3) := by decide +kernel
theorem dL_countIn_20 : decode cL_countIn 20 = .ok (.iload_n 2, 1) := by decide +kernel
theorem dL_countIn_21 : decode cL_countIn 21 = .ok (.if_icmp .ne 7, 3) := by decide +kernel
theorem dL_countIn_24 : decode cL_countIn 24 = .ok (.iconst 1, 1) := by decide +kernel
theorem dL_countIn_25 : decode cL_countIn 25 = .ok (.goto 4, 3) := by decide +kernel
theorem dL_countIn_28 : decode cL_countIn 28 = .ok (.iconst 0, 1) := by decide +kernel
theorem dL_countIn_29 : decode cL_countIn 29 = .ok (.iadd, 1) := by decide +kernel
theorem dL_countIn_30 : decode cL_countIn 30 = .ok (.istore_n 3, 1) := by decide +kernel
theorem dL_countIn_31 : decode cL_countIn 31 = .ok (.iinc 4 1, 3) := by decide +kernel
theorem dL_countIn_34 : decode cL_countIn 34 = .ok (.goto (-29), 3) := by decide +kernel
theorem dL_countIn_37 : decode cL_countIn 37 = .ok (.iload_n 3, 1) := by decide +kernel
theorem dL_countIn_38 : decode cL_countIn 38 = .ok (.ireturn, 1) := by decide +kernel
theorem dL_isBook_0 : decode cL_isBook 0 = .ok (.iconst 0, 1) := by decide +kernel
theorem dL_isBook_1 : decode cL_isBook 1 = .ok (.istore_n 3, 1) := by decide +kernel
theorem dL_isBook_2 : decode cL_isBook 2 = .ok (.iconst 0, 1) := by decide +kernel
theorem dL_isBook_3 : decode cL_isBook 3 = .ok (.istore 4, 2) := by decide +kernel
theorem dL_isBook_5 : decode cL_isBook 5 = .ok (.aload_n 0, 1) := by decide +kernel
theorem dL_isBook_6 : decode cL_isBook 6 = .ok (.invokevirtual 98, 3) := by decide +kernel
theorem dL_isBook_9 : decode cL_isBook 9 = .ok (.aload_n 1, 1) := by decide +kernel
theorem dL_isBook_10 : decode cL_isBook 10 = .ok (.iconst 0, 1) := by decide +kernel
theorem dL_isBook_11 : decode cL_isBook 11 = .ok (.iaload, 1) := by decide +kernel
theorem dL_isBook_12 : decode cL_isBook 12 = .ok (.if_icmp .ne 37, 3) := by decide +kernel
theorem dL_isBook_15 : decode cL_isBook 15 = .ok (.aload_n 0, 1) := by decide +kernel
theorem dL_isBook_16 : decode cL_isBook 16 = .ok (.invokevirtual 102, 3) := by decide +kernel
theorem dL_isBook_19 : decode cL_isBook 19 = .ok (.aload_n 1, 1) := by decide +kernel
theorem dL_isBook_20 : decode cL_isBook 20 = .ok (.iconst 1, 1) := by decide +kernel
theorem dL_isBook_21 : decode cL_isBook 21 = .ok (.iaload, 1) := by decide +kernel
theorem dL_isBook_22 : decode cL_isBook 22 = .ok (.if_icmp .ne 27, 3) := by decide +kernel
theorem dL_isBook_25 : decode cL_isBook 25 = .ok (.aload_n 0, 1) := by decide +kernel
theorem dL_isBook_26 : decode cL_isBook 26 = .ok (.invokevirtual 105, 3) := by decide +kernel
theorem dL_isBook_29 : decode cL_isBook 29 = .ok (.aload_n 1, 1) := by decide +kernel
theorem dL_isBook_30 : decode cL_isBook 30 = .ok (.iconst 2, 1) := by decide +kernel
theorem dL_isBook_31 : decode cL_isBook 31 = .ok (.iaload, 1) := by decide +kernel
theorem dL_isBook_32 : decode cL_isBook 32 = .ok (.if_icmp .ne 17, 3) := by decide +kernel
theorem dL_isBook_35 : decode cL_isBook 35 = .ok (.aload_n 0, 1) := by decide +kernel
theorem dL_isBook_36 : decode cL_isBook 36 = .ok (.invokevirtual 108, 3) := by decide +kernel
theorem dL_isBook_39 : decode cL_isBook 39 = .ok (.aload_n 1, 1) := by decide +kernel
theorem dL_isBook_40 : decode cL_isBook 40 = .ok (.iconst 4, 1) := by decide +kernel
theorem dL_isBook_41 : decode cL_isBook 41 = .ok (.iaload, 1) := by decide +kernel
theorem dL_isBook_42 : decode cL_isBook 42 = .ok (.if_icmp .ne 7, 3) := by decide +kernel
theorem dL_isBook_45 : decode cL_isBook 45 = .ok (.iconst 1, 1) := by decide +kernel
theorem dL_isBook_46 : decode cL_isBook 46 = .ok (.goto 4, 3) := by decide +kernel
theorem dL_isBook_49 : decode cL_isBook 49 = .ok (.iconst 0, 1) := by decide +kernel
theorem dL_isBook_50 : decode cL_isBook 50 = .ok (.istore 5, 2) := by decide +kernel
theorem dL_isBook_52 : decode cL_isBook 52 = .ok (.iconst 0, 1) := by decide +kernel
theorem dL_isBook_53 : decode cL_isBook 53 = .ok (.istore 6, 2) := by decide +kernel
theorem dL_isBook_55 : decode cL_isBook 55 = .ok (.iload 6, 2) := by decide +kernel
theorem dL_isBook_57 : decode cL_isBook 57 = .ok (.aload_n 1, 1) := by decide +kernel
theorem dL_isBook_58 : decode cL_isBook 58 = .ok (.iconst 0, 1) := by decide +kernel
theorem dL_isBook_59 : decode cL_isBook 59 = .ok (.iaload, 1) := by decide +kernel
theorem dL_isBook_60 : decode cL_isBook 60 = .ok (.if_icmp .ge 175, 3) := by decide +kernel
theorem dL_isBook_63 : decode cL_isBook 63 = .ok (.iload 5, 2) := by decide +kernel
theorem dL_isBook_65 : decode cL_isBook 65 = .ok (.ifCond .eq 170, 3) := by decide +kernel
theorem dL_isBook_68 : decode cL_isBook 68 = .ok (.aload_n 0, 1) := by decide +kernel
theorem dL_isBook_69 : decode cL_isBook 69 = .ok (.iload 6, 2) := by decide +kernel
theorem dL_isBook_71 : decode cL_isBook 71 = .ok (.invokevirtual 65, 3) := by decide +kernel
theorem dL_isBook_74 : decode cL_isBook 74 = .ok (.istore 7, 2) := by decide +kernel
theorem dL_isBook_76 : decode cL_isBook 76 = .ok (.aload_n 0, 1) := by decide +kernel
theorem dL_isBook_77 : decode cL_isBook 77 = .ok (.iload 6, 2) := by decide +kernel
theorem dL_isBook_79 : decode cL_isBook 79 = .ok (.invokevirtual 68, 3) := by decide +kernel
theorem dL_isBook_82 : decode cL_isBook 82 = .ok (.istore 8, 2) := by decide +kernel
theorem dL_isBook_84 : decode cL_isBook 84 = .ok (.aload_n 0, 1) := by decide +kernel
theorem dL_isBook_85 : decode cL_isBook 85 = .ok (.iload 6, 2) := by decide +kernel
theorem dL_isBook_87 : decode cL_isBook 87 = .ok (.invokevirtual 71, 3) := by decide +kernel
theorem dL_isBook_90 : decode cL_isBook 90 = .ok (.istore 9, 2) := by decide +kernel
theorem dL_isBook_92 : decode cL_isBook 92 = .ok (.iload_n 3, 1) := by decide +kernel
theorem dL_isBook_93 : decode cL_isBook 93 = .ok (.aload_n 2, 1) := by decide +kernel
theorem dL_isBook_94 : decode cL_isBook 94 = .ok (.iload 6, 2) := by decide +kernel
theorem dL_isBook_96 : decode cL_isBook 96 = .ok (.invokestatic 90, 3) := by decide +kernel
theorem dL_isBook_99 : decode cL_isBook 99 = .ok (.ifCond .eq 7, 3) := by decide +kernel
theorem dL_isBook_102 : decode cL_isBook 102 = .ok (.iconst 1, 1) := by decide +kernel
theorem dL_isBook_103 : decode cL_isBook 103 = .ok (.goto 4, 3) := by decide +kernel
theorem dL_isBook_106 : decode cL_isBook 106 = .ok (.iconst 0, 1) := by decide +kernel
theorem dL_isBook_107 : decode cL_isBook 107 = .ok (.iadd, 1) := by decide +kernel
theorem dL_isBook_108 : decode cL_isBook 108 = .ok (.istore_n 3, 1) := by decide +kernel
theorem dL_isBook_109 : decode cL_isBook 109 = .ok (.aload_n 0, 1) := by decide +kernel
theorem dL_isBook_110 : decode cL_isBook 110 = .ok (.iload 6, 2) := by decide +kernel
theorem dL_isBook_112 : decode cL_isBook 112 = .ok (.invokevirtual 111, 3) := by decide +kernel
theorem dL_isBook_115 : decode cL_isBook 115 = .ok (.aload_n 0, 1) := by decide +kernel
theorem dL_isBook_116 : decode cL_isBook 116 = .ok (.iload 6, 2) := by decide +kernel
theorem dL_isBook_118 : decode cL_isBook 118 = .ok (.invokevirtual 62, 3) := by decide +kernel
theorem dL_isBook_121 : decode cL_isBook 121 = .ok (.if_icmp .ne 105, 3) := by decide +kernel
theorem dL_isBook_124 : decode cL_isBook 124 = .ok (.iload 7, 2) := by decide +kernel
theorem dL_isBook_126 : decode cL_isBook 126 = .ok (.iconst (-1), 1) := by decide +kernel
theorem dL_isBook_127 : decode cL_isBook 127 = .ok (.if_icmp .eq 24, 3) := by decide +kernel
theorem dL_isBook_130 : decode cL_isBook 130 = .ok (.aload_n 0, 1) := by decide +kernel
theorem dL_isBook_131 : decode cL_isBook 131 = .ok (.iload 7, 2) := by decide +kernel
theorem dL_isBook_133 : decode cL_isBook 133 = .ok (.invokevirtual 114, 3) := by decide +kernel
theorem dL_isBook_136 : decode cL_isBook 136 = .ok (.aload_n 0, 1) := by decide +kernel
theorem dL_isBook_137 : decode cL_isBook 137 = .ok (.iload 6, 2) := by decide +kernel
theorem dL_isBook_139 : decode cL_isBook 139 = .ok (.invokevirtual 62, 3) := by decide +kernel
theorem dL_isBook_142 : decode cL_isBook 142 = .ok (.if_icmp .ne 84, 3) := by decide +kernel
theorem dL_isBook_145 : decode cL_isBook 145 = .ok (.iload 9, 2) := by decide +kernel
theorem dL_isBook_147 : decode cL_isBook 147 = .ok (.iconst (-1), 1) := by decide +kernel
theorem dL_isBook_148 : decode cL_isBook 148 = .ok (.if_icmp .ne 78, 3) := by decide +kernel
theorem dL_isBook_151 : decode cL_isBook 151 = .ok (.iload 9, 2) := by decide +kernel
theorem dL_isBook_153 : decode cL_isBook 153 = .ok (.aload_n 0, 1) := by decide +kernel
theorem dL_isBook_154 : decode cL_isBook 154 = .ok (.iload 6, 2) := by decide +kernel
theorem dL_isBook_156 : decode cL_isBook 156 = .ok (.invokevirtual 62, 3) := by decide +kernel
theorem dL_isBook_159 : decode cL_isBook 159 = .ok (.if_icmp .eq 67, 3) := by decide +kernel
theorem dL_isBook_162 : decode cL_isBook 162 = .ok (.iload 9, 2) := by decide +kernel
theorem dL_isBook_164 : decode cL_isBook 164 = .ok (.iconst (-1), 1) := by decide +kernel
theorem dL_isBook_165 : decode cL_isBook 165 = .ok (.if_icmp .eq 12, 3) := by decide +kernel
theorem dL_isBook_168 : decode cL_isBook 168 = .ok (.aload_n 2, 1) := by decide +kernel
theorem dL_isBook_169 : decode cL_isBook 169 = .ok (.iload 6, 2) := by decide +kernel
theorem dL_isBook_171 : decode cL_isBook 171 = .ok (.invokestatic 90, 3) := by decide +kernel
theorem dL_isBook_174 : decode cL_isBook 174 = .ok (.ifCond .ne 52, 3) := by decide +kernel
theorem dL_isBook_177 : decode cL_isBook 177 = .ok (.iload 8, 2) := by decide +kernel
theorem dL_isBook_179 : decode cL_isBook 179 = .ok (.iconst 3, 1) := by decide +kernel
theorem dL_isBook_180 : decode cL_isBook 180 = .ok (.if_icmp .ne 15, 3) := by decide +kernel
theorem dL_isBook_183 : decode cL_isBook 183 = .ok (.aload_n 0, 1) := by decide +kernel
theorem dL_isBook_184 : decode cL_isBook 184 = .ok (.iload 6, 2) := by decide +kernel
theorem dL_isBook_186 : decode cL_isBook 186 = .ok (.invokevirtual 74, 3) := by decide +kernel
theorem dL_isBook_189 : decode cL_isBook 189 = .ok (.ifCond .eq 37, 3) := by decide +kernel
theorem dL_isBook_192 : decode cL_isBook 192 = .ok (.goto 18, 3) := by decide +kernel
theorem dL_isBook_195 : decode cL_isBook 195 = .ok (.iload 8, 2) := by decide +kernel
theorem dL_isBook_197 : decode cL_isBook 197 = .ok (.iconst 1, 1) := by decide +kernel
theorem dL_isBook_198 : decode cL_isBook 198 = .ok (.if_icmp .eq 12, 3) := by decide +kernel
theorem dL_isBook_201 : decode cL_isBook 201 = .ok (.aload_n 0, 1) := by decide +kernel
theorem dL_isBook_202 : decode cL_isBook 202 = .ok (.iload 6, 2) := by decide +kernel
theorem dL_isBook_204 : decode cL_isBook 204 = .ok (.invokevirtual 74, 3) := by decide +kernel
theorem dL_isBook_207 : decode cL_isBook 207 = .ok (.ifCond .ne 19, 3) := by decide +kernel
theorem dL_isBook_210 : decode cL_isBook 210 = .ok (.aload_n 0, 1) := by decide +kernel
theorem dL_isBook_211 : decode cL_isBook 211 = .ok (.iload 6, 2) := by decide +kernel
theorem dL_isBook_213 : decode cL_isBook 213 = .ok (.invokevirtual 78, 3) := by decide +kernel
theorem dL_isBook_216 : decode cL_isBook 216 = .ok (.aload_n 1, 1) := by decide +kernel
theorem dL_isBook_217 : decode cL_isBook 217 = .ok (.iconst 2, 1) := by decide +kernel
theorem dL_isBook_218 : decode cL_isBook 218 = .ok (.iaload, 1) := by decide +kernel
theorem dL_isBook_219 : decode cL_isBook 219 = .ok (.if_icmp .ge 7, 3) := by decide +kernel
theorem dL_isBook_222 : decode cL_isBook 222 = .ok (.iconst 1, 1) := by decide +kernel
theorem dL_isBook_223 : decode cL_isBook 223 = .ok (.goto 4, 3) := by decide +kernel
theorem dL_isBook_226 : decode cL_isBook 226 = .ok (.iconst 0, 1) := by decide +kernel
theorem dL_isBook_227 : decode cL_isBook 227 = .ok (.istore 5, 2) := by decide +kernel
theorem dL_isBook_229 : decode cL_isBook 229 = .ok (.iinc 6 1, 3) := by decide +kernel
theorem dL_isBook_232 : decode cL_isBook 232 = .ok (.goto (-177), 3) := by decide +kernel
theorem dL_isBook_235 : decode cL_isBook 235 = .ok (.iconst 0, 1) := by decide +kernel
theorem dL_isBook_236 : decode cL_isBook 236 = .ok (.istore 6, 2) := by decide +kernel
theorem dL_isBook_238 : decode cL_isBook 238 = .ok (.iload 6, 2) := by decide +kernel
theorem dL_isBook_240 : decode cL_isBook 240 = .ok (.bipush 8, 2) := by decide +kernel
theorem dL_isBook_242 : decode cL_isBook 242 = .ok (.if_icmp .ge 20, 3) := by decide +kernel
theorem dL_isBook_245 : decode cL_isBook 245 = .ok (.iload 4, 2) := by decide +kernel
theorem dL_isBook_247 : decode cL_isBook 247 = .ok (.aload_n 0, 1) := by decide +kernel
theorem dL_isBook_248 : decode cL_isBook 248 = .ok (.iload 6, 2) := by decide +kernel
theorem dL_isBook_250 : decode cL_isBook 250 = .ok (.invokevirtual 117, 3) := by decide +kernel
theorem dL_isBook_253 : decode cL_isBook 253 = .ok (.iadd, 1) := by decide +kernel
theorem dL_isBook_254 : decode cL_isBook 254 = .ok (.istore 4, 2) := by decide +kernel
theorem dL_isBook_256 : decode cL_isBook 256 = .ok (.iinc 6 1, 3) := by decide +kernel
theorem dL_isBook_259 : decode cL_isBook 259 = .ok (.goto (-21), 3) := by decide +kernel
theorem dL_isBook_262 : decode cL_isBook 262 = .ok (.iload 5, 2) := by decide +kernel
theorem dL_isBook_264 : decode cL_isBook 264 = .ok (.ifCond .eq 23, 3) := by decide +kernel
theorem dL_isBook_267 : decode cL_isBook 267 = .ok (.aload_n 0, 1) := by decide +kernel
theorem dL_isBook_268 : decode cL_isBook 268 = .ok (.invokevirtual 120, 3) := by decide +kernel
theorem dL_isBook_271 : decode cL_isBook 271 = .ok (.iload_n 3, 1) := by decide +kernel
theorem dL_isBook_272 : decode cL_isBook 272 = .ok (.if_icmp .ne 15, 3) := by decide +kernel
theorem dL_isBook_275 : decode cL_isBook 275 = .ok (.iload 4, 2) := by decide +kernel
theorem dL_isBook_277 : decode cL_isBook 277 = .ok (.aload_n 1, 1) := by decide +kernel
theorem dL_isBook_278 : decode cL_isBook 278 = .ok (.iconst 0, 1) := by decide +kernel
theorem dL_isBook_279 : decode cL_isBook 279 = .ok (.iaload, 1) := by decide +kernel
theorem dL_isBook_280 : decode cL_isBook 280 = .ok (.if_icmp .ne 7, 3) := by decide +kernel
theorem dL_isBook_283 : decode cL_isBook 283 = .ok (.iconst 1, 1) := by decide +kernel
theorem dL_isBook_284 : decode cL_isBook 284 = .ok (.goto 4, 3) := by decide +kernel
theorem dL_isBook_287 : decode cL_isBook 287 = .ok (.iconst 0, 1) := by decide +kernel
theorem dL_isBook_288 : decode cL_isBook 288 = .ok (.ireturn, 1) := by decide +kernel
theorem dL_hands_0 : decode cL_hands 0 = .ok (.aload_n 0, 1) := by decide +kernel
theorem dL_hands_1 : decode cL_hands 1 = .ok (.iload_n 2, 1) := by decide +kernel
theorem dL_hands_2 : decode cL_hands 2 = .ok (.invokevirtual 62, 3) := by decide +kernel
theorem dL_hands_5 : decode cL_hands 5 = .ok (.istore 7, 2) := by decide +kernel
theorem dL_hands_7 : decode cL_hands 7 = .ok (.aload_n 0, 1) := by decide +kernel
theorem dL_hands_8 : decode cL_hands 8 = .ok (.iload_n 2, 1) := by decide +kernel
theorem dL_hands_9 : decode cL_hands 9 = .ok (.invokevirtual 71, 3) := by decide +kernel
theorem dL_hands_12 : decode cL_hands 12 = .ok (.istore 8, 2) := by decide +kernel
theorem dL_hands_14 : decode cL_hands 14 = .ok (.iload_n 1, 1) := by decide +kernel
theorem dL_hands_15 : decode cL_hands 15 = .ok (.ifCond .ne 138, 3) := by decide +kernel
theorem dL_hands_18 : decode cL_hands 18 = .ok (.aload_n 0, 1) := by decide +kernel
theorem dL_hands_19 : decode cL_hands 19 = .ok (.aload 6, 2) := by decide +kernel
theorem dL_hands_21 : decode cL_hands 21 = .ok (.iload_n 2, 1) := by decide +kernel
theorem dL_hands_22 : decode cL_hands 22 = .ok (.invokestatic 123, 3) := by decide +kernel
theorem dL_hands_25 : decode cL_hands 25 = .ok (.ifCond .eq 16, 3) := by decide +kernel
theorem dL_hands_28 : decode cL_hands 28 = .ok (.aload_n 0, 1) := by decide +kernel
theorem dL_hands_29 : decode cL_hands 29 = .ok (.iload_n 2, 1) := by decide +kernel
theorem dL_hands_30 : decode cL_hands 30 = .ok (.invokevirtual 65, 3) := by decide +kernel
theorem dL_hands_33 : decode cL_hands 33 = .ok (.iconst (-1), 1) := by decide +kernel
theorem dL_hands_34 : decode cL_hands 34 = .ok (.if_icmp .ne 7, 3) := by decide +kernel
theorem dL_hands_37 : decode cL_hands 37 = .ok (.iconst 1, 1) := by decide +kernel
theorem dL_hands_38 : decode cL_hands 38 = .ok (.goto 4, 3) := by decide +kernel
theorem dL_hands_41 : decode cL_hands 41 = .ok (.iconst 0, 1) := by decide +kernel
theorem dL_hands_42 : decode cL_hands 42 = .ok (.istore 9, 2) := by decide +kernel
theorem dL_hands_44 : decode cL_hands 44 = .ok (.aload_n 0, 1) := by decide +kernel
theorem dL_hands_45 : decode cL_hands 45 = .ok (.iconst 0, 1) := by decide +kernel
theorem dL_hands_46 : decode cL_hands 46 = .ok (.iload_n 2, 1) := by decide +kernel
theorem dL_hands_47 : decode cL_hands 47 = .ok (.iload_n 3, 1) := by decide +kernel
theorem dL_hands_48 : decode cL_hands 48 = .ok (.iconst 0, 1) := by decide +kernel
theorem dL_hands_49 : decode cL_hands 49 = .ok (.invokestatic 127, 3) := by decide +kernel
theorem dL_hands_52 : decode cL_hands 52 = .ok (.istore 10, 2) := by decide +kernel
theorem dL_hands_54 : decode cL_hands 54 = .ok (.iload_n 3, 1) := by decide +kernel
theorem dL_hands_55 : decode cL_hands 55 = .ok (.iload 7, 2) := by decide +kernel
theorem dL_hands_57 : decode cL_hands 57 = .ok (.if_icmp .ne 30, 3) := by decide +kernel
theorem dL_hands_60 : decode cL_hands 60 = .ok (.iload 10, 2) := by decide +kernel
theorem dL_hands_62 : decode cL_hands 62 = .ok (.bipush (-9), 2) := by decide +kernel
theorem dL_hands_64 : decode cL_hands 64 = .ok (.if_icmp .ne 19, 3) := by decide +kernel
theorem dL_hands_67 : decode cL_hands 67 = .ok (.aload_n 0, 1) := by decide +kernel
theorem dL_hands_68 : decode cL_hands 68 = .ok (.aload 4, 2) := by decide +kernel
theorem dL_hands_70 : decode cL_hands 70 = .ok (.aload 5, 2) := by decide +kernel
theorem dL_hands_72 : decode cL_hands 72 = .ok (.lconst 0, 1) := by decide +kernel
theorem dL_hands_73 : decode cL_hands 73 = .ok (.invokestatic 131, 3) := by decide +kernel
theorem dL_hands_76 : decode cL_hands 76 = .ok (.ifCond .eq 7, 3) := by decide +kernel
theorem dL_hands_79 : decode cL_hands 79 = .ok (.iconst 1, 1) := by decide +kernel
theorem dL_hands_80 : decode cL_hands 80 = .ok (.goto 72, 3) := by decide +kernel
theorem dL_hands_83 : decode cL_hands 83 = .ok (.iconst 0, 1) := by decide +kernel
theorem dL_hands_84 : decode cL_hands 84 = .ok (.goto 68, 3) := by decide +kernel
theorem dL_hands_87 : decode cL_hands 87 = .ok (.iload 10, 2) := by decide +kernel
theorem dL_hands_89 : decode cL_hands 89 = .ok (.iload 9, 2) := by decide +kernel
theorem dL_hands_91 : decode cL_hands 91 = .ok (.ifCond .eq 8, 3) := by decide +kernel
theorem dL_hands_94 : decode cL_hands 94 = .ok (.iload 7, 2) := by decide +kernel
theorem dL_hands_96 : decode cL_hands 96 = .ok (.goto 5, 3) := by decide +kernel
theorem dL_hands_99 : decode cL_hands 99 = .ok (.bipush (-8), 2) := by decide +kernel
theorem dL_hands_101 : decode cL_hands 101 = .ok (.if_icmp .ne 50, 3) := by decide +kernel
theorem dL_hands_104 : decode cL_hands 104 = .ok (.aload_n 0, 1) := by decide +kernel
theorem dL_hands_105 : decode cL_hands 105 = .ok (.iload_n 2, 1) := by decide +kernel
theorem dL_hands_106 : decode cL_hands 106 = .ok (.invokevirtual 71, 3) := by decide +kernel
theorem dL_hands_109 : decode cL_hands 109 = .ok (.iload 9, 2) := by decide +kernel
theorem dL_hands_111 : decode cL_hands 111 = .ok (.ifCond .eq 7, 3) := by decide +kernel
theorem dL_hands_114 : decode cL_hands 114 = .ok (.iload_n 3, 1) := by decide +kernel
theorem dL_hands_115 : decode cL_hands 115 = .ok (.goto 5, 3) := by decide +kernel
theorem dL_hands_118 : decode cL_hands 118 = .ok (.iload 8, 2) := by decide +kernel
theorem dL_hands_120 : decode cL_hands 120 = .ok (.if_icmp .ne 31, 3) := by decide +kernel
theorem dL_hands_123 : decode cL_hands 123 = .ok (.aload_n 0, 1) := by decide +kernel
theorem dL_hands_124 : decode cL_hands 124 = .ok (.iload_n 2, 1) := by decide +kernel
theorem dL_hands_125 : decode cL_hands 125 = .ok (.invokevirtual 62, 3) := by decide +kernel
theorem dL_hands_128 : decode cL_hands 128 = .ok (.iload 7, 2) := by decide +kernel
theorem dL_hands_130 : decode cL_hands 130 = .ok (.if_icmp .ne 21, 3) := by decide +kernel
theorem dL_hands_133 : decode cL_hands 133 = .ok (.aload_n 0, 1) := by decide +kernel
theorem dL_hands_134 : decode cL_hands 134 = .ok (.aload 4, 2) := by decide +kernel
theorem dL_hands_136 : decode cL_hands 136 = .ok (.aload 5, 2) := by decide +kernel
theorem dL_hands_138 : decode cL_hands 138 = .ok (.lconst 1, 1) := by decide +kernel
theorem dL_hands_139 : decode cL_hands 139 = .ok (.iload_n 2, 1) := by decide +kernel
theorem dL_hands_140 : decode cL_hands 140 = .ok (.lshl, 1) := by decide +kernel
theorem dL_hands_141 : decode cL_hands 141 = .ok (.invokestatic 131, 3) := by decide +kernel
theorem dL_hands_144 : decode cL_hands 144 = .ok (.ifCond .eq 7, 3) := by decide +kernel
theorem dL_hands_147 : decode cL_hands 147 = .ok (.iconst 1, 1) := by decide +kernel
theorem dL_hands_148 : decode cL_hands 148 = .ok (.goto 4, 3) := by decide +kernel
theorem dL_hands_151 : decode cL_hands 151 = .ok (.iconst 0, 1) := by decide +kernel
theorem dL_hands_152 : decode cL_hands 152 = .ok (.ireturn, 1) := by decide +kernel
theorem dL_hands_153 : decode cL_hands 153 = .ok (.iload 8, 2) := by decide +kernel
theorem dL_hands_155 : decode cL_hands 155 = .ok (.ifCond .lt 7, 3) := by decide +kernel
theorem dL_hands_158 : decode cL_hands 158 = .ok (.iconst 1, 1) := by decide +kernel
theorem dL_hands_159 : decode cL_hands 159 = .ok (.goto 4, 3) := by decide +kernel
theorem dL_hands_162 : decode cL_hands 162 = .ok (.iconst 0, 1) := by decide +kernel
theorem dL_hands_163 : decode cL_hands 163 = .ok (.istore 9, 2) := by decide +kernel
theorem dL_hands_165 : decode cL_hands 165 = .ok (.iload_n 3, 1) := by decide +kernel
theorem dL_hands_166 : decode cL_hands 166 = .ok (.iconst 2, 1) := by decide +kernel
theorem dL_hands_167 : decode cL_hands 167 = .ok (.irem, 1) := by decide +kernel
theorem dL_hands_168 : decode cL_hands 168 = .ok (.istore 10, 2) := by decide +kernel
theorem dL_hands_170 : decode cL_hands 170 = .ok (.aload_n 0, 1) := by decide +kernel
theorem dL_hands_171 : decode cL_hands 171 = .ok (.iconst 1, 1) := by decide +kernel
theorem dL_hands_172 : decode cL_hands 172 = .ok (.iload_n 2, 1) := by decide +kernel
theorem dL_hands_173 : decode cL_hands 173 = .ok (.iload 10, 2) := by decide +kernel
theorem dL_hands_175 : decode cL_hands 175 = .ok (.iconst 0, 1) := by decide +kernel
theorem dL_hands_176 : decode cL_hands 176 = .ok (.invokestatic 127, 3) := by decide +kernel
theorem dL_hands_179 : decode cL_hands 179 = .ok (.istore 11, 2) := by decide +kernel
theorem dL_hands_181 : decode cL_hands 181 = .ok (.aload 4, 2) := by decide +kernel
theorem dL_hands_183 : decode cL_hands 183 = .ok (.iconst 1, 1) := by decide +kernel
theorem dL_hands_184 : decode cL_hands 184 = .ok (.dup2, 1) := by decide +kernel
theorem dL_hands_185 : decode cL_hands 185 = .ok (.iaload, 1) := by decide +kernel
theorem dL_hands_186 : decode cL_hands 186 = .ok (.iload 9, 2) := by decide +kernel
theorem dL_hands_188 : decode cL_hands 188 = .ok (.ifCond .eq 13, 3) := by decide +kernel
theorem dL_hands_191 : decode cL_hands 191 = .ok (.iload 10, 2) := by decide +kernel
theorem dL_hands_193 : decode cL_hands 193 = .ok (.iconst 1, 1) := by decide +kernel
theorem dL_hands_194 : decode cL_hands 194 = .ok (.if_icmp .ne 7, 3) := by decide +kernel
theorem dL_hands_197 : decode cL_hands 197 = .ok (.iconst 1, 1) := by decide +kernel
theorem dL_hands_198 : decode cL_hands 198 = .ok (.goto 4, 3) := by decide +kernel
theorem dL_hands_201 : decode cL_hands 201 = .ok (.iconst 0, 1) := by decide +kernel
theorem dL_hands_202 : decode cL_hands 202 = .ok (.iadd, 1) := by decide +kernel
theorem dL_hands_203 : decode cL_hands 203 = .ok (.iastore, 1) := by decide +kernel
theorem dL_hands_204 : decode cL_hands 204 = .ok (.iload 9, 2) := by decide +kernel
theorem dL_hands_206 : decode cL_hands 206 = .ok (.ifCond .eq 14, 3) := by decide +kernel
theorem dL_hands_209 : decode cL_hands 209 = .ok (.iload 10, 2) := by decide +kernel
theorem dL_hands_211 : decode cL_hands 211 = .ok (.iconst 1, 1) := by decide +kernel
theorem dL_hands_212 : decode cL_hands 212 = .ok (.if_icmp .ne 8, 3) := by decide +kernel
theorem dL_hands_215 : decode cL_hands 215 = .ok (.iload 8, 2) := by decide +kernel
theorem dL_hands_217 : decode cL_hands 217 = .ok (.goto 5, 3) := by decide +kernel
theorem dL_hands_220 : decode cL_hands 220 = .ok (.iload 7, 2) := by decide +kernel
theorem dL_hands_222 : decode cL_hands 222 = .ok (.istore 12, 2) := by decide +kernel
theorem dL_hands_224 : decode cL_hands 224 = .ok (.iload 11, 2) := by decide +kernel
theorem dL_hands_226 : decode cL_hands 226 = .ok (.iload 9, 2) := by decide +kernel
theorem dL_hands_228 : decode cL_hands 228 = .ok (.ifCond .eq 8, 3) := by decide +kernel
theorem dL_hands_231 : decode cL_hands 231 = .ok (.iload 12, 2) := by decide +kernel
theorem dL_hands_233 : decode cL_hands 233 = .ok (.goto 5, 3) := by decide +kernel
theorem dL_hands_236 : decode cL_hands 236 = .ok (.bipush (-8), 2) := by decide +kernel
theorem dL_hands_238 : decode cL_hands 238 = .ok (.if_icmp .ne 40, 3) := by decide +kernel
theorem dL_hands_241 : decode cL_hands 241 = .ok (.aload_n 0, 1) := by decide +kernel
theorem dL_hands_242 : decode cL_hands 242 = .ok (.iload_n 2, 1) := by decide +kernel
theorem dL_hands_243 : decode cL_hands 243 = .ok (.invokevirtual 62, 3) := by decide +kernel
theorem dL_hands_246 : decode cL_hands 246 = .ok (.iload 12, 2) := by decide +kernel
theorem dL_hands_248 : decode cL_hands 248 = .ok (.if_icmp .ne 30, 3) := by decide +kernel
theorem dL_hands_251 : decode cL_hands 251 = .ok (.aload_n 0, 1) := by decide +kernel
theorem dL_hands_252 : decode cL_hands 252 = .ok (.iload_n 2, 1) := by decide +kernel
theorem dL_hands_253 : decode cL_hands 253 = .ok (.invokevirtual 71, 3) := by decide +kernel
theorem dL_hands_256 : decode cL_hands 256 = .ok (.iconst (-1), 1) := by decide +kernel
theorem dL_hands_257 : decode cL_hands 257 = .ok (.if_icmp .ne 21, 3) := by decide +kernel
theorem dL_hands_260 : decode cL_hands 260 = .ok (.aload_n 0, 1) := by decide +kernel
theorem dL_hands_261 : decode cL_hands 261 = .ok (.aload 4, 2) := by decide +kernel
theorem dL_hands_263 : decode cL_hands 263 = .ok (.aload 5, 2) := by decide +kernel
theorem dL_hands_265 : decode cL_hands 265 = .ok (.lconst 1, 1) := by decide +kernel
theorem dL_hands_266 : decode cL_hands 266 = .ok (.iload_n 2, 1) := by decide +kernel
theorem dL_hands_267 : decode cL_hands 267 = .ok (.lshl, 1) := by decide +kernel
theorem dL_hands_268 : decode cL_hands 268 = .ok (.invokestatic 131, 3) := by decide +kernel
theorem dL_hands_271 : decode cL_hands 271 = .ok (.ifCond .eq 7, 3) := by decide +kernel
theorem dL_hands_274 : decode cL_hands 274 = .ok (.iconst 1, 1) := by decide +kernel
theorem dL_hands_275 : decode cL_hands 275 = .ok (.goto 4, 3) := by decide +kernel
theorem dL_hands_278 : decode cL_hands 278 = .ok (.iconst 0, 1) := by decide +kernel
theorem dL_hands_279 : decode cL_hands 279 = .ok (.ireturn, 1) := by decide +kernel
theorem dL_packs_0 : decode cL_packs 0 = .ok (.aload_n 0, 1) := by decide +kernel
theorem dL_packs_1 : decode cL_packs 1 = .ok (.iload_n 2, 1) := by decide +kernel
theorem dL_packs_2 : decode cL_packs 2 = .ok (.invokevirtual 65, 3) := by decide +kernel
theorem dL_packs_5 : decode cL_packs 5 = .ok (.istore 7, 2) := by decide +kernel
theorem dL_packs_7 : decode cL_packs 7 = .ok (.iload_n 1, 1) := by decide +kernel
theorem dL_packs_8 : decode cL_packs 8 = .ok (.iconst 2, 1) := by decide +kernel
theorem dL_packs_9 : decode cL_packs 9 = .ok (.if_icmp .ne 121, 3) := by decide +kernel
theorem dL_packs_12 : decode cL_packs 12 = .ok (.aload_n 0, 1) := by decide +kernel
theorem dL_packs_13 : decode cL_packs 13 = .ok (.aload 6, 2) := by decide +kernel
theorem dL_packs_15 : decode cL_packs 15 = .ok (.iload_n 2, 1) := by decide +kernel
theorem dL_packs_16 : decode cL_packs 16 = .ok (.invokestatic 123, 3) := by decide +kernel
theorem dL_packs_19 : decode cL_packs 19 = .ok (.ifCond .eq 35, 3) := by decide +kernel
theorem dL_packs_22 : decode cL_packs 22 = .ok (.iload 7, 2) := by decide +kernel
theorem dL_packs_24 : decode cL_packs 24 = .ok (.iconst (-1), 1) := by decide +kernel
theorem dL_packs_25 : decode cL_packs 25 = .ok (.if_icmp .ne 29, 3) := by decide +kernel
theorem dL_packs_28 : decode cL_packs 28 = .ok (.aload_n 0, 1) := by decide +kernel
theorem dL_packs_29 : decode cL_packs 29 = .ok (.iload_n 3, 1) := by decide +kernel
theorem dL_packs_30 : decode cL_packs 30 = .ok (.invokevirtual 87, 3) := by decide +kernel
theorem dL_packs_33 : decode cL_packs 33 = .ok (.iconst (-1), 1) := by decide +kernel
theorem dL_packs_34 : decode cL_packs 34 = .ok (.if_icmp .ne 20, 3) := by decide +kernel
theorem dL_packs_37 : decode cL_packs 37 = .ok (.aload_n 0, 1) := by decide +kernel
theorem dL_packs_38 : decode cL_packs 38 = .ok (.iload_n 3, 1) := by decide +kernel
theorem dL_packs_39 : decode cL_packs 39 = .ok (.invokevirtual 114, 3) := by decide +kernel
theorem dL_packs_42 : decode cL_packs 42 = .ok (.aload_n 0, 1) := by decide +kernel
theorem dL_packs_43 : decode cL_packs 43 = .ok (.iload_n 2, 1) := by decide +kernel
theorem dL_packs_44 : decode cL_packs 44 = .ok (.invokevirtual 62, 3) := by decide +kernel
theorem dL_packs_47 : decode cL_packs 47 = .ok (.if_icmp .ne 7, 3) := by decide +kernel
theorem dL_packs_50 : decode cL_packs 50 = .ok (.iconst 1, 1) := by decide +kernel
theorem dL_packs_51 : decode cL_packs 51 = .ok (.goto 4, 3) := by decide +kernel
theorem dL_packs_54 : decode cL_packs 54 = .ok (.iconst 0, 1) := by decide +kernel
theorem dL_packs_55 : decode cL_packs 55 = .ok (.istore 8, 2) := by decide +kernel
theorem dL_packs_57 : decode cL_packs 57 = .ok (.aload_n 0, 1) := by decide +kernel
theorem dL_packs_58 : decode cL_packs 58 = .ok (.aload 4, 2) := by decide +kernel
theorem dL_packs_60 : decode cL_packs 60 = .ok (.iload_n 3, 1) := by decide +kernel
theorem dL_packs_61 : decode cL_packs 61 = .ok (.invokestatic 135, 3) := by decide +kernel
theorem dL_packs_64 : decode cL_packs 64 = .ok (.istore 9, 2) := by decide +kernel
theorem dL_packs_66 : decode cL_packs 66 = .ok (.aload_n 0, 1) := by decide +kernel
theorem dL_packs_67 : decode cL_packs 67 = .ok (.iconst 2, 1) := by decide +kernel
theorem dL_packs_68 : decode cL_packs 68 = .ok (.iload_n 2, 1) := by decide +kernel
theorem dL_packs_69 : decode cL_packs 69 = .ok (.iload_n 3, 1) := by decide +kernel
theorem dL_packs_70 : decode cL_packs 70 = .ok (.iconst 0, 1) := by decide +kernel
theorem dL_packs_71 : decode cL_packs 71 = .ok (.invokestatic 127, 3) := by decide +kernel
theorem dL_packs_74 : decode cL_packs 74 = .ok (.iload 8, 2) := by decide +kernel
theorem dL_packs_76 : decode cL_packs 76 = .ok (.ifCond .eq 10, 3) := by decide +kernel
theorem dL_packs_79 : decode cL_packs 79 = .ok (.iload 9, 2) := by decide +kernel
theorem dL_packs_81 : decode cL_packs 81 = .ok (.iconst 1, 1) := by decide +kernel
theorem dL_packs_82 : decode cL_packs 82 = .ok (.iadd, 1) := by decide +kernel
theorem dL_packs_83 : decode cL_packs 83 = .ok (.goto 5, 3) := by decide +kernel
theorem dL_packs_86 : decode cL_packs 86 = .ok (.bipush (-8), 2) := by decide +kernel
theorem dL_packs_88 : decode cL_packs 88 = .ok (.if_icmp .ne 40, 3) := by decide +kernel
theorem dL_packs_91 : decode cL_packs 91 = .ok (.aload_n 0, 1) := by decide +kernel
theorem dL_packs_92 : decode cL_packs 92 = .ok (.iload_n 2, 1) := by decide +kernel
theorem dL_packs_93 : decode cL_packs 93 = .ok (.invokevirtual 65, 3) := by decide +kernel
theorem dL_packs_96 : decode cL_packs 96 = .ok (.iload 8, 2) := by decide +kernel
theorem dL_packs_98 : decode cL_packs 98 = .ok (.ifCond .eq 7, 3) := by decide +kernel
theorem dL_packs_101 : decode cL_packs 101 = .ok (.iload_n 3, 1) := by decide +kernel
theorem dL_packs_102 : decode cL_packs 102 = .ok (.goto 5, 3) := by decide +kernel
theorem dL_packs_105 : decode cL_packs 105 = .ok (.iload 7, 2) := by decide +kernel
theorem dL_packs_107 : decode cL_packs 107 = .ok (.if_icmp .ne 21, 3) := by decide +kernel
theorem dL_packs_110 : decode cL_packs 110 = .ok (.aload_n 0, 1) := by decide +kernel
theorem dL_packs_111 : decode cL_packs 111 = .ok (.aload 4, 2) := by decide +kernel
theorem dL_packs_113 : decode cL_packs 113 = .ok (.aload 5, 2) := by decide +kernel
theorem dL_packs_115 : decode cL_packs 115 = .ok (.lconst 1, 1) := by decide +kernel
theorem dL_packs_116 : decode cL_packs 116 = .ok (.iload_n 2, 1) := by decide +kernel
theorem dL_packs_117 : decode cL_packs 117 = .ok (.lshl, 1) := by decide +kernel
theorem dL_packs_118 : decode cL_packs 118 = .ok (.invokestatic 131, 3) := by decide +kernel
theorem dL_packs_121 : decode cL_packs 121 = .ok (.ifCond .eq 7, 3) := by decide +kernel
theorem dL_packs_124 : decode cL_packs 124 = .ok (.iconst 1, 1) := by decide +kernel
theorem dL_packs_125 : decode cL_packs 125 = .ok (.goto 4, 3) := by decide +kernel
theorem dL_packs_128 : decode cL_packs 128 = .ok (.iconst 0, 1) := by decide +kernel
theorem dL_packs_129 : decode cL_packs 129 = .ok (.ireturn, 1) := by decide +kernel
theorem dL_packs_130 : decode cL_packs 130 = .ok (.iload 7, 2) := by decide +kernel
theorem dL_packs_132 : decode cL_packs 132 = .ok (.ifCond .lt 24, 3) := by decide +kernel
theorem dL_packs_135 : decode cL_packs 135 = .ok (.aload 6, 2) := by decide +kernel
theorem dL_packs_137 : decode cL_packs 137 = .ok (.iload_n 2, 1) := by decide +kernel
theorem dL_packs_138 : decode cL_packs 138 = .ok (.invokestatic 90, 3) := by decide +kernel
theorem dL_packs_141 : decode cL_packs 141 = .ok (.ifCond .ne 15, 3) := by decide +kernel
theorem dL_packs_144 : decode cL_packs 144 = .ok (.aload_n 0, 1) := by decide +kernel
theorem dL_packs_145 : decode cL_packs 145 = .ok (.iload_n 2, 1) := by decide +kernel
theorem dL_packs_146 : decode cL_packs 146 = .ok (.invokestatic 94, 3) := by decide +kernel
theorem dL_packs_149 : decode cL_packs 149 = .ok (.ifCond .ne 7, 3) := by decide +kernel
theorem dL_packs_152 : decode cL_packs 152 = .ok (.iconst 1, 1) := by decide +kernel
theorem dL_packs_153 : decode cL_packs 153 = .ok (.goto 4, 3) := by decide +kernel
theorem dL_packs_156 : decode cL_packs 156 = .ok (.iconst 0, 1) := by decide +kernel
theorem dL_packs_157 : decode cL_packs 157 = .ok (.istore 8, 2) := by decide +kernel
theorem dL_packs_159 : decode cL_packs 159 = .ok (.aload_n 0, 1) := by decide +kernel
theorem dL_packs_160 : decode cL_packs 160 = .ok (.iconst 3, 1) := by decide +kernel
theorem dL_packs_161 : decode cL_packs 161 = .ok (.iload_n 2, 1) := by decide +kernel
theorem dL_packs_162 : decode cL_packs 162 = .ok (.iconst 0, 1) := by decide +kernel
theorem dL_packs_163 : decode cL_packs 163 = .ok (.iconst 0, 1) := by decide +kernel
theorem dL_packs_164 : decode cL_packs 164 = .ok (.invokestatic 127, 3) := by decide +kernel
theorem dL_packs_167 : decode cL_packs 167 = .ok (.iload 8, 2) := by decide +kernel
theorem dL_packs_169 : decode cL_packs 169 = .ok (.ifCond .eq 8, 3) := by decide +kernel
theorem dL_packs_172 : decode cL_packs 172 = .ok (.iload 7, 2) := by decide +kernel
theorem dL_packs_174 : decode cL_packs 174 = .ok (.goto 5, 3) := by decide +kernel
theorem dL_packs_177 : decode cL_packs 177 = .ok (.bipush (-8), 2) := by decide +kernel
theorem dL_packs_179 : decode cL_packs 179 = .ok (.if_icmp .ne 40, 3) := by decide +kernel
theorem dL_packs_182 : decode cL_packs 182 = .ok (.aload_n 0, 1) := by decide +kernel
theorem dL_packs_183 : decode cL_packs 183 = .ok (.iload_n 2, 1) := by decide +kernel
theorem dL_packs_184 : decode cL_packs 184 = .ok (.invokevirtual 65, 3) := by decide +kernel
theorem dL_packs_187 : decode cL_packs 187 = .ok (.iload 8, 2) := by decide +kernel
theorem dL_packs_189 : decode cL_packs 189 = .ok (.ifCond .eq 7, 3) := by decide +kernel
theorem dL_packs_192 : decode cL_packs 192 = .ok (.iconst (-1), 1) := by decide +kernel
theorem dL_packs_193 : decode cL_packs 193 = .ok (.goto 5, 3) := by decide +kernel
theorem dL_packs_196 : decode cL_packs 196 = .ok (.iload 7, 2) := by decide +kernel
theorem dL_packs_198 : decode cL_packs 198 = .ok (.if_icmp .ne 21, 3) := by decide +kernel
theorem dL_packs_201 : decode cL_packs 201 = .ok (.aload_n 0, 1) := by decide +kernel
theorem dL_packs_202 : decode cL_packs 202 = .ok (.aload 4, 2) := by decide +kernel
theorem dL_packs_204 : decode cL_packs 204 = .ok (.aload 5, 2) := by decide +kernel
theorem dL_packs_206 : decode cL_packs 206 = .ok (.lconst 1, 1) := by decide +kernel
theorem dL_packs_207 : decode cL_packs 207 = .ok (.iload_n 2, 1) := by decide +kernel
theorem dL_packs_208 : decode cL_packs 208 = .ok (.lshl, 1) := by decide +kernel
theorem dL_packs_209 : decode cL_packs 209 = .ok (.invokestatic 131, 3) := by decide +kernel
theorem dL_packs_212 : decode cL_packs 212 = .ok (.ifCond .eq 7, 3) := by decide +kernel
theorem dL_packs_215 : decode cL_packs 215 = .ok (.iconst 1, 1) := by decide +kernel
theorem dL_packs_216 : decode cL_packs 216 = .ok (.goto 4, 3) := by decide +kernel
theorem dL_packs_219 : decode cL_packs 219 = .ok (.iconst 0, 1) := by decide +kernel
theorem dL_packs_220 : decode cL_packs 220 = .ok (.ireturn, 1) := by decide +kernel
theorem dL_works_0 : decode cL_works 0 = .ok (.aload_n 0, 1) := by decide +kernel
theorem dL_works_1 : decode cL_works 1 = .ok (.iload_n 2, 1) := by decide +kernel
theorem dL_works_2 : decode cL_works 2 = .ok (.invokevirtual 68, 3) := by decide +kernel
theorem dL_works_5 : decode cL_works 5 = .ok (.istore 10, 2) := by decide +kernel
theorem dL_works_7 : decode cL_works 7 = .ok (.aload_n 0, 1) := by decide +kernel
theorem dL_works_8 : decode cL_works 8 = .ok (.iload_n 2, 1) := by decide +kernel
theorem dL_works_9 : decode cL_works 9 = .ok (.invokevirtual 62, 3) := by decide +kernel
theorem dL_works_12 : decode cL_works 12 = .ok (.istore 11, 2) := by decide +kernel
theorem dL_works_14 : decode cL_works 14 = .ok (.aload_n 0, 1) := by decide +kernel
theorem dL_works_15 : decode cL_works 15 = .ok (.aload 8, 2) := by decide +kernel
theorem dL_works_17 : decode cL_works 17 = .ok (.iload_n 2, 1) := by decide +kernel
theorem dL_works_18 : decode cL_works 18 = .ok (.invokestatic 123, 3) := by decide +kernel
theorem dL_works_21 : decode cL_works 21 = .ok (.istore 12, 2) := by decide +kernel
theorem dL_works_23 : decode cL_works 23 = .ok (.aload_n 0, 1) := by decide +kernel
theorem dL_works_24 : decode cL_works 24 = .ok (.iload_n 2, 1) := by decide +kernel
theorem dL_works_25 : decode cL_works 25 = .ok (.invokevirtual 74, 3) := by decide +kernel
theorem dL_works_28 : decode cL_works 28 = .ok (.istore 13, 2) := by decide +kernel
theorem dL_works_30 : decode cL_works 30 = .ok (.iload_n 1, 1) := by decide +kernel
theorem dL_works_31 : decode cL_works 31 = .ok (.iconst 4, 1) := by decide +kernel
theorem dL_works_32 : decode cL_works 32 = .ok (.if_icmp .ne 17, 3) := by decide +kernel
theorem dL_works_35 : decode cL_works 35 = .ok (.aload_n 0, 1) := by decide +kernel
theorem dL_works_36 : decode cL_works 36 = .ok (.iconst 4, 1) := by decide +kernel
theorem dL_works_37 : decode cL_works 37 = .ok (.iload_n 2, 1) := by decide +kernel
theorem dL_works_38 : decode cL_works 38 = .ok (.iload_n 3, 1) := by decide +kernel
theorem dL_works_39 : decode cL_works 39 = .ok (.iconst 3, 1) := by decide +kernel
theorem dL_works_40 : decode cL_works 40 = .ok (.irem, 1) := by decide +kernel
theorem dL_works_41 : decode cL_works 41 = .ok (.iload 4, 2) := by decide +kernel
theorem dL_works_43 : decode cL_works 43 = .ok (.invokestatic 127, 3) := by decide +kernel
theorem dL_works_46 : decode cL_works 46 = .ok (.goto 32, 3) := by decide +kernel
theorem dL_works_49 : decode cL_works 49 = .ok (.iload_n 1, 1) := by decide +kernel
theorem dL_works_50 : decode cL_works 50 = .ok (.iconst 5, 1) := by decide +kernel
theorem dL_works_51 : decode cL_works 51 = .ok (.if_icmp .ne 15, 3) := by decide +kernel
theorem dL_works_54 : decode cL_works 54 = .ok (.aload_n 0, 1) := by decide +kernel
theorem dL_works_55 : decode cL_works 55 = .ok (.iconst 5, 1) := by decide +kernel
theorem dL_works_56 : decode cL_works 56 = .ok (.iload_n 2, 1) := by decide +kernel
theorem dL_works_57 : decode cL_works 57 = .ok (.iload 4, 2) := by decide +kernel
theorem dL_works_59 : decode cL_works 59 = .ok (.iconst 0, 1) := by decide +kernel
theorem dL_works_60 : decode cL_works 60 = .ok (.invokestatic 127, 3) := by decide +kernel
theorem dL_works_63 : decode cL_works 63 = .ok (.goto 15, 3) := by decide +kernel
theorem dL_works_66 : decode cL_works 66 = .ok (.aload_n 0, 1) := by decide +kernel
theorem dL_works_67 : decode cL_works 67 = .ok (.bipush 6, 2) := by decide +kernel
theorem dL_works_69 : decode cL_works 69 = .ok (.iload_n 2, 1) := by decide +kernel
theorem dL_works_70 : decode cL_works 70 = .ok (.iload 4, 2) := by decide +kernel
theorem dL_works_72 : decode cL_works 72 = .ok (.iload_n 3, 1) := by decide +kernel
theorem dL_works_73 : decode cL_works 73 = .ok (.iconst 3, 1) := by decide +kernel
theorem dL_works_74 : decode cL_works 74 = .ok (.irem, 1) := by decide +kernel
theorem dL_works_75 : decode cL_works 75 = .ok (.invokestatic 127, 3) := by decide +kernel
theorem dL_works_78 : decode cL_works 78 = .ok (.istore 14, 2) := by decide +kernel
theorem dL_works_80 : decode cL_works 80 = .ok (.iload_n 1, 1) := by decide +kernel
theorem dL_works_81 : decode cL_works 81 = .ok (.bipush 6, 2) := by decide +kernel
theorem dL_works_83 : decode cL_works 83 = .ok (.if_icmp .ne 165, 3) := by decide +kernel
theorem dL_works_86 : decode cL_works 86 = .ok (.iload 10, 2) := by decide +kernel
theorem dL_works_88 : decode cL_works 88 = .ok (.iconst 1, 1) := by decide +kernel
theorem dL_works_89 : decode cL_works 89 = .ok (.if_icmp .ne 16, 3) := by decide +kernel
theorem dL_works_92 : decode cL_works 92 = .ok (.aload 9, 2) := by decide +kernel
theorem dL_works_94 : decode cL_works 94 = .ok (.iload_n 2, 1) := by decide +kernel
theorem dL_works_95 : decode cL_works 95 = .ok (.iaload, 1) := by decide +kernel
theorem dL_works_96 : decode cL_works 96 = .ok (.iload 4, 2) := by decide +kernel
theorem dL_works_98 : decode cL_works 98 = .ok (.if_icmp .ne 7, 3) := by decide +kernel
theorem dL_works_101 : decode cL_works 101 = .ok (.iconst 1, 1) := by decide +kernel
theorem dL_works_102 : decode cL_works 102 = .ok (.goto 4, 3) := by decide +kernel
theorem dL_works_105 : decode cL_works 105 = .ok (.iconst 0, 1) := by decide +kernel
theorem dL_works_106 : decode cL_works 106 = .ok (.istore 15, 2) := by decide +kernel
theorem dL_works_108 : decode cL_works 108 = .ok (.iload 12, 2) := by decide +kernel
theorem dL_works_110 : decode cL_works 110 = .ok (.ifCond .eq 13, 3) := by decide +kernel
theorem dL_works_113 : decode cL_works 113 = .ok (.iload 10, 2) := by decide +kernel
theorem dL_works_115 : decode cL_works 115 = .ok (.iconst 1, 1) := by decide +kernel
theorem dL_works_116 : decode cL_works 116 = .ok (.if_icmp .ne 7, 3) := by decide +kernel
theorem dL_works_119 : decode cL_works 119 = .ok (.iconst 1, 1) := by decide +kernel
theorem dL_works_120 : decode cL_works 120 = .ok (.goto 4, 3) := by decide +kernel
theorem dL_works_123 : decode cL_works 123 = .ok (.iconst 0, 1) := by decide +kernel
theorem dL_works_124 : decode cL_works 124 = .ok (.istore 16, 2) := by decide +kernel
theorem dL_works_126 : decode cL_works 126 = .ok (.iload_n 3, 1) := by decide +kernel
theorem dL_works_127 : decode cL_works 127 = .ok (.iconst 3, 1) := by decide +kernel
theorem dL_works_128 : decode cL_works 128 = .ok (.irem, 1) := by decide +kernel
theorem dL_works_129 : decode cL_works 129 = .ok (.ifCond .le 7, 3) := by decide +kernel
theorem dL_works_132 : decode cL_works 132 = .ok (.iconst 1, 1) := by decide +kernel
theorem dL_works_133 : decode cL_works 133 = .ok (.goto 4, 3) := by decide +kernel
theorem dL_works_136 : decode cL_works 136 = .ok (.iconst 2, 1) := by decide +kernel
theorem dL_works_137 : decode cL_works 137 = .ok (.istore 17, 2) := by decide +kernel
theorem dL_works_139 : decode cL_works 139 = .ok (.iload 14, 2) := by decide +kernel
theorem dL_works_141 : decode cL_works 141 = .ok (.iload 15, 2) := by decide +kernel
theorem dL_works_143 : decode cL_works 143 = .ok (.ifCond .eq 8, 3) := by decide +kernel
theorem dL_works_146 : decode cL_works 146 = .ok (.bipush (-9), 2) := by decide +kernel
theorem dL_works_148 : decode cL_works 148 = .ok (.goto 15, 3) := by decide +kernel
theorem dL_works_151 : decode cL_works 151 = .ok (.iload 16, 2) := by decide +kernel
theorem dL_works_153 : decode cL_works 153 = .ok (.ifCond .eq 8, 3) := by decide +kernel
theorem dL_works_156 : decode cL_works 156 = .ok (.iload 17, 2) := by decide +kernel
theorem dL_works_158 : decode cL_works 158 = .ok (.goto 5, 3) := by decide +kernel
theorem dL_works_161 : decode cL_works 161 = .ok (.bipush (-8), 2) := by decide +kernel
theorem dL_works_163 : decode cL_works 163 = .ok (.if_icmp .ne 83, 3) := by decide +kernel
theorem dL_works_166 : decode cL_works 166 = .ok (.iload 15, 2) := by decide +kernel
theorem dL_works_168 : decode cL_works 168 = .ok (.ifCond .ne 8, 3) := by decide +kernel
theorem dL_works_171 : decode cL_works 171 = .ok (.iload 16, 2) := by decide +kernel
theorem dL_works_173 : decode cL_works 173 = .ok (.ifCond .ne 26, 3) := by decide +kernel
theorem dL_works_176 : decode cL_works 176 = .ok (.aload_n 0, 1) := by decide +kernel
theorem dL_works_177 : decode cL_works 177 = .ok (.iload_n 2, 1) := by decide +kernel
theorem dL_works_178 : decode cL_works 178 = .ok (.invokevirtual 68, 3) := by decide +kernel
theorem dL_works_181 : decode cL_works 181 = .ok (.iload 10, 2) := by decide +kernel
theorem dL_works_183 : decode cL_works 183 = .ok (.if_icmp .ne 63, 3) := by decide +kernel
theorem dL_works_186 : decode cL_works 186 = .ok (.aload_n 0, 1) := by decide +kernel
theorem dL_works_187 : decode cL_works 187 = .ok (.iload_n 2, 1) := by decide +kernel
theorem dL_works_188 : decode cL_works 188 = .ok (.invokevirtual 74, 3) := by decide +kernel
theorem dL_works_191 : decode cL_works 191 = .ok (.iload 13, 2) := by decide +kernel
theorem dL_works_193 : decode cL_works 193 = .ok (.if_icmp .ne 53, 3) := by decide +kernel
theorem dL_works_196 : decode cL_works 196 = .ok (.goto 32, 3) := by decide +kernel
theorem dL_works_199 : decode cL_works 199 = .ok (.aload_n 0, 1) := by decide +kernel
theorem dL_works_200 : decode cL_works 200 = .ok (.iload_n 2, 1) := by decide +kernel
theorem dL_works_201 : decode cL_works 201 = .ok (.invokevirtual 68, 3) := by decide +kernel
theorem dL_works_204 : decode cL_works 204 = .ok (.iload 17, 2) := by decide +kernel
theorem dL_works_206 : decode cL_works 206 = .ok (.if_icmp .ne 40, 3) := by decide +kernel
theorem dL_works_209 : decode cL_works 209 = .ok (.aload_n 0, 1) := by decide +kernel
theorem dL_works_210 : decode cL_works 210 = .ok (.iload_n 2, 1) := by decide +kernel
theorem dL_works_211 : decode cL_works 211 = .ok (.invokevirtual 74, 3) := by decide +kernel
theorem dL_works_214 : decode cL_works 214 = .ok (.iload 17, 2) := by decide +kernel
theorem dL_works_216 : decode cL_works 216 = .ok (.iconst 1, 1) := by decide +kernel
theorem dL_works_217 : decode cL_works 217 = .ok (.if_icmp .ne 7, 3) := by decide +kernel
theorem dL_works_220 : decode cL_works 220 = .ok (.iconst 1, 1) := by decide +kernel
theorem dL_works_221 : decode cL_works 221 = .ok (.goto 4, 3) := by decide +kernel
theorem dL_works_224 : decode cL_works 224 = .ok (.iconst 0, 1) := by decide +kernel
theorem dL_works_225 : decode cL_works 225 = .ok (.if_icmp .ne 21, 3) := by decide +kernel
theorem dL_works_228 : decode cL_works 228 = .ok (.aload_n 0, 1) := by decide +kernel
theorem dL_works_229 : decode cL_works 229 = .ok (.aload 5, 2) := by decide +kernel
theorem dL_works_231 : decode cL_works 231 = .ok (.aload 6, 2) := by decide +kernel
theorem dL_works_233 : decode cL_works 233 = .ok (.lconst 1, 1) := by decide +kernel
theorem dL_works_234 : decode cL_works 234 = .ok (.iload_n 2, 1) := by decide +kernel
theorem dL_works_235 : decode cL_works 235 = .ok (.lshl, 1) := by decide +kernel
theorem dL_works_236 : decode cL_works 236 = .ok (.invokestatic 131, 3) := by decide +kernel
theorem dL_works_239 : decode cL_works 239 = .ok (.ifCond .eq 7, 3) := by decide +kernel
theorem dL_works_242 : decode cL_works 242 = .ok (.iconst 1, 1) := by decide +kernel
theorem dL_works_243 : decode cL_works 243 = .ok (.goto 4, 3) := by decide +kernel
theorem dL_works_246 : decode cL_works 246 = .ok (.iconst 0, 1) := by decide +kernel
theorem dL_works_247 : decode cL_works 247 = .ok (.ireturn, 1) := by decide +kernel
theorem dL_works_248 : decode cL_works 248 = .ok (.iload 4, 2) := by decide +kernel
theorem dL_works_250 : decode cL_works 250 = .ok (.iload 11, 2) := by decide +kernel
theorem dL_works_252 : decode cL_works 252 = .ok (.if_icmp .ne 28, 3) := by decide +kernel
theorem dL_works_255 : decode cL_works 255 = .ok (.iload 14, 2) := by decide +kernel
theorem dL_works_257 : decode cL_works 257 = .ok (.bipush (-9), 2) := by decide +kernel
theorem dL_works_259 : decode cL_works 259 = .ok (.if_icmp .ne 19, 3) := by decide +kernel
theorem dL_works_262 : decode cL_works 262 = .ok (.aload_n 0, 1) := by decide +kernel
theorem dL_works_263 : decode cL_works 263 = .ok (.aload 5, 2) := by decide +kernel
theorem dL_works_265 : decode cL_works 265 = .ok (.aload 6, 2) := by decide +kernel
theorem dL_works_267 : decode cL_works 267 = .ok (.lconst 0, 1) := by decide +kernel
theorem dL_works_268 : decode cL_works 268 = .ok (.invokestatic 131, 3) := by decide +kernel
theorem dL_works_271 : decode cL_works 271 = .ok (.ifCond .eq 7, 3) := by decide +kernel
theorem dL_works_274 : decode cL_works 274 = .ok (.iconst 1, 1) := by decide +kernel
theorem dL_works_275 : decode cL_works 275 = .ok (.goto 4, 3) := by decide +kernel
theorem dL_works_278 : decode cL_works 278 = .ok (.iconst 0, 1) := by decide +kernel
theorem dL_works_279 : decode cL_works 279 = .ok (.ireturn, 1) := by decide +kernel
theorem dL_works_280 : decode cL_works 280 = .ok (.iload_n 1, 1) := by decide +kernel
theorem dL_works_281 : decode cL_works 281 = .ok (.iconst 5, 1) := by decide +kernel
theorem dL_works_282 : decode cL_works 282 = .ok (.if_icmp .ne 100, 3) := by decide +kernel
theorem dL_works_285 : decode cL_works 285 = .ok (.iload 12, 2) := by decide +kernel
theorem dL_works_287 : decode cL_works 287 = .ok (.ifCond .eq 13, 3) := by decide +kernel
theorem dL_works_290 : decode cL_works 290 = .ok (.iload 10, 2) := by decide +kernel
theorem dL_works_292 : decode cL_works 292 = .ok (.iconst 3, 1) := by decide +kernel
theorem dL_works_293 : decode cL_works 293 = .ok (.if_icmp .eq 7, 3) := by decide +kernel
theorem dL_works_296 : decode cL_works 296 = .ok (.iconst 1, 1) := by decide +kernel
theorem dL_works_297 : decode cL_works 297 = .ok (.goto 4, 3) := by decide +kernel
theorem dL_works_300 : decode cL_works 300 = .ok (.iconst 0, 1) := by decide +kernel
theorem dL_works_301 : decode cL_works 301 = .ok (.istore 15, 2) := by decide +kernel
theorem dL_works_303 : decode cL_works 303 = .ok (.iload 14, 2) := by decide +kernel
theorem dL_works_305 : decode cL_works 305 = .ok (.iload 15, 2) := by decide +kernel
theorem dL_works_307 : decode cL_works 307 = .ok (.ifCond .eq 8, 3) := by decide +kernel
theorem dL_works_310 : decode cL_works 310 = .ok (.iload 10, 2) := by decide +kernel
theorem dL_works_312 : decode cL_works 312 = .ok (.goto 5, 3) := by decide +kernel
theorem dL_works_315 : decode cL_works 315 = .ok (.bipush (-8), 2) := by decide +kernel
theorem dL_works_317 : decode cL_works 317 = .ok (.if_icmp .ne 63, 3) := by decide +kernel
theorem dL_works_320 : decode cL_works 320 = .ok (.aload_n 0, 1) := by decide +kernel
theorem dL_works_321 : decode cL_works 321 = .ok (.iload_n 2, 1) := by decide +kernel
theorem dL_works_322 : decode cL_works 322 = .ok (.invokevirtual 68, 3) := by decide +kernel
theorem dL_works_325 : decode cL_works 325 = .ok (.iload 15, 2) := by decide +kernel
theorem dL_works_327 : decode cL_works 327 = .ok (.ifCond .eq 7, 3) := by decide +kernel
theorem dL_works_330 : decode cL_works 330 = .ok (.iconst 3, 1) := by decide +kernel
theorem dL_works_331 : decode cL_works 331 = .ok (.goto 5, 3) := by decide +kernel
theorem dL_works_334 : decode cL_works 334 = .ok (.iload 10, 2) := by decide +kernel
theorem dL_works_336 : decode cL_works 336 = .ok (.if_icmp .ne 44, 3) := by decide +kernel
theorem dL_works_339 : decode cL_works 339 = .ok (.aload_n 0, 1) := by decide +kernel
theorem dL_works_340 : decode cL_works 340 = .ok (.iload_n 2, 1) := by decide +kernel
theorem dL_works_341 : decode cL_works 341 = .ok (.invokevirtual 74, 3) := by decide +kernel
theorem dL_works_344 : decode cL_works 344 = .ok (.iload 15, 2) := by decide +kernel
theorem dL_works_346 : decode cL_works 346 = .ok (.ifCond .ne 8, 3) := by decide +kernel
theorem dL_works_349 : decode cL_works 349 = .ok (.iload 13, 2) := by decide +kernel
theorem dL_works_351 : decode cL_works 351 = .ok (.ifCond .eq 7, 3) := by decide +kernel
theorem dL_works_354 : decode cL_works 354 = .ok (.iconst 1, 1) := by decide +kernel
theorem dL_works_355 : decode cL_works 355 = .ok (.goto 4, 3) := by decide +kernel
theorem dL_works_358 : decode cL_works 358 = .ok (.iconst 0, 1) := by decide +kernel
theorem dL_works_359 : decode cL_works 359 = .ok (.if_icmp .ne 21, 3) := by decide +kernel
theorem dL_works_362 : decode cL_works 362 = .ok (.aload_n 0, 1) := by decide +kernel
theorem dL_works_363 : decode cL_works 363 = .ok (.aload 5, 2) := by decide +kernel
theorem dL_works_365 : decode cL_works 365 = .ok (.aload 6, 2) := by decide +kernel
theorem dL_works_367 : decode cL_works 367 = .ok (.lconst 1, 1) := by decide +kernel
theorem dL_works_368 : decode cL_works 368 = .ok (.iload_n 2, 1) := by decide +kernel
theorem dL_works_369 : decode cL_works 369 = .ok (.lshl, 1) := by decide +kernel
theorem dL_works_370 : decode cL_works 370 = .ok (.invokestatic 131, 3) := by decide +kernel
theorem dL_works_373 : decode cL_works 373 = .ok (.ifCond .eq 7, 3) := by decide +kernel
theorem dL_works_376 : decode cL_works 376 = .ok (.iconst 1, 1) := by decide +kernel
theorem dL_works_377 : decode cL_works 377 = .ok (.goto 4, 3) := by decide +kernel
theorem dL_works_380 : decode cL_works 380 = .ok (.iconst 0, 1) := by decide +kernel
theorem dL_works_381 : decode cL_works 381 = .ok (.ireturn, 1) := by decide +kernel
theorem dL_works_382 : decode cL_works 382 = .ok (.iload 12, 2) := by decide +kernel
theorem dL_works_384 : decode cL_works 384 = .ok (.ifCond .eq 19, 3) := by decide +kernel
theorem dL_works_387 : decode cL_works 387 = .ok (.iload 10, 2) := by decide +kernel
theorem dL_works_389 : decode cL_works 389 = .ok (.iconst 1, 1) := by decide +kernel
theorem dL_works_390 : decode cL_works 390 = .ok (.if_icmp .eq 13, 3) := by decide +kernel
theorem dL_works_393 : decode cL_works 393 = .ok (.iload 10, 2) := by decide +kernel
theorem dL_works_395 : decode cL_works 395 = .ok (.iconst 3, 1) := by decide +kernel
theorem dL_works_396 : decode cL_works 396 = .ok (.if_icmp .eq 7, 3) := by decide +kernel
theorem dL_works_399 : decode cL_works 399 = .ok (.iconst 1, 1) := by decide +kernel
theorem dL_works_400 : decode cL_works 400 = .ok (.goto 4, 3) := by decide +kernel
theorem dL_works_403 : decode cL_works 403 = .ok (.iconst 0, 1) := by decide +kernel
theorem dL_works_404 : decode cL_works 404 = .ok (.istore 15, 2) := by decide +kernel
theorem dL_works_406 : decode cL_works 406 = .ok (.iload_n 3, 1) := by decide +kernel
theorem dL_works_407 : decode cL_works 407 = .ok (.iconst 3, 1) := by decide +kernel
theorem dL_works_408 : decode cL_works 408 = .ok (.irem, 1) := by decide +kernel
theorem dL_works_409 : decode cL_works 409 = .ok (.aload 7, 2) := by decide +kernel
theorem dL_works_411 : decode cL_works 411 = .ok (.iload_n 2, 1) := by decide +kernel
theorem dL_works_412 : decode cL_works 412 = .ok (.iaload, 1) := by decide +kernel
theorem dL_works_413 : decode cL_works 413 = .ok (.iconst 3, 1) := by decide +kernel
theorem dL_works_414 : decode cL_works 414 = .ok (.iand, 1) := by decide +kernel
theorem dL_works_415 : decode cL_works 415 = .ok (.if_icmp .ne 17, 3) := by decide +kernel
theorem dL_works_418 : decode cL_works 418 = .ok (.aload 7, 2) := by decide +kernel
theorem dL_works_420 : decode cL_works 420 = .ok (.iload_n 2, 1) := by decide +kernel
theorem dL_works_421 : decode cL_works 421 = .ok (.iaload, 1) := by decide +kernel
theorem dL_works_422 : decode cL_works 422 = .ok (.iconst 2, 1) := by decide +kernel
theorem dL_works_423 : decode cL_works 423 = .ok (.ishr, 1) := by decide +kernel
theorem dL_works_424 : decode cL_works 424 = .ok (.iconst 3, 1) := by decide +kernel
theorem dL_works_425 : decode cL_works 425 = .ok (.if_icmp .ge 7, 3) := by decide +kernel
theorem dL_works_428 : decode cL_works 428 = .ok (.iconst 1, 1) := by decide +kernel
theorem dL_works_429 : decode cL_works 429 = .ok (.goto 4, 3) := by decide +kernel
theorem dL_works_432 : decode cL_works 432 = .ok (.iconst 2, 1) := by decide +kernel
theorem dL_works_433 : decode cL_works 433 = .ok (.istore 16, 2) := by decide +kernel
theorem dL_works_435 : decode cL_works 435 = .ok (.aload 9, 2) := by decide +kernel
theorem dL_works_437 : decode cL_works 437 = .ok (.iload_n 2, 1) := by decide +kernel
theorem dL_works_438 : decode cL_works 438 = .ok (.iload 15, 2) := by decide +kernel
theorem dL_works_440 : decode cL_works 440 = .ok (.ifCond .eq 8, 3) := by decide +kernel
theorem dL_works_443 : decode cL_works 443 = .ok (.iload 11, 2) := by decide +kernel
theorem dL_works_445 : decode cL_works 445 = .ok (.goto 7, 3) := by decide +kernel
theorem dL_works_448 : decode cL_works 448 = .ok (.aload 9, 2) := by decide +kernel
theorem dL_works_450 : decode cL_works 450 = .ok (.iload_n 2, 1) := by decide +kernel
theorem dL_works_451 : decode cL_works 451 = .ok (.iaload, 1) := by decide +kernel
theorem dL_works_452 : decode cL_works 452 = .ok (.iastore, 1) := by decide +kernel
theorem dL_works_453 : decode cL_works 453 = .ok (.iload 14, 2) := by decide +kernel
theorem dL_works_455 : decode cL_works 455 = .ok (.iload 15, 2) := by decide +kernel
theorem dL_works_457 : decode cL_works 457 = .ok (.ifCond .eq 8, 3) := by decide +kernel
theorem dL_works_460 : decode cL_works 460 = .ok (.iload 16, 2) := by decide +kernel
theorem dL_works_462 : decode cL_works 462 = .ok (.goto 5, 3) := by decide +kernel
theorem dL_works_465 : decode cL_works 465 = .ok (.bipush (-8), 2) := by decide +kernel
theorem dL_works_467 : decode cL_works 467 = .ok (.if_icmp .ne 60, 3) := by decide +kernel
theorem dL_works_470 : decode cL_works 470 = .ok (.aload_n 0, 1) := by decide +kernel
theorem dL_works_471 : decode cL_works 471 = .ok (.iload_n 2, 1) := by decide +kernel
theorem dL_works_472 : decode cL_works 472 = .ok (.invokevirtual 68, 3) := by decide +kernel
theorem dL_works_475 : decode cL_works 475 = .ok (.iload 15, 2) := by decide +kernel
theorem dL_works_477 : decode cL_works 477 = .ok (.ifCond .eq 8, 3) := by decide +kernel
theorem dL_works_480 : decode cL_works 480 = .ok (.iload 16, 2) := by decide +kernel
theorem dL_works_482 : decode cL_works 482 = .ok (.goto 5, 3) := by decide +kernel
theorem dL_works_485 : decode cL_works 485 = .ok (.iload 10, 2) := by decide +kernel
theorem dL_works_487 : decode cL_works 487 = .ok (.if_icmp .ne 40, 3) := by decide +kernel
theorem dL_works_490 : decode cL_works 490 = .ok (.aload_n 0, 1) := by decide +kernel
theorem dL_works_491 : decode cL_works 491 = .ok (.iload_n 2, 1) := by decide +kernel
theorem dL_works_492 : decode cL_works 492 = .ok (.invokevirtual 74, 3) := by decide +kernel
theorem dL_works_495 : decode cL_works 495 = .ok (.iload 15, 2) := by decide +kernel
theorem dL_works_497 : decode cL_works 497 = .ok (.ifCond .eq 7, 3) := by decide +kernel
theorem dL_works_500 : decode cL_works 500 = .ok (.iconst 0, 1) := by decide +kernel
theorem dL_works_501 : decode cL_works 501 = .ok (.goto 5, 3) := by decide +kernel
theorem dL_works_504 : decode cL_works 504 = .ok (.iload 13, 2) := by decide +kernel
theorem dL_works_506 : decode cL_works 506 = .ok (.if_icmp .ne 21, 3) := by decide +kernel
theorem dL_works_509 : decode cL_works 509 = .ok (.aload_n 0, 1) := by decide +kernel
theorem dL_works_510 : decode cL_works 510 = .ok (.aload 5, 2) := by decide +kernel
theorem dL_works_512 : decode cL_works 512 = .ok (.aload 6, 2) := by decide +kernel
theorem dL_works_514 : decode cL_works 514 = .ok (.lconst 1, 1) := by decide +kernel
theorem dL_works_515 : decode cL_works 515 = .ok (.iload_n 2, 1) := by decide +kernel
theorem dL_works_516 : decode cL_works 516 = .ok (.lshl, 1) := by decide +kernel
theorem dL_works_517 : decode cL_works 517 = .ok (.invokestatic 131, 3) := by decide +kernel
theorem dL_works_520 : decode cL_works 520 = .ok (.ifCond .eq 7, 3) := by decide +kernel
theorem dL_works_523 : decode cL_works 523 = .ok (.iconst 1, 1) := by decide +kernel
theorem dL_works_524 : decode cL_works 524 = .ok (.goto 4, 3) := by decide +kernel
theorem dL_works_527 : decode cL_works 527 = .ok (.iconst 0, 1) := by decide +kernel
theorem dL_works_528 : decode cL_works 528 = .ok (.ireturn, 1) := by decide +kernel
theorem dL_loses_0 : decode cL_loses 0 = .ok (.aload 5, 2) := by decide +kernel
theorem dL_loses_2 : decode cL_loses 2 = .ok (.iload_n 2, 1) := by decide +kernel
theorem dL_loses_3 : decode cL_loses 3 = .ok (.invokestatic 90, 3) := by decide +kernel
theorem dL_loses_6 : decode cL_loses 6 = .ok (.istore 6, 2) := by decide +kernel
theorem dL_loses_8 : decode cL_loses 8 = .ok (.aload_n 0, 1) := by decide +kernel
theorem dL_loses_9 : decode cL_loses 9 = .ok (.iload_n 2, 1) := by decide +kernel
theorem dL_loses_10 : decode cL_loses 10 = .ok (.invokevirtual 65, 3) := by decide +kernel
theorem dL_loses_13 : decode cL_loses 13 = .ok (.istore 7, 2) := by decide +kernel
theorem dL_loses_15 : decode cL_loses 15 = .ok (.aload_n 0, 1) := by decide +kernel
theorem dL_loses_16 : decode cL_loses 16 = .ok (.iload_n 1, 1) := by decide +kernel
theorem dL_loses_17 : decode cL_loses 17 = .ok (.iload_n 2, 1) := by decide +kernel
theorem dL_loses_18 : decode cL_loses 18 = .ok (.iconst 0, 1) := by decide +kernel
theorem dL_loses_19 : decode cL_loses 19 = .ok (.iconst 0, 1) := by decide +kernel
theorem dL_loses_20 : decode cL_loses 20 = .ok (.invokestatic 127, 3) := by decide +kernel
theorem dL_loses_23 : decode cL_loses 23 = .ok (.istore 8, 2) := by decide +kernel
theorem dL_loses_25 : decode cL_loses 25 = .ok (.iload 6, 2) := by decide +kernel
theorem dL_loses_27 : decode cL_loses 27 = .ok (.iload_n 1, 1) := by decide +kernel
theorem dL_loses_28 : decode cL_loses 28 = .ok (.bipush 7, 2) := by decide +kernel
theorem dL_loses_30 : decode cL_loses 30 = .ok (.if_icmp .ne 7, 3) := by decide +kernel
theorem dL_loses_33 : decode cL_loses 33 = .ok (.iconst 1, 1) := by decide +kernel
theorem dL_loses_34 : decode cL_loses 34 = .ok (.goto 4, 3) := by decide +kernel
theorem dL_loses_37 : decode cL_loses 37 = .ok (.iconst 0, 1) := by decide +kernel
theorem dL_loses_38 : decode cL_loses 38 = .ok (.if_icmp .ne 27, 3) := by decide +kernel
theorem dL_loses_41 : decode cL_loses 41 = .ok (.iload 8, 2) := by decide +kernel
theorem dL_loses_43 : decode cL_loses 43 = .ok (.bipush (-8), 2) := by decide +kernel
theorem dL_loses_45 : decode cL_loses 45 = .ok (.if_icmp .ne 18, 3) := by decide +kernel
theorem dL_loses_48 : decode cL_loses 48 = .ok (.aload_n 0, 1) := by decide +kernel
theorem dL_loses_49 : decode cL_loses 49 = .ok (.aload_n 3, 1) := by decide +kernel
theorem dL_loses_50 : decode cL_loses 50 = .ok (.aload 4, 2) := by decide +kernel
theorem dL_loses_52 : decode cL_loses 52 = .ok (.lconst 0, 1) := by decide +kernel
theorem dL_loses_53 : decode cL_loses 53 = .ok (.invokestatic 131, 3) := by decide +kernel
theorem dL_loses_56 : decode cL_loses 56 = .ok (.ifCond .eq 7, 3) := by decide +kernel
theorem dL_loses_59 : decode cL_loses 59 = .ok (.iconst 1, 1) := by decide +kernel
theorem dL_loses_60 : decode cL_loses 60 = .ok (.goto 4, 3) := by decide +kernel
theorem dL_loses_63 : decode cL_loses 63 = .ok (.iconst 0, 1) := by decide +kernel
theorem dL_loses_64 : decode cL_loses 64 = .ok (.ireturn, 1) := by decide +kernel
theorem dL_loses_65 : decode cL_loses 65 = .ok (.aload 5, 2) := by decide +kernel
theorem dL_loses_67 : decode cL_loses 67 = .ok (.iconst 0, 1) := by decide +kernel
theorem dL_loses_68 : decode cL_loses 68 = .ok (.dup2, 1) := by decide +kernel
theorem dL_loses_69 : decode cL_loses 69 = .ok (.laload, 1) := by decide +kernel
theorem dL_loses_70 : decode cL_loses 70 = .ok (.lconst 1, 1) := by decide +kernel
theorem dL_loses_71 : decode cL_loses 71 = .ok (.iload_n 2, 1) := by decide +kernel
theorem dL_loses_72 : decode cL_loses 72 = .ok (.lshl, 1) := by decide +kernel
theorem dL_loses_73 : decode cL_loses 73 = .ok (.lxor, 1) := by decide +kernel
theorem dL_loses_74 : decode cL_loses 74 = .ok (.lastore, 1) := by decide +kernel
theorem dL_loses_75 : decode cL_loses 75 = .ok (.iload 8, 2) := by decide +kernel
theorem dL_loses_77 : decode cL_loses 77 = .ok (.iload_n 1, 1) := by decide +kernel
theorem dL_loses_78 : decode cL_loses 78 = .ok (.bipush 7, 2) := by decide +kernel
theorem dL_loses_80 : decode cL_loses 80 = .ok (.if_icmp .ne 11, 3) := by decide +kernel
theorem dL_loses_83 : decode cL_loses 83 = .ok (.aload_n 0, 1) := by decide +kernel
theorem dL_loses_84 : decode cL_loses 84 = .ok (.iload_n 2, 1) := by decide +kernel
theorem dL_loses_85 : decode cL_loses 85 = .ok (.invokevirtual 62, 3) := by decide +kernel
theorem dL_loses_88 : decode cL_loses 88 = .ok (.goto 5, 3) := by decide +kernel
theorem dL_loses_91 : decode cL_loses 91 = .ok (.iload 7, 2) := by decide +kernel
theorem dL_loses_93 : decode cL_loses 93 = .ok (.if_icmp .ne 39, 3) := by decide +kernel
theorem dL_loses_96 : decode cL_loses 96 = .ok (.aload_n 0, 1) := by decide +kernel
theorem dL_loses_97 : decode cL_loses 97 = .ok (.iload_n 2, 1) := by decide +kernel
theorem dL_loses_98 : decode cL_loses 98 = .ok (.invokevirtual 65, 3) := by decide +kernel
theorem dL_loses_101 : decode cL_loses 101 = .ok (.iload 7, 2) := by decide +kernel
theorem dL_loses_103 : decode cL_loses 103 = .ok (.if_icmp .ne 29, 3) := by decide +kernel
theorem dL_loses_106 : decode cL_loses 106 = .ok (.aload_n 0, 1) := by decide +kernel
theorem dL_loses_107 : decode cL_loses 107 = .ok (.iload_n 2, 1) := by decide +kernel
theorem dL_loses_108 : decode cL_loses 108 = .ok (.invokevirtual 71, 3) := by decide +kernel
theorem dL_loses_111 : decode cL_loses 111 = .ok (.iconst (-1), 1) := by decide +kernel
theorem dL_loses_112 : decode cL_loses 112 = .ok (.if_icmp .ne 20, 3) := by decide +kernel
theorem dL_loses_115 : decode cL_loses 115 = .ok (.aload_n 0, 1) := by decide +kernel
theorem dL_loses_116 : decode cL_loses 116 = .ok (.aload_n 3, 1) := by decide +kernel
theorem dL_loses_117 : decode cL_loses 117 = .ok (.aload 4, 2) := by decide +kernel
theorem dL_loses_119 : decode cL_loses 119 = .ok (.lconst 1, 1) := by decide +kernel
theorem dL_loses_120 : decode cL_loses 120 = .ok (.iload_n 2, 1) := by decide +kernel
theorem dL_loses_121 : decode cL_loses 121 = .ok (.lshl, 1) := by decide +kernel
theorem dL_loses_122 : decode cL_loses 122 = .ok (.invokestatic 131, 3) := by decide +kernel
theorem dL_loses_125 : decode cL_loses 125 = .ok (.ifCond .eq 7, 3) := by decide +kernel
theorem dL_loses_128 : decode cL_loses 128 = .ok (.iconst 1, 1) := by decide +kernel
theorem dL_loses_129 : decode cL_loses 129 = .ok (.goto 4, 3) := by decide +kernel
theorem dL_loses_132 : decode cL_loses 132 = .ok (.iconst 0, 1) := by decide +kernel
theorem dL_loses_133 : decode cL_loses 133 = .ok (.ireturn, 1) := by decide +kernel
theorem dL_crates_0 : decode cL_crates 0 = .ok (.aload_n 0, 1) := by decide +kernel
theorem dL_crates_1 : decode cL_crates 1 = .ok (.iload_n 2, 1) := by decide +kernel
theorem dL_crates_2 : decode cL_crates 2 = .ok (.invokevirtual 87, 3) := by decide +kernel
theorem dL_crates_5 : decode cL_crates 5 = .ok (.istore 7, 2) := by decide +kernel
theorem dL_crates_7 : decode cL_crates 7 = .ok (.aload_n 0, 1) := by decide +kernel
theorem dL_crates_8 : decode cL_crates 8 = .ok (.iload_n 2, 1) := by decide +kernel
theorem dL_crates_9 : decode cL_crates 9 = .ok (.invokevirtual 114, 3) := by decide +kernel
theorem dL_crates_12 : decode cL_crates 12 = .ok (.istore 8, 2) := by decide +kernel
theorem dL_crates_14 : decode cL_crates 14 = .ok (.aload_n 0, 1) := by decide +kernel
theorem dL_crates_15 : decode cL_crates 15 = .ok (.aload 4, 2) := by decide +kernel
theorem dL_crates_17 : decode cL_crates 17 = .ok (.iload_n 2, 1) := by decide +kernel
theorem dL_crates_18 : decode cL_crates 18 = .ok (.invokestatic 135, 3) := by decide +kernel
theorem dL_crates_21 : decode cL_crates 21 = .ok (.istore 9, 2) := by decide +kernel
theorem dL_crates_23 : decode cL_crates 23 = .ok (.iload_n 1, 1) := by decide +kernel
theorem dL_crates_24 : decode cL_crates 24 = .ok (.bipush 9, 2) := by decide +kernel
theorem dL_crates_26 : decode cL_crates 26 = .ok (.if_icmp .ne 130, 3) := by decide +kernel
theorem dL_crates_29 : decode cL_crates 29 = .ok (.iload 7, 2) := by decide +kernel
theorem dL_crates_31 : decode cL_crates 31 = .ok (.iconst (-1), 1) := by decide +kernel
theorem dL_crates_32 : decode cL_crates 32 = .ok (.if_icmp .ne 16, 3) := by decide +kernel
theorem dL_crates_35 : decode cL_crates 35 = .ok (.aload 4, 2) := by decide +kernel
theorem dL_crates_37 : decode cL_crates 37 = .ok (.iconst 3, 1) := by decide +kernel
theorem dL_crates_38 : decode cL_crates 38 = .ok (.iaload, 1) := by decide +kernel
theorem dL_crates_39 : decode cL_crates 39 = .ok (.bipush 100, 2) := by decide +kernel
theorem dL_crates_41 : decode cL_crates 41 = .ok (.if_icmp .ge 7, 3) := by decide +kernel
theorem dL_crates_44 : decode cL_crates 44 = .ok (.iconst 1, 1) := by decide +kernel
theorem dL_crates_45 : decode cL_crates 45 = .ok (.goto 4, 3) := by decide +kernel
theorem dL_crates_48 : decode cL_crates 48 = .ok (.iconst 0, 1) := by decide +kernel
theorem dL_crates_49 : decode cL_crates 49 = .ok (.istore 10, 2) := by decide +kernel
theorem dL_crates_51 : decode cL_crates 51 = .ok (.aload_n 0, 1) := by decide +kernel
theorem dL_crates_52 : decode cL_crates 52 = .ok (.bipush 9, 2) := by decide +kernel
theorem dL_crates_54 : decode cL_crates 54 = .ok (.iload_n 2, 1) := by decide +kernel
theorem dL_crates_55 : decode cL_crates 55 = .ok (.iconst 0, 1) := by decide +kernel
theorem dL_crates_56 : decode cL_crates 56 = .ok (.iconst 0, 1) := by decide +kernel
theorem dL_crates_57 : decode cL_crates 57 = .ok (.invokestatic 127, 3) := by decide +kernel
theorem dL_crates_60 : decode cL_crates 60 = .ok (.istore 11, 2) := by decide +kernel
theorem dL_crates_62 : decode cL_crates 62 = .ok (.aload 6, 2) := by decide +kernel
theorem dL_crates_64 : decode cL_crates 64 = .ok (.iload_n 2, 1) := by decide +kernel
theorem dL_crates_65 : decode cL_crates 65 = .ok (.iload 10, 2) := by decide +kernel
theorem dL_crates_67 : decode cL_crates 67 = .ok (.ifCond .eq 8, 3) := by decide +kernel
theorem dL_crates_70 : decode cL_crates 70 = .ok (.iload 9, 2) := by decide +kernel
theorem dL_crates_72 : decode cL_crates 72 = .ok (.goto 7, 3) := by decide +kernel
theorem dL_crates_75 : decode cL_crates 75 = .ok (.aload 6, 2) := by decide +kernel
theorem dL_crates_77 : decode cL_crates 77 = .ok (.iload_n 2, 1) := by decide +kernel
theorem dL_crates_78 : decode cL_crates 78 = .ok (.iaload, 1) := by decide +kernel
theorem dL_crates_79 : decode cL_crates 79 = .ok (.iastore, 1) := by decide +kernel
theorem dL_crates_80 : decode cL_crates 80 = .ok (.aload 4, 2) := by decide +kernel
theorem dL_crates_82 : decode cL_crates 82 = .ok (.iconst 3, 1) := by decide +kernel
theorem dL_crates_83 : decode cL_crates 83 = .ok (.dup2, 1) := by decide +kernel
theorem dL_crates_84 : decode cL_crates 84 = .ok (.iaload, 1) := by decide +kernel
theorem dL_crates_85 : decode cL_crates 85 = .ok (.iload 10, 2) := by decide +kernel
theorem dL_crates_87 : decode cL_crates 87 = .ok (.ifCond .eq 7, 3) := by decide +kernel
theorem dL_crates_90 : decode cL_crates 90 = .ok (.iconst 1, 1) := by decide +kernel
theorem dL_crates_91 : decode cL_crates 91 = .ok (.goto 4, 3) := by decide +kernel
theorem dL_crates_94 : decode cL_crates 94 = .ok (.iconst 0, 1) := by decide +kernel
theorem dL_crates_95 : decode cL_crates 95 = .ok (.iadd, 1) := by decide +kernel
theorem dL_crates_96 : decode cL_crates 96 = .ok (.iastore, 1) := by decide +kernel
theorem dL_crates_97 : decode cL_crates 97 = .ok (.iload 11, 2) := by decide +kernel
theorem dL_crates_99 : decode cL_crates 99 = .ok (.iload 10, 2) := by decide +kernel
theorem dL_crates_101 : decode cL_crates 101 = .ok (.ifCond .eq 12, 3) := by decide +kernel
theorem dL_crates_104 : decode cL_crates 104 = .ok (.aload 4, 2) := by decide +kernel
theorem dL_crates_106 : decode cL_crates 106 = .ok (.iconst 3, 1) := by decide +kernel
theorem dL_crates_107 : decode cL_crates 107 = .ok (.iaload, 1) := by decide +kernel
theorem dL_crates_108 : decode cL_crates 108 = .ok (.iconst 1, 1) := by decide +kernel
theorem dL_crates_109 : decode cL_crates 109 = .ok (.isub, 1) := by decide +kernel
theorem dL_crates_110 : decode cL_crates 110 = .ok (.goto 5, 3) := by decide +kernel
theorem dL_crates_113 : decode cL_crates 113 = .ok (.bipush (-8), 2) := by decide +kernel
theorem dL_crates_115 : decode cL_crates 115 = .ok (.if_icmp .ne 39, 3) := by decide +kernel
theorem dL_crates_118 : decode cL_crates 118 = .ok (.aload_n 0, 1) := by decide +kernel
theorem dL_crates_119 : decode cL_crates 119 = .ok (.iload_n 2, 1) := by decide +kernel
theorem dL_crates_120 : decode cL_crates 120 = .ok (.invokevirtual 87, 3) := by decide +kernel
theorem dL_crates_123 : decode cL_crates 123 = .ok (.iload 10, 2) := by decide +kernel
theorem dL_crates_125 : decode cL_crates 125 = .ok (.ifCond .eq 8, 3) := by decide +kernel
theorem dL_crates_128 : decode cL_crates 128 = .ok (.iload 11, 2) := by decide +kernel
theorem dL_crates_130 : decode cL_crates 130 = .ok (.goto 5, 3) := by decide +kernel
theorem dL_crates_133 : decode cL_crates 133 = .ok (.iload 7, 2) := by decide +kernel
theorem dL_crates_135 : decode cL_crates 135 = .ok (.if_icmp .ne 19, 3) := by decide +kernel
theorem dL_crates_138 : decode cL_crates 138 = .ok (.aload_n 0, 1) := by decide +kernel
theorem dL_crates_139 : decode cL_crates 139 = .ok (.aload 4, 2) := by decide +kernel
theorem dL_crates_141 : decode cL_crates 141 = .ok (.aload 5, 2) := by decide +kernel
theorem dL_crates_143 : decode cL_crates 143 = .ok (.lconst 0, 1) := by decide +kernel
theorem dL_crates_144 : decode cL_crates 144 = .ok (.invokestatic 131, 3) := by decide +kernel
theorem dL_crates_147 : decode cL_crates 147 = .ok (.ifCond .eq 7, 3) := by decide +kernel
theorem dL_crates_150 : decode cL_crates 150 = .ok (.iconst 1, 1) := by decide +kernel
theorem dL_crates_151 : decode cL_crates 151 = .ok (.goto 4, 3) := by decide +kernel
theorem dL_crates_154 : decode cL_crates 154 = .ok (.iconst 0, 1) := by decide +kernel
theorem dL_crates_155 : decode cL_crates 155 = .ok (.ireturn, 1) := by decide +kernel
theorem dL_crates_156 : decode cL_crates 156 = .ok (.iload_n 1, 1) := by decide +kernel
theorem dL_crates_157 : decode cL_crates 157 = .ok (.bipush 10, 2) := by decide +kernel
theorem dL_crates_159 : decode cL_crates 159 = .ok (.if_icmp .ne 111, 3) := by decide +kernel
theorem dL_crates_162 : decode cL_crates 162 = .ok (.iload_n 3, 1) := by decide +kernel
theorem dL_crates_163 : decode cL_crates 163 = .ok (.iconst 3, 1) := by decide +kernel
theorem dL_crates_164 : decode cL_crates 164 = .ok (.irem, 1) := by decide +kernel
theorem dL_crates_165 : decode cL_crates 165 = .ok (.ifCond .le 10, 3) := by decide +kernel
theorem dL_crates_168 : decode cL_crates 168 = .ok (.aload 6, 2) := by decide +kernel
theorem dL_crates_170 : decode cL_crates 170 = .ok (.iload_n 2, 1) := by decide +kernel
theorem dL_crates_171 : decode cL_crates 171 = .ok (.iaload, 1) := by decide +kernel
theorem dL_crates_172 : decode cL_crates 172 = .ok (.goto 9, 3) := by decide +kernel
theorem dL_crates_175 : decode cL_crates 175 = .ok (.iload_n 3, 1) := by decide +kernel
theorem dL_crates_176 : decode cL_crates 176 = .ok (.iconst 3, 1) := by decide +kernel
theorem dL_crates_177 : decode cL_crates 177 = .ok (.idiv, 1) := by decide +kernel
theorem dL_crates_178 : decode cL_crates 178 = .ok (.bipush 100, 2) := by decide +kernel
theorem dL_crates_180 : decode cL_crates 180 = .ok (.irem, 1) := by decide +kernel
theorem dL_crates_181 : decode cL_crates 181 = .ok (.istore 10, 2) := by decide +kernel
theorem dL_crates_183 : decode cL_crates 183 = .ok (.aload_n 0, 1) := by decide +kernel
theorem dL_crates_184 : decode cL_crates 184 = .ok (.bipush 10, 2) := by decide +kernel
theorem dL_crates_186 : decode cL_crates 186 = .ok (.iload_n 2, 1) := by decide +kernel
theorem dL_crates_187 : decode cL_crates 187 = .ok (.iload 10, 2) := by decide +kernel
theorem dL_crates_189 : decode cL_crates 189 = .ok (.iconst 0, 1) := by decide +kernel
theorem dL_crates_190 : decode cL_crates 190 = .ok (.invokestatic 127, 3) := by decide +kernel
theorem dL_crates_193 : decode cL_crates 193 = .ok (.istore 11, 2) := by decide +kernel
theorem dL_crates_195 : decode cL_crates 195 = .ok (.aload 4, 2) := by decide +kernel
theorem dL_crates_197 : decode cL_crates 197 = .ok (.iconst 4, 1) := by decide +kernel
theorem dL_crates_198 : decode cL_crates 198 = .ok (.dup2, 1) := by decide +kernel
theorem dL_crates_199 : decode cL_crates 199 = .ok (.iaload, 1) := by decide +kernel
theorem dL_crates_200 : decode cL_crates 200 = .ok (.iload 7, 2) := by decide +kernel
theorem dL_crates_202 : decode cL_crates 202 = .ok (.ifCond .lt 16, 3) := by decide +kernel
theorem dL_crates_205 : decode cL_crates 205 = .ok (.iload 10, 2) := by decide +kernel
theorem dL_crates_207 : decode cL_crates 207 = .ok (.aload 6, 2) := by decide +kernel
theorem dL_crates_209 : decode cL_crates 209 = .ok (.iload_n 2, 1) := by decide +kernel
theorem dL_crates_210 : decode cL_crates 210 = .ok (.iaload, 1) := by decide +kernel
theorem dL_crates_211 : decode cL_crates 211 = .ok (.if_icmp .eq 7, 3) := by decide +kernel
theorem dL_crates_214 : decode cL_crates 214 = .ok (.iconst 1, 1) := by decide +kernel
theorem dL_crates_215 : decode cL_crates 215 = .ok (.goto 4, 3) := by decide +kernel
theorem dL_crates_218 : decode cL_crates 218 = .ok (.iconst 0, 1) := by decide +kernel
theorem dL_crates_219 : decode cL_crates 219 = .ok (.iadd, 1) := by decide +kernel
theorem dL_crates_220 : decode cL_crates 220 = .ok (.iastore, 1) := by decide +kernel
theorem dL_crates_221 : decode cL_crates 221 = .ok (.iload 11, 2) := by decide +kernel
theorem dL_crates_223 : decode cL_crates 223 = .ok (.iload 7, 2) := by decide +kernel
theorem dL_crates_225 : decode cL_crates 225 = .ok (.ifCond .ge 8, 3) := by decide +kernel
theorem dL_crates_228 : decode cL_crates 228 = .ok (.bipush (-8), 2) := by decide +kernel
theorem dL_crates_230 : decode cL_crates 230 = .ok (.goto 10, 3) := by decide +kernel
theorem dL_crates_233 : decode cL_crates 233 = .ok (.iload 10, 2) := by decide +kernel
theorem dL_crates_235 : decode cL_crates 235 = .ok (.aload 6, 2) := by decide +kernel
theorem dL_crates_237 : decode cL_crates 237 = .ok (.iload_n 2, 1) := by decide +kernel
theorem dL_crates_238 : decode cL_crates 238 = .ok (.iaload, 1) := by decide +kernel
theorem dL_crates_239 : decode cL_crates 239 = .ok (.isub, 1) := by decide +kernel
theorem dL_crates_240 : decode cL_crates 240 = .ok (.if_icmp .ne 28, 3) := by decide +kernel
theorem dL_crates_243 : decode cL_crates 243 = .ok (.aload_n 0, 1) := by decide +kernel
theorem dL_crates_244 : decode cL_crates 244 = .ok (.iload_n 2, 1) := by decide +kernel
theorem dL_crates_245 : decode cL_crates 245 = .ok (.invokevirtual 87, 3) := by decide +kernel
theorem dL_crates_248 : decode cL_crates 248 = .ok (.iconst (-1), 1) := by decide +kernel
theorem dL_crates_249 : decode cL_crates 249 = .ok (.if_icmp .ne 19, 3) := by decide +kernel
theorem dL_crates_252 : decode cL_crates 252 = .ok (.aload_n 0, 1) := by decide +kernel
theorem dL_crates_253 : decode cL_crates 253 = .ok (.aload 4, 2) := by decide +kernel
theorem dL_crates_255 : decode cL_crates 255 = .ok (.aload 5, 2) := by decide +kernel
theorem dL_crates_257 : decode cL_crates 257 = .ok (.lconst 0, 1) := by decide +kernel
theorem dL_crates_258 : decode cL_crates 258 = .ok (.invokestatic 131, 3) := by decide +kernel
theorem dL_crates_261 : decode cL_crates 261 = .ok (.ifCond .eq 7, 3) := by decide +kernel
theorem dL_crates_264 : decode cL_crates 264 = .ok (.iconst 1, 1) := by decide +kernel
theorem dL_crates_265 : decode cL_crates 265 = .ok (.goto 4, 3) := by decide +kernel
theorem dL_crates_268 : decode cL_crates 268 = .ok (.iconst 0, 1) := by decide +kernel
theorem dL_crates_269 : decode cL_crates 269 = .ok (.ireturn, 1) := by decide +kernel
theorem dL_crates_270 : decode cL_crates 270 = .ok (.iload_n 3, 1) := by decide +kernel
theorem dL_crates_271 : decode cL_crates 271 = .ok (.bipush 8, 2) := by decide +kernel
theorem dL_crates_273 : decode cL_crates 273 = .ok (.irem, 1) := by decide +kernel
theorem dL_crates_274 : decode cL_crates 274 = .ok (.istore 10, 2) := by decide +kernel
theorem dL_crates_276 : decode cL_crates 276 = .ok (.iload 7, 2) := by decide +kernel
theorem dL_crates_278 : decode cL_crates 278 = .ok (.ifCond .ge 8, 3) := by decide +kernel
theorem dL_crates_281 : decode cL_crates 281 = .ok (.iload 9, 2) := by decide +kernel
theorem dL_crates_283 : decode cL_crates 283 = .ok (.ifCond .ne 7, 3) := by decide +kernel
theorem dL_crates_286 : decode cL_crates 286 = .ok (.iconst 1, 1) := by decide +kernel
theorem dL_crates_287 : decode cL_crates 287 = .ok (.goto 4, 3) := by decide +kernel
theorem dL_crates_290 : decode cL_crates 290 = .ok (.iconst 0, 1) := by decide +kernel
theorem dL_crates_291 : decode cL_crates 291 = .ok (.istore 11, 2) := by decide +kernel
theorem dL_crates_293 : decode cL_crates 293 = .ok (.aload_n 0, 1) := by decide +kernel
theorem dL_crates_294 : decode cL_crates 294 = .ok (.bipush 11, 2) := by decide +kernel
theorem dL_crates_296 : decode cL_crates 296 = .ok (.iload_n 2, 1) := by decide +kernel
theorem dL_crates_297 : decode cL_crates 297 = .ok (.iload 10, 2) := by decide +kernel
theorem dL_crates_299 : decode cL_crates 299 = .ok (.iconst 0, 1) := by decide +kernel
theorem dL_crates_300 : decode cL_crates 300 = .ok (.invokestatic 127, 3) := by decide +kernel
theorem dL_crates_303 : decode cL_crates 303 = .ok (.istore 12, 2) := by decide +kernel
theorem dL_crates_305 : decode cL_crates 305 = .ok (.iload 10, 2) := by decide +kernel
theorem dL_crates_307 : decode cL_crates 307 = .ok (.iload 8, 2) := by decide +kernel
theorem dL_crates_309 : decode cL_crates 309 = .ok (.if_icmp .eq 8, 3) := by decide +kernel
theorem dL_crates_312 : decode cL_crates 312 = .ok (.iload 11, 2) := by decide +kernel
theorem dL_crates_314 : decode cL_crates 314 = .ok (.ifCond .ne 40, 3) := by decide +kernel
theorem dL_crates_317 : decode cL_crates 317 = .ok (.iload 12, 2) := by decide +kernel
theorem dL_crates_319 : decode cL_crates 319 = .ok (.iload 10, 2) := by decide +kernel
theorem dL_crates_321 : decode cL_crates 321 = .ok (.iload 8, 2) := by decide +kernel
theorem dL_crates_323 : decode cL_crates 323 = .ok (.if_icmp .ne 8, 3) := by decide +kernel
theorem dL_crates_326 : decode cL_crates 326 = .ok (.bipush (-9), 2) := by decide +kernel
theorem dL_crates_328 : decode cL_crates 328 = .ok (.goto 5, 3) := by decide +kernel
theorem dL_crates_331 : decode cL_crates 331 = .ok (.bipush (-8), 2) := by decide +kernel
theorem dL_crates_333 : decode cL_crates 333 = .ok (.if_icmp .ne 19, 3) := by decide +kernel
theorem dL_crates_336 : decode cL_crates 336 = .ok (.aload_n 0, 1) := by decide +kernel
theorem dL_crates_337 : decode cL_crates 337 = .ok (.aload 4, 2) := by decide +kernel
theorem dL_crates_339 : decode cL_crates 339 = .ok (.aload 5, 2) := by decide +kernel
theorem dL_crates_341 : decode cL_crates 341 = .ok (.lconst 0, 1) := by decide +kernel
theorem dL_crates_342 : decode cL_crates 342 = .ok (.invokestatic 131, 3) := by decide +kernel
theorem dL_crates_345 : decode cL_crates 345 = .ok (.ifCond .eq 7, 3) := by decide +kernel
theorem dL_crates_348 : decode cL_crates 348 = .ok (.iconst 1, 1) := by decide +kernel
theorem dL_crates_349 : decode cL_crates 349 = .ok (.goto 4, 3) := by decide +kernel
theorem dL_crates_352 : decode cL_crates 352 = .ok (.iconst 0, 1) := by decide +kernel
theorem dL_crates_353 : decode cL_crates 353 = .ok (.ireturn, 1) := by decide +kernel
theorem dL_crates_354 : decode cL_crates 354 = .ok (.aload 4, 2) := by decide +kernel
theorem dL_crates_356 : decode cL_crates 356 = .ok (.iconst 1, 1) := by decide +kernel
theorem dL_crates_357 : decode cL_crates 357 = .ok (.dup2, 1) := by decide +kernel
theorem dL_crates_358 : decode cL_crates 358 = .ok (.iaload, 1) := by decide +kernel
theorem dL_crates_359 : decode cL_crates 359 = .ok (.iload 9, 2) := by decide +kernel
theorem dL_crates_361 : decode cL_crates 361 = .ok (.iadd, 1) := by decide +kernel
theorem dL_crates_362 : decode cL_crates 362 = .ok (.iastore, 1) := by decide +kernel
theorem dL_crates_363 : decode cL_crates 363 = .ok (.lconst 0, 1) := by decide +kernel
theorem dL_crates_364 : decode cL_crates 364 = .ok (.lstore 13, 2) := by decide +kernel
theorem dL_crates_366 : decode cL_crates 366 = .ok (.iload 12, 2) := by decide +kernel
theorem dL_crates_368 : decode cL_crates 368 = .ok (.iload 8, 2) := by decide +kernel
theorem dL_crates_370 : decode cL_crates 370 = .ok (.if_icmp .ne 27, 3) := by decide +kernel
theorem dL_crates_373 : decode cL_crates 373 = .ok (.aload_n 0, 1) := by decide +kernel
theorem dL_crates_374 : decode cL_crates 374 = .ok (.iload_n 2, 1) := by decide +kernel
theorem dL_crates_375 : decode cL_crates 375 = .ok (.invokevirtual 114, 3) := by decide +kernel
theorem dL_crates_378 : decode cL_crates 378 = .ok (.iload 10, 2) := by decide +kernel
theorem dL_crates_380 : decode cL_crates 380 = .ok (.if_icmp .ne 17, 3) := by decide +kernel
theorem dL_crates_383 : decode cL_crates 383 = .ok (.aload_n 0, 1) := by decide +kernel
theorem dL_crates_384 : decode cL_crates 384 = .ok (.iload_n 2, 1) := by decide +kernel
theorem dL_crates_385 : decode cL_crates 385 = .ok (.invokevirtual 87, 3) := by decide +kernel
theorem dL_crates_388 : decode cL_crates 388 = .ok (.iload 7, 2) := by decide +kernel
theorem dL_crates_390 : decode cL_crates 390 = .ok (.if_icmp .ne 7, 3) := by decide +kernel
theorem dL_crates_393 : decode cL_crates 393 = .ok (.iconst 1, 1) := by decide +kernel
theorem dL_crates_394 : decode cL_crates 394 = .ok (.goto 4, 3) := by decide +kernel
theorem dL_crates_397 : decode cL_crates 397 = .ok (.iconst 0, 1) := by decide +kernel
theorem dL_crates_398 : decode cL_crates 398 = .ok (.istore 15, 2) := by decide +kernel
theorem dL_crates_400 : decode cL_crates 400 = .ok (.iconst 0, 1) := by decide +kernel
theorem dL_crates_401 : decode cL_crates 401 = .ok (.istore 16, 2) := by decide +kernel
theorem dL_crates_403 : decode cL_crates 403 = .ok (.iload 16, 2) := by decide +kernel
theorem dL_crates_405 : decode cL_crates 405 = .ok (.aload 4, 2) := by decide +kernel
theorem dL_crates_407 : decode cL_crates 407 = .ok (.iconst 0, 1) := by decide +kernel
theorem dL_crates_408 : decode cL_crates 408 = .ok (.iaload, 1) := by decide +kernel
theorem dL_crates_409 : decode cL_crates 409 = .ok (.if_icmp .ge 65, 3) := by decide +kernel
theorem dL_crates_412 : decode cL_crates 412 = .ok (.lload 13, 2) := by decide +kernel
theorem dL_crates_414 : decode cL_crates 414 = .ok (.aload_n 0, 1) := by decide +kernel
theorem dL_crates_415 : decode cL_crates 415 = .ok (.iload 16, 2) := by decide +kernel
theorem dL_crates_417 : decode cL_crates 417 = .ok (.invokevirtual 65, 3) := by decide +kernel
theorem dL_crates_420 : decode cL_crates 420 = .ok (.iload_n 2, 1) := by decide +kernel
theorem dL_crates_421 : decode cL_crates 421 = .ok (.if_icmp .ne 10, 3) := by decide +kernel
theorem dL_crates_424 : decode cL_crates 424 = .ok (.lconst 1, 1) := by decide +kernel
theorem dL_crates_425 : decode cL_crates 425 = .ok (.iload 16, 2) := by decide +kernel
theorem dL_crates_427 : decode cL_crates 427 = .ok (.lshl, 1) := by decide +kernel
theorem dL_crates_428 : decode cL_crates 428 = .ok (.goto 4, 3) := by decide +kernel
theorem dL_crates_431 : decode cL_crates 431 = .ok (.lconst 0, 1) := by decide +kernel
theorem dL_crates_432 : decode cL_crates 432 = .ok (.lor, 1) := by decide +kernel
theorem dL_crates_433 : decode cL_crates 433 = .ok (.lstore 13, 2) := by decide +kernel
theorem dL_crates_435 : decode cL_crates 435 = .ok (.iload 15, 2) := by decide +kernel
theorem dL_crates_437 : decode cL_crates 437 = .ok (.ifCond .eq 28, 3) := by decide +kernel
theorem dL_crates_440 : decode cL_crates 440 = .ok (.aload_n 0, 1) := by decide +kernel
theorem dL_crates_441 : decode cL_crates 441 = .ok (.iload 16, 2) := by decide +kernel
theorem dL_crates_443 : decode cL_crates 443 = .ok (.invokevirtual 65, 3) := by decide +kernel
theorem dL_crates_446 : decode cL_crates 446 = .ok (.iload_n 2, 1) := by decide +kernel
theorem dL_crates_447 : decode cL_crates 447 = .ok (.if_icmp .ne 14, 3) := by decide +kernel
theorem dL_crates_450 : decode cL_crates 450 = .ok (.aload_n 0, 1) := by decide +kernel
theorem dL_crates_451 : decode cL_crates 451 = .ok (.iload 16, 2) := by decide +kernel
theorem dL_crates_453 : decode cL_crates 453 = .ok (.invokevirtual 62, 3) := by decide +kernel
theorem dL_crates_456 : decode cL_crates 456 = .ok (.iload 10, 2) := by decide +kernel
theorem dL_crates_458 : decode cL_crates 458 = .ok (.if_icmp .ne 7, 3) := by decide +kernel
theorem dL_crates_461 : decode cL_crates 461 = .ok (.iconst 1, 1) := by decide +kernel
theorem dL_crates_462 : decode cL_crates 462 = .ok (.goto 4, 3) := by decide +kernel
theorem dL_crates_465 : decode cL_crates 465 = .ok (.iconst 0, 1) := by decide +kernel
theorem dL_crates_466 : decode cL_crates 466 = .ok (.istore 15, 2) := by decide +kernel
theorem dL_crates_468 : decode cL_crates 468 = .ok (.iinc 16 1, 3) := by decide +kernel
theorem dL_crates_471 : decode cL_crates 471 = .ok (.goto (-68), 3) := by decide +kernel
theorem dL_crates_474 : decode cL_crates 474 = .ok (.iload 15, 2) := by decide +kernel
theorem dL_crates_476 : decode cL_crates 476 = .ok (.ifCond .eq 32, 3) := by decide +kernel
theorem dL_crates_479 : decode cL_crates 479 = .ok (.aload_n 0, 1) := by decide +kernel
theorem dL_crates_480 : decode cL_crates 480 = .ok (.aload 4, 2) := by decide +kernel
theorem dL_crates_482 : decode cL_crates 482 = .ok (.iload_n 2, 1) := by decide +kernel
theorem dL_crates_483 : decode cL_crates 483 = .ok (.invokestatic 135, 3) := by decide +kernel
theorem dL_crates_486 : decode cL_crates 486 = .ok (.iload 9, 2) := by decide +kernel
theorem dL_crates_488 : decode cL_crates 488 = .ok (.if_icmp .ne 20, 3) := by decide +kernel
theorem dL_crates_491 : decode cL_crates 491 = .ok (.aload_n 0, 1) := by decide +kernel
theorem dL_crates_492 : decode cL_crates 492 = .ok (.aload 4, 2) := by decide +kernel
theorem dL_crates_494 : decode cL_crates 494 = .ok (.aload 5, 2) := by decide +kernel
theorem dL_crates_496 : decode cL_crates 496 = .ok (.lload 13, 2) := by decide +kernel
theorem dL_crates_498 : decode cL_crates 498 = .ok (.invokestatic 131, 3) := by decide +kernel
theorem dL_crates_501 : decode cL_crates 501 = .ok (.ifCond .eq 7, 3) := by decide +kernel
theorem dL_crates_504 : decode cL_crates 504 = .ok (.iconst 1, 1) := by decide +kernel
theorem dL_crates_505 : decode cL_crates 505 = .ok (.goto 4, 3) := by decide +kernel
theorem dL_crates_508 : decode cL_crates 508 = .ok (.iconst 0, 1) := by decide +kernel
theorem dL_crates_509 : decode cL_crates 509 = .ok (.ireturn, 1) := by decide +kernel
theorem dL_certifies_0 : decode cL_certifies 0 = .ok (.iconst 0, 1) := by decide +kernel
theorem dL_certifies_1 : decode cL_certifies 1 = .ok (.istore 5, 2) := by decide +kernel
theorem dL_certifies_3 : decode cL_certifies 3 = .ok (.lconst 0, 1) := by decide +kernel
theorem dL_certifies_4 : decode cL_certifies 4 = .ok (.lstore 6, 2) := by decide +kernel
theorem dL_certifies_6 : decode cL_certifies 6 = .ok (.iconst 0, 1) := by decide +kernel
theorem dL_certifies_7 : decode cL_certifies 7 = .ok (.istore 8, 2) := by decide +kernel
theorem dL_certifies_9 : decode cL_certifies 9 = .ok (.iload 8, 2) := by decide +kernel
theorem dL_certifies_11 : decode cL_certifies 11 = .ok (.aload_n 2, 1) := by decide +kernel
theorem dL_certifies_12 : decode cL_certifies 12 = .ok (.iconst 0, 1) := by decide +kernel
theorem dL_certifies_13 : decode cL_certifies 13 = .ok (.iaload, 1) := by decide +kernel
theorem dL_certifies_14 : decode cL_certifies 14 = .ok (.if_icmp .ge 88, 3) := by decide +kernel
theorem dL_certifies_17 : decode cL_certifies 17 = .ok (.aload_n 0, 1) := by decide +kernel
theorem dL_certifies_18 : decode cL_certifies 18 = .ok (.iload 8, 2) := by decide +kernel
theorem dL_certifies_20 : decode cL_certifies 20 = .ok (.invokevirtual 62, 3) := by decide +kernel
theorem dL_certifies_23 : decode cL_certifies 23 = .ok (.iload_n 1, 1) := by decide +kernel
theorem dL_certifies_24 : decode cL_certifies 24 = .ok (.if_icmp .ne 36, 3) := by decide +kernel
theorem dL_certifies_27 : decode cL_certifies 27 = .ok (.aload_n 0, 1) := by decide +kernel
theorem dL_certifies_28 : decode cL_certifies 28 = .ok (.iload 8, 2) := by decide +kernel
theorem dL_certifies_30 : decode cL_certifies 30 = .ok (.invokevirtual 74, 3) := by decide +kernel
theorem dL_certifies_33 : decode cL_certifies 33 = .ok (.ifCond .eq 27, 3) := by decide +kernel
theorem dL_certifies_36 : decode cL_certifies 36 = .ok (.aload 4, 2) := by decide +kernel
theorem dL_certifies_38 : decode cL_certifies 38 = .ok (.iload 8, 2) := by decide +kernel
theorem dL_certifies_40 : decode cL_certifies 40 = .ok (.invokestatic 90, 3) := by decide +kernel
theorem dL_certifies_43 : decode cL_certifies 43 = .ok (.ifCond .ne 17, 3) := by decide +kernel
theorem dL_certifies_46 : decode cL_certifies 46 = .ok (.aload_n 0, 1) := by decide +kernel
theorem dL_certifies_47 : decode cL_certifies 47 = .ok (.iload 8, 2) := by decide +kernel
theorem dL_certifies_49 : decode cL_certifies 49 = .ok (.invokevirtual 78, 3) := by decide +kernel
theorem dL_certifies_52 : decode cL_certifies 52 = .ok (.iconst (-1), 1) := by decide +kernel
theorem dL_certifies_53 : decode cL_certifies 53 = .ok (.if_icmp .ne 7, 3) := by decide +kernel
theorem dL_certifies_56 : decode cL_certifies 56 = .ok (.iconst 1, 1) := by decide +kernel
theorem dL_certifies_57 : decode cL_certifies 57 = .ok (.goto 4, 3) := by decide +kernel
theorem dL_certifies_60 : decode cL_certifies 60 = .ok (.iconst 0, 1) := by decide +kernel
theorem dL_certifies_61 : decode cL_certifies 61 = .ok (.istore 9, 2) := by decide +kernel
theorem dL_certifies_63 : decode cL_certifies 63 = .ok (.iload 5, 2) := by decide +kernel
theorem dL_certifies_65 : decode cL_certifies 65 = .ok (.iload 9, 2) := by decide +kernel
theorem dL_certifies_67 : decode cL_certifies 67 = .ok (.ifCond .eq 7, 3) := by decide +kernel
theorem dL_certifies_70 : decode cL_certifies 70 = .ok (.iconst 1, 1) := by decide +kernel
theorem dL_certifies_71 : decode cL_certifies 71 = .ok (.goto 4, 3) := by decide +kernel
theorem dL_certifies_74 : decode cL_certifies 74 = .ok (.iconst 0, 1) := by decide +kernel
theorem dL_certifies_75 : decode cL_certifies 75 = .ok (.iadd, 1) := by decide +kernel
theorem dL_certifies_76 : decode cL_certifies 76 = .ok (.istore 5, 2) := by decide +kernel
theorem dL_certifies_78 : decode cL_certifies 78 = .ok (.lload 6, 2) := by decide +kernel
theorem dL_certifies_80 : decode cL_certifies 80 = .ok (.iload 9, 2) := by decide +kernel
theorem dL_certifies_82 : decode cL_certifies 82 = .ok (.ifCond .eq 10, 3) := by decide +kernel
theorem dL_certifies_85 : decode cL_certifies 85 = .ok (.lconst 1, 1) := by decide +kernel
theorem dL_certifies_86 : decode cL_certifies 86 = .ok (.iload 8, 2) := by decide +kernel
theorem dL_certifies_88 : decode cL_certifies 88 = .ok (.lshl, 1) := by decide +kernel
theorem dL_certifies_89 : decode cL_certifies 89 = .ok (.goto 4, 3) := by decide +kernel
theorem dL_certifies_92 : decode cL_certifies 92 = .ok (.lconst 0, 1) := by decide +kernel
theorem dL_certifies_93 : decode cL_certifies 93 = .ok (.lor, 1) := by decide +kernel
theorem dL_certifies_94 : decode cL_certifies 94 = .ok (.lstore 6, 2) := by decide +kernel
theorem dL_certifies_96 : decode cL_certifies 96 = .ok (.iinc 8 1, 3) := by decide +kernel
theorem dL_certifies_99 : decode cL_certifies 99 = .ok (.goto (-90), 3) := by decide +kernel
theorem dL_certifies_102 : decode cL_certifies 102 = .ok (.aload_n 0, 1) := by decide +kernel
theorem dL_certifies_103 : decode cL_certifies 103 = .ok (.bipush 12, 2) := by decide +kernel
theorem dL_certifies_105 : decode cL_certifies 105 = .ok (.iload_n 1, 1) := by decide +kernel
theorem dL_certifies_106 : decode cL_certifies 106 = .ok (.iconst 0, 1) := by decide +kernel
theorem dL_certifies_107 : decode cL_certifies 107 = .ok (.iconst 0, 1) := by decide +kernel
theorem dL_certifies_108 : decode cL_certifies 108 = .ok (.invokestatic 127, 3) := by decide +kernel
theorem dL_certifies_111 : decode cL_certifies 111 = .ok (.istore 8, 2) := by decide +kernel
theorem dL_certifies_113 : decode cL_certifies 113 = .ok (.iload 8, 2) := by decide +kernel
theorem dL_certifies_115 : decode cL_certifies 115 = .ok (.iload 5, 2) := by decide +kernel
theorem dL_certifies_117 : decode cL_certifies 117 = .ok (.ifCond .ne 8, 3) := by decide +kernel
theorem dL_certifies_120 : decode cL_certifies 120 = .ok (.bipush (-10), 2) := by decide +kernel
theorem dL_certifies_122 : decode cL_certifies 122 = .ok (.goto 5, 3) := by decide +kernel
theorem dL_certifies_125 : decode cL_certifies 125 = .ok (.iload 5, 2) := by decide +kernel
theorem dL_certifies_127 : decode cL_certifies 127 = .ok (.if_icmp .ne 18, 3) := by decide +kernel
theorem dL_certifies_130 : decode cL_certifies 130 = .ok (.aload_n 0, 1) := by decide +kernel
theorem dL_certifies_131 : decode cL_certifies 131 = .ok (.aload_n 2, 1) := by decide +kernel
theorem dL_certifies_132 : decode cL_certifies 132 = .ok (.aload_n 3, 1) := by decide +kernel
theorem dL_certifies_133 : decode cL_certifies 133 = .ok (.lload 6, 2) := by decide +kernel
theorem dL_certifies_135 : decode cL_certifies 135 = .ok (.invokestatic 131, 3) := by decide +kernel
theorem dL_certifies_138 : decode cL_certifies 138 = .ok (.ifCond .eq 7, 3) := by decide +kernel
theorem dL_certifies_141 : decode cL_certifies 141 = .ok (.iconst 1, 1) := by decide +kernel
theorem dL_certifies_142 : decode cL_certifies 142 = .ok (.goto 4, 3) := by decide +kernel
theorem dL_certifies_145 : decode cL_certifies 145 = .ok (.iconst 0, 1) := by decide +kernel
theorem dL_certifies_146 : decode cL_certifies 146 = .ok (.istore 9, 2) := by decide +kernel
theorem dL_certifies_148 : decode cL_certifies 148 = .ok (.iconst 0, 1) := by decide +kernel
theorem dL_certifies_149 : decode cL_certifies 149 = .ok (.istore 10, 2) := by decide +kernel
theorem dL_certifies_151 : decode cL_certifies 151 = .ok (.iload 10, 2) := by decide +kernel
theorem dL_certifies_153 : decode cL_certifies 153 = .ok (.aload_n 2, 1) := by decide +kernel
theorem dL_certifies_154 : decode cL_certifies 154 = .ok (.iconst 0, 1) := by decide +kernel
theorem dL_certifies_155 : decode cL_certifies 155 = .ok (.iaload, 1) := by decide +kernel
theorem dL_certifies_156 : decode cL_certifies 156 = .ok (.if_icmp .ge 45, 3) := by decide +kernel
theorem dL_certifies_159 : decode cL_certifies 159 = .ok (.iload 9, 2) := by decide +kernel
theorem dL_certifies_161 : decode cL_certifies 161 = .ok (.ifCond .eq 40, 3) := by decide +kernel
theorem dL_certifies_164 : decode cL_certifies 164 = .ok (.lload 6, 2) := by decide +kernel
theorem dL_certifies_166 : decode cL_certifies 166 = .ok (.iload 10, 2) := by decide +kernel
theorem dL_certifies_168 : decode cL_certifies 168 = .ok (.lshr, 1) := by decide +kernel
theorem dL_certifies_169 : decode cL_certifies 169 = .ok (.lconst 1, 1) := by decide +kernel
theorem dL_certifies_170 : decode cL_certifies 170 = .ok (.land, 1) := by decide +kernel
theorem dL_certifies_171 : decode cL_certifies 171 = .ok (.lconst 0, 1) := by decide +kernel
theorem dL_certifies_172 : decode cL_certifies 172 = .ok (.lcmp, 1) := by decide +kernel
theorem dL_certifies_173 : decode cL_certifies 173 = .ok (.ifCond .eq 15, 3) := by decide +kernel
theorem dL_certifies_176 : decode cL_certifies 176 = .ok (.aload_n 0, 1) := by decide +kernel
theorem dL_certifies_177 : decode cL_certifies 177 = .ok (.iload 10, 2) := by decide +kernel
theorem dL_certifies_179 : decode cL_certifies 179 = .ok (.invokevirtual 78, 3) := by decide +kernel
theorem dL_certifies_182 : decode cL_certifies 182 = .ok (.aload_n 2, 1) := by decide +kernel
theorem dL_certifies_183 : decode cL_certifies 183 = .ok (.iconst 2, 1) := by decide +kernel
theorem dL_certifies_184 : decode cL_certifies 184 = .ok (.iaload, 1) := by decide +kernel
theorem dL_certifies_185 : decode cL_certifies 185 = .ok (.if_icmp .ne 7, 3) := by decide +kernel
theorem dL_certifies_188 : decode cL_certifies 188 = .ok (.iconst 1, 1) := by decide +kernel
theorem dL_certifies_189 : decode cL_certifies 189 = .ok (.goto 4, 3) := by decide +kernel
theorem dL_certifies_192 : decode cL_certifies 192 = .ok (.iconst 0, 1) := by decide +kernel
theorem dL_certifies_193 : decode cL_certifies 193 = .ok (.istore 9, 2) := by decide +kernel
theorem dL_certifies_195 : decode cL_certifies 195 = .ok (.iinc 10 1, 3) := by decide +kernel
theorem dL_certifies_198 : decode cL_certifies 198 = .ok (.goto (-47), 3) := by decide +kernel
theorem dL_certifies_201 : decode cL_certifies 201 = .ok (.aload_n 2, 1) := by decide +kernel
theorem dL_certifies_202 : decode cL_certifies 202 = .ok (.iconst 2, 1) := by decide +kernel
theorem dL_certifies_203 : decode cL_certifies 203 = .ok (.dup2, 1) := by decide +kernel
theorem dL_certifies_204 : decode cL_certifies 204 = .ok (.iaload, 1) := by decide +kernel
theorem dL_certifies_205 : decode cL_certifies 205 = .ok (.iload 5, 2) := by decide +kernel
theorem dL_certifies_207 : decode cL_certifies 207 = .ok (.ifCond .ne 7, 3) := by decide +kernel
theorem dL_certifies_210 : decode cL_certifies 210 = .ok (.iconst 0, 1) := by decide +kernel
theorem dL_certifies_211 : decode cL_certifies 211 = .ok (.goto 4, 3) := by decide +kernel
theorem dL_certifies_214 : decode cL_certifies 214 = .ok (.iconst 1, 1) := by decide +kernel
theorem dL_certifies_215 : decode cL_certifies 215 = .ok (.iadd, 1) := by decide +kernel
theorem dL_certifies_216 : decode cL_certifies 216 = .ok (.iastore, 1) := by decide +kernel
theorem dL_certifies_217 : decode cL_certifies 217 = .ok (.iload 9, 2) := by decide +kernel
theorem dL_certifies_219 : decode cL_certifies 219 = .ok (.ireturn, 1) := by decide +kernel
theorem dL_step_0 : decode cL_step 0 = .ok (.iload_n 1, 1) := by decide +kernel
theorem dL_step_1 : decode cL_step 1 = .ok (.iconst 4, 1) := by decide +kernel
theorem dL_step_2 : decode cL_step 2 = .ok (.if_icmp .lt 10, 3) := by decide +kernel
theorem dL_step_5 : decode cL_step 5 = .ok (.aload 4, 2) := by decide +kernel
theorem dL_step_7 : decode cL_step 7 = .ok (.iconst 0, 1) := by decide +kernel
theorem dL_step_8 : decode cL_step 8 = .ok (.iaload, 1) := by decide +kernel
theorem dL_step_9 : decode cL_step 9 = .ok (.ifCond .ne 121, 3) := by decide +kernel
theorem dL_step_12 : decode cL_step 12 = .ok (.aload 4, 2) := by decide +kernel
theorem dL_step_14 : decode cL_step 14 = .ok (.iconst 0, 1) := by decide +kernel
theorem dL_step_15 : decode cL_step 15 = .ok (.iaload, 1) := by decide +kernel
theorem dL_step_16 : decode cL_step 16 = .ok (.bipush 60, 2) := by decide +kernel
theorem dL_step_18 : decode cL_step 18 = .ok (.if_icmp .ne 5, 3) := by decide +kernel
theorem dL_step_21 : decode cL_step 21 = .ok (.iconst 1, 1) := by decide +kernel
theorem dL_step_22 : decode cL_step 22 = .ok (.ireturn, 1) := by decide +kernel
theorem dL_step_23 : decode cL_step 23 = .ok (.aload 6, 2) := by decide +kernel
theorem dL_step_25 : decode cL_step 25 = .ok (.aload 4, 2) := by decide +kernel
theorem dL_step_27 : decode cL_step 27 = .ok (.iconst 0, 1) := by decide +kernel
theorem dL_step_28 : decode cL_step 28 = .ok (.iaload, 1) := by decide +kernel
theorem dL_step_29 : decode cL_step 29 = .ok (.iload_n 2, 1) := by decide +kernel
theorem dL_step_30 : decode cL_step 30 = .ok (.iconst 3, 1) := by decide +kernel
theorem dL_step_31 : decode cL_step 31 = .ok (.irem, 1) := by decide +kernel
theorem dL_step_32 : decode cL_step 32 = .ok (.iload_n 2, 1) := by decide +kernel
theorem dL_step_33 : decode cL_step 33 = .ok (.iconst 3, 1) := by decide +kernel
theorem dL_step_34 : decode cL_step 34 = .ok (.idiv, 1) := by decide +kernel
theorem dL_step_35 : decode cL_step 35 = .ok (.iconst 4, 1) := by decide +kernel
theorem dL_step_36 : decode cL_step 36 = .ok (.irem, 1) := by decide +kernel
theorem dL_step_37 : decode cL_step 37 = .ok (.iconst 2, 1) := by decide +kernel
theorem dL_step_38 : decode cL_step 38 = .ok (.ishl, 1) := by decide +kernel
theorem dL_step_39 : decode cL_step 39 = .ok (.ior, 1) := by decide +kernel
theorem dL_step_40 : decode cL_step 40 = .ok (.iastore, 1) := by decide +kernel
theorem dL_step_41 : decode cL_step 41 = .ok (.aload 4, 2) := by decide +kernel
theorem dL_step_43 : decode cL_step 43 = .ok (.iconst 0, 1) := by decide +kernel
theorem dL_step_44 : decode cL_step 44 = .ok (.dup2, 1) := by decide +kernel
theorem dL_step_45 : decode cL_step 45 = .ok (.iaload, 1) := by decide +kernel
theorem dL_step_46 : decode cL_step 46 = .ok (.iconst 1, 1) := by decide +kernel
theorem dL_step_47 : decode cL_step 47 = .ok (.iadd, 1) := by decide +kernel
theorem dL_step_48 : decode cL_step 48 = .ok (.iastore, 1) := by decide +kernel
theorem dL_step_49 : decode cL_step 49 = .ok (.aload 4, 2) := by decide +kernel
theorem dL_step_51 : decode cL_step 51 = .ok (.iconst 1, 1) := by decide +kernel
theorem dL_step_52 : decode cL_step 52 = .ok (.dup2, 1) := by decide +kernel
theorem dL_step_53 : decode cL_step 53 = .ok (.iaload, 1) := by decide +kernel
theorem dL_step_54 : decode cL_step 54 = .ok (.iconst 1, 1) := by decide +kernel
theorem dL_step_55 : decode cL_step 55 = .ok (.iadd, 1) := by decide +kernel
theorem dL_step_56 : decode cL_step 56 = .ok (.iastore, 1) := by decide +kernel
theorem dL_step_57 : decode cL_step 57 = .ok (.aload_n 0, 1) := by decide +kernel
theorem dL_step_58 : decode cL_step 58 = .ok (.iload_n 2, 1) := by decide +kernel
theorem dL_step_59 : decode cL_step 59 = .ok (.iconst 3, 1) := by decide +kernel
theorem dL_step_60 : decode cL_step 60 = .ok (.irem, 1) := by decide +kernel
theorem dL_step_61 : decode cL_step 61 = .ok (.iload_n 2, 1) := by decide +kernel
theorem dL_step_62 : decode cL_step 62 = .ok (.iconst 3, 1) := by decide +kernel
theorem dL_step_63 : decode cL_step 63 = .ok (.idiv, 1) := by decide +kernel
theorem dL_step_64 : decode cL_step 64 = .ok (.iconst 4, 1) := by decide +kernel
theorem dL_step_65 : decode cL_step 65 = .ok (.irem, 1) := by decide +kernel
theorem dL_step_66 : decode cL_step 66 = .ok (.iload_n 3, 1) := by decide +kernel
theorem dL_step_67 : decode cL_step 67 = .ok (.iconst 3, 1) := by decide +kernel
theorem dL_step_68 : decode cL_step 68 = .ok (.irem, 1) := by decide +kernel
theorem dL_step_69 : decode cL_step 69 = .ok (.invokevirtual 139, 3) := by decide +kernel
theorem dL_step_72 : decode cL_step 72 = .ok (.aload 4, 2) := by decide +kernel
theorem dL_step_74 : decode cL_step 74 = .ok (.iconst 0, 1) := by decide +kernel
theorem dL_step_75 : decode cL_step 75 = .ok (.iaload, 1) := by decide +kernel
theorem dL_step_76 : decode cL_step 76 = .ok (.iconst 1, 1) := by decide +kernel
theorem dL_step_77 : decode cL_step 77 = .ok (.isub, 1) := by decide +kernel
theorem dL_step_78 : decode cL_step 78 = .ok (.if_icmp .ne 50, 3) := by decide +kernel
theorem dL_step_81 : decode cL_step 81 = .ok (.aload_n 0, 1) := by decide +kernel
theorem dL_step_82 : decode cL_step 82 = .ok (.aload 4, 2) := by decide +kernel
theorem dL_step_84 : decode cL_step 84 = .ok (.iconst 0, 1) := by decide +kernel
theorem dL_step_85 : decode cL_step 85 = .ok (.iaload, 1) := by decide +kernel
theorem dL_step_86 : decode cL_step 86 = .ok (.iconst 1, 1) := by decide +kernel
theorem dL_step_87 : decode cL_step 87 = .ok (.isub, 1) := by decide +kernel
theorem dL_step_88 : decode cL_step 88 = .ok (.invokevirtual 62, 3) := by decide +kernel
theorem dL_step_91 : decode cL_step 91 = .ok (.iload_n 3, 1) := by decide +kernel
theorem dL_step_92 : decode cL_step 92 = .ok (.iconst 3, 1) := by decide +kernel
theorem dL_step_93 : decode cL_step 93 = .ok (.irem, 1) := by decide +kernel
theorem dL_step_94 : decode cL_step 94 = .ok (.if_icmp .ne 34, 3) := by decide +kernel
theorem dL_step_97 : decode cL_step 97 = .ok (.aload_n 0, 1) := by decide +kernel
theorem dL_step_98 : decode cL_step 98 = .ok (.aload 4, 2) := by decide +kernel
theorem dL_step_100 : decode cL_step 100 = .ok (.iconst 0, 1) := by decide +kernel
theorem dL_step_101 : decode cL_step 101 = .ok (.iaload, 1) := by decide +kernel
theorem dL_step_102 : decode cL_step 102 = .ok (.iconst 1, 1) := by decide +kernel
theorem dL_step_103 : decode cL_step 103 = .ok (.isub, 1) := by decide +kernel
theorem dL_step_104 : decode cL_step 104 = .ok (.invokevirtual 68, 3) := by decide +kernel
theorem dL_step_107 : decode cL_step 107 = .ok (.ifCond .ne 21, 3) := by decide +kernel
theorem dL_step_110 : decode cL_step 110 = .ok (.aload_n 0, 1) := by decide +kernel
theorem dL_step_111 : decode cL_step 111 = .ok (.aload 4, 2) := by decide +kernel
theorem dL_step_113 : decode cL_step 113 = .ok (.iconst 0, 1) := by decide +kernel
theorem dL_step_114 : decode cL_step 114 = .ok (.iaload, 1) := by decide +kernel
theorem dL_step_115 : decode cL_step 115 = .ok (.iconst 1, 1) := by decide +kernel
theorem dL_step_116 : decode cL_step 116 = .ok (.isub, 1) := by decide +kernel
theorem dL_step_117 : decode cL_step 117 = .ok (.invokevirtual 65, 3) := by decide +kernel
theorem dL_step_120 : decode cL_step 120 = .ok (.iconst (-1), 1) := by decide +kernel
theorem dL_step_121 : decode cL_step 121 = .ok (.if_icmp .ne 7, 3) := by decide +kernel
theorem dL_step_124 : decode cL_step 124 = .ok (.iconst 1, 1) := by decide +kernel
theorem dL_step_125 : decode cL_step 125 = .ok (.goto 4, 3) := by decide +kernel
theorem dL_step_128 : decode cL_step 128 = .ok (.iconst 0, 1) := by decide +kernel
theorem dL_step_129 : decode cL_step 129 = .ok (.ireturn, 1) := by decide +kernel
theorem dL_step_130 : decode cL_step 130 = .ok (.aload_n 0, 1) := by decide +kernel
theorem dL_step_131 : decode cL_step 131 = .ok (.aload 4, 2) := by decide +kernel
theorem dL_step_133 : decode cL_step 133 = .ok (.aload 5, 2) := by decide +kernel
theorem dL_step_135 : decode cL_step 135 = .ok (.invokestatic 142, 3) := by decide +kernel
theorem dL_step_138 : decode cL_step 138 = .ok (.iload_n 2, 1) := by decide +kernel
theorem dL_step_139 : decode cL_step 139 = .ok (.aload 4, 2) := by decide +kernel
theorem dL_step_141 : decode cL_step 141 = .ok (.iconst 0, 1) := by decide +kernel
theorem dL_step_142 : decode cL_step 142 = .ok (.iaload, 1) := by decide +kernel
theorem dL_step_143 : decode cL_step 143 = .ok (.irem, 1) := by decide +kernel
theorem dL_step_144 : decode cL_step 144 = .ok (.istore 10, 2) := by decide +kernel
theorem dL_step_146 : decode cL_step 146 = .ok (.iload_n 1, 1) := by decide +kernel
theorem dL_step_147 : decode cL_step 147 = .ok (.bipush 7, 2) := by decide +kernel
theorem dL_step_149 : decode cL_step 149 = .ok (.if_icmp .ge 42, 3) := by decide +kernel
theorem dL_step_152 : decode cL_step 152 = .ok (.aload_n 0, 1) := by decide +kernel
theorem dL_step_153 : decode cL_step 153 = .ok (.aload_n 0, 1) := by decide +kernel
theorem dL_step_154 : decode cL_step 154 = .ok (.iload 10, 2) := by decide +kernel
theorem dL_step_156 : decode cL_step 156 = .ok (.invokevirtual 71, 3) := by decide +kernel
theorem dL_step_159 : decode cL_step 159 = .ok (.ifCond .lt 13, 3) := by decide +kernel
theorem dL_step_162 : decode cL_step 162 = .ok (.iload_n 3, 1) := by decide +kernel
theorem dL_step_163 : decode cL_step 163 = .ok (.iconst 4, 1) := by decide +kernel
theorem dL_step_164 : decode cL_step 164 = .ok (.irem, 1) := by decide +kernel
theorem dL_step_165 : decode cL_step 165 = .ok (.ifCond .le 7, 3) := by decide +kernel
theorem dL_step_168 : decode cL_step 168 = .ok (.iconst 1, 1) := by decide +kernel
theorem dL_step_169 : decode cL_step 169 = .ok (.goto 4, 3) := by decide +kernel
theorem dL_step_172 : decode cL_step 172 = .ok (.iconst 0, 1) := by decide +kernel
theorem dL_step_173 : decode cL_step 173 = .ok (.iload 10, 2) := by decide +kernel
theorem dL_step_175 : decode cL_step 175 = .ok (.iload_n 3, 1) := by decide +kernel
theorem dL_step_176 : decode cL_step 176 = .ok (.iconst 4, 1) := by decide +kernel
theorem dL_step_177 : decode cL_step 177 = .ok (.idiv, 1) := by decide +kernel
theorem dL_step_178 : decode cL_step 178 = .ok (.bipush 8, 2) := by decide +kernel
theorem dL_step_180 : decode cL_step 180 = .ok (.irem, 1) := by decide +kernel
theorem dL_step_181 : decode cL_step 181 = .ok (.aload 4, 2) := by decide +kernel
theorem dL_step_183 : decode cL_step 183 = .ok (.aload 5, 2) := by decide +kernel
theorem dL_step_185 : decode cL_step 185 = .ok (.aload 9, 2) := by decide +kernel
theorem dL_step_187 : decode cL_step 187 = .ok (.invokestatic 146, 3) := by decide +kernel
theorem dL_step_190 : decode cL_step 190 = .ok (.ireturn, 1) := by decide +kernel
theorem dL_step_191 : decode cL_step 191 = .ok (.iload_n 1, 1) := by decide +kernel
theorem dL_step_192 : decode cL_step 192 = .ok (.bipush 11, 2) := by decide +kernel
theorem dL_step_194 : decode cL_step 194 = .ok (.if_icmp .ge 30, 3) := by decide +kernel
theorem dL_step_197 : decode cL_step 197 = .ok (.aload_n 0, 1) := by decide +kernel
theorem dL_step_198 : decode cL_step 198 = .ok (.iload_n 1, 1) := by decide +kernel
theorem dL_step_199 : decode cL_step 199 = .ok (.bipush 10, 2) := by decide +kernel
theorem dL_step_201 : decode cL_step 201 = .ok (.if_icmp .ge 7, 3) := by decide +kernel
theorem dL_step_204 : decode cL_step 204 = .ok (.iconst 2, 1) := by decide +kernel
theorem dL_step_205 : decode cL_step 205 = .ok (.goto 4, 3) := by decide +kernel
theorem dL_step_208 : decode cL_step 208 = .ok (.iconst 3, 1) := by decide +kernel
theorem dL_step_209 : decode cL_step 209 = .ok (.iload 10, 2) := by decide +kernel
theorem dL_step_211 : decode cL_step 211 = .ok (.iload_n 3, 1) := by decide +kernel
theorem dL_step_212 : decode cL_step 212 = .ok (.iconst 4, 1) := by decide +kernel
theorem dL_step_213 : decode cL_step 213 = .ok (.irem, 1) := by decide +kernel
theorem dL_step_214 : decode cL_step 214 = .ok (.aload 4, 2) := by decide +kernel
theorem dL_step_216 : decode cL_step 216 = .ok (.aload 5, 2) := by decide +kernel
theorem dL_step_218 : decode cL_step 218 = .ok (.aload 9, 2) := by decide +kernel
theorem dL_step_220 : decode cL_step 220 = .ok (.invokestatic 150, 3) := by decide +kernel
theorem dL_step_223 : decode cL_step 223 = .ok (.ireturn, 1) := by decide +kernel
theorem dL_step_224 : decode cL_step 224 = .ok (.iload_n 1, 1) := by decide +kernel
theorem dL_step_225 : decode cL_step 225 = .ok (.bipush 17, 2) := by decide +kernel
theorem dL_step_227 : decode cL_step 227 = .ok (.if_icmp .ge 86, 3) := by decide +kernel
theorem dL_step_230 : decode cL_step 230 = .ok (.iload_n 3, 1) := by decide +kernel
theorem dL_step_231 : decode cL_step 231 = .ok (.iconst 3, 1) := by decide +kernel
theorem dL_step_232 : decode cL_step 232 = .ok (.irem, 1) := by decide +kernel
theorem dL_step_233 : decode cL_step 233 = .ok (.ifCond .le 13, 3) := by decide +kernel
theorem dL_step_236 : decode cL_step 236 = .ok (.aload 6, 2) := by decide +kernel
theorem dL_step_238 : decode cL_step 238 = .ok (.iload 10, 2) := by decide +kernel
theorem dL_step_240 : decode cL_step 240 = .ok (.iaload, 1) := by decide +kernel
theorem dL_step_241 : decode cL_step 241 = .ok (.iconst 3, 1) := by decide +kernel
theorem dL_step_242 : decode cL_step 242 = .ok (.iand, 1) := by decide +kernel
theorem dL_step_243 : decode cL_step 243 = .ok (.goto 8, 3) := by decide +kernel
theorem dL_step_246 : decode cL_step 246 = .ok (.iload_n 3, 1) := by decide +kernel
theorem dL_step_247 : decode cL_step 247 = .ok (.iconst 3, 1) := by decide +kernel
theorem dL_step_248 : decode cL_step 248 = .ok (.idiv, 1) := by decide +kernel
theorem dL_step_249 : decode cL_step 249 = .ok (.iconst 3, 1) := by decide +kernel
theorem dL_step_250 : decode cL_step 250 = .ok (.irem, 1) := by decide +kernel
theorem dL_step_251 : decode cL_step 251 = .ok (.istore 11, 2) := by decide +kernel
theorem dL_step_253 : decode cL_step 253 = .ok (.aload_n 0, 1) := by decide +kernel
theorem dL_step_254 : decode cL_step 254 = .ok (.iload_n 1, 1) := by decide +kernel
theorem dL_step_255 : decode cL_step 255 = .ok (.bipush 14, 2) := by decide +kernel
theorem dL_step_257 : decode cL_step 257 = .ok (.if_icmp .ge 7, 3) := by decide +kernel
theorem dL_step_260 : decode cL_step 260 = .ok (.iconst 4, 1) := by decide +kernel
theorem dL_step_261 : decode cL_step 261 = .ok (.goto 15, 3) := by decide +kernel
theorem dL_step_264 : decode cL_step 264 = .ok (.iload_n 1, 1) := by decide +kernel
theorem dL_step_265 : decode cL_step 265 = .ok (.bipush 14, 2) := by decide +kernel
theorem dL_step_267 : decode cL_step 267 = .ok (.if_icmp .ne 7, 3) := by decide +kernel
theorem dL_step_270 : decode cL_step 270 = .ok (.iconst 5, 1) := by decide +kernel
theorem dL_step_271 : decode cL_step 271 = .ok (.goto 5, 3) := by decide +kernel
theorem dL_step_274 : decode cL_step 274 = .ok (.bipush 6, 2) := by decide +kernel
theorem dL_step_276 : decode cL_step 276 = .ok (.iload 10, 2) := by decide +kernel
theorem dL_step_278 : decode cL_step 278 = .ok (.iload_n 1, 1) := by decide +kernel
theorem dL_step_279 : decode cL_step 279 = .ok (.bipush 14, 2) := by decide +kernel
theorem dL_step_281 : decode cL_step 281 = .ok (.if_icmp .ge 8, 3) := by decide +kernel
theorem dL_step_284 : decode cL_step 284 = .ok (.iload 11, 2) := by decide +kernel
theorem dL_step_286 : decode cL_step 286 = .ok (.goto 6, 3) := by decide +kernel
theorem dL_step_289 : decode cL_step 289 = .ok (.iload_n 3, 1) := by decide +kernel
theorem dL_step_290 : decode cL_step 290 = .ok (.iconst 3, 1) := by decide +kernel
theorem dL_step_291 : decode cL_step 291 = .ok (.idiv, 1) := by decide +kernel
theorem dL_step_292 : decode cL_step 292 = .ok (.iload_n 3, 1) := by decide +kernel
theorem dL_step_293 : decode cL_step 293 = .ok (.bipush 9, 2) := by decide +kernel
theorem dL_step_295 : decode cL_step 295 = .ok (.idiv, 1) := by decide +kernel
theorem dL_step_296 : decode cL_step 296 = .ok (.bipush 8, 2) := by decide +kernel
theorem dL_step_298 : decode cL_step 298 = .ok (.irem, 1) := by decide +kernel
theorem dL_step_299 : decode cL_step 299 = .ok (.aload 4, 2) := by decide +kernel
theorem dL_step_301 : decode cL_step 301 = .ok (.aload 5, 2) := by decide +kernel
theorem dL_step_303 : decode cL_step 303 = .ok (.aload 6, 2) := by decide +kernel
theorem dL_step_305 : decode cL_step 305 = .ok (.aload 9, 2) := by decide +kernel
theorem dL_step_307 : decode cL_step 307 = .ok (.aload 8, 2) := by decide +kernel
theorem dL_step_309 : decode cL_step 309 = .ok (.invokestatic 153, 3) := by decide +kernel
theorem dL_step_312 : decode cL_step 312 = .ok (.ireturn, 1) := by decide +kernel
theorem dL_step_313 : decode cL_step 313 = .ok (.iload_n 1, 1) := by decide +kernel
theorem dL_step_314 : decode cL_step 314 = .ok (.bipush 19, 2) := by decide +kernel
theorem dL_step_316 : decode cL_step 316 = .ok (.if_icmp .ge 50, 3) := by decide +kernel
theorem dL_step_319 : decode cL_step 319 = .ok (.aload_n 0, 1) := by decide +kernel
theorem dL_step_320 : decode cL_step 320 = .ok (.aload 9, 2) := by decide +kernel
theorem dL_step_322 : decode cL_step 322 = .ok (.iload 10, 2) := by decide +kernel
theorem dL_step_324 : decode cL_step 324 = .ok (.invokestatic 90, 3) := by decide +kernel
theorem dL_step_327 : decode cL_step 327 = .ok (.ifCond .eq 14, 3) := by decide +kernel
theorem dL_step_330 : decode cL_step 330 = .ok (.iload_n 3, 1) := by decide +kernel
theorem dL_step_331 : decode cL_step 331 = .ok (.iconst 3, 1) := by decide +kernel
theorem dL_step_332 : decode cL_step 332 = .ok (.irem, 1) := by decide +kernel
theorem dL_step_333 : decode cL_step 333 = .ok (.ifCond .le 8, 3) := by decide +kernel
theorem dL_step_336 : decode cL_step 336 = .ok (.bipush 8, 2) := by decide +kernel
theorem dL_step_338 : decode cL_step 338 = .ok (.goto 16, 3) := by decide +kernel
theorem dL_step_341 : decode cL_step 341 = .ok (.iload_n 3, 1) := by decide +kernel
theorem dL_step_342 : decode cL_step 342 = .ok (.iconst 2, 1) := by decide +kernel
theorem dL_step_343 : decode cL_step 343 = .ok (.irem, 1) := by decide +kernel
theorem dL_step_344 : decode cL_step 344 = .ok (.ifCond .ne 8, 3) := by decide +kernel
theorem dL_step_347 : decode cL_step 347 = .ok (.bipush 7, 2) := by decide +kernel
theorem dL_step_349 : decode cL_step 349 = .ok (.goto 5, 3) := by decide +kernel
theorem dL_step_352 : decode cL_step 352 = .ok (.bipush 8, 2) := by decide +kernel
theorem dL_step_354 : decode cL_step 354 = .ok (.iload 10, 2) := by decide +kernel
theorem dL_step_356 : decode cL_step 356 = .ok (.aload 4, 2) := by decide +kernel
theorem dL_step_358 : decode cL_step 358 = .ok (.aload 5, 2) := by decide +kernel
theorem dL_step_360 : decode cL_step 360 = .ok (.aload 9, 2) := by decide +kernel
theorem dL_step_362 : decode cL_step 362 = .ok (.invokestatic 157, 3) := by decide +kernel
theorem dL_step_365 : decode cL_step 365 = .ok (.ireturn, 1) := by decide +kernel
theorem dL_step_366 : decode cL_step 366 = .ok (.iload_n 1, 1) := by decide +kernel
theorem dL_step_367 : decode cL_step 367 = .ok (.bipush 23, 2) := by decide +kernel
theorem dL_step_369 : decode cL_step 369 = .ok (.if_icmp .ge 71, 3) := by decide +kernel
theorem dL_step_372 : decode cL_step 372 = .ok (.iload_n 2, 1) := by decide +kernel
theorem dL_step_373 : decode cL_step 373 = .ok (.bipush 60, 2) := by decide +kernel
theorem dL_step_375 : decode cL_step 375 = .ok (.idiv, 1) := by decide +kernel
theorem dL_step_376 : decode cL_step 376 = .ok (.iconst 4, 1) := by decide +kernel
theorem dL_step_377 : decode cL_step 377 = .ok (.irem, 1) := by decide +kernel
theorem dL_step_378 : decode cL_step 378 = .ok (.istore 11, 2) := by decide +kernel
theorem dL_step_380 : decode cL_step 380 = .ok (.aload_n 0, 1) := by decide +kernel
theorem dL_step_381 : decode cL_step 381 = .ok (.iload_n 1, 1) := by decide +kernel
theorem dL_step_382 : decode cL_step 382 = .ok (.bipush 19, 2) := by decide +kernel
theorem dL_step_384 : decode cL_step 384 = .ok (.if_icmp .ne 8, 3) := by decide +kernel
theorem dL_step_387 : decode cL_step 387 = .ok (.bipush 9, 2) := by decide +kernel
theorem dL_step_389 : decode cL_step 389 = .ok (.goto 36, 3) := by decide +kernel
theorem dL_step_392 : decode cL_step 392 = .ok (.iload_n 1, 1) := by decide +kernel
theorem dL_step_393 : decode cL_step 393 = .ok (.bipush 20, 2) := by decide +kernel
theorem dL_step_395 : decode cL_step 395 = .ok (.if_icmp .ne 8, 3) := by decide +kernel
theorem dL_step_398 : decode cL_step 398 = .ok (.bipush 10, 2) := by decide +kernel
theorem dL_step_400 : decode cL_step 400 = .ok (.goto 25, 3) := by decide +kernel
theorem dL_step_403 : decode cL_step 403 = .ok (.aload_n 0, 1) := by decide +kernel
theorem dL_step_404 : decode cL_step 404 = .ok (.iload 11, 2) := by decide +kernel
theorem dL_step_406 : decode cL_step 406 = .ok (.invokevirtual 87, 3) := by decide +kernel
theorem dL_step_409 : decode cL_step 409 = .ok (.ifCond .ge 14, 3) := by decide +kernel
theorem dL_step_412 : decode cL_step 412 = .ok (.iload_n 3, 1) := by decide +kernel
theorem dL_step_413 : decode cL_step 413 = .ok (.iconst 3, 1) := by decide +kernel
theorem dL_step_414 : decode cL_step 414 = .ok (.irem, 1) := by decide +kernel
theorem dL_step_415 : decode cL_step 415 = .ok (.ifCond .le 8, 3) := by decide +kernel
theorem dL_step_418 : decode cL_step 418 = .ok (.bipush 9, 2) := by decide +kernel
theorem dL_step_420 : decode cL_step 420 = .ok (.goto 5, 3) := by decide +kernel
theorem dL_step_423 : decode cL_step 423 = .ok (.bipush 11, 2) := by decide +kernel
theorem dL_step_425 : decode cL_step 425 = .ok (.iload 11, 2) := by decide +kernel
theorem dL_step_427 : decode cL_step 427 = .ok (.iload_n 3, 1) := by decide +kernel
theorem dL_step_428 : decode cL_step 428 = .ok (.iconst 3, 1) := by decide +kernel
theorem dL_step_429 : decode cL_step 429 = .ok (.idiv, 1) := by decide +kernel
theorem dL_step_430 : decode cL_step 430 = .ok (.aload 4, 2) := by decide +kernel
theorem dL_step_432 : decode cL_step 432 = .ok (.aload 5, 2) := by decide +kernel
theorem dL_step_434 : decode cL_step 434 = .ok (.aload 7, 2) := by decide +kernel
theorem dL_step_436 : decode cL_step 436 = .ok (.invokestatic 161, 3) := by decide +kernel
theorem dL_step_439 : decode cL_step 439 = .ok (.ireturn, 1) := by decide +kernel
theorem dL_step_440 : decode cL_step 440 = .ok (.aload_n 0, 1) := by decide +kernel
theorem dL_step_441 : decode cL_step 441 = .ok (.iload_n 3, 1) := by decide +kernel
theorem dL_step_442 : decode cL_step 442 = .ok (.bipush 8, 2) := by decide +kernel
theorem dL_step_444 : decode cL_step 444 = .ok (.irem, 1) := by decide +kernel
theorem dL_step_445 : decode cL_step 445 = .ok (.aload 4, 2) := by decide +kernel
theorem dL_step_447 : decode cL_step 447 = .ok (.aload 5, 2) := by decide +kernel
theorem dL_step_449 : decode cL_step 449 = .ok (.aload 9, 2) := by decide +kernel
theorem dL_step_451 : decode cL_step 451 = .ok (.invokestatic 165, 3) := by decide +kernel
theorem dL_step_454 : decode cL_step 454 = .ok (.ireturn, 1) := by decide +kernel
theorem dL_book_0 : decode cL_book 0 = .ok (.new 11, 3) := by decide +kernel
theorem dL_book_3 : decode cL_book 3 = .ok (.dup, 1) := by decide +kernel
theorem dL_book_4 : decode cL_book 4 = .ok (.invokespecial 169, 3) := by decide +kernel
theorem dL_book_7 : decode cL_book 7 = .ok (.astore_n 2, 1) := by decide +kernel
theorem dL_book_8 : decode cL_book 8 = .ok (.iconst 5, 1) := by decide +kernel
theorem dL_book_9 : decode cL_book 9 = .ok (.newarray .int, 2) := by decide +kernel
theorem dL_book_11 : decode cL_book 11 = .ok (.astore_n 3, 1) := by decide +kernel
theorem dL_book_12 : decode cL_book 12 = .ok (.bipush 60, 2) := by decide +kernel
theorem dL_book_14 : decode cL_book 14 = .ok (.newarray .int, 2) := by decide +kernel
theorem dL_book_16 : decode cL_book 16 = .ok (.astore 4, 2) := by decide +kernel
theorem dL_book_18 : decode cL_book 18 = .ok (.bipush 60, 2) := by decide +kernel
theorem dL_book_20 : decode cL_book 20 = .ok (.newarray .int, 2) := by decide +kernel
theorem dL_book_22 : decode cL_book 22 = .ok (.astore 5, 2) := by decide +kernel
theorem dL_book_24 : decode cL_book 24 = .ok (.bipush 10, 2) := by decide +kernel
theorem dL_book_26 : decode cL_book 26 = .ok (.newarray .int, 2) := by decide +kernel
theorem dL_book_28 : decode cL_book 28 = .ok (.astore 6, 2) := by decide +kernel
theorem dL_book_30 : decode cL_book 30 = .ok (.bipush 60, 2) := by decide +kernel
theorem dL_book_32 : decode cL_book 32 = .ok (.newarray .int, 2) := by decide +kernel
theorem dL_book_34 : decode cL_book 34 = .ok (.astore 7, 2) := by decide +kernel
theorem dL_book_36 : decode cL_book 36 = .ok (.iconst 1, 1) := by decide +kernel
theorem dL_book_37 : decode cL_book 37 = .ok (.newarray .long, 2) := by decide +kernel
theorem dL_book_39 : decode cL_book 39 = .ok (.astore 8, 2) := by decide +kernel
theorem dL_book_41 : decode cL_book 41 = .ok (.iconst 0, 1) := by decide +kernel
theorem dL_book_42 : decode cL_book 42 = .ok (.istore 9, 2) := by decide +kernel
theorem dL_book_44 : decode cL_book 44 = .ok (.iload 9, 2) := by decide +kernel
theorem dL_book_46 : decode cL_book 46 = .ok (.bipush 60, 2) := by decide +kernel
theorem dL_book_48 : decode cL_book 48 = .ok (.if_icmp .ge 15, 3) := by decide +kernel
theorem dL_book_51 : decode cL_book 51 = .ok (.aload 7, 2) := by decide +kernel
theorem dL_book_53 : decode cL_book 53 = .ok (.iload 9, 2) := by decide +kernel
theorem dL_book_55 : decode cL_book 55 = .ok (.iconst (-1), 1) := by decide +kernel
theorem dL_book_56 : decode cL_book 56 = .ok (.iastore, 1) := by decide +kernel
theorem dL_book_57 : decode cL_book 57 = .ok (.iinc 9 1, 3) := by decide +kernel
theorem dL_book_60 : decode cL_book 60 = .ok (.goto (-16), 3) := by decide +kernel
theorem dL_book_63 : decode cL_book 63 = .ok (.iconst 0, 1) := by decide +kernel
theorem dL_book_64 : decode cL_book 64 = .ok (.istore 9, 2) := by decide +kernel
theorem dL_book_66 : decode cL_book 66 = .ok (.iload 9, 2) := by decide +kernel
theorem dL_book_68 : decode cL_book 68 = .ok (.bipush 70, 2) := by decide +kernel
theorem dL_book_70 : decode cL_book 70 = .ok (.if_icmp .ge 98, 3) := by decide +kernel
theorem dL_book_73 : decode cL_book 73 = .ok (.aload_n 0, 1) := by decide +kernel
theorem dL_book_74 : decode cL_book 74 = .ok (.iload_n 1, 1) := by decide +kernel
theorem dL_book_75 : decode cL_book 75 = .ok (.iconst 3, 1) := by decide +kernel
theorem dL_book_76 : decode cL_book 76 = .ok (.iload 9, 2) := by decide +kernel
theorem dL_book_78 : decode cL_book 78 = .ok (.imul, 1) := by decide +kernel
theorem dL_book_79 : decode cL_book 79 = .ok (.iadd, 1) := by decide +kernel
theorem dL_book_80 : decode cL_book 80 = .ok (.iconst 1, 1) := by decide +kernel
theorem dL_book_81 : decode cL_book 81 = .ok (.iadd, 1) := by decide +kernel
theorem dL_book_82 : decode cL_book 82 = .ok (.ldc 170, 2) := by decide +kernel
theorem dL_book_84 : decode cL_book 84 = .ok (.invokestatic 171, 3) := by decide +kernel
theorem dL_book_87 : decode cL_book 87 = .ok (.istore 10, 2) := by decide +kernel
theorem dL_book_89 : decode cL_book 89 = .ok (.aload_n 0, 1) := by decide +kernel
theorem dL_book_90 : decode cL_book 90 = .ok (.iload_n 1, 1) := by decide +kernel
theorem dL_book_91 : decode cL_book 91 = .ok (.iconst 3, 1) := by decide +kernel
theorem dL_book_92 : decode cL_book 92 = .ok (.iload 9, 2) := by decide +kernel
theorem dL_book_94 : decode cL_book 94 = .ok (.imul, 1) := by decide +kernel
theorem dL_book_95 : decode cL_book 95 = .ok (.iadd, 1) := by decide +kernel
theorem dL_book_96 : decode cL_book 96 = .ok (.iconst 2, 1) := by decide +kernel
theorem dL_book_97 : decode cL_book 97 = .ok (.iadd, 1) := by decide +kernel
theorem dL_book_98 : decode cL_book 98 = .ok (.ldc 170, 2) := by decide +kernel
theorem dL_book_100 : decode cL_book 100 = .ok (.invokestatic 171, 3) := by decide +kernel
theorem dL_book_103 : decode cL_book 103 = .ok (.istore 11, 2) := by decide +kernel
theorem dL_book_105 : decode cL_book 105 = .ok (.aload_n 2, 1) := by decide +kernel
theorem dL_book_106 : decode cL_book 106 = .ok (.iload 9, 2) := by decide +kernel
theorem dL_book_108 : decode cL_book 108 = .ok (.bipush 6, 2) := by decide +kernel
theorem dL_book_110 : decode cL_book 110 = .ok (.if_icmp .ge 7, 3) := by decide +kernel
theorem dL_book_113 : decode cL_book 113 = .ok (.iconst 0, 1) := by decide +kernel
theorem dL_book_114 : decode cL_book 114 = .ok (.goto 15, 3) := by decide +kernel
theorem dL_book_117 : decode cL_book 117 = .ok (.aload_n 0, 1) := by decide +kernel
theorem dL_book_118 : decode cL_book 118 = .ok (.iload_n 1, 1) := by decide +kernel
theorem dL_book_119 : decode cL_book 119 = .ok (.iconst 3, 1) := by decide +kernel
theorem dL_book_120 : decode cL_book 120 = .ok (.iload 9, 2) := by decide +kernel
theorem dL_book_122 : decode cL_book 122 = .ok (.imul, 1) := by decide +kernel
theorem dL_book_123 : decode cL_book 123 = .ok (.iadd, 1) := by decide +kernel
theorem dL_book_124 : decode cL_book 124 = .ok (.bipush 25, 2) := by decide +kernel
theorem dL_book_126 : decode cL_book 126 = .ok (.invokestatic 171, 3) := by decide +kernel
theorem dL_book_129 : decode cL_book 129 = .ok (.iload 10, 2) := by decide +kernel
theorem dL_book_131 : decode cL_book 131 = .ok (.iload 11, 2) := by decide +kernel
theorem dL_book_133 : decode cL_book 133 = .ok (.aload_n 3, 1) := by decide +kernel
theorem dL_book_134 : decode cL_book 134 = .ok (.aload 4, 2) := by decide +kernel
theorem dL_book_136 : decode cL_book 136 = .ok (.aload 5, 2) := by decide +kernel
theorem dL_book_138 : decode cL_book 138 = .ok (.aload 6, 2) := by decide +kernel
theorem dL_book_140 : decode cL_book 140 = .ok (.aload 7, 2) := by decide +kernel
theorem dL_book_142 : decode cL_book 142 = .ok (.aload 8, 2) := by decide +kernel
theorem dL_book_144 : decode cL_book 144 = .ok (.invokestatic 175, 3) := by decide +kernel
theorem dL_book_147 : decode cL_book 147 = .ok (.ifCond .eq 13, 3) := by decide +kernel
theorem dL_book_150 : decode cL_book 150 = .ok (.aload_n 2, 1) := by decide +kernel
theorem dL_book_151 : decode cL_book 151 = .ok (.aload_n 3, 1) := by decide +kernel
theorem dL_book_152 : decode cL_book 152 = .ok (.aload 8, 2) := by decide +kernel
theorem dL_book_154 : decode cL_book 154 = .ok (.invokestatic 179, 3) := by decide +kernel
theorem dL_book_157 : decode cL_book 157 = .ok (.ifCond .ne 5, 3) := by decide +kernel
theorem dL_book_160 : decode cL_book 160 = .ok (.iconst 0, 1) := by decide +kernel
theorem dL_book_161 : decode cL_book 161 = .ok (.ireturn, 1) := by decide +kernel
theorem dL_book_162 : decode cL_book 162 = .ok (.iinc 9 1, 3) := by decide +kernel
theorem dL_book_165 : decode cL_book 165 = .ok (.goto (-99), 3) := by decide +kernel
theorem dL_book_168 : decode cL_book 168 = .ok (.iconst 1, 1) := by decide +kernel
theorem dL_book_169 : decode cL_book 169 = .ok (.ireturn, 1) := by decide +kernel
theorem dL_law_0 : decode cL_law 0 = .ok (.aload_n 0, 1) := by decide +kernel
theorem dL_law_1 : decode cL_law 1 = .ok (.iconst 0, 1) := by decide +kernel
theorem dL_law_2 : decode cL_law 2 = .ok (.invokestatic 183, 3) := by decide +kernel
theorem dL_law_5 : decode cL_law 5 = .ok (.ifCond .eq 27, 3) := by decide +kernel
theorem dL_law_8 : decode cL_law 8 = .ok (.aload_n 0, 1) := by decide +kernel
theorem dL_law_9 : decode cL_law 9 = .ok (.sipush 215, 3) := by decide +kernel
theorem dL_law_12 : decode cL_law 12 = .ok (.invokestatic 183, 3) := by decide +kernel
theorem dL_law_15 : decode cL_law 15 = .ok (.ifCond .eq 17, 3) := by decide +kernel
theorem dL_law_18 : decode cL_law 18 = .ok (.aload_n 0, 1) := by decide +kernel
theorem dL_law_19 : decode cL_law 19 = .ok (.sipush 430, 3) := by decide +kernel
theorem dL_law_22 : decode cL_law 22 = .ok (.invokestatic 183, 3) := by decide +kernel
theorem dL_law_25 : decode cL_law 25 = .ok (.ifCond .eq 7, 3) := by decide +kernel
theorem dL_law_28 : decode cL_law 28 = .ok (.iconst 1, 1) := by decide +kernel
theorem dL_law_29 : decode cL_law 29 = .ok (.goto 4, 3) := by decide +kernel
theorem dL_law_32 : decode cL_law 32 = .ok (.iconst 0, 1) := by decide +kernel
theorem dL_law_33 : decode cL_law 33 = .ok (.ireturn, 1) := by decide +kernel
