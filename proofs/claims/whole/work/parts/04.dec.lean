theorem dX0_init_0 : decode cX0_init 0 = .ok (.aload_n 0, 1) := by decide +kernel
theorem dX0_init_1 : decode cX0_init 1 = .ok (.invokespecial 3, 3) := by decide +kernel
theorem dX0_init_4 : decode cX0_init 4 = .ok (.aload_n 0, 1) := by decide +kernel
theorem dX0_init_5 : decode cX0_init 5 = .ok (.iconst (-1), 1) := by decide +kernel
theorem dX0_init_6 : decode cX0_init 6 = .ok (.putfield 9, 3) := by decide +kernel
theorem dX0_init_9 : decode cX0_init 9 = .ok (.aload_n 0, 1) := by decide +kernel
theorem dX0_init_10 : decode cX0_init 10 = .ok (.iload_n 1, 1) := by decide +kernel
theorem dX0_init_11 : decode cX0_init 11 = .ok (.putfield 15, 3) := by decide +kernel
theorem dX0_init_14 : decode cX0_init 14 = .ok (.return_, 1) := by decide +kernel
theorem dX0_isSealed_0 : decode cX0_isSealed 0 = .ok (.aload_n 0, 1) := by decide +kernel
theorem dX0_isSealed_1 : decode cX0_isSealed 1 = .ok (.getfield 9, 3) := by decide +kernel
theorem dX0_isSealed_4 : decode cX0_isSealed 4 = .ok (.iconst (-1), 1) := by decide +kernel
theorem dX0_isSealed_5 : decode cX0_isSealed 5 = .ok (.if_icmp .eq 7, 3) := by decide +kernel
theorem dX0_isSealed_8 : decode cX0_isSealed 8 = .ok (.iconst 1, 1) := by decide +kernel
theorem dX0_isSealed_9 : decode cX0_isSealed 9 = .ok (.goto 4, 3) := by decide +kernel
theorem dX0_isSealed_12 : decode cX0_isSealed 12 = .ok (.iconst 0, 1) := by decide +kernel
theorem dX0_isSealed_13 : decode cX0_isSealed 13 = .ok (.ireturn, 1) := by decide +kernel
theorem dX1_init_0 : decode cX1_init 0 = .ok (.aload_n 0, 1) := by decide +kernel
theorem dX1_init_1 : decode cX1_init 1 = .ok (.invokespecial 3, 3) := by decide +kernel
theorem dX1_init_4 : decode cX1_init 4 = .ok (.aload_n 0, 1) := by decide +kernel
theorem dX1_init_5 : decode cX1_init 5 = .ok (.iconst (-1), 1) := by decide +kernel
theorem dX1_init_6 : decode cX1_init 6 = .ok (.putfield 9, 3) := by decide +kernel
theorem dX1_init_9 : decode cX1_init 9 = .ok (.aload_n 0, 1) := by decide +kernel
theorem dX1_init_10 : decode cX1_init 10 = .ok (.iconst 0, 1) := by decide +kernel
theorem dX1_init_11 : decode cX1_init 11 = .ok (.putfield 15, 3) := by decide +kernel
theorem dX1_init_14 : decode cX1_init 14 = .ok (.aload_n 0, 1) := by decide +kernel
theorem dX1_init_15 : decode cX1_init 15 = .ok (.iconst (-1), 1) := by decide +kernel
theorem dX1_init_16 : decode cX1_init 16 = .ok (.putfield 18, 3) := by decide +kernel
theorem dX1_init_19 : decode cX1_init 19 = .ok (.aload_n 0, 1) := by decide +kernel
theorem dX1_init_20 : decode cX1_init 20 = .ok (.iconst (-1), 1) := by decide +kernel
theorem dX1_init_21 : decode cX1_init 21 = .ok (.putfield 21, 3) := by decide +kernel
theorem dX1_init_24 : decode cX1_init 24 = .ok (.aload_n 0, 1) := by decide +kernel
theorem dX1_init_25 : decode cX1_init 25 = .ok (.iload_n 1, 1) := by decide +kernel
theorem dX1_init_26 : decode cX1_init 26 = .ok (.putfield 24, 3) := by decide +kernel
theorem dX1_init_29 : decode cX1_init 29 = .ok (.aload_n 0, 1) := by decide +kernel
theorem dX1_init_30 : decode cX1_init 30 = .ok (.iload_n 2, 1) := by decide +kernel
theorem dX1_init_31 : decode cX1_init 31 = .ok (.putfield 27, 3) := by decide +kernel
theorem dX1_init_34 : decode cX1_init 34 = .ok (.return_, 1) := by decide +kernel
theorem dX1_crateNumber_0 : decode cX1_crateNumber 0 = .ok (.aload_n 0, 1) := by decide +kernel
theorem dX1_crateNumber_1 : decode cX1_crateNumber 1 = .ok (.getfield 30, 3) := by decide +kernel
theorem dX1_crateNumber_4 : decode cX1_crateNumber 4 = .ok (.ifnonnull 7, 3) := by decide +kernel
theorem dX1_crateNumber_7 : decode cX1_crateNumber 7 = .ok (.iconst (-1), 1) := by decide +kernel
theorem dX1_crateNumber_8 : decode cX1_crateNumber 8 = .ok (.goto 10, 3) := by decide +kernel
theorem dX1_crateNumber_11 : decode cX1_crateNumber 11 = .ok (.aload_n 0, 1) := by decide +kernel
theorem dX1_crateNumber_12 : decode cX1_crateNumber 12 = .ok (.getfield 30, 3) := by decide +kernel
theorem dX1_crateNumber_15 : decode cX1_crateNumber 15 = .ok (.getfield 34, 3) := by decide +kernel
theorem dX1_crateNumber_18 : decode cX1_crateNumber 18 = .ok (.ireturn, 1) := by decide +kernel
theorem dX1_isSealedIn_0 : decode cX1_isSealedIn 0 = .ok (.aload_n 0, 1) := by decide +kernel
theorem dX1_isSealedIn_1 : decode cX1_isSealedIn 1 = .ok (.getfield 30, 3) := by decide +kernel
theorem dX1_isSealedIn_4 : decode cX1_isSealedIn 4 = .ok (.ifnull 17, 3) := by decide +kernel
theorem dX1_isSealedIn_7 : decode cX1_isSealedIn 7 = .ok (.aload_n 0, 1) := by decide +kernel
theorem dX1_isSealedIn_8 : decode cX1_isSealedIn 8 = .ok (.getfield 30, 3) := by decide +kernel
theorem dX1_isSealedIn_11 : decode cX1_isSealedIn 11 = .ok (.invokevirtual 39, 3) := by decide +kernel
theorem dX1_isSealedIn_14 : decode cX1_isSealedIn 14 = .ok (.ifCond .eq 7, 3) := by decide +kernel
theorem dX1_isSealedIn_17 : decode cX1_isSealedIn 17 = .ok (.iconst 1, 1) := by decide +kernel
theorem dX1_isSealedIn_18 : decode cX1_isSealedIn 18 = .ok (.goto 4, 3) := by decide +kernel
theorem dX1_isSealedIn_21 : decode cX1_isSealedIn 21 = .ok (.iconst 0, 1) := by decide +kernel
theorem dX1_isSealedIn_22 : decode cX1_isSealedIn 22 = .ok (.ireturn, 1) := by decide +kernel
theorem dX1_isFinished_0 : decode cX1_isFinished 0 = .ok (.aload_n 0, 1) := by decide +kernel
theorem dX1_isFinished_1 : decode cX1_isFinished 1 = .ok (.getfield 15, 3) := by decide +kernel
theorem dX1_isFinished_4 : decode cX1_isFinished 4 = .ok (.iconst 3, 1) := by decide +kernel
theorem dX1_isFinished_5 : decode cX1_isFinished 5 = .ok (.if_icmp .eq 18, 3) := by decide +kernel
theorem dX1_isFinished_8 : decode cX1_isFinished 8 = .ok (.aload_n 0, 1) := by decide +kernel
theorem dX1_isFinished_9 : decode cX1_isFinished 9 = .ok (.getfield 15, 3) := by decide +kernel
theorem dX1_isFinished_12 : decode cX1_isFinished 12 = .ok (.iconst 1, 1) := by decide +kernel
theorem dX1_isFinished_13 : decode cX1_isFinished 13 = .ok (.if_icmp .ne 14, 3) := by decide +kernel
theorem dX1_isFinished_16 : decode cX1_isFinished 16 = .ok (.aload_n 0, 1) := by decide +kernel
theorem dX1_isFinished_17 : decode cX1_isFinished 17 = .ok (.getfield 43, 3) := by decide +kernel
theorem dX1_isFinished_20 : decode cX1_isFinished 20 = .ok (.ifCond .eq 7, 3) := by decide +kernel
theorem dX1_isFinished_23 : decode cX1_isFinished 23 = .ok (.iconst 1, 1) := by decide +kernel
theorem dX1_isFinished_24 : decode cX1_isFinished 24 = .ok (.goto 4, 3) := by decide +kernel
theorem dX1_isFinished_27 : decode cX1_isFinished 27 = .ok (.iconst 0, 1) := by decide +kernel
theorem dX1_isFinished_28 : decode cX1_isFinished 28 = .ok (.ireturn, 1) := by decide +kernel
theorem dX1_awaitsCertificate_0 : decode cX1_awaitsCertificate 0 = .ok (.aload_n 0, 1) := by decide +kernel
theorem dX1_awaitsCertificate_1 : decode cX1_awaitsCertificate 1 = .ok (.invokevirtual 47, 3) := by decide +kernel
theorem dX1_awaitsCertificate_4 : decode cX1_awaitsCertificate 4 = .ok (.ifCond .eq 22, 3) := by decide +kernel
theorem dX1_awaitsCertificate_7 : decode cX1_awaitsCertificate 7 = .ok (.aload_n 0, 1) := by decide +kernel
theorem dX1_awaitsCertificate_8 : decode cX1_awaitsCertificate 8 = .ok (.getfield 50, 3) := by decide +kernel
theorem dX1_awaitsCertificate_11 : decode cX1_awaitsCertificate 11 = .ok (.ifCond .ne 15, 3) := by decide +kernel
theorem dX1_awaitsCertificate_14 : decode cX1_awaitsCertificate 14 = .ok (.aload_n 0, 1) := by decide +kernel
theorem dX1_awaitsCertificate_15 : decode cX1_awaitsCertificate 15 = .ok (.getfield 21, 3) := by decide +kernel
theorem dX1_awaitsCertificate_18 : decode cX1_awaitsCertificate 18 = .ok (.iconst (-1), 1) := by decide +kernel
theorem dX1_awaitsCertificate_19 : decode cX1_awaitsCertificate 19 = .ok (.if_icmp .ne 7, 3) := by decide +kernel
theorem dX1_awaitsCertificate_22 : decode cX1_awaitsCertificate 22 = .ok (.iconst 1, 1) := by decide +kernel
theorem dX1_awaitsCertificate_23 : decode cX1_awaitsCertificate 23 = .ok (.goto 4, 3) := by decide +kernel
theorem dX1_awaitsCertificate_26 : decode cX1_awaitsCertificate 26 = .ok (.iconst 0, 1) := by decide +kernel
theorem dX1_awaitsCertificate_27 : decode cX1_awaitsCertificate 27 = .ok (.ireturn, 1) := by decide +kernel
theorem dX2_init_0 : decode cX2_init 0 = .ok (.aload_n 0, 1) := by decide +kernel
theorem dX2_init_1 : decode cX2_init 1 = .ok (.invokespecial 1, 3) := by decide +kernel
theorem dX2_init_4 : decode cX2_init 4 = .ok (.aload_n 0, 1) := by decide +kernel
theorem dX2_init_5 : decode cX2_init 5 = .ok (.bipush 60, 2) := by decide +kernel
theorem dX2_init_7 : decode cX2_init 7 = .ok (.anewarray 9, 3) := by decide +kernel
theorem dX2_init_10 : decode cX2_init 10 = .ok (.putfield 11, 3) := by decide +kernel
theorem dX2_init_13 : decode cX2_init 13 = .ok (.aload_n 0, 1) := by decide +kernel
theorem dX2_init_14 : decode cX2_init 14 = .ok (.bipush 10, 2) := by decide +kernel
theorem dX2_init_16 : decode cX2_init 16 = .ok (.anewarray 15, 3) := by decide +kernel
theorem dX2_init_19 : decode cX2_init 19 = .ok (.putfield 17, 3) := by decide +kernel
theorem dX2_init_22 : decode cX2_init 22 = .ok (.iconst 0, 1) := by decide +kernel
theorem dX2_init_23 : decode cX2_init 23 = .ok (.istore_n 1, 1) := by decide +kernel
theorem dX2_init_24 : decode cX2_init 24 = .ok (.iload_n 1, 1) := by decide +kernel
theorem dX2_init_25 : decode cX2_init 25 = .ok (.bipush 10, 2) := by decide +kernel
theorem dX2_init_27 : decode cX2_init 27 = .ok (.if_icmp .ge 23, 3) := by decide +kernel
theorem dX2_init_30 : decode cX2_init 30 = .ok (.aload_n 0, 1) := by decide +kernel
theorem dX2_init_31 : decode cX2_init 31 = .ok (.getfield 17, 3) := by decide +kernel
theorem dX2_init_34 : decode cX2_init 34 = .ok (.iload_n 1, 1) := by decide +kernel
theorem dX2_init_35 : decode cX2_init 35 = .ok (.new 15, 3) := by decide +kernel
theorem dX2_init_38 : decode cX2_init 38 = .ok (.dup, 1) := by decide +kernel
theorem dX2_init_39 : decode cX2_init 39 = .ok (.iload_n 1, 1) := by decide +kernel
theorem dX2_init_40 : decode cX2_init 40 = .ok (.invokespecial 21, 3) := by decide +kernel
theorem dX2_init_43 : decode cX2_init 43 = .ok (.aastore, 1) := by decide +kernel
theorem dX2_init_44 : decode cX2_init 44 = .ok (.iinc 1 1, 3) := by decide +kernel
theorem dX2_init_47 : decode cX2_init 47 = .ok (.goto (-23), 3) := by decide +kernel
theorem dX2_init_50 : decode cX2_init 50 = .ok (.return_, 1) := by decide +kernel
theorem dX2_bring_0 : decode cX2_bring 0 = .ok (.iload_n 3, 1) := by decide +kernel
theorem dX2_bring_1 : decode cX2_bring 1 = .ok (.invokestatic 24, 3) := by decide +kernel
theorem dX2_bring_4 : decode cX2_bring 4 = .ok (.iload_n 1, 1) := by decide +kernel
theorem dX2_bring_5 : decode cX2_bring 5 = .ok (.ifCond .lt 17, 3) := by decide +kernel
theorem dX2_bring_8 : decode cX2_bring 8 = .ok (.iload_n 1, 1) := by decide +kernel
theorem dX2_bring_9 : decode cX2_bring 9 = .ok (.iconst 3, 1) := by decide +kernel
theorem dX2_bring_10 : decode cX2_bring 10 = .ok (.if_icmp .ge 12, 3) := by decide +kernel
theorem dX2_bring_13 : decode cX2_bring 13 = .ok (.iload_n 2, 1) := by decide +kernel
theorem dX2_bring_14 : decode cX2_bring 14 = .ok (.ifCond .lt 8, 3) := by decide +kernel
theorem dX2_bring_17 : decode cX2_bring 17 = .ok (.iload_n 2, 1) := by decide +kernel
theorem dX2_bring_18 : decode cX2_bring 18 = .ok (.iconst 4, 1) := by decide +kernel
theorem dX2_bring_19 : decode cX2_bring 19 = .ok (.if_icmp .lt 13, 3) := by decide +kernel
theorem dX2_bring_22 : decode cX2_bring 22 = .ok (.new 27, 3) := by decide +kernel
theorem dX2_bring_25 : decode cX2_bring 25 = .ok (.dup, 1) := by decide +kernel
theorem dX2_bring_26 : decode cX2_bring 26 = .ok (.ldc 29, 2) := by decide +kernel
theorem dX2_bring_28 : decode cX2_bring 28 = .ok (.invokespecial 31, 3) := by decide +kernel
theorem dX2_bring_31 : decode cX2_bring 31 = .ok (.athrow, 1) := by decide +kernel
theorem dX2_bring_32 : decode cX2_bring 32 = .ok (.aload_n 0, 1) := by decide +kernel
theorem dX2_bring_33 : decode cX2_bring 33 = .ok (.getfield 34, 3) := by decide +kernel
theorem dX2_bring_36 : decode cX2_bring 36 = .ok (.ifCond .lt 15, 3) := by decide +kernel
theorem dX2_bring_39 : decode cX2_bring 39 = .ok (.aload_n 0, 1) := by decide +kernel
theorem dX2_bring_40 : decode cX2_bring 40 = .ok (.getfield 34, 3) := by decide +kernel
theorem dX2_bring_43 : decode cX2_bring 43 = .ok (.aload_n 0, 1) := by decide +kernel
theorem dX2_bring_44 : decode cX2_bring 44 = .ok (.getfield 11, 3) := by decide +kernel
theorem dX2_bring_47 : decode cX2_bring 47 = .ok (.arraylength, 1) := by decide +kernel
theorem dX2_bring_48 : decode cX2_bring 48 = .ok (.if_icmp .lt 13, 3) := by decide +kernel
theorem dX2_bring_51 : decode cX2_bring 51 = .ok (.new 38, 3) := by decide +kernel
theorem dX2_bring_54 : decode cX2_bring 54 = .ok (.dup, 1) := by decide +kernel
theorem dX2_bring_55 : decode cX2_bring 55 = .ok (.ldc 40, 2) := by decide +kernel
theorem dX2_bring_57 : decode cX2_bring 57 = .ok (.invokespecial 42, 3) := by decide +kernel
theorem dX2_bring_60 : decode cX2_bring 60 = .ok (.athrow, 1) := by decide +kernel
theorem dX2_bring_61 : decode cX2_bring 61 = .ok (.new 9, 3) := by decide +kernel
theorem dX2_bring_64 : decode cX2_bring 64 = .ok (.dup, 1) := by decide +kernel
theorem dX2_bring_65 : decode cX2_bring 65 = .ok (.iload_n 1, 1) := by decide +kernel
theorem dX2_bring_66 : decode cX2_bring 66 = .ok (.iload_n 2, 1) := by decide +kernel
theorem dX2_bring_67 : decode cX2_bring 67 = .ok (.invokespecial 43, 3) := by decide +kernel
theorem dX2_bring_70 : decode cX2_bring 70 = .ok (.astore 4, 2) := by decide +kernel
theorem dX2_bring_72 : decode cX2_bring 72 = .ok (.aload_n 0, 1) := by decide +kernel
theorem dX2_bring_73 : decode cX2_bring 73 = .ok (.getfield 34, 3) := by decide +kernel
theorem dX2_bring_76 : decode cX2_bring 76 = .ok (.istore 5, 2) := by decide +kernel
theorem dX2_bring_78 : decode cX2_bring 78 = .ok (.aload_n 0, 1) := by decide +kernel
theorem dX2_bring_79 : decode cX2_bring 79 = .ok (.getfield 11, 3) := by decide +kernel
theorem dX2_bring_82 : decode cX2_bring 82 = .ok (.iload 5, 2) := by decide +kernel
theorem dX2_bring_84 : decode cX2_bring 84 = .ok (.aload 4, 2) := by decide +kernel
theorem dX2_bring_86 : decode cX2_bring 86 = .ok (.aastore, 1) := by decide +kernel
theorem dX2_bring_87 : decode cX2_bring 87 = .ok (.aload_n 0, 1) := by decide +kernel
theorem dX2_bring_88 : decode cX2_bring 88 = .ok (.dup, 1) := by decide +kernel
theorem dX2_bring_89 : decode cX2_bring 89 = .ok (.getfield 34, 3) := by decide +kernel
theorem dX2_bring_92 : decode cX2_bring 92 = .ok (.iconst 1, 1) := by decide +kernel
theorem dX2_bring_93 : decode cX2_bring 93 = .ok (.iadd, 1) := by decide +kernel
theorem dX2_bring_94 : decode cX2_bring 94 = .ok (.putfield 34, 3) := by decide +kernel
theorem dX2_bring_97 : decode cX2_bring 97 = .ok (.aload_n 0, 1) := by decide +kernel
theorem dX2_bring_98 : decode cX2_bring 98 = .ok (.aload 4, 2) := by decide +kernel
theorem dX2_bring_100 : decode cX2_bring 100 = .ok (.iload_n 3, 1) := by decide +kernel
theorem dX2_bring_101 : decode cX2_bring 101 = .ok (.invokevirtual 46, 3) := by decide +kernel
theorem dX2_bring_104 : decode cX2_bring 104 = .ok (.iload 5, 2) := by decide +kernel
theorem dX2_bring_106 : decode cX2_bring 106 = .ok (.ireturn, 1) := by decide +kernel
theorem dX2_offer_0 : decode cX2_offer 0 = .ok (.aload_n 0, 1) := by decide +kernel
theorem dX2_offer_1 : decode cX2_offer 1 = .ok (.iload_n 1, 1) := by decide +kernel
theorem dX2_offer_2 : decode cX2_offer 2 = .ok (.invokevirtual 50, 3) := by decide +kernel
theorem dX2_offer_5 : decode cX2_offer 5 = .ok (.astore_n 3, 1) := by decide +kernel
theorem dX2_offer_6 : decode cX2_offer 6 = .ok (.iload_n 2, 1) := by decide +kernel
theorem dX2_offer_7 : decode cX2_offer 7 = .ok (.invokestatic 24, 3) := by decide +kernel
theorem dX2_offer_10 : decode cX2_offer 10 = .ok (.iload_n 2, 1) := by decide +kernel
theorem dX2_offer_11 : decode cX2_offer 11 = .ok (.aload_n 3, 1) := by decide +kernel
theorem dX2_offer_12 : decode cX2_offer 12 = .ok (.getfield 54, 3) := by decide +kernel
theorem dX2_offer_15 : decode cX2_offer 15 = .ok (.if_icmp .ne 13, 3) := by decide +kernel
theorem dX2_offer_18 : decode cX2_offer 18 = .ok (.new 27, 3) := by decide +kernel
theorem dX2_offer_21 : decode cX2_offer 21 = .ok (.dup, 1) := by decide +kernel
theorem dX2_offer_22 : decode cX2_offer 22 = .ok (.ldc 57, 2) := by decide +kernel
theorem dX2_offer_24 : decode cX2_offer 24 = .ok (.invokespecial 31, 3) := by decide +kernel
theorem dX2_offer_27 : decode cX2_offer 27 = .ok (.athrow, 1) := by decide +kernel
theorem dX2_offer_28 : decode cX2_offer 28 = .ok (.aload_n 3, 1) := by decide +kernel
theorem dX2_offer_29 : decode cX2_offer 29 = .ok (.invokestatic 59, 3) := by decide +kernel
theorem dX2_offer_32 : decode cX2_offer 32 = .ok (.aload_n 3, 1) := by decide +kernel
theorem dX2_offer_33 : decode cX2_offer 33 = .ok (.iload_n 2, 1) := by decide +kernel
theorem dX2_offer_34 : decode cX2_offer 34 = .ok (.putfield 63, 3) := by decide +kernel
theorem dX2_offer_37 : decode cX2_offer 37 = .ok (.aload_n 3, 1) := by decide +kernel
theorem dX2_offer_38 : decode cX2_offer 38 = .ok (.getfield 54, 3) := by decide +kernel
theorem dX2_offer_41 : decode cX2_offer 41 = .ok (.ireturn, 1) := by decide +kernel
theorem dX2_answer_0 : decode cX2_answer 0 = .ok (.aload_n 0, 1) := by decide +kernel
theorem dX2_answer_1 : decode cX2_answer 1 = .ok (.iload_n 1, 1) := by decide +kernel
theorem dX2_answer_2 : decode cX2_answer 2 = .ok (.invokevirtual 50, 3) := by decide +kernel
theorem dX2_answer_5 : decode cX2_answer 5 = .ok (.astore_n 3, 1) := by decide +kernel
theorem dX2_answer_6 : decode cX2_answer 6 = .ok (.aload_n 3, 1) := by decide +kernel
theorem dX2_answer_7 : decode cX2_answer 7 = .ok (.getfield 66, 3) := by decide +kernel
theorem dX2_answer_10 : decode cX2_answer 10 = .ok (.ifCond .ne 11, 3) := by decide +kernel
theorem dX2_answer_13 : decode cX2_answer 13 = .ok (.aload_n 3, 1) := by decide +kernel
theorem dX2_answer_14 : decode cX2_answer 14 = .ok (.getfield 63, 3) := by decide +kernel
theorem dX2_answer_17 : decode cX2_answer 17 = .ok (.iconst (-1), 1) := by decide +kernel
theorem dX2_answer_18 : decode cX2_answer 18 = .ok (.if_icmp .ne 13, 3) := by decide +kernel
theorem dX2_answer_21 : decode cX2_answer 21 = .ok (.new 38, 3) := by decide +kernel
theorem dX2_answer_24 : decode cX2_answer 24 = .ok (.dup, 1) := by decide +kernel
theorem dX2_answer_25 : decode cX2_answer 25 = .ok (.ldc 70, 2) := by decide +kernel
theorem dX2_answer_27 : decode cX2_answer 27 = .ok (.invokespecial 42, 3) := by decide +kernel
theorem dX2_answer_30 : decode cX2_answer 30 = .ok (.athrow, 1) := by decide +kernel
theorem dX2_answer_31 : decode cX2_answer 31 = .ok (.aload_n 3, 1) := by decide +kernel
theorem dX2_answer_32 : decode cX2_answer 32 = .ok (.getfield 63, 3) := by decide +kernel
theorem dX2_answer_35 : decode cX2_answer 35 = .ok (.istore 4, 2) := by decide +kernel
theorem dX2_answer_37 : decode cX2_answer 37 = .ok (.aload_n 3, 1) := by decide +kernel
theorem dX2_answer_38 : decode cX2_answer 38 = .ok (.iconst (-1), 1) := by decide +kernel
theorem dX2_answer_39 : decode cX2_answer 39 = .ok (.putfield 63, 3) := by decide +kernel
theorem dX2_answer_42 : decode cX2_answer 42 = .ok (.iload_n 2, 1) := by decide +kernel
theorem dX2_answer_43 : decode cX2_answer 43 = .ok (.ifCond .eq 10, 3) := by decide +kernel
theorem dX2_answer_46 : decode cX2_answer 46 = .ok (.aload_n 0, 1) := by decide +kernel
theorem dX2_answer_47 : decode cX2_answer 47 = .ok (.aload_n 3, 1) := by decide +kernel
theorem dX2_answer_48 : decode cX2_answer 48 = .ok (.iload 4, 2) := by decide +kernel
theorem dX2_answer_50 : decode cX2_answer 50 = .ok (.invokevirtual 46, 3) := by decide +kernel
theorem dX2_answer_53 : decode cX2_answer 53 = .ok (.aload_n 3, 1) := by decide +kernel
theorem dX2_answer_54 : decode cX2_answer 54 = .ok (.getfield 54, 3) := by decide +kernel
theorem dX2_answer_57 : decode cX2_answer 57 = .ok (.ireturn, 1) := by decide +kernel
theorem dX2_pack_0 : decode cX2_pack 0 = .ok (.aload_n 0, 1) := by decide +kernel
theorem dX2_pack_1 : decode cX2_pack 1 = .ok (.iload_n 1, 1) := by decide +kernel
theorem dX2_pack_2 : decode cX2_pack 2 = .ok (.invokevirtual 50, 3) := by decide +kernel
theorem dX2_pack_5 : decode cX2_pack 5 = .ok (.astore_n 3, 1) := by decide +kernel
theorem dX2_pack_6 : decode cX2_pack 6 = .ok (.aload_n 0, 1) := by decide +kernel
theorem dX2_pack_7 : decode cX2_pack 7 = .ok (.iload_n 2, 1) := by decide +kernel
theorem dX2_pack_8 : decode cX2_pack 8 = .ok (.invokevirtual 72, 3) := by decide +kernel
theorem dX2_pack_11 : decode cX2_pack 11 = .ok (.astore 4, 2) := by decide +kernel
theorem dX2_pack_13 : decode cX2_pack 13 = .ok (.aload_n 3, 1) := by decide +kernel
theorem dX2_pack_14 : decode cX2_pack 14 = .ok (.invokestatic 59, 3) := by decide +kernel
theorem dX2_pack_17 : decode cX2_pack 17 = .ok (.aload 4, 2) := by decide +kernel
theorem dX2_pack_19 : decode cX2_pack 19 = .ok (.invokevirtual 76, 3) := by decide +kernel
theorem dX2_pack_22 : decode cX2_pack 22 = .ok (.ifCond .ne 15, 3) := by decide +kernel
theorem dX2_pack_25 : decode cX2_pack 25 = .ok (.aload 4, 2) := by decide +kernel
theorem dX2_pack_27 : decode cX2_pack 27 = .ok (.getfield 80, 3) := by decide +kernel
theorem dX2_pack_30 : decode cX2_pack 30 = .ok (.aload_n 3, 1) := by decide +kernel
theorem dX2_pack_31 : decode cX2_pack 31 = .ok (.getfield 54, 3) := by decide +kernel
theorem dX2_pack_34 : decode cX2_pack 34 = .ok (.if_icmp .eq 13, 3) := by decide +kernel
theorem dX2_pack_37 : decode cX2_pack 37 = .ok (.new 38, 3) := by decide +kernel
theorem dX2_pack_40 : decode cX2_pack 40 = .ok (.dup, 1) := by decide +kernel
theorem dX2_pack_41 : decode cX2_pack 41 = .ok (.ldc 81, 2) := by decide +kernel
theorem dX2_pack_43 : decode cX2_pack 43 = .ok (.invokespecial 42, 3) := by decide +kernel
theorem dX2_pack_46 : decode cX2_pack 46 = .ok (.athrow, 1) := by decide +kernel
theorem dX2_pack_47 : decode cX2_pack 47 = .ok (.aload_n 3, 1) := by decide +kernel
theorem dX2_pack_48 : decode cX2_pack 48 = .ok (.aload 4, 2) := by decide +kernel
theorem dX2_pack_50 : decode cX2_pack 50 = .ok (.putfield 83, 3) := by decide +kernel
theorem dX2_pack_53 : decode cX2_pack 53 = .ok (.aload_n 0, 1) := by decide +kernel
theorem dX2_pack_54 : decode cX2_pack 54 = .ok (.aload 4, 2) := by decide +kernel
theorem dX2_pack_56 : decode cX2_pack 56 = .ok (.invokevirtual 87, 3) := by decide +kernel
theorem dX2_pack_59 : decode cX2_pack 59 = .ok (.ireturn, 1) := by decide +kernel
theorem dX2_unpack_0 : decode cX2_unpack 0 = .ok (.aload_n 0, 1) := by decide +kernel
theorem dX2_unpack_1 : decode cX2_unpack 1 = .ok (.iload_n 1, 1) := by decide +kernel
theorem dX2_unpack_2 : decode cX2_unpack 2 = .ok (.invokevirtual 50, 3) := by decide +kernel
theorem dX2_unpack_5 : decode cX2_unpack 5 = .ok (.astore_n 2, 1) := by decide +kernel
theorem dX2_unpack_6 : decode cX2_unpack 6 = .ok (.aload_n 2, 1) := by decide +kernel
theorem dX2_unpack_7 : decode cX2_unpack 7 = .ok (.getfield 83, 3) := by decide +kernel
theorem dX2_unpack_10 : decode cX2_unpack 10 = .ok (.astore_n 3, 1) := by decide +kernel
theorem dX2_unpack_11 : decode cX2_unpack 11 = .ok (.aload_n 2, 1) := by decide +kernel
theorem dX2_unpack_12 : decode cX2_unpack 12 = .ok (.getfield 66, 3) := by decide +kernel
theorem dX2_unpack_15 : decode cX2_unpack 15 = .ok (.ifCond .ne 14, 3) := by decide +kernel
theorem dX2_unpack_18 : decode cX2_unpack 18 = .ok (.aload_n 3, 1) := by decide +kernel
theorem dX2_unpack_19 : decode cX2_unpack 19 = .ok (.ifnull 10, 3) := by decide +kernel
theorem dX2_unpack_22 : decode cX2_unpack 22 = .ok (.aload_n 3, 1) := by decide +kernel
theorem dX2_unpack_23 : decode cX2_unpack 23 = .ok (.invokevirtual 76, 3) := by decide +kernel
theorem dX2_unpack_26 : decode cX2_unpack 26 = .ok (.ifCond .eq 13, 3) := by decide +kernel
theorem dX2_unpack_29 : decode cX2_unpack 29 = .ok (.new 38, 3) := by decide +kernel
theorem dX2_unpack_32 : decode cX2_unpack 32 = .ok (.dup, 1) := by decide +kernel
theorem dX2_unpack_33 : decode cX2_unpack 33 = .ok (.ldc 91, 2) := by decide +kernel
theorem dX2_unpack_35 : decode cX2_unpack 35 = .ok (.invokespecial 42, 3) := by decide +kernel
theorem dX2_unpack_38 : decode cX2_unpack 38 = .ok (.athrow, 1) := by decide +kernel
theorem dX2_unpack_39 : decode cX2_unpack 39 = .ok (.aload_n 2, 1) := by decide +kernel
theorem dX2_unpack_40 : decode cX2_unpack 40 = .ok (.aconst_null, 1) := by decide +kernel
theorem dX2_unpack_41 : decode cX2_unpack 41 = .ok (.putfield 83, 3) := by decide +kernel
theorem dX2_unpack_44 : decode cX2_unpack 44 = .ok (.aload_n 3, 1) := by decide +kernel
theorem dX2_unpack_45 : decode cX2_unpack 45 = .ok (.getfield 93, 3) := by decide +kernel
theorem dX2_unpack_48 : decode cX2_unpack 48 = .ok (.ireturn, 1) := by decide +kernel
theorem dX2_seal_0 : decode cX2_seal 0 = .ok (.aload_n 0, 1) := by decide +kernel
theorem dX2_seal_1 : decode cX2_seal 1 = .ok (.iload_n 1, 1) := by decide +kernel
theorem dX2_seal_2 : decode cX2_seal 2 = .ok (.invokevirtual 72, 3) := by decide +kernel
theorem dX2_seal_5 : decode cX2_seal 5 = .ok (.astore_n 2, 1) := by decide +kernel
theorem dX2_seal_6 : decode cX2_seal 6 = .ok (.aload_n 2, 1) := by decide +kernel
theorem dX2_seal_7 : decode cX2_seal 7 = .ok (.invokevirtual 76, 3) := by decide +kernel
theorem dX2_seal_10 : decode cX2_seal 10 = .ok (.ifCond .ne 12, 3) := by decide +kernel
theorem dX2_seal_13 : decode cX2_seal 13 = .ok (.aload_n 0, 1) := by decide +kernel
theorem dX2_seal_14 : decode cX2_seal 14 = .ok (.getfield 96, 3) := by decide +kernel
theorem dX2_seal_17 : decode cX2_seal 17 = .ok (.bipush 100, 2) := by decide +kernel
theorem dX2_seal_19 : decode cX2_seal 19 = .ok (.if_icmp .lt 13, 3) := by decide +kernel
theorem dX2_seal_22 : decode cX2_seal 22 = .ok (.new 38, 3) := by decide +kernel
theorem dX2_seal_25 : decode cX2_seal 25 = .ok (.dup, 1) := by decide +kernel
theorem dX2_seal_26 : decode cX2_seal 26 = .ok (.ldc 99, 2) := by decide +kernel
theorem dX2_seal_28 : decode cX2_seal 28 = .ok (.invokespecial 42, 3) := by decide +kernel
theorem dX2_seal_31 : decode cX2_seal 31 = .ok (.athrow, 1) := by decide +kernel
theorem dX2_seal_32 : decode cX2_seal 32 = .ok (.aload_n 2, 1) := by decide +kernel
theorem dX2_seal_33 : decode cX2_seal 33 = .ok (.aload_n 0, 1) := by decide +kernel
theorem dX2_seal_34 : decode cX2_seal 34 = .ok (.getfield 96, 3) := by decide +kernel
theorem dX2_seal_37 : decode cX2_seal 37 = .ok (.putfield 101, 3) := by decide +kernel
theorem dX2_seal_40 : decode cX2_seal 40 = .ok (.aload_n 2, 1) := by decide +kernel
theorem dX2_seal_41 : decode cX2_seal 41 = .ok (.aload_n 0, 1) := by decide +kernel
theorem dX2_seal_42 : decode cX2_seal 42 = .ok (.aload_n 2, 1) := by decide +kernel
theorem dX2_seal_43 : decode cX2_seal 43 = .ok (.invokevirtual 87, 3) := by decide +kernel
theorem dX2_seal_46 : decode cX2_seal 46 = .ok (.putfield 104, 3) := by decide +kernel
theorem dX2_seal_49 : decode cX2_seal 49 = .ok (.aload_n 0, 1) := by decide +kernel
theorem dX2_seal_50 : decode cX2_seal 50 = .ok (.dup, 1) := by decide +kernel
theorem dX2_seal_51 : decode cX2_seal 51 = .ok (.getfield 96, 3) := by decide +kernel
theorem dX2_seal_54 : decode cX2_seal 54 = .ok (.iconst 1, 1) := by decide +kernel
theorem dX2_seal_55 : decode cX2_seal 55 = .ok (.iadd, 1) := by decide +kernel
theorem dX2_seal_56 : decode cX2_seal 56 = .ok (.putfield 96, 3) := by decide +kernel
theorem dX2_seal_59 : decode cX2_seal 59 = .ok (.aload_n 2, 1) := by decide +kernel
theorem dX2_seal_60 : decode cX2_seal 60 = .ok (.getfield 101, 3) := by decide +kernel
theorem dX2_seal_63 : decode cX2_seal 63 = .ok (.ireturn, 1) := by decide +kernel
theorem dX2_open_0 : decode cX2_open 0 = .ok (.aload_n 0, 1) := by decide +kernel
theorem dX2_open_1 : decode cX2_open 1 = .ok (.iload_n 1, 1) := by decide +kernel
theorem dX2_open_2 : decode cX2_open 2 = .ok (.invokevirtual 72, 3) := by decide +kernel
theorem dX2_open_5 : decode cX2_open 5 = .ok (.astore_n 3, 1) := by decide +kernel
theorem dX2_open_6 : decode cX2_open 6 = .ok (.iload_n 2, 1) := by decide +kernel
theorem dX2_open_7 : decode cX2_open 7 = .ok (.ifCond .lt 9, 3) := by decide +kernel
theorem dX2_open_10 : decode cX2_open 10 = .ok (.iload_n 2, 1) := by decide +kernel
theorem dX2_open_11 : decode cX2_open 11 = .ok (.bipush 99, 2) := by decide +kernel
theorem dX2_open_13 : decode cX2_open 13 = .ok (.if_icmp .le 13, 3) := by decide +kernel
theorem dX2_open_16 : decode cX2_open 16 = .ok (.new 27, 3) := by decide +kernel
theorem dX2_open_19 : decode cX2_open 19 = .ok (.dup, 1) := by decide +kernel
theorem dX2_open_20 : decode cX2_open 20 = .ok (.ldc 107, 2) := by decide +kernel
theorem dX2_open_22 : decode cX2_open 22 = .ok (.invokespecial 31, 3) := by decide +kernel
theorem dX2_open_25 : decode cX2_open 25 = .ok (.athrow, 1) := by decide +kernel
theorem dX2_open_26 : decode cX2_open 26 = .ok (.aload_n 3, 1) := by decide +kernel
theorem dX2_open_27 : decode cX2_open 27 = .ok (.invokevirtual 76, 3) := by decide +kernel
theorem dX2_open_30 : decode cX2_open 30 = .ok (.ifCond .ne 13, 3) := by decide +kernel
theorem dX2_open_33 : decode cX2_open 33 = .ok (.new 38, 3) := by decide +kernel
theorem dX2_open_36 : decode cX2_open 36 = .ok (.dup, 1) := by decide +kernel
theorem dX2_open_37 : decode cX2_open 37 = .ok (.ldc 109, 2) := by decide +kernel
theorem dX2_open_39 : decode cX2_open 39 = .ok (.invokespecial 42, 3) := by decide +kernel
theorem dX2_open_42 : decode cX2_open 42 = .ok (.athrow, 1) := by decide +kernel
theorem dX2_open_43 : decode cX2_open 43 = .ok (.iload_n 2, 1) := by decide +kernel
theorem dX2_open_44 : decode cX2_open 44 = .ok (.aload_n 3, 1) := by decide +kernel
theorem dX2_open_45 : decode cX2_open 45 = .ok (.getfield 104, 3) := by decide +kernel
theorem dX2_open_48 : decode cX2_open 48 = .ok (.isub, 1) := by decide +kernel
theorem dX2_open_49 : decode cX2_open 49 = .ok (.istore 4, 2) := by decide +kernel
theorem dX2_open_51 : decode cX2_open 51 = .ok (.aload_n 3, 1) := by decide +kernel
theorem dX2_open_52 : decode cX2_open 52 = .ok (.iconst (-1), 1) := by decide +kernel
theorem dX2_open_53 : decode cX2_open 53 = .ok (.putfield 101, 3) := by decide +kernel
theorem dX2_open_56 : decode cX2_open 56 = .ok (.iload 4, 2) := by decide +kernel
theorem dX2_open_58 : decode cX2_open 58 = .ok (.ifCond .eq 13, 3) := by decide +kernel
theorem dX2_open_61 : decode cX2_open 61 = .ok (.aload_n 0, 1) := by decide +kernel
theorem dX2_open_62 : decode cX2_open 62 = .ok (.dup, 1) := by decide +kernel
theorem dX2_open_63 : decode cX2_open 63 = .ok (.getfield 111, 3) := by decide +kernel
theorem dX2_open_66 : decode cX2_open 66 = .ok (.iconst 1, 1) := by decide +kernel
theorem dX2_open_67 : decode cX2_open 67 = .ok (.iadd, 1) := by decide +kernel
theorem dX2_open_68 : decode cX2_open 68 = .ok (.putfield 111, 3) := by decide +kernel
theorem dX2_open_71 : decode cX2_open 71 = .ok (.iload 4, 2) := by decide +kernel
theorem dX2_open_73 : decode cX2_open 73 = .ok (.ireturn, 1) := by decide +kernel
theorem dX2_carry_0 : decode cX2_carry 0 = .ok (.aload_n 0, 1) := by decide +kernel
theorem dX2_carry_1 : decode cX2_carry 1 = .ok (.iload_n 1, 1) := by decide +kernel
theorem dX2_carry_2 : decode cX2_carry 2 = .ok (.invokevirtual 72, 3) := by decide +kernel
theorem dX2_carry_5 : decode cX2_carry 5 = .ok (.astore_n 3, 1) := by decide +kernel
theorem dX2_carry_6 : decode cX2_carry 6 = .ok (.iload_n 2, 1) := by decide +kernel
theorem dX2_carry_7 : decode cX2_carry 7 = .ok (.invokestatic 24, 3) := by decide +kernel
theorem dX2_carry_10 : decode cX2_carry 10 = .ok (.iload_n 2, 1) := by decide +kernel
theorem dX2_carry_11 : decode cX2_carry 11 = .ok (.aload_n 3, 1) := by decide +kernel
theorem dX2_carry_12 : decode cX2_carry 12 = .ok (.getfield 80, 3) := by decide +kernel
theorem dX2_carry_15 : decode cX2_carry 15 = .ok (.if_icmp .ne 13, 3) := by decide +kernel
theorem dX2_carry_18 : decode cX2_carry 18 = .ok (.new 27, 3) := by decide +kernel
theorem dX2_carry_21 : decode cX2_carry 21 = .ok (.dup, 1) := by decide +kernel
theorem dX2_carry_22 : decode cX2_carry 22 = .ok (.ldc 114, 2) := by decide +kernel
theorem dX2_carry_24 : decode cX2_carry 24 = .ok (.invokespecial 31, 3) := by decide +kernel
theorem dX2_carry_27 : decode cX2_carry 27 = .ok (.athrow, 1) := by decide +kernel
theorem dX2_carry_28 : decode cX2_carry 28 = .ok (.aload_n 3, 1) := by decide +kernel
theorem dX2_carry_29 : decode cX2_carry 29 = .ok (.invokevirtual 76, 3) := by decide +kernel
theorem dX2_carry_32 : decode cX2_carry 32 = .ok (.ifCond .ne 21, 3) := by decide +kernel
theorem dX2_carry_35 : decode cX2_carry 35 = .ok (.aload_n 0, 1) := by decide +kernel
theorem dX2_carry_36 : decode cX2_carry 36 = .ok (.aload_n 3, 1) := by decide +kernel
theorem dX2_carry_37 : decode cX2_carry 37 = .ok (.invokevirtual 87, 3) := by decide +kernel
theorem dX2_carry_40 : decode cX2_carry 40 = .ok (.ifCond .le 13, 3) := by decide +kernel
theorem dX2_carry_43 : decode cX2_carry 43 = .ok (.new 38, 3) := by decide +kernel
theorem dX2_carry_46 : decode cX2_carry 46 = .ok (.dup, 1) := by decide +kernel
theorem dX2_carry_47 : decode cX2_carry 47 = .ok (.ldc 116, 2) := by decide +kernel
theorem dX2_carry_49 : decode cX2_carry 49 = .ok (.invokespecial 42, 3) := by decide +kernel
theorem dX2_carry_52 : decode cX2_carry 52 = .ok (.athrow, 1) := by decide +kernel
theorem dX2_carry_53 : decode cX2_carry 53 = .ok (.aload_n 3, 1) := by decide +kernel
theorem dX2_carry_54 : decode cX2_carry 54 = .ok (.getfield 80, 3) := by decide +kernel
theorem dX2_carry_57 : decode cX2_carry 57 = .ok (.istore 4, 2) := by decide +kernel
theorem dX2_carry_59 : decode cX2_carry 59 = .ok (.aload_n 3, 1) := by decide +kernel
theorem dX2_carry_60 : decode cX2_carry 60 = .ok (.iload_n 2, 1) := by decide +kernel
theorem dX2_carry_61 : decode cX2_carry 61 = .ok (.putfield 80, 3) := by decide +kernel
theorem dX2_carry_64 : decode cX2_carry 64 = .ok (.aload_n 0, 1) := by decide +kernel
theorem dX2_carry_65 : decode cX2_carry 65 = .ok (.aload_n 3, 1) := by decide +kernel
theorem dX2_carry_66 : decode cX2_carry 66 = .ok (.invokevirtual 118, 3) := by decide +kernel
theorem dX2_carry_69 : decode cX2_carry 69 = .ok (.iload 4, 2) := by decide +kernel
theorem dX2_carry_71 : decode cX2_carry 71 = .ok (.ireturn, 1) := by decide +kernel
theorem dX2_wipe_0 : decode cX2_wipe 0 = .ok (.aload_n 0, 1) := by decide +kernel
theorem dX2_wipe_1 : decode cX2_wipe 1 = .ok (.iload_n 1, 1) := by decide +kernel
theorem dX2_wipe_2 : decode cX2_wipe 2 = .ok (.invokevirtual 50, 3) := by decide +kernel
theorem dX2_wipe_5 : decode cX2_wipe 5 = .ok (.astore 4, 2) := by decide +kernel
theorem dX2_wipe_7 : decode cX2_wipe 7 = .ok (.iload_n 3, 1) := by decide +kernel
theorem dX2_wipe_8 : decode cX2_wipe 8 = .ok (.invokestatic 24, 3) := by decide +kernel
theorem dX2_wipe_11 : decode cX2_wipe 11 = .ok (.iload_n 2, 1) := by decide +kernel
theorem dX2_wipe_12 : decode cX2_wipe 12 = .ok (.ifCond .lt 8, 3) := by decide +kernel
theorem dX2_wipe_15 : decode cX2_wipe 15 = .ok (.iload_n 2, 1) := by decide +kernel
theorem dX2_wipe_16 : decode cX2_wipe 16 = .ok (.iconst 3, 1) := by decide +kernel
theorem dX2_wipe_17 : decode cX2_wipe 17 = .ok (.if_icmp .lt 13, 3) := by decide +kernel
theorem dX2_wipe_20 : decode cX2_wipe 20 = .ok (.new 27, 3) := by decide +kernel
theorem dX2_wipe_23 : decode cX2_wipe 23 = .ok (.dup, 1) := by decide +kernel
theorem dX2_wipe_24 : decode cX2_wipe 24 = .ok (.ldc 122, 2) := by decide +kernel
theorem dX2_wipe_26 : decode cX2_wipe 26 = .ok (.invokespecial 31, 3) := by decide +kernel
theorem dX2_wipe_29 : decode cX2_wipe 29 = .ok (.athrow, 1) := by decide +kernel
theorem dX2_wipe_30 : decode cX2_wipe 30 = .ok (.aload 4, 2) := by decide +kernel
theorem dX2_wipe_32 : decode cX2_wipe 32 = .ok (.iload_n 3, 1) := by decide +kernel
theorem dX2_wipe_33 : decode cX2_wipe 33 = .ok (.invokestatic 124, 3) := by decide +kernel
theorem dX2_wipe_36 : decode cX2_wipe 36 = .ok (.aload 4, 2) := by decide +kernel
theorem dX2_wipe_38 : decode cX2_wipe 38 = .ok (.invokestatic 127, 3) := by decide +kernel
theorem dX2_wipe_41 : decode cX2_wipe 41 = .ok (.aload 4, 2) := by decide +kernel
theorem dX2_wipe_43 : decode cX2_wipe 43 = .ok (.getfield 130, 3) := by decide +kernel
theorem dX2_wipe_46 : decode cX2_wipe 46 = .ok (.iconst 1, 1) := by decide +kernel
theorem dX2_wipe_47 : decode cX2_wipe 47 = .ok (.if_icmp .eq 12, 3) := by decide +kernel
theorem dX2_wipe_50 : decode cX2_wipe 50 = .ok (.aload 4, 2) := by decide +kernel
theorem dX2_wipe_52 : decode cX2_wipe 52 = .ok (.getfield 130, 3) := by decide +kernel
theorem dX2_wipe_55 : decode cX2_wipe 55 = .ok (.iconst 3, 1) := by decide +kernel
theorem dX2_wipe_56 : decode cX2_wipe 56 = .ok (.if_icmp .ne 13, 3) := by decide +kernel
theorem dX2_wipe_59 : decode cX2_wipe 59 = .ok (.new 38, 3) := by decide +kernel
theorem dX2_wipe_62 : decode cX2_wipe 62 = .ok (.dup, 1) := by decide +kernel
theorem dX2_wipe_63 : decode cX2_wipe 63 = .ok (.ldc 133, 2) := by decide +kernel
theorem dX2_wipe_65 : decode cX2_wipe 65 = .ok (.invokespecial 42, 3) := by decide +kernel
theorem dX2_wipe_68 : decode cX2_wipe 68 = .ok (.athrow, 1) := by decide +kernel
theorem dX2_wipe_69 : decode cX2_wipe 69 = .ok (.iload_n 2, 1) := by decide +kernel
theorem dX2_wipe_70 : decode cX2_wipe 70 = .ok (.aload 4, 2) := by decide +kernel
theorem dX2_wipe_72 : decode cX2_wipe 72 = .ok (.getfield 135, 3) := by decide +kernel
theorem dX2_wipe_75 : decode cX2_wipe 75 = .ok (.if_icmp .ne 16, 3) := by decide +kernel
theorem dX2_wipe_78 : decode cX2_wipe 78 = .ok (.aload 4, 2) := by decide +kernel
theorem dX2_wipe_80 : decode cX2_wipe 80 = .ok (.getfield 138, 3) := by decide +kernel
theorem dX2_wipe_83 : decode cX2_wipe 83 = .ok (.iconst 3, 1) := by decide +kernel
theorem dX2_wipe_84 : decode cX2_wipe 84 = .ok (.if_icmp .ge 7, 3) := by decide +kernel
theorem dX2_wipe_87 : decode cX2_wipe 87 = .ok (.iconst 1, 1) := by decide +kernel
theorem dX2_wipe_88 : decode cX2_wipe 88 = .ok (.goto 4, 3) := by decide +kernel
theorem dX2_wipe_91 : decode cX2_wipe 91 = .ok (.iconst 0, 1) := by decide +kernel
theorem dX2_wipe_92 : decode cX2_wipe 92 = .ok (.istore 5, 2) := by decide +kernel
theorem dX2_wipe_94 : decode cX2_wipe 94 = .ok (.aload 4, 2) := by decide +kernel
theorem dX2_wipe_96 : decode cX2_wipe 96 = .ok (.iload 5, 2) := by decide +kernel
theorem dX2_wipe_98 : decode cX2_wipe 98 = .ok (.ifCond .eq 7, 3) := by decide +kernel
theorem dX2_wipe_101 : decode cX2_wipe 101 = .ok (.iconst 1, 1) := by decide +kernel
theorem dX2_wipe_102 : decode cX2_wipe 102 = .ok (.goto 4, 3) := by decide +kernel
theorem dX2_wipe_105 : decode cX2_wipe 105 = .ok (.iconst 2, 1) := by decide +kernel
theorem dX2_wipe_106 : decode cX2_wipe 106 = .ok (.putfield 130, 3) := by decide +kernel
theorem dX2_wipe_109 : decode cX2_wipe 109 = .ok (.aload 4, 2) := by decide +kernel
theorem dX2_wipe_111 : decode cX2_wipe 111 = .ok (.aload 4, 2) := by decide +kernel
theorem dX2_wipe_113 : decode cX2_wipe 113 = .ok (.getfield 54, 3) := by decide +kernel
theorem dX2_wipe_116 : decode cX2_wipe 116 = .ok (.putfield 141, 3) := by decide +kernel
theorem dX2_wipe_119 : decode cX2_wipe 119 = .ok (.aload 4, 2) := by decide +kernel
theorem dX2_wipe_121 : decode cX2_wipe 121 = .ok (.iconst 0, 1) := by decide +kernel
theorem dX2_wipe_122 : decode cX2_wipe 122 = .ok (.putfield 144, 3) := by decide +kernel
theorem dX2_wipe_125 : decode cX2_wipe 125 = .ok (.aload 4, 2) := by decide +kernel
theorem dX2_wipe_127 : decode cX2_wipe 127 = .ok (.getfield 130, 3) := by decide +kernel
theorem dX2_wipe_130 : decode cX2_wipe 130 = .ok (.ireturn, 1) := by decide +kernel
theorem dX2_smash_0 : decode cX2_smash 0 = .ok (.aload_n 0, 1) := by decide +kernel
theorem dX2_smash_1 : decode cX2_smash 1 = .ok (.iload_n 1, 1) := by decide +kernel
theorem dX2_smash_2 : decode cX2_smash 2 = .ok (.invokevirtual 50, 3) := by decide +kernel
theorem dX2_smash_5 : decode cX2_smash 5 = .ok (.astore_n 3, 1) := by decide +kernel
theorem dX2_smash_6 : decode cX2_smash 6 = .ok (.iload_n 2, 1) := by decide +kernel
theorem dX2_smash_7 : decode cX2_smash 7 = .ok (.invokestatic 24, 3) := by decide +kernel
theorem dX2_smash_10 : decode cX2_smash 10 = .ok (.aload_n 3, 1) := by decide +kernel
theorem dX2_smash_11 : decode cX2_smash 11 = .ok (.iload_n 2, 1) := by decide +kernel
theorem dX2_smash_12 : decode cX2_smash 12 = .ok (.invokestatic 124, 3) := by decide +kernel
theorem dX2_smash_15 : decode cX2_smash 15 = .ok (.aload_n 3, 1) := by decide +kernel
theorem dX2_smash_16 : decode cX2_smash 16 = .ok (.invokestatic 127, 3) := by decide +kernel
theorem dX2_smash_19 : decode cX2_smash 19 = .ok (.aload_n 3, 1) := by decide +kernel
theorem dX2_smash_20 : decode cX2_smash 20 = .ok (.getfield 130, 3) := by decide +kernel
theorem dX2_smash_23 : decode cX2_smash 23 = .ok (.iconst 3, 1) := by decide +kernel
theorem dX2_smash_24 : decode cX2_smash 24 = .ok (.if_icmp .ne 13, 3) := by decide +kernel
theorem dX2_smash_27 : decode cX2_smash 27 = .ok (.new 38, 3) := by decide +kernel
theorem dX2_smash_30 : decode cX2_smash 30 = .ok (.dup, 1) := by decide +kernel
theorem dX2_smash_31 : decode cX2_smash 31 = .ok (.ldc 147, 2) := by decide +kernel
theorem dX2_smash_33 : decode cX2_smash 33 = .ok (.invokespecial 42, 3) := by decide +kernel
theorem dX2_smash_36 : decode cX2_smash 36 = .ok (.athrow, 1) := by decide +kernel
theorem dX2_smash_37 : decode cX2_smash 37 = .ok (.aload_n 3, 1) := by decide +kernel
theorem dX2_smash_38 : decode cX2_smash 38 = .ok (.getfield 130, 3) := by decide +kernel
theorem dX2_smash_41 : decode cX2_smash 41 = .ok (.istore 4, 2) := by decide +kernel
theorem dX2_smash_43 : decode cX2_smash 43 = .ok (.aload_n 3, 1) := by decide +kernel
theorem dX2_smash_44 : decode cX2_smash 44 = .ok (.iconst 3, 1) := by decide +kernel
theorem dX2_smash_45 : decode cX2_smash 45 = .ok (.putfield 130, 3) := by decide +kernel
theorem dX2_smash_48 : decode cX2_smash 48 = .ok (.iload 4, 2) := by decide +kernel
theorem dX2_smash_50 : decode cX2_smash 50 = .ok (.ireturn, 1) := by decide +kernel
theorem dX2_check_0 : decode cX2_check 0 = .ok (.aload_n 0, 1) := by decide +kernel
theorem dX2_check_1 : decode cX2_check 1 = .ok (.iload_n 1, 1) := by decide +kernel
theorem dX2_check_2 : decode cX2_check 2 = .ok (.invokevirtual 50, 3) := by decide +kernel
theorem dX2_check_5 : decode cX2_check 5 = .ok (.astore 4, 2) := by decide +kernel
theorem dX2_check_7 : decode cX2_check 7 = .ok (.iload_n 2, 1) := by decide +kernel
theorem dX2_check_8 : decode cX2_check 8 = .ok (.invokestatic 24, 3) := by decide +kernel
theorem dX2_check_11 : decode cX2_check 11 = .ok (.aload 4, 2) := by decide +kernel
theorem dX2_check_13 : decode cX2_check 13 = .ok (.getfield 130, 3) := by decide +kernel
theorem dX2_check_16 : decode cX2_check 16 = .ok (.iconst 1, 1) := by decide +kernel
theorem dX2_check_17 : decode cX2_check 17 = .ok (.if_icmp .ne 22, 3) := by decide +kernel
theorem dX2_check_20 : decode cX2_check 20 = .ok (.iload_n 2, 1) := by decide +kernel
theorem dX2_check_21 : decode cX2_check 21 = .ok (.aload 4, 2) := by decide +kernel
theorem dX2_check_23 : decode cX2_check 23 = .ok (.getfield 141, 3) := by decide +kernel
theorem dX2_check_26 : decode cX2_check 26 = .ok (.if_icmp .ne 13, 3) := by decide +kernel
theorem dX2_check_29 : decode cX2_check 29 = .ok (.new 27, 3) := by decide +kernel
theorem dX2_check_32 : decode cX2_check 32 = .ok (.dup, 1) := by decide +kernel
theorem dX2_check_33 : decode cX2_check 33 = .ok (.ldc 149, 2) := by decide +kernel
theorem dX2_check_35 : decode cX2_check 35 = .ok (.invokespecial 31, 3) := by decide +kernel
theorem dX2_check_38 : decode cX2_check 38 = .ok (.athrow, 1) := by decide +kernel
theorem dX2_check_39 : decode cX2_check 39 = .ok (.aload 4, 2) := by decide +kernel
theorem dX2_check_41 : decode cX2_check 41 = .ok (.invokestatic 127, 3) := by decide +kernel
theorem dX2_check_44 : decode cX2_check 44 = .ok (.aload 4, 2) := by decide +kernel
theorem dX2_check_46 : decode cX2_check 46 = .ok (.getfield 130, 3) := by decide +kernel
theorem dX2_check_49 : decode cX2_check 49 = .ok (.iconst 1, 1) := by decide +kernel
theorem dX2_check_50 : decode cX2_check 50 = .ok (.if_icmp .eq 13, 3) := by decide +kernel
theorem dX2_check_53 : decode cX2_check 53 = .ok (.new 38, 3) := by decide +kernel
theorem dX2_check_56 : decode cX2_check 56 = .ok (.dup, 1) := by decide +kernel
theorem dX2_check_57 : decode cX2_check 57 = .ok (.ldc 151, 2) := by decide +kernel
theorem dX2_check_59 : decode cX2_check 59 = .ok (.invokespecial 42, 3) := by decide +kernel
theorem dX2_check_62 : decode cX2_check 62 = .ok (.athrow, 1) := by decide +kernel
theorem dX2_check_63 : decode cX2_check 63 = .ok (.aload 4, 2) := by decide +kernel
theorem dX2_check_65 : decode cX2_check 65 = .ok (.iload_n 3, 1) := by decide +kernel
theorem dX2_check_66 : decode cX2_check 66 = .ok (.putfield 144, 3) := by decide +kernel
theorem dX2_check_69 : decode cX2_check 69 = .ok (.iload_n 3, 1) := by decide +kernel
theorem dX2_check_70 : decode cX2_check 70 = .ok (.ifCond .ne 9, 3) := by decide +kernel
theorem dX2_check_73 : decode cX2_check 73 = .ok (.aload 4, 2) := by decide +kernel
theorem dX2_check_75 : decode cX2_check 75 = .ok (.iconst 2, 1) := by decide +kernel
theorem dX2_check_76 : decode cX2_check 76 = .ok (.putfield 130, 3) := by decide +kernel
theorem dX2_check_79 : decode cX2_check 79 = .ok (.aload 4, 2) := by decide +kernel
theorem dX2_check_81 : decode cX2_check 81 = .ok (.getfield 130, 3) := by decide +kernel
theorem dX2_check_84 : decode cX2_check 84 = .ok (.ireturn, 1) := by decide +kernel
theorem dX2_lose_0 : decode cX2_lose 0 = .ok (.aload_n 0, 1) := by decide +kernel
theorem dX2_lose_1 : decode cX2_lose 1 = .ok (.iload_n 1, 1) := by decide +kernel
theorem dX2_lose_2 : decode cX2_lose 2 = .ok (.invokevirtual 50, 3) := by decide +kernel
theorem dX2_lose_5 : decode cX2_lose 5 = .ok (.astore_n 2, 1) := by decide +kernel
theorem dX2_lose_6 : decode cX2_lose 6 = .ok (.aload_n 2, 1) := by decide +kernel
theorem dX2_lose_7 : decode cX2_lose 7 = .ok (.getfield 66, 3) := by decide +kernel
theorem dX2_lose_10 : decode cX2_lose 10 = .ok (.ifCond .eq 13, 3) := by decide +kernel
theorem dX2_lose_13 : decode cX2_lose 13 = .ok (.new 38, 3) := by decide +kernel
theorem dX2_lose_16 : decode cX2_lose 16 = .ok (.dup, 1) := by decide +kernel
theorem dX2_lose_17 : decode cX2_lose 17 = .ok (.ldc 153, 2) := by decide +kernel
theorem dX2_lose_19 : decode cX2_lose 19 = .ok (.invokespecial 42, 3) := by decide +kernel
theorem dX2_lose_22 : decode cX2_lose 22 = .ok (.athrow, 1) := by decide +kernel
theorem dX2_lose_23 : decode cX2_lose 23 = .ok (.aload_n 2, 1) := by decide +kernel
theorem dX2_lose_24 : decode cX2_lose 24 = .ok (.iconst 1, 1) := by decide +kernel
theorem dX2_lose_25 : decode cX2_lose 25 = .ok (.putfield 66, 3) := by decide +kernel
theorem dX2_lose_28 : decode cX2_lose 28 = .ok (.aload_n 2, 1) := by decide +kernel
theorem dX2_lose_29 : decode cX2_lose 29 = .ok (.iconst (-1), 1) := by decide +kernel
theorem dX2_lose_30 : decode cX2_lose 30 = .ok (.putfield 63, 3) := by decide +kernel
theorem dX2_lose_33 : decode cX2_lose 33 = .ok (.aload_n 2, 1) := by decide +kernel
theorem dX2_lose_34 : decode cX2_lose 34 = .ok (.getfield 54, 3) := by decide +kernel
theorem dX2_lose_37 : decode cX2_lose 37 = .ok (.ireturn, 1) := by decide +kernel
theorem dX2_find_0 : decode cX2_find 0 = .ok (.aload_n 0, 1) := by decide +kernel
theorem dX2_find_1 : decode cX2_find 1 = .ok (.iload_n 1, 1) := by decide +kernel
theorem dX2_find_2 : decode cX2_find 2 = .ok (.invokevirtual 50, 3) := by decide +kernel
theorem dX2_find_5 : decode cX2_find 5 = .ok (.astore_n 2, 1) := by decide +kernel
theorem dX2_find_6 : decode cX2_find 6 = .ok (.aload_n 2, 1) := by decide +kernel
theorem dX2_find_7 : decode cX2_find 7 = .ok (.getfield 66, 3) := by decide +kernel
theorem dX2_find_10 : decode cX2_find 10 = .ok (.ifCond .ne 13, 3) := by decide +kernel
theorem dX2_find_13 : decode cX2_find 13 = .ok (.new 38, 3) := by decide +kernel
theorem dX2_find_16 : decode cX2_find 16 = .ok (.dup, 1) := by decide +kernel
theorem dX2_find_17 : decode cX2_find 17 = .ok (.ldc 155, 2) := by decide +kernel
theorem dX2_find_19 : decode cX2_find 19 = .ok (.invokespecial 42, 3) := by decide +kernel
theorem dX2_find_22 : decode cX2_find 22 = .ok (.athrow, 1) := by decide +kernel
theorem dX2_find_23 : decode cX2_find 23 = .ok (.aload_n 2, 1) := by decide +kernel
theorem dX2_find_24 : decode cX2_find 24 = .ok (.iconst 0, 1) := by decide +kernel
theorem dX2_find_25 : decode cX2_find 25 = .ok (.putfield 66, 3) := by decide +kernel
theorem dX2_find_28 : decode cX2_find 28 = .ok (.aload_n 2, 1) := by decide +kernel
theorem dX2_find_29 : decode cX2_find 29 = .ok (.invokevirtual 157, 3) := by decide +kernel
theorem dX2_find_32 : decode cX2_find 32 = .ok (.ireturn, 1) := by decide +kernel
theorem dX2_certify_0 : decode cX2_certify 0 = .ok (.iload_n 1, 1) := by decide +kernel
theorem dX2_certify_1 : decode cX2_certify 1 = .ok (.invokestatic 24, 3) := by decide +kernel
theorem dX2_certify_4 : decode cX2_certify 4 = .ok (.iconst 0, 1) := by decide +kernel
theorem dX2_certify_5 : decode cX2_certify 5 = .ok (.istore_n 2, 1) := by decide +kernel
theorem dX2_certify_6 : decode cX2_certify 6 = .ok (.aload_n 0, 1) := by decide +kernel
theorem dX2_certify_7 : decode cX2_certify 7 = .ok (.getfield 11, 3) := by decide +kernel
theorem dX2_certify_10 : decode cX2_certify 10 = .ok (.astore_n 3, 1) := by decide +kernel
theorem dX2_certify_11 : decode cX2_certify 11 = .ok (.aload_n 3, 1) := by decide +kernel
theorem dX2_certify_12 : decode cX2_certify 12 = .ok (.arraylength, 1) := by decide +kernel
theorem dX2_certify_13 : decode cX2_certify 13 = .ok (.istore 4, 2) := by decide +kernel
theorem dX2_certify_15 : decode cX2_certify 15 = .ok (.iconst 0, 1) := by decide +kernel
theorem dX2_certify_16 : decode cX2_certify 16 = .ok (.istore 5, 2) := by decide +kernel
theorem dX2_certify_18 : decode cX2_certify 18 = .ok (.iload 5, 2) := by decide +kernel
theorem dX2_certify_20 : decode cX2_certify 20 = .ok (.iload 4, 2) := by decide +kernel
theorem dX2_certify_22 : decode cX2_certify 22 = .ok (.if_icmp .ge 49, 3) := by decide +kernel
theorem dX2_certify_25 : decode cX2_certify 25 = .ok (.aload_n 3, 1) := by decide +kernel
theorem dX2_certify_26 : decode cX2_certify 26 = .ok (.iload 5, 2) := by decide +kernel
theorem dX2_certify_28 : decode cX2_certify 28 = .ok (.aaload, 1) := by decide +kernel
theorem dX2_certify_29 : decode cX2_certify 29 = .ok (.astore 6, 2) := by decide +kernel
theorem dX2_certify_31 : decode cX2_certify 31 = .ok (.aload 6, 2) := by decide +kernel
theorem dX2_certify_33 : decode cX2_certify 33 = .ok (.ifnull 32, 3) := by decide +kernel
theorem dX2_certify_36 : decode cX2_certify 36 = .ok (.aload 6, 2) := by decide +kernel
theorem dX2_certify_38 : decode cX2_certify 38 = .ok (.getfield 54, 3) := by decide +kernel
theorem dX2_certify_41 : decode cX2_certify 41 = .ok (.iload_n 1, 1) := by decide +kernel
theorem dX2_certify_42 : decode cX2_certify 42 = .ok (.if_icmp .ne 23, 3) := by decide +kernel
theorem dX2_certify_45 : decode cX2_certify 45 = .ok (.aload 6, 2) := by decide +kernel
theorem dX2_certify_47 : decode cX2_certify 47 = .ok (.invokevirtual 161, 3) := by decide +kernel
theorem dX2_certify_50 : decode cX2_certify 50 = .ok (.ifCond .eq 15, 3) := by decide +kernel
theorem dX2_certify_53 : decode cX2_certify 53 = .ok (.aload 6, 2) := by decide +kernel
theorem dX2_certify_55 : decode cX2_certify 55 = .ok (.aload_n 0, 1) := by decide +kernel
theorem dX2_certify_56 : decode cX2_certify 56 = .ok (.getfield 164, 3) := by decide +kernel
theorem dX2_certify_59 : decode cX2_certify 59 = .ok (.putfield 167, 3) := by decide +kernel
theorem dX2_certify_62 : decode cX2_certify 62 = .ok (.iinc 2 1, 3) := by decide +kernel
theorem dX2_certify_65 : decode cX2_certify 65 = .ok (.iinc 5 1, 3) := by decide +kernel
theorem dX2_certify_68 : decode cX2_certify 68 = .ok (.goto (-50), 3) := by decide +kernel
theorem dX2_certify_71 : decode cX2_certify 71 = .ok (.iload_n 2, 1) := by decide +kernel
theorem dX2_certify_72 : decode cX2_certify 72 = .ok (.ifCond .ne 13, 3) := by decide +kernel
theorem dX2_certify_75 : decode cX2_certify 75 = .ok (.new 170, 3) := by decide +kernel
theorem dX2_certify_78 : decode cX2_certify 78 = .ok (.dup, 1) := by decide +kernel
theorem dX2_certify_79 : decode cX2_certify 79 = .ok (.ldc 172, 2) := by decide +kernel
theorem dX2_certify_81 : decode cX2_certify 81 = .ok (.invokespecial 174, 3) := by decide +kernel
theorem dX2_certify_84 : decode cX2_certify 84 = .ok (.athrow, 1) := by decide +kernel
theorem dX2_certify_85 : decode cX2_certify 85 = .ok (.aload_n 0, 1) := by decide +kernel
theorem dX2_certify_86 : decode cX2_certify 86 = .ok (.dup, 1) := by decide +kernel
theorem dX2_certify_87 : decode cX2_certify 87 = .ok (.getfield 164, 3) := by decide +kernel
theorem dX2_certify_90 : decode cX2_certify 90 = .ok (.iconst 1, 1) := by decide +kernel
theorem dX2_certify_91 : decode cX2_certify 91 = .ok (.iadd, 1) := by decide +kernel
theorem dX2_certify_92 : decode cX2_certify 92 = .ok (.putfield 164, 3) := by decide +kernel
theorem dX2_certify_95 : decode cX2_certify 95 = .ok (.iload_n 2, 1) := by decide +kernel
theorem dX2_certify_96 : decode cX2_certify 96 = .ok (.ireturn, 1) := by decide +kernel
theorem dX2_disks_0 : decode cX2_disks 0 = .ok (.aload_n 0, 1) := by decide +kernel
theorem dX2_disks_1 : decode cX2_disks 1 = .ok (.getfield 34, 3) := by decide +kernel
theorem dX2_disks_4 : decode cX2_disks 4 = .ok (.ireturn, 1) := by decide +kernel
theorem dX2_keeperOf_0 : decode cX2_keeperOf 0 = .ok (.aload_n 0, 1) := by decide +kernel
theorem dX2_keeperOf_1 : decode cX2_keeperOf 1 = .ok (.iload_n 1, 1) := by decide +kernel
theorem dX2_keeperOf_2 : decode cX2_keeperOf 2 = .ok (.invokevirtual 50, 3) := by decide +kernel
theorem dX2_keeperOf_5 : decode cX2_keeperOf 5 = .ok (.getfield 54, 3) := by decide +kernel
theorem dX2_keeperOf_8 : decode cX2_keeperOf 8 = .ok (.ireturn, 1) := by decide +kernel
theorem dX2_keeperByLog_0 : decode cX2_keeperByLog 0 = .ok (.aload_n 0, 1) := by decide +kernel
theorem dX2_keeperByLog_1 : decode cX2_keeperByLog 1 = .ok (.iload_n 1, 1) := by decide +kernel
theorem dX2_keeperByLog_2 : decode cX2_keeperByLog 2 = .ok (.invokevirtual 50, 3) := by decide +kernel
theorem dX2_keeperByLog_5 : decode cX2_keeperByLog 5 = .ok (.getfield 175, 3) := by decide +kernel
theorem dX2_keeperByLog_8 : decode cX2_keeperByLog 8 = .ok (.ireturn, 1) := by decide +kernel
theorem dX2_crateOf_0 : decode cX2_crateOf 0 = .ok (.aload_n 0, 1) := by decide +kernel
theorem dX2_crateOf_1 : decode cX2_crateOf 1 = .ok (.iload_n 1, 1) := by decide +kernel
theorem dX2_crateOf_2 : decode cX2_crateOf 2 = .ok (.invokevirtual 50, 3) := by decide +kernel
theorem dX2_crateOf_5 : decode cX2_crateOf 5 = .ok (.invokevirtual 157, 3) := by decide +kernel
theorem dX2_crateOf_8 : decode cX2_crateOf 8 = .ok (.ireturn, 1) := by decide +kernel
theorem dX2_stateOf_0 : decode cX2_stateOf 0 = .ok (.aload_n 0, 1) := by decide +kernel
theorem dX2_stateOf_1 : decode cX2_stateOf 1 = .ok (.iload_n 1, 1) := by decide +kernel
theorem dX2_stateOf_2 : decode cX2_stateOf 2 = .ok (.invokevirtual 50, 3) := by decide +kernel
theorem dX2_stateOf_5 : decode cX2_stateOf 5 = .ok (.getfield 130, 3) := by decide +kernel
theorem dX2_stateOf_8 : decode cX2_stateOf 8 = .ok (.ireturn, 1) := by decide +kernel
theorem dX2_isDone_0 : decode cX2_isDone 0 = .ok (.aload_n 0, 1) := by decide +kernel
theorem dX2_isDone_1 : decode cX2_isDone 1 = .ok (.iload_n 1, 1) := by decide +kernel
theorem dX2_isDone_2 : decode cX2_isDone 2 = .ok (.invokevirtual 50, 3) := by decide +kernel
theorem dX2_isDone_5 : decode cX2_isDone 5 = .ok (.invokevirtual 178, 3) := by decide +kernel
theorem dX2_isDone_8 : decode cX2_isDone 8 = .ok (.ireturn, 1) := by decide +kernel
theorem dX2_offeredTo_0 : decode cX2_offeredTo 0 = .ok (.aload_n 0, 1) := by decide +kernel
theorem dX2_offeredTo_1 : decode cX2_offeredTo 1 = .ok (.iload_n 1, 1) := by decide +kernel
theorem dX2_offeredTo_2 : decode cX2_offeredTo 2 = .ok (.invokevirtual 50, 3) := by decide +kernel
theorem dX2_offeredTo_5 : decode cX2_offeredTo 5 = .ok (.getfield 63, 3) := by decide +kernel
theorem dX2_offeredTo_8 : decode cX2_offeredTo 8 = .ok (.ireturn, 1) := by decide +kernel
theorem dX2_certificateOf_0 : decode cX2_certificateOf 0 = .ok (.aload_n 0, 1) := by decide +kernel
theorem dX2_certificateOf_1 : decode cX2_certificateOf 1 = .ok (.iload_n 1, 1) := by decide +kernel
theorem dX2_certificateOf_2 : decode cX2_certificateOf 2 = .ok (.invokevirtual 50, 3) := by decide +kernel
theorem dX2_certificateOf_5 : decode cX2_certificateOf 5 = .ok (.getfield 167, 3) := by decide +kernel
theorem dX2_certificateOf_8 : decode cX2_certificateOf 8 = .ok (.ireturn, 1) := by decide +kernel
theorem dX2_crateKeeper_0 : decode cX2_crateKeeper 0 = .ok (.aload_n 0, 1) := by decide +kernel
theorem dX2_crateKeeper_1 : decode cX2_crateKeeper 1 = .ok (.iload_n 1, 1) := by decide +kernel
theorem dX2_crateKeeper_2 : decode cX2_crateKeeper 2 = .ok (.invokevirtual 72, 3) := by decide +kernel
theorem dX2_crateKeeper_5 : decode cX2_crateKeeper 5 = .ok (.getfield 80, 3) := by decide +kernel
theorem dX2_crateKeeper_8 : decode cX2_crateKeeper 8 = .ok (.ireturn, 1) := by decide +kernel
theorem dX2_sealOf_0 : decode cX2_sealOf 0 = .ok (.aload_n 0, 1) := by decide +kernel
theorem dX2_sealOf_1 : decode cX2_sealOf 1 = .ok (.iload_n 1, 1) := by decide +kernel
theorem dX2_sealOf_2 : decode cX2_sealOf 2 = .ok (.invokevirtual 72, 3) := by decide +kernel
theorem dX2_sealOf_5 : decode cX2_sealOf 5 = .ok (.getfield 101, 3) := by decide +kernel
theorem dX2_sealOf_8 : decode cX2_sealOf 8 = .ok (.ireturn, 1) := by decide +kernel
theorem dX2_has_0 : decode cX2_has 0 = .ok (.iload_n 1, 1) := by decide +kernel
theorem dX2_has_1 : decode cX2_has 1 = .ok (.invokestatic 24, 3) := by decide +kernel
theorem dX2_has_4 : decode cX2_has 4 = .ok (.iconst 0, 1) := by decide +kernel
theorem dX2_has_5 : decode cX2_has 5 = .ok (.istore_n 2, 1) := by decide +kernel
theorem dX2_has_6 : decode cX2_has 6 = .ok (.aload_n 0, 1) := by decide +kernel
theorem dX2_has_7 : decode cX2_has 7 = .ok (.getfield 11, 3) := by decide +kernel
theorem dX2_has_10 : decode cX2_has 10 = .ok (.astore_n 3, 1) := by decide +kernel
theorem dX2_has_11 : decode cX2_has 11 = .ok (.aload_n 3, 1) := by decide +kernel
theorem dX2_has_12 : decode cX2_has 12 = .ok (.arraylength, 1) := by decide +kernel
theorem dX2_has_13 : decode cX2_has 13 = .ok (.istore 4, 2) := by decide +kernel
theorem dX2_has_15 : decode cX2_has 15 = .ok (.iconst 0, 1) := by decide +kernel
theorem dX2_has_16 : decode cX2_has 16 = .ok (.istore 5, 2) := by decide +kernel
theorem dX2_has_18 : decode cX2_has 18 = .ok (.iload 5, 2) := by decide +kernel
theorem dX2_has_20 : decode cX2_has 20 = .ok (.iload 4, 2) := by decide +kernel
theorem dX2_has_22 : decode cX2_has 22 = .ok (.if_icmp .ge 32, 3) := by decide +kernel
theorem dX2_has_25 : decode cX2_has 25 = .ok (.aload_n 3, 1) := by decide +kernel
theorem dX2_has_26 : decode cX2_has 26 = .ok (.iload 5, 2) := by decide +kernel
theorem dX2_has_28 : decode cX2_has 28 = .ok (.aaload, 1) := by decide +kernel
theorem dX2_has_29 : decode cX2_has 29 = .ok (.astore 6, 2) := by decide +kernel
theorem dX2_has_31 : decode cX2_has 31 = .ok (.aload 6, 2) := by decide +kernel
theorem dX2_has_33 : decode cX2_has 33 = .ok (.ifnull 15, 3) := by decide +kernel
theorem dX2_has_36 : decode cX2_has 36 = .ok (.aload 6, 2) := by decide +kernel
theorem dX2_has_38 : decode cX2_has 38 = .ok (.getfield 54, 3) := by decide +kernel
theorem dX2_has_41 : decode cX2_has 41 = .ok (.iload_n 1, 1) := by decide +kernel
theorem dX2_has_42 : decode cX2_has 42 = .ok (.if_icmp .ne 6, 3) := by decide +kernel
theorem dX2_has_45 : decode cX2_has 45 = .ok (.iinc 2 1, 3) := by decide +kernel
theorem dX2_has_48 : decode cX2_has 48 = .ok (.iinc 5 1, 3) := by decide +kernel
theorem dX2_has_51 : decode cX2_has 51 = .ok (.goto (-33), 3) := by decide +kernel
theorem dX2_has_54 : decode cX2_has 54 = .ok (.iload_n 2, 1) := by decide +kernel
theorem dX2_has_55 : decode cX2_has 55 = .ok (.ireturn, 1) := by decide +kernel
theorem dX2_missing_0 : decode cX2_missing 0 = .ok (.iconst 0, 1) := by decide +kernel
theorem dX2_missing_1 : decode cX2_missing 1 = .ok (.istore_n 1, 1) := by decide +kernel
theorem dX2_missing_2 : decode cX2_missing 2 = .ok (.aload_n 0, 1) := by decide +kernel
theorem dX2_missing_3 : decode cX2_missing 3 = .ok (.getfield 11, 3) := by decide +kernel
theorem dX2_missing_6 : decode cX2_missing 6 = .ok (.astore_n 2, 1) := by decide +kernel
theorem dX2_missing_7 : decode cX2_missing 7 = .ok (.aload_n 2, 1) := by decide +kernel
theorem dX2_missing_8 : decode cX2_missing 8 = .ok (.arraylength, 1) := by decide +kernel
theorem dX2_missing_9 : decode cX2_missing 9 = .ok (.istore_n 3, 1) := by decide +kernel
theorem dX2_missing_10 : decode cX2_missing 10 = .ok (.iconst 0, 1) := by decide +kernel
theorem dX2_missing_11 : decode cX2_missing 11 = .ok (.istore 4, 2) := by decide +kernel
theorem dX2_missing_13 : decode cX2_missing 13 = .ok (.iload 4, 2) := by decide +kernel
theorem dX2_missing_15 : decode cX2_missing 15 = .ok (.iload_n 3, 1) := by decide +kernel
theorem dX2_missing_16 : decode cX2_missing 16 = .ok (.if_icmp .ge 31, 3) := by decide +kernel
theorem dX2_missing_19 : decode cX2_missing 19 = .ok (.aload_n 2, 1) := by decide +kernel
theorem dX2_missing_20 : decode cX2_missing 20 = .ok (.iload 4, 2) := by decide +kernel
theorem dX2_missing_22 : decode cX2_missing 22 = .ok (.aaload, 1) := by decide +kernel
theorem dX2_missing_23 : decode cX2_missing 23 = .ok (.astore 5, 2) := by decide +kernel
theorem dX2_missing_25 : decode cX2_missing 25 = .ok (.aload 5, 2) := by decide +kernel
theorem dX2_missing_27 : decode cX2_missing 27 = .ok (.ifnull 14, 3) := by decide +kernel
theorem dX2_missing_30 : decode cX2_missing 30 = .ok (.aload 5, 2) := by decide +kernel
theorem dX2_missing_32 : decode cX2_missing 32 = .ok (.getfield 66, 3) := by decide +kernel
theorem dX2_missing_35 : decode cX2_missing 35 = .ok (.ifCond .eq 6, 3) := by decide +kernel
theorem dX2_missing_38 : decode cX2_missing 38 = .ok (.iinc 1 1, 3) := by decide +kernel
theorem dX2_missing_41 : decode cX2_missing 41 = .ok (.iinc 4 1, 3) := by decide +kernel
theorem dX2_missing_44 : decode cX2_missing 44 = .ok (.goto (-31), 3) := by decide +kernel
theorem dX2_missing_47 : decode cX2_missing 47 = .ok (.iload_n 1, 1) := by decide +kernel
theorem dX2_missing_48 : decode cX2_missing 48 = .ok (.ireturn, 1) := by decide +kernel
theorem dX2_oddCounts_0 : decode cX2_oddCounts 0 = .ok (.aload_n 0, 1) := by decide +kernel
theorem dX2_oddCounts_1 : decode cX2_oddCounts 1 = .ok (.getfield 111, 3) := by decide +kernel
theorem dX2_oddCounts_4 : decode cX2_oddCounts 4 = .ok (.ireturn, 1) := by decide +kernel
theorem dX2_logged_0 : decode cX2_logged 0 = .ok (.aload_n 0, 1) := by decide +kernel
theorem dX2_logged_1 : decode cX2_logged 1 = .ok (.getfield 181, 3) := by decide +kernel
theorem dX2_logged_4 : decode cX2_logged 4 = .ok (.ireturn, 1) := by decide +kernel
theorem dX2_certificates_0 : decode cX2_certificates 0 = .ok (.aload_n 0, 1) := by decide +kernel
theorem dX2_certificates_1 : decode cX2_certificates 1 = .ok (.getfield 164, 3) := by decide +kernel
theorem dX2_certificates_4 : decode cX2_certificates 4 = .ok (.ireturn, 1) := by decide +kernel
theorem dX2_findDisk_0 : decode cX2_findDisk 0 = .ok (.iload_n 1, 1) := by decide +kernel
theorem dX2_findDisk_1 : decode cX2_findDisk 1 = .ok (.ifCond .lt 12, 3) := by decide +kernel
theorem dX2_findDisk_4 : decode cX2_findDisk 4 = .ok (.iload_n 1, 1) := by decide +kernel
theorem dX2_findDisk_5 : decode cX2_findDisk 5 = .ok (.aload_n 0, 1) := by decide +kernel
theorem dX2_findDisk_6 : decode cX2_findDisk 6 = .ok (.getfield 11, 3) := by decide +kernel
theorem dX2_findDisk_9 : decode cX2_findDisk 9 = .ok (.arraylength, 1) := by decide +kernel
theorem dX2_findDisk_10 : decode cX2_findDisk 10 = .ok (.if_icmp .lt 7, 3) := by decide +kernel
theorem dX2_findDisk_13 : decode cX2_findDisk 13 = .ok (.aconst_null, 1) := by decide +kernel
theorem dX2_findDisk_14 : decode cX2_findDisk 14 = .ok (.goto 9, 3) := by decide +kernel
theorem dX2_findDisk_17 : decode cX2_findDisk 17 = .ok (.aload_n 0, 1) := by decide +kernel
theorem dX2_findDisk_18 : decode cX2_findDisk 18 = .ok (.getfield 11, 3) := by decide +kernel
theorem dX2_findDisk_21 : decode cX2_findDisk 21 = .ok (.iload_n 1, 1) := by decide +kernel
theorem dX2_findDisk_22 : decode cX2_findDisk 22 = .ok (.aaload, 1) := by decide +kernel
theorem dX2_findDisk_23 : decode cX2_findDisk 23 = .ok (.astore_n 2, 1) := by decide +kernel
theorem dX2_findDisk_24 : decode cX2_findDisk 24 = .ok (.aload_n 2, 1) := by decide +kernel
theorem dX2_findDisk_25 : decode cX2_findDisk 25 = .ok (.ifnonnull 13, 3) := by decide +kernel
theorem dX2_findDisk_28 : decode cX2_findDisk 28 = .ok (.new 184, 3) := by decide +kernel
theorem dX2_findDisk_31 : decode cX2_findDisk 31 = .ok (.dup, 1) := by decide +kernel
theorem dX2_findDisk_32 : decode cX2_findDisk 32 = .ok (.ldc 186, 2) := by decide +kernel
theorem dX2_findDisk_34 : decode cX2_findDisk 34 = .ok (.invokespecial 188, 3) := by decide +kernel
theorem dX2_findDisk_37 : decode cX2_findDisk 37 = .ok (.athrow, 1) := by decide +kernel
theorem dX2_findDisk_38 : decode cX2_findDisk 38 = .ok (.aload_n 2, 1) := by decide +kernel
theorem dX2_findDisk_39 : decode cX2_findDisk 39 = .ok (.areturn, 1) := by decide +kernel
theorem dX2_findCrate_0 : decode cX2_findCrate 0 = .ok (.iload_n 1, 1) := by decide +kernel
theorem dX2_findCrate_1 : decode cX2_findCrate 1 = .ok (.ifCond .lt 12, 3) := by decide +kernel
theorem dX2_findCrate_4 : decode cX2_findCrate 4 = .ok (.iload_n 1, 1) := by decide +kernel
theorem dX2_findCrate_5 : decode cX2_findCrate 5 = .ok (.aload_n 0, 1) := by decide +kernel
theorem dX2_findCrate_6 : decode cX2_findCrate 6 = .ok (.getfield 17, 3) := by decide +kernel
theorem dX2_findCrate_9 : decode cX2_findCrate 9 = .ok (.arraylength, 1) := by decide +kernel
theorem dX2_findCrate_10 : decode cX2_findCrate 10 = .ok (.if_icmp .lt 7, 3) := by decide +kernel
theorem dX2_findCrate_13 : decode cX2_findCrate 13 = .ok (.aconst_null, 1) := by decide +kernel
theorem dX2_findCrate_14 : decode cX2_findCrate 14 = .ok (.goto 9, 3) := by decide +kernel
theorem dX2_findCrate_17 : decode cX2_findCrate 17 = .ok (.aload_n 0, 1) := by decide +kernel
theorem dX2_findCrate_18 : decode cX2_findCrate 18 = .ok (.getfield 17, 3) := by decide +kernel
theorem dX2_findCrate_21 : decode cX2_findCrate 21 = .ok (.iload_n 1, 1) := by decide +kernel
theorem dX2_findCrate_22 : decode cX2_findCrate 22 = .ok (.aaload, 1) := by decide +kernel
theorem dX2_findCrate_23 : decode cX2_findCrate 23 = .ok (.astore_n 2, 1) := by decide +kernel
theorem dX2_findCrate_24 : decode cX2_findCrate 24 = .ok (.aload_n 2, 1) := by decide +kernel
theorem dX2_findCrate_25 : decode cX2_findCrate 25 = .ok (.ifnonnull 13, 3) := by decide +kernel
theorem dX2_findCrate_28 : decode cX2_findCrate 28 = .ok (.new 184, 3) := by decide +kernel
theorem dX2_findCrate_31 : decode cX2_findCrate 31 = .ok (.dup, 1) := by decide +kernel
theorem dX2_findCrate_32 : decode cX2_findCrate 32 = .ok (.ldc 189, 2) := by decide +kernel
theorem dX2_findCrate_34 : decode cX2_findCrate 34 = .ok (.invokespecial 188, 3) := by decide +kernel
theorem dX2_findCrate_37 : decode cX2_findCrate 37 = .ok (.athrow, 1) := by decide +kernel
theorem dX2_findCrate_38 : decode cX2_findCrate 38 = .ok (.aload_n 2, 1) := by decide +kernel
theorem dX2_findCrate_39 : decode cX2_findCrate 39 = .ok (.areturn, 1) := by decide +kernel
theorem dX2_countDisksIn_0 : decode cX2_countDisksIn 0 = .ok (.iconst 0, 1) := by decide +kernel
theorem dX2_countDisksIn_1 : decode cX2_countDisksIn 1 = .ok (.istore_n 2, 1) := by decide +kernel
theorem dX2_countDisksIn_2 : decode cX2_countDisksIn 2 = .ok (.aload_n 0, 1) := by decide +kernel
theorem dX2_countDisksIn_3 : decode cX2_countDisksIn 3 = .ok (.getfield 11, 3) := by decide +kernel
theorem dX2_countDisksIn_6 : decode cX2_countDisksIn 6 = .ok (.astore_n 3, 1) := by decide +kernel
theorem dX2_countDisksIn_7 : decode cX2_countDisksIn 7 = .ok (.aload_n 3, 1) := by decide +kernel
theorem dX2_countDisksIn_8 : decode cX2_countDisksIn 8 = .ok (.arraylength, 1) := by decide +kernel
theorem dX2_countDisksIn_9 : decode cX2_countDisksIn 9 = .ok (.istore 4, 2) := by decide +kernel
theorem dX2_countDisksIn_11 : decode cX2_countDisksIn 11 = .ok (.iconst 0, 1) := by decide +kernel
theorem dX2_countDisksIn_12 : decode cX2_countDisksIn 12 = .ok (.istore 5, 2) := by decide +kernel
theorem dX2_countDisksIn_14 : decode cX2_countDisksIn 14 = .ok (.iload 5, 2) := by decide +kernel
theorem dX2_countDisksIn_16 : decode cX2_countDisksIn 16 = .ok (.iload 4, 2) := by decide +kernel
theorem dX2_countDisksIn_18 : decode cX2_countDisksIn 18 = .ok (.if_icmp .ge 35, 3) := by decide +kernel
theorem dX2_countDisksIn_21 : decode cX2_countDisksIn 21 = .ok (.aload_n 3, 1) := by decide +kernel
theorem dX2_countDisksIn_22 : decode cX2_countDisksIn 22 = .ok (.iload 5, 2) := by decide +kernel
theorem dX2_countDisksIn_24 : decode cX2_countDisksIn 24 = .ok (.aaload, 1) := by decide +kernel
theorem dX2_countDisksIn_25 : decode cX2_countDisksIn 25 = .ok (.astore 6, 2) := by decide +kernel
theorem dX2_countDisksIn_27 : decode cX2_countDisksIn 27 = .ok (.aload 6, 2) := by decide +kernel
theorem dX2_countDisksIn_29 : decode cX2_countDisksIn 29 = .ok (.ifnull 18, 3) := by decide +kernel
theorem dX2_countDisksIn_32 : decode cX2_countDisksIn 32 = .ok (.aload 6, 2) := by decide +kernel
theorem dX2_countDisksIn_34 : decode cX2_countDisksIn 34 = .ok (.invokevirtual 157, 3) := by decide +kernel
theorem dX2_countDisksIn_37 : decode cX2_countDisksIn 37 = .ok (.aload_n 1, 1) := by decide +kernel
theorem dX2_countDisksIn_38 : decode cX2_countDisksIn 38 = .ok (.getfield 93, 3) := by decide +kernel
theorem dX2_countDisksIn_41 : decode cX2_countDisksIn 41 = .ok (.if_icmp .ne 6, 3) := by decide +kernel
theorem dX2_countDisksIn_44 : decode cX2_countDisksIn 44 = .ok (.iinc 2 1, 3) := by decide +kernel
theorem dX2_countDisksIn_47 : decode cX2_countDisksIn 47 = .ok (.iinc 5 1, 3) := by decide +kernel
theorem dX2_countDisksIn_50 : decode cX2_countDisksIn 50 = .ok (.goto (-36), 3) := by decide +kernel
theorem dX2_countDisksIn_53 : decode cX2_countDisksIn 53 = .ok (.iload_n 2, 1) := by decide +kernel
theorem dX2_countDisksIn_54 : decode cX2_countDisksIn 54 = .ok (.ireturn, 1) := by decide +kernel
theorem dX2_handOverDisksIn_0 : decode cX2_handOverDisksIn 0 = .ok (.aload_n 0, 1) := by decide +kernel
theorem dX2_handOverDisksIn_1 : decode cX2_handOverDisksIn 1 = .ok (.getfield 11, 3) := by decide +kernel
theorem dX2_handOverDisksIn_4 : decode cX2_handOverDisksIn 4 = .ok (.astore_n 2, 1) := by decide +kernel
theorem dX2_handOverDisksIn_5 : decode cX2_handOverDisksIn 5 = .ok (.aload_n 2, 1) := by decide +kernel
theorem dX2_handOverDisksIn_6 : decode cX2_handOverDisksIn 6 = .ok (.arraylength, 1) := by decide +kernel
theorem dX2_handOverDisksIn_7 : decode cX2_handOverDisksIn 7 = .ok (.istore_n 3, 1) := by decide +kernel
theorem dX2_handOverDisksIn_8 : decode cX2_handOverDisksIn 8 = .ok (.iconst 0, 1) := by decide +kernel
theorem dX2_handOverDisksIn_9 : decode cX2_handOverDisksIn 9 = .ok (.istore 4, 2) := by decide +kernel
theorem dX2_handOverDisksIn_11 : decode cX2_handOverDisksIn 11 = .ok (.iload 4, 2) := by decide +kernel
theorem dX2_handOverDisksIn_13 : decode cX2_handOverDisksIn 13 = .ok (.iload_n 3, 1) := by decide +kernel
theorem dX2_handOverDisksIn_14 : decode cX2_handOverDisksIn 14 = .ok (.if_icmp .ge 42, 3) := by decide +kernel
theorem dX2_handOverDisksIn_17 : decode cX2_handOverDisksIn 17 = .ok (.aload_n 2, 1) := by decide +kernel
theorem dX2_handOverDisksIn_18 : decode cX2_handOverDisksIn 18 = .ok (.iload 4, 2) := by decide +kernel
theorem dX2_handOverDisksIn_20 : decode cX2_handOverDisksIn 20 = .ok (.aaload, 1) := by decide +kernel
theorem dX2_handOverDisksIn_21 : decode cX2_handOverDisksIn 21 = .ok (.astore 5, 2) := by decide +kernel
theorem dX2_handOverDisksIn_23 : decode cX2_handOverDisksIn 23 = .ok (.aload 5, 2) := by decide +kernel
theorem dX2_handOverDisksIn_25 : decode cX2_handOverDisksIn 25 = .ok (.ifnull 25, 3) := by decide +kernel
theorem dX2_handOverDisksIn_28 : decode cX2_handOverDisksIn 28 = .ok (.aload 5, 2) := by decide +kernel
theorem dX2_handOverDisksIn_30 : decode cX2_handOverDisksIn 30 = .ok (.invokevirtual 157, 3) := by decide +kernel
theorem dX2_handOverDisksIn_33 : decode cX2_handOverDisksIn 33 = .ok (.aload_n 1, 1) := by decide +kernel
theorem dX2_handOverDisksIn_34 : decode cX2_handOverDisksIn 34 = .ok (.getfield 93, 3) := by decide +kernel
theorem dX2_handOverDisksIn_37 : decode cX2_handOverDisksIn 37 = .ok (.if_icmp .ne 13, 3) := by decide +kernel
theorem dX2_handOverDisksIn_40 : decode cX2_handOverDisksIn 40 = .ok (.aload_n 0, 1) := by decide +kernel
theorem dX2_handOverDisksIn_41 : decode cX2_handOverDisksIn 41 = .ok (.aload 5, 2) := by decide +kernel
theorem dX2_handOverDisksIn_43 : decode cX2_handOverDisksIn 43 = .ok (.aload_n 1, 1) := by decide +kernel
theorem dX2_handOverDisksIn_44 : decode cX2_handOverDisksIn 44 = .ok (.getfield 80, 3) := by decide +kernel
theorem dX2_handOverDisksIn_47 : decode cX2_handOverDisksIn 47 = .ok (.invokevirtual 46, 3) := by decide +kernel
theorem dX2_handOverDisksIn_50 : decode cX2_handOverDisksIn 50 = .ok (.iinc 4 1, 3) := by decide +kernel
theorem dX2_handOverDisksIn_53 : decode cX2_handOverDisksIn 53 = .ok (.goto (-42), 3) := by decide +kernel
theorem dX2_handOverDisksIn_56 : decode cX2_handOverDisksIn 56 = .ok (.return_, 1) := by decide +kernel
theorem dX2_handOver_0 : decode cX2_handOver 0 = .ok (.aload_n 1, 1) := by decide +kernel
theorem dX2_handOver_1 : decode cX2_handOver 1 = .ok (.iload_n 2, 1) := by decide +kernel
theorem dX2_handOver_2 : decode cX2_handOver 2 = .ok (.putfield 54, 3) := by decide +kernel
theorem dX2_handOver_5 : decode cX2_handOver 5 = .ok (.aload_n 1, 1) := by decide +kernel
theorem dX2_handOver_6 : decode cX2_handOver 6 = .ok (.iload_n 2, 1) := by decide +kernel
theorem dX2_handOver_7 : decode cX2_handOver 7 = .ok (.putfield 175, 3) := by decide +kernel
theorem dX2_handOver_10 : decode cX2_handOver 10 = .ok (.aload_n 0, 1) := by decide +kernel
theorem dX2_handOver_11 : decode cX2_handOver 11 = .ok (.dup, 1) := by decide +kernel
theorem dX2_handOver_12 : decode cX2_handOver 12 = .ok (.getfield 181, 3) := by decide +kernel
theorem dX2_handOver_15 : decode cX2_handOver 15 = .ok (.iconst 1, 1) := by decide +kernel
theorem dX2_handOver_16 : decode cX2_handOver 16 = .ok (.iadd, 1) := by decide +kernel
theorem dX2_handOver_17 : decode cX2_handOver 17 = .ok (.putfield 181, 3) := by decide +kernel
theorem dX2_handOver_20 : decode cX2_handOver 20 = .ok (.return_, 1) := by decide +kernel
theorem dX2_requireKeeper_0 : decode cX2_requireKeeper 0 = .ok (.iload_n 0, 1) := by decide +kernel
theorem dX2_requireKeeper_1 : decode cX2_requireKeeper 1 = .ok (.ifCond .lt 9, 3) := by decide +kernel
theorem dX2_requireKeeper_4 : decode cX2_requireKeeper 4 = .ok (.iload_n 0, 1) := by decide +kernel
theorem dX2_requireKeeper_5 : decode cX2_requireKeeper 5 = .ok (.bipush 8, 2) := by decide +kernel
theorem dX2_requireKeeper_7 : decode cX2_requireKeeper 7 = .ok (.if_icmp .lt 13, 3) := by decide +kernel
theorem dX2_requireKeeper_10 : decode cX2_requireKeeper 10 = .ok (.new 184, 3) := by decide +kernel
theorem dX2_requireKeeper_13 : decode cX2_requireKeeper 13 = .ok (.dup, 1) := by decide +kernel
theorem dX2_requireKeeper_14 : decode cX2_requireKeeper 14 = .ok (.ldc 191, 2) := by decide +kernel
theorem dX2_requireKeeper_16 : decode cX2_requireKeeper 16 = .ok (.invokespecial 188, 3) := by decide +kernel
theorem dX2_requireKeeper_19 : decode cX2_requireKeeper 19 = .ok (.athrow, 1) := by decide +kernel
theorem dX2_requireKeeper_20 : decode cX2_requireKeeper 20 = .ok (.return_, 1) := by decide +kernel
theorem dX2_requireLoose_0 : decode cX2_requireLoose 0 = .ok (.aload_n 0, 1) := by decide +kernel
theorem dX2_requireLoose_1 : decode cX2_requireLoose 1 = .ok (.getfield 66, 3) := by decide +kernel
theorem dX2_requireLoose_4 : decode cX2_requireLoose 4 = .ok (.ifCond .ne 18, 3) := by decide +kernel
theorem dX2_requireLoose_7 : decode cX2_requireLoose 7 = .ok (.aload_n 0, 1) := by decide +kernel
theorem dX2_requireLoose_8 : decode cX2_requireLoose 8 = .ok (.getfield 63, 3) := by decide +kernel
theorem dX2_requireLoose_11 : decode cX2_requireLoose 11 = .ok (.iconst (-1), 1) := by decide +kernel
theorem dX2_requireLoose_12 : decode cX2_requireLoose 12 = .ok (.if_icmp .ne 10, 3) := by decide +kernel
theorem dX2_requireLoose_15 : decode cX2_requireLoose 15 = .ok (.aload_n 0, 1) := by decide +kernel
theorem dX2_requireLoose_16 : decode cX2_requireLoose 16 = .ok (.getfield 83, 3) := by decide +kernel
theorem dX2_requireLoose_19 : decode cX2_requireLoose 19 = .ok (.ifnull 13, 3) := by decide +kernel
theorem dX2_requireLoose_22 : decode cX2_requireLoose 22 = .ok (.new 38, 3) := by decide +kernel
theorem dX2_requireLoose_25 : decode cX2_requireLoose 25 = .ok (.dup, 1) := by decide +kernel
theorem dX2_requireLoose_26 : decode cX2_requireLoose 26 = .ok (.ldc 193, 2) := by decide +kernel
theorem dX2_requireLoose_28 : decode cX2_requireLoose 28 = .ok (.invokespecial 42, 3) := by decide +kernel
theorem dX2_requireLoose_31 : decode cX2_requireLoose 31 = .ok (.athrow, 1) := by decide +kernel
theorem dX2_requireLoose_32 : decode cX2_requireLoose 32 = .ok (.return_, 1) := by decide +kernel
theorem dX2_requireWithinReach_0 : decode cX2_requireWithinReach 0 = .ok (.aload_n 0, 1) := by decide +kernel
theorem dX2_requireWithinReach_1 : decode cX2_requireWithinReach 1 = .ok (.getfield 66, 3) := by decide +kernel
theorem dX2_requireWithinReach_4 : decode cX2_requireWithinReach 4 = .ok (.ifCond .ne 18, 3) := by decide +kernel
theorem dX2_requireWithinReach_7 : decode cX2_requireWithinReach 7 = .ok (.aload_n 0, 1) := by decide +kernel
theorem dX2_requireWithinReach_8 : decode cX2_requireWithinReach 8 = .ok (.getfield 63, 3) := by decide +kernel
theorem dX2_requireWithinReach_11 : decode cX2_requireWithinReach 11 = .ok (.iconst (-1), 1) := by decide +kernel
theorem dX2_requireWithinReach_12 : decode cX2_requireWithinReach 12 = .ok (.if_icmp .ne 10, 3) := by decide +kernel
theorem dX2_requireWithinReach_15 : decode cX2_requireWithinReach 15 = .ok (.aload_n 0, 1) := by decide +kernel
theorem dX2_requireWithinReach_16 : decode cX2_requireWithinReach 16 = .ok (.invokevirtual 195, 3) := by decide +kernel
theorem dX2_requireWithinReach_19 : decode cX2_requireWithinReach 19 = .ok (.ifCond .eq 13, 3) := by decide +kernel
theorem dX2_requireWithinReach_22 : decode cX2_requireWithinReach 22 = .ok (.new 38, 3) := by decide +kernel
theorem dX2_requireWithinReach_25 : decode cX2_requireWithinReach 25 = .ok (.dup, 1) := by decide +kernel
theorem dX2_requireWithinReach_26 : decode cX2_requireWithinReach 26 = .ok (.ldc 198, 2) := by decide +kernel
theorem dX2_requireWithinReach_28 : decode cX2_requireWithinReach 28 = .ok (.invokespecial 42, 3) := by decide +kernel
theorem dX2_requireWithinReach_31 : decode cX2_requireWithinReach 31 = .ok (.athrow, 1) := by decide +kernel
theorem dX2_requireWithinReach_32 : decode cX2_requireWithinReach 32 = .ok (.return_, 1) := by decide +kernel
theorem dX2_requireWitnessIsNotKeeper_0 : decode cX2_requireWitnessIsNotKeeper 0 = .ok (.iload_n 1, 1) := by decide +kernel
theorem dX2_requireWitnessIsNotKeeper_1 : decode cX2_requireWitnessIsNotKeeper 1 = .ok (.aload_n 0, 1) := by decide +kernel
theorem dX2_requireWitnessIsNotKeeper_2 : decode cX2_requireWitnessIsNotKeeper 2 = .ok (.getfield 54, 3) := by decide +kernel
theorem dX2_requireWitnessIsNotKeeper_5 : decode cX2_requireWitnessIsNotKeeper 5 = .ok (.if_icmp .ne 13, 3) := by decide +kernel
theorem dX2_requireWitnessIsNotKeeper_8 : decode cX2_requireWitnessIsNotKeeper 8 = .ok (.new 27, 3) := by decide +kernel
theorem dX2_requireWitnessIsNotKeeper_11 : decode cX2_requireWitnessIsNotKeeper 11 = .ok (.dup, 1) := by decide +kernel
theorem dX2_requireWitnessIsNotKeeper_12 : decode cX2_requireWitnessIsNotKeeper 12 = .ok (.ldc 200, 2) := by decide +kernel
theorem dX2_requireWitnessIsNotKeeper_14 : decode cX2_requireWitnessIsNotKeeper 14 = .ok (.invokespecial 31, 3) := by decide +kernel
theorem dX2_requireWitnessIsNotKeeper_17 : decode cX2_requireWitnessIsNotKeeper 17 = .ok (.athrow, 1) := by decide +kernel
theorem dX2_requireWitnessIsNotKeeper_18 : decode cX2_requireWitnessIsNotKeeper 18 = .ok (.return_, 1) := by decide +kernel
theorem dX3_init_0 : decode cX3_init 0 = .ok (.aload_n 0, 1) := by decide +kernel
theorem dX3_init_1 : decode cX3_init 1 = .ok (.invokespecial 1, 3) := by decide +kernel
theorem dX3_init_4 : decode cX3_init 4 = .ok (.aload_n 0, 1) := by decide +kernel
theorem dX3_init_5 : decode cX3_init 5 = .ok (.bipush 60, 2) := by decide +kernel
theorem dX3_init_7 : decode cX3_init 7 = .ok (.newarray .int, 2) := by decide +kernel
theorem dX3_init_9 : decode cX3_init 9 = .ok (.putfield 7, 3) := by decide +kernel
theorem dX3_init_12 : decode cX3_init 12 = .ok (.aload_n 0, 1) := by decide +kernel
theorem dX3_init_13 : decode cX3_init 13 = .ok (.bipush 60, 2) := by decide +kernel
theorem dX3_init_15 : decode cX3_init 15 = .ok (.newarray .int, 2) := by decide +kernel
theorem dX3_init_17 : decode cX3_init 17 = .ok (.putfield 13, 3) := by decide +kernel
theorem dX3_init_20 : decode cX3_init 20 = .ok (.aload_n 0, 1) := by decide +kernel
theorem dX3_init_21 : decode cX3_init 21 = .ok (.bipush 60, 2) := by decide +kernel
theorem dX3_init_23 : decode cX3_init 23 = .ok (.newarray .int, 2) := by decide +kernel
theorem dX3_init_25 : decode cX3_init 25 = .ok (.putfield 16, 3) := by decide +kernel
theorem dX3_init_28 : decode cX3_init 28 = .ok (.aload_n 0, 1) := by decide +kernel
theorem dX3_init_29 : decode cX3_init 29 = .ok (.bipush 60, 2) := by decide +kernel
theorem dX3_init_31 : decode cX3_init 31 = .ok (.newarray .int, 2) := by decide +kernel
theorem dX3_init_33 : decode cX3_init 33 = .ok (.putfield 19, 3) := by decide +kernel
theorem dX3_init_36 : decode cX3_init 36 = .ok (.aload_n 0, 1) := by decide +kernel
theorem dX3_init_37 : decode cX3_init 37 = .ok (.bipush 60, 2) := by decide +kernel
theorem dX3_init_39 : decode cX3_init 39 = .ok (.newarray .int, 2) := by decide +kernel
theorem dX3_init_41 : decode cX3_init 41 = .ok (.putfield 22, 3) := by decide +kernel
theorem dX3_init_44 : decode cX3_init 44 = .ok (.aload_n 0, 1) := by decide +kernel
theorem dX3_init_45 : decode cX3_init 45 = .ok (.bipush 60, 2) := by decide +kernel
theorem dX3_init_47 : decode cX3_init 47 = .ok (.newarray .boolean, 2) := by decide +kernel
theorem dX3_init_49 : decode cX3_init 49 = .ok (.putfield 25, 3) := by decide +kernel
theorem dX3_init_52 : decode cX3_init 52 = .ok (.aload_n 0, 1) := by decide +kernel
theorem dX3_init_53 : decode cX3_init 53 = .ok (.bipush 60, 2) := by decide +kernel
theorem dX3_init_55 : decode cX3_init 55 = .ok (.newarray .int, 2) := by decide +kernel
theorem dX3_init_57 : decode cX3_init 57 = .ok (.putfield 29, 3) := by decide +kernel
theorem dX3_init_60 : decode cX3_init 60 = .ok (.aload_n 0, 1) := by decide +kernel
theorem dX3_init_61 : decode cX3_init 61 = .ok (.bipush 60, 2) := by decide +kernel
theorem dX3_init_63 : decode cX3_init 63 = .ok (.newarray .int, 2) := by decide +kernel
theorem dX3_init_65 : decode cX3_init 65 = .ok (.putfield 32, 3) := by decide +kernel
theorem dX3_init_68 : decode cX3_init 68 = .ok (.aload_n 0, 1) := by decide +kernel
theorem dX3_init_69 : decode cX3_init 69 = .ok (.bipush 60, 2) := by decide +kernel
theorem dX3_init_71 : decode cX3_init 71 = .ok (.newarray .boolean, 2) := by decide +kernel
theorem dX3_init_73 : decode cX3_init 73 = .ok (.putfield 35, 3) := by decide +kernel
theorem dX3_init_76 : decode cX3_init 76 = .ok (.aload_n 0, 1) := by decide +kernel
theorem dX3_init_77 : decode cX3_init 77 = .ok (.bipush 60, 2) := by decide +kernel
theorem dX3_init_79 : decode cX3_init 79 = .ok (.newarray .int, 2) := by decide +kernel
theorem dX3_init_81 : decode cX3_init 81 = .ok (.putfield 38, 3) := by decide +kernel
theorem dX3_init_84 : decode cX3_init 84 = .ok (.aload_n 0, 1) := by decide +kernel
theorem dX3_init_85 : decode cX3_init 85 = .ok (.bipush 10, 2) := by decide +kernel
theorem dX3_init_87 : decode cX3_init 87 = .ok (.newarray .int, 2) := by decide +kernel
theorem dX3_init_89 : decode cX3_init 89 = .ok (.putfield 41, 3) := by decide +kernel
theorem dX3_init_92 : decode cX3_init 92 = .ok (.aload_n 0, 1) := by decide +kernel
theorem dX3_init_93 : decode cX3_init 93 = .ok (.bipush 10, 2) := by decide +kernel
theorem dX3_init_95 : decode cX3_init 95 = .ok (.newarray .int, 2) := by decide +kernel
theorem dX3_init_97 : decode cX3_init 97 = .ok (.putfield 44, 3) := by decide +kernel
theorem dX3_init_100 : decode cX3_init 100 = .ok (.aload_n 0, 1) := by decide +kernel
theorem dX3_init_101 : decode cX3_init 101 = .ok (.bipush 100, 2) := by decide +kernel
theorem dX3_init_103 : decode cX3_init 103 = .ok (.newarray .int, 2) := by decide +kernel
theorem dX3_init_105 : decode cX3_init 105 = .ok (.putfield 47, 3) := by decide +kernel
theorem dX3_init_108 : decode cX3_init 108 = .ok (.iconst 0, 1) := by decide +kernel
theorem dX3_init_109 : decode cX3_init 109 = .ok (.istore_n 1, 1) := by decide +kernel
theorem dX3_init_110 : decode cX3_init 110 = .ok (.iload_n 1, 1) := by decide +kernel
theorem dX3_init_111 : decode cX3_init 111 = .ok (.bipush 10, 2) := by decide +kernel
theorem dX3_init_113 : decode cX3_init 113 = .ok (.if_icmp .ge 16, 3) := by decide +kernel
theorem dX3_init_116 : decode cX3_init 116 = .ok (.aload_n 0, 1) := by decide +kernel
theorem dX3_init_117 : decode cX3_init 117 = .ok (.getfield 44, 3) := by decide +kernel
theorem dX3_init_120 : decode cX3_init 120 = .ok (.iload_n 1, 1) := by decide +kernel
theorem dX3_init_121 : decode cX3_init 121 = .ok (.iconst (-1), 1) := by decide +kernel
theorem dX3_init_122 : decode cX3_init 122 = .ok (.iastore, 1) := by decide +kernel
theorem dX3_init_123 : decode cX3_init 123 = .ok (.iinc 1 1, 3) := by decide +kernel
theorem dX3_init_126 : decode cX3_init 126 = .ok (.goto (-16), 3) := by decide +kernel
theorem dX3_init_129 : decode cX3_init 129 = .ok (.return_, 1) := by decide +kernel
theorem dX3_thrown_0 : decode cX3_thrown 0 = .ok (.aload_n 0, 1) := by decide +kernel
theorem dX3_thrown_1 : decode cX3_thrown 1 = .ok (.getfield 50, 3) := by decide +kernel
theorem dX3_thrown_4 : decode cX3_thrown 4 = .ok (.ireturn, 1) := by decide +kernel
theorem dX3_can_0 : decode cX3_can 0 = .ok (.aload_n 0, 1) := by decide +kernel
theorem dX3_can_1 : decode cX3_can 1 = .ok (.iload_n 1, 1) := by decide +kernel
theorem dX3_can_2 : decode cX3_can 2 = .ok (.putfield 50, 3) := by decide +kernel
theorem dX3_can_5 : decode cX3_can 5 = .ok (.iload_n 1, 1) := by decide +kernel
theorem dX3_can_6 : decode cX3_can 6 = .ok (.ifCond .ne 7, 3) := by decide +kernel
theorem dX3_can_9 : decode cX3_can 9 = .ok (.iconst 1, 1) := by decide +kernel
theorem dX3_can_10 : decode cX3_can 10 = .ok (.goto 4, 3) := by decide +kernel
theorem dX3_can_13 : decode cX3_can 13 = .ok (.iconst 0, 1) := by decide +kernel
theorem dX3_can_14 : decode cX3_can 14 = .ok (.ireturn, 1) := by decide +kernel
theorem dX3_isIn_0 : decode cX3_isIn 0 = .ok (.iload_n 0, 1) := by decide +kernel
theorem dX3_isIn_1 : decode cX3_isIn 1 = .ok (.iload_n 1, 1) := by decide +kernel
theorem dX3_isIn_2 : decode cX3_isIn 2 = .ok (.if_icmp .lt 12, 3) := by decide +kernel
theorem dX3_isIn_5 : decode cX3_isIn 5 = .ok (.iload_n 0, 1) := by decide +kernel
theorem dX3_isIn_6 : decode cX3_isIn 6 = .ok (.iload_n 2, 1) := by decide +kernel
theorem dX3_isIn_7 : decode cX3_isIn 7 = .ok (.if_icmp .gt 7, 3) := by decide +kernel
theorem dX3_isIn_10 : decode cX3_isIn 10 = .ok (.iconst 1, 1) := by decide +kernel
theorem dX3_isIn_11 : decode cX3_isIn 11 = .ok (.goto 4, 3) := by decide +kernel
theorem dX3_isIn_14 : decode cX3_isIn 14 = .ok (.iconst 0, 1) := by decide +kernel
theorem dX3_isIn_15 : decode cX3_isIn 15 = .ok (.ireturn, 1) := by decide +kernel
theorem dX3_isDisk_0 : decode cX3_isDisk 0 = .ok (.iload_n 1, 1) := by decide +kernel
theorem dX3_isDisk_1 : decode cX3_isDisk 1 = .ok (.iconst 0, 1) := by decide +kernel
theorem dX3_isDisk_2 : decode cX3_isDisk 2 = .ok (.aload_n 0, 1) := by decide +kernel
theorem dX3_isDisk_3 : decode cX3_isDisk 3 = .ok (.getfield 54, 3) := by decide +kernel
theorem dX3_isDisk_6 : decode cX3_isDisk 6 = .ok (.iconst 1, 1) := by decide +kernel
theorem dX3_isDisk_7 : decode cX3_isDisk 7 = .ok (.isub, 1) := by decide +kernel
theorem dX3_isDisk_8 : decode cX3_isDisk 8 = .ok (.invokestatic 57, 3) := by decide +kernel
theorem dX3_isDisk_11 : decode cX3_isDisk 11 = .ok (.ireturn, 1) := by decide +kernel
theorem dX3_isKeeper_0 : decode cX3_isKeeper 0 = .ok (.iload_n 0, 1) := by decide +kernel
theorem dX3_isKeeper_1 : decode cX3_isKeeper 1 = .ok (.iconst 0, 1) := by decide +kernel
theorem dX3_isKeeper_2 : decode cX3_isKeeper 2 = .ok (.bipush 7, 2) := by decide +kernel
theorem dX3_isKeeper_4 : decode cX3_isKeeper 4 = .ok (.invokestatic 57, 3) := by decide +kernel
theorem dX3_isKeeper_7 : decode cX3_isKeeper 7 = .ok (.ireturn, 1) := by decide +kernel
theorem dX3_isCrate_0 : decode cX3_isCrate 0 = .ok (.iload_n 0, 1) := by decide +kernel
theorem dX3_isCrate_1 : decode cX3_isCrate 1 = .ok (.iconst 0, 1) := by decide +kernel
theorem dX3_isCrate_2 : decode cX3_isCrate 2 = .ok (.bipush 9, 2) := by decide +kernel
theorem dX3_isCrate_4 : decode cX3_isCrate 4 = .ok (.invokestatic 57, 3) := by decide +kernel
theorem dX3_isCrate_7 : decode cX3_isCrate 7 = .ok (.ireturn, 1) := by decide +kernel
theorem dX3_isShut_0 : decode cX3_isShut 0 = .ok (.aload_n 0, 1) := by decide +kernel
theorem dX3_isShut_1 : decode cX3_isShut 1 = .ok (.getfield 19, 3) := by decide +kernel
theorem dX3_isShut_4 : decode cX3_isShut 4 = .ok (.iload_n 1, 1) := by decide +kernel
theorem dX3_isShut_5 : decode cX3_isShut 5 = .ok (.iaload, 1) := by decide +kernel
theorem dX3_isShut_6 : decode cX3_isShut 6 = .ok (.iconst (-1), 1) := by decide +kernel
theorem dX3_isShut_7 : decode cX3_isShut 7 = .ok (.if_icmp .eq 22, 3) := by decide +kernel
theorem dX3_isShut_10 : decode cX3_isShut 10 = .ok (.aload_n 0, 1) := by decide +kernel
theorem dX3_isShut_11 : decode cX3_isShut 11 = .ok (.getfield 44, 3) := by decide +kernel
theorem dX3_isShut_14 : decode cX3_isShut 14 = .ok (.aload_n 0, 1) := by decide +kernel
theorem dX3_isShut_15 : decode cX3_isShut 15 = .ok (.getfield 19, 3) := by decide +kernel
theorem dX3_isShut_18 : decode cX3_isShut 18 = .ok (.iload_n 1, 1) := by decide +kernel
theorem dX3_isShut_19 : decode cX3_isShut 19 = .ok (.iaload, 1) := by decide +kernel
theorem dX3_isShut_20 : decode cX3_isShut 20 = .ok (.iaload, 1) := by decide +kernel
theorem dX3_isShut_21 : decode cX3_isShut 21 = .ok (.iconst (-1), 1) := by decide +kernel
theorem dX3_isShut_22 : decode cX3_isShut 22 = .ok (.if_icmp .eq 7, 3) := by decide +kernel
theorem dX3_isShut_25 : decode cX3_isShut 25 = .ok (.iconst 1, 1) := by decide +kernel
theorem dX3_isShut_26 : decode cX3_isShut 26 = .ok (.goto 4, 3) := by decide +kernel
theorem dX3_isShut_29 : decode cX3_isShut 29 = .ok (.iconst 0, 1) := by decide +kernel
theorem dX3_isShut_30 : decode cX3_isShut 30 = .ok (.ireturn, 1) := by decide +kernel
theorem dX3_isBarred_0 : decode cX3_isBarred 0 = .ok (.aload_n 0, 1) := by decide +kernel
theorem dX3_isBarred_1 : decode cX3_isBarred 1 = .ok (.getfield 25, 3) := by decide +kernel
theorem dX3_isBarred_4 : decode cX3_isBarred 4 = .ok (.iload_n 1, 1) := by decide +kernel
theorem dX3_isBarred_5 : decode cX3_isBarred 5 = .ok (.baload, 1) := by decide +kernel
theorem dX3_isBarred_6 : decode cX3_isBarred 6 = .ok (.ifCond .ne 21, 3) := by decide +kernel
theorem dX3_isBarred_9 : decode cX3_isBarred 9 = .ok (.aload_n 0, 1) := by decide +kernel
theorem dX3_isBarred_10 : decode cX3_isBarred 10 = .ok (.getfield 29, 3) := by decide +kernel
theorem dX3_isBarred_13 : decode cX3_isBarred 13 = .ok (.iload_n 1, 1) := by decide +kernel
theorem dX3_isBarred_14 : decode cX3_isBarred 14 = .ok (.iaload, 1) := by decide +kernel
theorem dX3_isBarred_15 : decode cX3_isBarred 15 = .ok (.iconst (-1), 1) := by decide +kernel
theorem dX3_isBarred_16 : decode cX3_isBarred 16 = .ok (.if_icmp .ne 11, 3) := by decide +kernel
theorem dX3_isBarred_19 : decode cX3_isBarred 19 = .ok (.aload_n 0, 1) := by decide +kernel
theorem dX3_isBarred_20 : decode cX3_isBarred 20 = .ok (.iload_n 1, 1) := by decide +kernel
theorem dX3_isBarred_21 : decode cX3_isBarred 21 = .ok (.invokevirtual 61, 3) := by decide +kernel
theorem dX3_isBarred_24 : decode cX3_isBarred 24 = .ok (.ifCond .eq 7, 3) := by decide +kernel
theorem dX3_isBarred_27 : decode cX3_isBarred 27 = .ok (.iconst 1, 1) := by decide +kernel
theorem dX3_isBarred_28 : decode cX3_isBarred 28 = .ok (.goto 4, 3) := by decide +kernel
theorem dX3_isBarred_31 : decode cX3_isBarred 31 = .ok (.iconst 0, 1) := by decide +kernel
theorem dX3_isBarred_32 : decode cX3_isBarred 32 = .ok (.ireturn, 1) := by decide +kernel
theorem dX3_bring_0 : decode cX3_bring 0 = .ok (.iload_n 1, 1) := by decide +kernel
theorem dX3_bring_1 : decode cX3_bring 1 = .ok (.iconst 0, 1) := by decide +kernel
theorem dX3_bring_2 : decode cX3_bring 2 = .ok (.iconst 2, 1) := by decide +kernel
theorem dX3_bring_3 : decode cX3_bring 3 = .ok (.invokestatic 57, 3) := by decide +kernel
theorem dX3_bring_6 : decode cX3_bring 6 = .ok (.ifCond .eq 16, 3) := by decide +kernel
theorem dX3_bring_9 : decode cX3_bring 9 = .ok (.iload_n 2, 1) := by decide +kernel
theorem dX3_bring_10 : decode cX3_bring 10 = .ok (.iconst 0, 1) := by decide +kernel
theorem dX3_bring_11 : decode cX3_bring 11 = .ok (.iconst 3, 1) := by decide +kernel
theorem dX3_bring_12 : decode cX3_bring 12 = .ok (.invokestatic 57, 3) := by decide +kernel
theorem dX3_bring_15 : decode cX3_bring 15 = .ok (.ifCond .eq 7, 3) := by decide +kernel
theorem dX3_bring_18 : decode cX3_bring 18 = .ok (.iconst 1, 1) := by decide +kernel
theorem dX3_bring_19 : decode cX3_bring 19 = .ok (.goto 4, 3) := by decide +kernel
theorem dX3_bring_22 : decode cX3_bring 22 = .ok (.iconst 0, 1) := by decide +kernel
theorem dX3_bring_23 : decode cX3_bring 23 = .ok (.istore 4, 2) := by decide +kernel
theorem dX3_bring_25 : decode cX3_bring 25 = .ok (.aload_n 0, 1) := by decide +kernel
theorem dX3_bring_26 : decode cX3_bring 26 = .ok (.iload_n 3, 1) := by decide +kernel
theorem dX3_bring_27 : decode cX3_bring 27 = .ok (.invokestatic 65, 3) := by decide +kernel
theorem dX3_bring_30 : decode cX3_bring 30 = .ok (.ifCond .ne 7, 3) := by decide +kernel
theorem dX3_bring_33 : decode cX3_bring 33 = .ok (.iconst 1, 1) := by decide +kernel
theorem dX3_bring_34 : decode cX3_bring 34 = .ok (.goto 26, 3) := by decide +kernel
theorem dX3_bring_37 : decode cX3_bring 37 = .ok (.iload 4, 2) := by decide +kernel
theorem dX3_bring_39 : decode cX3_bring 39 = .ok (.ifCond .ne 7, 3) := by decide +kernel
theorem dX3_bring_42 : decode cX3_bring 42 = .ok (.iconst 2, 1) := by decide +kernel
theorem dX3_bring_43 : decode cX3_bring 43 = .ok (.goto 17, 3) := by decide +kernel
theorem dX3_bring_46 : decode cX3_bring 46 = .ok (.aload_n 0, 1) := by decide +kernel
theorem dX3_bring_47 : decode cX3_bring 47 = .ok (.getfield 54, 3) := by decide +kernel
theorem dX3_bring_50 : decode cX3_bring 50 = .ok (.bipush 60, 2) := by decide +kernel
theorem dX3_bring_52 : decode cX3_bring 52 = .ok (.if_icmp .ne 7, 3) := by decide +kernel
theorem dX3_bring_55 : decode cX3_bring 55 = .ok (.iconst 3, 1) := by decide +kernel
theorem dX3_bring_56 : decode cX3_bring 56 = .ok (.goto 4, 3) := by decide +kernel
theorem dX3_bring_59 : decode cX3_bring 59 = .ok (.iconst 0, 1) := by decide +kernel
theorem dX3_bring_60 : decode cX3_bring 60 = .ok (.invokevirtual 68, 3) := by decide +kernel
theorem dX3_bring_63 : decode cX3_bring 63 = .ok (.ifCond .ne 5, 3) := by decide +kernel
theorem dX3_bring_66 : decode cX3_bring 66 = .ok (.iconst 0, 1) := by decide +kernel
theorem dX3_bring_67 : decode cX3_bring 67 = .ok (.ireturn, 1) := by decide +kernel
theorem dX3_bring_68 : decode cX3_bring 68 = .ok (.aload_n 0, 1) := by decide +kernel
theorem dX3_bring_69 : decode cX3_bring 69 = .ok (.getfield 7, 3) := by decide +kernel
theorem dX3_bring_72 : decode cX3_bring 72 = .ok (.aload_n 0, 1) := by decide +kernel
theorem dX3_bring_73 : decode cX3_bring 73 = .ok (.getfield 54, 3) := by decide +kernel
theorem dX3_bring_76 : decode cX3_bring 76 = .ok (.iload_n 1, 1) := by decide +kernel
theorem dX3_bring_77 : decode cX3_bring 77 = .ok (.iastore, 1) := by decide +kernel
theorem dX3_bring_78 : decode cX3_bring 78 = .ok (.aload_n 0, 1) := by decide +kernel
theorem dX3_bring_79 : decode cX3_bring 79 = .ok (.getfield 13, 3) := by decide +kernel
theorem dX3_bring_82 : decode cX3_bring 82 = .ok (.aload_n 0, 1) := by decide +kernel
theorem dX3_bring_83 : decode cX3_bring 83 = .ok (.getfield 54, 3) := by decide +kernel
theorem dX3_bring_86 : decode cX3_bring 86 = .ok (.iload_n 2, 1) := by decide +kernel
theorem dX3_bring_87 : decode cX3_bring 87 = .ok (.iastore, 1) := by decide +kernel
theorem dX3_bring_88 : decode cX3_bring 88 = .ok (.aload_n 0, 1) := by decide +kernel
theorem dX3_bring_89 : decode cX3_bring 89 = .ok (.getfield 16, 3) := by decide +kernel
theorem dX3_bring_92 : decode cX3_bring 92 = .ok (.aload_n 0, 1) := by decide +kernel
theorem dX3_bring_93 : decode cX3_bring 93 = .ok (.getfield 54, 3) := by decide +kernel
theorem dX3_bring_96 : decode cX3_bring 96 = .ok (.iload_n 3, 1) := by decide +kernel
theorem dX3_bring_97 : decode cX3_bring 97 = .ok (.iastore, 1) := by decide +kernel
theorem dX3_bring_98 : decode cX3_bring 98 = .ok (.aload_n 0, 1) := by decide +kernel
theorem dX3_bring_99 : decode cX3_bring 99 = .ok (.getfield 19, 3) := by decide +kernel
theorem dX3_bring_102 : decode cX3_bring 102 = .ok (.aload_n 0, 1) := by decide +kernel
theorem dX3_bring_103 : decode cX3_bring 103 = .ok (.getfield 54, 3) := by decide +kernel
theorem dX3_bring_106 : decode cX3_bring 106 = .ok (.iconst (-1), 1) := by decide +kernel
theorem dX3_bring_107 : decode cX3_bring 107 = .ok (.iastore, 1) := by decide +kernel
theorem dX3_bring_108 : decode cX3_bring 108 = .ok (.aload_n 0, 1) := by decide +kernel
theorem dX3_bring_109 : decode cX3_bring 109 = .ok (.getfield 29, 3) := by decide +kernel
theorem dX3_bring_112 : decode cX3_bring 112 = .ok (.aload_n 0, 1) := by decide +kernel
theorem dX3_bring_113 : decode cX3_bring 113 = .ok (.getfield 54, 3) := by decide +kernel
theorem dX3_bring_116 : decode cX3_bring 116 = .ok (.iconst (-1), 1) := by decide +kernel
theorem dX3_bring_117 : decode cX3_bring 117 = .ok (.iastore, 1) := by decide +kernel
theorem dX3_bring_118 : decode cX3_bring 118 = .ok (.aload_n 0, 1) := by decide +kernel
theorem dX3_bring_119 : decode cX3_bring 119 = .ok (.getfield 32, 3) := by decide +kernel
theorem dX3_bring_122 : decode cX3_bring 122 = .ok (.aload_n 0, 1) := by decide +kernel
theorem dX3_bring_123 : decode cX3_bring 123 = .ok (.getfield 54, 3) := by decide +kernel
theorem dX3_bring_126 : decode cX3_bring 126 = .ok (.iconst (-1), 1) := by decide +kernel
theorem dX3_bring_127 : decode cX3_bring 127 = .ok (.iastore, 1) := by decide +kernel
theorem dX3_bring_128 : decode cX3_bring 128 = .ok (.aload_n 0, 1) := by decide +kernel
theorem dX3_bring_129 : decode cX3_bring 129 = .ok (.getfield 38, 3) := by decide +kernel
theorem dX3_bring_132 : decode cX3_bring 132 = .ok (.aload_n 0, 1) := by decide +kernel
theorem dX3_bring_133 : decode cX3_bring 133 = .ok (.getfield 54, 3) := by decide +kernel
theorem dX3_bring_136 : decode cX3_bring 136 = .ok (.iconst (-1), 1) := by decide +kernel
theorem dX3_bring_137 : decode cX3_bring 137 = .ok (.iastore, 1) := by decide +kernel
theorem dX3_bring_138 : decode cX3_bring 138 = .ok (.aload_n 0, 1) := by decide +kernel
theorem dX3_bring_139 : decode cX3_bring 139 = .ok (.dup, 1) := by decide +kernel
theorem dX3_bring_140 : decode cX3_bring 140 = .ok (.getfield 54, 3) := by decide +kernel
theorem dX3_bring_143 : decode cX3_bring 143 = .ok (.iconst 1, 1) := by decide +kernel
theorem dX3_bring_144 : decode cX3_bring 144 = .ok (.iadd, 1) := by decide +kernel
theorem dX3_bring_145 : decode cX3_bring 145 = .ok (.putfield 54, 3) := by decide +kernel
theorem dX3_bring_148 : decode cX3_bring 148 = .ok (.aload_n 0, 1) := by decide +kernel
theorem dX3_bring_149 : decode cX3_bring 149 = .ok (.dup, 1) := by decide +kernel
theorem dX3_bring_150 : decode cX3_bring 150 = .ok (.getfield 71, 3) := by decide +kernel
theorem dX3_bring_153 : decode cX3_bring 153 = .ok (.iconst 1, 1) := by decide +kernel
theorem dX3_bring_154 : decode cX3_bring 154 = .ok (.iadd, 1) := by decide +kernel
theorem dX3_bring_155 : decode cX3_bring 155 = .ok (.putfield 71, 3) := by decide +kernel
theorem dX3_bring_158 : decode cX3_bring 158 = .ok (.aload_n 0, 1) := by decide +kernel
theorem dX3_bring_159 : decode cX3_bring 159 = .ok (.getfield 54, 3) := by decide +kernel
theorem dX3_bring_162 : decode cX3_bring 162 = .ok (.iconst 1, 1) := by decide +kernel
theorem dX3_bring_163 : decode cX3_bring 163 = .ok (.isub, 1) := by decide +kernel
theorem dX3_bring_164 : decode cX3_bring 164 = .ok (.ireturn, 1) := by decide +kernel
theorem dX3_offer_0 : decode cX3_offer 0 = .ok (.aload_n 0, 1) := by decide +kernel
theorem dX3_offer_1 : decode cX3_offer 1 = .ok (.aload_n 0, 1) := by decide +kernel
theorem dX3_offer_2 : decode cX3_offer 2 = .ok (.iload_n 1, 1) := by decide +kernel
theorem dX3_offer_3 : decode cX3_offer 3 = .ok (.invokevirtual 74, 3) := by decide +kernel
theorem dX3_offer_6 : decode cX3_offer 6 = .ok (.ifCond .eq 10, 3) := by decide +kernel
theorem dX3_offer_9 : decode cX3_offer 9 = .ok (.iload_n 2, 1) := by decide +kernel
theorem dX3_offer_10 : decode cX3_offer 10 = .ok (.invokestatic 65, 3) := by decide +kernel
theorem dX3_offer_13 : decode cX3_offer 13 = .ok (.ifCond .ne 7, 3) := by decide +kernel
theorem dX3_offer_16 : decode cX3_offer 16 = .ok (.iconst 1, 1) := by decide +kernel
theorem dX3_offer_17 : decode cX3_offer 17 = .ok (.goto 40, 3) := by decide +kernel
theorem dX3_offer_20 : decode cX3_offer 20 = .ok (.iload_n 2, 1) := by decide +kernel
theorem dX3_offer_21 : decode cX3_offer 21 = .ok (.aload_n 0, 1) := by decide +kernel
theorem dX3_offer_22 : decode cX3_offer 22 = .ok (.getfield 16, 3) := by decide +kernel
theorem dX3_offer_25 : decode cX3_offer 25 = .ok (.iload_n 1, 1) := by decide +kernel
theorem dX3_offer_26 : decode cX3_offer 26 = .ok (.iaload, 1) := by decide +kernel
theorem dX3_offer_27 : decode cX3_offer 27 = .ok (.if_icmp .ne 7, 3) := by decide +kernel
theorem dX3_offer_30 : decode cX3_offer 30 = .ok (.iconst 2, 1) := by decide +kernel
theorem dX3_offer_31 : decode cX3_offer 31 = .ok (.goto 26, 3) := by decide +kernel
theorem dX3_offer_34 : decode cX3_offer 34 = .ok (.aload_n 0, 1) := by decide +kernel
theorem dX3_offer_35 : decode cX3_offer 35 = .ok (.iload_n 1, 1) := by decide +kernel
theorem dX3_offer_36 : decode cX3_offer 36 = .ok (.invokevirtual 77, 3) := by decide +kernel
theorem dX3_offer_39 : decode cX3_offer 39 = .ok (.ifCond .ne 13, 3) := by decide +kernel
theorem dX3_offer_42 : decode cX3_offer 42 = .ok (.aload_n 0, 1) := by decide +kernel
theorem dX3_offer_43 : decode cX3_offer 43 = .ok (.getfield 19, 3) := by decide +kernel
theorem dX3_offer_46 : decode cX3_offer 46 = .ok (.iload_n 1, 1) := by decide +kernel
theorem dX3_offer_47 : decode cX3_offer 47 = .ok (.iaload, 1) := by decide +kernel
theorem dX3_offer_48 : decode cX3_offer 48 = .ok (.iconst (-1), 1) := by decide +kernel
theorem dX3_offer_49 : decode cX3_offer 49 = .ok (.if_icmp .eq 7, 3) := by decide +kernel
theorem dX3_offer_52 : decode cX3_offer 52 = .ok (.iconst 3, 1) := by decide +kernel
theorem dX3_offer_53 : decode cX3_offer 53 = .ok (.goto 4, 3) := by decide +kernel
theorem dX3_offer_56 : decode cX3_offer 56 = .ok (.iconst 0, 1) := by decide +kernel
theorem dX3_offer_57 : decode cX3_offer 57 = .ok (.invokevirtual 68, 3) := by decide +kernel
theorem dX3_offer_60 : decode cX3_offer 60 = .ok (.ifCond .ne 5, 3) := by decide +kernel
theorem dX3_offer_63 : decode cX3_offer 63 = .ok (.iconst 0, 1) := by decide +kernel
theorem dX3_offer_64 : decode cX3_offer 64 = .ok (.ireturn, 1) := by decide +kernel
theorem dX3_offer_65 : decode cX3_offer 65 = .ok (.aload_n 0, 1) := by decide +kernel
theorem dX3_offer_66 : decode cX3_offer 66 = .ok (.getfield 29, 3) := by decide +kernel
theorem dX3_offer_69 : decode cX3_offer 69 = .ok (.iload_n 1, 1) := by decide +kernel
theorem dX3_offer_70 : decode cX3_offer 70 = .ok (.iload_n 2, 1) := by decide +kernel
theorem dX3_offer_71 : decode cX3_offer 71 = .ok (.iastore, 1) := by decide +kernel
theorem dX3_offer_72 : decode cX3_offer 72 = .ok (.aload_n 0, 1) := by decide +kernel
theorem dX3_offer_73 : decode cX3_offer 73 = .ok (.getfield 16, 3) := by decide +kernel
theorem dX3_offer_76 : decode cX3_offer 76 = .ok (.iload_n 1, 1) := by decide +kernel
theorem dX3_offer_77 : decode cX3_offer 77 = .ok (.iaload, 1) := by decide +kernel
theorem dX3_offer_78 : decode cX3_offer 78 = .ok (.ireturn, 1) := by decide +kernel
theorem dX3_answer_0 : decode cX3_answer 0 = .ok (.aload_n 0, 1) := by decide +kernel
theorem dX3_answer_1 : decode cX3_answer 1 = .ok (.aload_n 0, 1) := by decide +kernel
theorem dX3_answer_2 : decode cX3_answer 2 = .ok (.iload_n 1, 1) := by decide +kernel
theorem dX3_answer_3 : decode cX3_answer 3 = .ok (.invokevirtual 74, 3) := by decide +kernel
theorem dX3_answer_6 : decode cX3_answer 6 = .ok (.ifCond .ne 7, 3) := by decide +kernel
theorem dX3_answer_9 : decode cX3_answer 9 = .ok (.iconst 1, 1) := by decide +kernel
theorem dX3_answer_10 : decode cX3_answer 10 = .ok (.goto 27, 3) := by decide +kernel
theorem dX3_answer_13 : decode cX3_answer 13 = .ok (.aload_n 0, 1) := by decide +kernel
theorem dX3_answer_14 : decode cX3_answer 14 = .ok (.getfield 25, 3) := by decide +kernel
theorem dX3_answer_17 : decode cX3_answer 17 = .ok (.iload_n 1, 1) := by decide +kernel
theorem dX3_answer_18 : decode cX3_answer 18 = .ok (.baload, 1) := by decide +kernel
theorem dX3_answer_19 : decode cX3_answer 19 = .ok (.ifCond .ne 13, 3) := by decide +kernel
theorem dX3_answer_22 : decode cX3_answer 22 = .ok (.aload_n 0, 1) := by decide +kernel
theorem dX3_answer_23 : decode cX3_answer 23 = .ok (.getfield 29, 3) := by decide +kernel
theorem dX3_answer_26 : decode cX3_answer 26 = .ok (.iload_n 1, 1) := by decide +kernel
theorem dX3_answer_27 : decode cX3_answer 27 = .ok (.iaload, 1) := by decide +kernel
theorem dX3_answer_28 : decode cX3_answer 28 = .ok (.iconst (-1), 1) := by decide +kernel
theorem dX3_answer_29 : decode cX3_answer 29 = .ok (.if_icmp .ne 7, 3) := by decide +kernel
theorem dX3_answer_32 : decode cX3_answer 32 = .ok (.iconst 2, 1) := by decide +kernel
theorem dX3_answer_33 : decode cX3_answer 33 = .ok (.goto 4, 3) := by decide +kernel
theorem dX3_answer_36 : decode cX3_answer 36 = .ok (.iconst 0, 1) := by decide +kernel
theorem dX3_answer_37 : decode cX3_answer 37 = .ok (.invokevirtual 68, 3) := by decide +kernel
theorem dX3_answer_40 : decode cX3_answer 40 = .ok (.ifCond .ne 5, 3) := by decide +kernel
theorem dX3_answer_43 : decode cX3_answer 43 = .ok (.iconst 0, 1) := by decide +kernel
theorem dX3_answer_44 : decode cX3_answer 44 = .ok (.ireturn, 1) := by decide +kernel
theorem dX3_answer_45 : decode cX3_answer 45 = .ok (.iload_n 2, 1) := by decide +kernel
theorem dX3_answer_46 : decode cX3_answer 46 = .ok (.ifCond .eq 25, 3) := by decide +kernel
theorem dX3_answer_49 : decode cX3_answer 49 = .ok (.aload_n 0, 1) := by decide +kernel
theorem dX3_answer_50 : decode cX3_answer 50 = .ok (.getfield 16, 3) := by decide +kernel
theorem dX3_answer_53 : decode cX3_answer 53 = .ok (.iload_n 1, 1) := by decide +kernel
theorem dX3_answer_54 : decode cX3_answer 54 = .ok (.aload_n 0, 1) := by decide +kernel
theorem dX3_answer_55 : decode cX3_answer 55 = .ok (.getfield 29, 3) := by decide +kernel
theorem dX3_answer_58 : decode cX3_answer 58 = .ok (.iload_n 1, 1) := by decide +kernel
theorem dX3_answer_59 : decode cX3_answer 59 = .ok (.iaload, 1) := by decide +kernel
theorem dX3_answer_60 : decode cX3_answer 60 = .ok (.iastore, 1) := by decide +kernel
theorem dX3_answer_61 : decode cX3_answer 61 = .ok (.aload_n 0, 1) := by decide +kernel
theorem dX3_answer_62 : decode cX3_answer 62 = .ok (.dup, 1) := by decide +kernel
theorem dX3_answer_63 : decode cX3_answer 63 = .ok (.getfield 71, 3) := by decide +kernel
theorem dX3_answer_66 : decode cX3_answer 66 = .ok (.iconst 1, 1) := by decide +kernel
theorem dX3_answer_67 : decode cX3_answer 67 = .ok (.iadd, 1) := by decide +kernel
theorem dX3_answer_68 : decode cX3_answer 68 = .ok (.putfield 71, 3) := by decide +kernel
theorem dX3_answer_71 : decode cX3_answer 71 = .ok (.aload_n 0, 1) := by decide +kernel
theorem dX3_answer_72 : decode cX3_answer 72 = .ok (.getfield 29, 3) := by decide +kernel
theorem dX3_answer_75 : decode cX3_answer 75 = .ok (.iload_n 1, 1) := by decide +kernel
theorem dX3_answer_76 : decode cX3_answer 76 = .ok (.iconst (-1), 1) := by decide +kernel
theorem dX3_answer_77 : decode cX3_answer 77 = .ok (.iastore, 1) := by decide +kernel
theorem dX3_answer_78 : decode cX3_answer 78 = .ok (.aload_n 0, 1) := by decide +kernel
theorem dX3_answer_79 : decode cX3_answer 79 = .ok (.getfield 16, 3) := by decide +kernel
theorem dX3_answer_82 : decode cX3_answer 82 = .ok (.iload_n 1, 1) := by decide +kernel
theorem dX3_answer_83 : decode cX3_answer 83 = .ok (.iaload, 1) := by decide +kernel
theorem dX3_answer_84 : decode cX3_answer 84 = .ok (.ireturn, 1) := by decide +kernel
theorem dX3_countIn_0 : decode cX3_countIn 0 = .ok (.iconst 0, 1) := by decide +kernel
theorem dX3_countIn_1 : decode cX3_countIn 1 = .ok (.istore_n 2, 1) := by decide +kernel
theorem dX3_countIn_2 : decode cX3_countIn 2 = .ok (.iconst 0, 1) := by decide +kernel
theorem dX3_countIn_3 : decode cX3_countIn 3 = .ok (.istore_n 3, 1) := by decide +kernel
theorem dX3_countIn_4 : decode cX3_countIn 4 = .ok (.iload_n 3, 1) := by decide +kernel
theorem dX3_countIn_5 : decode cX3_countIn 5 = .ok (.aload_n 0, 1) := by decide +kernel
theorem dX3_countIn_6 : decode cX3_countIn 6 = .ok (.getfield 54, 3) := by decide +kernel
theorem dX3_countIn_9 : decode cX3_countIn 9 = .ok (.if_icmp .ge 27, 3) := by decide +kernel
theorem dX3_countIn_12 : decode cX3_countIn 12 = .ok (.iload_n 2, 1) := by decide +kernel
theorem dX3_countIn_13 : decode cX3_countIn 13 = .ok (.aload_n 0, 1) := by decide +kernel
theorem dX3_countIn_14 : decode cX3_countIn 14 = .ok (.getfield 19, 3) := by decide +kernel
theorem dX3_countIn_17 : decode cX3_countIn 17 = .ok (.iload_n 3, 1) := by decide +kernel
theorem dX3_countIn_18 : decode cX3_countIn 18 = .ok (.iaload, 1) := by decide +kernel
theorem dX3_countIn_19 : decode cX3_countIn 19 = .ok (.iload_n 1, 1) := by decide +kernel
theorem dX3_countIn_20 : decode cX3_countIn 20 = .ok (.if_icmp .ne 7, 3) := by decide +kernel
theorem dX3_countIn_23 : decode cX3_countIn 23 = .ok (.iconst 1, 1) := by decide +kernel
theorem dX3_countIn_24 : decode cX3_countIn 24 = .ok (.goto 4, 3) := by decide +kernel
theorem dX3_countIn_27 : decode cX3_countIn 27 = .ok (.iconst 0, 1) := by decide +kernel
theorem dX3_countIn_28 : decode cX3_countIn 28 = .ok (.iadd, 1) := by decide +kernel
theorem dX3_countIn_29 : decode cX3_countIn 29 = .ok (.istore_n 2, 1) := by decide +kernel
theorem dX3_countIn_30 : decode cX3_countIn 30 = .ok (.iinc 3 1, 3) := by decide +kernel
theorem dX3_countIn_33 : decode cX3_countIn 33 = .ok (.goto (-29), 3) := by decide +kernel
theorem dX3_countIn_36 : decode cX3_countIn 36 = .ok (.iload_n 2, 1) := by decide +kernel
theorem dX3_countIn_37 : decode cX3_countIn 37 = .ok (.ireturn, 1) := by decide +kernel
theorem dX3_pack_0 : decode cX3_pack 0 = .ok (.aload_n 0, 1) := by decide +kernel
theorem dX3_pack_1 : decode cX3_pack 1 = .ok (.iload_n 1, 1) := by decide +kernel
theorem dX3_pack_2 : decode cX3_pack 2 = .ok (.invokevirtual 74, 3) := by decide +kernel
theorem dX3_pack_5 : decode cX3_pack 5 = .ok (.ifCond .eq 14, 3) := by decide +kernel
theorem dX3_pack_8 : decode cX3_pack 8 = .ok (.iload_n 2, 1) := by decide +kernel
theorem dX3_pack_9 : decode cX3_pack 9 = .ok (.invokestatic 80, 3) := by decide +kernel
theorem dX3_pack_12 : decode cX3_pack 12 = .ok (.ifCond .eq 7, 3) := by decide +kernel
theorem dX3_pack_15 : decode cX3_pack 15 = .ok (.iconst 1, 1) := by decide +kernel
theorem dX3_pack_16 : decode cX3_pack 16 = .ok (.goto 4, 3) := by decide +kernel
theorem dX3_pack_19 : decode cX3_pack 19 = .ok (.iconst 0, 1) := by decide +kernel
theorem dX3_pack_20 : decode cX3_pack 20 = .ok (.istore_n 3, 1) := by decide +kernel
theorem dX3_pack_21 : decode cX3_pack 21 = .ok (.iload_n 3, 1) := by decide +kernel
theorem dX3_pack_22 : decode cX3_pack 22 = .ok (.ifCond .eq 50, 3) := by decide +kernel
theorem dX3_pack_25 : decode cX3_pack 25 = .ok (.aload_n 0, 1) := by decide +kernel
theorem dX3_pack_26 : decode cX3_pack 26 = .ok (.iload_n 1, 1) := by decide +kernel
theorem dX3_pack_27 : decode cX3_pack 27 = .ok (.invokevirtual 77, 3) := by decide +kernel
theorem dX3_pack_30 : decode cX3_pack 30 = .ok (.ifCond .ne 42, 3) := by decide +kernel
theorem dX3_pack_33 : decode cX3_pack 33 = .ok (.aload_n 0, 1) := by decide +kernel
theorem dX3_pack_34 : decode cX3_pack 34 = .ok (.getfield 19, 3) := by decide +kernel
theorem dX3_pack_37 : decode cX3_pack 37 = .ok (.iload_n 1, 1) := by decide +kernel
theorem dX3_pack_38 : decode cX3_pack 38 = .ok (.iaload, 1) := by decide +kernel
theorem dX3_pack_39 : decode cX3_pack 39 = .ok (.iconst (-1), 1) := by decide +kernel
theorem dX3_pack_40 : decode cX3_pack 40 = .ok (.if_icmp .ne 32, 3) := by decide +kernel
theorem dX3_pack_43 : decode cX3_pack 43 = .ok (.aload_n 0, 1) := by decide +kernel
theorem dX3_pack_44 : decode cX3_pack 44 = .ok (.getfield 44, 3) := by decide +kernel
theorem dX3_pack_47 : decode cX3_pack 47 = .ok (.iload_n 2, 1) := by decide +kernel
theorem dX3_pack_48 : decode cX3_pack 48 = .ok (.iaload, 1) := by decide +kernel
theorem dX3_pack_49 : decode cX3_pack 49 = .ok (.iconst (-1), 1) := by decide +kernel
theorem dX3_pack_50 : decode cX3_pack 50 = .ok (.if_icmp .ne 22, 3) := by decide +kernel
theorem dX3_pack_53 : decode cX3_pack 53 = .ok (.aload_n 0, 1) := by decide +kernel
theorem dX3_pack_54 : decode cX3_pack 54 = .ok (.getfield 41, 3) := by decide +kernel
theorem dX3_pack_57 : decode cX3_pack 57 = .ok (.iload_n 2, 1) := by decide +kernel
theorem dX3_pack_58 : decode cX3_pack 58 = .ok (.iaload, 1) := by decide +kernel
theorem dX3_pack_59 : decode cX3_pack 59 = .ok (.aload_n 0, 1) := by decide +kernel
theorem dX3_pack_60 : decode cX3_pack 60 = .ok (.getfield 16, 3) := by decide +kernel
theorem dX3_pack_63 : decode cX3_pack 63 = .ok (.iload_n 1, 1) := by decide +kernel
theorem dX3_pack_64 : decode cX3_pack 64 = .ok (.iaload, 1) := by decide +kernel
theorem dX3_pack_65 : decode cX3_pack 65 = .ok (.if_icmp .ne 7, 3) := by decide +kernel
theorem dX3_pack_68 : decode cX3_pack 68 = .ok (.iconst 1, 1) := by decide +kernel
theorem dX3_pack_69 : decode cX3_pack 69 = .ok (.goto 4, 3) := by decide +kernel
theorem dX3_pack_72 : decode cX3_pack 72 = .ok (.iconst 0, 1) := by decide +kernel
theorem dX3_pack_73 : decode cX3_pack 73 = .ok (.istore 4, 2) := by decide +kernel
theorem dX3_pack_75 : decode cX3_pack 75 = .ok (.aload_n 0, 1) := by decide +kernel
theorem dX3_pack_76 : decode cX3_pack 76 = .ok (.iload_n 3, 1) := by decide +kernel
theorem dX3_pack_77 : decode cX3_pack 77 = .ok (.ifCond .ne 7, 3) := by decide +kernel
theorem dX3_pack_80 : decode cX3_pack 80 = .ok (.iconst 1, 1) := by decide +kernel
theorem dX3_pack_81 : decode cX3_pack 81 = .ok (.goto 13, 3) := by decide +kernel
theorem dX3_pack_84 : decode cX3_pack 84 = .ok (.iload 4, 2) := by decide +kernel
theorem dX3_pack_86 : decode cX3_pack 86 = .ok (.ifCond .eq 7, 3) := by decide +kernel
theorem dX3_pack_89 : decode cX3_pack 89 = .ok (.iconst 0, 1) := by decide +kernel
theorem dX3_pack_90 : decode cX3_pack 90 = .ok (.goto 4, 3) := by decide +kernel
theorem dX3_pack_93 : decode cX3_pack 93 = .ok (.iconst 2, 1) := by decide +kernel
theorem dX3_pack_94 : decode cX3_pack 94 = .ok (.invokevirtual 68, 3) := by decide +kernel
theorem dX3_pack_97 : decode cX3_pack 97 = .ok (.ifCond .ne 5, 3) := by decide +kernel
theorem dX3_pack_100 : decode cX3_pack 100 = .ok (.iconst 0, 1) := by decide +kernel
theorem dX3_pack_101 : decode cX3_pack 101 = .ok (.ireturn, 1) := by decide +kernel
theorem dX3_pack_102 : decode cX3_pack 102 = .ok (.aload_n 0, 1) := by decide +kernel
theorem dX3_pack_103 : decode cX3_pack 103 = .ok (.getfield 19, 3) := by decide +kernel
theorem dX3_pack_106 : decode cX3_pack 106 = .ok (.iload_n 1, 1) := by decide +kernel
theorem dX3_pack_107 : decode cX3_pack 107 = .ok (.iload_n 2, 1) := by decide +kernel
theorem dX3_pack_108 : decode cX3_pack 108 = .ok (.iastore, 1) := by decide +kernel
theorem dX3_pack_109 : decode cX3_pack 109 = .ok (.aload_n 0, 1) := by decide +kernel
theorem dX3_pack_110 : decode cX3_pack 110 = .ok (.iload_n 2, 1) := by decide +kernel
theorem dX3_pack_111 : decode cX3_pack 111 = .ok (.invokevirtual 83, 3) := by decide +kernel
theorem dX3_pack_114 : decode cX3_pack 114 = .ok (.ireturn, 1) := by decide +kernel
theorem dX3_unpack_0 : decode cX3_unpack 0 = .ok (.aload_n 0, 1) := by decide +kernel
theorem dX3_unpack_1 : decode cX3_unpack 1 = .ok (.aload_n 0, 1) := by decide +kernel
theorem dX3_unpack_2 : decode cX3_unpack 2 = .ok (.iload_n 1, 1) := by decide +kernel
theorem dX3_unpack_3 : decode cX3_unpack 3 = .ok (.invokevirtual 74, 3) := by decide +kernel
theorem dX3_unpack_6 : decode cX3_unpack 6 = .ok (.ifCond .ne 7, 3) := by decide +kernel
theorem dX3_unpack_9 : decode cX3_unpack 9 = .ok (.iconst 1, 1) := by decide +kernel
theorem dX3_unpack_10 : decode cX3_unpack 10 = .ok (.goto 35, 3) := by decide +kernel
theorem dX3_unpack_13 : decode cX3_unpack 13 = .ok (.aload_n 0, 1) := by decide +kernel
theorem dX3_unpack_14 : decode cX3_unpack 14 = .ok (.getfield 25, 3) := by decide +kernel
theorem dX3_unpack_17 : decode cX3_unpack 17 = .ok (.iload_n 1, 1) := by decide +kernel
theorem dX3_unpack_18 : decode cX3_unpack 18 = .ok (.baload, 1) := by decide +kernel
theorem dX3_unpack_19 : decode cX3_unpack 19 = .ok (.ifCond .ne 21, 3) := by decide +kernel
theorem dX3_unpack_22 : decode cX3_unpack 22 = .ok (.aload_n 0, 1) := by decide +kernel
theorem dX3_unpack_23 : decode cX3_unpack 23 = .ok (.getfield 19, 3) := by decide +kernel
theorem dX3_unpack_26 : decode cX3_unpack 26 = .ok (.iload_n 1, 1) := by decide +kernel
theorem dX3_unpack_27 : decode cX3_unpack 27 = .ok (.iaload, 1) := by decide +kernel
theorem dX3_unpack_28 : decode cX3_unpack 28 = .ok (.iconst (-1), 1) := by decide +kernel
theorem dX3_unpack_29 : decode cX3_unpack 29 = .ok (.if_icmp .eq 11, 3) := by decide +kernel
theorem dX3_unpack_32 : decode cX3_unpack 32 = .ok (.aload_n 0, 1) := by decide +kernel
theorem dX3_unpack_33 : decode cX3_unpack 33 = .ok (.iload_n 1, 1) := by decide +kernel
theorem dX3_unpack_34 : decode cX3_unpack 34 = .ok (.invokevirtual 61, 3) := by decide +kernel
theorem dX3_unpack_37 : decode cX3_unpack 37 = .ok (.ifCond .eq 7, 3) := by decide +kernel
theorem dX3_unpack_40 : decode cX3_unpack 40 = .ok (.iconst 2, 1) := by decide +kernel
theorem dX3_unpack_41 : decode cX3_unpack 41 = .ok (.goto 4, 3) := by decide +kernel
theorem dX3_unpack_44 : decode cX3_unpack 44 = .ok (.iconst 0, 1) := by decide +kernel
theorem dX3_unpack_45 : decode cX3_unpack 45 = .ok (.invokevirtual 68, 3) := by decide +kernel
theorem dX3_unpack_48 : decode cX3_unpack 48 = .ok (.ifCond .ne 5, 3) := by decide +kernel
theorem dX3_unpack_51 : decode cX3_unpack 51 = .ok (.iconst 0, 1) := by decide +kernel
theorem dX3_unpack_52 : decode cX3_unpack 52 = .ok (.ireturn, 1) := by decide +kernel
theorem dX3_unpack_53 : decode cX3_unpack 53 = .ok (.aload_n 0, 1) := by decide +kernel
theorem dX3_unpack_54 : decode cX3_unpack 54 = .ok (.getfield 19, 3) := by decide +kernel
theorem dX3_unpack_57 : decode cX3_unpack 57 = .ok (.iload_n 1, 1) := by decide +kernel
theorem dX3_unpack_58 : decode cX3_unpack 58 = .ok (.iaload, 1) := by decide +kernel
theorem dX3_unpack_59 : decode cX3_unpack 59 = .ok (.istore_n 2, 1) := by decide +kernel
theorem dX3_unpack_60 : decode cX3_unpack 60 = .ok (.aload_n 0, 1) := by decide +kernel
theorem dX3_unpack_61 : decode cX3_unpack 61 = .ok (.getfield 19, 3) := by decide +kernel
theorem dX3_unpack_64 : decode cX3_unpack 64 = .ok (.iload_n 1, 1) := by decide +kernel
theorem dX3_unpack_65 : decode cX3_unpack 65 = .ok (.iconst (-1), 1) := by decide +kernel
theorem dX3_unpack_66 : decode cX3_unpack 66 = .ok (.iastore, 1) := by decide +kernel
theorem dX3_unpack_67 : decode cX3_unpack 67 = .ok (.iload_n 2, 1) := by decide +kernel
theorem dX3_unpack_68 : decode cX3_unpack 68 = .ok (.ireturn, 1) := by decide +kernel
theorem dX3_seal_0 : decode cX3_seal 0 = .ok (.aload_n 0, 1) := by decide +kernel
theorem dX3_seal_1 : decode cX3_seal 1 = .ok (.iload_n 1, 1) := by decide +kernel
theorem dX3_seal_2 : decode cX3_seal 2 = .ok (.invokestatic 80, 3) := by decide +kernel
theorem dX3_seal_5 : decode cX3_seal 5 = .ok (.ifCond .ne 7, 3) := by decide +kernel
theorem dX3_seal_8 : decode cX3_seal 8 = .ok (.iconst 1, 1) := by decide +kernel
theorem dX3_seal_9 : decode cX3_seal 9 = .ok (.goto 27, 3) := by decide +kernel
theorem dX3_seal_12 : decode cX3_seal 12 = .ok (.aload_n 0, 1) := by decide +kernel
theorem dX3_seal_13 : decode cX3_seal 13 = .ok (.getfield 44, 3) := by decide +kernel
theorem dX3_seal_16 : decode cX3_seal 16 = .ok (.iload_n 1, 1) := by decide +kernel
theorem dX3_seal_17 : decode cX3_seal 17 = .ok (.iaload, 1) := by decide +kernel
theorem dX3_seal_18 : decode cX3_seal 18 = .ok (.iconst (-1), 1) := by decide +kernel
theorem dX3_seal_19 : decode cX3_seal 19 = .ok (.if_icmp .ne 12, 3) := by decide +kernel
theorem dX3_seal_22 : decode cX3_seal 22 = .ok (.aload_n 0, 1) := by decide +kernel
theorem dX3_seal_23 : decode cX3_seal 23 = .ok (.getfield 87, 3) := by decide +kernel
theorem dX3_seal_26 : decode cX3_seal 26 = .ok (.bipush 100, 2) := by decide +kernel
theorem dX3_seal_28 : decode cX3_seal 28 = .ok (.if_icmp .ne 7, 3) := by decide +kernel
theorem dX3_seal_31 : decode cX3_seal 31 = .ok (.iconst 2, 1) := by decide +kernel
theorem dX3_seal_32 : decode cX3_seal 32 = .ok (.goto 4, 3) := by decide +kernel
theorem dX3_seal_35 : decode cX3_seal 35 = .ok (.iconst 0, 1) := by decide +kernel
theorem dX3_seal_36 : decode cX3_seal 36 = .ok (.invokevirtual 68, 3) := by decide +kernel
theorem dX3_seal_39 : decode cX3_seal 39 = .ok (.ifCond .ne 5, 3) := by decide +kernel
theorem dX3_seal_42 : decode cX3_seal 42 = .ok (.iconst 0, 1) := by decide +kernel
theorem dX3_seal_43 : decode cX3_seal 43 = .ok (.ireturn, 1) := by decide +kernel
theorem dX3_seal_44 : decode cX3_seal 44 = .ok (.aload_n 0, 1) := by decide +kernel
theorem dX3_seal_45 : decode cX3_seal 45 = .ok (.getfield 44, 3) := by decide +kernel
theorem dX3_seal_48 : decode cX3_seal 48 = .ok (.iload_n 1, 1) := by decide +kernel
theorem dX3_seal_49 : decode cX3_seal 49 = .ok (.aload_n 0, 1) := by decide +kernel
theorem dX3_seal_50 : decode cX3_seal 50 = .ok (.getfield 87, 3) := by decide +kernel
theorem dX3_seal_53 : decode cX3_seal 53 = .ok (.iastore, 1) := by decide +kernel
theorem dX3_seal_54 : decode cX3_seal 54 = .ok (.aload_n 0, 1) := by decide +kernel
theorem dX3_seal_55 : decode cX3_seal 55 = .ok (.getfield 47, 3) := by decide +kernel
theorem dX3_seal_58 : decode cX3_seal 58 = .ok (.aload_n 0, 1) := by decide +kernel
theorem dX3_seal_59 : decode cX3_seal 59 = .ok (.getfield 87, 3) := by decide +kernel
theorem dX3_seal_62 : decode cX3_seal 62 = .ok (.aload_n 0, 1) := by decide +kernel
theorem dX3_seal_63 : decode cX3_seal 63 = .ok (.iload_n 1, 1) := by decide +kernel
theorem dX3_seal_64 : decode cX3_seal 64 = .ok (.invokevirtual 83, 3) := by decide +kernel
theorem dX3_seal_67 : decode cX3_seal 67 = .ok (.iastore, 1) := by decide +kernel
theorem dX3_seal_68 : decode cX3_seal 68 = .ok (.aload_n 0, 1) := by decide +kernel
theorem dX3_seal_69 : decode cX3_seal 69 = .ok (.dup, 1) := by decide +kernel
theorem dX3_seal_70 : decode cX3_seal 70 = .ok (.getfield 87, 3) := by decide +kernel
theorem dX3_seal_73 : decode cX3_seal 73 = .ok (.iconst 1, 1) := by decide +kernel
theorem dX3_seal_74 : decode cX3_seal 74 = .ok (.iadd, 1) := by decide +kernel
theorem dX3_seal_75 : decode cX3_seal 75 = .ok (.putfield 87, 3) := by decide +kernel
theorem dX3_seal_78 : decode cX3_seal 78 = .ok (.aload_n 0, 1) := by decide +kernel
theorem dX3_seal_79 : decode cX3_seal 79 = .ok (.getfield 87, 3) := by decide +kernel
theorem dX3_seal_82 : decode cX3_seal 82 = .ok (.iconst 1, 1) := by decide +kernel
theorem dX3_seal_83 : decode cX3_seal 83 = .ok (.isub, 1) := by decide +kernel
theorem dX3_seal_84 : decode cX3_seal 84 = .ok (.ireturn, 1) := by decide +kernel
theorem dX3_open_0 : decode cX3_open 0 = .ok (.aload_n 0, 1) := by decide +kernel
theorem dX3_open_1 : decode cX3_open 1 = .ok (.iload_n 1, 1) := by decide +kernel
theorem dX3_open_2 : decode cX3_open 2 = .ok (.invokestatic 80, 3) := by decide +kernel
theorem dX3_open_5 : decode cX3_open 5 = .ok (.ifCond .ne 7, 3) := by decide +kernel
theorem dX3_open_8 : decode cX3_open 8 = .ok (.iconst 1, 1) := by decide +kernel
theorem dX3_open_9 : decode cX3_open 9 = .ok (.goto 32, 3) := by decide +kernel
theorem dX3_open_12 : decode cX3_open 12 = .ok (.iload_n 2, 1) := by decide +kernel
theorem dX3_open_13 : decode cX3_open 13 = .ok (.iconst 0, 1) := by decide +kernel
theorem dX3_open_14 : decode cX3_open 14 = .ok (.bipush 99, 2) := by decide +kernel
theorem dX3_open_16 : decode cX3_open 16 = .ok (.invokestatic 57, 3) := by decide +kernel
theorem dX3_open_19 : decode cX3_open 19 = .ok (.ifCond .ne 7, 3) := by decide +kernel
theorem dX3_open_22 : decode cX3_open 22 = .ok (.iconst 2, 1) := by decide +kernel
theorem dX3_open_23 : decode cX3_open 23 = .ok (.goto 18, 3) := by decide +kernel
theorem dX3_open_26 : decode cX3_open 26 = .ok (.aload_n 0, 1) := by decide +kernel
theorem dX3_open_27 : decode cX3_open 27 = .ok (.getfield 44, 3) := by decide +kernel
theorem dX3_open_30 : decode cX3_open 30 = .ok (.iload_n 1, 1) := by decide +kernel
theorem dX3_open_31 : decode cX3_open 31 = .ok (.iaload, 1) := by decide +kernel
theorem dX3_open_32 : decode cX3_open 32 = .ok (.iconst (-1), 1) := by decide +kernel
theorem dX3_open_33 : decode cX3_open 33 = .ok (.if_icmp .ne 7, 3) := by decide +kernel
theorem dX3_open_36 : decode cX3_open 36 = .ok (.iconst 3, 1) := by decide +kernel
theorem dX3_open_37 : decode cX3_open 37 = .ok (.goto 4, 3) := by decide +kernel
theorem dX3_open_40 : decode cX3_open 40 = .ok (.iconst 0, 1) := by decide +kernel
theorem dX3_open_41 : decode cX3_open 41 = .ok (.invokevirtual 68, 3) := by decide +kernel
theorem dX3_open_44 : decode cX3_open 44 = .ok (.ifCond .ne 5, 3) := by decide +kernel
theorem dX3_open_47 : decode cX3_open 47 = .ok (.iconst 0, 1) := by decide +kernel
theorem dX3_open_48 : decode cX3_open 48 = .ok (.ireturn, 1) := by decide +kernel
theorem dX3_open_49 : decode cX3_open 49 = .ok (.iload_n 2, 1) := by decide +kernel
theorem dX3_open_50 : decode cX3_open 50 = .ok (.aload_n 0, 1) := by decide +kernel
theorem dX3_open_51 : decode cX3_open 51 = .ok (.getfield 47, 3) := by decide +kernel
theorem dX3_open_54 : decode cX3_open 54 = .ok (.aload_n 0, 1) := by decide +kernel
theorem dX3_open_55 : decode cX3_open 55 = .ok (.getfield 44, 3) := by decide +kernel
theorem dX3_open_58 : decode cX3_open 58 = .ok (.iload_n 1, 1) := by decide +kernel
theorem dX3_open_59 : decode cX3_open 59 = .ok (.iaload, 1) := by decide +kernel
theorem dX3_open_60 : decode cX3_open 60 = .ok (.iaload, 1) := by decide +kernel
theorem dX3_open_61 : decode cX3_open 61 = .ok (.isub, 1) := by decide +kernel
theorem dX3_open_62 : decode cX3_open 62 = .ok (.istore_n 3, 1) := by decide +kernel
theorem dX3_open_63 : decode cX3_open 63 = .ok (.aload_n 0, 1) := by decide +kernel
theorem dX3_open_64 : decode cX3_open 64 = .ok (.getfield 44, 3) := by decide +kernel
theorem dX3_open_67 : decode cX3_open 67 = .ok (.iload_n 1, 1) := by decide +kernel
theorem dX3_open_68 : decode cX3_open 68 = .ok (.iconst (-1), 1) := by decide +kernel
theorem dX3_open_69 : decode cX3_open 69 = .ok (.iastore, 1) := by decide +kernel
theorem dX3_open_70 : decode cX3_open 70 = .ok (.aload_n 0, 1) := by decide +kernel
theorem dX3_open_71 : decode cX3_open 71 = .ok (.dup, 1) := by decide +kernel
theorem dX3_open_72 : decode cX3_open 72 = .ok (.getfield 90, 3) := by decide +kernel
theorem dX3_open_75 : decode cX3_open 75 = .ok (.iload_n 3, 1) := by decide +kernel
theorem dX3_open_76 : decode cX3_open 76 = .ok (.ifCond .ne 7, 3) := by decide +kernel
theorem dX3_open_79 : decode cX3_open 79 = .ok (.iconst 0, 1) := by decide +kernel
theorem dX3_open_80 : decode cX3_open 80 = .ok (.goto 4, 3) := by decide +kernel
theorem dX3_open_83 : decode cX3_open 83 = .ok (.iconst 1, 1) := by decide +kernel
theorem dX3_open_84 : decode cX3_open 84 = .ok (.iadd, 1) := by decide +kernel
theorem dX3_open_85 : decode cX3_open 85 = .ok (.putfield 90, 3) := by decide +kernel
theorem dX3_open_88 : decode cX3_open 88 = .ok (.iload_n 3, 1) := by decide +kernel
theorem dX3_open_89 : decode cX3_open 89 = .ok (.ireturn, 1) := by decide +kernel
theorem dX3_carry_0 : decode cX3_carry 0 = .ok (.iload_n 1, 1) := by decide +kernel
theorem dX3_carry_1 : decode cX3_carry 1 = .ok (.invokestatic 80, 3) := by decide +kernel
theorem dX3_carry_4 : decode cX3_carry 4 = .ok (.ifCond .eq 14, 3) := by decide +kernel
theorem dX3_carry_7 : decode cX3_carry 7 = .ok (.iload_n 2, 1) := by decide +kernel
theorem dX3_carry_8 : decode cX3_carry 8 = .ok (.invokestatic 65, 3) := by decide +kernel
theorem dX3_carry_11 : decode cX3_carry 11 = .ok (.ifCond .eq 7, 3) := by decide +kernel
theorem dX3_carry_14 : decode cX3_carry 14 = .ok (.iconst 1, 1) := by decide +kernel
theorem dX3_carry_15 : decode cX3_carry 15 = .ok (.goto 4, 3) := by decide +kernel
theorem dX3_carry_18 : decode cX3_carry 18 = .ok (.iconst 0, 1) := by decide +kernel
theorem dX3_carry_19 : decode cX3_carry 19 = .ok (.istore_n 3, 1) := by decide +kernel
theorem dX3_carry_20 : decode cX3_carry 20 = .ok (.aload_n 0, 1) := by decide +kernel
theorem dX3_carry_21 : decode cX3_carry 21 = .ok (.iload_n 3, 1) := by decide +kernel
theorem dX3_carry_22 : decode cX3_carry 22 = .ok (.ifCond .ne 7, 3) := by decide +kernel
theorem dX3_carry_25 : decode cX3_carry 25 = .ok (.iconst 1, 1) := by decide +kernel
theorem dX3_carry_26 : decode cX3_carry 26 = .ok (.goto 40, 3) := by decide +kernel
theorem dX3_carry_29 : decode cX3_carry 29 = .ok (.aload_n 0, 1) := by decide +kernel
theorem dX3_carry_30 : decode cX3_carry 30 = .ok (.getfield 41, 3) := by decide +kernel
theorem dX3_carry_33 : decode cX3_carry 33 = .ok (.iload_n 1, 1) := by decide +kernel
theorem dX3_carry_34 : decode cX3_carry 34 = .ok (.iaload, 1) := by decide +kernel
theorem dX3_carry_35 : decode cX3_carry 35 = .ok (.iload_n 2, 1) := by decide +kernel
theorem dX3_carry_36 : decode cX3_carry 36 = .ok (.if_icmp .ne 7, 3) := by decide +kernel
theorem dX3_carry_39 : decode cX3_carry 39 = .ok (.iconst 2, 1) := by decide +kernel
theorem dX3_carry_40 : decode cX3_carry 40 = .ok (.goto 26, 3) := by decide +kernel
theorem dX3_carry_43 : decode cX3_carry 43 = .ok (.aload_n 0, 1) := by decide +kernel
theorem dX3_carry_44 : decode cX3_carry 44 = .ok (.getfield 44, 3) := by decide +kernel
theorem dX3_carry_47 : decode cX3_carry 47 = .ok (.iload_n 1, 1) := by decide +kernel
theorem dX3_carry_48 : decode cX3_carry 48 = .ok (.iaload, 1) := by decide +kernel
theorem dX3_carry_49 : decode cX3_carry 49 = .ok (.iconst (-1), 1) := by decide +kernel
theorem dX3_carry_50 : decode cX3_carry 50 = .ok (.if_icmp .ne 15, 3) := by decide +kernel
theorem dX3_carry_53 : decode cX3_carry 53 = .ok (.aload_n 0, 1) := by decide +kernel
theorem dX3_carry_54 : decode cX3_carry 54 = .ok (.iload_n 1, 1) := by decide +kernel
theorem dX3_carry_55 : decode cX3_carry 55 = .ok (.invokevirtual 83, 3) := by decide +kernel
theorem dX3_carry_58 : decode cX3_carry 58 = .ok (.ifCond .le 7, 3) := by decide +kernel
theorem dX3_carry_61 : decode cX3_carry 61 = .ok (.iconst 3, 1) := by decide +kernel
theorem dX3_carry_62 : decode cX3_carry 62 = .ok (.goto 4, 3) := by decide +kernel
theorem dX3_carry_65 : decode cX3_carry 65 = .ok (.iconst 0, 1) := by decide +kernel
theorem dX3_carry_66 : decode cX3_carry 66 = .ok (.invokevirtual 68, 3) := by decide +kernel
theorem dX3_carry_69 : decode cX3_carry 69 = .ok (.ifCond .ne 5, 3) := by decide +kernel
theorem dX3_carry_72 : decode cX3_carry 72 = .ok (.iconst 0, 1) := by decide +kernel
theorem dX3_carry_73 : decode cX3_carry 73 = .ok (.ireturn, 1) := by decide +kernel
theorem dX3_carry_74 : decode cX3_carry 74 = .ok (.aload_n 0, 1) := by decide +kernel
theorem dX3_carry_75 : decode cX3_carry 75 = .ok (.getfield 41, 3) := by decide +kernel
theorem dX3_carry_78 : decode cX3_carry 78 = .ok (.iload_n 1, 1) := by decide +kernel
theorem dX3_carry_79 : decode cX3_carry 79 = .ok (.iaload, 1) := by decide +kernel
theorem dX3_carry_80 : decode cX3_carry 80 = .ok (.istore 4, 2) := by decide +kernel
theorem dX3_carry_82 : decode cX3_carry 82 = .ok (.aload_n 0, 1) := by decide +kernel
theorem dX3_carry_83 : decode cX3_carry 83 = .ok (.getfield 41, 3) := by decide +kernel
theorem dX3_carry_86 : decode cX3_carry 86 = .ok (.iload_n 1, 1) := by decide +kernel
theorem dX3_carry_87 : decode cX3_carry 87 = .ok (.iload_n 2, 1) := by decide +kernel
theorem dX3_carry_88 : decode cX3_carry 88 = .ok (.iastore, 1) := by decide +kernel
theorem dX3_carry_89 : decode cX3_carry 89 = .ok (.iconst 0, 1) := by decide +kernel
theorem dX3_carry_90 : decode cX3_carry 90 = .ok (.istore 5, 2) := by decide +kernel
theorem dX3_carry_92 : decode cX3_carry 92 = .ok (.iload 5, 2) := by decide +kernel
theorem dX3_carry_94 : decode cX3_carry 94 = .ok (.aload_n 0, 1) := by decide +kernel
theorem dX3_carry_95 : decode cX3_carry 95 = .ok (.getfield 54, 3) := by decide +kernel
theorem dX3_carry_98 : decode cX3_carry 98 = .ok (.if_icmp .ge 38, 3) := by decide +kernel
theorem dX3_carry_101 : decode cX3_carry 101 = .ok (.aload_n 0, 1) := by decide +kernel
theorem dX3_carry_102 : decode cX3_carry 102 = .ok (.getfield 19, 3) := by decide +kernel
theorem dX3_carry_105 : decode cX3_carry 105 = .ok (.iload 5, 2) := by decide +kernel
theorem dX3_carry_107 : decode cX3_carry 107 = .ok (.iaload, 1) := by decide +kernel
theorem dX3_carry_108 : decode cX3_carry 108 = .ok (.iload_n 1, 1) := by decide +kernel
theorem dX3_carry_109 : decode cX3_carry 109 = .ok (.if_icmp .ne 21, 3) := by decide +kernel
theorem dX3_carry_112 : decode cX3_carry 112 = .ok (.aload_n 0, 1) := by decide +kernel
theorem dX3_carry_113 : decode cX3_carry 113 = .ok (.getfield 16, 3) := by decide +kernel
theorem dX3_carry_116 : decode cX3_carry 116 = .ok (.iload 5, 2) := by decide +kernel
theorem dX3_carry_118 : decode cX3_carry 118 = .ok (.iload_n 2, 1) := by decide +kernel
theorem dX3_carry_119 : decode cX3_carry 119 = .ok (.iastore, 1) := by decide +kernel
theorem dX3_carry_120 : decode cX3_carry 120 = .ok (.aload_n 0, 1) := by decide +kernel
theorem dX3_carry_121 : decode cX3_carry 121 = .ok (.dup, 1) := by decide +kernel
theorem dX3_carry_122 : decode cX3_carry 122 = .ok (.getfield 71, 3) := by decide +kernel
theorem dX3_carry_125 : decode cX3_carry 125 = .ok (.iconst 1, 1) := by decide +kernel
theorem dX3_carry_126 : decode cX3_carry 126 = .ok (.iadd, 1) := by decide +kernel
theorem dX3_carry_127 : decode cX3_carry 127 = .ok (.putfield 71, 3) := by decide +kernel
theorem dX3_carry_130 : decode cX3_carry 130 = .ok (.iinc 5 1, 3) := by decide +kernel
theorem dX3_carry_133 : decode cX3_carry 133 = .ok (.goto (-41), 3) := by decide +kernel
theorem dX3_carry_136 : decode cX3_carry 136 = .ok (.iload 4, 2) := by decide +kernel
theorem dX3_carry_138 : decode cX3_carry 138 = .ok (.ireturn, 1) := by decide +kernel
theorem dX3_wipe_0 : decode cX3_wipe 0 = .ok (.aload_n 0, 1) := by decide +kernel
theorem dX3_wipe_1 : decode cX3_wipe 1 = .ok (.iload_n 1, 1) := by decide +kernel
theorem dX3_wipe_2 : decode cX3_wipe 2 = .ok (.invokevirtual 74, 3) := by decide +kernel
theorem dX3_wipe_5 : decode cX3_wipe 5 = .ok (.ifCond .eq 14, 3) := by decide +kernel
theorem dX3_wipe_8 : decode cX3_wipe 8 = .ok (.iload_n 3, 1) := by decide +kernel
theorem dX3_wipe_9 : decode cX3_wipe 9 = .ok (.invokestatic 65, 3) := by decide +kernel
theorem dX3_wipe_12 : decode cX3_wipe 12 = .ok (.ifCond .eq 7, 3) := by decide +kernel
theorem dX3_wipe_15 : decode cX3_wipe 15 = .ok (.iconst 1, 1) := by decide +kernel
theorem dX3_wipe_16 : decode cX3_wipe 16 = .ok (.goto 4, 3) := by decide +kernel
theorem dX3_wipe_19 : decode cX3_wipe 19 = .ok (.iconst 0, 1) := by decide +kernel
theorem dX3_wipe_20 : decode cX3_wipe 20 = .ok (.istore 4, 2) := by decide +kernel
theorem dX3_wipe_22 : decode cX3_wipe 22 = .ok (.iload 4, 2) := by decide +kernel
theorem dX3_wipe_24 : decode cX3_wipe 24 = .ok (.ifCond .eq 26, 3) := by decide +kernel
theorem dX3_wipe_27 : decode cX3_wipe 27 = .ok (.iload_n 2, 1) := by decide +kernel
theorem dX3_wipe_28 : decode cX3_wipe 28 = .ok (.iconst 0, 1) := by decide +kernel
theorem dX3_wipe_29 : decode cX3_wipe 29 = .ok (.iconst 2, 1) := by decide +kernel
theorem dX3_wipe_30 : decode cX3_wipe 30 = .ok (.invokestatic 57, 3) := by decide +kernel
theorem dX3_wipe_33 : decode cX3_wipe 33 = .ok (.ifCond .eq 17, 3) := by decide +kernel
theorem dX3_wipe_36 : decode cX3_wipe 36 = .ok (.iload_n 3, 1) := by decide +kernel
theorem dX3_wipe_37 : decode cX3_wipe 37 = .ok (.aload_n 0, 1) := by decide +kernel
theorem dX3_wipe_38 : decode cX3_wipe 38 = .ok (.getfield 16, 3) := by decide +kernel
theorem dX3_wipe_41 : decode cX3_wipe 41 = .ok (.iload_n 1, 1) := by decide +kernel
theorem dX3_wipe_42 : decode cX3_wipe 42 = .ok (.iaload, 1) := by decide +kernel
theorem dX3_wipe_43 : decode cX3_wipe 43 = .ok (.if_icmp .eq 7, 3) := by decide +kernel
theorem dX3_wipe_46 : decode cX3_wipe 46 = .ok (.iconst 1, 1) := by decide +kernel
theorem dX3_wipe_47 : decode cX3_wipe 47 = .ok (.goto 4, 3) := by decide +kernel
theorem dX3_wipe_50 : decode cX3_wipe 50 = .ok (.iconst 0, 1) := by decide +kernel
theorem dX3_wipe_51 : decode cX3_wipe 51 = .ok (.istore 5, 2) := by decide +kernel
theorem dX3_wipe_53 : decode cX3_wipe 53 = .ok (.aload_n 0, 1) := by decide +kernel
theorem dX3_wipe_54 : decode cX3_wipe 54 = .ok (.iload 4, 2) := by decide +kernel
theorem dX3_wipe_56 : decode cX3_wipe 56 = .ok (.ifCond .ne 7, 3) := by decide +kernel
theorem dX3_wipe_59 : decode cX3_wipe 59 = .ok (.iconst 1, 1) := by decide +kernel
theorem dX3_wipe_60 : decode cX3_wipe 60 = .ok (.goto 45, 3) := by decide +kernel
theorem dX3_wipe_63 : decode cX3_wipe 63 = .ok (.iload 5, 2) := by decide +kernel
theorem dX3_wipe_65 : decode cX3_wipe 65 = .ok (.ifCond .ne 7, 3) := by decide +kernel
theorem dX3_wipe_68 : decode cX3_wipe 68 = .ok (.iconst 2, 1) := by decide +kernel
theorem dX3_wipe_69 : decode cX3_wipe 69 = .ok (.goto 36, 3) := by decide +kernel
theorem dX3_wipe_72 : decode cX3_wipe 72 = .ok (.aload_n 0, 1) := by decide +kernel
theorem dX3_wipe_73 : decode cX3_wipe 73 = .ok (.iload_n 1, 1) := by decide +kernel
theorem dX3_wipe_74 : decode cX3_wipe 74 = .ok (.invokevirtual 77, 3) := by decide +kernel
theorem dX3_wipe_77 : decode cX3_wipe 77 = .ok (.ifCond .ne 23, 3) := by decide +kernel
theorem dX3_wipe_80 : decode cX3_wipe 80 = .ok (.aload_n 0, 1) := by decide +kernel
theorem dX3_wipe_81 : decode cX3_wipe 81 = .ok (.getfield 22, 3) := by decide +kernel
theorem dX3_wipe_84 : decode cX3_wipe 84 = .ok (.iload_n 1, 1) := by decide +kernel
theorem dX3_wipe_85 : decode cX3_wipe 85 = .ok (.iaload, 1) := by decide +kernel
theorem dX3_wipe_86 : decode cX3_wipe 86 = .ok (.iconst 1, 1) := by decide +kernel
theorem dX3_wipe_87 : decode cX3_wipe 87 = .ok (.if_icmp .eq 13, 3) := by decide +kernel
theorem dX3_wipe_90 : decode cX3_wipe 90 = .ok (.aload_n 0, 1) := by decide +kernel
theorem dX3_wipe_91 : decode cX3_wipe 91 = .ok (.getfield 22, 3) := by decide +kernel
theorem dX3_wipe_94 : decode cX3_wipe 94 = .ok (.iload_n 1, 1) := by decide +kernel
theorem dX3_wipe_95 : decode cX3_wipe 95 = .ok (.iaload, 1) := by decide +kernel
theorem dX3_wipe_96 : decode cX3_wipe 96 = .ok (.iconst 3, 1) := by decide +kernel
theorem dX3_wipe_97 : decode cX3_wipe 97 = .ok (.if_icmp .ne 7, 3) := by decide +kernel
theorem dX3_wipe_100 : decode cX3_wipe 100 = .ok (.iconst 3, 1) := by decide +kernel
theorem dX3_wipe_101 : decode cX3_wipe 101 = .ok (.goto 4, 3) := by decide +kernel
theorem dX3_wipe_104 : decode cX3_wipe 104 = .ok (.iconst 0, 1) := by decide +kernel
theorem dX3_wipe_105 : decode cX3_wipe 105 = .ok (.invokevirtual 68, 3) := by decide +kernel
theorem dX3_wipe_108 : decode cX3_wipe 108 = .ok (.ifCond .ne 5, 3) := by decide +kernel
theorem dX3_wipe_111 : decode cX3_wipe 111 = .ok (.iconst 0, 1) := by decide +kernel
theorem dX3_wipe_112 : decode cX3_wipe 112 = .ok (.ireturn, 1) := by decide +kernel
theorem dX3_wipe_113 : decode cX3_wipe 113 = .ok (.aload_n 0, 1) := by decide +kernel
theorem dX3_wipe_114 : decode cX3_wipe 114 = .ok (.getfield 22, 3) := by decide +kernel
theorem dX3_wipe_117 : decode cX3_wipe 117 = .ok (.iload_n 1, 1) := by decide +kernel
theorem dX3_wipe_118 : decode cX3_wipe 118 = .ok (.iload_n 2, 1) := by decide +kernel
theorem dX3_wipe_119 : decode cX3_wipe 119 = .ok (.aload_n 0, 1) := by decide +kernel
theorem dX3_wipe_120 : decode cX3_wipe 120 = .ok (.getfield 7, 3) := by decide +kernel
theorem dX3_wipe_123 : decode cX3_wipe 123 = .ok (.iload_n 1, 1) := by decide +kernel
theorem dX3_wipe_124 : decode cX3_wipe 124 = .ok (.iaload, 1) := by decide +kernel
theorem dX3_wipe_125 : decode cX3_wipe 125 = .ok (.if_icmp .ne 17, 3) := by decide +kernel
theorem dX3_wipe_128 : decode cX3_wipe 128 = .ok (.aload_n 0, 1) := by decide +kernel
theorem dX3_wipe_129 : decode cX3_wipe 129 = .ok (.getfield 13, 3) := by decide +kernel
theorem dX3_wipe_132 : decode cX3_wipe 132 = .ok (.iload_n 1, 1) := by decide +kernel
theorem dX3_wipe_133 : decode cX3_wipe 133 = .ok (.iaload, 1) := by decide +kernel
theorem dX3_wipe_134 : decode cX3_wipe 134 = .ok (.iconst 3, 1) := by decide +kernel
theorem dX3_wipe_135 : decode cX3_wipe 135 = .ok (.if_icmp .ge 7, 3) := by decide +kernel
theorem dX3_wipe_138 : decode cX3_wipe 138 = .ok (.iconst 1, 1) := by decide +kernel
theorem dX3_wipe_139 : decode cX3_wipe 139 = .ok (.goto 4, 3) := by decide +kernel
theorem dX3_wipe_142 : decode cX3_wipe 142 = .ok (.iconst 2, 1) := by decide +kernel
theorem dX3_wipe_143 : decode cX3_wipe 143 = .ok (.iastore, 1) := by decide +kernel
theorem dX3_wipe_144 : decode cX3_wipe 144 = .ok (.aload_n 0, 1) := by decide +kernel
theorem dX3_wipe_145 : decode cX3_wipe 145 = .ok (.getfield 32, 3) := by decide +kernel
theorem dX3_wipe_148 : decode cX3_wipe 148 = .ok (.iload_n 1, 1) := by decide +kernel
theorem dX3_wipe_149 : decode cX3_wipe 149 = .ok (.aload_n 0, 1) := by decide +kernel
theorem dX3_wipe_150 : decode cX3_wipe 150 = .ok (.getfield 16, 3) := by decide +kernel
theorem dX3_wipe_153 : decode cX3_wipe 153 = .ok (.iload_n 1, 1) := by decide +kernel
theorem dX3_wipe_154 : decode cX3_wipe 154 = .ok (.iaload, 1) := by decide +kernel
theorem dX3_wipe_155 : decode cX3_wipe 155 = .ok (.iastore, 1) := by decide +kernel
theorem dX3_wipe_156 : decode cX3_wipe 156 = .ok (.aload_n 0, 1) := by decide +kernel
theorem dX3_wipe_157 : decode cX3_wipe 157 = .ok (.getfield 35, 3) := by decide +kernel
theorem dX3_wipe_160 : decode cX3_wipe 160 = .ok (.iload_n 1, 1) := by decide +kernel
theorem dX3_wipe_161 : decode cX3_wipe 161 = .ok (.iconst 0, 1) := by decide +kernel
theorem dX3_wipe_162 : decode cX3_wipe 162 = .ok (.bastore, 1) := by decide +kernel
theorem dX3_wipe_163 : decode cX3_wipe 163 = .ok (.aload_n 0, 1) := by decide +kernel
theorem dX3_wipe_164 : decode cX3_wipe 164 = .ok (.getfield 22, 3) := by decide +kernel
theorem dX3_wipe_167 : decode cX3_wipe 167 = .ok (.iload_n 1, 1) := by decide +kernel
theorem dX3_wipe_168 : decode cX3_wipe 168 = .ok (.iaload, 1) := by decide +kernel
theorem dX3_wipe_169 : decode cX3_wipe 169 = .ok (.ireturn, 1) := by decide +kernel
theorem dX3_smash_0 : decode cX3_smash 0 = .ok (.aload_n 0, 1) := by decide +kernel
theorem dX3_smash_1 : decode cX3_smash 1 = .ok (.iload_n 1, 1) := by decide +kernel
theorem dX3_smash_2 : decode cX3_smash 2 = .ok (.invokevirtual 74, 3) := by decide +kernel
theorem dX3_smash_5 : decode cX3_smash 5 = .ok (.ifCond .eq 14, 3) := by decide +kernel
theorem dX3_smash_8 : decode cX3_smash 8 = .ok (.iload_n 2, 1) := by decide +kernel
theorem dX3_smash_9 : decode cX3_smash 9 = .ok (.invokestatic 65, 3) := by decide +kernel
theorem dX3_smash_12 : decode cX3_smash 12 = .ok (.ifCond .eq 7, 3) := by decide +kernel
theorem dX3_smash_15 : decode cX3_smash 15 = .ok (.iconst 1, 1) := by decide +kernel
theorem dX3_smash_16 : decode cX3_smash 16 = .ok (.goto 4, 3) := by decide +kernel
theorem dX3_smash_19 : decode cX3_smash 19 = .ok (.iconst 0, 1) := by decide +kernel
theorem dX3_smash_20 : decode cX3_smash 20 = .ok (.istore_n 3, 1) := by decide +kernel
theorem dX3_smash_21 : decode cX3_smash 21 = .ok (.aload_n 0, 1) := by decide +kernel
theorem dX3_smash_22 : decode cX3_smash 22 = .ok (.iload_n 3, 1) := by decide +kernel
theorem dX3_smash_23 : decode cX3_smash 23 = .ok (.ifCond .ne 7, 3) := by decide +kernel
theorem dX3_smash_26 : decode cX3_smash 26 = .ok (.iconst 1, 1) := by decide +kernel
theorem dX3_smash_27 : decode cX3_smash 27 = .ok (.goto 40, 3) := by decide +kernel
theorem dX3_smash_30 : decode cX3_smash 30 = .ok (.iload_n 2, 1) := by decide +kernel
theorem dX3_smash_31 : decode cX3_smash 31 = .ok (.aload_n 0, 1) := by decide +kernel
theorem dX3_smash_32 : decode cX3_smash 32 = .ok (.getfield 16, 3) := by decide +kernel
theorem dX3_smash_35 : decode cX3_smash 35 = .ok (.iload_n 1, 1) := by decide +kernel
theorem dX3_smash_36 : decode cX3_smash 36 = .ok (.iaload, 1) := by decide +kernel
theorem dX3_smash_37 : decode cX3_smash 37 = .ok (.if_icmp .ne 7, 3) := by decide +kernel
theorem dX3_smash_40 : decode cX3_smash 40 = .ok (.iconst 2, 1) := by decide +kernel
theorem dX3_smash_41 : decode cX3_smash 41 = .ok (.goto 26, 3) := by decide +kernel
theorem dX3_smash_44 : decode cX3_smash 44 = .ok (.aload_n 0, 1) := by decide +kernel
theorem dX3_smash_45 : decode cX3_smash 45 = .ok (.iload_n 1, 1) := by decide +kernel
theorem dX3_smash_46 : decode cX3_smash 46 = .ok (.invokevirtual 77, 3) := by decide +kernel
theorem dX3_smash_49 : decode cX3_smash 49 = .ok (.ifCond .ne 13, 3) := by decide +kernel
theorem dX3_smash_52 : decode cX3_smash 52 = .ok (.aload_n 0, 1) := by decide +kernel
theorem dX3_smash_53 : decode cX3_smash 53 = .ok (.getfield 22, 3) := by decide +kernel
theorem dX3_smash_56 : decode cX3_smash 56 = .ok (.iload_n 1, 1) := by decide +kernel
theorem dX3_smash_57 : decode cX3_smash 57 = .ok (.iaload, 1) := by decide +kernel
theorem dX3_smash_58 : decode cX3_smash 58 = .ok (.iconst 3, 1) := by decide +kernel
theorem dX3_smash_59 : decode cX3_smash 59 = .ok (.if_icmp .ne 7, 3) := by decide +kernel
theorem dX3_smash_62 : decode cX3_smash 62 = .ok (.iconst 3, 1) := by decide +kernel
theorem dX3_smash_63 : decode cX3_smash 63 = .ok (.goto 4, 3) := by decide +kernel
theorem dX3_smash_66 : decode cX3_smash 66 = .ok (.iconst 0, 1) := by decide +kernel
theorem dX3_smash_67 : decode cX3_smash 67 = .ok (.invokevirtual 68, 3) := by decide +kernel
theorem dX3_smash_70 : decode cX3_smash 70 = .ok (.ifCond .ne 5, 3) := by decide +kernel
theorem dX3_smash_73 : decode cX3_smash 73 = .ok (.iconst 0, 1) := by decide +kernel
theorem dX3_smash_74 : decode cX3_smash 74 = .ok (.ireturn, 1) := by decide +kernel
theorem dX3_smash_75 : decode cX3_smash 75 = .ok (.aload_n 0, 1) := by decide +kernel
theorem dX3_smash_76 : decode cX3_smash 76 = .ok (.getfield 22, 3) := by decide +kernel
theorem dX3_smash_79 : decode cX3_smash 79 = .ok (.iload_n 1, 1) := by decide +kernel
theorem dX3_smash_80 : decode cX3_smash 80 = .ok (.iaload, 1) := by decide +kernel
theorem dX3_smash_81 : decode cX3_smash 81 = .ok (.istore 4, 2) := by decide +kernel
theorem dX3_smash_83 : decode cX3_smash 83 = .ok (.aload_n 0, 1) := by decide +kernel
theorem dX3_smash_84 : decode cX3_smash 84 = .ok (.getfield 22, 3) := by decide +kernel
theorem dX3_smash_87 : decode cX3_smash 87 = .ok (.iload_n 1, 1) := by decide +kernel
theorem dX3_smash_88 : decode cX3_smash 88 = .ok (.iconst 3, 1) := by decide +kernel
theorem dX3_smash_89 : decode cX3_smash 89 = .ok (.iastore, 1) := by decide +kernel
theorem dX3_smash_90 : decode cX3_smash 90 = .ok (.iload 4, 2) := by decide +kernel
theorem dX3_smash_92 : decode cX3_smash 92 = .ok (.ireturn, 1) := by decide +kernel
theorem dX3_check_0 : decode cX3_check 0 = .ok (.aload_n 0, 1) := by decide +kernel
theorem dX3_check_1 : decode cX3_check 1 = .ok (.iload_n 1, 1) := by decide +kernel
theorem dX3_check_2 : decode cX3_check 2 = .ok (.invokevirtual 74, 3) := by decide +kernel
theorem dX3_check_5 : decode cX3_check 5 = .ok (.ifCond .eq 14, 3) := by decide +kernel
theorem dX3_check_8 : decode cX3_check 8 = .ok (.iload_n 2, 1) := by decide +kernel
theorem dX3_check_9 : decode cX3_check 9 = .ok (.invokestatic 65, 3) := by decide +kernel
theorem dX3_check_12 : decode cX3_check 12 = .ok (.ifCond .eq 7, 3) := by decide +kernel
theorem dX3_check_15 : decode cX3_check 15 = .ok (.iconst 1, 1) := by decide +kernel
theorem dX3_check_16 : decode cX3_check 16 = .ok (.goto 4, 3) := by decide +kernel
theorem dX3_check_19 : decode cX3_check 19 = .ok (.iconst 0, 1) := by decide +kernel
theorem dX3_check_20 : decode cX3_check 20 = .ok (.istore 4, 2) := by decide +kernel
theorem dX3_check_22 : decode cX3_check 22 = .ok (.iload 4, 2) := by decide +kernel
theorem dX3_check_24 : decode cX3_check 24 = .ok (.ifCond .eq 27, 3) := by decide +kernel
theorem dX3_check_27 : decode cX3_check 27 = .ok (.aload_n 0, 1) := by decide +kernel
theorem dX3_check_28 : decode cX3_check 28 = .ok (.getfield 22, 3) := by decide +kernel
theorem dX3_check_31 : decode cX3_check 31 = .ok (.iload_n 1, 1) := by decide +kernel
theorem dX3_check_32 : decode cX3_check 32 = .ok (.iaload, 1) := by decide +kernel
theorem dX3_check_33 : decode cX3_check 33 = .ok (.iconst 1, 1) := by decide +kernel
theorem dX3_check_34 : decode cX3_check 34 = .ok (.if_icmp .ne 17, 3) := by decide +kernel
theorem dX3_check_37 : decode cX3_check 37 = .ok (.aload_n 0, 1) := by decide +kernel
theorem dX3_check_38 : decode cX3_check 38 = .ok (.getfield 32, 3) := by decide +kernel
theorem dX3_check_41 : decode cX3_check 41 = .ok (.iload_n 1, 1) := by decide +kernel
theorem dX3_check_42 : decode cX3_check 42 = .ok (.iaload, 1) := by decide +kernel
theorem dX3_check_43 : decode cX3_check 43 = .ok (.iload_n 2, 1) := by decide +kernel
theorem dX3_check_44 : decode cX3_check 44 = .ok (.if_icmp .ne 7, 3) := by decide +kernel
theorem dX3_check_47 : decode cX3_check 47 = .ok (.iconst 1, 1) := by decide +kernel
theorem dX3_check_48 : decode cX3_check 48 = .ok (.goto 4, 3) := by decide +kernel
theorem dX3_check_51 : decode cX3_check 51 = .ok (.iconst 0, 1) := by decide +kernel
theorem dX3_check_52 : decode cX3_check 52 = .ok (.istore 5, 2) := by decide +kernel
theorem dX3_check_54 : decode cX3_check 54 = .ok (.aload_n 0, 1) := by decide +kernel
theorem dX3_check_55 : decode cX3_check 55 = .ok (.iload 4, 2) := by decide +kernel
theorem dX3_check_57 : decode cX3_check 57 = .ok (.ifCond .ne 7, 3) := by decide +kernel
theorem dX3_check_60 : decode cX3_check 60 = .ok (.iconst 1, 1) := by decide +kernel
theorem dX3_check_61 : decode cX3_check 61 = .ok (.goto 35, 3) := by decide +kernel
theorem dX3_check_64 : decode cX3_check 64 = .ok (.iload 5, 2) := by decide +kernel
theorem dX3_check_66 : decode cX3_check 66 = .ok (.ifCond .eq 7, 3) := by decide +kernel
theorem dX3_check_69 : decode cX3_check 69 = .ok (.iconst 2, 1) := by decide +kernel
theorem dX3_check_70 : decode cX3_check 70 = .ok (.goto 26, 3) := by decide +kernel
theorem dX3_check_73 : decode cX3_check 73 = .ok (.aload_n 0, 1) := by decide +kernel
theorem dX3_check_74 : decode cX3_check 74 = .ok (.iload_n 1, 1) := by decide +kernel
theorem dX3_check_75 : decode cX3_check 75 = .ok (.invokevirtual 77, 3) := by decide +kernel
theorem dX3_check_78 : decode cX3_check 78 = .ok (.ifCond .ne 13, 3) := by decide +kernel
theorem dX3_check_81 : decode cX3_check 81 = .ok (.aload_n 0, 1) := by decide +kernel
theorem dX3_check_82 : decode cX3_check 82 = .ok (.getfield 22, 3) := by decide +kernel
theorem dX3_check_85 : decode cX3_check 85 = .ok (.iload_n 1, 1) := by decide +kernel
theorem dX3_check_86 : decode cX3_check 86 = .ok (.iaload, 1) := by decide +kernel
theorem dX3_check_87 : decode cX3_check 87 = .ok (.iconst 1, 1) := by decide +kernel
theorem dX3_check_88 : decode cX3_check 88 = .ok (.if_icmp .eq 7, 3) := by decide +kernel
theorem dX3_check_91 : decode cX3_check 91 = .ok (.iconst 3, 1) := by decide +kernel
theorem dX3_check_92 : decode cX3_check 92 = .ok (.goto 4, 3) := by decide +kernel
theorem dX3_check_95 : decode cX3_check 95 = .ok (.iconst 0, 1) := by decide +kernel
theorem dX3_check_96 : decode cX3_check 96 = .ok (.invokevirtual 68, 3) := by decide +kernel
theorem dX3_check_99 : decode cX3_check 99 = .ok (.ifCond .ne 5, 3) := by decide +kernel
theorem dX3_check_102 : decode cX3_check 102 = .ok (.iconst 0, 1) := by decide +kernel
theorem dX3_check_103 : decode cX3_check 103 = .ok (.ireturn, 1) := by decide +kernel
theorem dX3_check_104 : decode cX3_check 104 = .ok (.aload_n 0, 1) := by decide +kernel
theorem dX3_check_105 : decode cX3_check 105 = .ok (.getfield 35, 3) := by decide +kernel
theorem dX3_check_108 : decode cX3_check 108 = .ok (.iload_n 1, 1) := by decide +kernel
theorem dX3_check_109 : decode cX3_check 109 = .ok (.iload_n 3, 1) := by decide +kernel
theorem dX3_check_110 : decode cX3_check 110 = .ok (.bastore, 1) := by decide +kernel
theorem dX3_check_111 : decode cX3_check 111 = .ok (.aload_n 0, 1) := by decide +kernel
theorem dX3_check_112 : decode cX3_check 112 = .ok (.getfield 22, 3) := by decide +kernel
theorem dX3_check_115 : decode cX3_check 115 = .ok (.iload_n 1, 1) := by decide +kernel
theorem dX3_check_116 : decode cX3_check 116 = .ok (.iload_n 3, 1) := by decide +kernel
theorem dX3_check_117 : decode cX3_check 117 = .ok (.ifCond .eq 7, 3) := by decide +kernel
theorem dX3_check_120 : decode cX3_check 120 = .ok (.iconst 1, 1) := by decide +kernel
theorem dX3_check_121 : decode cX3_check 121 = .ok (.goto 4, 3) := by decide +kernel
theorem dX3_check_124 : decode cX3_check 124 = .ok (.iconst 2, 1) := by decide +kernel
theorem dX3_check_125 : decode cX3_check 125 = .ok (.iastore, 1) := by decide +kernel
theorem dX3_check_126 : decode cX3_check 126 = .ok (.aload_n 0, 1) := by decide +kernel
theorem dX3_check_127 : decode cX3_check 127 = .ok (.getfield 22, 3) := by decide +kernel
theorem dX3_check_130 : decode cX3_check 130 = .ok (.iload_n 1, 1) := by decide +kernel
theorem dX3_check_131 : decode cX3_check 131 = .ok (.iaload, 1) := by decide +kernel
theorem dX3_check_132 : decode cX3_check 132 = .ok (.ireturn, 1) := by decide +kernel
theorem dX3_lose_0 : decode cX3_lose 0 = .ok (.aload_n 0, 1) := by decide +kernel
theorem dX3_lose_1 : decode cX3_lose 1 = .ok (.aload_n 0, 1) := by decide +kernel
theorem dX3_lose_2 : decode cX3_lose 2 = .ok (.iload_n 1, 1) := by decide +kernel
theorem dX3_lose_3 : decode cX3_lose 3 = .ok (.invokevirtual 74, 3) := by decide +kernel
theorem dX3_lose_6 : decode cX3_lose 6 = .ok (.ifCond .ne 7, 3) := by decide +kernel
theorem dX3_lose_9 : decode cX3_lose 9 = .ok (.iconst 1, 1) := by decide +kernel
theorem dX3_lose_10 : decode cX3_lose 10 = .ok (.goto 17, 3) := by decide +kernel
theorem dX3_lose_13 : decode cX3_lose 13 = .ok (.aload_n 0, 1) := by decide +kernel
theorem dX3_lose_14 : decode cX3_lose 14 = .ok (.getfield 25, 3) := by decide +kernel
theorem dX3_lose_17 : decode cX3_lose 17 = .ok (.iload_n 1, 1) := by decide +kernel
theorem dX3_lose_18 : decode cX3_lose 18 = .ok (.baload, 1) := by decide +kernel
theorem dX3_lose_19 : decode cX3_lose 19 = .ok (.ifCond .eq 7, 3) := by decide +kernel
theorem dX3_lose_22 : decode cX3_lose 22 = .ok (.iconst 2, 1) := by decide +kernel
theorem dX3_lose_23 : decode cX3_lose 23 = .ok (.goto 4, 3) := by decide +kernel
theorem dX3_lose_26 : decode cX3_lose 26 = .ok (.iconst 0, 1) := by decide +kernel
theorem dX3_lose_27 : decode cX3_lose 27 = .ok (.invokevirtual 68, 3) := by decide +kernel
theorem dX3_lose_30 : decode cX3_lose 30 = .ok (.ifCond .ne 5, 3) := by decide +kernel
theorem dX3_lose_33 : decode cX3_lose 33 = .ok (.iconst 0, 1) := by decide +kernel
theorem dX3_lose_34 : decode cX3_lose 34 = .ok (.ireturn, 1) := by decide +kernel
theorem dX3_lose_35 : decode cX3_lose 35 = .ok (.aload_n 0, 1) := by decide +kernel
theorem dX3_lose_36 : decode cX3_lose 36 = .ok (.getfield 25, 3) := by decide +kernel
theorem dX3_lose_39 : decode cX3_lose 39 = .ok (.iload_n 1, 1) := by decide +kernel
theorem dX3_lose_40 : decode cX3_lose 40 = .ok (.iconst 1, 1) := by decide +kernel
theorem dX3_lose_41 : decode cX3_lose 41 = .ok (.bastore, 1) := by decide +kernel
theorem dX3_lose_42 : decode cX3_lose 42 = .ok (.aload_n 0, 1) := by decide +kernel
theorem dX3_lose_43 : decode cX3_lose 43 = .ok (.getfield 29, 3) := by decide +kernel
theorem dX3_lose_46 : decode cX3_lose 46 = .ok (.iload_n 1, 1) := by decide +kernel
theorem dX3_lose_47 : decode cX3_lose 47 = .ok (.iconst (-1), 1) := by decide +kernel
theorem dX3_lose_48 : decode cX3_lose 48 = .ok (.iastore, 1) := by decide +kernel
theorem dX3_lose_49 : decode cX3_lose 49 = .ok (.aload_n 0, 1) := by decide +kernel
theorem dX3_lose_50 : decode cX3_lose 50 = .ok (.getfield 16, 3) := by decide +kernel
theorem dX3_lose_53 : decode cX3_lose 53 = .ok (.iload_n 1, 1) := by decide +kernel
theorem dX3_lose_54 : decode cX3_lose 54 = .ok (.iaload, 1) := by decide +kernel
theorem dX3_lose_55 : decode cX3_lose 55 = .ok (.ireturn, 1) := by decide +kernel
theorem dX3_find_0 : decode cX3_find 0 = .ok (.aload_n 0, 1) := by decide +kernel
theorem dX3_find_1 : decode cX3_find 1 = .ok (.aload_n 0, 1) := by decide +kernel
theorem dX3_find_2 : decode cX3_find 2 = .ok (.iload_n 1, 1) := by decide +kernel
theorem dX3_find_3 : decode cX3_find 3 = .ok (.invokevirtual 74, 3) := by decide +kernel
theorem dX3_find_6 : decode cX3_find 6 = .ok (.ifCond .ne 7, 3) := by decide +kernel
theorem dX3_find_9 : decode cX3_find 9 = .ok (.iconst 1, 1) := by decide +kernel
theorem dX3_find_10 : decode cX3_find 10 = .ok (.goto 17, 3) := by decide +kernel
theorem dX3_find_13 : decode cX3_find 13 = .ok (.aload_n 0, 1) := by decide +kernel
theorem dX3_find_14 : decode cX3_find 14 = .ok (.getfield 25, 3) := by decide +kernel
theorem dX3_find_17 : decode cX3_find 17 = .ok (.iload_n 1, 1) := by decide +kernel
theorem dX3_find_18 : decode cX3_find 18 = .ok (.baload, 1) := by decide +kernel
theorem dX3_find_19 : decode cX3_find 19 = .ok (.ifCond .eq 7, 3) := by decide +kernel
theorem dX3_find_22 : decode cX3_find 22 = .ok (.iconst 0, 1) := by decide +kernel
theorem dX3_find_23 : decode cX3_find 23 = .ok (.goto 4, 3) := by decide +kernel
theorem dX3_find_26 : decode cX3_find 26 = .ok (.iconst 2, 1) := by decide +kernel
theorem dX3_find_27 : decode cX3_find 27 = .ok (.invokevirtual 68, 3) := by decide +kernel
theorem dX3_find_30 : decode cX3_find 30 = .ok (.ifCond .ne 5, 3) := by decide +kernel
theorem dX3_find_33 : decode cX3_find 33 = .ok (.iconst 0, 1) := by decide +kernel
theorem dX3_find_34 : decode cX3_find 34 = .ok (.ireturn, 1) := by decide +kernel
theorem dX3_find_35 : decode cX3_find 35 = .ok (.aload_n 0, 1) := by decide +kernel
theorem dX3_find_36 : decode cX3_find 36 = .ok (.getfield 25, 3) := by decide +kernel
theorem dX3_find_39 : decode cX3_find 39 = .ok (.iload_n 1, 1) := by decide +kernel
theorem dX3_find_40 : decode cX3_find 40 = .ok (.iconst 0, 1) := by decide +kernel
theorem dX3_find_41 : decode cX3_find 41 = .ok (.bastore, 1) := by decide +kernel
theorem dX3_find_42 : decode cX3_find 42 = .ok (.aload_n 0, 1) := by decide +kernel
theorem dX3_find_43 : decode cX3_find 43 = .ok (.getfield 19, 3) := by decide +kernel
theorem dX3_find_46 : decode cX3_find 46 = .ok (.iload_n 1, 1) := by decide +kernel
theorem dX3_find_47 : decode cX3_find 47 = .ok (.iaload, 1) := by decide +kernel
theorem dX3_find_48 : decode cX3_find 48 = .ok (.ireturn, 1) := by decide +kernel
theorem dX3_isOver_0 : decode cX3_isOver 0 = .ok (.aload_n 0, 1) := by decide +kernel
theorem dX3_isOver_1 : decode cX3_isOver 1 = .ok (.getfield 22, 3) := by decide +kernel
theorem dX3_isOver_4 : decode cX3_isOver 4 = .ok (.iload_n 1, 1) := by decide +kernel
theorem dX3_isOver_5 : decode cX3_isOver 5 = .ok (.iaload, 1) := by decide +kernel
theorem dX3_isOver_6 : decode cX3_isOver 6 = .ok (.iconst 3, 1) := by decide +kernel
theorem dX3_isOver_7 : decode cX3_isOver 7 = .ok (.if_icmp .eq 22, 3) := by decide +kernel
theorem dX3_isOver_10 : decode cX3_isOver 10 = .ok (.aload_n 0, 1) := by decide +kernel
theorem dX3_isOver_11 : decode cX3_isOver 11 = .ok (.getfield 22, 3) := by decide +kernel
theorem dX3_isOver_14 : decode cX3_isOver 14 = .ok (.iload_n 1, 1) := by decide +kernel
theorem dX3_isOver_15 : decode cX3_isOver 15 = .ok (.iaload, 1) := by decide +kernel
theorem dX3_isOver_16 : decode cX3_isOver 16 = .ok (.iconst 1, 1) := by decide +kernel
theorem dX3_isOver_17 : decode cX3_isOver 17 = .ok (.if_icmp .ne 16, 3) := by decide +kernel
theorem dX3_isOver_20 : decode cX3_isOver 20 = .ok (.aload_n 0, 1) := by decide +kernel
theorem dX3_isOver_21 : decode cX3_isOver 21 = .ok (.getfield 35, 3) := by decide +kernel
theorem dX3_isOver_24 : decode cX3_isOver 24 = .ok (.iload_n 1, 1) := by decide +kernel
theorem dX3_isOver_25 : decode cX3_isOver 25 = .ok (.baload, 1) := by decide +kernel
theorem dX3_isOver_26 : decode cX3_isOver 26 = .ok (.ifCond .eq 7, 3) := by decide +kernel
theorem dX3_isOver_29 : decode cX3_isOver 29 = .ok (.iconst 1, 1) := by decide +kernel
theorem dX3_isOver_30 : decode cX3_isOver 30 = .ok (.goto 4, 3) := by decide +kernel
theorem dX3_isOver_33 : decode cX3_isOver 33 = .ok (.iconst 0, 1) := by decide +kernel
theorem dX3_isOver_34 : decode cX3_isOver 34 = .ok (.ireturn, 1) := by decide +kernel
theorem dX3_certify_0 : decode cX3_certify 0 = .ok (.iconst 0, 1) := by decide +kernel
theorem dX3_certify_1 : decode cX3_certify 1 = .ok (.istore_n 2, 1) := by decide +kernel
theorem dX3_certify_2 : decode cX3_certify 2 = .ok (.iconst 0, 1) := by decide +kernel
theorem dX3_certify_3 : decode cX3_certify 3 = .ok (.istore_n 3, 1) := by decide +kernel
theorem dX3_certify_4 : decode cX3_certify 4 = .ok (.iload_n 3, 1) := by decide +kernel
theorem dX3_certify_5 : decode cX3_certify 5 = .ok (.aload_n 0, 1) := by decide +kernel
theorem dX3_certify_6 : decode cX3_certify 6 = .ok (.getfield 54, 3) := by decide +kernel
theorem dX3_certify_9 : decode cX3_certify 9 = .ok (.if_icmp .ge 66, 3) := by decide +kernel
theorem dX3_certify_12 : decode cX3_certify 12 = .ok (.iload_n 1, 1) := by decide +kernel
theorem dX3_certify_13 : decode cX3_certify 13 = .ok (.invokestatic 65, 3) := by decide +kernel
theorem dX3_certify_16 : decode cX3_certify 16 = .ok (.ifCond .eq 59, 3) := by decide +kernel
theorem dX3_certify_19 : decode cX3_certify 19 = .ok (.aload_n 0, 1) := by decide +kernel
theorem dX3_certify_20 : decode cX3_certify 20 = .ok (.getfield 16, 3) := by decide +kernel
theorem dX3_certify_23 : decode cX3_certify 23 = .ok (.iload_n 3, 1) := by decide +kernel
theorem dX3_certify_24 : decode cX3_certify 24 = .ok (.iaload, 1) := by decide +kernel
theorem dX3_certify_25 : decode cX3_certify 25 = .ok (.iload_n 1, 1) := by decide +kernel
theorem dX3_certify_26 : decode cX3_certify 26 = .ok (.if_icmp .ne 43, 3) := by decide +kernel
theorem dX3_certify_29 : decode cX3_certify 29 = .ok (.aload_n 0, 1) := by decide +kernel
theorem dX3_certify_30 : decode cX3_certify 30 = .ok (.iload_n 3, 1) := by decide +kernel
theorem dX3_certify_31 : decode cX3_certify 31 = .ok (.invokevirtual 93, 3) := by decide +kernel
theorem dX3_certify_34 : decode cX3_certify 34 = .ok (.ifCond .eq 35, 3) := by decide +kernel
theorem dX3_certify_37 : decode cX3_certify 37 = .ok (.aload_n 0, 1) := by decide +kernel
theorem dX3_certify_38 : decode cX3_certify 38 = .ok (.getfield 25, 3) := by decide +kernel
theorem dX3_certify_41 : decode cX3_certify 41 = .ok (.iload_n 3, 1) := by decide +kernel
theorem dX3_certify_42 : decode cX3_certify 42 = .ok (.baload, 1) := by decide +kernel
theorem dX3_certify_43 : decode cX3_certify 43 = .ok (.ifCond .ne 26, 3) := by decide +kernel
theorem dX3_certify_46 : decode cX3_certify 46 = .ok (.aload_n 0, 1) := by decide +kernel
theorem dX3_certify_47 : decode cX3_certify 47 = .ok (.getfield 38, 3) := by decide +kernel
theorem dX3_certify_50 : decode cX3_certify 50 = .ok (.iload_n 3, 1) := by decide +kernel
theorem dX3_certify_51 : decode cX3_certify 51 = .ok (.iaload, 1) := by decide +kernel
theorem dX3_certify_52 : decode cX3_certify 52 = .ok (.iconst (-1), 1) := by decide +kernel
theorem dX3_certify_53 : decode cX3_certify 53 = .ok (.if_icmp .ne 16, 3) := by decide +kernel
theorem dX3_certify_56 : decode cX3_certify 56 = .ok (.aload_n 0, 1) := by decide +kernel
theorem dX3_certify_57 : decode cX3_certify 57 = .ok (.getfield 38, 3) := by decide +kernel
theorem dX3_certify_60 : decode cX3_certify 60 = .ok (.iload_n 3, 1) := by decide +kernel
theorem dX3_certify_61 : decode cX3_certify 61 = .ok (.aload_n 0, 1) := by decide +kernel
theorem dX3_certify_62 : decode cX3_certify 62 = .ok (.getfield 96, 3) := by decide +kernel
theorem dX3_certify_65 : decode cX3_certify 65 = .ok (.iastore, 1) := by decide +kernel
theorem dX3_certify_66 : decode cX3_certify 66 = .ok (.iinc 2 1, 3) := by decide +kernel
theorem dX3_certify_69 : decode cX3_certify 69 = .ok (.iinc 3 1, 3) := by decide +kernel
theorem dX3_certify_72 : decode cX3_certify 72 = .ok (.goto (-68), 3) := by decide +kernel
theorem dX3_certify_75 : decode cX3_certify 75 = .ok (.aload_n 0, 1) := by decide +kernel
theorem dX3_certify_76 : decode cX3_certify 76 = .ok (.iload_n 1, 1) := by decide +kernel
theorem dX3_certify_77 : decode cX3_certify 77 = .ok (.invokestatic 65, 3) := by decide +kernel
theorem dX3_certify_80 : decode cX3_certify 80 = .ok (.ifCond .ne 7, 3) := by decide +kernel
theorem dX3_certify_83 : decode cX3_certify 83 = .ok (.iconst 1, 1) := by decide +kernel
theorem dX3_certify_84 : decode cX3_certify 84 = .ok (.goto 12, 3) := by decide +kernel
theorem dX3_certify_87 : decode cX3_certify 87 = .ok (.iload_n 2, 1) := by decide +kernel
theorem dX3_certify_88 : decode cX3_certify 88 = .ok (.ifCond .ne 7, 3) := by decide +kernel
theorem dX3_certify_91 : decode cX3_certify 91 = .ok (.iconst 2, 1) := by decide +kernel
theorem dX3_certify_92 : decode cX3_certify 92 = .ok (.goto 4, 3) := by decide +kernel
theorem dX3_certify_95 : decode cX3_certify 95 = .ok (.iconst 0, 1) := by decide +kernel
theorem dX3_certify_96 : decode cX3_certify 96 = .ok (.invokevirtual 68, 3) := by decide +kernel
theorem dX3_certify_99 : decode cX3_certify 99 = .ok (.ifCond .ne 5, 3) := by decide +kernel
theorem dX3_certify_102 : decode cX3_certify 102 = .ok (.iconst 0, 1) := by decide +kernel
theorem dX3_certify_103 : decode cX3_certify 103 = .ok (.ireturn, 1) := by decide +kernel
theorem dX3_certify_104 : decode cX3_certify 104 = .ok (.aload_n 0, 1) := by decide +kernel
theorem dX3_certify_105 : decode cX3_certify 105 = .ok (.dup, 1) := by decide +kernel
theorem dX3_certify_106 : decode cX3_certify 106 = .ok (.getfield 96, 3) := by decide +kernel
theorem dX3_certify_109 : decode cX3_certify 109 = .ok (.iconst 1, 1) := by decide +kernel
theorem dX3_certify_110 : decode cX3_certify 110 = .ok (.iadd, 1) := by decide +kernel
theorem dX3_certify_111 : decode cX3_certify 111 = .ok (.putfield 96, 3) := by decide +kernel
theorem dX3_certify_114 : decode cX3_certify 114 = .ok (.iload_n 2, 1) := by decide +kernel
theorem dX3_certify_115 : decode cX3_certify 115 = .ok (.ireturn, 1) := by decide +kernel
theorem dX3_disks_0 : decode cX3_disks 0 = .ok (.aload_n 0, 1) := by decide +kernel
theorem dX3_disks_1 : decode cX3_disks 1 = .ok (.iconst 0, 1) := by decide +kernel
theorem dX3_disks_2 : decode cX3_disks 2 = .ok (.putfield 50, 3) := by decide +kernel
theorem dX3_disks_5 : decode cX3_disks 5 = .ok (.aload_n 0, 1) := by decide +kernel
theorem dX3_disks_6 : decode cX3_disks 6 = .ok (.getfield 54, 3) := by decide +kernel
theorem dX3_disks_9 : decode cX3_disks 9 = .ok (.ireturn, 1) := by decide +kernel
theorem dX3_isAsked_0 : decode cX3_isAsked 0 = .ok (.aload_n 0, 1) := by decide +kernel
theorem dX3_isAsked_1 : decode cX3_isAsked 1 = .ok (.aload_n 0, 1) := by decide +kernel
theorem dX3_isAsked_2 : decode cX3_isAsked 2 = .ok (.iload_n 1, 1) := by decide +kernel
theorem dX3_isAsked_3 : decode cX3_isAsked 3 = .ok (.invokevirtual 74, 3) := by decide +kernel
theorem dX3_isAsked_6 : decode cX3_isAsked 6 = .ok (.ifCond .eq 7, 3) := by decide +kernel
theorem dX3_isAsked_9 : decode cX3_isAsked 9 = .ok (.iconst 0, 1) := by decide +kernel
theorem dX3_isAsked_10 : decode cX3_isAsked 10 = .ok (.goto 4, 3) := by decide +kernel
theorem dX3_isAsked_13 : decode cX3_isAsked 13 = .ok (.iconst 1, 1) := by decide +kernel
theorem dX3_isAsked_14 : decode cX3_isAsked 14 = .ok (.invokevirtual 68, 3) := by decide +kernel
theorem dX3_isAsked_17 : decode cX3_isAsked 17 = .ok (.ireturn, 1) := by decide +kernel
theorem dX3_keeperOf_0 : decode cX3_keeperOf 0 = .ok (.aload_n 0, 1) := by decide +kernel
theorem dX3_keeperOf_1 : decode cX3_keeperOf 1 = .ok (.iload_n 1, 1) := by decide +kernel
theorem dX3_keeperOf_2 : decode cX3_keeperOf 2 = .ok (.invokevirtual 99, 3) := by decide +kernel
theorem dX3_keeperOf_5 : decode cX3_keeperOf 5 = .ok (.ifCond .eq 12, 3) := by decide +kernel
theorem dX3_keeperOf_8 : decode cX3_keeperOf 8 = .ok (.aload_n 0, 1) := by decide +kernel
theorem dX3_keeperOf_9 : decode cX3_keeperOf 9 = .ok (.getfield 16, 3) := by decide +kernel
theorem dX3_keeperOf_12 : decode cX3_keeperOf 12 = .ok (.iload_n 1, 1) := by decide +kernel
theorem dX3_keeperOf_13 : decode cX3_keeperOf 13 = .ok (.iaload, 1) := by decide +kernel
theorem dX3_keeperOf_14 : decode cX3_keeperOf 14 = .ok (.goto 4, 3) := by decide +kernel
theorem dX3_keeperOf_17 : decode cX3_keeperOf 17 = .ok (.iconst 0, 1) := by decide +kernel
theorem dX3_keeperOf_18 : decode cX3_keeperOf 18 = .ok (.ireturn, 1) := by decide +kernel
theorem dX3_keeperByLog_0 : decode cX3_keeperByLog 0 = .ok (.aload_n 0, 1) := by decide +kernel
theorem dX3_keeperByLog_1 : decode cX3_keeperByLog 1 = .ok (.iload_n 1, 1) := by decide +kernel
theorem dX3_keeperByLog_2 : decode cX3_keeperByLog 2 = .ok (.invokevirtual 99, 3) := by decide +kernel
theorem dX3_keeperByLog_5 : decode cX3_keeperByLog 5 = .ok (.ifCond .eq 12, 3) := by decide +kernel
theorem dX3_keeperByLog_8 : decode cX3_keeperByLog 8 = .ok (.aload_n 0, 1) := by decide +kernel
theorem dX3_keeperByLog_9 : decode cX3_keeperByLog 9 = .ok (.getfield 16, 3) := by decide +kernel
theorem dX3_keeperByLog_12 : decode cX3_keeperByLog 12 = .ok (.iload_n 1, 1) := by decide +kernel
theorem dX3_keeperByLog_13 : decode cX3_keeperByLog 13 = .ok (.iaload, 1) := by decide +kernel
theorem dX3_keeperByLog_14 : decode cX3_keeperByLog 14 = .ok (.goto 4, 3) := by decide +kernel
theorem dX3_keeperByLog_17 : decode cX3_keeperByLog 17 = .ok (.iconst 0, 1) := by decide +kernel
theorem dX3_keeperByLog_18 : decode cX3_keeperByLog 18 = .ok (.ireturn, 1) := by decide +kernel
theorem dX3_crateOf_0 : decode cX3_crateOf 0 = .ok (.aload_n 0, 1) := by decide +kernel
theorem dX3_crateOf_1 : decode cX3_crateOf 1 = .ok (.iload_n 1, 1) := by decide +kernel
theorem dX3_crateOf_2 : decode cX3_crateOf 2 = .ok (.invokevirtual 99, 3) := by decide +kernel
theorem dX3_crateOf_5 : decode cX3_crateOf 5 = .ok (.ifCond .eq 12, 3) := by decide +kernel
theorem dX3_crateOf_8 : decode cX3_crateOf 8 = .ok (.aload_n 0, 1) := by decide +kernel
theorem dX3_crateOf_9 : decode cX3_crateOf 9 = .ok (.getfield 19, 3) := by decide +kernel
theorem dX3_crateOf_12 : decode cX3_crateOf 12 = .ok (.iload_n 1, 1) := by decide +kernel
theorem dX3_crateOf_13 : decode cX3_crateOf 13 = .ok (.iaload, 1) := by decide +kernel
theorem dX3_crateOf_14 : decode cX3_crateOf 14 = .ok (.goto 4, 3) := by decide +kernel
theorem dX3_crateOf_17 : decode cX3_crateOf 17 = .ok (.iconst 0, 1) := by decide +kernel
theorem dX3_crateOf_18 : decode cX3_crateOf 18 = .ok (.ireturn, 1) := by decide +kernel
theorem dX3_stateOf_0 : decode cX3_stateOf 0 = .ok (.aload_n 0, 1) := by decide +kernel
theorem dX3_stateOf_1 : decode cX3_stateOf 1 = .ok (.iload_n 1, 1) := by decide +kernel
theorem dX3_stateOf_2 : decode cX3_stateOf 2 = .ok (.invokevirtual 99, 3) := by decide +kernel
theorem dX3_stateOf_5 : decode cX3_stateOf 5 = .ok (.ifCond .eq 12, 3) := by decide +kernel
theorem dX3_stateOf_8 : decode cX3_stateOf 8 = .ok (.aload_n 0, 1) := by decide +kernel
theorem dX3_stateOf_9 : decode cX3_stateOf 9 = .ok (.getfield 22, 3) := by decide +kernel
theorem dX3_stateOf_12 : decode cX3_stateOf 12 = .ok (.iload_n 1, 1) := by decide +kernel
theorem dX3_stateOf_13 : decode cX3_stateOf 13 = .ok (.iaload, 1) := by decide +kernel
theorem dX3_stateOf_14 : decode cX3_stateOf 14 = .ok (.goto 4, 3) := by decide +kernel
theorem dX3_stateOf_17 : decode cX3_stateOf 17 = .ok (.iconst 0, 1) := by decide +kernel
theorem dX3_stateOf_18 : decode cX3_stateOf 18 = .ok (.ireturn, 1) := by decide +kernel
theorem dX3_isDone_0 : decode cX3_isDone 0 = .ok (.aload_n 0, 1) := by decide +kernel
theorem dX3_isDone_1 : decode cX3_isDone 1 = .ok (.iload_n 1, 1) := by decide +kernel
theorem dX3_isDone_2 : decode cX3_isDone 2 = .ok (.invokevirtual 99, 3) := by decide +kernel
theorem dX3_isDone_5 : decode cX3_isDone 5 = .ok (.ifCond .eq 15, 3) := by decide +kernel
theorem dX3_isDone_8 : decode cX3_isDone 8 = .ok (.aload_n 0, 1) := by decide +kernel
theorem dX3_isDone_9 : decode cX3_isDone 9 = .ok (.iload_n 1, 1) := by decide +kernel
theorem dX3_isDone_10 : decode cX3_isDone 10 = .ok (.invokevirtual 93, 3) := by decide +kernel
theorem dX3_isDone_13 : decode cX3_isDone 13 = .ok (.ifCond .eq 7, 3) := by decide +kernel
theorem dX3_isDone_16 : decode cX3_isDone 16 = .ok (.iconst 1, 1) := by decide +kernel
theorem dX3_isDone_17 : decode cX3_isDone 17 = .ok (.goto 4, 3) := by decide +kernel
theorem dX3_isDone_20 : decode cX3_isDone 20 = .ok (.iconst 0, 1) := by decide +kernel
theorem dX3_isDone_21 : decode cX3_isDone 21 = .ok (.ireturn, 1) := by decide +kernel
theorem dX3_offeredTo_0 : decode cX3_offeredTo 0 = .ok (.aload_n 0, 1) := by decide +kernel
theorem dX3_offeredTo_1 : decode cX3_offeredTo 1 = .ok (.iload_n 1, 1) := by decide +kernel
theorem dX3_offeredTo_2 : decode cX3_offeredTo 2 = .ok (.invokevirtual 99, 3) := by decide +kernel
theorem dX3_offeredTo_5 : decode cX3_offeredTo 5 = .ok (.ifCond .eq 12, 3) := by decide +kernel
theorem dX3_offeredTo_8 : decode cX3_offeredTo 8 = .ok (.aload_n 0, 1) := by decide +kernel
theorem dX3_offeredTo_9 : decode cX3_offeredTo 9 = .ok (.getfield 29, 3) := by decide +kernel
theorem dX3_offeredTo_12 : decode cX3_offeredTo 12 = .ok (.iload_n 1, 1) := by decide +kernel
theorem dX3_offeredTo_13 : decode cX3_offeredTo 13 = .ok (.iaload, 1) := by decide +kernel
theorem dX3_offeredTo_14 : decode cX3_offeredTo 14 = .ok (.goto 4, 3) := by decide +kernel
theorem dX3_offeredTo_17 : decode cX3_offeredTo 17 = .ok (.iconst 0, 1) := by decide +kernel
theorem dX3_offeredTo_18 : decode cX3_offeredTo 18 = .ok (.ireturn, 1) := by decide +kernel
theorem dX3_certificateOf_0 : decode cX3_certificateOf 0 = .ok (.aload_n 0, 1) := by decide +kernel
theorem dX3_certificateOf_1 : decode cX3_certificateOf 1 = .ok (.iload_n 1, 1) := by decide +kernel
theorem dX3_certificateOf_2 : decode cX3_certificateOf 2 = .ok (.invokevirtual 99, 3) := by decide +kernel
theorem dX3_certificateOf_5 : decode cX3_certificateOf 5 = .ok (.ifCond .eq 12, 3) := by decide +kernel
theorem dX3_certificateOf_8 : decode cX3_certificateOf 8 = .ok (.aload_n 0, 1) := by decide +kernel
theorem dX3_certificateOf_9 : decode cX3_certificateOf 9 = .ok (.getfield 38, 3) := by decide +kernel
theorem dX3_certificateOf_12 : decode cX3_certificateOf 12 = .ok (.iload_n 1, 1) := by decide +kernel
theorem dX3_certificateOf_13 : decode cX3_certificateOf 13 = .ok (.iaload, 1) := by decide +kernel
theorem dX3_certificateOf_14 : decode cX3_certificateOf 14 = .ok (.goto 4, 3) := by decide +kernel
theorem dX3_certificateOf_17 : decode cX3_certificateOf 17 = .ok (.iconst 0, 1) := by decide +kernel
theorem dX3_certificateOf_18 : decode cX3_certificateOf 18 = .ok (.ireturn, 1) := by decide +kernel
theorem dX3_crateKeeper_0 : decode cX3_crateKeeper 0 = .ok (.aload_n 0, 1) := by decide +kernel
theorem dX3_crateKeeper_1 : decode cX3_crateKeeper 1 = .ok (.iload_n 1, 1) := by decide +kernel
theorem dX3_crateKeeper_2 : decode cX3_crateKeeper 2 = .ok (.invokestatic 80, 3) := by decide +kernel
theorem dX3_crateKeeper_5 : decode cX3_crateKeeper 5 = .ok (.ifCond .eq 7, 3) := by decide +kernel
theorem dX3_crateKeeper_8 : decode cX3_crateKeeper 8 = .ok (.iconst 0, 1) := by decide +kernel
theorem dX3_crateKeeper_9 : decode cX3_crateKeeper 9 = .ok (.goto 4, 3) := by decide +kernel
theorem dX3_crateKeeper_12 : decode cX3_crateKeeper 12 = .ok (.iconst 1, 1) := by decide +kernel
theorem dX3_crateKeeper_13 : decode cX3_crateKeeper 13 = .ok (.invokevirtual 68, 3) := by decide +kernel
theorem dX3_crateKeeper_16 : decode cX3_crateKeeper 16 = .ok (.ifCond .eq 12, 3) := by decide +kernel
theorem dX3_crateKeeper_19 : decode cX3_crateKeeper 19 = .ok (.aload_n 0, 1) := by decide +kernel
theorem dX3_crateKeeper_20 : decode cX3_crateKeeper 20 = .ok (.getfield 41, 3) := by decide +kernel
theorem dX3_crateKeeper_23 : decode cX3_crateKeeper 23 = .ok (.iload_n 1, 1) := by decide +kernel
theorem dX3_crateKeeper_24 : decode cX3_crateKeeper 24 = .ok (.iaload, 1) := by decide +kernel
theorem dX3_crateKeeper_25 : decode cX3_crateKeeper 25 = .ok (.goto 4, 3) := by decide +kernel
theorem dX3_crateKeeper_28 : decode cX3_crateKeeper 28 = .ok (.iconst 0, 1) := by decide +kernel
theorem dX3_crateKeeper_29 : decode cX3_crateKeeper 29 = .ok (.ireturn, 1) := by decide +kernel
theorem dX3_sealOf_0 : decode cX3_sealOf 0 = .ok (.aload_n 0, 1) := by decide +kernel
theorem dX3_sealOf_1 : decode cX3_sealOf 1 = .ok (.iload_n 1, 1) := by decide +kernel
theorem dX3_sealOf_2 : decode cX3_sealOf 2 = .ok (.invokestatic 80, 3) := by decide +kernel
theorem dX3_sealOf_5 : decode cX3_sealOf 5 = .ok (.ifCond .eq 7, 3) := by decide +kernel
theorem dX3_sealOf_8 : decode cX3_sealOf 8 = .ok (.iconst 0, 1) := by decide +kernel
theorem dX3_sealOf_9 : decode cX3_sealOf 9 = .ok (.goto 4, 3) := by decide +kernel
theorem dX3_sealOf_12 : decode cX3_sealOf 12 = .ok (.iconst 1, 1) := by decide +kernel
theorem dX3_sealOf_13 : decode cX3_sealOf 13 = .ok (.invokevirtual 68, 3) := by decide +kernel
theorem dX3_sealOf_16 : decode cX3_sealOf 16 = .ok (.ifCond .eq 12, 3) := by decide +kernel
theorem dX3_sealOf_19 : decode cX3_sealOf 19 = .ok (.aload_n 0, 1) := by decide +kernel
theorem dX3_sealOf_20 : decode cX3_sealOf 20 = .ok (.getfield 44, 3) := by decide +kernel
theorem dX3_sealOf_23 : decode cX3_sealOf 23 = .ok (.iload_n 1, 1) := by decide +kernel
theorem dX3_sealOf_24 : decode cX3_sealOf 24 = .ok (.iaload, 1) := by decide +kernel
theorem dX3_sealOf_25 : decode cX3_sealOf 25 = .ok (.goto 4, 3) := by decide +kernel
theorem dX3_sealOf_28 : decode cX3_sealOf 28 = .ok (.iconst 0, 1) := by decide +kernel
theorem dX3_sealOf_29 : decode cX3_sealOf 29 = .ok (.ireturn, 1) := by decide +kernel
theorem dX3_has_0 : decode cX3_has 0 = .ok (.aload_n 0, 1) := by decide +kernel
theorem dX3_has_1 : decode cX3_has 1 = .ok (.iload_n 1, 1) := by decide +kernel
theorem dX3_has_2 : decode cX3_has 2 = .ok (.invokestatic 65, 3) := by decide +kernel
theorem dX3_has_5 : decode cX3_has 5 = .ok (.ifCond .eq 7, 3) := by decide +kernel
theorem dX3_has_8 : decode cX3_has 8 = .ok (.iconst 0, 1) := by decide +kernel
theorem dX3_has_9 : decode cX3_has 9 = .ok (.goto 4, 3) := by decide +kernel
theorem dX3_has_12 : decode cX3_has 12 = .ok (.iconst 1, 1) := by decide +kernel
theorem dX3_has_13 : decode cX3_has 13 = .ok (.invokevirtual 68, 3) := by decide +kernel
theorem dX3_has_16 : decode cX3_has 16 = .ok (.ifCond .ne 5, 3) := by decide +kernel
theorem dX3_has_19 : decode cX3_has 19 = .ok (.iconst 0, 1) := by decide +kernel
theorem dX3_has_20 : decode cX3_has 20 = .ok (.ireturn, 1) := by decide +kernel
theorem dX3_has_21 : decode cX3_has 21 = .ok (.iconst 0, 1) := by decide +kernel
theorem dX3_has_22 : decode cX3_has 22 = .ok (.istore_n 2, 1) := by decide +kernel
theorem dX3_has_23 : decode cX3_has 23 = .ok (.iconst 0, 1) := by decide +kernel
theorem dX3_has_24 : decode cX3_has 24 = .ok (.istore_n 3, 1) := by decide +kernel
theorem dX3_has_25 : decode cX3_has 25 = .ok (.iload_n 3, 1) := by decide +kernel
theorem dX3_has_26 : decode cX3_has 26 = .ok (.aload_n 0, 1) := by decide +kernel
theorem dX3_has_27 : decode cX3_has 27 = .ok (.getfield 54, 3) := by decide +kernel
theorem dX3_has_30 : decode cX3_has 30 = .ok (.if_icmp .ge 27, 3) := by decide +kernel
theorem dX3_has_33 : decode cX3_has 33 = .ok (.iload_n 2, 1) := by decide +kernel
theorem dX3_has_34 : decode cX3_has 34 = .ok (.aload_n 0, 1) := by decide +kernel
theorem dX3_has_35 : decode cX3_has 35 = .ok (.getfield 16, 3) := by decide +kernel
theorem dX3_has_38 : decode cX3_has 38 = .ok (.iload_n 3, 1) := by decide +kernel
theorem dX3_has_39 : decode cX3_has 39 = .ok (.iaload, 1) := by decide +kernel
theorem dX3_has_40 : decode cX3_has 40 = .ok (.iload_n 1, 1) := by decide +kernel
theorem dX3_has_41 : decode cX3_has 41 = .ok (.if_icmp .ne 7, 3) := by decide +kernel
theorem dX3_has_44 : decode cX3_has 44 = .ok (.iconst 1, 1) := by decide +kernel
theorem dX3_has_45 : decode cX3_has 45 = .ok (.goto 4, 3) := by decide +kernel
theorem dX3_has_48 : decode cX3_has 48 = .ok (.iconst 0, 1) := by decide +kernel
theorem dX3_has_49 : decode cX3_has 49 = .ok (.iadd, 1) := by decide +kernel
theorem dX3_has_50 : decode cX3_has 50 = .ok (.istore_n 2, 1) := by decide +kernel
theorem dX3_has_51 : decode cX3_has 51 = .ok (.iinc 3 1, 3) := by decide +kernel
theorem dX3_has_54 : decode cX3_has 54 = .ok (.goto (-29), 3) := by decide +kernel
theorem dX3_has_57 : decode cX3_has 57 = .ok (.iload_n 2, 1) := by decide +kernel
theorem dX3_has_58 : decode cX3_has 58 = .ok (.ireturn, 1) := by decide +kernel
theorem dX3_missing_0 : decode cX3_missing 0 = .ok (.aload_n 0, 1) := by decide +kernel
theorem dX3_missing_1 : decode cX3_missing 1 = .ok (.iconst 0, 1) := by decide +kernel
theorem dX3_missing_2 : decode cX3_missing 2 = .ok (.putfield 50, 3) := by decide +kernel
theorem dX3_missing_5 : decode cX3_missing 5 = .ok (.iconst 0, 1) := by decide +kernel
theorem dX3_missing_6 : decode cX3_missing 6 = .ok (.istore_n 1, 1) := by decide +kernel
theorem dX3_missing_7 : decode cX3_missing 7 = .ok (.iconst 0, 1) := by decide +kernel
theorem dX3_missing_8 : decode cX3_missing 8 = .ok (.istore_n 2, 1) := by decide +kernel
theorem dX3_missing_9 : decode cX3_missing 9 = .ok (.iload_n 2, 1) := by decide +kernel
theorem dX3_missing_10 : decode cX3_missing 10 = .ok (.aload_n 0, 1) := by decide +kernel
theorem dX3_missing_11 : decode cX3_missing 11 = .ok (.getfield 54, 3) := by decide +kernel
theorem dX3_missing_14 : decode cX3_missing 14 = .ok (.if_icmp .ge 26, 3) := by decide +kernel
theorem dX3_missing_17 : decode cX3_missing 17 = .ok (.iload_n 1, 1) := by decide +kernel
theorem dX3_missing_18 : decode cX3_missing 18 = .ok (.aload_n 0, 1) := by decide +kernel
theorem dX3_missing_19 : decode cX3_missing 19 = .ok (.getfield 25, 3) := by decide +kernel
theorem dX3_missing_22 : decode cX3_missing 22 = .ok (.iload_n 2, 1) := by decide +kernel
theorem dX3_missing_23 : decode cX3_missing 23 = .ok (.baload, 1) := by decide +kernel
theorem dX3_missing_24 : decode cX3_missing 24 = .ok (.ifCond .eq 7, 3) := by decide +kernel
theorem dX3_missing_27 : decode cX3_missing 27 = .ok (.iconst 1, 1) := by decide +kernel
theorem dX3_missing_28 : decode cX3_missing 28 = .ok (.goto 4, 3) := by decide +kernel
theorem dX3_missing_31 : decode cX3_missing 31 = .ok (.iconst 0, 1) := by decide +kernel
theorem dX3_missing_32 : decode cX3_missing 32 = .ok (.iadd, 1) := by decide +kernel
theorem dX3_missing_33 : decode cX3_missing 33 = .ok (.istore_n 1, 1) := by decide +kernel
theorem dX3_missing_34 : decode cX3_missing 34 = .ok (.iinc 2 1, 3) := by decide +kernel
theorem dX3_missing_37 : decode cX3_missing 37 = .ok (.goto (-28), 3) := by decide +kernel
theorem dX3_missing_40 : decode cX3_missing 40 = .ok (.iload_n 1, 1) := by decide +kernel
theorem dX3_missing_41 : decode cX3_missing 41 = .ok (.ireturn, 1) := by decide +kernel
theorem dX3_oddCounts_0 : decode cX3_oddCounts 0 = .ok (.aload_n 0, 1) := by decide +kernel
theorem dX3_oddCounts_1 : decode cX3_oddCounts 1 = .ok (.iconst 0, 1) := by decide +kernel
theorem dX3_oddCounts_2 : decode cX3_oddCounts 2 = .ok (.putfield 50, 3) := by decide +kernel
theorem dX3_oddCounts_5 : decode cX3_oddCounts 5 = .ok (.aload_n 0, 1) := by decide +kernel
theorem dX3_oddCounts_6 : decode cX3_oddCounts 6 = .ok (.getfield 90, 3) := by decide +kernel
theorem dX3_oddCounts_9 : decode cX3_oddCounts 9 = .ok (.ireturn, 1) := by decide +kernel
theorem dX3_logged_0 : decode cX3_logged 0 = .ok (.aload_n 0, 1) := by decide +kernel
theorem dX3_logged_1 : decode cX3_logged 1 = .ok (.iconst 0, 1) := by decide +kernel
theorem dX3_logged_2 : decode cX3_logged 2 = .ok (.putfield 50, 3) := by decide +kernel
theorem dX3_logged_5 : decode cX3_logged 5 = .ok (.aload_n 0, 1) := by decide +kernel
theorem dX3_logged_6 : decode cX3_logged 6 = .ok (.getfield 71, 3) := by decide +kernel
theorem dX3_logged_9 : decode cX3_logged 9 = .ok (.ireturn, 1) := by decide +kernel
theorem dX3_certificates_0 : decode cX3_certificates 0 = .ok (.aload_n 0, 1) := by decide +kernel
theorem dX3_certificates_1 : decode cX3_certificates 1 = .ok (.iconst 0, 1) := by decide +kernel
theorem dX3_certificates_2 : decode cX3_certificates 2 = .ok (.putfield 50, 3) := by decide +kernel
theorem dX3_certificates_5 : decode cX3_certificates 5 = .ok (.aload_n 0, 1) := by decide +kernel
theorem dX3_certificates_6 : decode cX3_certificates 6 = .ok (.getfield 96, 3) := by decide +kernel
theorem dX3_certificates_9 : decode cX3_certificates 9 = .ok (.ireturn, 1) := by decide +kernel
theorem dL_bring_0 : decode cL_bring 0 = .ok (.aload 4, 2) := by decide +kernel
theorem dL_bring_2 : decode cL_bring 2 = .ok (.iconst 0, 1) := by decide +kernel
theorem dL_bring_3 : decode cL_bring 3 = .ok (.aload_n 0, 1) := by decide +kernel
theorem dL_bring_4 : decode cL_bring 4 = .ok (.iload_n 1, 1) := by decide +kernel
theorem dL_bring_5 : decode cL_bring 5 = .ok (.iload_n 2, 1) := by decide +kernel
theorem dL_bring_6 : decode cL_bring 6 = .ok (.iload_n 3, 1) := by decide +kernel
theorem dL_bring_7 : decode cL_bring 7 = .ok (.invokevirtual 7, 3) := by decide +kernel
theorem dL_bring_10 : decode cL_bring 10 = .ok (.i2l, 1) := by decide +kernel
theorem dL_bring_11 : decode cL_bring 11 = .ok (.lastore, 1) := by decide +kernel
theorem dL_bring_12 : decode cL_bring 12 = .ok (.goto 15, 3) := by decide +kernel
theorem dL_bring_15 : decode cL_bring 15 = .ok (.astore 5, 2) := by decide +kernel
theorem dL_bring_17 : decode cL_bring 17 = .ok (.iconst 1, 1) := by decide +kernel
theorem dL_bring_18 : decode cL_bring 18 = .ok (.ireturn, 1) := by decide +kernel
theorem dL_bring_19 : decode cL_bring 19 = .ok (.astore 5, 2) := by decide +kernel
theorem dL_bring_21 : decode cL_bring 21 = .ok (.iconst 2, 1) := by decide +kernel
theorem dL_bring_22 : decode cL_bring 22 = .ok (.ireturn, 1) := by decide +kernel
theorem dL_bring_23 : decode cL_bring 23 = .ok (.astore 5, 2) := by decide +kernel
theorem dL_bring_25 : decode cL_bring 25 = .ok (.iconst 3, 1) := by decide +kernel
theorem dL_bring_26 : decode cL_bring 26 = .ok (.ireturn, 1) := by decide +kernel
theorem dL_bring_27 : decode cL_bring 27 = .ok (.iconst 0, 1) := by decide +kernel
theorem dL_bring_28 : decode cL_bring 28 = .ok (.ireturn, 1) := by decide +kernel
theorem dL_offer_0 : decode cL_offer 0 = .ok (.aload_n 3, 1) := by decide +kernel
theorem dL_offer_1 : decode cL_offer 1 = .ok (.iconst 0, 1) := by decide +kernel
theorem dL_offer_2 : decode cL_offer 2 = .ok (.aload_n 0, 1) := by decide +kernel
theorem dL_offer_3 : decode cL_offer 3 = .ok (.iload_n 1, 1) := by decide +kernel
theorem dL_offer_4 : decode cL_offer 4 = .ok (.iload_n 2, 1) := by decide +kernel
theorem dL_offer_5 : decode cL_offer 5 = .ok (.invokevirtual 19, 3) := by decide +kernel
theorem dL_offer_8 : decode cL_offer 8 = .ok (.i2l, 1) := by decide +kernel
theorem dL_offer_9 : decode cL_offer 9 = .ok (.lastore, 1) := by decide +kernel
theorem dL_offer_10 : decode cL_offer 10 = .ok (.goto 15, 3) := by decide +kernel
theorem dL_offer_13 : decode cL_offer 13 = .ok (.astore 4, 2) := by decide +kernel
theorem dL_offer_15 : decode cL_offer 15 = .ok (.iconst 1, 1) := by decide +kernel
theorem dL_offer_16 : decode cL_offer 16 = .ok (.ireturn, 1) := by decide +kernel
theorem dL_offer_17 : decode cL_offer 17 = .ok (.astore 4, 2) := by decide +kernel
theorem dL_offer_19 : decode cL_offer 19 = .ok (.iconst 2, 1) := by decide +kernel
theorem dL_offer_20 : decode cL_offer 20 = .ok (.ireturn, 1) := by decide +kernel
theorem dL_offer_21 : decode cL_offer 21 = .ok (.astore 4, 2) := by decide +kernel
theorem dL_offer_23 : decode cL_offer 23 = .ok (.iconst 3, 1) := by decide +kernel
theorem dL_offer_24 : decode cL_offer 24 = .ok (.ireturn, 1) := by decide +kernel
theorem dL_offer_25 : decode cL_offer 25 = .ok (.iconst 0, 1) := by decide +kernel
theorem dL_offer_26 : decode cL_offer 26 = .ok (.ireturn, 1) := by decide +kernel
theorem dL_answer_0 : decode cL_answer 0 = .ok (.aload_n 3, 1) := by decide +kernel
theorem dL_answer_1 : decode cL_answer 1 = .ok (.iconst 0, 1) := by decide +kernel
theorem dL_answer_2 : decode cL_answer 2 = .ok (.aload_n 0, 1) := by decide +kernel
theorem dL_answer_3 : decode cL_answer 3 = .ok (.iload_n 1, 1) := by decide +kernel
theorem dL_answer_4 : decode cL_answer 4 = .ok (.iload_n 2, 1) := by decide +kernel
theorem dL_answer_5 : decode cL_answer 5 = .ok (.invokevirtual 23, 3) := by decide +kernel
theorem dL_answer_8 : decode cL_answer 8 = .ok (.i2l, 1) := by decide +kernel
theorem dL_answer_9 : decode cL_answer 9 = .ok (.lastore, 1) := by decide +kernel
theorem dL_answer_10 : decode cL_answer 10 = .ok (.goto 11, 3) := by decide +kernel
theorem dL_answer_13 : decode cL_answer 13 = .ok (.astore 4, 2) := by decide +kernel
theorem dL_answer_15 : decode cL_answer 15 = .ok (.iconst 1, 1) := by decide +kernel
theorem dL_answer_16 : decode cL_answer 16 = .ok (.ireturn, 1) := by decide +kernel
theorem dL_answer_17 : decode cL_answer 17 = .ok (.astore 4, 2) := by decide +kernel
theorem dL_answer_19 : decode cL_answer 19 = .ok (.iconst 2, 1) := by decide +kernel
theorem dL_answer_20 : decode cL_answer 20 = .ok (.ireturn, 1) := by decide +kernel
theorem dL_answer_21 : decode cL_answer 21 = .ok (.iconst 0, 1) := by decide +kernel
theorem dL_answer_22 : decode cL_answer 22 = .ok (.ireturn, 1) := by decide +kernel
theorem dL_pack_0 : decode cL_pack 0 = .ok (.aload_n 3, 1) := by decide +kernel
theorem dL_pack_1 : decode cL_pack 1 = .ok (.iconst 0, 1) := by decide +kernel
theorem dL_pack_2 : decode cL_pack 2 = .ok (.aload_n 0, 1) := by decide +kernel
theorem dL_pack_3 : decode cL_pack 3 = .ok (.iload_n 1, 1) := by decide +kernel
theorem dL_pack_4 : decode cL_pack 4 = .ok (.iload_n 2, 1) := by decide +kernel
theorem dL_pack_5 : decode cL_pack 5 = .ok (.invokevirtual 27, 3) := by decide +kernel
theorem dL_pack_8 : decode cL_pack 8 = .ok (.i2l, 1) := by decide +kernel
theorem dL_pack_9 : decode cL_pack 9 = .ok (.lastore, 1) := by decide +kernel
theorem dL_pack_10 : decode cL_pack 10 = .ok (.goto 11, 3) := by decide +kernel
theorem dL_pack_13 : decode cL_pack 13 = .ok (.astore 4, 2) := by decide +kernel
theorem dL_pack_15 : decode cL_pack 15 = .ok (.iconst 1, 1) := by decide +kernel
theorem dL_pack_16 : decode cL_pack 16 = .ok (.ireturn, 1) := by decide +kernel
theorem dL_pack_17 : decode cL_pack 17 = .ok (.astore 4, 2) := by decide +kernel
theorem dL_pack_19 : decode cL_pack 19 = .ok (.iconst 2, 1) := by decide +kernel
theorem dL_pack_20 : decode cL_pack 20 = .ok (.ireturn, 1) := by decide +kernel
theorem dL_pack_21 : decode cL_pack 21 = .ok (.iconst 0, 1) := by decide +kernel
theorem dL_pack_22 : decode cL_pack 22 = .ok (.ireturn, 1) := by decide +kernel
theorem dL_unpack_0 : decode cL_unpack 0 = .ok (.aload_n 2, 1) := by decide +kernel
theorem dL_unpack_1 : decode cL_unpack 1 = .ok (.iconst 0, 1) := by decide +kernel
theorem dL_unpack_2 : decode cL_unpack 2 = .ok (.aload_n 0, 1) := by decide +kernel
theorem dL_unpack_3 : decode cL_unpack 3 = .ok (.iload_n 1, 1) := by decide +kernel
theorem dL_unpack_4 : decode cL_unpack 4 = .ok (.invokevirtual 30, 3) := by decide +kernel
theorem dL_unpack_7 : decode cL_unpack 7 = .ok (.i2l, 1) := by decide +kernel
theorem dL_unpack_8 : decode cL_unpack 8 = .ok (.lastore, 1) := by decide +kernel
theorem dL_unpack_9 : decode cL_unpack 9 = .ok (.goto 9, 3) := by decide +kernel
theorem dL_unpack_12 : decode cL_unpack 12 = .ok (.astore_n 3, 1) := by decide +kernel
theorem dL_unpack_13 : decode cL_unpack 13 = .ok (.iconst 1, 1) := by decide +kernel
theorem dL_unpack_14 : decode cL_unpack 14 = .ok (.ireturn, 1) := by decide +kernel
theorem dL_unpack_15 : decode cL_unpack 15 = .ok (.astore_n 3, 1) := by decide +kernel
theorem dL_unpack_16 : decode cL_unpack 16 = .ok (.iconst 2, 1) := by decide +kernel
theorem dL_unpack_17 : decode cL_unpack 17 = .ok (.ireturn, 1) := by decide +kernel
theorem dL_unpack_18 : decode cL_unpack 18 = .ok (.iconst 0, 1) := by decide +kernel
theorem dL_unpack_19 : decode cL_unpack 19 = .ok (.ireturn, 1) := by decide +kernel
theorem dL_seal_0 : decode cL_seal 0 = .ok (.aload_n 2, 1) := by decide +kernel
theorem dL_seal_1 : decode cL_seal 1 = .ok (.iconst 0, 1) := by decide +kernel
theorem dL_seal_2 : decode cL_seal 2 = .ok (.aload_n 0, 1) := by decide +kernel
theorem dL_seal_3 : decode cL_seal 3 = .ok (.iload_n 1, 1) := by decide +kernel
theorem dL_seal_4 : decode cL_seal 4 = .ok (.invokevirtual 34, 3) := by decide +kernel
theorem dL_seal_7 : decode cL_seal 7 = .ok (.i2l, 1) := by decide +kernel
theorem dL_seal_8 : decode cL_seal 8 = .ok (.lastore, 1) := by decide +kernel
theorem dL_seal_9 : decode cL_seal 9 = .ok (.goto 9, 3) := by decide +kernel
theorem dL_seal_12 : decode cL_seal 12 = .ok (.astore_n 3, 1) := by decide +kernel
theorem dL_seal_13 : decode cL_seal 13 = .ok (.iconst 1, 1) := by decide +kernel
theorem dL_seal_14 : decode cL_seal 14 = .ok (.ireturn, 1) := by decide +kernel
theorem dL_seal_15 : decode cL_seal 15 = .ok (.astore_n 3, 1) := by decide +kernel
theorem dL_seal_16 : decode cL_seal 16 = .ok (.iconst 2, 1) := by decide +kernel
theorem dL_seal_17 : decode cL_seal 17 = .ok (.ireturn, 1) := by decide +kernel
theorem dL_seal_18 : decode cL_seal 18 = .ok (.iconst 0, 1) := by decide +kernel
theorem dL_seal_19 : decode cL_seal 19 = .ok (.ireturn, 1) := by decide +kernel
theorem dL_open_0 : decode cL_open 0 = .ok (.aload_n 3, 1) := by decide +kernel
theorem dL_open_1 : decode cL_open 1 = .ok (.iconst 0, 1) := by decide +kernel
theorem dL_open_2 : decode cL_open 2 = .ok (.aload_n 0, 1) := by decide +kernel
theorem dL_open_3 : decode cL_open 3 = .ok (.iload_n 1, 1) := by decide +kernel
theorem dL_open_4 : decode cL_open 4 = .ok (.iload_n 2, 1) := by decide +kernel
theorem dL_open_5 : decode cL_open 5 = .ok (.invokevirtual 37, 3) := by decide +kernel
theorem dL_open_8 : decode cL_open 8 = .ok (.i2l, 1) := by decide +kernel
theorem dL_open_9 : decode cL_open 9 = .ok (.lastore, 1) := by decide +kernel
theorem dL_open_10 : decode cL_open 10 = .ok (.goto 15, 3) := by decide +kernel
theorem dL_open_13 : decode cL_open 13 = .ok (.astore 4, 2) := by decide +kernel
theorem dL_open_15 : decode cL_open 15 = .ok (.iconst 1, 1) := by decide +kernel
theorem dL_open_16 : decode cL_open 16 = .ok (.ireturn, 1) := by decide +kernel
theorem dL_open_17 : decode cL_open 17 = .ok (.astore 4, 2) := by decide +kernel
theorem dL_open_19 : decode cL_open 19 = .ok (.iconst 2, 1) := by decide +kernel
theorem dL_open_20 : decode cL_open 20 = .ok (.ireturn, 1) := by decide +kernel
theorem dL_open_21 : decode cL_open 21 = .ok (.astore 4, 2) := by decide +kernel
theorem dL_open_23 : decode cL_open 23 = .ok (.iconst 3, 1) := by decide +kernel
theorem dL_open_24 : decode cL_open 24 = .ok (.ireturn, 1) := by decide +kernel
theorem dL_open_25 : decode cL_open 25 = .ok (.iconst 0, 1) := by decide +kernel
theorem dL_open_26 : decode cL_open 26 = .ok (.ireturn, 1) := by decide +kernel
theorem dL_carry_0 : decode cL_carry 0 = .ok (.aload_n 3, 1) := by decide +kernel
theorem dL_carry_1 : decode cL_carry 1 = .ok (.iconst 0, 1) := by decide +kernel
theorem dL_carry_2 : decode cL_carry 2 = .ok (.aload_n 0, 1) := by decide +kernel
theorem dL_carry_3 : decode cL_carry 3 = .ok (.iload_n 1, 1) := by decide +kernel
theorem dL_carry_4 : decode cL_carry 4 = .ok (.iload_n 2, 1) := by decide +kernel
theorem dL_carry_5 : decode cL_carry 5 = .ok (.invokevirtual 40, 3) := by decide +kernel
theorem dL_carry_8 : decode cL_carry 8 = .ok (.i2l, 1) := by decide +kernel
theorem dL_carry_9 : decode cL_carry 9 = .ok (.lastore, 1) := by decide +kernel
theorem dL_carry_10 : decode cL_carry 10 = .ok (.goto 15, 3) := by decide +kernel
theorem dL_carry_13 : decode cL_carry 13 = .ok (.astore 4, 2) := by decide +kernel
theorem dL_carry_15 : decode cL_carry 15 = .ok (.iconst 1, 1) := by decide +kernel
theorem dL_carry_16 : decode cL_carry 16 = .ok (.ireturn, 1) := by decide +kernel
theorem dL_carry_17 : decode cL_carry 17 = .ok (.astore 4, 2) := by decide +kernel
theorem dL_carry_19 : decode cL_carry 19 = .ok (.iconst 2, 1) := by decide +kernel
theorem dL_carry_20 : decode cL_carry 20 = .ok (.ireturn, 1) := by decide +kernel
theorem dL_carry_21 : decode cL_carry 21 = .ok (.astore 4, 2) := by decide +kernel
theorem dL_carry_23 : decode cL_carry 23 = .ok (.iconst 3, 1) := by decide +kernel
theorem dL_carry_24 : decode cL_carry 24 = .ok (.ireturn, 1) := by decide +kernel
theorem dL_carry_25 : decode cL_carry 25 = .ok (.iconst 0, 1) := by decide +kernel
theorem dL_carry_26 : decode cL_carry 26 = .ok (.ireturn, 1) := by decide +kernel
theorem dL_wipe_0 : decode cL_wipe 0 = .ok (.aload 4, 2) := by decide +kernel
theorem dL_wipe_2 : decode cL_wipe 2 = .ok (.iconst 0, 1) := by decide +kernel
theorem dL_wipe_3 : decode cL_wipe 3 = .ok (.aload_n 0, 1) := by decide +kernel
theorem dL_wipe_4 : decode cL_wipe 4 = .ok (.iload_n 1, 1) := by decide +kernel
theorem dL_wipe_5 : decode cL_wipe 5 = .ok (.iload_n 2, 1) := by decide +kernel
theorem dL_wipe_6 : decode cL_wipe 6 = .ok (.iload_n 3, 1) := by decide +kernel
theorem dL_wipe_7 : decode cL_wipe 7 = .ok (.invokevirtual 43, 3) := by decide +kernel
theorem dL_wipe_10 : decode cL_wipe 10 = .ok (.i2l, 1) := by decide +kernel
theorem dL_wipe_11 : decode cL_wipe 11 = .ok (.lastore, 1) := by decide +kernel
theorem dL_wipe_12 : decode cL_wipe 12 = .ok (.goto 15, 3) := by decide +kernel
theorem dL_wipe_15 : decode cL_wipe 15 = .ok (.astore 5, 2) := by decide +kernel
theorem dL_wipe_17 : decode cL_wipe 17 = .ok (.iconst 1, 1) := by decide +kernel
theorem dL_wipe_18 : decode cL_wipe 18 = .ok (.ireturn, 1) := by decide +kernel
theorem dL_wipe_19 : decode cL_wipe 19 = .ok (.astore 5, 2) := by decide +kernel
theorem dL_wipe_21 : decode cL_wipe 21 = .ok (.iconst 2, 1) := by decide +kernel
theorem dL_wipe_22 : decode cL_wipe 22 = .ok (.ireturn, 1) := by decide +kernel
theorem dL_wipe_23 : decode cL_wipe 23 = .ok (.astore 5, 2) := by decide +kernel
theorem dL_wipe_25 : decode cL_wipe 25 = .ok (.iconst 3, 1) := by decide +kernel
theorem dL_wipe_26 : decode cL_wipe 26 = .ok (.ireturn, 1) := by decide +kernel
theorem dL_wipe_27 : decode cL_wipe 27 = .ok (.iconst 0, 1) := by decide +kernel
theorem dL_wipe_28 : decode cL_wipe 28 = .ok (.ireturn, 1) := by decide +kernel
theorem dL_smash_0 : decode cL_smash 0 = .ok (.aload_n 3, 1) := by decide +kernel
theorem dL_smash_1 : decode cL_smash 1 = .ok (.iconst 0, 1) := by decide +kernel
theorem dL_smash_2 : decode cL_smash 2 = .ok (.aload_n 0, 1) := by decide +kernel
theorem dL_smash_3 : decode cL_smash 3 = .ok (.iload_n 1, 1) := by decide +kernel
theorem dL_smash_4 : decode cL_smash 4 = .ok (.iload_n 2, 1) := by decide +kernel
theorem dL_smash_5 : decode cL_smash 5 = .ok (.invokevirtual 46, 3) := by decide +kernel
theorem dL_smash_8 : decode cL_smash 8 = .ok (.i2l, 1) := by decide +kernel
theorem dL_smash_9 : decode cL_smash 9 = .ok (.lastore, 1) := by decide +kernel
theorem dL_smash_10 : decode cL_smash 10 = .ok (.goto 15, 3) := by decide +kernel
theorem dL_smash_13 : decode cL_smash 13 = .ok (.astore 4, 2) := by decide +kernel
theorem dL_smash_15 : decode cL_smash 15 = .ok (.iconst 1, 1) := by decide +kernel
theorem dL_smash_16 : decode cL_smash 16 = .ok (.ireturn, 1) := by decide +kernel
theorem dL_smash_17 : decode cL_smash 17 = .ok (.astore 4, 2) := by decide +kernel
theorem dL_smash_19 : decode cL_smash 19 = .ok (.iconst 2, 1) := by decide +kernel
theorem dL_smash_20 : decode cL_smash 20 = .ok (.ireturn, 1) := by decide +kernel
theorem dL_smash_21 : decode cL_smash 21 = .ok (.astore 4, 2) := by decide +kernel
theorem dL_smash_23 : decode cL_smash 23 = .ok (.iconst 3, 1) := by decide +kernel
theorem dL_smash_24 : decode cL_smash 24 = .ok (.ireturn, 1) := by decide +kernel
theorem dL_smash_25 : decode cL_smash 25 = .ok (.iconst 0, 1) := by decide +kernel
theorem dL_smash_26 : decode cL_smash 26 = .ok (.ireturn, 1) := by decide +kernel
theorem dL_check_0 : decode cL_check 0 = .ok (.aload 4, 2) := by decide +kernel
theorem dL_check_2 : decode cL_check 2 = .ok (.iconst 0, 1) := by decide +kernel
theorem dL_check_3 : decode cL_check 3 = .ok (.aload_n 0, 1) := by decide +kernel
theorem dL_check_4 : decode cL_check 4 = .ok (.iload_n 1, 1) := by decide +kernel
theorem dL_check_5 : decode cL_check 5 = .ok (.iload_n 2, 1) := by decide +kernel
theorem dL_check_6 : decode cL_check 6 = .ok (.iload_n 3, 1) := by decide +kernel
theorem dL_check_7 : decode cL_check 7 = .ok (.invokevirtual 49, 3) := by decide +kernel
theorem dL_check_10 : decode cL_check 10 = .ok (.i2l, 1) := by decide +kernel
theorem dL_check_11 : decode cL_check 11 = .ok (.lastore, 1) := by decide +kernel
theorem dL_check_12 : decode cL_check 12 = .ok (.goto 15, 3) := by decide +kernel
theorem dL_check_15 : decode cL_check 15 = .ok (.astore 5, 2) := by decide +kernel
theorem dL_check_17 : decode cL_check 17 = .ok (.iconst 1, 1) := by decide +kernel
theorem dL_check_18 : decode cL_check 18 = .ok (.ireturn, 1) := by decide +kernel
theorem dL_check_19 : decode cL_check 19 = .ok (.astore 5, 2) := by decide +kernel
theorem dL_check_21 : decode cL_check 21 = .ok (.iconst 2, 1) := by decide +kernel
theorem dL_check_22 : decode cL_check 22 = .ok (.ireturn, 1) := by decide +kernel
theorem dL_check_23 : decode cL_check 23 = .ok (.astore 5, 2) := by decide +kernel
theorem dL_check_25 : decode cL_check 25 = .ok (.iconst 3, 1) := by decide +kernel
theorem dL_check_26 : decode cL_check 26 = .ok (.ireturn, 1) := by decide +kernel
theorem dL_check_27 : decode cL_check 27 = .ok (.iconst 0, 1) := by decide +kernel
theorem dL_check_28 : decode cL_check 28 = .ok (.ireturn, 1) := by decide +kernel
theorem dL_lose_0 : decode cL_lose 0 = .ok (.aload_n 2, 1) := by decide +kernel
theorem dL_lose_1 : decode cL_lose 1 = .ok (.iconst 0, 1) := by decide +kernel
theorem dL_lose_2 : decode cL_lose 2 = .ok (.aload_n 0, 1) := by decide +kernel
theorem dL_lose_3 : decode cL_lose 3 = .ok (.iload_n 1, 1) := by decide +kernel
theorem dL_lose_4 : decode cL_lose 4 = .ok (.invokevirtual 53, 3) := by decide +kernel
theorem dL_lose_7 : decode cL_lose 7 = .ok (.i2l, 1) := by decide +kernel
theorem dL_lose_8 : decode cL_lose 8 = .ok (.lastore, 1) := by decide +kernel
theorem dL_lose_9 : decode cL_lose 9 = .ok (.goto 9, 3) := by decide +kernel
theorem dL_lose_12 : decode cL_lose 12 = .ok (.astore_n 3, 1) := by decide +kernel
theorem dL_lose_13 : decode cL_lose 13 = .ok (.iconst 1, 1) := by decide +kernel
theorem dL_lose_14 : decode cL_lose 14 = .ok (.ireturn, 1) := by decide +kernel
theorem dL_lose_15 : decode cL_lose 15 = .ok (.astore_n 3, 1) := by decide +kernel
theorem dL_lose_16 : decode cL_lose 16 = .ok (.iconst 2, 1) := by decide +kernel
theorem dL_lose_17 : decode cL_lose 17 = .ok (.ireturn, 1) := by decide +kernel
theorem dL_lose_18 : decode cL_lose 18 = .ok (.iconst 0, 1) := by decide +kernel
theorem dL_lose_19 : decode cL_lose 19 = .ok (.ireturn, 1) := by decide +kernel
theorem dL_find_0 : decode cL_find 0 = .ok (.aload_n 2, 1) := by decide +kernel
theorem dL_find_1 : decode cL_find 1 = .ok (.iconst 0, 1) := by decide +kernel
theorem dL_find_2 : decode cL_find 2 = .ok (.aload_n 0, 1) := by decide +kernel
theorem dL_find_3 : decode cL_find 3 = .ok (.iload_n 1, 1) := by decide +kernel
theorem dL_find_4 : decode cL_find 4 = .ok (.invokevirtual 56, 3) := by decide +kernel
theorem dL_find_7 : decode cL_find 7 = .ok (.i2l, 1) := by decide +kernel
theorem dL_find_8 : decode cL_find 8 = .ok (.lastore, 1) := by decide +kernel
theorem dL_find_9 : decode cL_find 9 = .ok (.goto 9, 3) := by decide +kernel
theorem dL_find_12 : decode cL_find 12 = .ok (.astore_n 3, 1) := by decide +kernel
theorem dL_find_13 : decode cL_find 13 = .ok (.iconst 1, 1) := by decide +kernel
theorem dL_find_14 : decode cL_find 14 = .ok (.ireturn, 1) := by decide +kernel
theorem dL_find_15 : decode cL_find 15 = .ok (.astore_n 3, 1) := by decide +kernel
theorem dL_find_16 : decode cL_find 16 = .ok (.iconst 2, 1) := by decide +kernel
theorem dL_find_17 : decode cL_find 17 = .ok (.ireturn, 1) := by decide +kernel
theorem dL_find_18 : decode cL_find 18 = .ok (.iconst 0, 1) := by decide +kernel
theorem dL_find_19 : decode cL_find 19 = .ok (.ireturn, 1) := by decide +kernel
theorem dL_certify_0 : decode cL_certify 0 = .ok (.aload_n 2, 1) := by decide +kernel
theorem dL_certify_1 : decode cL_certify 1 = .ok (.iconst 0, 1) := by decide +kernel
theorem dL_certify_2 : decode cL_certify 2 = .ok (.aload_n 0, 1) := by decide +kernel
theorem dL_certify_3 : decode cL_certify 3 = .ok (.iload_n 1, 1) := by decide +kernel
theorem dL_certify_4 : decode cL_certify 4 = .ok (.invokevirtual 59, 3) := by decide +kernel
theorem dL_certify_7 : decode cL_certify 7 = .ok (.i2l, 1) := by decide +kernel
theorem dL_certify_8 : decode cL_certify 8 = .ok (.lastore, 1) := by decide +kernel
theorem dL_certify_9 : decode cL_certify 9 = .ok (.goto 9, 3) := by decide +kernel
theorem dL_certify_12 : decode cL_certify 12 = .ok (.astore_n 3, 1) := by decide +kernel
theorem dL_certify_13 : decode cL_certify 13 = .ok (.iconst 1, 1) := by decide +kernel
theorem dL_certify_14 : decode cL_certify 14 = .ok (.ireturn, 1) := by decide +kernel
theorem dL_certify_15 : decode cL_certify 15 = .ok (.astore_n 3, 1) := by decide +kernel
theorem dL_certify_16 : decode cL_certify 16 = .ok (.iconst 2, 1) := by decide +kernel
theorem dL_certify_17 : decode cL_certify 17 = .ok (.ireturn, 1) := by decide +kernel
theorem dL_certify_18 : decode cL_certify 18 = .ok (.iconst 0, 1) := by decide +kernel
theorem dL_certify_19 : decode cL_certify 19 = .ok (.ireturn, 1) := by decide +kernel
theorem dL_keeperOf_0 : decode cL_keeperOf 0 = .ok (.aload_n 2, 1) := by decide +kernel
theorem dL_keeperOf_1 : decode cL_keeperOf 1 = .ok (.iconst 0, 1) := by decide +kernel
theorem dL_keeperOf_2 : decode cL_keeperOf 2 = .ok (.aload_n 0, 1) := by decide +kernel
theorem dL_keeperOf_3 : decode cL_keeperOf 3 = .ok (.iload_n 1, 1) := by decide +kernel
theorem dL_keeperOf_4 : decode cL_keeperOf 4 = .ok (.invokevirtual 64, 3) := by decide +kernel
theorem dL_keeperOf_7 : decode cL_keeperOf 7 = .ok (.i2l, 1) := by decide +kernel
theorem dL_keeperOf_8 : decode cL_keeperOf 8 = .ok (.lastore, 1) := by decide +kernel
theorem dL_keeperOf_9 : decode cL_keeperOf 9 = .ok (.goto 6, 3) := by decide +kernel
theorem dL_keeperOf_12 : decode cL_keeperOf 12 = .ok (.astore_n 3, 1) := by decide +kernel
theorem dL_keeperOf_13 : decode cL_keeperOf 13 = .ok (.iconst 1, 1) := by decide +kernel
theorem dL_keeperOf_14 : decode cL_keeperOf 14 = .ok (.ireturn, 1) := by decide +kernel
theorem dL_keeperOf_15 : decode cL_keeperOf 15 = .ok (.iconst 0, 1) := by decide +kernel
theorem dL_keeperOf_16 : decode cL_keeperOf 16 = .ok (.ireturn, 1) := by decide +kernel
theorem dL_keeperByLog_0 : decode cL_keeperByLog 0 = .ok (.aload_n 2, 1) := by decide +kernel
theorem dL_keeperByLog_1 : decode cL_keeperByLog 1 = .ok (.iconst 0, 1) := by decide +kernel
theorem dL_keeperByLog_2 : decode cL_keeperByLog 2 = .ok (.aload_n 0, 1) := by decide +kernel
theorem dL_keeperByLog_3 : decode cL_keeperByLog 3 = .ok (.iload_n 1, 1) := by decide +kernel
theorem dL_keeperByLog_4 : decode cL_keeperByLog 4 = .ok (.invokevirtual 67, 3) := by decide +kernel
theorem dL_keeperByLog_7 : decode cL_keeperByLog 7 = .ok (.i2l, 1) := by decide +kernel
theorem dL_keeperByLog_8 : decode cL_keeperByLog 8 = .ok (.lastore, 1) := by decide +kernel
theorem dL_keeperByLog_9 : decode cL_keeperByLog 9 = .ok (.goto 6, 3) := by decide +kernel
theorem dL_keeperByLog_12 : decode cL_keeperByLog 12 = .ok (.astore_n 3, 1) := by decide +kernel
theorem dL_keeperByLog_13 : decode cL_keeperByLog 13 = .ok (.iconst 1, 1) := by decide +kernel
theorem dL_keeperByLog_14 : decode cL_keeperByLog 14 = .ok (.ireturn, 1) := by decide +kernel
theorem dL_keeperByLog_15 : decode cL_keeperByLog 15 = .ok (.iconst 0, 1) := by decide +kernel
theorem dL_keeperByLog_16 : decode cL_keeperByLog 16 = .ok (.ireturn, 1) := by decide +kernel
theorem dL_crateOf_0 : decode cL_crateOf 0 = .ok (.aload_n 2, 1) := by decide +kernel
theorem dL_crateOf_1 : decode cL_crateOf 1 = .ok (.iconst 0, 1) := by decide +kernel
theorem dL_crateOf_2 : decode cL_crateOf 2 = .ok (.aload_n 0, 1) := by decide +kernel
theorem dL_crateOf_3 : decode cL_crateOf 3 = .ok (.iload_n 1, 1) := by decide +kernel
theorem dL_crateOf_4 : decode cL_crateOf 4 = .ok (.invokevirtual 70, 3) := by decide +kernel
theorem dL_crateOf_7 : decode cL_crateOf 7 = .ok (.i2l, 1) := by decide +kernel
theorem dL_crateOf_8 : decode cL_crateOf 8 = .ok (.lastore, 1) := by decide +kernel
theorem dL_crateOf_9 : decode cL_crateOf 9 = .ok (.goto 6, 3) := by decide +kernel
theorem dL_crateOf_12 : decode cL_crateOf 12 = .ok (.astore_n 3, 1) := by decide +kernel
theorem dL_crateOf_13 : decode cL_crateOf 13 = .ok (.iconst 1, 1) := by decide +kernel
theorem dL_crateOf_14 : decode cL_crateOf 14 = .ok (.ireturn, 1) := by decide +kernel
theorem dL_crateOf_15 : decode cL_crateOf 15 = .ok (.iconst 0, 1) := by decide +kernel
theorem dL_crateOf_16 : decode cL_crateOf 16 = .ok (.ireturn, 1) := by decide +kernel
theorem dL_stateOf_0 : decode cL_stateOf 0 = .ok (.aload_n 2, 1) := by decide +kernel
theorem dL_stateOf_1 : decode cL_stateOf 1 = .ok (.iconst 0, 1) := by decide +kernel
theorem dL_stateOf_2 : decode cL_stateOf 2 = .ok (.aload_n 0, 1) := by decide +kernel
theorem dL_stateOf_3 : decode cL_stateOf 3 = .ok (.iload_n 1, 1) := by decide +kernel
theorem dL_stateOf_4 : decode cL_stateOf 4 = .ok (.invokevirtual 73, 3) := by decide +kernel
theorem dL_stateOf_7 : decode cL_stateOf 7 = .ok (.i2l, 1) := by decide +kernel
theorem dL_stateOf_8 : decode cL_stateOf 8 = .ok (.lastore, 1) := by decide +kernel
theorem dL_stateOf_9 : decode cL_stateOf 9 = .ok (.goto 6, 3) := by decide +kernel
theorem dL_stateOf_12 : decode cL_stateOf 12 = .ok (.astore_n 3, 1) := by decide +kernel
theorem dL_stateOf_13 : decode cL_stateOf 13 = .ok (.iconst 1, 1) := by decide +kernel
theorem dL_stateOf_14 : decode cL_stateOf 14 = .ok (.ireturn, 1) := by decide +kernel
theorem dL_stateOf_15 : decode cL_stateOf 15 = .ok (.iconst 0, 1) := by decide +kernel
theorem dL_stateOf_16 : decode cL_stateOf 16 = .ok (.ireturn, 1) := by decide +kernel
theorem dL_isDone_0 : decode cL_isDone 0 = .ok (.aload_n 2, 1) := by decide +kernel
theorem dL_isDone_1 : decode cL_isDone 1 = .ok (.iconst 0, 1) := by decide +kernel
theorem dL_isDone_2 : decode cL_isDone 2 = .ok (.aload_n 0, 1) := by decide +kernel
theorem dL_isDone_3 : decode cL_isDone 3 = .ok (.iload_n 1, 1) := by decide +kernel
theorem dL_isDone_4 : decode cL_isDone 4 = .ok (.invokevirtual 76, 3) := by decide +kernel
theorem dL_isDone_7 : decode cL_isDone 7 = .ok (.ifCond .eq 7, 3) := by decide +kernel
theorem dL_isDone_10 : decode cL_isDone 10 = .ok (.lconst 1, 1) := by decide +kernel
theorem dL_isDone_11 : decode cL_isDone 11 = .ok (.goto 4, 3) := by decide +kernel
theorem dL_isDone_14 : decode cL_isDone 14 = .ok (.lconst 0, 1) := by decide +kernel
theorem dL_isDone_15 : decode cL_isDone 15 = .ok (.lastore, 1) := by decide +kernel
theorem dL_isDone_16 : decode cL_isDone 16 = .ok (.goto 6, 3) := by decide +kernel
theorem dL_isDone_19 : decode cL_isDone 19 = .ok (.astore_n 3, 1) := by decide +kernel
theorem dL_isDone_20 : decode cL_isDone 20 = .ok (.iconst 1, 1) := by decide +kernel
theorem dL_isDone_21 : decode cL_isDone 21 = .ok (.ireturn, 1) := by decide +kernel
theorem dL_isDone_22 : decode cL_isDone 22 = .ok (.iconst 0, 1) := by decide +kernel
theorem dL_isDone_23 : decode cL_isDone 23 = .ok (.ireturn, 1) := by decide +kernel
theorem dL_offeredTo_0 : decode cL_offeredTo 0 = .ok (.aload_n 2, 1) := by decide +kernel
theorem dL_offeredTo_1 : decode cL_offeredTo 1 = .ok (.iconst 0, 1) := by decide +kernel
theorem dL_offeredTo_2 : decode cL_offeredTo 2 = .ok (.aload_n 0, 1) := by decide +kernel
theorem dL_offeredTo_3 : decode cL_offeredTo 3 = .ok (.iload_n 1, 1) := by decide +kernel
theorem dL_offeredTo_4 : decode cL_offeredTo 4 = .ok (.invokevirtual 80, 3) := by decide +kernel
theorem dL_offeredTo_7 : decode cL_offeredTo 7 = .ok (.i2l, 1) := by decide +kernel
theorem dL_offeredTo_8 : decode cL_offeredTo 8 = .ok (.lastore, 1) := by decide +kernel
theorem dL_offeredTo_9 : decode cL_offeredTo 9 = .ok (.goto 6, 3) := by decide +kernel
theorem dL_offeredTo_12 : decode cL_offeredTo 12 = .ok (.astore_n 3, 1) := by decide +kernel
theorem dL_offeredTo_13 : decode cL_offeredTo 13 = .ok (.iconst 1, 1) := by decide +kernel
theorem dL_offeredTo_14 : decode cL_offeredTo 14 = .ok (.ireturn, 1) := by decide +kernel
theorem dL_offeredTo_15 : decode cL_offeredTo 15 = .ok (.iconst 0, 1) := by decide +kernel
theorem dL_offeredTo_16 : decode cL_offeredTo 16 = .ok (.ireturn, 1) := by decide +kernel
theorem dL_certificateOf_0 : decode cL_certificateOf 0 = .ok (.aload_n 2, 1) := by decide +kernel
theorem dL_certificateOf_1 : decode cL_certificateOf 1 = .ok (.iconst 0, 1) := by decide +kernel
theorem dL_certificateOf_2 : decode cL_certificateOf 2 = .ok (.aload_n 0, 1) := by decide +kernel
theorem dL_certificateOf_3 : decode cL_certificateOf 3 = .ok (.iload_n 1, 1) := by decide +kernel
theorem dL_certificateOf_4 : decode cL_certificateOf 4 = .ok (.invokevirtual 83, 3) := by decide +kernel
theorem dL_certificateOf_7 : decode cL_certificateOf 7 = .ok (.i2l, 1) := by decide +kernel
theorem dL_certificateOf_8 : decode cL_certificateOf 8 = .ok (.lastore, 1) := by decide +kernel
theorem dL_certificateOf_9 : decode cL_certificateOf 9 = .ok (.goto 6, 3) := by decide +kernel
theorem dL_certificateOf_12 : decode cL_certificateOf 12 = .ok (.astore_n 3, 1) := by decide +kernel
theorem dL_certificateOf_13 : decode cL_certificateOf 13 = .ok (.iconst 1, 1) := by decide +kernel
theorem dL_certificateOf_14 : decode cL_certificateOf 14 = .ok (.ireturn, 1) := by decide +kernel
theorem dL_certificateOf_15 : decode cL_certificateOf 15 = .ok (.iconst 0, 1) := by decide +kernel
theorem dL_certificateOf_16 : decode cL_certificateOf 16 = .ok (.ireturn, 1) := by decide +kernel
theorem dL_crateKeeper_0 : decode cL_crateKeeper 0 = .ok (.aload_n 2, 1) := by decide +kernel
theorem dL_crateKeeper_1 : decode cL_crateKeeper 1 = .ok (.iconst 0, 1) := by decide +kernel
theorem dL_crateKeeper_2 : decode cL_crateKeeper 2 = .ok (.aload_n 0, 1) := by decide +kernel
theorem dL_crateKeeper_3 : decode cL_crateKeeper 3 = .ok (.iload_n 1, 1) := by decide +kernel
theorem dL_crateKeeper_4 : decode cL_crateKeeper 4 = .ok (.invokevirtual 86, 3) := by decide +kernel
theorem dL_crateKeeper_7 : decode cL_crateKeeper 7 = .ok (.i2l, 1) := by decide +kernel
theorem dL_crateKeeper_8 : decode cL_crateKeeper 8 = .ok (.lastore, 1) := by decide +kernel
theorem dL_crateKeeper_9 : decode cL_crateKeeper 9 = .ok (.goto 6, 3) := by decide +kernel
theorem dL_crateKeeper_12 : decode cL_crateKeeper 12 = .ok (.astore_n 3, 1) := by decide +kernel
theorem dL_crateKeeper_13 : decode cL_crateKeeper 13 = .ok (.iconst 1, 1) := by decide +kernel
theorem dL_crateKeeper_14 : decode cL_crateKeeper 14 = .ok (.ireturn, 1) := by decide +kernel
theorem dL_crateKeeper_15 : decode cL_crateKeeper 15 = .ok (.iconst 0, 1) := by decide +kernel
theorem dL_crateKeeper_16 : decode cL_crateKeeper 16 = .ok (.ireturn, 1) := by decide +kernel
theorem dL_sealOf_0 : decode cL_sealOf 0 = .ok (.aload_n 2, 1) := by decide +kernel
theorem dL_sealOf_1 : decode cL_sealOf 1 = .ok (.iconst 0, 1) := by decide +kernel
theorem dL_sealOf_2 : decode cL_sealOf 2 = .ok (.aload_n 0, 1) := by decide +kernel
theorem dL_sealOf_3 : decode cL_sealOf 3 = .ok (.iload_n 1, 1) := by decide +kernel
theorem dL_sealOf_4 : decode cL_sealOf 4 = .ok (.invokevirtual 89, 3) := by decide +kernel
theorem dL_sealOf_7 : decode cL_sealOf 7 = .ok (.i2l, 1) := by decide +kernel
theorem dL_sealOf_8 : decode cL_sealOf 8 = .ok (.lastore, 1) := by decide +kernel
theorem dL_sealOf_9 : decode cL_sealOf 9 = .ok (.goto 6, 3) := by decide +kernel
theorem dL_sealOf_12 : decode cL_sealOf 12 = .ok (.astore_n 3, 1) := by decide +kernel
theorem dL_sealOf_13 : decode cL_sealOf 13 = .ok (.iconst 1, 1) := by decide +kernel
theorem dL_sealOf_14 : decode cL_sealOf 14 = .ok (.ireturn, 1) := by decide +kernel
theorem dL_sealOf_15 : decode cL_sealOf 15 = .ok (.iconst 0, 1) := by decide +kernel
theorem dL_sealOf_16 : decode cL_sealOf 16 = .ok (.ireturn, 1) := by decide +kernel
theorem dL_has_0 : decode cL_has 0 = .ok (.aload_n 2, 1) := by decide +kernel
theorem dL_has_1 : decode cL_has 1 = .ok (.iconst 0, 1) := by decide +kernel
theorem dL_has_2 : decode cL_has 2 = .ok (.aload_n 0, 1) := by decide +kernel
theorem dL_has_3 : decode cL_has 3 = .ok (.iload_n 1, 1) := by decide +kernel
theorem dL_has_4 : decode cL_has 4 = .ok (.invokevirtual 92, 3) := by decide +kernel
theorem dL_has_7 : decode cL_has 7 = .ok (.i2l, 1) := by decide +kernel
theorem dL_has_8 : decode cL_has 8 = .ok (.lastore, 1) := by decide +kernel
theorem dL_has_9 : decode cL_has 9 = .ok (.goto 6, 3) := by decide +kernel
theorem dL_has_12 : decode cL_has 12 = .ok (.astore_n 3, 1) := by decide +kernel
theorem dL_has_13 : decode cL_has 13 = .ok (.iconst 1, 1) := by decide +kernel
theorem dL_has_14 : decode cL_has 14 = .ok (.ireturn, 1) := by decide +kernel
theorem dL_has_15 : decode cL_has 15 = .ok (.iconst 0, 1) := by decide +kernel
theorem dL_has_16 : decode cL_has 16 = .ok (.ireturn, 1) := by decide +kernel
theorem dL_law_0 : decode cL_law 0 = .ok (.new 8, 3) := by decide +kernel
theorem dL_law_3 : decode cL_law 3 = .ok (.dup, 1) := by decide +kernel
theorem dL_law_4 : decode cL_law 4 = .ok (.invokespecial 95, 3) := by decide +kernel
theorem dL_law_7 : decode cL_law 7 = .ok (.astore_n 1, 1) := by decide +kernel
theorem dL_law_8 : decode cL_law 8 = .ok (.new 96, 3) := by decide +kernel
theorem dL_law_11 : decode cL_law 11 = .ok (.dup, 1) := by decide +kernel
theorem dL_law_12 : decode cL_law 12 = .ok (.invokespecial 98, 3) := by decide +kernel
theorem dL_law_15 : decode cL_law 15 = .ok (.astore_n 2, 1) := by decide +kernel
theorem dL_law_16 : decode cL_law 16 = .ok (.iconst 1, 1) := by decide +kernel
theorem dL_law_17 : decode cL_law 17 = .ok (.newarray .long, 2) := by decide +kernel
theorem dL_law_19 : decode cL_law 19 = .ok (.astore_n 3, 1) := by decide +kernel
theorem dL_law_20 : decode cL_law 20 = .ok (.iconst 0, 1) := by decide +kernel
theorem dL_law_21 : decode cL_law 21 = .ok (.istore 4, 2) := by decide +kernel
theorem dL_law_23 : decode cL_law 23 = .ok (.iload 4, 2) := by decide +kernel
theorem dL_law_25 : decode cL_law 25 = .ok (.aload_n 0, 1) := by decide +kernel
theorem dL_law_26 : decode cL_law 26 = .ok (.arraylength, 1) := by decide +kernel
theorem dL_law_27 : decode cL_law 27 = .ok (.iconst 4, 1) := by decide +kernel
theorem dL_law_28 : decode cL_law 28 = .ok (.isub, 1) := by decide +kernel
theorem dL_law_29 : decode cL_law 29 = .ok (.if_icmp .gt 1737, 3) := by decide +kernel
theorem dL_law_32 : decode cL_law 32 = .ok (.aload_n 0, 1) := by decide +kernel
theorem dL_law_33 : decode cL_law 33 = .ok (.iload 4, 2) := by decide +kernel
theorem dL_law_35 : decode cL_law 35 = .ok (.iaload, 1) := by decide +kernel
theorem dL_law_36 : decode cL_law 36 = .ok (.bipush 31, 2) := by decide +kernel
theorem dL_law_38 : decode cL_law 38 = .ok (.iand, 1) := by decide +kernel
theorem dL_law_39 : decode cL_law 39 = .ok (.tableswitch 1721 0 28 #[129, 209, 277, 361, 429, 485, 541, 609, 677, 757, 825, 921, 977, 1033, 1089, 1102, 1158, 1214, 1270, 1326, 1389, 1445, 1501, 1557, 1613, 1669, 1682, 1695, 1708], 129) := by decide +kernel
theorem dL_law_168 : decode cL_law 168 = .ok (.aload_n 1, 1) := by decide +kernel
theorem dL_law_169 : decode cL_law 169 = .ok (.aload_n 0, 1) := by decide +kernel
theorem dL_law_170 : decode cL_law 170 = .ok (.iload 4, 2) := by decide +kernel
theorem dL_law_172 : decode cL_law 172 = .ok (.iconst 1, 1) := by decide +kernel
theorem dL_law_173 : decode cL_law 173 = .ok (.iadd, 1) := by decide +kernel
theorem dL_law_174 : decode cL_law 174 = .ok (.iaload, 1) := by decide +kernel
theorem dL_law_175 : decode cL_law 175 = .ok (.aload_n 0, 1) := by decide +kernel
theorem dL_law_176 : decode cL_law 176 = .ok (.iload 4, 2) := by decide +kernel
theorem dL_law_178 : decode cL_law 178 = .ok (.iconst 2, 1) := by decide +kernel
theorem dL_law_179 : decode cL_law 179 = .ok (.iadd, 1) := by decide +kernel
theorem dL_law_180 : decode cL_law 180 = .ok (.iaload, 1) := by decide +kernel
theorem dL_law_181 : decode cL_law 181 = .ok (.aload_n 0, 1) := by decide +kernel
theorem dL_law_182 : decode cL_law 182 = .ok (.iload 4, 2) := by decide +kernel
theorem dL_law_184 : decode cL_law 184 = .ok (.iconst 3, 1) := by decide +kernel
theorem dL_law_185 : decode cL_law 185 = .ok (.iadd, 1) := by decide +kernel
theorem dL_law_186 : decode cL_law 186 = .ok (.iaload, 1) := by decide +kernel
theorem dL_law_187 : decode cL_law 187 = .ok (.aload_n 3, 1) := by decide +kernel
theorem dL_law_188 : decode cL_law 188 = .ok (.invokestatic 99, 3) := by decide +kernel
theorem dL_law_191 : decode cL_law 191 = .ok (.istore 5, 2) := by decide +kernel
theorem dL_law_193 : decode cL_law 193 = .ok (.aload_n 2, 1) := by decide +kernel
theorem dL_law_194 : decode cL_law 194 = .ok (.aload_n 0, 1) := by decide +kernel
theorem dL_law_195 : decode cL_law 195 = .ok (.iload 4, 2) := by decide +kernel
theorem dL_law_197 : decode cL_law 197 = .ok (.iconst 1, 1) := by decide +kernel
theorem dL_law_198 : decode cL_law 198 = .ok (.iadd, 1) := by decide +kernel
theorem dL_law_199 : decode cL_law 199 = .ok (.iaload, 1) := by decide +kernel
theorem dL_law_200 : decode cL_law 200 = .ok (.aload_n 0, 1) := by decide +kernel
theorem dL_law_201 : decode cL_law 201 = .ok (.iload 4, 2) := by decide +kernel
theorem dL_law_203 : decode cL_law 203 = .ok (.iconst 2, 1) := by decide +kernel
theorem dL_law_204 : decode cL_law 204 = .ok (.iadd, 1) := by decide +kernel
theorem dL_law_205 : decode cL_law 205 = .ok (.iaload, 1) := by decide +kernel
theorem dL_law_206 : decode cL_law 206 = .ok (.aload_n 0, 1) := by decide +kernel
theorem dL_law_207 : decode cL_law 207 = .ok (.iload 4, 2) := by decide +kernel
theorem dL_law_209 : decode cL_law 209 = .ok (.iconst 3, 1) := by decide +kernel
theorem dL_law_210 : decode cL_law 210 = .ok (.iadd, 1) := by decide +kernel
theorem dL_law_211 : decode cL_law 211 = .ok (.iaload, 1) := by decide +kernel
theorem dL_law_212 : decode cL_law 212 = .ok (.invokevirtual 104, 3) := by decide +kernel
theorem dL_law_215 : decode cL_law 215 = .ok (.istore 6, 2) := by decide +kernel
theorem dL_law_217 : decode cL_law 217 = .ok (.aload_n 2, 1) := by decide +kernel
theorem dL_law_218 : decode cL_law 218 = .ok (.invokevirtual 105, 3) := by decide +kernel
theorem dL_law_221 : decode cL_law 221 = .ok (.iload 5, 2) := by decide +kernel
theorem dL_law_223 : decode cL_law 223 = .ok (.if_icmp .eq 5, 3) := by decide +kernel
theorem dL_law_226 : decode cL_law 226 = .ok (.iconst 0, 1) := by decide +kernel
theorem dL_law_227 : decode cL_law 227 = .ok (.ireturn, 1) := by decide +kernel
theorem dL_law_228 : decode cL_law 228 = .ok (.iload 5, 2) := by decide +kernel
theorem dL_law_230 : decode cL_law 230 = .ok (.ifCond .ne 15, 3) := by decide +kernel
theorem dL_law_233 : decode cL_law 233 = .ok (.aload_n 3, 1) := by decide +kernel
theorem dL_law_234 : decode cL_law 234 = .ok (.iconst 0, 1) := by decide +kernel
theorem dL_law_235 : decode cL_law 235 = .ok (.laload, 1) := by decide +kernel
theorem dL_law_236 : decode cL_law 236 = .ok (.iload 6, 2) := by decide +kernel
theorem dL_law_238 : decode cL_law 238 = .ok (.i2l, 1) := by decide +kernel
theorem dL_law_239 : decode cL_law 239 = .ok (.lcmp, 1) := by decide +kernel
theorem dL_law_240 : decode cL_law 240 = .ok (.ifCond .eq 5, 3) := by decide +kernel
theorem dL_law_243 : decode cL_law 243 = .ok (.iconst 0, 1) := by decide +kernel
theorem dL_law_244 : decode cL_law 244 = .ok (.ireturn, 1) := by decide +kernel
theorem dL_law_245 : decode cL_law 245 = .ok (.goto 1515, 3) := by decide +kernel
theorem dL_law_248 : decode cL_law 248 = .ok (.aload_n 1, 1) := by decide +kernel
theorem dL_law_249 : decode cL_law 249 = .ok (.aload_n 0, 1) := by decide +kernel
theorem dL_law_250 : decode cL_law 250 = .ok (.iload 4, 2) := by decide +kernel
theorem dL_law_252 : decode cL_law 252 = .ok (.iconst 1, 1) := by decide +kernel
theorem dL_law_253 : decode cL_law 253 = .ok (.iadd, 1) := by decide +kernel
theorem dL_law_254 : decode cL_law 254 = .ok (.iaload, 1) := by decide +kernel
theorem dL_law_255 : decode cL_law 255 = .ok (.aload_n 0, 1) := by decide +kernel
theorem dL_law_256 : decode cL_law 256 = .ok (.iload 4, 2) := by decide +kernel
theorem dL_law_258 : decode cL_law 258 = .ok (.iconst 2, 1) := by decide +kernel
theorem dL_law_259 : decode cL_law 259 = .ok (.iadd, 1) := by decide +kernel
theorem dL_law_260 : decode cL_law 260 = .ok (.iaload, 1) := by decide +kernel
theorem dL_law_261 : decode cL_law 261 = .ok (.aload_n 3, 1) := by decide +kernel
theorem dL_law_262 : decode cL_law 262 = .ok (.invokestatic 109, 3) := by decide +kernel
theorem dL_law_265 : decode cL_law 265 = .ok (.istore 5, 2) := by decide +kernel
theorem dL_law_267 : decode cL_law 267 = .ok (.aload_n 2, 1) := by decide +kernel
theorem dL_law_268 : decode cL_law 268 = .ok (.aload_n 0, 1) := by decide +kernel
theorem dL_law_269 : decode cL_law 269 = .ok (.iload 4, 2) := by decide +kernel
theorem dL_law_271 : decode cL_law 271 = .ok (.iconst 1, 1) := by decide +kernel
theorem dL_law_272 : decode cL_law 272 = .ok (.iadd, 1) := by decide +kernel
theorem dL_law_273 : decode cL_law 273 = .ok (.iaload, 1) := by decide +kernel
theorem dL_law_274 : decode cL_law 274 = .ok (.aload_n 0, 1) := by decide +kernel
theorem dL_law_275 : decode cL_law 275 = .ok (.iload 4, 2) := by decide +kernel
theorem dL_law_277 : decode cL_law 277 = .ok (.iconst 2, 1) := by decide +kernel
theorem dL_law_278 : decode cL_law 278 = .ok (.iadd, 1) := by decide +kernel
theorem dL_law_279 : decode cL_law 279 = .ok (.iaload, 1) := by decide +kernel
theorem dL_law_280 : decode cL_law 280 = .ok (.invokevirtual 112, 3) := by decide +kernel
theorem dL_law_283 : decode cL_law 283 = .ok (.istore 6, 2) := by decide +kernel
theorem dL_law_285 : decode cL_law 285 = .ok (.aload_n 2, 1) := by decide +kernel
theorem dL_law_286 : decode cL_law 286 = .ok (.invokevirtual 105, 3) := by decide +kernel
theorem dL_law_289 : decode cL_law 289 = .ok (.iload 5, 2) := by decide +kernel
theorem dL_law_291 : decode cL_law 291 = .ok (.if_icmp .eq 5, 3) := by decide +kernel
theorem dL_law_294 : decode cL_law 294 = .ok (.iconst 0, 1) := by decide +kernel
theorem dL_law_295 : decode cL_law 295 = .ok (.ireturn, 1) := by decide +kernel
theorem dL_law_296 : decode cL_law 296 = .ok (.iload 5, 2) := by decide +kernel
theorem dL_law_298 : decode cL_law 298 = .ok (.ifCond .ne 15, 3) := by decide +kernel
theorem dL_law_301 : decode cL_law 301 = .ok (.aload_n 3, 1) := by decide +kernel
theorem dL_law_302 : decode cL_law 302 = .ok (.iconst 0, 1) := by decide +kernel
theorem dL_law_303 : decode cL_law 303 = .ok (.laload, 1) := by decide +kernel
theorem dL_law_304 : decode cL_law 304 = .ok (.iload 6, 2) := by decide +kernel
theorem dL_law_306 : decode cL_law 306 = .ok (.i2l, 1) := by decide +kernel
theorem dL_law_307 : decode cL_law 307 = .ok (.lcmp, 1) := by decide +kernel
theorem dL_law_308 : decode cL_law 308 = .ok (.ifCond .eq 5, 3) := by decide +kernel
theorem dL_law_311 : decode cL_law 311 = .ok (.iconst 0, 1) := by decide +kernel
theorem dL_law_312 : decode cL_law 312 = .ok (.ireturn, 1) := by decide +kernel
theorem dL_law_313 : decode cL_law 313 = .ok (.goto 1447, 3) := by decide +kernel
theorem dL_law_316 : decode cL_law 316 = .ok (.aload_n 1, 1) := by decide +kernel
theorem dL_law_317 : decode cL_law 317 = .ok (.aload_n 0, 1) := by decide +kernel
theorem dL_law_318 : decode cL_law 318 = .ok (.iload 4, 2) := by decide +kernel
theorem dL_law_320 : decode cL_law 320 = .ok (.iconst 1, 1) := by decide +kernel
theorem dL_law_321 : decode cL_law 321 = .ok (.iadd, 1) := by decide +kernel
theorem dL_law_322 : decode cL_law 322 = .ok (.iaload, 1) := by decide +kernel
theorem dL_law_323 : decode cL_law 323 = .ok (.aload_n 0, 1) := by decide +kernel
theorem dL_law_324 : decode cL_law 324 = .ok (.iload 4, 2) := by decide +kernel
theorem dL_law_326 : decode cL_law 326 = .ok (.iconst 2, 1) := by decide +kernel
theorem dL_law_327 : decode cL_law 327 = .ok (.iadd, 1) := by decide +kernel
theorem dL_law_328 : decode cL_law 328 = .ok (.iaload, 1) := by decide +kernel
theorem dL_law_329 : decode cL_law 329 = .ok (.ifCond .eq 7, 3) := by decide +kernel
theorem dL_law_332 : decode cL_law 332 = .ok (.iconst 1, 1) := by decide +kernel
theorem dL_law_333 : decode cL_law 333 = .ok (.goto 4, 3) := by decide +kernel
theorem dL_law_336 : decode cL_law 336 = .ok (.iconst 0, 1) := by decide +kernel
theorem dL_law_337 : decode cL_law 337 = .ok (.aload_n 3, 1) := by decide +kernel
theorem dL_law_338 : decode cL_law 338 = .ok (.invokestatic 113, 3) := by decide +kernel
theorem dL_law_341 : decode cL_law 341 = .ok (.istore 5, 2) := by decide +kernel
theorem dL_law_343 : decode cL_law 343 = .ok (.aload_n 2, 1) := by decide +kernel
theorem dL_law_344 : decode cL_law 344 = .ok (.aload_n 0, 1) := by decide +kernel
theorem dL_law_345 : decode cL_law 345 = .ok (.iload 4, 2) := by decide +kernel
theorem dL_law_347 : decode cL_law 347 = .ok (.iconst 1, 1) := by decide +kernel
theorem dL_law_348 : decode cL_law 348 = .ok (.iadd, 1) := by decide +kernel
theorem dL_law_349 : decode cL_law 349 = .ok (.iaload, 1) := by decide +kernel
theorem dL_law_350 : decode cL_law 350 = .ok (.aload_n 0, 1) := by decide +kernel
theorem dL_law_351 : decode cL_law 351 = .ok (.iload 4, 2) := by decide +kernel
theorem dL_law_353 : decode cL_law 353 = .ok (.iconst 2, 1) := by decide +kernel
theorem dL_law_354 : decode cL_law 354 = .ok (.iadd, 1) := by decide +kernel
theorem dL_law_355 : decode cL_law 355 = .ok (.iaload, 1) := by decide +kernel
theorem dL_law_356 : decode cL_law 356 = .ok (.ifCond .eq 7, 3) := by decide +kernel
theorem dL_law_359 : decode cL_law 359 = .ok (.iconst 1, 1) := by decide +kernel
theorem dL_law_360 : decode cL_law 360 = .ok (.goto 4, 3) := by decide +kernel
theorem dL_law_363 : decode cL_law 363 = .ok (.iconst 0, 1) := by decide +kernel
theorem dL_law_364 : decode cL_law 364 = .ok (.invokevirtual 116, 3) := by decide +kernel
theorem dL_law_367 : decode cL_law 367 = .ok (.istore 6, 2) := by decide +kernel
theorem dL_law_369 : decode cL_law 369 = .ok (.aload_n 2, 1) := by decide +kernel
theorem dL_law_370 : decode cL_law 370 = .ok (.invokevirtual 105, 3) := by decide +kernel
theorem dL_law_373 : decode cL_law 373 = .ok (.iload 5, 2) := by decide +kernel
theorem dL_law_375 : decode cL_law 375 = .ok (.if_icmp .eq 5, 3) := by decide +kernel
theorem dL_law_378 : decode cL_law 378 = .ok (.iconst 0, 1) := by decide +kernel
theorem dL_law_379 : decode cL_law 379 = .ok (.ireturn, 1) := by decide +kernel
theorem dL_law_380 : decode cL_law 380 = .ok (.iload 5, 2) := by decide +kernel
theorem dL_law_382 : decode cL_law 382 = .ok (.ifCond .ne 15, 3) := by decide +kernel
theorem dL_law_385 : decode cL_law 385 = .ok (.aload_n 3, 1) := by decide +kernel
theorem dL_law_386 : decode cL_law 386 = .ok (.iconst 0, 1) := by decide +kernel
theorem dL_law_387 : decode cL_law 387 = .ok (.laload, 1) := by decide +kernel
theorem dL_law_388 : decode cL_law 388 = .ok (.iload 6, 2) := by decide +kernel
theorem dL_law_390 : decode cL_law 390 = .ok (.i2l, 1) := by decide +kernel
theorem dL_law_391 : decode cL_law 391 = .ok (.lcmp, 1) := by decide +kernel
theorem dL_law_392 : decode cL_law 392 = .ok (.ifCond .eq 5, 3) := by decide +kernel
theorem dL_law_395 : decode cL_law 395 = .ok (.iconst 0, 1) := by decide +kernel
theorem dL_law_396 : decode cL_law 396 = .ok (.ireturn, 1) := by decide +kernel
theorem dL_law_397 : decode cL_law 397 = .ok (.goto 1363, 3) := by decide +kernel
theorem dL_law_400 : decode cL_law 400 = .ok (.aload_n 1, 1) := by decide +kernel
theorem dL_law_401 : decode cL_law 401 = .ok (.aload_n 0, 1) := by decide +kernel
theorem dL_law_402 : decode cL_law 402 = .ok (.iload 4, 2) := by decide +kernel
theorem dL_law_404 : decode cL_law 404 = .ok (.iconst 1, 1) := by decide +kernel
theorem dL_law_405 : decode cL_law 405 = .ok (.iadd, 1) := by decide +kernel
theorem dL_law_406 : decode cL_law 406 = .ok (.iaload, 1) := by decide +kernel
theorem dL_law_407 : decode cL_law 407 = .ok (.aload_n 0, 1) := by decide +kernel
theorem dL_law_408 : decode cL_law 408 = .ok (.iload 4, 2) := by decide +kernel
theorem dL_law_410 : decode cL_law 410 = .ok (.iconst 2, 1) := by decide +kernel
theorem dL_law_411 : decode cL_law 411 = .ok (.iadd, 1) := by decide +kernel
theorem dL_law_412 : decode cL_law 412 = .ok (.iaload, 1) := by decide +kernel
theorem dL_law_413 : decode cL_law 413 = .ok (.aload_n 3, 1) := by decide +kernel
theorem dL_law_414 : decode cL_law 414 = .ok (.invokestatic 117, 3) := by decide +kernel
theorem dL_law_417 : decode cL_law 417 = .ok (.istore 5, 2) := by decide +kernel
theorem dL_law_419 : decode cL_law 419 = .ok (.aload_n 2, 1) := by decide +kernel
theorem dL_law_420 : decode cL_law 420 = .ok (.aload_n 0, 1) := by decide +kernel
theorem dL_law_421 : decode cL_law 421 = .ok (.iload 4, 2) := by decide +kernel
theorem dL_law_423 : decode cL_law 423 = .ok (.iconst 1, 1) := by decide +kernel
theorem dL_law_424 : decode cL_law 424 = .ok (.iadd, 1) := by decide +kernel
theorem dL_law_425 : decode cL_law 425 = .ok (.iaload, 1) := by decide +kernel
theorem dL_law_426 : decode cL_law 426 = .ok (.aload_n 0, 1) := by decide +kernel
theorem dL_law_427 : decode cL_law 427 = .ok (.iload 4, 2) := by decide +kernel
theorem dL_law_429 : decode cL_law 429 = .ok (.iconst 2, 1) := by decide +kernel
theorem dL_law_430 : decode cL_law 430 = .ok (.iadd, 1) := by decide +kernel
theorem dL_law_431 : decode cL_law 431 = .ok (.iaload, 1) := by decide +kernel
theorem dL_law_432 : decode cL_law 432 = .ok (.invokevirtual 119, 3) := by decide +kernel
theorem dL_law_435 : decode cL_law 435 = .ok (.istore 6, 2) := by decide +kernel
theorem dL_law_437 : decode cL_law 437 = .ok (.aload_n 2, 1) := by decide +kernel
theorem dL_law_438 : decode cL_law 438 = .ok (.invokevirtual 105, 3) := by decide +kernel
theorem dL_law_441 : decode cL_law 441 = .ok (.iload 5, 2) := by decide +kernel
theorem dL_law_443 : decode cL_law 443 = .ok (.if_icmp .eq 5, 3) := by decide +kernel
theorem dL_law_446 : decode cL_law 446 = .ok (.iconst 0, 1) := by decide +kernel
theorem dL_law_447 : decode cL_law 447 = .ok (.ireturn, 1) := by decide +kernel
theorem dL_law_448 : decode cL_law 448 = .ok (.iload 5, 2) := by decide +kernel
theorem dL_law_450 : decode cL_law 450 = .ok (.ifCond .ne 15, 3) := by decide +kernel
theorem dL_law_453 : decode cL_law 453 = .ok (.aload_n 3, 1) := by decide +kernel
theorem dL_law_454 : decode cL_law 454 = .ok (.iconst 0, 1) := by decide +kernel
theorem dL_law_455 : decode cL_law 455 = .ok (.laload, 1) := by decide +kernel
theorem dL_law_456 : decode cL_law 456 = .ok (.iload 6, 2) := by decide +kernel
theorem dL_law_458 : decode cL_law 458 = .ok (.i2l, 1) := by decide +kernel
theorem dL_law_459 : decode cL_law 459 = .ok (.lcmp, 1) := by decide +kernel
theorem dL_law_460 : decode cL_law 460 = .ok (.ifCond .eq 5, 3) := by decide +kernel
theorem dL_law_463 : decode cL_law 463 = .ok (.iconst 0, 1) := by decide +kernel
theorem dL_law_464 : decode cL_law 464 = .ok (.ireturn, 1) := by decide +kernel
theorem dL_law_465 : decode cL_law 465 = .ok (.goto 1295, 3) := by decide +kernel
theorem dL_law_468 : decode cL_law 468 = .ok (.aload_n 1, 1) := by decide +kernel
theorem dL_law_469 : decode cL_law 469 = .ok (.aload_n 0, 1) := by decide +kernel
theorem dL_law_470 : decode cL_law 470 = .ok (.iload 4, 2) := by decide +kernel
theorem dL_law_472 : decode cL_law 472 = .ok (.iconst 1, 1) := by decide +kernel
theorem dL_law_473 : decode cL_law 473 = .ok (.iadd, 1) := by decide +kernel
theorem dL_law_474 : decode cL_law 474 = .ok (.iaload, 1) := by decide +kernel
theorem dL_law_475 : decode cL_law 475 = .ok (.aload_n 3, 1) := by decide +kernel
theorem dL_law_476 : decode cL_law 476 = .ok (.invokestatic 120, 3) := by decide +kernel
theorem dL_law_479 : decode cL_law 479 = .ok (.istore 5, 2) := by decide +kernel
theorem dL_law_481 : decode cL_law 481 = .ok (.aload_n 2, 1) := by decide +kernel
theorem dL_law_482 : decode cL_law 482 = .ok (.aload_n 0, 1) := by decide +kernel
theorem dL_law_483 : decode cL_law 483 = .ok (.iload 4, 2) := by decide +kernel
theorem dL_law_485 : decode cL_law 485 = .ok (.iconst 1, 1) := by decide +kernel
theorem dL_law_486 : decode cL_law 486 = .ok (.iadd, 1) := by decide +kernel
theorem dL_law_487 : decode cL_law 487 = .ok (.iaload, 1) := by decide +kernel
theorem dL_law_488 : decode cL_law 488 = .ok (.invokevirtual 123, 3) := by decide +kernel
theorem dL_law_491 : decode cL_law 491 = .ok (.istore 6, 2) := by decide +kernel
theorem dL_law_493 : decode cL_law 493 = .ok (.aload_n 2, 1) := by decide +kernel
theorem dL_law_494 : decode cL_law 494 = .ok (.invokevirtual 105, 3) := by decide +kernel
theorem dL_law_497 : decode cL_law 497 = .ok (.iload 5, 2) := by decide +kernel
theorem dL_law_499 : decode cL_law 499 = .ok (.if_icmp .eq 5, 3) := by decide +kernel
theorem dL_law_502 : decode cL_law 502 = .ok (.iconst 0, 1) := by decide +kernel
theorem dL_law_503 : decode cL_law 503 = .ok (.ireturn, 1) := by decide +kernel
theorem dL_law_504 : decode cL_law 504 = .ok (.iload 5, 2) := by decide +kernel
theorem dL_law_506 : decode cL_law 506 = .ok (.ifCond .ne 15, 3) := by decide +kernel
theorem dL_law_509 : decode cL_law 509 = .ok (.aload_n 3, 1) := by decide +kernel
theorem dL_law_510 : decode cL_law 510 = .ok (.iconst 0, 1) := by decide +kernel
theorem dL_law_511 : decode cL_law 511 = .ok (.laload, 1) := by decide +kernel
theorem dL_law_512 : decode cL_law 512 = .ok (.iload 6, 2) := by decide +kernel
theorem dL_law_514 : decode cL_law 514 = .ok (.i2l, 1) := by decide +kernel
theorem dL_law_515 : decode cL_law 515 = .ok (.lcmp, 1) := by decide +kernel
theorem dL_law_516 : decode cL_law 516 = .ok (.ifCond .eq 5, 3) := by decide +kernel
theorem dL_law_519 : decode cL_law 519 = .ok (.iconst 0, 1) := by decide +kernel
theorem dL_law_520 : decode cL_law 520 = .ok (.ireturn, 1) := by decide +kernel
theorem dL_law_521 : decode cL_law 521 = .ok (.goto 1239, 3) := by decide +kernel
theorem dL_law_524 : decode cL_law 524 = .ok (.aload_n 1, 1) := by decide +kernel
theorem dL_law_525 : decode cL_law 525 = .ok (.aload_n 0, 1) := by decide +kernel
theorem dL_law_526 : decode cL_law 526 = .ok (.iload 4, 2) := by decide +kernel
theorem dL_law_528 : decode cL_law 528 = .ok (.iconst 1, 1) := by decide +kernel
theorem dL_law_529 : decode cL_law 529 = .ok (.iadd, 1) := by decide +kernel
theorem dL_law_530 : decode cL_law 530 = .ok (.iaload, 1) := by decide +kernel
theorem dL_law_531 : decode cL_law 531 = .ok (.aload_n 3, 1) := by decide +kernel
theorem dL_law_532 : decode cL_law 532 = .ok (.invokestatic 124, 3) := by decide +kernel
theorem dL_law_535 : decode cL_law 535 = .ok (.istore 5, 2) := by decide +kernel
theorem dL_law_537 : decode cL_law 537 = .ok (.aload_n 2, 1) := by decide +kernel
theorem dL_law_538 : decode cL_law 538 = .ok (.aload_n 0, 1) := by decide +kernel
theorem dL_law_539 : decode cL_law 539 = .ok (.iload 4, 2) := by decide +kernel
theorem dL_law_541 : decode cL_law 541 = .ok (.iconst 1, 1) := by decide +kernel
theorem dL_law_542 : decode cL_law 542 = .ok (.iadd, 1) := by decide +kernel
theorem dL_law_543 : decode cL_law 543 = .ok (.iaload, 1) := by decide +kernel
theorem dL_law_544 : decode cL_law 544 = .ok (.invokevirtual 126, 3) := by decide +kernel
theorem dL_law_547 : decode cL_law 547 = .ok (.istore 6, 2) := by decide +kernel
theorem dL_law_549 : decode cL_law 549 = .ok (.aload_n 2, 1) := by decide +kernel
theorem dL_law_550 : decode cL_law 550 = .ok (.invokevirtual 105, 3) := by decide +kernel
theorem dL_law_553 : decode cL_law 553 = .ok (.iload 5, 2) := by decide +kernel
theorem dL_law_555 : decode cL_law 555 = .ok (.if_icmp .eq 5, 3) := by decide +kernel
theorem dL_law_558 : decode cL_law 558 = .ok (.iconst 0, 1) := by decide +kernel
theorem dL_law_559 : decode cL_law 559 = .ok (.ireturn, 1) := by decide +kernel
theorem dL_law_560 : decode cL_law 560 = .ok (.iload 5, 2) := by decide +kernel
theorem dL_law_562 : decode cL_law 562 = .ok (.ifCond .ne 15, 3) := by decide +kernel
theorem dL_law_565 : decode cL_law 565 = .ok (.aload_n 3, 1) := by decide +kernel
theorem dL_law_566 : decode cL_law 566 = .ok (.iconst 0, 1) := by decide +kernel
theorem dL_law_567 : decode cL_law 567 = .ok (.laload, 1) := by decide +kernel
theorem dL_law_568 : decode cL_law 568 = .ok (.iload 6, 2) := by decide +kernel
theorem dL_law_570 : decode cL_law 570 = .ok (.i2l, 1) := by decide +kernel
theorem dL_law_571 : decode cL_law 571 = .ok (.lcmp, 1) := by decide +kernel
theorem dL_law_572 : decode cL_law 572 = .ok (.ifCond .eq 5, 3) := by decide +kernel
theorem dL_law_575 : decode cL_law 575 = .ok (.iconst 0, 1) := by decide +kernel
theorem dL_law_576 : decode cL_law 576 = .ok (.ireturn, 1) := by decide +kernel
theorem dL_law_577 : decode cL_law 577 = .ok (.goto 1183, 3) := by decide +kernel
theorem dL_law_580 : decode cL_law 580 = .ok (.aload_n 1, 1) := by decide +kernel
theorem dL_law_581 : decode cL_law 581 = .ok (.aload_n 0, 1) := by decide +kernel
theorem dL_law_582 : decode cL_law 582 = .ok (.iload 4, 2) := by decide +kernel
theorem dL_law_584 : decode cL_law 584 = .ok (.iconst 1, 1) := by decide +kernel
theorem dL_law_585 : decode cL_law 585 = .ok (.iadd, 1) := by decide +kernel
theorem dL_law_586 : decode cL_law 586 = .ok (.iaload, 1) := by decide +kernel
theorem dL_law_587 : decode cL_law 587 = .ok (.aload_n 0, 1) := by decide +kernel
theorem dL_law_588 : decode cL_law 588 = .ok (.iload 4, 2) := by decide +kernel
theorem dL_law_590 : decode cL_law 590 = .ok (.iconst 2, 1) := by decide +kernel
theorem dL_law_591 : decode cL_law 591 = .ok (.iadd, 1) := by decide +kernel
theorem dL_law_592 : decode cL_law 592 = .ok (.iaload, 1) := by decide +kernel
theorem dL_law_593 : decode cL_law 593 = .ok (.aload_n 3, 1) := by decide +kernel
theorem dL_law_594 : decode cL_law 594 = .ok (.invokestatic 127, 3) := by decide +kernel
theorem dL_law_597 : decode cL_law 597 = .ok (.istore 5, 2) := by decide +kernel
theorem dL_law_599 : decode cL_law 599 = .ok (.aload_n 2, 1) := by decide +kernel
theorem dL_law_600 : decode cL_law 600 = .ok (.aload_n 0, 1) := by decide +kernel
theorem dL_law_601 : decode cL_law 601 = .ok (.iload 4, 2) := by decide +kernel
theorem dL_law_603 : decode cL_law 603 = .ok (.iconst 1, 1) := by decide +kernel
theorem dL_law_604 : decode cL_law 604 = .ok (.iadd, 1) := by decide +kernel
theorem dL_law_605 : decode cL_law 605 = .ok (.iaload, 1) := by decide +kernel
theorem dL_law_606 : decode cL_law 606 = .ok (.aload_n 0, 1) := by decide +kernel
theorem dL_law_607 : decode cL_law 607 = .ok (.iload 4, 2) := by decide +kernel
theorem dL_law_609 : decode cL_law 609 = .ok (.iconst 2, 1) := by decide +kernel
theorem dL_law_610 : decode cL_law 610 = .ok (.iadd, 1) := by decide +kernel
theorem dL_law_611 : decode cL_law 611 = .ok (.iaload, 1) := by decide +kernel
theorem dL_law_612 : decode cL_law 612 = .ok (.invokevirtual 129, 3) := by decide +kernel
theorem dL_law_615 : decode cL_law 615 = .ok (.istore 6, 2) := by decide +kernel
theorem dL_law_617 : decode cL_law 617 = .ok (.aload_n 2, 1) := by decide +kernel
theorem dL_law_618 : decode cL_law 618 = .ok (.invokevirtual 105, 3) := by decide +kernel
theorem dL_law_621 : decode cL_law 621 = .ok (.iload 5, 2) := by decide +kernel
theorem dL_law_623 : decode cL_law 623 = .ok (.if_icmp .eq 5, 3) := by decide +kernel
theorem dL_law_626 : decode cL_law 626 = .ok (.iconst 0, 1) := by decide +kernel
theorem dL_law_627 : decode cL_law 627 = .ok (.ireturn, 1) := by decide +kernel
theorem dL_law_628 : decode cL_law 628 = .ok (.iload 5, 2) := by decide +kernel
theorem dL_law_630 : decode cL_law 630 = .ok (.ifCond .ne 15, 3) := by decide +kernel
theorem dL_law_633 : decode cL_law 633 = .ok (.aload_n 3, 1) := by decide +kernel
theorem dL_law_634 : decode cL_law 634 = .ok (.iconst 0, 1) := by decide +kernel
theorem dL_law_635 : decode cL_law 635 = .ok (.laload, 1) := by decide +kernel
theorem dL_law_636 : decode cL_law 636 = .ok (.iload 6, 2) := by decide +kernel
theorem dL_law_638 : decode cL_law 638 = .ok (.i2l, 1) := by decide +kernel
theorem dL_law_639 : decode cL_law 639 = .ok (.lcmp, 1) := by decide +kernel
theorem dL_law_640 : decode cL_law 640 = .ok (.ifCond .eq 5, 3) := by decide +kernel
theorem dL_law_643 : decode cL_law 643 = .ok (.iconst 0, 1) := by decide +kernel
theorem dL_law_644 : decode cL_law 644 = .ok (.ireturn, 1) := by decide +kernel
theorem dL_law_645 : decode cL_law 645 = .ok (.goto 1115, 3) := by decide +kernel
theorem dL_law_648 : decode cL_law 648 = .ok (.aload_n 1, 1) := by decide +kernel
theorem dL_law_649 : decode cL_law 649 = .ok (.aload_n 0, 1) := by decide +kernel
theorem dL_law_650 : decode cL_law 650 = .ok (.iload 4, 2) := by decide +kernel
theorem dL_law_652 : decode cL_law 652 = .ok (.iconst 1, 1) := by decide +kernel
theorem dL_law_653 : decode cL_law 653 = .ok (.iadd, 1) := by decide +kernel
theorem dL_law_654 : decode cL_law 654 = .ok (.iaload, 1) := by decide +kernel
theorem dL_law_655 : decode cL_law 655 = .ok (.aload_n 0, 1) := by decide +kernel
theorem dL_law_656 : decode cL_law 656 = .ok (.iload 4, 2) := by decide +kernel
theorem dL_law_658 : decode cL_law 658 = .ok (.iconst 2, 1) := by decide +kernel
theorem dL_law_659 : decode cL_law 659 = .ok (.iadd, 1) := by decide +kernel
theorem dL_law_660 : decode cL_law 660 = .ok (.iaload, 1) := by decide +kernel
theorem dL_law_661 : decode cL_law 661 = .ok (.aload_n 3, 1) := by decide +kernel
theorem dL_law_662 : decode cL_law 662 = .ok (.invokestatic 130, 3) := by decide +kernel
theorem dL_law_665 : decode cL_law 665 = .ok (.istore 5, 2) := by decide +kernel
theorem dL_law_667 : decode cL_law 667 = .ok (.aload_n 2, 1) := by decide +kernel
theorem dL_law_668 : decode cL_law 668 = .ok (.aload_n 0, 1) := by decide +kernel
theorem dL_law_669 : decode cL_law 669 = .ok (.iload 4, 2) := by decide +kernel
theorem dL_law_671 : decode cL_law 671 = .ok (.iconst 1, 1) := by decide +kernel
theorem dL_law_672 : decode cL_law 672 = .ok (.iadd, 1) := by decide +kernel
theorem dL_law_673 : decode cL_law 673 = .ok (.iaload, 1) := by decide +kernel
theorem dL_law_674 : decode cL_law 674 = .ok (.aload_n 0, 1) := by decide +kernel
theorem dL_law_675 : decode cL_law 675 = .ok (.iload 4, 2) := by decide +kernel
theorem dL_law_677 : decode cL_law 677 = .ok (.iconst 2, 1) := by decide +kernel
theorem dL_law_678 : decode cL_law 678 = .ok (.iadd, 1) := by decide +kernel
theorem dL_law_679 : decode cL_law 679 = .ok (.iaload, 1) := by decide +kernel
theorem dL_law_680 : decode cL_law 680 = .ok (.invokevirtual 132, 3) := by decide +kernel
theorem dL_law_683 : decode cL_law 683 = .ok (.istore 6, 2) := by decide +kernel
theorem dL_law_685 : decode cL_law 685 = .ok (.aload_n 2, 1) := by decide +kernel
theorem dL_law_686 : decode cL_law 686 = .ok (.invokevirtual 105, 3) := by decide +kernel
theorem dL_law_689 : decode cL_law 689 = .ok (.iload 5, 2) := by decide +kernel
theorem dL_law_691 : decode cL_law 691 = .ok (.if_icmp .eq 5, 3) := by decide +kernel
theorem dL_law_694 : decode cL_law 694 = .ok (.iconst 0, 1) := by decide +kernel
theorem dL_law_695 : decode cL_law 695 = .ok (.ireturn, 1) := by decide +kernel
theorem dL_law_696 : decode cL_law 696 = .ok (.iload 5, 2) := by decide +kernel
theorem dL_law_698 : decode cL_law 698 = .ok (.ifCond .ne 15, 3) := by decide +kernel
theorem dL_law_701 : decode cL_law 701 = .ok (.aload_n 3, 1) := by decide +kernel
theorem dL_law_702 : decode cL_law 702 = .ok (.iconst 0, 1) := by decide +kernel
theorem dL_law_703 : decode cL_law 703 = .ok (.laload, 1) := by decide +kernel
theorem dL_law_704 : decode cL_law 704 = .ok (.iload 6, 2) := by decide +kernel
theorem dL_law_706 : decode cL_law 706 = .ok (.i2l, 1) := by decide +kernel
theorem dL_law_707 : decode cL_law 707 = .ok (.lcmp, 1) := by decide +kernel
theorem dL_law_708 : decode cL_law 708 = .ok (.ifCond .eq 5, 3) := by decide +kernel
theorem dL_law_711 : decode cL_law 711 = .ok (.iconst 0, 1) := by decide +kernel
theorem dL_law_712 : decode cL_law 712 = .ok (.ireturn, 1) := by decide +kernel
theorem dL_law_713 : decode cL_law 713 = .ok (.goto 1047, 3) := by decide +kernel
theorem dL_law_716 : decode cL_law 716 = .ok (.aload_n 1, 1) := by decide +kernel
theorem dL_law_717 : decode cL_law 717 = .ok (.aload_n 0, 1) := by decide +kernel
theorem dL_law_718 : decode cL_law 718 = .ok (.iload 4, 2) := by decide +kernel
theorem dL_law_720 : decode cL_law 720 = .ok (.iconst 1, 1) := by decide +kernel
theorem dL_law_721 : decode cL_law 721 = .ok (.iadd, 1) := by decide +kernel
theorem dL_law_722 : decode cL_law 722 = .ok (.iaload, 1) := by decide +kernel
theorem dL_law_723 : decode cL_law 723 = .ok (.aload_n 0, 1) := by decide +kernel
theorem dL_law_724 : decode cL_law 724 = .ok (.iload 4, 2) := by decide +kernel
theorem dL_law_726 : decode cL_law 726 = .ok (.iconst 2, 1) := by decide +kernel
theorem dL_law_727 : decode cL_law 727 = .ok (.iadd, 1) := by decide +kernel
theorem dL_law_728 : decode cL_law 728 = .ok (.iaload, 1) := by decide +kernel
theorem dL_law_729 : decode cL_law 729 = .ok (.aload_n 0, 1) := by decide +kernel
theorem dL_law_730 : decode cL_law 730 = .ok (.iload 4, 2) := by decide +kernel
theorem dL_law_732 : decode cL_law 732 = .ok (.iconst 3, 1) := by decide +kernel
theorem dL_law_733 : decode cL_law 733 = .ok (.iadd, 1) := by decide +kernel
theorem dL_law_734 : decode cL_law 734 = .ok (.iaload, 1) := by decide +kernel
theorem dL_law_735 : decode cL_law 735 = .ok (.aload_n 3, 1) := by decide +kernel
theorem dL_law_736 : decode cL_law 736 = .ok (.invokestatic 133, 3) := by decide +kernel
theorem dL_law_739 : decode cL_law 739 = .ok (.istore 5, 2) := by decide +kernel
theorem dL_law_741 : decode cL_law 741 = .ok (.aload_n 2, 1) := by decide +kernel
theorem dL_law_742 : decode cL_law 742 = .ok (.aload_n 0, 1) := by decide +kernel
theorem dL_law_743 : decode cL_law 743 = .ok (.iload 4, 2) := by decide +kernel
theorem dL_law_745 : decode cL_law 745 = .ok (.iconst 1, 1) := by decide +kernel
theorem dL_law_746 : decode cL_law 746 = .ok (.iadd, 1) := by decide +kernel
theorem dL_law_747 : decode cL_law 747 = .ok (.iaload, 1) := by decide +kernel
theorem dL_law_748 : decode cL_law 748 = .ok (.aload_n 0, 1) := by decide +kernel
theorem dL_law_749 : decode cL_law 749 = .ok (.iload 4, 2) := by decide +kernel
theorem dL_law_751 : decode cL_law 751 = .ok (.iconst 2, 1) := by decide +kernel
theorem dL_law_752 : decode cL_law 752 = .ok (.iadd, 1) := by decide +kernel
theorem dL_law_753 : decode cL_law 753 = .ok (.iaload, 1) := by decide +kernel
theorem dL_law_754 : decode cL_law 754 = .ok (.aload_n 0, 1) := by decide +kernel
theorem dL_law_755 : decode cL_law 755 = .ok (.iload 4, 2) := by decide +kernel
theorem dL_law_757 : decode cL_law 757 = .ok (.iconst 3, 1) := by decide +kernel
theorem dL_law_758 : decode cL_law 758 = .ok (.iadd, 1) := by decide +kernel
theorem dL_law_759 : decode cL_law 759 = .ok (.iaload, 1) := by decide +kernel
theorem dL_law_760 : decode cL_law 760 = .ok (.invokevirtual 135, 3) := by decide +kernel
theorem dL_law_763 : decode cL_law 763 = .ok (.istore 6, 2) := by decide +kernel
theorem dL_law_765 : decode cL_law 765 = .ok (.aload_n 2, 1) := by decide +kernel
theorem dL_law_766 : decode cL_law 766 = .ok (.invokevirtual 105, 3) := by decide +kernel
theorem dL_law_769 : decode cL_law 769 = .ok (.iload 5, 2) := by decide +kernel
theorem dL_law_771 : decode cL_law 771 = .ok (.if_icmp .eq 5, 3) := by decide +kernel
theorem dL_law_774 : decode cL_law 774 = .ok (.iconst 0, 1) := by decide +kernel
theorem dL_law_775 : decode cL_law 775 = .ok (.ireturn, 1) := by decide +kernel
theorem dL_law_776 : decode cL_law 776 = .ok (.iload 5, 2) := by decide +kernel
theorem dL_law_778 : decode cL_law 778 = .ok (.ifCond .ne 15, 3) := by decide +kernel
theorem dL_law_781 : decode cL_law 781 = .ok (.aload_n 3, 1) := by decide +kernel
theorem dL_law_782 : decode cL_law 782 = .ok (.iconst 0, 1) := by decide +kernel
theorem dL_law_783 : decode cL_law 783 = .ok (.laload, 1) := by decide +kernel
theorem dL_law_784 : decode cL_law 784 = .ok (.iload 6, 2) := by decide +kernel
theorem dL_law_786 : decode cL_law 786 = .ok (.i2l, 1) := by decide +kernel
theorem dL_law_787 : decode cL_law 787 = .ok (.lcmp, 1) := by decide +kernel
theorem dL_law_788 : decode cL_law 788 = .ok (.ifCond .eq 5, 3) := by decide +kernel
theorem dL_law_791 : decode cL_law 791 = .ok (.iconst 0, 1) := by decide +kernel
theorem dL_law_792 : decode cL_law 792 = .ok (.ireturn, 1) := by decide +kernel
theorem dL_law_793 : decode cL_law 793 = .ok (.goto 967, 3) := by decide +kernel
theorem dL_law_796 : decode cL_law 796 = .ok (.aload_n 1, 1) := by decide +kernel
theorem dL_law_797 : decode cL_law 797 = .ok (.aload_n 0, 1) := by decide +kernel
theorem dL_law_798 : decode cL_law 798 = .ok (.iload 4, 2) := by decide +kernel
theorem dL_law_800 : decode cL_law 800 = .ok (.iconst 1, 1) := by decide +kernel
theorem dL_law_801 : decode cL_law 801 = .ok (.iadd, 1) := by decide +kernel
theorem dL_law_802 : decode cL_law 802 = .ok (.iaload, 1) := by decide +kernel
theorem dL_law_803 : decode cL_law 803 = .ok (.aload_n 0, 1) := by decide +kernel
theorem dL_law_804 : decode cL_law 804 = .ok (.iload 4, 2) := by decide +kernel
theorem dL_law_806 : decode cL_law 806 = .ok (.iconst 2, 1) := by decide +kernel
theorem dL_law_807 : decode cL_law 807 = .ok (.iadd, 1) := by decide +kernel
theorem dL_law_808 : decode cL_law 808 = .ok (.iaload, 1) := by decide +kernel
theorem dL_law_809 : decode cL_law 809 = .ok (.aload_n 3, 1) := by decide +kernel
theorem dL_law_810 : decode cL_law 810 = .ok (.invokestatic 136, 3) := by decide +kernel
theorem dL_law_813 : decode cL_law 813 = .ok (.istore 5, 2) := by decide +kernel
theorem dL_law_815 : decode cL_law 815 = .ok (.aload_n 2, 1) := by decide +kernel
theorem dL_law_816 : decode cL_law 816 = .ok (.aload_n 0, 1) := by decide +kernel
theorem dL_law_817 : decode cL_law 817 = .ok (.iload 4, 2) := by decide +kernel
theorem dL_law_819 : decode cL_law 819 = .ok (.iconst 1, 1) := by decide +kernel
theorem dL_law_820 : decode cL_law 820 = .ok (.iadd, 1) := by decide +kernel
theorem dL_law_821 : decode cL_law 821 = .ok (.iaload, 1) := by decide +kernel
theorem dL_law_822 : decode cL_law 822 = .ok (.aload_n 0, 1) := by decide +kernel
theorem dL_law_823 : decode cL_law 823 = .ok (.iload 4, 2) := by decide +kernel
theorem dL_law_825 : decode cL_law 825 = .ok (.iconst 2, 1) := by decide +kernel
theorem dL_law_826 : decode cL_law 826 = .ok (.iadd, 1) := by decide +kernel
theorem dL_law_827 : decode cL_law 827 = .ok (.iaload, 1) := by decide +kernel
theorem dL_law_828 : decode cL_law 828 = .ok (.invokevirtual 138, 3) := by decide +kernel
theorem dL_law_831 : decode cL_law 831 = .ok (.istore 6, 2) := by decide +kernel
theorem dL_law_833 : decode cL_law 833 = .ok (.aload_n 2, 1) := by decide +kernel
theorem dL_law_834 : decode cL_law 834 = .ok (.invokevirtual 105, 3) := by decide +kernel
theorem dL_law_837 : decode cL_law 837 = .ok (.iload 5, 2) := by decide +kernel
theorem dL_law_839 : decode cL_law 839 = .ok (.if_icmp .eq 5, 3) := by decide +kernel
theorem dL_law_842 : decode cL_law 842 = .ok (.iconst 0, 1) := by decide +kernel
theorem dL_law_843 : decode cL_law 843 = .ok (.ireturn, 1) := by decide +kernel
theorem dL_law_844 : decode cL_law 844 = .ok (.iload 5, 2) := by decide +kernel
theorem dL_law_846 : decode cL_law 846 = .ok (.ifCond .ne 15, 3) := by decide +kernel
theorem dL_law_849 : decode cL_law 849 = .ok (.aload_n 3, 1) := by decide +kernel
theorem dL_law_850 : decode cL_law 850 = .ok (.iconst 0, 1) := by decide +kernel
theorem dL_law_851 : decode cL_law 851 = .ok (.laload, 1) := by decide +kernel
theorem dL_law_852 : decode cL_law 852 = .ok (.iload 6, 2) := by decide +kernel
theorem dL_law_854 : decode cL_law 854 = .ok (.i2l, 1) := by decide +kernel
theorem dL_law_855 : decode cL_law 855 = .ok (.lcmp, 1) := by decide +kernel
theorem dL_law_856 : decode cL_law 856 = .ok (.ifCond .eq 5, 3) := by decide +kernel
theorem dL_law_859 : decode cL_law 859 = .ok (.iconst 0, 1) := by decide +kernel
theorem dL_law_860 : decode cL_law 860 = .ok (.ireturn, 1) := by decide +kernel
theorem dL_law_861 : decode cL_law 861 = .ok (.goto 899, 3) := by decide +kernel
theorem dL_law_864 : decode cL_law 864 = .ok (.aload_n 1, 1) := by decide +kernel
theorem dL_law_865 : decode cL_law 865 = .ok (.aload_n 0, 1) := by decide +kernel
theorem dL_law_866 : decode cL_law 866 = .ok (.iload 4, 2) := by decide +kernel
theorem dL_law_868 : decode cL_law 868 = .ok (.iconst 1, 1) := by decide +kernel
theorem dL_law_869 : decode cL_law 869 = .ok (.iadd, 1) := by decide +kernel
theorem dL_law_870 : decode cL_law 870 = .ok (.iaload, 1) := by decide +kernel
theorem dL_law_871 : decode cL_law 871 = .ok (.aload_n 0, 1) := by decide +kernel
theorem dL_law_872 : decode cL_law 872 = .ok (.iload 4, 2) := by decide +kernel
theorem dL_law_874 : decode cL_law 874 = .ok (.iconst 2, 1) := by decide +kernel
theorem dL_law_875 : decode cL_law 875 = .ok (.iadd, 1) := by decide +kernel
theorem dL_law_876 : decode cL_law 876 = .ok (.iaload, 1) := by decide +kernel
theorem dL_law_877 : decode cL_law 877 = .ok (.aload_n 0, 1) := by decide +kernel
theorem dL_law_878 : decode cL_law 878 = .ok (.iload 4, 2) := by decide +kernel
theorem dL_law_880 : decode cL_law 880 = .ok (.iconst 3, 1) := by decide +kernel
theorem dL_law_881 : decode cL_law 881 = .ok (.iadd, 1) := by decide +kernel
theorem dL_law_882 : decode cL_law 882 = .ok (.iaload, 1) := by decide +kernel
theorem dL_law_883 : decode cL_law 883 = .ok (.ifCond .eq 7, 3) := by decide +kernel
theorem dL_law_886 : decode cL_law 886 = .ok (.iconst 1, 1) := by decide +kernel
theorem dL_law_887 : decode cL_law 887 = .ok (.goto 4, 3) := by decide +kernel
theorem dL_law_890 : decode cL_law 890 = .ok (.iconst 0, 1) := by decide +kernel
theorem dL_law_891 : decode cL_law 891 = .ok (.aload_n 3, 1) := by decide +kernel
theorem dL_law_892 : decode cL_law 892 = .ok (.invokestatic 139, 3) := by decide +kernel
theorem dL_law_895 : decode cL_law 895 = .ok (.istore 5, 2) := by decide +kernel
theorem dL_law_897 : decode cL_law 897 = .ok (.aload_n 2, 1) := by decide +kernel
theorem dL_law_898 : decode cL_law 898 = .ok (.aload_n 0, 1) := by decide +kernel
theorem dL_law_899 : decode cL_law 899 = .ok (.iload 4, 2) := by decide +kernel
theorem dL_law_901 : decode cL_law 901 = .ok (.iconst 1, 1) := by decide +kernel
theorem dL_law_902 : decode cL_law 902 = .ok (.iadd, 1) := by decide +kernel
theorem dL_law_903 : decode cL_law 903 = .ok (.iaload, 1) := by decide +kernel
theorem dL_law_904 : decode cL_law 904 = .ok (.aload_n 0, 1) := by decide +kernel
theorem dL_law_905 : decode cL_law 905 = .ok (.iload 4, 2) := by decide +kernel
theorem dL_law_907 : decode cL_law 907 = .ok (.iconst 2, 1) := by decide +kernel
theorem dL_law_908 : decode cL_law 908 = .ok (.iadd, 1) := by decide +kernel
theorem dL_law_909 : decode cL_law 909 = .ok (.iaload, 1) := by decide +kernel
theorem dL_law_910 : decode cL_law 910 = .ok (.aload_n 0, 1) := by decide +kernel
theorem dL_law_911 : decode cL_law 911 = .ok (.iload 4, 2) := by decide +kernel
theorem dL_law_913 : decode cL_law 913 = .ok (.iconst 3, 1) := by decide +kernel
theorem dL_law_914 : decode cL_law 914 = .ok (.iadd, 1) := by decide +kernel
theorem dL_law_915 : decode cL_law 915 = .ok (.iaload, 1) := by decide +kernel
theorem dL_law_916 : decode cL_law 916 = .ok (.ifCond .eq 7, 3) := by decide +kernel
theorem dL_law_919 : decode cL_law 919 = .ok (.iconst 1, 1) := by decide +kernel
theorem dL_law_920 : decode cL_law 920 = .ok (.goto 4, 3) := by decide +kernel
theorem dL_law_923 : decode cL_law 923 = .ok (.iconst 0, 1) := by decide +kernel
theorem dL_law_924 : decode cL_law 924 = .ok (.invokevirtual 142, 3) := by decide +kernel
theorem dL_law_927 : decode cL_law 927 = .ok (.istore 6, 2) := by decide +kernel
theorem dL_law_929 : decode cL_law 929 = .ok (.aload_n 2, 1) := by decide +kernel
theorem dL_law_930 : decode cL_law 930 = .ok (.invokevirtual 105, 3) := by decide +kernel
theorem dL_law_933 : decode cL_law 933 = .ok (.iload 5, 2) := by decide +kernel
theorem dL_law_935 : decode cL_law 935 = .ok (.if_icmp .eq 5, 3) := by decide +kernel
theorem dL_law_938 : decode cL_law 938 = .ok (.iconst 0, 1) := by decide +kernel
theorem dL_law_939 : decode cL_law 939 = .ok (.ireturn, 1) := by decide +kernel
theorem dL_law_940 : decode cL_law 940 = .ok (.iload 5, 2) := by decide +kernel
theorem dL_law_942 : decode cL_law 942 = .ok (.ifCond .ne 15, 3) := by decide +kernel
theorem dL_law_945 : decode cL_law 945 = .ok (.aload_n 3, 1) := by decide +kernel
theorem dL_law_946 : decode cL_law 946 = .ok (.iconst 0, 1) := by decide +kernel
theorem dL_law_947 : decode cL_law 947 = .ok (.laload, 1) := by decide +kernel
theorem dL_law_948 : decode cL_law 948 = .ok (.iload 6, 2) := by decide +kernel
theorem dL_law_950 : decode cL_law 950 = .ok (.i2l, 1) := by decide +kernel
theorem dL_law_951 : decode cL_law 951 = .ok (.lcmp, 1) := by decide +kernel
theorem dL_law_952 : decode cL_law 952 = .ok (.ifCond .eq 5, 3) := by decide +kernel
theorem dL_law_955 : decode cL_law 955 = .ok (.iconst 0, 1) := by decide +kernel
theorem dL_law_956 : decode cL_law 956 = .ok (.ireturn, 1) := by decide +kernel
theorem dL_law_957 : decode cL_law 957 = .ok (.goto 803, 3) := by decide +kernel
theorem dL_law_960 : decode cL_law 960 = .ok (.aload_n 1, 1) := by decide +kernel
theorem dL_law_961 : decode cL_law 961 = .ok (.aload_n 0, 1) := by decide +kernel
theorem dL_law_962 : decode cL_law 962 = .ok (.iload 4, 2) := by decide +kernel
theorem dL_law_964 : decode cL_law 964 = .ok (.iconst 1, 1) := by decide +kernel
theorem dL_law_965 : decode cL_law 965 = .ok (.iadd, 1) := by decide +kernel
theorem dL_law_966 : decode cL_law 966 = .ok (.iaload, 1) := by decide +kernel
theorem dL_law_967 : decode cL_law 967 = .ok (.aload_n 3, 1) := by decide +kernel
theorem dL_law_968 : decode cL_law 968 = .ok (.invokestatic 143, 3) := by decide +kernel
theorem dL_law_971 : decode cL_law 971 = .ok (.istore 5, 2) := by decide +kernel
theorem dL_law_973 : decode cL_law 973 = .ok (.aload_n 2, 1) := by decide +kernel
theorem dL_law_974 : decode cL_law 974 = .ok (.aload_n 0, 1) := by decide +kernel
theorem dL_law_975 : decode cL_law 975 = .ok (.iload 4, 2) := by decide +kernel
theorem dL_law_977 : decode cL_law 977 = .ok (.iconst 1, 1) := by decide +kernel
theorem dL_law_978 : decode cL_law 978 = .ok (.iadd, 1) := by decide +kernel
theorem dL_law_979 : decode cL_law 979 = .ok (.iaload, 1) := by decide +kernel
theorem dL_law_980 : decode cL_law 980 = .ok (.invokevirtual 145, 3) := by decide +kernel
theorem dL_law_983 : decode cL_law 983 = .ok (.istore 6, 2) := by decide +kernel
theorem dL_law_985 : decode cL_law 985 = .ok (.aload_n 2, 1) := by decide +kernel
theorem dL_law_986 : decode cL_law 986 = .ok (.invokevirtual 105, 3) := by decide +kernel
theorem dL_law_989 : decode cL_law 989 = .ok (.iload 5, 2) := by decide +kernel
theorem dL_law_991 : decode cL_law 991 = .ok (.if_icmp .eq 5, 3) := by decide +kernel
theorem dL_law_994 : decode cL_law 994 = .ok (.iconst 0, 1) := by decide +kernel
theorem dL_law_995 : decode cL_law 995 = .ok (.ireturn, 1) := by decide +kernel
theorem dL_law_996 : decode cL_law 996 = .ok (.iload 5, 2) := by decide +kernel
theorem dL_law_998 : decode cL_law 998 = .ok (.ifCond .ne 15, 3) := by decide +kernel
theorem dL_law_1001 : decode cL_law 1001 = .ok (.aload_n 3, 1) := by decide +kernel
theorem dL_law_1002 : decode cL_law 1002 = .ok (.iconst 0, 1) := by decide +kernel
theorem dL_law_1003 : decode cL_law 1003 = .ok (.laload, 1) := by decide +kernel
theorem dL_law_1004 : decode cL_law 1004 = .ok (.iload 6, 2) := by decide +kernel
theorem dL_law_1006 : decode cL_law 1006 = .ok (.i2l, 1) := by decide +kernel
theorem dL_law_1007 : decode cL_law 1007 = .ok (.lcmp, 1) := by decide +kernel
theorem dL_law_1008 : decode cL_law 1008 = .ok (.ifCond .eq 5, 3) := by decide +kernel
theorem dL_law_1011 : decode cL_law 1011 = .ok (.iconst 0, 1) := by decide +kernel
theorem dL_law_1012 : decode cL_law 1012 = .ok (.ireturn, 1) := by decide +kernel
theorem dL_law_1013 : decode cL_law 1013 = .ok (.goto 747, 3) := by decide +kernel
theorem dL_law_1016 : decode cL_law 1016 = .ok (.aload_n 1, 1) := by decide +kernel
theorem dL_law_1017 : decode cL_law 1017 = .ok (.aload_n 0, 1) := by decide +kernel
theorem dL_law_1018 : decode cL_law 1018 = .ok (.iload 4, 2) := by decide +kernel
theorem dL_law_1020 : decode cL_law 1020 = .ok (.iconst 1, 1) := by decide +kernel
theorem dL_law_1021 : decode cL_law 1021 = .ok (.iadd, 1) := by decide +kernel
theorem dL_law_1022 : decode cL_law 1022 = .ok (.iaload, 1) := by decide +kernel
theorem dL_law_1023 : decode cL_law 1023 = .ok (.aload_n 3, 1) := by decide +kernel
theorem dL_law_1024 : decode cL_law 1024 = .ok (.invokestatic 146, 3) := by decide +kernel
theorem dL_law_1027 : decode cL_law 1027 = .ok (.istore 5, 2) := by decide +kernel
theorem dL_law_1029 : decode cL_law 1029 = .ok (.aload_n 2, 1) := by decide +kernel
theorem dL_law_1030 : decode cL_law 1030 = .ok (.aload_n 0, 1) := by decide +kernel
theorem dL_law_1031 : decode cL_law 1031 = .ok (.iload 4, 2) := by decide +kernel
theorem dL_law_1033 : decode cL_law 1033 = .ok (.iconst 1, 1) := by decide +kernel
theorem dL_law_1034 : decode cL_law 1034 = .ok (.iadd, 1) := by decide +kernel
theorem dL_law_1035 : decode cL_law 1035 = .ok (.iaload, 1) := by decide +kernel
theorem dL_law_1036 : decode cL_law 1036 = .ok (.invokevirtual 148, 3) := by decide +kernel
theorem dL_law_1039 : decode cL_law 1039 = .ok (.istore 6, 2) := by decide +kernel
theorem dL_law_1041 : decode cL_law 1041 = .ok (.aload_n 2, 1) := by decide +kernel
theorem dL_law_1042 : decode cL_law 1042 = .ok (.invokevirtual 105, 3) := by decide +kernel
theorem dL_law_1045 : decode cL_law 1045 = .ok (.iload 5, 2) := by decide +kernel
theorem dL_law_1047 : decode cL_law 1047 = .ok (.if_icmp .eq 5, 3) := by decide +kernel
theorem dL_law_1050 : decode cL_law 1050 = .ok (.iconst 0, 1) := by decide +kernel
theorem dL_law_1051 : decode cL_law 1051 = .ok (.ireturn, 1) := by decide +kernel
theorem dL_law_1052 : decode cL_law 1052 = .ok (.iload 5, 2) := by decide +kernel
theorem dL_law_1054 : decode cL_law 1054 = .ok (.ifCond .ne 15, 3) := by decide +kernel
theorem dL_law_1057 : decode cL_law 1057 = .ok (.aload_n 3, 1) := by decide +kernel
theorem dL_law_1058 : decode cL_law 1058 = .ok (.iconst 0, 1) := by decide +kernel
theorem dL_law_1059 : decode cL_law 1059 = .ok (.laload, 1) := by decide +kernel
theorem dL_law_1060 : decode cL_law 1060 = .ok (.iload 6, 2) := by decide +kernel
theorem dL_law_1062 : decode cL_law 1062 = .ok (.i2l, 1) := by decide +kernel
theorem dL_law_1063 : decode cL_law 1063 = .ok (.lcmp, 1) := by decide +kernel
theorem dL_law_1064 : decode cL_law 1064 = .ok (.ifCond .eq 5, 3) := by decide +kernel
theorem dL_law_1067 : decode cL_law 1067 = .ok (.iconst 0, 1) := by decide +kernel
theorem dL_law_1068 : decode cL_law 1068 = .ok (.ireturn, 1) := by decide +kernel
theorem dL_law_1069 : decode cL_law 1069 = .ok (.goto 691, 3) := by decide +kernel
theorem dL_law_1072 : decode cL_law 1072 = .ok (.aload_n 1, 1) := by decide +kernel
theorem dL_law_1073 : decode cL_law 1073 = .ok (.aload_n 0, 1) := by decide +kernel
theorem dL_law_1074 : decode cL_law 1074 = .ok (.iload 4, 2) := by decide +kernel
theorem dL_law_1076 : decode cL_law 1076 = .ok (.iconst 1, 1) := by decide +kernel
theorem dL_law_1077 : decode cL_law 1077 = .ok (.iadd, 1) := by decide +kernel
theorem dL_law_1078 : decode cL_law 1078 = .ok (.iaload, 1) := by decide +kernel
theorem dL_law_1079 : decode cL_law 1079 = .ok (.aload_n 3, 1) := by decide +kernel
theorem dL_law_1080 : decode cL_law 1080 = .ok (.invokestatic 149, 3) := by decide +kernel
theorem dL_law_1083 : decode cL_law 1083 = .ok (.istore 5, 2) := by decide +kernel
theorem dL_law_1085 : decode cL_law 1085 = .ok (.aload_n 2, 1) := by decide +kernel
theorem dL_law_1086 : decode cL_law 1086 = .ok (.aload_n 0, 1) := by decide +kernel
theorem dL_law_1087 : decode cL_law 1087 = .ok (.iload 4, 2) := by decide +kernel
theorem dL_law_1089 : decode cL_law 1089 = .ok (.iconst 1, 1) := by decide +kernel
theorem dL_law_1090 : decode cL_law 1090 = .ok (.iadd, 1) := by decide +kernel
theorem dL_law_1091 : decode cL_law 1091 = .ok (.iaload, 1) := by decide +kernel
theorem dL_law_1092 : decode cL_law 1092 = .ok (.invokevirtual 151, 3) := by decide +kernel
theorem dL_law_1095 : decode cL_law 1095 = .ok (.istore 6, 2) := by decide +kernel
theorem dL_law_1097 : decode cL_law 1097 = .ok (.aload_n 2, 1) := by decide +kernel
theorem dL_law_1098 : decode cL_law 1098 = .ok (.invokevirtual 105, 3) := by decide +kernel
theorem dL_law_1101 : decode cL_law 1101 = .ok (.iload 5, 2) := by decide +kernel
theorem dL_law_1103 : decode cL_law 1103 = .ok (.if_icmp .eq 5, 3) := by decide +kernel
theorem dL_law_1106 : decode cL_law 1106 = .ok (.iconst 0, 1) := by decide +kernel
theorem dL_law_1107 : decode cL_law 1107 = .ok (.ireturn, 1) := by decide +kernel
theorem dL_law_1108 : decode cL_law 1108 = .ok (.iload 5, 2) := by decide +kernel
theorem dL_law_1110 : decode cL_law 1110 = .ok (.ifCond .ne 15, 3) := by decide +kernel
theorem dL_law_1113 : decode cL_law 1113 = .ok (.aload_n 3, 1) := by decide +kernel
theorem dL_law_1114 : decode cL_law 1114 = .ok (.iconst 0, 1) := by decide +kernel
theorem dL_law_1115 : decode cL_law 1115 = .ok (.laload, 1) := by decide +kernel
theorem dL_law_1116 : decode cL_law 1116 = .ok (.iload 6, 2) := by decide +kernel
theorem dL_law_1118 : decode cL_law 1118 = .ok (.i2l, 1) := by decide +kernel
theorem dL_law_1119 : decode cL_law 1119 = .ok (.lcmp, 1) := by decide +kernel
theorem dL_law_1120 : decode cL_law 1120 = .ok (.ifCond .eq 5, 3) := by decide +kernel
theorem dL_law_1123 : decode cL_law 1123 = .ok (.iconst 0, 1) := by decide +kernel
theorem dL_law_1124 : decode cL_law 1124 = .ok (.ireturn, 1) := by decide +kernel
theorem dL_law_1125 : decode cL_law 1125 = .ok (.goto 635, 3) := by decide +kernel
theorem dL_law_1128 : decode cL_law 1128 = .ok (.aload_n 1, 1) := by decide +kernel
theorem dL_law_1129 : decode cL_law 1129 = .ok (.invokevirtual 152, 3) := by decide +kernel
theorem dL_law_1132 : decode cL_law 1132 = .ok (.aload_n 2, 1) := by decide +kernel
theorem dL_law_1133 : decode cL_law 1133 = .ok (.invokevirtual 155, 3) := by decide +kernel
theorem dL_law_1136 : decode cL_law 1136 = .ok (.if_icmp .eq 624, 3) := by decide +kernel
theorem dL_law_1139 : decode cL_law 1139 = .ok (.iconst 0, 1) := by decide +kernel
theorem dL_law_1140 : decode cL_law 1140 = .ok (.ireturn, 1) := by decide +kernel
theorem dL_law_1141 : decode cL_law 1141 = .ok (.aload_n 1, 1) := by decide +kernel
theorem dL_law_1142 : decode cL_law 1142 = .ok (.aload_n 0, 1) := by decide +kernel
theorem dL_law_1143 : decode cL_law 1143 = .ok (.iload 4, 2) := by decide +kernel
theorem dL_law_1145 : decode cL_law 1145 = .ok (.iconst 1, 1) := by decide +kernel
theorem dL_law_1146 : decode cL_law 1146 = .ok (.iadd, 1) := by decide +kernel
theorem dL_law_1147 : decode cL_law 1147 = .ok (.iaload, 1) := by decide +kernel
theorem dL_law_1148 : decode cL_law 1148 = .ok (.aload_n 3, 1) := by decide +kernel
theorem dL_law_1149 : decode cL_law 1149 = .ok (.invokestatic 156, 3) := by decide +kernel
theorem dL_law_1152 : decode cL_law 1152 = .ok (.istore 5, 2) := by decide +kernel
theorem dL_law_1154 : decode cL_law 1154 = .ok (.aload_n 2, 1) := by decide +kernel
theorem dL_law_1155 : decode cL_law 1155 = .ok (.aload_n 0, 1) := by decide +kernel
theorem dL_law_1156 : decode cL_law 1156 = .ok (.iload 4, 2) := by decide +kernel
theorem dL_law_1158 : decode cL_law 1158 = .ok (.iconst 1, 1) := by decide +kernel
theorem dL_law_1159 : decode cL_law 1159 = .ok (.iadd, 1) := by decide +kernel
theorem dL_law_1160 : decode cL_law 1160 = .ok (.iaload, 1) := by decide +kernel
theorem dL_law_1161 : decode cL_law 1161 = .ok (.invokevirtual 158, 3) := by decide +kernel
theorem dL_law_1164 : decode cL_law 1164 = .ok (.istore 6, 2) := by decide +kernel
theorem dL_law_1166 : decode cL_law 1166 = .ok (.aload_n 2, 1) := by decide +kernel
theorem dL_law_1167 : decode cL_law 1167 = .ok (.invokevirtual 105, 3) := by decide +kernel
theorem dL_law_1170 : decode cL_law 1170 = .ok (.iload 5, 2) := by decide +kernel
theorem dL_law_1172 : decode cL_law 1172 = .ok (.if_icmp .eq 5, 3) := by decide +kernel
theorem dL_law_1175 : decode cL_law 1175 = .ok (.iconst 0, 1) := by decide +kernel
theorem dL_law_1176 : decode cL_law 1176 = .ok (.ireturn, 1) := by decide +kernel
theorem dL_law_1177 : decode cL_law 1177 = .ok (.iload 5, 2) := by decide +kernel
theorem dL_law_1179 : decode cL_law 1179 = .ok (.ifCond .ne 15, 3) := by decide +kernel
theorem dL_law_1182 : decode cL_law 1182 = .ok (.aload_n 3, 1) := by decide +kernel
theorem dL_law_1183 : decode cL_law 1183 = .ok (.iconst 0, 1) := by decide +kernel
theorem dL_law_1184 : decode cL_law 1184 = .ok (.laload, 1) := by decide +kernel
theorem dL_law_1185 : decode cL_law 1185 = .ok (.iload 6, 2) := by decide +kernel
theorem dL_law_1187 : decode cL_law 1187 = .ok (.i2l, 1) := by decide +kernel
theorem dL_law_1188 : decode cL_law 1188 = .ok (.lcmp, 1) := by decide +kernel
theorem dL_law_1189 : decode cL_law 1189 = .ok (.ifCond .eq 5, 3) := by decide +kernel
theorem dL_law_1192 : decode cL_law 1192 = .ok (.iconst 0, 1) := by decide +kernel
theorem dL_law_1193 : decode cL_law 1193 = .ok (.ireturn, 1) := by decide +kernel
theorem dL_law_1194 : decode cL_law 1194 = .ok (.goto 566, 3) := by decide +kernel
theorem dL_law_1197 : decode cL_law 1197 = .ok (.aload_n 1, 1) := by decide +kernel
theorem dL_law_1198 : decode cL_law 1198 = .ok (.aload_n 0, 1) := by decide +kernel
theorem dL_law_1199 : decode cL_law 1199 = .ok (.iload 4, 2) := by decide +kernel
theorem dL_law_1201 : decode cL_law 1201 = .ok (.iconst 1, 1) := by decide +kernel
theorem dL_law_1202 : decode cL_law 1202 = .ok (.iadd, 1) := by decide +kernel
theorem dL_law_1203 : decode cL_law 1203 = .ok (.iaload, 1) := by decide +kernel
theorem dL_law_1204 : decode cL_law 1204 = .ok (.aload_n 3, 1) := by decide +kernel
theorem dL_law_1205 : decode cL_law 1205 = .ok (.invokestatic 159, 3) := by decide +kernel
theorem dL_law_1208 : decode cL_law 1208 = .ok (.istore 5, 2) := by decide +kernel
theorem dL_law_1210 : decode cL_law 1210 = .ok (.aload_n 2, 1) := by decide +kernel
theorem dL_law_1211 : decode cL_law 1211 = .ok (.aload_n 0, 1) := by decide +kernel
theorem dL_law_1212 : decode cL_law 1212 = .ok (.iload 4, 2) := by decide +kernel
theorem dL_law_1214 : decode cL_law 1214 = .ok (.iconst 1, 1) := by decide +kernel
theorem dL_law_1215 : decode cL_law 1215 = .ok (.iadd, 1) := by decide +kernel
theorem dL_law_1216 : decode cL_law 1216 = .ok (.iaload, 1) := by decide +kernel
theorem dL_law_1217 : decode cL_law 1217 = .ok (.invokevirtual 161, 3) := by decide +kernel
theorem dL_law_1220 : decode cL_law 1220 = .ok (.istore 6, 2) := by decide +kernel
theorem dL_law_1222 : decode cL_law 1222 = .ok (.aload_n 2, 1) := by decide +kernel
theorem dL_law_1223 : decode cL_law 1223 = .ok (.invokevirtual 105, 3) := by decide +kernel
theorem dL_law_1226 : decode cL_law 1226 = .ok (.iload 5, 2) := by decide +kernel
theorem dL_law_1228 : decode cL_law 1228 = .ok (.if_icmp .eq 5, 3) := by decide +kernel
theorem dL_law_1231 : decode cL_law 1231 = .ok (.iconst 0, 1) := by decide +kernel
theorem dL_law_1232 : decode cL_law 1232 = .ok (.ireturn, 1) := by decide +kernel
theorem dL_law_1233 : decode cL_law 1233 = .ok (.iload 5, 2) := by decide +kernel
theorem dL_law_1235 : decode cL_law 1235 = .ok (.ifCond .ne 15, 3) := by decide +kernel
theorem dL_law_1238 : decode cL_law 1238 = .ok (.aload_n 3, 1) := by decide +kernel
theorem dL_law_1239 : decode cL_law 1239 = .ok (.iconst 0, 1) := by decide +kernel
theorem dL_law_1240 : decode cL_law 1240 = .ok (.laload, 1) := by decide +kernel
theorem dL_law_1241 : decode cL_law 1241 = .ok (.iload 6, 2) := by decide +kernel
theorem dL_law_1243 : decode cL_law 1243 = .ok (.i2l, 1) := by decide +kernel
theorem dL_law_1244 : decode cL_law 1244 = .ok (.lcmp, 1) := by decide +kernel
theorem dL_law_1245 : decode cL_law 1245 = .ok (.ifCond .eq 5, 3) := by decide +kernel
theorem dL_law_1248 : decode cL_law 1248 = .ok (.iconst 0, 1) := by decide +kernel
theorem dL_law_1249 : decode cL_law 1249 = .ok (.ireturn, 1) := by decide +kernel
theorem dL_law_1250 : decode cL_law 1250 = .ok (.goto 510, 3) := by decide +kernel
theorem dL_law_1253 : decode cL_law 1253 = .ok (.aload_n 1, 1) := by decide +kernel
theorem dL_law_1254 : decode cL_law 1254 = .ok (.aload_n 0, 1) := by decide +kernel
theorem dL_law_1255 : decode cL_law 1255 = .ok (.iload 4, 2) := by decide +kernel
theorem dL_law_1257 : decode cL_law 1257 = .ok (.iconst 1, 1) := by decide +kernel
theorem dL_law_1258 : decode cL_law 1258 = .ok (.iadd, 1) := by decide +kernel
theorem dL_law_1259 : decode cL_law 1259 = .ok (.iaload, 1) := by decide +kernel
theorem dL_law_1260 : decode cL_law 1260 = .ok (.aload_n 3, 1) := by decide +kernel
theorem dL_law_1261 : decode cL_law 1261 = .ok (.invokestatic 162, 3) := by decide +kernel
theorem dL_law_1264 : decode cL_law 1264 = .ok (.istore 5, 2) := by decide +kernel
theorem dL_law_1266 : decode cL_law 1266 = .ok (.aload_n 2, 1) := by decide +kernel
theorem dL_law_1267 : decode cL_law 1267 = .ok (.aload_n 0, 1) := by decide +kernel
theorem dL_law_1268 : decode cL_law 1268 = .ok (.iload 4, 2) := by decide +kernel
theorem dL_law_1270 : decode cL_law 1270 = .ok (.iconst 1, 1) := by decide +kernel
theorem dL_law_1271 : decode cL_law 1271 = .ok (.iadd, 1) := by decide +kernel
theorem dL_law_1272 : decode cL_law 1272 = .ok (.iaload, 1) := by decide +kernel
theorem dL_law_1273 : decode cL_law 1273 = .ok (.invokevirtual 164, 3) := by decide +kernel
theorem dL_law_1276 : decode cL_law 1276 = .ok (.istore 6, 2) := by decide +kernel
theorem dL_law_1278 : decode cL_law 1278 = .ok (.aload_n 2, 1) := by decide +kernel
theorem dL_law_1279 : decode cL_law 1279 = .ok (.invokevirtual 105, 3) := by decide +kernel
theorem dL_law_1282 : decode cL_law 1282 = .ok (.iload 5, 2) := by decide +kernel
theorem dL_law_1284 : decode cL_law 1284 = .ok (.if_icmp .eq 5, 3) := by decide +kernel
theorem dL_law_1287 : decode cL_law 1287 = .ok (.iconst 0, 1) := by decide +kernel
theorem dL_law_1288 : decode cL_law 1288 = .ok (.ireturn, 1) := by decide +kernel
theorem dL_law_1289 : decode cL_law 1289 = .ok (.iload 5, 2) := by decide +kernel
theorem dL_law_1291 : decode cL_law 1291 = .ok (.ifCond .ne 15, 3) := by decide +kernel
theorem dL_law_1294 : decode cL_law 1294 = .ok (.aload_n 3, 1) := by decide +kernel
theorem dL_law_1295 : decode cL_law 1295 = .ok (.iconst 0, 1) := by decide +kernel
theorem dL_law_1296 : decode cL_law 1296 = .ok (.laload, 1) := by decide +kernel
theorem dL_law_1297 : decode cL_law 1297 = .ok (.iload 6, 2) := by decide +kernel
theorem dL_law_1299 : decode cL_law 1299 = .ok (.i2l, 1) := by decide +kernel
theorem dL_law_1300 : decode cL_law 1300 = .ok (.lcmp, 1) := by decide +kernel
theorem dL_law_1301 : decode cL_law 1301 = .ok (.ifCond .eq 5, 3) := by decide +kernel
theorem dL_law_1304 : decode cL_law 1304 = .ok (.iconst 0, 1) := by decide +kernel
theorem dL_law_1305 : decode cL_law 1305 = .ok (.ireturn, 1) := by decide +kernel
theorem dL_law_1306 : decode cL_law 1306 = .ok (.goto 454, 3) := by decide +kernel
theorem dL_law_1309 : decode cL_law 1309 = .ok (.aload_n 1, 1) := by decide +kernel
theorem dL_law_1310 : decode cL_law 1310 = .ok (.aload_n 0, 1) := by decide +kernel
theorem dL_law_1311 : decode cL_law 1311 = .ok (.iload 4, 2) := by decide +kernel
theorem dL_law_1313 : decode cL_law 1313 = .ok (.iconst 1, 1) := by decide +kernel
theorem dL_law_1314 : decode cL_law 1314 = .ok (.iadd, 1) := by decide +kernel
theorem dL_law_1315 : decode cL_law 1315 = .ok (.iaload, 1) := by decide +kernel
theorem dL_law_1316 : decode cL_law 1316 = .ok (.aload_n 3, 1) := by decide +kernel
theorem dL_law_1317 : decode cL_law 1317 = .ok (.invokestatic 165, 3) := by decide +kernel
theorem dL_law_1320 : decode cL_law 1320 = .ok (.istore 5, 2) := by decide +kernel
theorem dL_law_1322 : decode cL_law 1322 = .ok (.aload_n 2, 1) := by decide +kernel
theorem dL_law_1323 : decode cL_law 1323 = .ok (.aload_n 0, 1) := by decide +kernel
theorem dL_law_1324 : decode cL_law 1324 = .ok (.iload 4, 2) := by decide +kernel
theorem dL_law_1326 : decode cL_law 1326 = .ok (.iconst 1, 1) := by decide +kernel
theorem dL_law_1327 : decode cL_law 1327 = .ok (.iadd, 1) := by decide +kernel
theorem dL_law_1328 : decode cL_law 1328 = .ok (.iaload, 1) := by decide +kernel
theorem dL_law_1329 : decode cL_law 1329 = .ok (.invokevirtual 167, 3) := by decide +kernel
theorem dL_law_1332 : decode cL_law 1332 = .ok (.istore 6, 2) := by decide +kernel
theorem dL_law_1334 : decode cL_law 1334 = .ok (.aload_n 2, 1) := by decide +kernel
theorem dL_law_1335 : decode cL_law 1335 = .ok (.invokevirtual 105, 3) := by decide +kernel
theorem dL_law_1338 : decode cL_law 1338 = .ok (.iload 5, 2) := by decide +kernel
theorem dL_law_1340 : decode cL_law 1340 = .ok (.if_icmp .eq 5, 3) := by decide +kernel
theorem dL_law_1343 : decode cL_law 1343 = .ok (.iconst 0, 1) := by decide +kernel
theorem dL_law_1344 : decode cL_law 1344 = .ok (.ireturn, 1) := by decide +kernel
theorem dL_law_1345 : decode cL_law 1345 = .ok (.iload 5, 2) := by decide +kernel
theorem dL_law_1347 : decode cL_law 1347 = .ok (.ifCond .ne 15, 3) := by decide +kernel
theorem dL_law_1350 : decode cL_law 1350 = .ok (.aload_n 3, 1) := by decide +kernel
theorem dL_law_1351 : decode cL_law 1351 = .ok (.iconst 0, 1) := by decide +kernel
theorem dL_law_1352 : decode cL_law 1352 = .ok (.laload, 1) := by decide +kernel
theorem dL_law_1353 : decode cL_law 1353 = .ok (.iload 6, 2) := by decide +kernel
theorem dL_law_1355 : decode cL_law 1355 = .ok (.i2l, 1) := by decide +kernel
theorem dL_law_1356 : decode cL_law 1356 = .ok (.lcmp, 1) := by decide +kernel
theorem dL_law_1357 : decode cL_law 1357 = .ok (.ifCond .eq 5, 3) := by decide +kernel
theorem dL_law_1360 : decode cL_law 1360 = .ok (.iconst 0, 1) := by decide +kernel
theorem dL_law_1361 : decode cL_law 1361 = .ok (.ireturn, 1) := by decide +kernel
theorem dL_law_1362 : decode cL_law 1362 = .ok (.goto 398, 3) := by decide +kernel
theorem dL_law_1365 : decode cL_law 1365 = .ok (.aload_n 1, 1) := by decide +kernel
theorem dL_law_1366 : decode cL_law 1366 = .ok (.aload_n 0, 1) := by decide +kernel
theorem dL_law_1367 : decode cL_law 1367 = .ok (.iload 4, 2) := by decide +kernel
theorem dL_law_1369 : decode cL_law 1369 = .ok (.iconst 1, 1) := by decide +kernel
theorem dL_law_1370 : decode cL_law 1370 = .ok (.iadd, 1) := by decide +kernel
theorem dL_law_1371 : decode cL_law 1371 = .ok (.iaload, 1) := by decide +kernel
theorem dL_law_1372 : decode cL_law 1372 = .ok (.aload_n 3, 1) := by decide +kernel
theorem dL_law_1373 : decode cL_law 1373 = .ok (.invokestatic 168, 3) := by decide +kernel
theorem dL_law_1376 : decode cL_law 1376 = .ok (.istore 5, 2) := by decide +kernel
theorem dL_law_1378 : decode cL_law 1378 = .ok (.aload_n 2, 1) := by decide +kernel
theorem dL_law_1379 : decode cL_law 1379 = .ok (.aload_n 0, 1) := by decide +kernel
theorem dL_law_1380 : decode cL_law 1380 = .ok (.iload 4, 2) := by decide +kernel
theorem dL_law_1382 : decode cL_law 1382 = .ok (.iconst 1, 1) := by decide +kernel
theorem dL_law_1383 : decode cL_law 1383 = .ok (.iadd, 1) := by decide +kernel
theorem dL_law_1384 : decode cL_law 1384 = .ok (.iaload, 1) := by decide +kernel
theorem dL_law_1385 : decode cL_law 1385 = .ok (.invokevirtual 170, 3) := by decide +kernel
theorem dL_law_1388 : decode cL_law 1388 = .ok (.istore 6, 2) := by decide +kernel
theorem dL_law_1390 : decode cL_law 1390 = .ok (.aload_n 2, 1) := by decide +kernel
theorem dL_law_1391 : decode cL_law 1391 = .ok (.invokevirtual 105, 3) := by decide +kernel
theorem dL_law_1394 : decode cL_law 1394 = .ok (.iload 5, 2) := by decide +kernel
theorem dL_law_1396 : decode cL_law 1396 = .ok (.if_icmp .eq 5, 3) := by decide +kernel
theorem dL_law_1399 : decode cL_law 1399 = .ok (.iconst 0, 1) := by decide +kernel
theorem dL_law_1400 : decode cL_law 1400 = .ok (.ireturn, 1) := by decide +kernel
theorem dL_law_1401 : decode cL_law 1401 = .ok (.iload 5, 2) := by decide +kernel
theorem dL_law_1403 : decode cL_law 1403 = .ok (.ifCond .ne 22, 3) := by decide +kernel
theorem dL_law_1406 : decode cL_law 1406 = .ok (.aload_n 3, 1) := by decide +kernel
theorem dL_law_1407 : decode cL_law 1407 = .ok (.iconst 0, 1) := by decide +kernel
theorem dL_law_1408 : decode cL_law 1408 = .ok (.laload, 1) := by decide +kernel
theorem dL_law_1409 : decode cL_law 1409 = .ok (.iload 6, 2) := by decide +kernel
theorem dL_law_1411 : decode cL_law 1411 = .ok (.ifCond .eq 7, 3) := by decide +kernel
theorem dL_law_1414 : decode cL_law 1414 = .ok (.lconst 1, 1) := by decide +kernel
theorem dL_law_1415 : decode cL_law 1415 = .ok (.goto 4, 3) := by decide +kernel
theorem dL_law_1418 : decode cL_law 1418 = .ok (.lconst 0, 1) := by decide +kernel
theorem dL_law_1419 : decode cL_law 1419 = .ok (.lcmp, 1) := by decide +kernel
theorem dL_law_1420 : decode cL_law 1420 = .ok (.ifCond .eq 5, 3) := by decide +kernel
theorem dL_law_1423 : decode cL_law 1423 = .ok (.iconst 0, 1) := by decide +kernel
theorem dL_law_1424 : decode cL_law 1424 = .ok (.ireturn, 1) := by decide +kernel
theorem dL_law_1425 : decode cL_law 1425 = .ok (.goto 335, 3) := by decide +kernel
theorem dL_law_1428 : decode cL_law 1428 = .ok (.aload_n 1, 1) := by decide +kernel
theorem dL_law_1429 : decode cL_law 1429 = .ok (.aload_n 0, 1) := by decide +kernel
theorem dL_law_1430 : decode cL_law 1430 = .ok (.iload 4, 2) := by decide +kernel
theorem dL_law_1432 : decode cL_law 1432 = .ok (.iconst 1, 1) := by decide +kernel
theorem dL_law_1433 : decode cL_law 1433 = .ok (.iadd, 1) := by decide +kernel
theorem dL_law_1434 : decode cL_law 1434 = .ok (.iaload, 1) := by decide +kernel
theorem dL_law_1435 : decode cL_law 1435 = .ok (.aload_n 3, 1) := by decide +kernel
theorem dL_law_1436 : decode cL_law 1436 = .ok (.invokestatic 171, 3) := by decide +kernel
theorem dL_law_1439 : decode cL_law 1439 = .ok (.istore 5, 2) := by decide +kernel
theorem dL_law_1441 : decode cL_law 1441 = .ok (.aload_n 2, 1) := by decide +kernel
theorem dL_law_1442 : decode cL_law 1442 = .ok (.aload_n 0, 1) := by decide +kernel
theorem dL_law_1443 : decode cL_law 1443 = .ok (.iload 4, 2) := by decide +kernel
theorem dL_law_1445 : decode cL_law 1445 = .ok (.iconst 1, 1) := by decide +kernel
theorem dL_law_1446 : decode cL_law 1446 = .ok (.iadd, 1) := by decide +kernel
theorem dL_law_1447 : decode cL_law 1447 = .ok (.iaload, 1) := by decide +kernel
theorem dL_law_1448 : decode cL_law 1448 = .ok (.invokevirtual 173, 3) := by decide +kernel
theorem dL_law_1451 : decode cL_law 1451 = .ok (.istore 6, 2) := by decide +kernel
theorem dL_law_1453 : decode cL_law 1453 = .ok (.aload_n 2, 1) := by decide +kernel
theorem dL_law_1454 : decode cL_law 1454 = .ok (.invokevirtual 105, 3) := by decide +kernel
theorem dL_law_1457 : decode cL_law 1457 = .ok (.iload 5, 2) := by decide +kernel
theorem dL_law_1459 : decode cL_law 1459 = .ok (.if_icmp .eq 5, 3) := by decide +kernel
theorem dL_law_1462 : decode cL_law 1462 = .ok (.iconst 0, 1) := by decide +kernel
theorem dL_law_1463 : decode cL_law 1463 = .ok (.ireturn, 1) := by decide +kernel
theorem dL_law_1464 : decode cL_law 1464 = .ok (.iload 5, 2) := by decide +kernel
theorem dL_law_1466 : decode cL_law 1466 = .ok (.ifCond .ne 15, 3) := by decide +kernel
theorem dL_law_1469 : decode cL_law 1469 = .ok (.aload_n 3, 1) := by decide +kernel
theorem dL_law_1470 : decode cL_law 1470 = .ok (.iconst 0, 1) := by decide +kernel
theorem dL_law_1471 : decode cL_law 1471 = .ok (.laload, 1) := by decide +kernel
theorem dL_law_1472 : decode cL_law 1472 = .ok (.iload 6, 2) := by decide +kernel
theorem dL_law_1474 : decode cL_law 1474 = .ok (.i2l, 1) := by decide +kernel
theorem dL_law_1475 : decode cL_law 1475 = .ok (.lcmp, 1) := by decide +kernel
theorem dL_law_1476 : decode cL_law 1476 = .ok (.ifCond .eq 5, 3) := by decide +kernel
theorem dL_law_1479 : decode cL_law 1479 = .ok (.iconst 0, 1) := by decide +kernel
theorem dL_law_1480 : decode cL_law 1480 = .ok (.ireturn, 1) := by decide +kernel
theorem dL_law_1481 : decode cL_law 1481 = .ok (.goto 279, 3) := by decide +kernel
theorem dL_law_1484 : decode cL_law 1484 = .ok (.aload_n 1, 1) := by decide +kernel
theorem dL_law_1485 : decode cL_law 1485 = .ok (.aload_n 0, 1) := by decide +kernel
theorem dL_law_1486 : decode cL_law 1486 = .ok (.iload 4, 2) := by decide +kernel
theorem dL_law_1488 : decode cL_law 1488 = .ok (.iconst 1, 1) := by decide +kernel
theorem dL_law_1489 : decode cL_law 1489 = .ok (.iadd, 1) := by decide +kernel
theorem dL_law_1490 : decode cL_law 1490 = .ok (.iaload, 1) := by decide +kernel
theorem dL_law_1491 : decode cL_law 1491 = .ok (.aload_n 3, 1) := by decide +kernel
theorem dL_law_1492 : decode cL_law 1492 = .ok (.invokestatic 174, 3) := by decide +kernel
theorem dL_law_1495 : decode cL_law 1495 = .ok (.istore 5, 2) := by decide +kernel
theorem dL_law_1497 : decode cL_law 1497 = .ok (.aload_n 2, 1) := by decide +kernel
theorem dL_law_1498 : decode cL_law 1498 = .ok (.aload_n 0, 1) := by decide +kernel
theorem dL_law_1499 : decode cL_law 1499 = .ok (.iload 4, 2) := by decide +kernel
theorem dL_law_1501 : decode cL_law 1501 = .ok (.iconst 1, 1) := by decide +kernel
theorem dL_law_1502 : decode cL_law 1502 = .ok (.iadd, 1) := by decide +kernel
theorem dL_law_1503 : decode cL_law 1503 = .ok (.iaload, 1) := by decide +kernel
theorem dL_law_1504 : decode cL_law 1504 = .ok (.invokevirtual 176, 3) := by decide +kernel
theorem dL_law_1507 : decode cL_law 1507 = .ok (.istore 6, 2) := by decide +kernel
theorem dL_law_1509 : decode cL_law 1509 = .ok (.aload_n 2, 1) := by decide +kernel
theorem dL_law_1510 : decode cL_law 1510 = .ok (.invokevirtual 105, 3) := by decide +kernel
theorem dL_law_1513 : decode cL_law 1513 = .ok (.iload 5, 2) := by decide +kernel
theorem dL_law_1515 : decode cL_law 1515 = .ok (.if_icmp .eq 5, 3) := by decide +kernel
theorem dL_law_1518 : decode cL_law 1518 = .ok (.iconst 0, 1) := by decide +kernel
theorem dL_law_1519 : decode cL_law 1519 = .ok (.ireturn, 1) := by decide +kernel
theorem dL_law_1520 : decode cL_law 1520 = .ok (.iload 5, 2) := by decide +kernel
theorem dL_law_1522 : decode cL_law 1522 = .ok (.ifCond .ne 15, 3) := by decide +kernel
theorem dL_law_1525 : decode cL_law 1525 = .ok (.aload_n 3, 1) := by decide +kernel
theorem dL_law_1526 : decode cL_law 1526 = .ok (.iconst 0, 1) := by decide +kernel
theorem dL_law_1527 : decode cL_law 1527 = .ok (.laload, 1) := by decide +kernel
theorem dL_law_1528 : decode cL_law 1528 = .ok (.iload 6, 2) := by decide +kernel
theorem dL_law_1530 : decode cL_law 1530 = .ok (.i2l, 1) := by decide +kernel
theorem dL_law_1531 : decode cL_law 1531 = .ok (.lcmp, 1) := by decide +kernel
theorem dL_law_1532 : decode cL_law 1532 = .ok (.ifCond .eq 5, 3) := by decide +kernel
theorem dL_law_1535 : decode cL_law 1535 = .ok (.iconst 0, 1) := by decide +kernel
theorem dL_law_1536 : decode cL_law 1536 = .ok (.ireturn, 1) := by decide +kernel
theorem dL_law_1537 : decode cL_law 1537 = .ok (.goto 223, 3) := by decide +kernel
theorem dL_law_1540 : decode cL_law 1540 = .ok (.aload_n 1, 1) := by decide +kernel
theorem dL_law_1541 : decode cL_law 1541 = .ok (.aload_n 0, 1) := by decide +kernel
theorem dL_law_1542 : decode cL_law 1542 = .ok (.iload 4, 2) := by decide +kernel
theorem dL_law_1544 : decode cL_law 1544 = .ok (.iconst 1, 1) := by decide +kernel
theorem dL_law_1545 : decode cL_law 1545 = .ok (.iadd, 1) := by decide +kernel
theorem dL_law_1546 : decode cL_law 1546 = .ok (.iaload, 1) := by decide +kernel
theorem dL_law_1547 : decode cL_law 1547 = .ok (.aload_n 3, 1) := by decide +kernel
theorem dL_law_1548 : decode cL_law 1548 = .ok (.invokestatic 177, 3) := by decide +kernel
theorem dL_law_1551 : decode cL_law 1551 = .ok (.istore 5, 2) := by decide +kernel
theorem dL_law_1553 : decode cL_law 1553 = .ok (.aload_n 2, 1) := by decide +kernel
theorem dL_law_1554 : decode cL_law 1554 = .ok (.aload_n 0, 1) := by decide +kernel
theorem dL_law_1555 : decode cL_law 1555 = .ok (.iload 4, 2) := by decide +kernel
theorem dL_law_1557 : decode cL_law 1557 = .ok (.iconst 1, 1) := by decide +kernel
theorem dL_law_1558 : decode cL_law 1558 = .ok (.iadd, 1) := by decide +kernel
theorem dL_law_1559 : decode cL_law 1559 = .ok (.iaload, 1) := by decide +kernel
theorem dL_law_1560 : decode cL_law 1560 = .ok (.invokevirtual 179, 3) := by decide +kernel
theorem dL_law_1563 : decode cL_law 1563 = .ok (.istore 6, 2) := by decide +kernel
theorem dL_law_1565 : decode cL_law 1565 = .ok (.aload_n 2, 1) := by decide +kernel
theorem dL_law_1566 : decode cL_law 1566 = .ok (.invokevirtual 105, 3) := by decide +kernel
theorem dL_law_1569 : decode cL_law 1569 = .ok (.iload 5, 2) := by decide +kernel
theorem dL_law_1571 : decode cL_law 1571 = .ok (.if_icmp .eq 5, 3) := by decide +kernel
theorem dL_law_1574 : decode cL_law 1574 = .ok (.iconst 0, 1) := by decide +kernel
theorem dL_law_1575 : decode cL_law 1575 = .ok (.ireturn, 1) := by decide +kernel
theorem dL_law_1576 : decode cL_law 1576 = .ok (.iload 5, 2) := by decide +kernel
theorem dL_law_1578 : decode cL_law 1578 = .ok (.ifCond .ne 15, 3) := by decide +kernel
theorem dL_law_1581 : decode cL_law 1581 = .ok (.aload_n 3, 1) := by decide +kernel
theorem dL_law_1582 : decode cL_law 1582 = .ok (.iconst 0, 1) := by decide +kernel
theorem dL_law_1583 : decode cL_law 1583 = .ok (.laload, 1) := by decide +kernel
theorem dL_law_1584 : decode cL_law 1584 = .ok (.iload 6, 2) := by decide +kernel
theorem dL_law_1586 : decode cL_law 1586 = .ok (.i2l, 1) := by decide +kernel
theorem dL_law_1587 : decode cL_law 1587 = .ok (.lcmp, 1) := by decide +kernel
theorem dL_law_1588 : decode cL_law 1588 = .ok (.ifCond .eq 5, 3) := by decide +kernel
theorem dL_law_1591 : decode cL_law 1591 = .ok (.iconst 0, 1) := by decide +kernel
theorem dL_law_1592 : decode cL_law 1592 = .ok (.ireturn, 1) := by decide +kernel
theorem dL_law_1593 : decode cL_law 1593 = .ok (.goto 167, 3) := by decide +kernel
theorem dL_law_1596 : decode cL_law 1596 = .ok (.aload_n 1, 1) := by decide +kernel
theorem dL_law_1597 : decode cL_law 1597 = .ok (.aload_n 0, 1) := by decide +kernel
theorem dL_law_1598 : decode cL_law 1598 = .ok (.iload 4, 2) := by decide +kernel
theorem dL_law_1600 : decode cL_law 1600 = .ok (.iconst 1, 1) := by decide +kernel
theorem dL_law_1601 : decode cL_law 1601 = .ok (.iadd, 1) := by decide +kernel
theorem dL_law_1602 : decode cL_law 1602 = .ok (.iaload, 1) := by decide +kernel
theorem dL_law_1603 : decode cL_law 1603 = .ok (.aload_n 3, 1) := by decide +kernel
theorem dL_law_1604 : decode cL_law 1604 = .ok (.invokestatic 180, 3) := by decide +kernel
theorem dL_law_1607 : decode cL_law 1607 = .ok (.istore 5, 2) := by decide +kernel
theorem dL_law_1609 : decode cL_law 1609 = .ok (.aload_n 2, 1) := by decide +kernel
theorem dL_law_1610 : decode cL_law 1610 = .ok (.aload_n 0, 1) := by decide +kernel
theorem dL_law_1611 : decode cL_law 1611 = .ok (.iload 4, 2) := by decide +kernel
theorem dL_law_1613 : decode cL_law 1613 = .ok (.iconst 1, 1) := by decide +kernel
theorem dL_law_1614 : decode cL_law 1614 = .ok (.iadd, 1) := by decide +kernel
theorem dL_law_1615 : decode cL_law 1615 = .ok (.iaload, 1) := by decide +kernel
theorem dL_law_1616 : decode cL_law 1616 = .ok (.invokevirtual 182, 3) := by decide +kernel
theorem dL_law_1619 : decode cL_law 1619 = .ok (.istore 6, 2) := by decide +kernel
theorem dL_law_1621 : decode cL_law 1621 = .ok (.aload_n 2, 1) := by decide +kernel
theorem dL_law_1622 : decode cL_law 1622 = .ok (.invokevirtual 105, 3) := by decide +kernel
theorem dL_law_1625 : decode cL_law 1625 = .ok (.iload 5, 2) := by decide +kernel
theorem dL_law_1627 : decode cL_law 1627 = .ok (.if_icmp .eq 5, 3) := by decide +kernel
theorem dL_law_1630 : decode cL_law 1630 = .ok (.iconst 0, 1) := by decide +kernel
theorem dL_law_1631 : decode cL_law 1631 = .ok (.ireturn, 1) := by decide +kernel
theorem dL_law_1632 : decode cL_law 1632 = .ok (.iload 5, 2) := by decide +kernel
theorem dL_law_1634 : decode cL_law 1634 = .ok (.ifCond .ne 15, 3) := by decide +kernel
theorem dL_law_1637 : decode cL_law 1637 = .ok (.aload_n 3, 1) := by decide +kernel
theorem dL_law_1638 : decode cL_law 1638 = .ok (.iconst 0, 1) := by decide +kernel
theorem dL_law_1639 : decode cL_law 1639 = .ok (.laload, 1) := by decide +kernel
theorem dL_law_1640 : decode cL_law 1640 = .ok (.iload 6, 2) := by decide +kernel
theorem dL_law_1642 : decode cL_law 1642 = .ok (.i2l, 1) := by decide +kernel
theorem dL_law_1643 : decode cL_law 1643 = .ok (.lcmp, 1) := by decide +kernel
theorem dL_law_1644 : decode cL_law 1644 = .ok (.ifCond .eq 5, 3) := by decide +kernel
theorem dL_law_1647 : decode cL_law 1647 = .ok (.iconst 0, 1) := by decide +kernel
theorem dL_law_1648 : decode cL_law 1648 = .ok (.ireturn, 1) := by decide +kernel
theorem dL_law_1649 : decode cL_law 1649 = .ok (.goto 111, 3) := by decide +kernel
theorem dL_law_1652 : decode cL_law 1652 = .ok (.aload_n 1, 1) := by decide +kernel
theorem dL_law_1653 : decode cL_law 1653 = .ok (.aload_n 0, 1) := by decide +kernel
theorem dL_law_1654 : decode cL_law 1654 = .ok (.iload 4, 2) := by decide +kernel
theorem dL_law_1656 : decode cL_law 1656 = .ok (.iconst 1, 1) := by decide +kernel
theorem dL_law_1657 : decode cL_law 1657 = .ok (.iadd, 1) := by decide +kernel
theorem dL_law_1658 : decode cL_law 1658 = .ok (.iaload, 1) := by decide +kernel
theorem dL_law_1659 : decode cL_law 1659 = .ok (.aload_n 3, 1) := by decide +kernel
theorem dL_law_1660 : decode cL_law 1660 = .ok (.invokestatic 183, 3) := by decide +kernel
theorem dL_law_1663 : decode cL_law 1663 = .ok (.istore 5, 2) := by decide +kernel
theorem dL_law_1665 : decode cL_law 1665 = .ok (.aload_n 2, 1) := by decide +kernel
theorem dL_law_1666 : decode cL_law 1666 = .ok (.aload_n 0, 1) := by decide +kernel
theorem dL_law_1667 : decode cL_law 1667 = .ok (.iload 4, 2) := by decide +kernel
theorem dL_law_1669 : decode cL_law 1669 = .ok (.iconst 1, 1) := by decide +kernel
theorem dL_law_1670 : decode cL_law 1670 = .ok (.iadd, 1) := by decide +kernel
theorem dL_law_1671 : decode cL_law 1671 = .ok (.iaload, 1) := by decide +kernel
theorem dL_law_1672 : decode cL_law 1672 = .ok (.invokevirtual 185, 3) := by decide +kernel
theorem dL_law_1675 : decode cL_law 1675 = .ok (.istore 6, 2) := by decide +kernel
theorem dL_law_1677 : decode cL_law 1677 = .ok (.aload_n 2, 1) := by decide +kernel
theorem dL_law_1678 : decode cL_law 1678 = .ok (.invokevirtual 105, 3) := by decide +kernel
theorem dL_law_1681 : decode cL_law 1681 = .ok (.iload 5, 2) := by decide +kernel
theorem dL_law_1683 : decode cL_law 1683 = .ok (.if_icmp .eq 5, 3) := by decide +kernel
theorem dL_law_1686 : decode cL_law 1686 = .ok (.iconst 0, 1) := by decide +kernel
theorem dL_law_1687 : decode cL_law 1687 = .ok (.ireturn, 1) := by decide +kernel
theorem dL_law_1688 : decode cL_law 1688 = .ok (.iload 5, 2) := by decide +kernel
theorem dL_law_1690 : decode cL_law 1690 = .ok (.ifCond .ne 15, 3) := by decide +kernel
theorem dL_law_1693 : decode cL_law 1693 = .ok (.aload_n 3, 1) := by decide +kernel
theorem dL_law_1694 : decode cL_law 1694 = .ok (.iconst 0, 1) := by decide +kernel
theorem dL_law_1695 : decode cL_law 1695 = .ok (.laload, 1) := by decide +kernel
theorem dL_law_1696 : decode cL_law 1696 = .ok (.iload 6, 2) := by decide +kernel
theorem dL_law_1698 : decode cL_law 1698 = .ok (.i2l, 1) := by decide +kernel
theorem dL_law_1699 : decode cL_law 1699 = .ok (.lcmp, 1) := by decide +kernel
theorem dL_law_1700 : decode cL_law 1700 = .ok (.ifCond .eq 5, 3) := by decide +kernel
theorem dL_law_1703 : decode cL_law 1703 = .ok (.iconst 0, 1) := by decide +kernel
theorem dL_law_1704 : decode cL_law 1704 = .ok (.ireturn, 1) := by decide +kernel
theorem dL_law_1705 : decode cL_law 1705 = .ok (.goto 55, 3) := by decide +kernel
theorem dL_law_1708 : decode cL_law 1708 = .ok (.aload_n 1, 1) := by decide +kernel
theorem dL_law_1709 : decode cL_law 1709 = .ok (.invokevirtual 186, 3) := by decide +kernel
theorem dL_law_1712 : decode cL_law 1712 = .ok (.aload_n 2, 1) := by decide +kernel
theorem dL_law_1713 : decode cL_law 1713 = .ok (.invokevirtual 189, 3) := by decide +kernel
theorem dL_law_1716 : decode cL_law 1716 = .ok (.if_icmp .eq 44, 3) := by decide +kernel
theorem dL_law_1719 : decode cL_law 1719 = .ok (.iconst 0, 1) := by decide +kernel
theorem dL_law_1720 : decode cL_law 1720 = .ok (.ireturn, 1) := by decide +kernel
theorem dL_law_1721 : decode cL_law 1721 = .ok (.aload_n 1, 1) := by decide +kernel
theorem dL_law_1722 : decode cL_law 1722 = .ok (.invokevirtual 190, 3) := by decide +kernel
theorem dL_law_1725 : decode cL_law 1725 = .ok (.aload_n 2, 1) := by decide +kernel
theorem dL_law_1726 : decode cL_law 1726 = .ok (.invokevirtual 193, 3) := by decide +kernel
theorem dL_law_1729 : decode cL_law 1729 = .ok (.if_icmp .eq 31, 3) := by decide +kernel
theorem dL_law_1732 : decode cL_law 1732 = .ok (.iconst 0, 1) := by decide +kernel
theorem dL_law_1733 : decode cL_law 1733 = .ok (.ireturn, 1) := by decide +kernel
theorem dL_law_1734 : decode cL_law 1734 = .ok (.aload_n 1, 1) := by decide +kernel
theorem dL_law_1735 : decode cL_law 1735 = .ok (.invokevirtual 194, 3) := by decide +kernel
theorem dL_law_1738 : decode cL_law 1738 = .ok (.aload_n 2, 1) := by decide +kernel
theorem dL_law_1739 : decode cL_law 1739 = .ok (.invokevirtual 197, 3) := by decide +kernel
theorem dL_law_1742 : decode cL_law 1742 = .ok (.if_icmp .eq 18, 3) := by decide +kernel
theorem dL_law_1745 : decode cL_law 1745 = .ok (.iconst 0, 1) := by decide +kernel
theorem dL_law_1746 : decode cL_law 1746 = .ok (.ireturn, 1) := by decide +kernel
theorem dL_law_1747 : decode cL_law 1747 = .ok (.aload_n 1, 1) := by decide +kernel
theorem dL_law_1748 : decode cL_law 1748 = .ok (.invokevirtual 198, 3) := by decide +kernel
theorem dL_law_1751 : decode cL_law 1751 = .ok (.aload_n 2, 1) := by decide +kernel
theorem dL_law_1752 : decode cL_law 1752 = .ok (.invokevirtual 201, 3) := by decide +kernel
theorem dL_law_1755 : decode cL_law 1755 = .ok (.if_icmp .eq 5, 3) := by decide +kernel
theorem dL_law_1758 : decode cL_law 1758 = .ok (.iconst 0, 1) := by decide +kernel
theorem dL_law_1759 : decode cL_law 1759 = .ok (.ireturn, 1) := by decide +kernel
theorem dL_law_1760 : decode cL_law 1760 = .ok (.iinc 4 4, 3) := by decide +kernel
theorem dL_law_1763 : decode cL_law 1763 = .ok (.goto (-1740), 3) := by decide +kernel
theorem dL_law_1766 : decode cL_law 1766 = .ok (.iconst 1, 1) := by decide +kernel
theorem dL_law_1767 : decode cL_law 1767 = .ok (.ireturn, 1) := by decide +kernel
