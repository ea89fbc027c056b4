/-! DECODE ROWS (by program) -/
theorem dB_init_0 : decode cB_init 0 = .ok (.aload_n 0, 1) := by decide +kernel
theorem dB_init_1 : decode cB_init 1 = .ok (.invokespecial 3, 3) := by decide +kernel
theorem dB_init_4 : decode cB_init 4 = .ok (.aload_n 0, 1) := by decide +kernel
theorem dB_init_5 : decode cB_init 5 = .ok (.iconst 3, 1) := by decide +kernel
theorem dB_init_6 : decode cB_init 6 = .ok (.newarray .int, 2) := by decide +kernel
theorem dB_init_8 : decode cB_init 8 = .ok (.putfield 9, 3) := by decide +kernel
theorem dB_init_11 : decode cB_init 11 = .ok (.aload_n 0, 1) := by decide +kernel
theorem dB_init_12 : decode cB_init 12 = .ok (.bipush 12, 2) := by decide +kernel
theorem dB_init_14 : decode cB_init 14 = .ok (.anewarray 13, 3) := by decide +kernel
theorem dB_init_17 : decode cB_init 17 = .ok (.putfield 15, 3) := by decide +kernel
theorem dB_init_20 : decode cB_init 20 = .ok (.aload_n 0, 1) := by decide +kernel
theorem dB_init_21 : decode cB_init 21 = .ok (.bipush 6, 2) := by decide +kernel
theorem dB_init_23 : decode cB_init 23 = .ok (.anewarray 19, 3) := by decide +kernel
theorem dB_init_26 : decode cB_init 26 = .ok (.putfield 21, 3) := by decide +kernel
theorem dB_init_29 : decode cB_init 29 = .ok (.aload_n 0, 1) := by decide +kernel
theorem dB_init_30 : decode cB_init 30 = .ok (.iconst 4, 1) := by decide +kernel
theorem dB_init_31 : decode cB_init 31 = .ok (.newarray .int, 2) := by decide +kernel
theorem dB_init_33 : decode cB_init 33 = .ok (.putfield 25, 3) := by decide +kernel
theorem dB_init_36 : decode cB_init 36 = .ok (.aload_n 0, 1) := by decide +kernel
theorem dB_init_37 : decode cB_init 37 = .ok (.iconst 4, 1) := by decide +kernel
theorem dB_init_38 : decode cB_init 38 = .ok (.newarray .int, 2) := by decide +kernel
theorem dB_init_40 : decode cB_init 40 = .ok (.putfield 28, 3) := by decide +kernel
theorem dB_init_43 : decode cB_init 43 = .ok (.aload_n 0, 1) := by decide +kernel
theorem dB_init_44 : decode cB_init 44 = .ok (.iconst 2, 1) := by decide +kernel
theorem dB_init_45 : decode cB_init 45 = .ok (.anewarray 31, 3) := by decide +kernel
theorem dB_init_48 : decode cB_init 48 = .ok (.putfield 33, 3) := by decide +kernel
theorem dB_init_51 : decode cB_init 51 = .ok (.iconst 0, 1) := by decide +kernel
theorem dB_init_52 : decode cB_init 52 = .ok (.istore_n 1, 1) := by decide +kernel
theorem dB_init_53 : decode cB_init 53 = .ok (.iload_n 1, 1) := by decide +kernel
theorem dB_init_54 : decode cB_init 54 = .ok (.bipush 6, 2) := by decide +kernel
theorem dB_init_56 : decode cB_init 56 = .ok (.if_icmp .ge 22, 3) := by decide +kernel
theorem dB_init_59 : decode cB_init 59 = .ok (.aload_n 0, 1) := by decide +kernel
theorem dB_init_60 : decode cB_init 60 = .ok (.getfield 21, 3) := by decide +kernel
theorem dB_init_63 : decode cB_init 63 = .ok (.iload_n 1, 1) := by decide +kernel
theorem dB_init_64 : decode cB_init 64 = .ok (.new 19, 3) := by decide +kernel
theorem dB_init_67 : decode cB_init 67 = .ok (.dup, 1) := by decide +kernel
theorem dB_init_68 : decode cB_init 68 = .ok (.invokespecial 37, 3) := by decide +kernel
theorem dB_init_71 : decode cB_init 71 = .ok (.aastore, 1) := by decide +kernel
theorem dB_init_72 : decode cB_init 72 = .ok (.iinc 1 1, 3) := by decide +kernel
theorem dB_init_75 : decode cB_init 75 = .ok (.goto (-22), 3) := by decide +kernel
theorem dB_init_78 : decode cB_init 78 = .ok (.iconst 0, 1) := by decide +kernel
theorem dB_init_79 : decode cB_init 79 = .ok (.istore_n 1, 1) := by decide +kernel
theorem dB_init_80 : decode cB_init 80 = .ok (.iload_n 1, 1) := by decide +kernel
theorem dB_init_81 : decode cB_init 81 = .ok (.iconst 2, 1) := by decide +kernel
theorem dB_init_82 : decode cB_init 82 = .ok (.if_icmp .ge 22, 3) := by decide +kernel
theorem dB_init_85 : decode cB_init 85 = .ok (.aload_n 0, 1) := by decide +kernel
theorem dB_init_86 : decode cB_init 86 = .ok (.getfield 33, 3) := by decide +kernel
theorem dB_init_89 : decode cB_init 89 = .ok (.iload_n 1, 1) := by decide +kernel
theorem dB_init_90 : decode cB_init 90 = .ok (.new 31, 3) := by decide +kernel
theorem dB_init_93 : decode cB_init 93 = .ok (.dup, 1) := by decide +kernel
theorem dB_init_94 : decode cB_init 94 = .ok (.invokespecial 38, 3) := by decide +kernel
theorem dB_init_97 : decode cB_init 97 = .ok (.aastore, 1) := by decide +kernel
theorem dB_init_98 : decode cB_init 98 = .ok (.iinc 1 1, 3) := by decide +kernel
theorem dB_init_101 : decode cB_init 101 = .ok (.goto (-21), 3) := by decide +kernel
theorem dB_init_104 : decode cB_init 104 = .ok (.aload_n 0, 1) := by decide +kernel
theorem dB_init_105 : decode cB_init 105 = .ok (.getfield 25, 3) := by decide +kernel
theorem dB_init_108 : decode cB_init 108 = .ok (.iconst (-1), 1) := by decide +kernel
theorem dB_init_109 : decode cB_init 109 = .ok (.invokestatic 39, 3) := by decide +kernel
theorem dB_init_112 : decode cB_init 112 = .ok (.return_, 1) := by decide +kernel
theorem dB_topic_0 : decode cB_topic 0 = .ok (.iload_n 1, 1) := by decide +kernel
theorem dB_topic_1 : decode cB_topic 1 = .ok (.iconst 0, 1) := by decide +kernel
theorem dB_topic_2 : decode cB_topic 2 = .ok (.iconst 2, 1) := by decide +kernel
theorem dB_topic_3 : decode cB_topic 3 = .ok (.invokestatic 45, 3) := by decide +kernel
theorem dB_topic_6 : decode cB_topic 6 = .ok (.iload_n 2, 1) := by decide +kernel
theorem dB_topic_7 : decode cB_topic 7 = .ok (.iconst 1, 1) := by decide +kernel
theorem dB_topic_8 : decode cB_topic 8 = .ok (.iconst 3, 1) := by decide +kernel
theorem dB_topic_9 : decode cB_topic 9 = .ok (.invokestatic 45, 3) := by decide +kernel
theorem dB_topic_12 : decode cB_topic 12 = .ok (.iload_n 3, 1) := by decide +kernel
theorem dB_topic_13 : decode cB_topic 13 = .ok (.iconst 1, 1) := by decide +kernel
theorem dB_topic_14 : decode cB_topic 14 = .ok (.iconst 4, 1) := by decide +kernel
theorem dB_topic_15 : decode cB_topic 15 = .ok (.invokestatic 45, 3) := by decide +kernel
theorem dB_topic_18 : decode cB_topic 18 = .ok (.iload 4, 2) := by decide +kernel
theorem dB_topic_20 : decode cB_topic 20 = .ok (.iconst 1, 1) := by decide +kernel
theorem dB_topic_21 : decode cB_topic 21 = .ok (.iconst 5, 1) := by decide +kernel
theorem dB_topic_22 : decode cB_topic 22 = .ok (.invokestatic 45, 3) := by decide +kernel
theorem dB_topic_25 : decode cB_topic 25 = .ok (.aload_n 0, 1) := by decide +kernel
theorem dB_topic_26 : decode cB_topic 26 = .ok (.getfield 9, 3) := by decide +kernel
theorem dB_topic_29 : decode cB_topic 29 = .ok (.iload_n 1, 1) := by decide +kernel
theorem dB_topic_30 : decode cB_topic 30 = .ok (.iaload, 1) := by decide +kernel
theorem dB_topic_31 : decode cB_topic 31 = .ok (.ifCond .le 13, 3) := by decide +kernel
theorem dB_topic_34 : decode cB_topic 34 = .ok (.new 49, 3) := by decide +kernel
theorem dB_topic_37 : decode cB_topic 37 = .ok (.dup, 1) := by decide +kernel
theorem dB_topic_38 : decode cB_topic 38 = .ok (.ldc 51, 2) := by decide +kernel
theorem dB_topic_40 : decode cB_topic 40 = .ok (.invokespecial 53, 3) := by decide +kernel
theorem dB_topic_43 : decode cB_topic 43 = .ok (.athrow, 1) := by decide +kernel
theorem dB_topic_44 : decode cB_topic 44 = .ok (.aload_n 0, 1) := by decide +kernel
theorem dB_topic_45 : decode cB_topic 45 = .ok (.getfield 9, 3) := by decide +kernel
theorem dB_topic_48 : decode cB_topic 48 = .ok (.iload_n 1, 1) := by decide +kernel
theorem dB_topic_49 : decode cB_topic 49 = .ok (.iload_n 2, 1) := by decide +kernel
theorem dB_topic_50 : decode cB_topic 50 = .ok (.iastore, 1) := by decide +kernel
theorem dB_topic_51 : decode cB_topic 51 = .ok (.iconst 0, 1) := by decide +kernel
theorem dB_topic_52 : decode cB_topic 52 = .ok (.istore 6, 2) := by decide +kernel
theorem dB_topic_54 : decode cB_topic 54 = .ok (.iload 6, 2) := by decide +kernel
theorem dB_topic_56 : decode cB_topic 56 = .ok (.iload_n 2, 1) := by decide +kernel
theorem dB_topic_57 : decode cB_topic 57 = .ok (.if_icmp .ge 32, 3) := by decide +kernel
theorem dB_topic_60 : decode cB_topic 60 = .ok (.aload_n 0, 1) := by decide +kernel
theorem dB_topic_61 : decode cB_topic 61 = .ok (.getfield 15, 3) := by decide +kernel
theorem dB_topic_64 : decode cB_topic 64 = .ok (.iload_n 1, 1) := by decide +kernel
theorem dB_topic_65 : decode cB_topic 65 = .ok (.iconst 4, 1) := by decide +kernel
theorem dB_topic_66 : decode cB_topic 66 = .ok (.imul, 1) := by decide +kernel
theorem dB_topic_67 : decode cB_topic 67 = .ok (.iload 6, 2) := by decide +kernel
theorem dB_topic_69 : decode cB_topic 69 = .ok (.iadd, 1) := by decide +kernel
theorem dB_topic_70 : decode cB_topic 70 = .ok (.new 13, 3) := by decide +kernel
theorem dB_topic_73 : decode cB_topic 73 = .ok (.dup, 1) := by decide +kernel
theorem dB_topic_74 : decode cB_topic 74 = .ok (.iload_n 3, 1) := by decide +kernel
theorem dB_topic_75 : decode cB_topic 75 = .ok (.iload 4, 2) := by decide +kernel
theorem dB_topic_77 : decode cB_topic 77 = .ok (.iload 5, 2) := by decide +kernel
theorem dB_topic_79 : decode cB_topic 79 = .ok (.invokespecial 56, 3) := by decide +kernel
theorem dB_topic_82 : decode cB_topic 82 = .ok (.aastore, 1) := by decide +kernel
theorem dB_topic_83 : decode cB_topic 83 = .ok (.iinc 6 1, 3) := by decide +kernel
theorem dB_topic_86 : decode cB_topic 86 = .ok (.goto (-32), 3) := by decide +kernel
theorem dB_topic_89 : decode cB_topic 89 = .ok (.return_, 1) := by decide +kernel
theorem dB_open_0 : decode cB_open 0 = .ok (.iload_n 1, 1) := by decide +kernel
theorem dB_open_1 : decode cB_open 1 = .ok (.iconst 0, 1) := by decide +kernel
theorem dB_open_2 : decode cB_open 2 = .ok (.iconst 5, 1) := by decide +kernel
theorem dB_open_3 : decode cB_open 3 = .ok (.invokestatic 45, 3) := by decide +kernel
theorem dB_open_6 : decode cB_open 6 = .ok (.iload_n 2, 1) := by decide +kernel
theorem dB_open_7 : decode cB_open 7 = .ok (.iconst 0, 1) := by decide +kernel
theorem dB_open_8 : decode cB_open 8 = .ok (.iconst 3, 1) := by decide +kernel
theorem dB_open_9 : decode cB_open 9 = .ok (.invokestatic 45, 3) := by decide +kernel
theorem dB_open_12 : decode cB_open 12 = .ok (.aload_n 0, 1) := by decide +kernel
theorem dB_open_13 : decode cB_open 13 = .ok (.getfield 21, 3) := by decide +kernel
theorem dB_open_16 : decode cB_open 16 = .ok (.iload_n 1, 1) := by decide +kernel
theorem dB_open_17 : decode cB_open 17 = .ok (.aaload, 1) := by decide +kernel
theorem dB_open_18 : decode cB_open 18 = .ok (.astore_n 3, 1) := by decide +kernel
theorem dB_open_19 : decode cB_open 19 = .ok (.aload_n 3, 1) := by decide +kernel
theorem dB_open_20 : decode cB_open 20 = .ok (.getfield 59, 3) := by decide +kernel
theorem dB_open_23 : decode cB_open 23 = .ok (.ifCond .eq 21, 3) := by decide +kernel
theorem dB_open_26 : decode cB_open 26 = .ok (.aload_n 3, 1) := by decide +kernel
theorem dB_open_27 : decode cB_open 27 = .ok (.getfield 63, 3) := by decide +kernel
theorem dB_open_30 : decode cB_open 30 = .ok (.iload_n 2, 1) := by decide +kernel
theorem dB_open_31 : decode cB_open 31 = .ok (.if_icmp .eq 13, 3) := by decide +kernel
theorem dB_open_34 : decode cB_open 34 = .ok (.new 49, 3) := by decide +kernel
theorem dB_open_37 : decode cB_open 37 = .ok (.dup, 1) := by decide +kernel
theorem dB_open_38 : decode cB_open 38 = .ok (.ldc 67, 2) := by decide +kernel
theorem dB_open_40 : decode cB_open 40 = .ok (.invokespecial 53, 3) := by decide +kernel
theorem dB_open_43 : decode cB_open 43 = .ok (.athrow, 1) := by decide +kernel
theorem dB_open_44 : decode cB_open 44 = .ok (.aload_n 0, 1) := by decide +kernel
theorem dB_open_45 : decode cB_open 45 = .ok (.iload_n 2, 1) := by decide +kernel
theorem dB_open_46 : decode cB_open 46 = .ok (.invokevirtual 69, 3) := by decide +kernel
theorem dB_open_49 : decode cB_open 49 = .ok (.aload_n 0, 1) := by decide +kernel
theorem dB_open_50 : decode cB_open 50 = .ok (.iload_n 1, 1) := by decide +kernel
theorem dB_open_51 : decode cB_open 51 = .ok (.invokevirtual 73, 3) := by decide +kernel
theorem dB_open_54 : decode cB_open 54 = .ok (.ifCond .eq 13, 3) := by decide +kernel
theorem dB_open_57 : decode cB_open 57 = .ok (.aload_n 0, 1) := by decide +kernel
theorem dB_open_58 : decode cB_open 58 = .ok (.getfield 25, 3) := by decide +kernel
theorem dB_open_61 : decode cB_open 61 = .ok (.aload_n 3, 1) := by decide +kernel
theorem dB_open_62 : decode cB_open 62 = .ok (.getfield 63, 3) := by decide +kernel
theorem dB_open_65 : decode cB_open 65 = .ok (.iconst (-1), 1) := by decide +kernel
theorem dB_open_66 : decode cB_open 66 = .ok (.iastore, 1) := by decide +kernel
theorem dB_open_67 : decode cB_open 67 = .ok (.aload_n 3, 1) := by decide +kernel
theorem dB_open_68 : decode cB_open 68 = .ok (.iload_n 2, 1) := by decide +kernel
theorem dB_open_69 : decode cB_open 69 = .ok (.invokevirtual 77, 3) := by decide +kernel
theorem dB_open_72 : decode cB_open 72 = .ok (.aload_n 0, 1) := by decide +kernel
theorem dB_open_73 : decode cB_open 73 = .ok (.getfield 25, 3) := by decide +kernel
theorem dB_open_76 : decode cB_open 76 = .ok (.iload_n 2, 1) := by decide +kernel
theorem dB_open_77 : decode cB_open 77 = .ok (.iload_n 1, 1) := by decide +kernel
theorem dB_open_78 : decode cB_open 78 = .ok (.iastore, 1) := by decide +kernel
theorem dB_open_79 : decode cB_open 79 = .ok (.aload_n 0, 1) := by decide +kernel
theorem dB_open_80 : decode cB_open 80 = .ok (.getfield 28, 3) := by decide +kernel
theorem dB_open_83 : decode cB_open 83 = .ok (.iload_n 2, 1) := by decide +kernel
theorem dB_open_84 : decode cB_open 84 = .ok (.dup2, 1) := by decide +kernel
theorem dB_open_85 : decode cB_open 85 = .ok (.iaload, 1) := by decide +kernel
theorem dB_open_86 : decode cB_open 86 = .ok (.iconst 1, 1) := by decide +kernel
theorem dB_open_87 : decode cB_open 87 = .ok (.iadd, 1) := by decide +kernel
theorem dB_open_88 : decode cB_open 88 = .ok (.iastore, 1) := by decide +kernel
theorem dB_open_89 : decode cB_open 89 = .ok (.aload_n 0, 1) := by decide +kernel
theorem dB_open_90 : decode cB_open 90 = .ok (.getfield 28, 3) := by decide +kernel
theorem dB_open_93 : decode cB_open 93 = .ok (.iload_n 2, 1) := by decide +kernel
theorem dB_open_94 : decode cB_open 94 = .ok (.iaload, 1) := by decide +kernel
theorem dB_open_95 : decode cB_open 95 = .ok (.ireturn, 1) := by decide +kernel
theorem dB_produce_0 : decode cB_produce 0 = .ok (.iload_n 1, 1) := by decide +kernel
theorem dB_produce_1 : decode cB_produce 1 = .ok (.iconst 0, 1) := by decide +kernel
theorem dB_produce_2 : decode cB_produce 2 = .ok (.iconst 5, 1) := by decide +kernel
theorem dB_produce_3 : decode cB_produce 3 = .ok (.invokestatic 45, 3) := by decide +kernel
theorem dB_produce_6 : decode cB_produce 6 = .ok (.aload_n 0, 1) := by decide +kernel
theorem dB_produce_7 : decode cB_produce 7 = .ok (.iload_n 2, 1) := by decide +kernel
theorem dB_produce_8 : decode cB_produce 8 = .ok (.invokevirtual 80, 3) := by decide +kernel
theorem dB_produce_11 : decode cB_produce 11 = .ok (.astore 6, 2) := by decide +kernel
theorem dB_produce_13 : decode cB_produce 13 = .ok (.iload 4, 2) := by decide +kernel
theorem dB_produce_15 : decode cB_produce 15 = .ok (.iconst (-1), 1) := by decide +kernel
theorem dB_produce_16 : decode cB_produce 16 = .ok (.bipush 7, 2) := by decide +kernel
theorem dB_produce_18 : decode cB_produce 18 = .ok (.invokestatic 45, 3) := by decide +kernel
theorem dB_produce_21 : decode cB_produce 21 = .ok (.iload_n 3, 1) := by decide +kernel
theorem dB_produce_22 : decode cB_produce 22 = .ok (.ifCond .ge 13, 3) := by decide +kernel
theorem dB_produce_25 : decode cB_produce 25 = .ok (.new 84, 3) := by decide +kernel
theorem dB_produce_28 : decode cB_produce 28 = .ok (.dup, 1) := by decide +kernel
theorem dB_produce_29 : decode cB_produce 29 = .ok (.ldc 86, 2) := by decide +kernel
theorem dB_produce_31 : decode cB_produce 31 = .ok (.invokespecial 88, 3) := by decide +kernel
theorem dB_produce_34 : decode cB_produce 34 = .ok (.athrow, 1) := by decide +kernel
theorem dB_produce_35 : decode cB_produce 35 = .ok (.aload_n 0, 1) := by decide +kernel
theorem dB_produce_36 : decode cB_produce 36 = .ok (.iload_n 1, 1) := by decide +kernel
theorem dB_produce_37 : decode cB_produce 37 = .ok (.invokevirtual 89, 3) := by decide +kernel
theorem dB_produce_40 : decode cB_produce 40 = .ok (.astore 7, 2) := by decide +kernel
theorem dB_produce_42 : decode cB_produce 42 = .ok (.aload 7, 2) := by decide +kernel
theorem dB_produce_44 : decode cB_produce 44 = .ok (.iload_n 2, 1) := by decide +kernel
theorem dB_produce_45 : decode cB_produce 45 = .ok (.iload_n 3, 1) := by decide +kernel
theorem dB_produce_46 : decode cB_produce 46 = .ok (.invokevirtual 93, 3) := by decide +kernel
theorem dB_produce_49 : decode cB_produce 49 = .ok (.istore 8, 2) := by decide +kernel
theorem dB_produce_51 : decode cB_produce 51 = .ok (.iload 8, 2) := by decide +kernel
theorem dB_produce_53 : decode cB_produce 53 = .ok (.ifCond .ne 23, 3) := by decide +kernel
theorem dB_produce_56 : decode cB_produce 56 = .ok (.aload 7, 2) := by decide +kernel
theorem dB_produce_58 : decode cB_produce 58 = .ok (.iload_n 2, 1) := by decide +kernel
theorem dB_produce_59 : decode cB_produce 59 = .ok (.iload_n 3, 1) := by decide +kernel
theorem dB_produce_60 : decode cB_produce 60 = .ok (.invokevirtual 97, 3) := by decide +kernel
theorem dB_produce_63 : decode cB_produce 63 = .ok (.ifCond .ne 13, 3) := by decide +kernel
theorem dB_produce_66 : decode cB_produce 66 = .ok (.new 49, 3) := by decide +kernel
theorem dB_produce_69 : decode cB_produce 69 = .ok (.dup, 1) := by decide +kernel
theorem dB_produce_70 : decode cB_produce 70 = .ok (.ldc 100, 2) := by decide +kernel
theorem dB_produce_72 : decode cB_produce 72 = .ok (.invokespecial 53, 3) := by decide +kernel
theorem dB_produce_75 : decode cB_produce 75 = .ok (.athrow, 1) := by decide +kernel
theorem dB_produce_76 : decode cB_produce 76 = .ok (.aload_n 0, 1) := by decide +kernel
theorem dB_produce_77 : decode cB_produce 77 = .ok (.iload_n 1, 1) := by decide +kernel
theorem dB_produce_78 : decode cB_produce 78 = .ok (.invokevirtual 102, 3) := by decide +kernel
theorem dB_produce_81 : decode cB_produce 81 = .ok (.iload 8, 2) := by decide +kernel
theorem dB_produce_83 : decode cB_produce 83 = .ok (.ifCond .eq 21, 3) := by decide +kernel
theorem dB_produce_86 : decode cB_produce 86 = .ok (.aload_n 0, 1) := by decide +kernel
theorem dB_produce_87 : decode cB_produce 87 = .ok (.dup, 1) := by decide +kernel
theorem dB_produce_88 : decode cB_produce 88 = .ok (.getfield 105, 3) := by decide +kernel
theorem dB_produce_91 : decode cB_produce 91 = .ok (.iconst 1, 1) := by decide +kernel
theorem dB_produce_92 : decode cB_produce 92 = .ok (.iadd, 1) := by decide +kernel
theorem dB_produce_93 : decode cB_produce 93 = .ok (.putfield 105, 3) := by decide +kernel
theorem dB_produce_96 : decode cB_produce 96 = .ok (.aload 7, 2) := by decide +kernel
theorem dB_produce_98 : decode cB_produce 98 = .ok (.iload_n 2, 1) := by decide +kernel
theorem dB_produce_99 : decode cB_produce 99 = .ok (.iload_n 3, 1) := by decide +kernel
theorem dB_produce_100 : decode cB_produce 100 = .ok (.invokevirtual 108, 3) := by decide +kernel
theorem dB_produce_103 : decode cB_produce 103 = .ok (.ireturn, 1) := by decide +kernel
theorem dB_produce_104 : decode cB_produce 104 = .ok (.aload 6, 2) := by decide +kernel
theorem dB_produce_106 : decode cB_produce 106 = .ok (.invokevirtual 112, 3) := by decide +kernel
theorem dB_produce_109 : decode cB_produce 109 = .ok (.ifCond .eq 13, 3) := by decide +kernel
theorem dB_produce_112 : decode cB_produce 112 = .ok (.new 116, 3) := by decide +kernel
theorem dB_produce_115 : decode cB_produce 115 = .ok (.dup, 1) := by decide +kernel
theorem dB_produce_116 : decode cB_produce 116 = .ok (.ldc 118, 2) := by decide +kernel
theorem dB_produce_118 : decode cB_produce 118 = .ok (.invokespecial 120, 3) := by decide +kernel
theorem dB_produce_121 : decode cB_produce 121 = .ok (.athrow, 1) := by decide +kernel
theorem dB_produce_122 : decode cB_produce 122 = .ok (.aload 7, 2) := by decide +kernel
theorem dB_produce_124 : decode cB_produce 124 = .ok (.getfield 59, 3) := by decide +kernel
theorem dB_produce_127 : decode cB_produce 127 = .ok (.ifCond .eq 7, 3) := by decide +kernel
theorem dB_produce_130 : decode cB_produce 130 = .ok (.iconst 2, 1) := by decide +kernel
theorem dB_produce_131 : decode cB_produce 131 = .ok (.goto 4, 3) := by decide +kernel
theorem dB_produce_134 : decode cB_produce 134 = .ok (.iconst 0, 1) := by decide +kernel
theorem dB_produce_135 : decode cB_produce 135 = .ok (.istore 9, 2) := by decide +kernel
theorem dB_produce_137 : decode cB_produce 137 = .ok (.aload_n 0, 1) := by decide +kernel
theorem dB_produce_138 : decode cB_produce 138 = .ok (.aload 6, 2) := by decide +kernel
theorem dB_produce_140 : decode cB_produce 140 = .ok (.new 121, 3) := by decide +kernel
theorem dB_produce_143 : decode cB_produce 143 = .ok (.dup, 1) := by decide +kernel
theorem dB_produce_144 : decode cB_produce 144 = .ok (.iconst 0, 1) := by decide +kernel
theorem dB_produce_145 : decode cB_produce 145 = .ok (.iload 4, 2) := by decide +kernel
theorem dB_produce_147 : decode cB_produce 147 = .ok (.iload 5, 2) := by decide +kernel
theorem dB_produce_149 : decode cB_produce 149 = .ok (.aload 7, 2) := by decide +kernel
theorem dB_produce_151 : decode cB_produce 151 = .ok (.getfield 63, 3) := by decide +kernel
theorem dB_produce_154 : decode cB_produce 154 = .ok (.iload 9, 2) := by decide +kernel
theorem dB_produce_156 : decode cB_produce 156 = .ok (.invokespecial 123, 3) := by decide +kernel
theorem dB_produce_159 : decode cB_produce 159 = .ok (.invokevirtual 126, 3) := by decide +kernel
theorem dB_produce_162 : decode cB_produce 162 = .ok (.istore 10, 2) := by decide +kernel
theorem dB_produce_164 : decode cB_produce 164 = .ok (.aload 7, 2) := by decide +kernel
theorem dB_produce_166 : decode cB_produce 166 = .ok (.iload_n 2, 1) := by decide +kernel
theorem dB_produce_167 : decode cB_produce 167 = .ok (.iload 10, 2) := by decide +kernel
theorem dB_produce_169 : decode cB_produce 169 = .ok (.invokevirtual 130, 3) := by decide +kernel
theorem dB_produce_172 : decode cB_produce 172 = .ok (.iload 10, 2) := by decide +kernel
theorem dB_produce_174 : decode cB_produce 174 = .ok (.ireturn, 1) := by decide +kernel
theorem dB_begin_0 : decode cB_begin 0 = .ok (.iload_n 1, 1) := by decide +kernel
theorem dB_begin_1 : decode cB_begin 1 = .ok (.iconst 0, 1) := by decide +kernel
theorem dB_begin_2 : decode cB_begin 2 = .ok (.iconst 5, 1) := by decide +kernel
theorem dB_begin_3 : decode cB_begin 3 = .ok (.invokestatic 45, 3) := by decide +kernel
theorem dB_begin_6 : decode cB_begin 6 = .ok (.aload_n 0, 1) := by decide +kernel
theorem dB_begin_7 : decode cB_begin 7 = .ok (.iload_n 1, 1) := by decide +kernel
theorem dB_begin_8 : decode cB_begin 8 = .ok (.invokevirtual 89, 3) := by decide +kernel
theorem dB_begin_11 : decode cB_begin 11 = .ok (.astore_n 2, 1) := by decide +kernel
theorem dB_begin_12 : decode cB_begin 12 = .ok (.aload_n 2, 1) := by decide +kernel
theorem dB_begin_13 : decode cB_begin 13 = .ok (.getfield 59, 3) := by decide +kernel
theorem dB_begin_16 : decode cB_begin 16 = .ok (.ifCond .eq 13, 3) := by decide +kernel
theorem dB_begin_19 : decode cB_begin 19 = .ok (.new 49, 3) := by decide +kernel
theorem dB_begin_22 : decode cB_begin 22 = .ok (.dup, 1) := by decide +kernel
theorem dB_begin_23 : decode cB_begin 23 = .ok (.ldc 134, 2) := by decide +kernel
theorem dB_begin_25 : decode cB_begin 25 = .ok (.invokespecial 53, 3) := by decide +kernel
theorem dB_begin_28 : decode cB_begin 28 = .ok (.athrow, 1) := by decide +kernel
theorem dB_begin_29 : decode cB_begin 29 = .ok (.aload_n 0, 1) := by decide +kernel
theorem dB_begin_30 : decode cB_begin 30 = .ok (.iload_n 1, 1) := by decide +kernel
theorem dB_begin_31 : decode cB_begin 31 = .ok (.invokevirtual 102, 3) := by decide +kernel
theorem dB_begin_34 : decode cB_begin 34 = .ok (.aload_n 2, 1) := by decide +kernel
theorem dB_begin_35 : decode cB_begin 35 = .ok (.iconst 1, 1) := by decide +kernel
theorem dB_begin_36 : decode cB_begin 36 = .ok (.putfield 59, 3) := by decide +kernel
theorem dB_begin_39 : decode cB_begin 39 = .ok (.return_, 1) := by decide +kernel
theorem dB_end_0 : decode cB_end 0 = .ok (.iload_n 1, 1) := by decide +kernel
theorem dB_end_1 : decode cB_end 1 = .ok (.iconst 0, 1) := by decide +kernel
theorem dB_end_2 : decode cB_end 2 = .ok (.iconst 5, 1) := by decide +kernel
theorem dB_end_3 : decode cB_end 3 = .ok (.invokestatic 45, 3) := by decide +kernel
theorem dB_end_6 : decode cB_end 6 = .ok (.aload_n 0, 1) := by decide +kernel
theorem dB_end_7 : decode cB_end 7 = .ok (.iload_n 1, 1) := by decide +kernel
theorem dB_end_8 : decode cB_end 8 = .ok (.invokevirtual 89, 3) := by decide +kernel
theorem dB_end_11 : decode cB_end 11 = .ok (.astore_n 3, 1) := by decide +kernel
theorem dB_end_12 : decode cB_end 12 = .ok (.aload_n 3, 1) := by decide +kernel
theorem dB_end_13 : decode cB_end 13 = .ok (.getfield 59, 3) := by decide +kernel
theorem dB_end_16 : decode cB_end 16 = .ok (.ifCond .ne 13, 3) := by decide +kernel
theorem dB_end_19 : decode cB_end 19 = .ok (.new 49, 3) := by decide +kernel
theorem dB_end_22 : decode cB_end 22 = .ok (.dup, 1) := by decide +kernel
theorem dB_end_23 : decode cB_end 23 = .ok (.ldc 136, 2) := by decide +kernel
theorem dB_end_25 : decode cB_end 25 = .ok (.invokespecial 53, 3) := by decide +kernel
theorem dB_end_28 : decode cB_end 28 = .ok (.athrow, 1) := by decide +kernel
theorem dB_end_29 : decode cB_end 29 = .ok (.aload_n 0, 1) := by decide +kernel
theorem dB_end_30 : decode cB_end 30 = .ok (.aload_n 3, 1) := by decide +kernel
theorem dB_end_31 : decode cB_end 31 = .ok (.getfield 63, 3) := by decide +kernel
theorem dB_end_34 : decode cB_end 34 = .ok (.invokevirtual 138, 3) := by decide +kernel
theorem dB_end_37 : decode cB_end 37 = .ok (.aload_n 0, 1) := by decide +kernel
theorem dB_end_38 : decode cB_end 38 = .ok (.aload_n 3, 1) := by decide +kernel
theorem dB_end_39 : decode cB_end 39 = .ok (.iload_n 2, 1) := by decide +kernel
theorem dB_end_40 : decode cB_end 40 = .ok (.invokevirtual 141, 3) := by decide +kernel
theorem dB_end_43 : decode cB_end 43 = .ok (.ireturn, 1) := by decide +kernel
theorem dB_fetch_0 : decode cB_fetch 0 = .ok (.aload_n 0, 1) := by decide +kernel
theorem dB_fetch_1 : decode cB_fetch 1 = .ok (.iload_n 1, 1) := by decide +kernel
theorem dB_fetch_2 : decode cB_fetch 2 = .ok (.invokevirtual 80, 3) := by decide +kernel
theorem dB_fetch_5 : decode cB_fetch 5 = .ok (.astore 4, 2) := by decide +kernel
theorem dB_fetch_7 : decode cB_fetch 7 = .ok (.iload_n 2, 1) := by decide +kernel
theorem dB_fetch_8 : decode cB_fetch 8 = .ok (.aload 4, 2) := by decide +kernel
theorem dB_fetch_10 : decode cB_fetch 10 = .ok (.getfield 145, 3) := by decide +kernel
theorem dB_fetch_13 : decode cB_fetch 13 = .ok (.if_icmp .lt 12, 3) := by decide +kernel
theorem dB_fetch_16 : decode cB_fetch 16 = .ok (.iload_n 2, 1) := by decide +kernel
theorem dB_fetch_17 : decode cB_fetch 17 = .ok (.aload 4, 2) := by decide +kernel
theorem dB_fetch_19 : decode cB_fetch 19 = .ok (.getfield 148, 3) := by decide +kernel
theorem dB_fetch_22 : decode cB_fetch 22 = .ok (.if_icmp .le 13, 3) := by decide +kernel
theorem dB_fetch_25 : decode cB_fetch 25 = .ok (.new 151, 3) := by decide +kernel
theorem dB_fetch_28 : decode cB_fetch 28 = .ok (.dup, 1) := by decide +kernel
theorem dB_fetch_29 : decode cB_fetch 29 = .ok (.ldc 153, 2) := by decide +kernel
theorem dB_fetch_31 : decode cB_fetch 31 = .ok (.invokespecial 155, 3) := by decide +kernel
theorem dB_fetch_34 : decode cB_fetch 34 = .ok (.athrow, 1) := by decide +kernel
theorem dB_fetch_35 : decode cB_fetch 35 = .ok (.aload 4, 2) := by decide +kernel
theorem dB_fetch_37 : decode cB_fetch 37 = .ok (.iload_n 2, 1) := by decide +kernel
theorem dB_fetch_38 : decode cB_fetch 38 = .ok (.iload_n 3, 1) := by decide +kernel
theorem dB_fetch_39 : decode cB_fetch 39 = .ok (.invokevirtual 156, 3) := by decide +kernel
theorem dB_fetch_42 : decode cB_fetch 42 = .ok (.invokestatic 160, 3) := by decide +kernel
theorem dB_fetch_45 : decode cB_fetch 45 = .ok (.ireturn, 1) := by decide +kernel
theorem dB_told_0 : decode cB_told 0 = .ok (.aload_n 0, 1) := by decide +kernel
theorem dB_told_1 : decode cB_told 1 = .ok (.iload_n 1, 1) := by decide +kernel
theorem dB_told_2 : decode cB_told 2 = .ok (.invokevirtual 80, 3) := by decide +kernel
theorem dB_told_5 : decode cB_told 5 = .ok (.astore 4, 2) := by decide +kernel
theorem dB_told_7 : decode cB_told 7 = .ok (.iload_n 3, 1) := by decide +kernel
theorem dB_told_8 : decode cB_told 8 = .ok (.iconst 0, 1) := by decide +kernel
theorem dB_told_9 : decode cB_told 9 = .ok (.iconst 4, 1) := by decide +kernel
theorem dB_told_10 : decode cB_told 10 = .ok (.invokestatic 45, 3) := by decide +kernel
theorem dB_told_13 : decode cB_told 13 = .ok (.iload_n 2, 1) := by decide +kernel
theorem dB_told_14 : decode cB_told 14 = .ok (.aload 4, 2) := by decide +kernel
theorem dB_told_16 : decode cB_told 16 = .ok (.getfield 145, 3) := by decide +kernel
theorem dB_told_19 : decode cB_told 19 = .ok (.if_icmp .lt 12, 3) := by decide +kernel
theorem dB_told_22 : decode cB_told 22 = .ok (.iload_n 2, 1) := by decide +kernel
theorem dB_told_23 : decode cB_told 23 = .ok (.aload 4, 2) := by decide +kernel
theorem dB_told_25 : decode cB_told 25 = .ok (.getfield 148, 3) := by decide +kernel
theorem dB_told_28 : decode cB_told 28 = .ok (.if_icmp .lt 13, 3) := by decide +kernel
theorem dB_told_31 : decode cB_told 31 = .ok (.new 151, 3) := by decide +kernel
theorem dB_told_34 : decode cB_told 34 = .ok (.dup, 1) := by decide +kernel
theorem dB_told_35 : decode cB_told 35 = .ok (.ldc 153, 2) := by decide +kernel
theorem dB_told_37 : decode cB_told 37 = .ok (.invokespecial 155, 3) := by decide +kernel
theorem dB_told_40 : decode cB_told 40 = .ok (.athrow, 1) := by decide +kernel
theorem dB_told_41 : decode cB_told 41 = .ok (.aload 4, 2) := by decide +kernel
theorem dB_told_43 : decode cB_told 43 = .ok (.getfield 164, 3) := by decide +kernel
theorem dB_told_46 : decode cB_told 46 = .ok (.iload_n 2, 1) := by decide +kernel
theorem dB_told_47 : decode cB_told 47 = .ok (.aaload, 1) := by decide +kernel
theorem dB_told_48 : decode cB_told 48 = .ok (.astore 5, 2) := by decide +kernel
theorem dB_told_50 : decode cB_told 50 = .ok (.aload 5, 2) := by decide +kernel
theorem dB_told_52 : decode cB_told 52 = .ok (.ifnonnull 13, 3) := by decide +kernel
theorem dB_told_55 : decode cB_told 55 = .ok (.new 168, 3) := by decide +kernel
theorem dB_told_58 : decode cB_told 58 = .ok (.dup, 1) := by decide +kernel
theorem dB_told_59 : decode cB_told 59 = .ok (.ldc 170, 2) := by decide +kernel
theorem dB_told_61 : decode cB_told 61 = .ok (.invokespecial 172, 3) := by decide +kernel
theorem dB_told_64 : decode cB_told 64 = .ok (.athrow, 1) := by decide +kernel
theorem dB_told_65 : decode cB_told 65 = .ok (.iload_n 3, 1) := by decide +kernel
theorem dB_told_96 : decode cB_told 96 = .ok (.aload 5, 2) := by decide +kernel
theorem dB_told_98 : decode cB_told 98 = .ok (.getfield 173, 3) := by decide +kernel
theorem dB_told_101 : decode cB_told 101 = .ok (.ireturn, 1) := by decide +kernel
theorem dB_told_102 : decode cB_told 102 = .ok (.aload 5, 2) := by decide +kernel
theorem dB_told_104 : decode cB_told 104 = .ok (.getfield 176, 3) := by decide +kernel
theorem dB_told_107 : decode cB_told 107 = .ok (.ireturn, 1) := by decide +kernel
theorem dB_told_108 : decode cB_told 108 = .ok (.aload 5, 2) := by decide +kernel
theorem dB_told_110 : decode cB_told 110 = .ok (.getfield 179, 3) := by decide +kernel
theorem dB_told_113 : decode cB_told 113 = .ok (.ireturn, 1) := by decide +kernel
theorem dB_told_114 : decode cB_told 114 = .ok (.aload 5, 2) := by decide +kernel
theorem dB_told_116 : decode cB_told 116 = .ok (.getfield 182, 3) := by decide +kernel
theorem dB_told_119 : decode cB_told 119 = .ok (.ireturn, 1) := by decide +kernel
theorem dB_told_120 : decode cB_told 120 = .ok (.aload 5, 2) := by decide +kernel
theorem dB_told_122 : decode cB_told 122 = .ok (.getfield 183, 3) := by decide +kernel
theorem dB_told_125 : decode cB_told 125 = .ok (.ireturn, 1) := by decide +kernel
theorem dB_compact_0 : decode cB_compact 0 = .ok (.aload_n 0, 1) := by decide +kernel
theorem dB_compact_1 : decode cB_compact 1 = .ok (.iload_n 1, 1) := by decide +kernel
theorem dB_compact_2 : decode cB_compact 2 = .ok (.invokevirtual 80, 3) := by decide +kernel
theorem dB_compact_5 : decode cB_compact 5 = .ok (.astore_n 2, 1) := by decide +kernel
theorem dB_compact_6 : decode cB_compact 6 = .ok (.aload_n 2, 1) := by decide +kernel
theorem dB_compact_7 : decode cB_compact 7 = .ok (.getfield 186, 3) := by decide +kernel
theorem dB_compact_10 : decode cB_compact 10 = .ok (.ifCond .ne 13, 3) := by decide +kernel
theorem dB_compact_13 : decode cB_compact 13 = .ok (.new 49, 3) := by decide +kernel
theorem dB_compact_16 : decode cB_compact 16 = .ok (.dup, 1) := by decide +kernel
theorem dB_compact_17 : decode cB_compact 17 = .ok (.ldc 189, 2) := by decide +kernel
theorem dB_compact_19 : decode cB_compact 19 = .ok (.invokespecial 53, 3) := by decide +kernel
theorem dB_compact_22 : decode cB_compact 22 = .ok (.athrow, 1) := by decide +kernel
theorem dB_compact_23 : decode cB_compact 23 = .ok (.aload_n 2, 1) := by decide +kernel
theorem dB_compact_24 : decode cB_compact 24 = .ok (.invokevirtual 191, 3) := by decide +kernel
theorem dB_compact_27 : decode cB_compact 27 = .ok (.istore_n 3, 1) := by decide +kernel
theorem dB_compact_28 : decode cB_compact 28 = .ok (.aload_n 0, 1) := by decide +kernel
theorem dB_compact_29 : decode cB_compact 29 = .ok (.dup, 1) := by decide +kernel
theorem dB_compact_30 : decode cB_compact 30 = .ok (.getfield 195, 3) := by decide +kernel
theorem dB_compact_33 : decode cB_compact 33 = .ok (.iload_n 3, 1) := by decide +kernel
theorem dB_compact_34 : decode cB_compact 34 = .ok (.iadd, 1) := by decide +kernel
theorem dB_compact_35 : decode cB_compact 35 = .ok (.putfield 195, 3) := by decide +kernel
theorem dB_compact_38 : decode cB_compact 38 = .ok (.iload_n 3, 1) := by decide +kernel
theorem dB_compact_39 : decode cB_compact 39 = .ok (.ireturn, 1) := by decide +kernel
theorem dB_join_0 : decode cB_join 0 = .ok (.iload_n 1, 1) := by decide +kernel
theorem dB_join_1 : decode cB_join 1 = .ok (.iconst 0, 1) := by decide +kernel
theorem dB_join_2 : decode cB_join 2 = .ok (.iconst 1, 1) := by decide +kernel
theorem dB_join_3 : decode cB_join 3 = .ok (.invokestatic 45, 3) := by decide +kernel
theorem dB_join_6 : decode cB_join 6 = .ok (.iload_n 2, 1) := by decide +kernel
theorem dB_join_7 : decode cB_join 7 = .ok (.iconst 0, 1) := by decide +kernel
theorem dB_join_8 : decode cB_join 8 = .ok (.iconst 3, 1) := by decide +kernel
theorem dB_join_9 : decode cB_join 9 = .ok (.invokestatic 45, 3) := by decide +kernel
theorem dB_join_12 : decode cB_join 12 = .ok (.iload_n 3, 1) := by decide +kernel
theorem dB_join_13 : decode cB_join 13 = .ok (.iconst 0, 1) := by decide +kernel
theorem dB_join_14 : decode cB_join 14 = .ok (.iconst 2, 1) := by decide +kernel
theorem dB_join_15 : decode cB_join 15 = .ok (.invokestatic 45, 3) := by decide +kernel
theorem dB_join_18 : decode cB_join 18 = .ok (.aload_n 0, 1) := by decide +kernel
theorem dB_join_19 : decode cB_join 19 = .ok (.getfield 9, 3) := by decide +kernel
theorem dB_join_22 : decode cB_join 22 = .ok (.iload_n 3, 1) := by decide +kernel
theorem dB_join_23 : decode cB_join 23 = .ok (.iaload, 1) := by decide +kernel
theorem dB_join_24 : decode cB_join 24 = .ok (.ifCond .ne 13, 3) := by decide +kernel
theorem dB_join_27 : decode cB_join 27 = .ok (.new 168, 3) := by decide +kernel
theorem dB_join_30 : decode cB_join 30 = .ok (.dup, 1) := by decide +kernel
theorem dB_join_31 : decode cB_join 31 = .ok (.ldc 198, 2) := by decide +kernel
theorem dB_join_33 : decode cB_join 33 = .ok (.invokespecial 172, 3) := by decide +kernel
theorem dB_join_36 : decode cB_join 36 = .ok (.athrow, 1) := by decide +kernel
theorem dB_join_37 : decode cB_join 37 = .ok (.aload_n 0, 1) := by decide +kernel
theorem dB_join_38 : decode cB_join 38 = .ok (.getfield 33, 3) := by decide +kernel
theorem dB_join_41 : decode cB_join 41 = .ok (.iload_n 1, 1) := by decide +kernel
theorem dB_join_42 : decode cB_join 42 = .ok (.aaload, 1) := by decide +kernel
theorem dB_join_43 : decode cB_join 43 = .ok (.iload_n 2, 1) := by decide +kernel
theorem dB_join_44 : decode cB_join 44 = .ok (.iload_n 3, 1) := by decide +kernel
theorem dB_join_45 : decode cB_join 45 = .ok (.aload_n 0, 1) := by decide +kernel
theorem dB_join_46 : decode cB_join 46 = .ok (.getfield 9, 3) := by decide +kernel
theorem dB_join_49 : decode cB_join 49 = .ok (.invokevirtual 200, 3) := by decide +kernel
theorem dB_join_52 : decode cB_join 52 = .ok (.ireturn, 1) := by decide +kernel
theorem dB_leave_0 : decode cB_leave 0 = .ok (.iload_n 1, 1) := by decide +kernel
theorem dB_leave_1 : decode cB_leave 1 = .ok (.iconst 0, 1) := by decide +kernel
theorem dB_leave_2 : decode cB_leave 2 = .ok (.iconst 1, 1) := by decide +kernel
theorem dB_leave_3 : decode cB_leave 3 = .ok (.invokestatic 45, 3) := by decide +kernel
theorem dB_leave_6 : decode cB_leave 6 = .ok (.iload_n 2, 1) := by decide +kernel
theorem dB_leave_7 : decode cB_leave 7 = .ok (.iconst 0, 1) := by decide +kernel
theorem dB_leave_8 : decode cB_leave 8 = .ok (.iconst 3, 1) := by decide +kernel
theorem dB_leave_9 : decode cB_leave 9 = .ok (.invokestatic 45, 3) := by decide +kernel
theorem dB_leave_12 : decode cB_leave 12 = .ok (.aload_n 0, 1) := by decide +kernel
theorem dB_leave_13 : decode cB_leave 13 = .ok (.getfield 33, 3) := by decide +kernel
theorem dB_leave_16 : decode cB_leave 16 = .ok (.iload_n 1, 1) := by decide +kernel
theorem dB_leave_17 : decode cB_leave 17 = .ok (.aaload, 1) := by decide +kernel
theorem dB_leave_18 : decode cB_leave 18 = .ok (.getfield 204, 3) := by decide +kernel
theorem dB_leave_21 : decode cB_leave 21 = .ok (.iload_n 2, 1) := by decide +kernel
theorem dB_leave_22 : decode cB_leave 22 = .ok (.iaload, 1) := by decide +kernel
theorem dB_leave_23 : decode cB_leave 23 = .ok (.iconst (-1), 1) := by decide +kernel
theorem dB_leave_24 : decode cB_leave 24 = .ok (.if_icmp .ne 13, 3) := by decide +kernel
theorem dB_leave_27 : decode cB_leave 27 = .ok (.new 168, 3) := by decide +kernel
theorem dB_leave_30 : decode cB_leave 30 = .ok (.dup, 1) := by decide +kernel
theorem dB_leave_31 : decode cB_leave 31 = .ok (.ldc 207, 2) := by decide +kernel
theorem dB_leave_33 : decode cB_leave 33 = .ok (.invokespecial 172, 3) := by decide +kernel
theorem dB_leave_36 : decode cB_leave 36 = .ok (.athrow, 1) := by decide +kernel
theorem dB_leave_37 : decode cB_leave 37 = .ok (.aload_n 0, 1) := by decide +kernel
theorem dB_leave_38 : decode cB_leave 38 = .ok (.getfield 33, 3) := by decide +kernel
theorem dB_leave_41 : decode cB_leave 41 = .ok (.iload_n 1, 1) := by decide +kernel
theorem dB_leave_42 : decode cB_leave 42 = .ok (.aaload, 1) := by decide +kernel
theorem dB_leave_43 : decode cB_leave 43 = .ok (.iload_n 2, 1) := by decide +kernel
theorem dB_leave_44 : decode cB_leave 44 = .ok (.iconst (-1), 1) := by decide +kernel
theorem dB_leave_45 : decode cB_leave 45 = .ok (.aload_n 0, 1) := by decide +kernel
theorem dB_leave_46 : decode cB_leave 46 = .ok (.getfield 9, 3) := by decide +kernel
theorem dB_leave_49 : decode cB_leave 49 = .ok (.invokevirtual 200, 3) := by decide +kernel
theorem dB_leave_52 : decode cB_leave 52 = .ok (.ireturn, 1) := by decide +kernel
theorem dB_owner_0 : decode cB_owner 0 = .ok (.iload_n 1, 1) := by decide +kernel
theorem dB_owner_1 : decode cB_owner 1 = .ok (.iconst 0, 1) := by decide +kernel
theorem dB_owner_2 : decode cB_owner 2 = .ok (.iconst 1, 1) := by decide +kernel
theorem dB_owner_3 : decode cB_owner 3 = .ok (.invokestatic 45, 3) := by decide +kernel
theorem dB_owner_6 : decode cB_owner 6 = .ok (.aload_n 0, 1) := by decide +kernel
theorem dB_owner_7 : decode cB_owner 7 = .ok (.iload_n 2, 1) := by decide +kernel
theorem dB_owner_8 : decode cB_owner 8 = .ok (.invokevirtual 80, 3) := by decide +kernel
theorem dB_owner_11 : decode cB_owner 11 = .ok (.pop, 1) := by decide +kernel
theorem dB_owner_12 : decode cB_owner 12 = .ok (.aload_n 0, 1) := by decide +kernel
theorem dB_owner_13 : decode cB_owner 13 = .ok (.getfield 33, 3) := by decide +kernel
theorem dB_owner_16 : decode cB_owner 16 = .ok (.iload_n 1, 1) := by decide +kernel
theorem dB_owner_17 : decode cB_owner 17 = .ok (.aaload, 1) := by decide +kernel
theorem dB_owner_18 : decode cB_owner 18 = .ok (.getfield 209, 3) := by decide +kernel
theorem dB_owner_21 : decode cB_owner 21 = .ok (.iload_n 2, 1) := by decide +kernel
theorem dB_owner_22 : decode cB_owner 22 = .ok (.iaload, 1) := by decide +kernel
theorem dB_owner_23 : decode cB_owner 23 = .ok (.invokestatic 160, 3) := by decide +kernel
theorem dB_owner_26 : decode cB_owner 26 = .ok (.ireturn, 1) := by decide +kernel
theorem dB_poll_0 : decode cB_poll 0 = .ok (.iload_n 1, 1) := by decide +kernel
theorem dB_poll_1 : decode cB_poll 1 = .ok (.iconst 0, 1) := by decide +kernel
theorem dB_poll_2 : decode cB_poll 2 = .ok (.iconst 1, 1) := by decide +kernel
theorem dB_poll_3 : decode cB_poll 3 = .ok (.invokestatic 45, 3) := by decide +kernel
theorem dB_poll_6 : decode cB_poll 6 = .ok (.iload_n 2, 1) := by decide +kernel
theorem dB_poll_7 : decode cB_poll 7 = .ok (.iconst 0, 1) := by decide +kernel
theorem dB_poll_8 : decode cB_poll 8 = .ok (.iconst 3, 1) := by decide +kernel
theorem dB_poll_9 : decode cB_poll 9 = .ok (.invokestatic 45, 3) := by decide +kernel
theorem dB_poll_12 : decode cB_poll 12 = .ok (.aload_n 0, 1) := by decide +kernel
theorem dB_poll_13 : decode cB_poll 13 = .ok (.iload 4, 2) := by decide +kernel
theorem dB_poll_15 : decode cB_poll 15 = .ok (.invokevirtual 80, 3) := by decide +kernel
theorem dB_poll_18 : decode cB_poll 18 = .ok (.astore 5, 2) := by decide +kernel
theorem dB_poll_20 : decode cB_poll 20 = .ok (.aload_n 0, 1) := by decide +kernel
theorem dB_poll_21 : decode cB_poll 21 = .ok (.getfield 33, 3) := by decide +kernel
theorem dB_poll_24 : decode cB_poll 24 = .ok (.iload_n 1, 1) := by decide +kernel
theorem dB_poll_25 : decode cB_poll 25 = .ok (.aaload, 1) := by decide +kernel
theorem dB_poll_26 : decode cB_poll 26 = .ok (.astore 6, 2) := by decide +kernel
theorem dB_poll_28 : decode cB_poll 28 = .ok (.aload 6, 2) := by decide +kernel
theorem dB_poll_30 : decode cB_poll 30 = .ok (.iload_n 2, 1) := by decide +kernel
theorem dB_poll_31 : decode cB_poll 31 = .ok (.iload_n 3, 1) := by decide +kernel
theorem dB_poll_32 : decode cB_poll 32 = .ok (.iload 4, 2) := by decide +kernel
theorem dB_poll_34 : decode cB_poll 34 = .ok (.invokestatic 212, 3) := by decide +kernel
theorem dB_poll_37 : decode cB_poll 37 = .ok (.aload 5, 2) := by decide +kernel
theorem dB_poll_39 : decode cB_poll 39 = .ok (.aload 6, 2) := by decide +kernel
theorem dB_poll_41 : decode cB_poll 41 = .ok (.getfield 216, 3) := by decide +kernel
theorem dB_poll_44 : decode cB_poll 44 = .ok (.iload 4, 2) := by decide +kernel
theorem dB_poll_46 : decode cB_poll 46 = .ok (.iaload, 1) := by decide +kernel
theorem dB_poll_47 : decode cB_poll 47 = .ok (.aload 5, 2) := by decide +kernel
theorem dB_poll_49 : decode cB_poll 49 = .ok (.getfield 145, 3) := by decide +kernel
theorem dB_poll_52 : decode cB_poll 52 = .ok (.invokestatic 219, 3) := by decide +kernel
theorem dB_poll_55 : decode cB_poll 55 = .ok (.iconst 1, 1) := by decide +kernel
theorem dB_poll_56 : decode cB_poll 56 = .ok (.invokevirtual 156, 3) := by decide +kernel
theorem dB_poll_59 : decode cB_poll 59 = .ok (.invokestatic 160, 3) := by decide +kernel
theorem dB_poll_62 : decode cB_poll 62 = .ok (.istore 7, 2) := by decide +kernel
theorem dB_poll_64 : decode cB_poll 64 = .ok (.aload 6, 2) := by decide +kernel
theorem dB_poll_66 : decode cB_poll 66 = .ok (.getfield 216, 3) := by decide +kernel
theorem dB_poll_69 : decode cB_poll 69 = .ok (.iload 4, 2) := by decide +kernel
theorem dB_poll_71 : decode cB_poll 71 = .ok (.iload 7, 2) := by decide +kernel
theorem dB_poll_73 : decode cB_poll 73 = .ok (.iconst 1, 1) := by decide +kernel
theorem dB_poll_74 : decode cB_poll 74 = .ok (.iadd, 1) := by decide +kernel
theorem dB_poll_75 : decode cB_poll 75 = .ok (.iastore, 1) := by decide +kernel
theorem dB_poll_76 : decode cB_poll 76 = .ok (.iload 7, 2) := by decide +kernel
theorem dB_poll_78 : decode cB_poll 78 = .ok (.ireturn, 1) := by decide +kernel
theorem dB_keep_0 : decode cB_keep 0 = .ok (.iload_n 1, 1) := by decide +kernel
theorem dB_keep_1 : decode cB_keep 1 = .ok (.iconst 0, 1) := by decide +kernel
theorem dB_keep_2 : decode cB_keep 2 = .ok (.iconst 1, 1) := by decide +kernel
theorem dB_keep_3 : decode cB_keep 3 = .ok (.invokestatic 45, 3) := by decide +kernel
theorem dB_keep_6 : decode cB_keep 6 = .ok (.iload_n 2, 1) := by decide +kernel
theorem dB_keep_7 : decode cB_keep 7 = .ok (.iconst 0, 1) := by decide +kernel
theorem dB_keep_8 : decode cB_keep 8 = .ok (.iconst 3, 1) := by decide +kernel
theorem dB_keep_9 : decode cB_keep 9 = .ok (.invokestatic 45, 3) := by decide +kernel
theorem dB_keep_12 : decode cB_keep 12 = .ok (.aload_n 0, 1) := by decide +kernel
theorem dB_keep_13 : decode cB_keep 13 = .ok (.iload 4, 2) := by decide +kernel
theorem dB_keep_15 : decode cB_keep 15 = .ok (.invokevirtual 80, 3) := by decide +kernel
theorem dB_keep_18 : decode cB_keep 18 = .ok (.astore 6, 2) := by decide +kernel
theorem dB_keep_20 : decode cB_keep 20 = .ok (.iload 5, 2) := by decide +kernel
theorem dB_keep_22 : decode cB_keep 22 = .ok (.iconst 0, 1) := by decide +kernel
theorem dB_keep_23 : decode cB_keep 23 = .ok (.aload 6, 2) := by decide +kernel
theorem dB_keep_25 : decode cB_keep 25 = .ok (.getfield 148, 3) := by decide +kernel
theorem dB_keep_28 : decode cB_keep 28 = .ok (.invokestatic 45, 3) := by decide +kernel
theorem dB_keep_31 : decode cB_keep 31 = .ok (.aload_n 0, 1) := by decide +kernel
theorem dB_keep_32 : decode cB_keep 32 = .ok (.getfield 33, 3) := by decide +kernel
theorem dB_keep_35 : decode cB_keep 35 = .ok (.iload_n 1, 1) := by decide +kernel
theorem dB_keep_36 : decode cB_keep 36 = .ok (.aaload, 1) := by decide +kernel
theorem dB_keep_37 : decode cB_keep 37 = .ok (.iload_n 2, 1) := by decide +kernel
theorem dB_keep_38 : decode cB_keep 38 = .ok (.iload_n 3, 1) := by decide +kernel
theorem dB_keep_39 : decode cB_keep 39 = .ok (.iload 4, 2) := by decide +kernel
theorem dB_keep_41 : decode cB_keep 41 = .ok (.invokestatic 212, 3) := by decide +kernel
theorem dB_keep_44 : decode cB_keep 44 = .ok (.aload_n 0, 1) := by decide +kernel
theorem dB_keep_45 : decode cB_keep 45 = .ok (.getfield 33, 3) := by decide +kernel
theorem dB_keep_48 : decode cB_keep 48 = .ok (.iload_n 1, 1) := by decide +kernel
theorem dB_keep_49 : decode cB_keep 49 = .ok (.aaload, 1) := by decide +kernel
theorem dB_keep_50 : decode cB_keep 50 = .ok (.getfield 224, 3) := by decide +kernel
theorem dB_keep_53 : decode cB_keep 53 = .ok (.iload 4, 2) := by decide +kernel
theorem dB_keep_55 : decode cB_keep 55 = .ok (.iload 5, 2) := by decide +kernel
theorem dB_keep_57 : decode cB_keep 57 = .ok (.iastore, 1) := by decide +kernel
theorem dB_keep_58 : decode cB_keep 58 = .ok (.return_, 1) := by decide +kernel
theorem dB_log_0 : decode cB_log 0 = .ok (.aload_n 0, 1) := by decide +kernel
theorem dB_log_1 : decode cB_log 1 = .ok (.iload_n 1, 1) := by decide +kernel
theorem dB_log_2 : decode cB_log 2 = .ok (.invokevirtual 80, 3) := by decide +kernel
theorem dB_log_5 : decode cB_log 5 = .ok (.astore_n 3, 1) := by decide +kernel
theorem dB_log_6 : decode cB_log 6 = .ok (.iload_n 2, 1) := by decide +kernel
theorem dB_log_7 : decode cB_log 7 = .ok (.iconst 0, 1) := by decide +kernel
theorem dB_log_8 : decode cB_log 8 = .ok (.bipush 8, 2) := by decide +kernel
theorem dB_log_10 : decode cB_log 10 = .ok (.invokestatic 45, 3) := by decide +kernel
theorem dB_log_13 : decode cB_log 13 = .ok (.iload_n 2, 1) := by decide +kernel
theorem dB_log_60 : decode cB_log 60 = .ok (.aload_n 3, 1) := by decide +kernel
theorem dB_log_61 : decode cB_log 61 = .ok (.getfield 145, 3) := by decide +kernel
theorem dB_log_64 : decode cB_log 64 = .ok (.ireturn, 1) := by decide +kernel
theorem dB_log_65 : decode cB_log 65 = .ok (.aload_n 3, 1) := by decide +kernel
theorem dB_log_66 : decode cB_log 66 = .ok (.getfield 148, 3) := by decide +kernel
theorem dB_log_69 : decode cB_log 69 = .ok (.ireturn, 1) := by decide +kernel
theorem dB_log_70 : decode cB_log 70 = .ok (.aload_n 3, 1) := by decide +kernel
theorem dB_log_71 : decode cB_log 71 = .ok (.invokevirtual 227, 3) := by decide +kernel
theorem dB_log_74 : decode cB_log 74 = .ok (.ireturn, 1) := by decide +kernel
theorem dB_log_75 : decode cB_log 75 = .ok (.aload_n 3, 1) := by decide +kernel
theorem dB_log_76 : decode cB_log 76 = .ok (.getfield 230, 3) := by decide +kernel
theorem dB_log_79 : decode cB_log 79 = .ok (.ireturn, 1) := by decide +kernel
theorem dB_log_80 : decode cB_log 80 = .ok (.aload_n 3, 1) := by decide +kernel
theorem dB_log_81 : decode cB_log 81 = .ok (.getfield 233, 3) := by decide +kernel
theorem dB_log_84 : decode cB_log 84 = .ok (.ireturn, 1) := by decide +kernel
theorem dB_log_85 : decode cB_log 85 = .ok (.aload_n 0, 1) := by decide +kernel
theorem dB_log_86 : decode cB_log 86 = .ok (.getfield 33, 3) := by decide +kernel
theorem dB_log_89 : decode cB_log 89 = .ok (.iconst 0, 1) := by decide +kernel
theorem dB_log_90 : decode cB_log 90 = .ok (.aaload, 1) := by decide +kernel
theorem dB_log_91 : decode cB_log 91 = .ok (.getfield 216, 3) := by decide +kernel
theorem dB_log_94 : decode cB_log 94 = .ok (.iload_n 1, 1) := by decide +kernel
theorem dB_log_95 : decode cB_log 95 = .ok (.iaload, 1) := by decide +kernel
theorem dB_log_96 : decode cB_log 96 = .ok (.ireturn, 1) := by decide +kernel
theorem dB_log_97 : decode cB_log 97 = .ok (.aload_n 0, 1) := by decide +kernel
theorem dB_log_98 : decode cB_log 98 = .ok (.getfield 33, 3) := by decide +kernel
theorem dB_log_101 : decode cB_log 101 = .ok (.iconst 1, 1) := by decide +kernel
theorem dB_log_102 : decode cB_log 102 = .ok (.aaload, 1) := by decide +kernel
theorem dB_log_103 : decode cB_log 103 = .ok (.getfield 216, 3) := by decide +kernel
theorem dB_log_106 : decode cB_log 106 = .ok (.iload_n 1, 1) := by decide +kernel
theorem dB_log_107 : decode cB_log 107 = .ok (.iaload, 1) := by decide +kernel
theorem dB_log_108 : decode cB_log 108 = .ok (.ireturn, 1) := by decide +kernel
theorem dB_log_109 : decode cB_log 109 = .ok (.aload_n 0, 1) := by decide +kernel
theorem dB_log_110 : decode cB_log 110 = .ok (.getfield 33, 3) := by decide +kernel
theorem dB_log_113 : decode cB_log 113 = .ok (.iconst 0, 1) := by decide +kernel
theorem dB_log_114 : decode cB_log 114 = .ok (.aaload, 1) := by decide +kernel
theorem dB_log_115 : decode cB_log 115 = .ok (.getfield 224, 3) := by decide +kernel
theorem dB_log_118 : decode cB_log 118 = .ok (.iload_n 1, 1) := by decide +kernel
theorem dB_log_119 : decode cB_log 119 = .ok (.iaload, 1) := by decide +kernel
theorem dB_log_120 : decode cB_log 120 = .ok (.ireturn, 1) := by decide +kernel
theorem dB_log_121 : decode cB_log 121 = .ok (.aload_n 0, 1) := by decide +kernel
theorem dB_log_122 : decode cB_log 122 = .ok (.getfield 33, 3) := by decide +kernel
theorem dB_log_125 : decode cB_log 125 = .ok (.iconst 1, 1) := by decide +kernel
theorem dB_log_126 : decode cB_log 126 = .ok (.aaload, 1) := by decide +kernel
theorem dB_log_127 : decode cB_log 127 = .ok (.getfield 224, 3) := by decide +kernel
theorem dB_log_130 : decode cB_log 130 = .ok (.iload_n 1, 1) := by decide +kernel
theorem dB_log_131 : decode cB_log 131 = .ok (.iaload, 1) := by decide +kernel
theorem dB_log_132 : decode cB_log 132 = .ok (.ireturn, 1) := by decide +kernel
theorem dB_count_0 : decode cB_count 0 = .ok (.iload_n 1, 1) := by decide +kernel
theorem dB_count_48 : decode cB_count 48 = .ok (.aload_n 0, 1) := by decide +kernel
theorem dB_count_49 : decode cB_count 49 = .ok (.getfield 236, 3) := by decide +kernel
theorem dB_count_52 : decode cB_count 52 = .ok (.ireturn, 1) := by decide +kernel
theorem dB_count_53 : decode cB_count 53 = .ok (.aload_n 0, 1) := by decide +kernel
theorem dB_count_54 : decode cB_count 54 = .ok (.getfield 105, 3) := by decide +kernel
theorem dB_count_57 : decode cB_count 57 = .ok (.ireturn, 1) := by decide +kernel
theorem dB_count_58 : decode cB_count 58 = .ok (.aload_n 0, 1) := by decide +kernel
theorem dB_count_59 : decode cB_count 59 = .ok (.getfield 239, 3) := by decide +kernel
theorem dB_count_62 : decode cB_count 62 = .ok (.ireturn, 1) := by decide +kernel
theorem dB_count_63 : decode cB_count 63 = .ok (.aload_n 0, 1) := by decide +kernel
theorem dB_count_64 : decode cB_count 64 = .ok (.getfield 242, 3) := by decide +kernel
theorem dB_count_67 : decode cB_count 67 = .ok (.ireturn, 1) := by decide +kernel
theorem dB_count_68 : decode cB_count 68 = .ok (.aload_n 0, 1) := by decide +kernel
theorem dB_count_69 : decode cB_count 69 = .ok (.getfield 195, 3) := by decide +kernel
theorem dB_count_72 : decode cB_count 72 = .ok (.ireturn, 1) := by decide +kernel
theorem dB_count_73 : decode cB_count 73 = .ok (.aload_n 0, 1) := by decide +kernel
theorem dB_count_74 : decode cB_count 74 = .ok (.invokevirtual 245, 3) := by decide +kernel
theorem dB_count_77 : decode cB_count 77 = .ok (.ireturn, 1) := by decide +kernel
theorem dB_count_78 : decode cB_count 78 = .ok (.aload_n 0, 1) := by decide +kernel
theorem dB_count_79 : decode cB_count 79 = .ok (.getfield 33, 3) := by decide +kernel
theorem dB_count_82 : decode cB_count 82 = .ok (.iconst 0, 1) := by decide +kernel
theorem dB_count_83 : decode cB_count 83 = .ok (.aaload, 1) := by decide +kernel
theorem dB_count_84 : decode cB_count 84 = .ok (.getfield 248, 3) := by decide +kernel
theorem dB_count_87 : decode cB_count 87 = .ok (.ireturn, 1) := by decide +kernel
theorem dB_count_88 : decode cB_count 88 = .ok (.aload_n 0, 1) := by decide +kernel
theorem dB_count_89 : decode cB_count 89 = .ok (.getfield 33, 3) := by decide +kernel
theorem dB_count_92 : decode cB_count 92 = .ok (.iconst 1, 1) := by decide +kernel
theorem dB_count_93 : decode cB_count 93 = .ok (.aaload, 1) := by decide +kernel
theorem dB_count_94 : decode cB_count 94 = .ok (.getfield 248, 3) := by decide +kernel
theorem dB_count_97 : decode cB_count 97 = .ok (.ireturn, 1) := by decide +kernel
theorem dB_count_98 : decode cB_count 98 = .ok (.iconst (-1), 1) := by decide +kernel
theorem dB_count_99 : decode cB_count 99 = .ok (.ireturn, 1) := by decide +kernel
theorem dB_mustBeWithin_0 : decode cB_mustBeWithin 0 = .ok (.iload_n 0, 1) := by decide +kernel
theorem dB_mustBeWithin_1 : decode cB_mustBeWithin 1 = .ok (.iload_n 1, 1) := by decide +kernel
theorem dB_mustBeWithin_2 : decode cB_mustBeWithin 2 = .ok (.if_icmp .lt 8, 3) := by decide +kernel
theorem dB_mustBeWithin_5 : decode cB_mustBeWithin 5 = .ok (.iload_n 0, 1) := by decide +kernel
theorem dB_mustBeWithin_6 : decode cB_mustBeWithin 6 = .ok (.iload_n 2, 1) := by decide +kernel
theorem dB_mustBeWithin_7 : decode cB_mustBeWithin 7 = .ok (.if_icmp .le 13, 3) := by decide +kernel
theorem dB_mustBeWithin_10 : decode cB_mustBeWithin 10 = .ok (.new 84, 3) := by decide +kernel
theorem dB_mustBeWithin_13 : decode cB_mustBeWithin 13 = .ok (.dup, 1) := by decide +kernel
theorem dB_mustBeWithin_14 : decode cB_mustBeWithin 14 = .ok (.ldc 251, 2) := by decide +kernel
theorem dB_mustBeWithin_16 : decode cB_mustBeWithin 16 = .ok (.invokespecial 88, 3) := by decide +kernel
theorem dB_mustBeWithin_19 : decode cB_mustBeWithin 19 = .ok (.athrow, 1) := by decide +kernel
theorem dB_mustBeWithin_20 : decode cB_mustBeWithin 20 = .ok (.return_, 1) := by decide +kernel
theorem dB_logAt_0 : decode cB_logAt 0 = .ok (.iload_n 1, 1) := by decide +kernel
theorem dB_logAt_1 : decode cB_logAt 1 = .ok (.ifCond .lt 18, 3) := by decide +kernel
theorem dB_logAt_4 : decode cB_logAt 4 = .ok (.iload_n 1, 1) := by decide +kernel
theorem dB_logAt_5 : decode cB_logAt 5 = .ok (.bipush 12, 2) := by decide +kernel
theorem dB_logAt_7 : decode cB_logAt 7 = .ok (.if_icmp .ge 12, 3) := by decide +kernel
theorem dB_logAt_10 : decode cB_logAt 10 = .ok (.aload_n 0, 1) := by decide +kernel
theorem dB_logAt_11 : decode cB_logAt 11 = .ok (.getfield 15, 3) := by decide +kernel
theorem dB_logAt_14 : decode cB_logAt 14 = .ok (.iload_n 1, 1) := by decide +kernel
theorem dB_logAt_15 : decode cB_logAt 15 = .ok (.aaload, 1) := by decide +kernel
theorem dB_logAt_16 : decode cB_logAt 16 = .ok (.ifnonnull 13, 3) := by decide +kernel
theorem dB_logAt_19 : decode cB_logAt 19 = .ok (.new 84, 3) := by decide +kernel
theorem dB_logAt_22 : decode cB_logAt 22 = .ok (.dup, 1) := by decide +kernel
theorem dB_logAt_23 : decode cB_logAt 23 = .ok (.ldc 253, 2) := by decide +kernel
theorem dB_logAt_25 : decode cB_logAt 25 = .ok (.invokespecial 88, 3) := by decide +kernel
theorem dB_logAt_28 : decode cB_logAt 28 = .ok (.athrow, 1) := by decide +kernel
theorem dB_logAt_29 : decode cB_logAt 29 = .ok (.aload_n 0, 1) := by decide +kernel
theorem dB_logAt_30 : decode cB_logAt 30 = .ok (.getfield 15, 3) := by decide +kernel
theorem dB_logAt_33 : decode cB_logAt 33 = .ok (.iload_n 1, 1) := by decide +kernel
theorem dB_logAt_34 : decode cB_logAt 34 = .ok (.aaload, 1) := by decide +kernel
theorem dB_logAt_35 : decode cB_logAt 35 = .ok (.areturn, 1) := by decide +kernel
theorem dB_openedSession_0 : decode cB_openedSession 0 = .ok (.aload_n 0, 1) := by decide +kernel
theorem dB_openedSession_1 : decode cB_openedSession 1 = .ok (.getfield 21, 3) := by decide +kernel
theorem dB_openedSession_4 : decode cB_openedSession 4 = .ok (.iload_n 1, 1) := by decide +kernel
theorem dB_openedSession_5 : decode cB_openedSession 5 = .ok (.aaload, 1) := by decide +kernel
theorem dB_openedSession_6 : decode cB_openedSession 6 = .ok (.getfield 63, 3) := by decide +kernel
theorem dB_openedSession_9 : decode cB_openedSession 9 = .ok (.iconst (-1), 1) := by decide +kernel
theorem dB_openedSession_10 : decode cB_openedSession 10 = .ok (.if_icmp .ne 13, 3) := by decide +kernel
theorem dB_openedSession_13 : decode cB_openedSession 13 = .ok (.new 168, 3) := by decide +kernel
theorem dB_openedSession_16 : decode cB_openedSession 16 = .ok (.dup, 1) := by decide +kernel
theorem dB_openedSession_17 : decode cB_openedSession 17 = .ok (.ldc 255, 2) := by decide +kernel
theorem dB_openedSession_19 : decode cB_openedSession 19 = .ok (.invokespecial 172, 3) := by decide +kernel
theorem dB_openedSession_22 : decode cB_openedSession 22 = .ok (.athrow, 1) := by decide +kernel
theorem dB_openedSession_23 : decode cB_openedSession 23 = .ok (.aload_n 0, 1) := by decide +kernel
theorem dB_openedSession_24 : decode cB_openedSession 24 = .ok (.getfield 21, 3) := by decide +kernel
theorem dB_openedSession_27 : decode cB_openedSession 27 = .ok (.iload_n 1, 1) := by decide +kernel
theorem dB_openedSession_28 : decode cB_openedSession 28 = .ok (.aaload, 1) := by decide +kernel
theorem dB_openedSession_29 : decode cB_openedSession 29 = .ok (.areturn, 1) := by decide +kernel
theorem dB_isCurrent_0 : decode cB_isCurrent 0 = .ok (.aload_n 0, 1) := by decide +kernel
theorem dB_isCurrent_1 : decode cB_isCurrent 1 = .ok (.getfield 21, 3) := by decide +kernel
theorem dB_isCurrent_4 : decode cB_isCurrent 4 = .ok (.iload_n 1, 1) := by decide +kernel
theorem dB_isCurrent_5 : decode cB_isCurrent 5 = .ok (.aaload, 1) := by decide +kernel
theorem dB_isCurrent_6 : decode cB_isCurrent 6 = .ok (.getfield 63, 3) := by decide +kernel
theorem dB_isCurrent_9 : decode cB_isCurrent 9 = .ok (.istore_n 2, 1) := by decide +kernel
theorem dB_isCurrent_10 : decode cB_isCurrent 10 = .ok (.iload_n 2, 1) := by decide +kernel
theorem dB_isCurrent_11 : decode cB_isCurrent 11 = .ok (.iconst (-1), 1) := by decide +kernel
theorem dB_isCurrent_12 : decode cB_isCurrent 12 = .ok (.if_icmp .eq 17, 3) := by decide +kernel
theorem dB_isCurrent_15 : decode cB_isCurrent 15 = .ok (.aload_n 0, 1) := by decide +kernel
theorem dB_isCurrent_16 : decode cB_isCurrent 16 = .ok (.getfield 25, 3) := by decide +kernel
theorem dB_isCurrent_19 : decode cB_isCurrent 19 = .ok (.iload_n 2, 1) := by decide +kernel
theorem dB_isCurrent_20 : decode cB_isCurrent 20 = .ok (.iaload, 1) := by decide +kernel
theorem dB_isCurrent_21 : decode cB_isCurrent 21 = .ok (.iload_n 1, 1) := by decide +kernel
theorem dB_isCurrent_22 : decode cB_isCurrent 22 = .ok (.if_icmp .ne 7, 3) := by decide +kernel
theorem dB_isCurrent_25 : decode cB_isCurrent 25 = .ok (.iconst 1, 1) := by decide +kernel
theorem dB_isCurrent_26 : decode cB_isCurrent 26 = .ok (.goto 4, 3) := by decide +kernel
theorem dB_isCurrent_29 : decode cB_isCurrent 29 = .ok (.iconst 0, 1) := by decide +kernel
theorem dB_isCurrent_30 : decode cB_isCurrent 30 = .ok (.ireturn, 1) := by decide +kernel
theorem dB_mustBeCurrent_0 : decode cB_mustBeCurrent 0 = .ok (.aload_n 0, 1) := by decide +kernel
theorem dB_mustBeCurrent_1 : decode cB_mustBeCurrent 1 = .ok (.iload_n 1, 1) := by decide +kernel
theorem dB_mustBeCurrent_2 : decode cB_mustBeCurrent 2 = .ok (.invokevirtual 73, 3) := by decide +kernel
theorem dB_mustBeCurrent_5 : decode cB_mustBeCurrent 5 = .ok (.ifCond .ne 14, 3) := by decide +kernel
theorem dB_mustBeCurrent_8 : decode cB_mustBeCurrent 8 = .ok (.new 116, 3) := by decide +kernel
theorem dB_mustBeCurrent_11 : decode cB_mustBeCurrent 11 = .ok (.dup, 1) := by decide +kernel
theorem dB_mustBeCurrent_12 : decode cB_mustBeCurrent 12 = .ok (.ldc_w 257, 3) := by decide +kernel
theorem dB_mustBeCurrent_15 : decode cB_mustBeCurrent 15 = .ok (.invokespecial 120, 3) := by decide +kernel
theorem dB_mustBeCurrent_18 : decode cB_mustBeCurrent 18 = .ok (.athrow, 1) := by decide +kernel
theorem dB_mustBeCurrent_19 : decode cB_mustBeCurrent 19 = .ok (.return_, 1) := by decide +kernel
theorem dB_found_0 : decode cB_found 0 = .ok (.iload_n 0, 1) := by decide +kernel
theorem dB_found_1 : decode cB_found 1 = .ok (.iconst (-1), 1) := by decide +kernel
theorem dB_found_2 : decode cB_found 2 = .ok (.if_icmp .ne 14, 3) := by decide +kernel
theorem dB_found_5 : decode cB_found 5 = .ok (.new 168, 3) := by decide +kernel
theorem dB_found_8 : decode cB_found 8 = .ok (.dup, 1) := by decide +kernel
theorem dB_found_9 : decode cB_found 9 = .ok (.ldc_w 259, 3) := by decide +kernel
theorem dB_found_12 : decode cB_found 12 = .ok (.invokespecial 172, 3) := by decide +kernel
theorem dB_found_15 : decode cB_found 15 = .ok (.athrow, 1) := by decide +kernel
theorem dB_found_16 : decode cB_found 16 = .ok (.iload_n 0, 1) := by decide +kernel
theorem dB_found_17 : decode cB_found 17 = .ok (.ireturn, 1) := by decide +kernel
theorem dB_mustOwn_0 : decode cB_mustOwn 0 = .ok (.iload_n 2, 1) := by decide +kernel
theorem dB_mustOwn_1 : decode cB_mustOwn 1 = .ok (.aload_n 0, 1) := by decide +kernel
theorem dB_mustOwn_2 : decode cB_mustOwn 2 = .ok (.getfield 248, 3) := by decide +kernel
theorem dB_mustOwn_5 : decode cB_mustOwn 5 = .ok (.if_icmp .ne 13, 3) := by decide +kernel
theorem dB_mustOwn_8 : decode cB_mustOwn 8 = .ok (.aload_n 0, 1) := by decide +kernel
theorem dB_mustOwn_9 : decode cB_mustOwn 9 = .ok (.getfield 209, 3) := by decide +kernel
theorem dB_mustOwn_12 : decode cB_mustOwn 12 = .ok (.iload_n 3, 1) := by decide +kernel
theorem dB_mustOwn_13 : decode cB_mustOwn 13 = .ok (.iaload, 1) := by decide +kernel
theorem dB_mustOwn_14 : decode cB_mustOwn 14 = .ok (.iload_n 1, 1) := by decide +kernel
theorem dB_mustOwn_15 : decode cB_mustOwn 15 = .ok (.if_icmp .eq 14, 3) := by decide +kernel
theorem dB_mustOwn_18 : decode cB_mustOwn 18 = .ok (.new 49, 3) := by decide +kernel
theorem dB_mustOwn_21 : decode cB_mustOwn 21 = .ok (.dup, 1) := by decide +kernel
theorem dB_mustOwn_22 : decode cB_mustOwn 22 = .ok (.ldc_w 261, 3) := by decide +kernel
theorem dB_mustOwn_25 : decode cB_mustOwn 25 = .ok (.invokespecial 53, 3) := by decide +kernel
theorem dB_mustOwn_28 : decode cB_mustOwn 28 = .ok (.athrow, 1) := by decide +kernel
theorem dB_mustOwn_29 : decode cB_mustOwn 29 = .ok (.return_, 1) := by decide +kernel
theorem dB_abortOpenTransactionOf_0 : decode cB_abortOpenTransactionOf 0 = .ok (.aload_n 0, 1) := by decide +kernel
theorem dB_abortOpenTransactionOf_1 : decode cB_abortOpenTransactionOf 1 = .ok (.getfield 25, 3) := by decide +kernel
theorem dB_abortOpenTransactionOf_4 : decode cB_abortOpenTransactionOf 4 = .ok (.iload_n 1, 1) := by decide +kernel
theorem dB_abortOpenTransactionOf_5 : decode cB_abortOpenTransactionOf 5 = .ok (.iaload, 1) := by decide +kernel
theorem dB_abortOpenTransactionOf_6 : decode cB_abortOpenTransactionOf 6 = .ok (.istore_n 2, 1) := by decide +kernel
theorem dB_abortOpenTransactionOf_7 : decode cB_abortOpenTransactionOf 7 = .ok (.iload_n 2, 1) := by decide +kernel
theorem dB_abortOpenTransactionOf_8 : decode cB_abortOpenTransactionOf 8 = .ok (.iconst (-1), 1) := by decide +kernel
theorem dB_abortOpenTransactionOf_9 : decode cB_abortOpenTransactionOf 9 = .ok (.if_icmp .eq 32, 3) := by decide +kernel
theorem dB_abortOpenTransactionOf_12 : decode cB_abortOpenTransactionOf 12 = .ok (.aload_n 0, 1) := by decide +kernel
theorem dB_abortOpenTransactionOf_13 : decode cB_abortOpenTransactionOf 13 = .ok (.getfield 21, 3) := by decide +kernel
theorem dB_abortOpenTransactionOf_16 : decode cB_abortOpenTransactionOf 16 = .ok (.iload_n 2, 1) := by decide +kernel
theorem dB_abortOpenTransactionOf_17 : decode cB_abortOpenTransactionOf 17 = .ok (.aaload, 1) := by decide +kernel
theorem dB_abortOpenTransactionOf_18 : decode cB_abortOpenTransactionOf 18 = .ok (.getfield 59, 3) := by decide +kernel
theorem dB_abortOpenTransactionOf_21 : decode cB_abortOpenTransactionOf 21 = .ok (.ifCond .eq 20, 3) := by decide +kernel
theorem dB_abortOpenTransactionOf_24 : decode cB_abortOpenTransactionOf 24 = .ok (.aload_n 0, 1) := by decide +kernel
theorem dB_abortOpenTransactionOf_25 : decode cB_abortOpenTransactionOf 25 = .ok (.iload_n 1, 1) := by decide +kernel
theorem dB_abortOpenTransactionOf_26 : decode cB_abortOpenTransactionOf 26 = .ok (.invokevirtual 138, 3) := by decide +kernel
theorem dB_abortOpenTransactionOf_29 : decode cB_abortOpenTransactionOf 29 = .ok (.aload_n 0, 1) := by decide +kernel
theorem dB_abortOpenTransactionOf_30 : decode cB_abortOpenTransactionOf 30 = .ok (.aload_n 0, 1) := by decide +kernel
theorem dB_abortOpenTransactionOf_31 : decode cB_abortOpenTransactionOf 31 = .ok (.getfield 21, 3) := by decide +kernel
theorem dB_abortOpenTransactionOf_34 : decode cB_abortOpenTransactionOf 34 = .ok (.iload_n 2, 1) := by decide +kernel
theorem dB_abortOpenTransactionOf_35 : decode cB_abortOpenTransactionOf 35 = .ok (.aaload, 1) := by decide +kernel
theorem dB_abortOpenTransactionOf_36 : decode cB_abortOpenTransactionOf 36 = .ok (.iconst 0, 1) := by decide +kernel
theorem dB_abortOpenTransactionOf_37 : decode cB_abortOpenTransactionOf 37 = .ok (.invokevirtual 141, 3) := by decide +kernel
theorem dB_abortOpenTransactionOf_40 : decode cB_abortOpenTransactionOf 40 = .ok (.pop, 1) := by decide +kernel
theorem dB_abortOpenTransactionOf_41 : decode cB_abortOpenTransactionOf 41 = .ok (.return_, 1) := by decide +kernel
theorem dB_mustHaveRoomForMarkers_0 : decode cB_mustHaveRoomForMarkers 0 = .ok (.iconst 0, 1) := by decide +kernel
theorem dB_mustHaveRoomForMarkers_1 : decode cB_mustHaveRoomForMarkers 1 = .ok (.istore_n 2, 1) := by decide +kernel
theorem dB_mustHaveRoomForMarkers_2 : decode cB_mustHaveRoomForMarkers 2 = .ok (.iload_n 2, 1) := by decide +kernel
theorem dB_mustHaveRoomForMarkers_3 : decode cB_mustHaveRoomForMarkers 3 = .ok (.bipush 12, 2) := by decide +kernel
theorem dB_mustHaveRoomForMarkers_5 : decode cB_mustHaveRoomForMarkers 5 = .ok (.if_icmp .ge 41, 3) := by decide +kernel
theorem dB_mustHaveRoomForMarkers_8 : decode cB_mustHaveRoomForMarkers 8 = .ok (.aload_n 0, 1) := by decide +kernel
theorem dB_mustHaveRoomForMarkers_9 : decode cB_mustHaveRoomForMarkers 9 = .ok (.iload_n 2, 1) := by decide +kernel
theorem dB_mustHaveRoomForMarkers_10 : decode cB_mustHaveRoomForMarkers 10 = .ok (.iload_n 1, 1) := by decide +kernel
theorem dB_mustHaveRoomForMarkers_11 : decode cB_mustHaveRoomForMarkers 11 = .ok (.invokevirtual 263, 3) := by decide +kernel
theorem dB_mustHaveRoomForMarkers_14 : decode cB_mustHaveRoomForMarkers 14 = .ok (.ifCond .eq 26, 3) := by decide +kernel
theorem dB_mustHaveRoomForMarkers_17 : decode cB_mustHaveRoomForMarkers 17 = .ok (.aload_n 0, 1) := by decide +kernel
theorem dB_mustHaveRoomForMarkers_18 : decode cB_mustHaveRoomForMarkers 18 = .ok (.getfield 15, 3) := by decide +kernel
theorem dB_mustHaveRoomForMarkers_21 : decode cB_mustHaveRoomForMarkers 21 = .ok (.iload_n 2, 1) := by decide +kernel
theorem dB_mustHaveRoomForMarkers_22 : decode cB_mustHaveRoomForMarkers 22 = .ok (.aaload, 1) := by decide +kernel
theorem dB_mustHaveRoomForMarkers_23 : decode cB_mustHaveRoomForMarkers 23 = .ok (.invokevirtual 112, 3) := by decide +kernel
theorem dB_mustHaveRoomForMarkers_26 : decode cB_mustHaveRoomForMarkers 26 = .ok (.ifCond .eq 14, 3) := by decide +kernel
theorem dB_mustHaveRoomForMarkers_29 : decode cB_mustHaveRoomForMarkers 29 = .ok (.new 116, 3) := by decide +kernel
theorem dB_mustHaveRoomForMarkers_32 : decode cB_mustHaveRoomForMarkers 32 = .ok (.dup, 1) := by decide +kernel
theorem dB_mustHaveRoomForMarkers_33 : decode cB_mustHaveRoomForMarkers 33 = .ok (.ldc_w 266, 3) := by decide +kernel
theorem dB_mustHaveRoomForMarkers_36 : decode cB_mustHaveRoomForMarkers 36 = .ok (.invokespecial 120, 3) := by decide +kernel
theorem dB_mustHaveRoomForMarkers_39 : decode cB_mustHaveRoomForMarkers 39 = .ok (.athrow, 1) := by decide +kernel
theorem dB_mustHaveRoomForMarkers_40 : decode cB_mustHaveRoomForMarkers 40 = .ok (.iinc 2 1, 3) := by decide +kernel
theorem dB_mustHaveRoomForMarkers_43 : decode cB_mustHaveRoomForMarkers 43 = .ok (.goto (-41), 3) := by decide +kernel
theorem dB_mustHaveRoomForMarkers_46 : decode cB_mustHaveRoomForMarkers 46 = .ok (.return_, 1) := by decide +kernel
theorem dB_awaitsMarker_0 : decode cB_awaitsMarker 0 = .ok (.aload_n 0, 1) := by decide +kernel
theorem dB_awaitsMarker_1 : decode cB_awaitsMarker 1 = .ok (.getfield 15, 3) := by decide +kernel
theorem dB_awaitsMarker_4 : decode cB_awaitsMarker 4 = .ok (.iload_n 1, 1) := by decide +kernel
theorem dB_awaitsMarker_5 : decode cB_awaitsMarker 5 = .ok (.aaload, 1) := by decide +kernel
theorem dB_awaitsMarker_6 : decode cB_awaitsMarker 6 = .ok (.ifnull 20, 3) := by decide +kernel
theorem dB_awaitsMarker_9 : decode cB_awaitsMarker 9 = .ok (.aload_n 0, 1) := by decide +kernel
theorem dB_awaitsMarker_10 : decode cB_awaitsMarker 10 = .ok (.getfield 15, 3) := by decide +kernel
theorem dB_awaitsMarker_13 : decode cB_awaitsMarker 13 = .ok (.iload_n 1, 1) := by decide +kernel
theorem dB_awaitsMarker_14 : decode cB_awaitsMarker 14 = .ok (.aaload, 1) := by decide +kernel
theorem dB_awaitsMarker_15 : decode cB_awaitsMarker 15 = .ok (.iload_n 2, 1) := by decide +kernel
theorem dB_awaitsMarker_16 : decode cB_awaitsMarker 16 = .ok (.invokevirtual 268, 3) := by decide +kernel
theorem dB_awaitsMarker_19 : decode cB_awaitsMarker 19 = .ok (.ifCond .eq 7, 3) := by decide +kernel
theorem dB_awaitsMarker_22 : decode cB_awaitsMarker 22 = .ok (.iconst 1, 1) := by decide +kernel
theorem dB_awaitsMarker_23 : decode cB_awaitsMarker 23 = .ok (.goto 4, 3) := by decide +kernel
theorem dB_awaitsMarker_26 : decode cB_awaitsMarker 26 = .ok (.iconst 0, 1) := by decide +kernel
theorem dB_awaitsMarker_27 : decode cB_awaitsMarker 27 = .ok (.ireturn, 1) := by decide +kernel
theorem dB_decide_0 : decode cB_decide 0 = .ok (.aload_n 1, 1) := by decide +kernel
theorem dB_decide_1 : decode cB_decide 1 = .ok (.getfield 63, 3) := by decide +kernel
theorem dB_decide_4 : decode cB_decide 4 = .ok (.istore_n 3, 1) := by decide +kernel
theorem dB_decide_5 : decode cB_decide 5 = .ok (.aload_n 0, 1) := by decide +kernel
theorem dB_decide_6 : decode cB_decide 6 = .ok (.getfield 239, 3) := by decide +kernel
theorem dB_decide_9 : decode cB_decide 9 = .ok (.istore 4, 2) := by decide +kernel
theorem dB_decide_11 : decode cB_decide 11 = .ok (.iconst 0, 1) := by decide +kernel
theorem dB_decide_12 : decode cB_decide 12 = .ok (.istore 5, 2) := by decide +kernel
theorem dB_decide_14 : decode cB_decide 14 = .ok (.iload 5, 2) := by decide +kernel
theorem dB_decide_16 : decode cB_decide 16 = .ok (.bipush 12, 2) := by decide +kernel
theorem dB_decide_18 : decode cB_decide 18 = .ok (.if_icmp .ge 61, 3) := by decide +kernel
theorem dB_decide_21 : decode cB_decide 21 = .ok (.aload_n 0, 1) := by decide +kernel
theorem dB_decide_22 : decode cB_decide 22 = .ok (.iload 5, 2) := by decide +kernel
theorem dB_decide_24 : decode cB_decide 24 = .ok (.iload_n 3, 1) := by decide +kernel
theorem dB_decide_25 : decode cB_decide 25 = .ok (.invokevirtual 263, 3) := by decide +kernel
theorem dB_decide_28 : decode cB_decide 28 = .ok (.ifCond .eq 45, 3) := by decide +kernel
theorem dB_decide_31 : decode cB_decide 31 = .ok (.aload_n 0, 1) := by decide +kernel
theorem dB_decide_32 : decode cB_decide 32 = .ok (.aload_n 0, 1) := by decide +kernel
theorem dB_decide_33 : decode cB_decide 33 = .ok (.getfield 15, 3) := by decide +kernel
theorem dB_decide_36 : decode cB_decide 36 = .ok (.iload 5, 2) := by decide +kernel
theorem dB_decide_38 : decode cB_decide 38 = .ok (.aaload, 1) := by decide +kernel
theorem dB_decide_39 : decode cB_decide 39 = .ok (.new 121, 3) := by decide +kernel
theorem dB_decide_42 : decode cB_decide 42 = .ok (.dup, 1) := by decide +kernel
theorem dB_decide_43 : decode cB_decide 43 = .ok (.iload_n 2, 1) := by decide +kernel
theorem dB_decide_44 : decode cB_decide 44 = .ok (.ifCond .eq 7, 3) := by decide +kernel
theorem dB_decide_47 : decode cB_decide 47 = .ok (.iconst 1, 1) := by decide +kernel
theorem dB_decide_48 : decode cB_decide 48 = .ok (.goto 4, 3) := by decide +kernel
theorem dB_decide_51 : decode cB_decide 51 = .ok (.iconst 2, 1) := by decide +kernel
theorem dB_decide_52 : decode cB_decide 52 = .ok (.iconst (-1), 1) := by decide +kernel
theorem dB_decide_53 : decode cB_decide 53 = .ok (.iconst 0, 1) := by decide +kernel
theorem dB_decide_54 : decode cB_decide 54 = .ok (.iload_n 3, 1) := by decide +kernel
theorem dB_decide_55 : decode cB_decide 55 = .ok (.iconst 0, 1) := by decide +kernel
theorem dB_decide_56 : decode cB_decide 56 = .ok (.invokespecial 123, 3) := by decide +kernel
theorem dB_decide_59 : decode cB_decide 59 = .ok (.invokevirtual 126, 3) := by decide +kernel
theorem dB_decide_62 : decode cB_decide 62 = .ok (.pop, 1) := by decide +kernel
theorem dB_decide_63 : decode cB_decide 63 = .ok (.aload_n 0, 1) := by decide +kernel
theorem dB_decide_64 : decode cB_decide 64 = .ok (.dup, 1) := by decide +kernel
theorem dB_decide_65 : decode cB_decide 65 = .ok (.getfield 239, 3) := by decide +kernel
theorem dB_decide_68 : decode cB_decide 68 = .ok (.iconst 1, 1) := by decide +kernel
theorem dB_decide_69 : decode cB_decide 69 = .ok (.iadd, 1) := by decide +kernel
theorem dB_decide_70 : decode cB_decide 70 = .ok (.putfield 239, 3) := by decide +kernel
theorem dB_decide_73 : decode cB_decide 73 = .ok (.iinc 5 1, 3) := by decide +kernel
theorem dB_decide_76 : decode cB_decide 76 = .ok (.goto (-62), 3) := by decide +kernel
theorem dB_decide_79 : decode cB_decide 79 = .ok (.iconst 0, 1) := by decide +kernel
theorem dB_decide_80 : decode cB_decide 80 = .ok (.istore 5, 2) := by decide +kernel
theorem dB_decide_82 : decode cB_decide 82 = .ok (.iload 5, 2) := by decide +kernel
theorem dB_decide_84 : decode cB_decide 84 = .ok (.bipush 12, 2) := by decide +kernel
theorem dB_decide_86 : decode cB_decide 86 = .ok (.if_icmp .ge 39, 3) := by decide +kernel
theorem dB_decide_89 : decode cB_decide 89 = .ok (.aload_n 0, 1) := by decide +kernel
theorem dB_decide_90 : decode cB_decide 90 = .ok (.getfield 15, 3) := by decide +kernel
theorem dB_decide_93 : decode cB_decide 93 = .ok (.iload 5, 2) := by decide +kernel
theorem dB_decide_95 : decode cB_decide 95 = .ok (.aaload, 1) := by decide +kernel
theorem dB_decide_96 : decode cB_decide 96 = .ok (.ifnull 23, 3) := by decide +kernel
theorem dB_decide_99 : decode cB_decide 99 = .ok (.aload_n 0, 1) := by decide +kernel
theorem dB_decide_100 : decode cB_decide 100 = .ok (.getfield 15, 3) := by decide +kernel
theorem dB_decide_103 : decode cB_decide 103 = .ok (.iload 5, 2) := by decide +kernel
theorem dB_decide_105 : decode cB_decide 105 = .ok (.aaload, 1) := by decide +kernel
theorem dB_decide_106 : decode cB_decide 106 = .ok (.iload_n 3, 1) := by decide +kernel
theorem dB_decide_107 : decode cB_decide 107 = .ok (.iload_n 2, 1) := by decide +kernel
theorem dB_decide_108 : decode cB_decide 108 = .ok (.ifCond .eq 7, 3) := by decide +kernel
theorem dB_decide_111 : decode cB_decide 111 = .ok (.iconst 0, 1) := by decide +kernel
theorem dB_decide_112 : decode cB_decide 112 = .ok (.goto 4, 3) := by decide +kernel
theorem dB_decide_115 : decode cB_decide 115 = .ok (.iconst 1, 1) := by decide +kernel
theorem dB_decide_116 : decode cB_decide 116 = .ok (.invokevirtual 271, 3) := by decide +kernel
theorem dB_decide_119 : decode cB_decide 119 = .ok (.iinc 5 1, 3) := by decide +kernel
theorem dB_decide_122 : decode cB_decide 122 = .ok (.goto (-40), 3) := by decide +kernel
theorem dB_decide_125 : decode cB_decide 125 = .ok (.aload_n 1, 1) := by decide +kernel
theorem dB_decide_126 : decode cB_decide 126 = .ok (.iconst 0, 1) := by decide +kernel
theorem dB_decide_127 : decode cB_decide 127 = .ok (.putfield 59, 3) := by decide +kernel
theorem dB_decide_130 : decode cB_decide 130 = .ok (.aload_n 0, 1) := by decide +kernel
theorem dB_decide_131 : decode cB_decide 131 = .ok (.getfield 239, 3) := by decide +kernel
theorem dB_decide_134 : decode cB_decide 134 = .ok (.iload 4, 2) := by decide +kernel
theorem dB_decide_136 : decode cB_decide 136 = .ok (.isub, 1) := by decide +kernel
theorem dB_decide_137 : decode cB_decide 137 = .ok (.ireturn, 1) := by decide +kernel
theorem dB_write_0 : decode cB_write 0 = .ok (.aload_n 1, 1) := by decide +kernel
theorem dB_write_1 : decode cB_write 1 = .ok (.aload_n 2, 1) := by decide +kernel
theorem dB_write_2 : decode cB_write 2 = .ok (.invokevirtual 274, 3) := by decide +kernel
theorem dB_write_5 : decode cB_write 5 = .ok (.istore_n 3, 1) := by decide +kernel
theorem dB_write_6 : decode cB_write 6 = .ok (.aload_n 0, 1) := by decide +kernel
theorem dB_write_7 : decode cB_write 7 = .ok (.dup, 1) := by decide +kernel
theorem dB_write_8 : decode cB_write 8 = .ok (.getfield 236, 3) := by decide +kernel
theorem dB_write_11 : decode cB_write 11 = .ok (.iconst 1, 1) := by decide +kernel
theorem dB_write_12 : decode cB_write 12 = .ok (.iadd, 1) := by decide +kernel
theorem dB_write_13 : decode cB_write 13 = .ok (.putfield 236, 3) := by decide +kernel
theorem dB_write_16 : decode cB_write 16 = .ok (.aload_n 0, 1) := by decide +kernel
theorem dB_write_17 : decode cB_write 17 = .ok (.dup, 1) := by decide +kernel
theorem dB_write_18 : decode cB_write 18 = .ok (.getfield 242, 3) := by decide +kernel
theorem dB_write_21 : decode cB_write 21 = .ok (.aload_n 1, 1) := by decide +kernel
theorem dB_write_22 : decode cB_write 22 = .ok (.invokevirtual 278, 3) := by decide +kernel
theorem dB_write_25 : decode cB_write 25 = .ok (.iadd, 1) := by decide +kernel
theorem dB_write_26 : decode cB_write 26 = .ok (.putfield 242, 3) := by decide +kernel
theorem dB_write_29 : decode cB_write 29 = .ok (.iload_n 3, 1) := by decide +kernel
theorem dB_write_30 : decode cB_write 30 = .ok (.ireturn, 1) := by decide +kernel
theorem dB_openTransactions_0 : decode cB_openTransactions 0 = .ok (.iconst 0, 1) := by decide +kernel
theorem dB_openTransactions_1 : decode cB_openTransactions 1 = .ok (.istore_n 1, 1) := by decide +kernel
theorem dB_openTransactions_2 : decode cB_openTransactions 2 = .ok (.iconst 0, 1) := by decide +kernel
theorem dB_openTransactions_3 : decode cB_openTransactions 3 = .ok (.istore_n 2, 1) := by decide +kernel
theorem dB_openTransactions_4 : decode cB_openTransactions 4 = .ok (.iload_n 2, 1) := by decide +kernel
theorem dB_openTransactions_5 : decode cB_openTransactions 5 = .ok (.bipush 6, 2) := by decide +kernel
theorem dB_openTransactions_7 : decode cB_openTransactions 7 = .ok (.if_icmp .ge 24, 3) := by decide +kernel
theorem dB_openTransactions_10 : decode cB_openTransactions 10 = .ok (.aload_n 0, 1) := by decide +kernel
theorem dB_openTransactions_11 : decode cB_openTransactions 11 = .ok (.getfield 21, 3) := by decide +kernel
theorem dB_openTransactions_14 : decode cB_openTransactions 14 = .ok (.iload_n 2, 1) := by decide +kernel
theorem dB_openTransactions_15 : decode cB_openTransactions 15 = .ok (.aaload, 1) := by decide +kernel
theorem dB_openTransactions_16 : decode cB_openTransactions 16 = .ok (.getfield 59, 3) := by decide +kernel
theorem dB_openTransactions_19 : decode cB_openTransactions 19 = .ok (.ifCond .eq 6, 3) := by decide +kernel
theorem dB_openTransactions_22 : decode cB_openTransactions 22 = .ok (.iinc 1 1, 3) := by decide +kernel
theorem dB_openTransactions_25 : decode cB_openTransactions 25 = .ok (.iinc 2 1, 3) := by decide +kernel
theorem dB_openTransactions_28 : decode cB_openTransactions 28 = .ok (.goto (-24), 3) := by decide +kernel
theorem dB_openTransactions_31 : decode cB_openTransactions 31 = .ok (.iload_n 1, 1) := by decide +kernel
theorem dB_openTransactions_32 : decode cB_openTransactions 32 = .ok (.ireturn, 1) := by decide +kernel
theorem dE_init_0 : decode cE_init 0 = .ok (.aload_n 0, 1) := by decide +kernel
theorem dE_init_1 : decode cE_init 1 = .ok (.invokespecial 3, 3) := by decide +kernel
theorem dE_init_4 : decode cE_init 4 = .ok (.aload_n 0, 1) := by decide +kernel
theorem dE_init_5 : decode cE_init 5 = .ok (.iload_n 1, 1) := by decide +kernel
theorem dE_init_6 : decode cE_init 6 = .ok (.putfield 9, 3) := by decide +kernel
theorem dE_init_9 : decode cE_init 9 = .ok (.aload_n 0, 1) := by decide +kernel
theorem dE_init_10 : decode cE_init 10 = .ok (.iload_n 2, 1) := by decide +kernel
theorem dE_init_11 : decode cE_init 11 = .ok (.putfield 15, 3) := by decide +kernel
theorem dE_init_14 : decode cE_init 14 = .ok (.aload_n 0, 1) := by decide +kernel
theorem dE_init_15 : decode cE_init 15 = .ok (.iload_n 3, 1) := by decide +kernel
theorem dE_init_16 : decode cE_init 16 = .ok (.putfield 18, 3) := by decide +kernel
theorem dE_init_19 : decode cE_init 19 = .ok (.aload_n 0, 1) := by decide +kernel
theorem dE_init_20 : decode cE_init 20 = .ok (.iload 4, 2) := by decide +kernel
theorem dE_init_22 : decode cE_init 22 = .ok (.putfield 21, 3) := by decide +kernel
theorem dE_init_25 : decode cE_init 25 = .ok (.aload_n 0, 1) := by decide +kernel
theorem dE_init_26 : decode cE_init 26 = .ok (.iload 5, 2) := by decide +kernel
theorem dE_init_28 : decode cE_init 28 = .ok (.putfield 24, 3) := by decide +kernel
theorem dE_init_31 : decode cE_init 31 = .ok (.return_, 1) := by decide +kernel
theorem dE_isUndecidedOf_0 : decode cE_isUndecidedOf 0 = .ok (.aload_n 0, 1) := by decide +kernel
theorem dE_isUndecidedOf_1 : decode cE_isUndecidedOf 1 = .ok (.getfield 24, 3) := by decide +kernel
theorem dE_isUndecidedOf_4 : decode cE_isUndecidedOf 4 = .ok (.iconst 2, 1) := by decide +kernel
theorem dE_isUndecidedOf_5 : decode cE_isUndecidedOf 5 = .ok (.if_icmp .ne 15, 3) := by decide +kernel
theorem dE_isUndecidedOf_8 : decode cE_isUndecidedOf 8 = .ok (.aload_n 0, 1) := by decide +kernel
theorem dE_isUndecidedOf_9 : decode cE_isUndecidedOf 9 = .ok (.getfield 21, 3) := by decide +kernel
theorem dE_isUndecidedOf_12 : decode cE_isUndecidedOf 12 = .ok (.iload_n 1, 1) := by decide +kernel
theorem dE_isUndecidedOf_13 : decode cE_isUndecidedOf 13 = .ok (.if_icmp .ne 7, 3) := by decide +kernel
theorem dE_isUndecidedOf_16 : decode cE_isUndecidedOf 16 = .ok (.iconst 1, 1) := by decide +kernel
theorem dE_isUndecidedOf_17 : decode cE_isUndecidedOf 17 = .ok (.goto 4, 3) := by decide +kernel
theorem dE_isUndecidedOf_20 : decode cE_isUndecidedOf 20 = .ok (.iconst 0, 1) := by decide +kernel
theorem dE_isUndecidedOf_21 : decode cE_isUndecidedOf 21 = .ok (.ireturn, 1) := by decide +kernel
theorem dH_init_0 : decode cH_init 0 = .ok (.aload_n 0, 1) := by decide +kernel
theorem dH_init_1 : decode cH_init 1 = .ok (.invokespecial 3, 3) := by decide +kernel
theorem dH_init_4 : decode cH_init 4 = .ok (.aload_n 0, 1) := by decide +kernel
theorem dH_init_5 : decode cH_init 5 = .ok (.iconst 4, 1) := by decide +kernel
theorem dH_init_6 : decode cH_init 6 = .ok (.newarray .int, 2) := by decide +kernel
theorem dH_init_8 : decode cH_init 8 = .ok (.putfield 9, 3) := by decide +kernel
theorem dH_init_11 : decode cH_init 11 = .ok (.aload_n 0, 1) := by decide +kernel
theorem dH_init_12 : decode cH_init 12 = .ok (.bipush 12, 2) := by decide +kernel
theorem dH_init_14 : decode cH_init 14 = .ok (.newarray .int, 2) := by decide +kernel
theorem dH_init_16 : decode cH_init 16 = .ok (.putfield 15, 3) := by decide +kernel
theorem dH_init_19 : decode cH_init 19 = .ok (.aload_n 0, 1) := by decide +kernel
theorem dH_init_20 : decode cH_init 20 = .ok (.bipush 12, 2) := by decide +kernel
theorem dH_init_22 : decode cH_init 22 = .ok (.newarray .int, 2) := by decide +kernel
theorem dH_init_24 : decode cH_init 24 = .ok (.putfield 18, 3) := by decide +kernel
theorem dH_init_27 : decode cH_init 27 = .ok (.aload_n 0, 1) := by decide +kernel
theorem dH_init_28 : decode cH_init 28 = .ok (.bipush 12, 2) := by decide +kernel
theorem dH_init_30 : decode cH_init 30 = .ok (.newarray .int, 2) := by decide +kernel
theorem dH_init_32 : decode cH_init 32 = .ok (.putfield 21, 3) := by decide +kernel
theorem dH_init_35 : decode cH_init 35 = .ok (.aload_n 0, 1) := by decide +kernel
theorem dH_init_36 : decode cH_init 36 = .ok (.getfield 9, 3) := by decide +kernel
theorem dH_init_39 : decode cH_init 39 = .ok (.iconst (-1), 1) := by decide +kernel
theorem dH_init_40 : decode cH_init 40 = .ok (.invokestatic 24, 3) := by decide +kernel
theorem dH_init_43 : decode cH_init 43 = .ok (.aload_n 0, 1) := by decide +kernel
theorem dH_init_44 : decode cH_init 44 = .ok (.getfield 15, 3) := by decide +kernel
theorem dH_init_47 : decode cH_init 47 = .ok (.iconst (-1), 1) := by decide +kernel
theorem dH_init_48 : decode cH_init 48 = .ok (.invokestatic 24, 3) := by decide +kernel
theorem dH_init_51 : decode cH_init 51 = .ok (.return_, 1) := by decide +kernel
theorem dH_changeMember_0 : decode cH_changeMember 0 = .ok (.aload_n 0, 1) := by decide +kernel
theorem dH_changeMember_1 : decode cH_changeMember 1 = .ok (.getfield 9, 3) := by decide +kernel
theorem dH_changeMember_4 : decode cH_changeMember 4 = .ok (.iload_n 1, 1) := by decide +kernel
theorem dH_changeMember_5 : decode cH_changeMember 5 = .ok (.iload_n 2, 1) := by decide +kernel
theorem dH_changeMember_6 : decode cH_changeMember 6 = .ok (.iastore, 1) := by decide +kernel
theorem dH_changeMember_7 : decode cH_changeMember 7 = .ok (.aload_n 0, 1) := by decide +kernel
theorem dH_changeMember_8 : decode cH_changeMember 8 = .ok (.dup, 1) := by decide +kernel
theorem dH_changeMember_9 : decode cH_changeMember 9 = .ok (.getfield 30, 3) := by decide +kernel
theorem dH_changeMember_12 : decode cH_changeMember 12 = .ok (.iconst 1, 1) := by decide +kernel
theorem dH_changeMember_13 : decode cH_changeMember 13 = .ok (.iadd, 1) := by decide +kernel
theorem dH_changeMember_14 : decode cH_changeMember 14 = .ok (.putfield 30, 3) := by decide +kernel
theorem dH_changeMember_17 : decode cH_changeMember 17 = .ok (.aload_n 0, 1) := by decide +kernel
theorem dH_changeMember_18 : decode cH_changeMember 18 = .ok (.getfield 15, 3) := by decide +kernel
theorem dH_changeMember_21 : decode cH_changeMember 21 = .ok (.iconst (-1), 1) := by decide +kernel
theorem dH_changeMember_22 : decode cH_changeMember 22 = .ok (.invokestatic 24, 3) := by decide +kernel
theorem dH_changeMember_25 : decode cH_changeMember 25 = .ok (.iconst 0, 1) := by decide +kernel
theorem dH_changeMember_26 : decode cH_changeMember 26 = .ok (.istore 4, 2) := by decide +kernel
theorem dH_changeMember_28 : decode cH_changeMember 28 = .ok (.iload 4, 2) := by decide +kernel
theorem dH_changeMember_30 : decode cH_changeMember 30 = .ok (.iconst 3, 1) := by decide +kernel
theorem dH_changeMember_31 : decode cH_changeMember 31 = .ok (.if_icmp .ge 19, 3) := by decide +kernel
theorem dH_changeMember_34 : decode cH_changeMember 34 = .ok (.aload_n 0, 1) := by decide +kernel
theorem dH_changeMember_35 : decode cH_changeMember 35 = .ok (.iload 4, 2) := by decide +kernel
theorem dH_changeMember_37 : decode cH_changeMember 37 = .ok (.aload_n 3, 1) := by decide +kernel
theorem dH_changeMember_38 : decode cH_changeMember 38 = .ok (.iload 4, 2) := by decide +kernel
theorem dH_changeMember_40 : decode cH_changeMember 40 = .ok (.iaload, 1) := by decide +kernel
theorem dH_changeMember_41 : decode cH_changeMember 41 = .ok (.invokevirtual 34, 3) := by decide +kernel
theorem dH_changeMember_44 : decode cH_changeMember 44 = .ok (.iinc 4 1, 3) := by decide +kernel
theorem dH_changeMember_47 : decode cH_changeMember 47 = .ok (.goto (-19), 3) := by decide +kernel
theorem dH_changeMember_50 : decode cH_changeMember 50 = .ok (.aload_n 0, 1) := by decide +kernel
theorem dH_changeMember_51 : decode cH_changeMember 51 = .ok (.getfield 21, 3) := by decide +kernel
theorem dH_changeMember_54 : decode cH_changeMember 54 = .ok (.iconst 0, 1) := by decide +kernel
theorem dH_changeMember_55 : decode cH_changeMember 55 = .ok (.aload_n 0, 1) := by decide +kernel
theorem dH_changeMember_56 : decode cH_changeMember 56 = .ok (.getfield 18, 3) := by decide +kernel
theorem dH_changeMember_59 : decode cH_changeMember 59 = .ok (.iconst 0, 1) := by decide +kernel
theorem dH_changeMember_60 : decode cH_changeMember 60 = .ok (.bipush 12, 2) := by decide +kernel
theorem dH_changeMember_62 : decode cH_changeMember 62 = .ok (.invokestatic 38, 3) := by decide +kernel
theorem dH_changeMember_65 : decode cH_changeMember 65 = .ok (.aload_n 0, 1) := by decide +kernel
theorem dH_changeMember_66 : decode cH_changeMember 66 = .ok (.getfield 30, 3) := by decide +kernel
theorem dH_changeMember_69 : decode cH_changeMember 69 = .ok (.ireturn, 1) := by decide +kernel
theorem dH_shareOut_0 : decode cH_shareOut 0 = .ok (.aload_n 0, 1) := by decide +kernel
theorem dH_shareOut_1 : decode cH_shareOut 1 = .ok (.iload_n 1, 1) := by decide +kernel
theorem dH_shareOut_2 : decode cH_shareOut 2 = .ok (.invokevirtual 44, 3) := by decide +kernel
theorem dH_shareOut_5 : decode cH_shareOut 5 = .ok (.istore_n 3, 1) := by decide +kernel
theorem dH_shareOut_6 : decode cH_shareOut 6 = .ok (.iload_n 3, 1) := by decide +kernel
theorem dH_shareOut_7 : decode cH_shareOut 7 = .ok (.ifCond .ne 4, 3) := by decide +kernel
theorem dH_shareOut_10 : decode cH_shareOut 10 = .ok (.return_, 1) := by decide +kernel
theorem dH_shareOut_11 : decode cH_shareOut 11 = .ok (.iload_n 2, 1) := by decide +kernel
theorem dH_shareOut_12 : decode cH_shareOut 12 = .ok (.iload_n 3, 1) := by decide +kernel
theorem dH_shareOut_13 : decode cH_shareOut 13 = .ok (.irem, 1) := by decide +kernel
theorem dH_shareOut_14 : decode cH_shareOut 14 = .ok (.istore 4, 2) := by decide +kernel
theorem dH_shareOut_16 : decode cH_shareOut 16 = .ok (.iload_n 1, 1) := by decide +kernel
theorem dH_shareOut_17 : decode cH_shareOut 17 = .ok (.iconst 4, 1) := by decide +kernel
theorem dH_shareOut_18 : decode cH_shareOut 18 = .ok (.imul, 1) := by decide +kernel
theorem dH_shareOut_19 : decode cH_shareOut 19 = .ok (.istore 5, 2) := by decide +kernel
theorem dH_shareOut_21 : decode cH_shareOut 21 = .ok (.iconst 0, 1) := by decide +kernel
theorem dH_shareOut_22 : decode cH_shareOut 22 = .ok (.istore 6, 2) := by decide +kernel
theorem dH_shareOut_24 : decode cH_shareOut 24 = .ok (.iload 6, 2) := by decide +kernel
theorem dH_shareOut_26 : decode cH_shareOut 26 = .ok (.iconst 4, 1) := by decide +kernel
theorem dH_shareOut_27 : decode cH_shareOut 27 = .ok (.if_icmp .ge 64, 3) := by decide +kernel
theorem dH_shareOut_30 : decode cH_shareOut 30 = .ok (.aload_n 0, 1) := by decide +kernel
theorem dH_shareOut_31 : decode cH_shareOut 31 = .ok (.getfield 9, 3) := by decide +kernel
theorem dH_shareOut_34 : decode cH_shareOut 34 = .ok (.iload 6, 2) := by decide +kernel
theorem dH_shareOut_36 : decode cH_shareOut 36 = .ok (.iaload, 1) := by decide +kernel
theorem dH_shareOut_37 : decode cH_shareOut 37 = .ok (.iload_n 1, 1) := by decide +kernel
theorem dH_shareOut_38 : decode cH_shareOut 38 = .ok (.if_icmp .ne 47, 3) := by decide +kernel
theorem dH_shareOut_41 : decode cH_shareOut 41 = .ok (.iload 5, 2) := by decide +kernel
theorem dH_shareOut_43 : decode cH_shareOut 43 = .ok (.iload_n 2, 1) := by decide +kernel
theorem dH_shareOut_44 : decode cH_shareOut 44 = .ok (.iload_n 3, 1) := by decide +kernel
theorem dH_shareOut_45 : decode cH_shareOut 45 = .ok (.idiv, 1) := by decide +kernel
theorem dH_shareOut_46 : decode cH_shareOut 46 = .ok (.iadd, 1) := by decide +kernel
theorem dH_shareOut_47 : decode cH_shareOut 47 = .ok (.iload 4, 2) := by decide +kernel
theorem dH_shareOut_49 : decode cH_shareOut 49 = .ok (.ifCond .le 7, 3) := by decide +kernel
theorem dH_shareOut_52 : decode cH_shareOut 52 = .ok (.iconst 1, 1) := by decide +kernel
theorem dH_shareOut_53 : decode cH_shareOut 53 = .ok (.goto 4, 3) := by decide +kernel
theorem dH_shareOut_56 : decode cH_shareOut 56 = .ok (.iconst 0, 1) := by decide +kernel
theorem dH_shareOut_57 : decode cH_shareOut 57 = .ok (.iadd, 1) := by decide +kernel
theorem dH_shareOut_58 : decode cH_shareOut 58 = .ok (.istore 7, 2) := by decide +kernel
theorem dH_shareOut_60 : decode cH_shareOut 60 = .ok (.iload 5, 2) := by decide +kernel
theorem dH_shareOut_62 : decode cH_shareOut 62 = .ok (.iload 7, 2) := by decide +kernel
theorem dH_shareOut_64 : decode cH_shareOut 64 = .ok (.if_icmp .ge 18, 3) := by decide +kernel
theorem dH_shareOut_67 : decode cH_shareOut 67 = .ok (.aload_n 0, 1) := by decide +kernel
theorem dH_shareOut_68 : decode cH_shareOut 68 = .ok (.getfield 15, 3) := by decide +kernel
theorem dH_shareOut_71 : decode cH_shareOut 71 = .ok (.iload 5, 2) := by decide +kernel
theorem dH_shareOut_73 : decode cH_shareOut 73 = .ok (.iload 6, 2) := by decide +kernel
theorem dH_shareOut_75 : decode cH_shareOut 75 = .ok (.iastore, 1) := by decide +kernel
theorem dH_shareOut_76 : decode cH_shareOut 76 = .ok (.iinc 5 1, 3) := by decide +kernel
theorem dH_shareOut_79 : decode cH_shareOut 79 = .ok (.goto (-19), 3) := by decide +kernel
theorem dH_shareOut_82 : decode cH_shareOut 82 = .ok (.iinc 4 (-1), 3) := by decide +kernel
theorem dH_shareOut_85 : decode cH_shareOut 85 = .ok (.iinc 6 1, 3) := by decide +kernel
theorem dH_shareOut_88 : decode cH_shareOut 88 = .ok (.goto (-64), 3) := by decide +kernel
theorem dH_shareOut_91 : decode cH_shareOut 91 = .ok (.return_, 1) := by decide +kernel
theorem dH_membersFor_0 : decode cH_membersFor 0 = .ok (.iconst 0, 1) := by decide +kernel
theorem dH_membersFor_1 : decode cH_membersFor 1 = .ok (.istore_n 2, 1) := by decide +kernel
theorem dH_membersFor_2 : decode cH_membersFor 2 = .ok (.iconst 0, 1) := by decide +kernel
theorem dH_membersFor_3 : decode cH_membersFor 3 = .ok (.istore_n 3, 1) := by decide +kernel
theorem dH_membersFor_4 : decode cH_membersFor 4 = .ok (.iload_n 3, 1) := by decide +kernel
theorem dH_membersFor_5 : decode cH_membersFor 5 = .ok (.iconst 4, 1) := by decide +kernel
theorem dH_membersFor_6 : decode cH_membersFor 6 = .ok (.if_icmp .ge 22, 3) := by decide +kernel
theorem dH_membersFor_9 : decode cH_membersFor 9 = .ok (.aload_n 0, 1) := by decide +kernel
theorem dH_membersFor_10 : decode cH_membersFor 10 = .ok (.getfield 9, 3) := by decide +kernel
theorem dH_membersFor_13 : decode cH_membersFor 13 = .ok (.iload_n 3, 1) := by decide +kernel
theorem dH_membersFor_14 : decode cH_membersFor 14 = .ok (.iaload, 1) := by decide +kernel
theorem dH_membersFor_15 : decode cH_membersFor 15 = .ok (.iload_n 1, 1) := by decide +kernel
theorem dH_membersFor_16 : decode cH_membersFor 16 = .ok (.if_icmp .ne 6, 3) := by decide +kernel
theorem dH_membersFor_19 : decode cH_membersFor 19 = .ok (.iinc 2 1, 3) := by decide +kernel
theorem dH_membersFor_22 : decode cH_membersFor 22 = .ok (.iinc 3 1, 3) := by decide +kernel
theorem dH_membersFor_25 : decode cH_membersFor 25 = .ok (.goto (-21), 3) := by decide +kernel
theorem dH_membersFor_28 : decode cH_membersFor 28 = .ok (.iload_n 2, 1) := by decide +kernel
theorem dH_membersFor_29 : decode cH_membersFor 29 = .ok (.ireturn, 1) := by decide +kernel
theorem dG_init_0 : decode cG_init 0 = .ok (.aload_n 0, 1) := by decide +kernel
theorem dG_init_1 : decode cG_init 1 = .ok (.invokespecial 3, 3) := by decide +kernel
theorem dG_init_4 : decode cG_init 4 = .ok (.aload_n 0, 1) := by decide +kernel
theorem dG_init_5 : decode cG_init 5 = .ok (.bipush 60, 2) := by decide +kernel
theorem dG_init_7 : decode cG_init 7 = .ok (.anewarray 9, 3) := by decide +kernel
theorem dG_init_10 : decode cG_init 10 = .ok (.putfield 11, 3) := by decide +kernel
theorem dG_init_13 : decode cG_init 13 = .ok (.aload_n 0, 1) := by decide +kernel
theorem dG_init_14 : decode cG_init 14 = .ok (.iload_n 1, 1) := by decide +kernel
theorem dG_init_15 : decode cG_init 15 = .ok (.putfield 17, 3) := by decide +kernel
theorem dG_init_18 : decode cG_init 18 = .ok (.aload_n 0, 1) := by decide +kernel
theorem dG_init_19 : decode cG_init 19 = .ok (.iload_n 2, 1) := by decide +kernel
theorem dG_init_20 : decode cG_init 20 = .ok (.putfield 21, 3) := by decide +kernel
theorem dG_init_23 : decode cG_init 23 = .ok (.aload_n 0, 1) := by decide +kernel
theorem dG_init_24 : decode cG_init 24 = .ok (.iload_n 3, 1) := by decide +kernel
theorem dG_init_25 : decode cG_init 25 = .ok (.putfield 24, 3) := by decide +kernel
theorem dG_init_28 : decode cG_init 28 = .ok (.return_, 1) := by decide +kernel
theorem dG_isFull_0 : decode cG_isFull 0 = .ok (.aload_n 0, 1) := by decide +kernel
theorem dG_isFull_1 : decode cG_isFull 1 = .ok (.getfield 28, 3) := by decide +kernel
theorem dG_isFull_4 : decode cG_isFull 4 = .ok (.bipush 60, 2) := by decide +kernel
theorem dG_isFull_6 : decode cG_isFull 6 = .ok (.if_icmp .lt 7, 3) := by decide +kernel
theorem dG_isFull_9 : decode cG_isFull 9 = .ok (.iconst 1, 1) := by decide +kernel
theorem dG_isFull_10 : decode cG_isFull 10 = .ok (.goto 4, 3) := by decide +kernel
theorem dG_isFull_13 : decode cG_isFull 13 = .ok (.iconst 0, 1) := by decide +kernel
theorem dG_isFull_14 : decode cG_isFull 14 = .ok (.ireturn, 1) := by decide +kernel
theorem dG_append_0 : decode cG_append 0 = .ok (.aload_n 0, 1) := by decide +kernel
theorem dG_append_1 : decode cG_append 1 = .ok (.getfield 28, 3) := by decide +kernel
theorem dG_append_4 : decode cG_append 4 = .ok (.istore_n 2, 1) := by decide +kernel
theorem dG_append_5 : decode cG_append 5 = .ok (.aload_n 0, 1) := by decide +kernel
theorem dG_append_6 : decode cG_append 6 = .ok (.getfield 11, 3) := by decide +kernel
theorem dG_append_9 : decode cG_append 9 = .ok (.iload_n 2, 1) := by decide +kernel
theorem dG_append_10 : decode cG_append 10 = .ok (.aload_n 1, 1) := by decide +kernel
theorem dG_append_11 : decode cG_append 11 = .ok (.aastore, 1) := by decide +kernel
theorem dG_append_12 : decode cG_append 12 = .ok (.aload_n 0, 1) := by decide +kernel
theorem dG_append_13 : decode cG_append 13 = .ok (.dup, 1) := by decide +kernel
theorem dG_append_14 : decode cG_append 14 = .ok (.getfield 31, 3) := by decide +kernel
theorem dG_append_17 : decode cG_append 17 = .ok (.iconst 1, 1) := by decide +kernel
theorem dG_append_18 : decode cG_append 18 = .ok (.iadd, 1) := by decide +kernel
theorem dG_append_19 : decode cG_append 19 = .ok (.putfield 31, 3) := by decide +kernel
theorem dG_append_22 : decode cG_append 22 = .ok (.aload_n 0, 1) := by decide +kernel
theorem dG_append_23 : decode cG_append 23 = .ok (.dup, 1) := by decide +kernel
theorem dG_append_24 : decode cG_append 24 = .ok (.getfield 28, 3) := by decide +kernel
theorem dG_append_27 : decode cG_append 27 = .ok (.iconst 1, 1) := by decide +kernel
theorem dG_append_28 : decode cG_append 28 = .ok (.iadd, 1) := by decide +kernel
theorem dG_append_29 : decode cG_append 29 = .ok (.putfield 28, 3) := by decide +kernel
theorem dG_append_32 : decode cG_append 32 = .ok (.aload_n 0, 1) := by decide +kernel
theorem dG_append_33 : decode cG_append 33 = .ok (.getfield 28, 3) := by decide +kernel
theorem dG_append_36 : decode cG_append 36 = .ok (.aload_n 0, 1) := by decide +kernel
theorem dG_append_37 : decode cG_append 37 = .ok (.getfield 34, 3) := by decide +kernel
theorem dG_append_40 : decode cG_append 40 = .ok (.aload_n 0, 1) := by decide +kernel
theorem dG_append_41 : decode cG_append 41 = .ok (.getfield 17, 3) := by decide +kernel
theorem dG_append_44 : decode cG_append 44 = .ok (.iadd, 1) := by decide +kernel
theorem dG_append_45 : decode cG_append 45 = .ok (.if_icmp .ne 21, 3) := by decide +kernel
theorem dG_append_48 : decode cG_append 48 = .ok (.aload_n 0, 1) := by decide +kernel
theorem dG_append_49 : decode cG_append 49 = .ok (.aload_n 0, 1) := by decide +kernel
theorem dG_append_50 : decode cG_append 50 = .ok (.getfield 28, 3) := by decide +kernel
theorem dG_append_53 : decode cG_append 53 = .ok (.putfield 34, 3) := by decide +kernel
theorem dG_append_56 : decode cG_append 56 = .ok (.aload_n 0, 1) := by decide +kernel
theorem dG_append_57 : decode cG_append 57 = .ok (.dup, 1) := by decide +kernel
theorem dG_append_58 : decode cG_append 58 = .ok (.getfield 37, 3) := by decide +kernel
theorem dG_append_61 : decode cG_append 61 = .ok (.iconst 1, 1) := by decide +kernel
theorem dG_append_62 : decode cG_append 62 = .ok (.iadd, 1) := by decide +kernel
theorem dG_append_63 : decode cG_append 63 = .ok (.putfield 37, 3) := by decide +kernel
theorem dG_append_66 : decode cG_append 66 = .ok (.iload_n 2, 1) := by decide +kernel
theorem dG_append_67 : decode cG_append 67 = .ok (.ireturn, 1) := by decide +kernel
theorem dG_shorten_0 : decode cG_shorten 0 = .ok (.aload_n 0, 1) := by decide +kernel
theorem dG_shorten_1 : decode cG_shorten 1 = .ok (.getfield 31, 3) := by decide +kernel
theorem dG_shorten_4 : decode cG_shorten 4 = .ok (.istore_n 1, 1) := by decide +kernel
theorem dG_shorten_5 : decode cG_shorten 5 = .ok (.aload_n 0, 1) := by decide +kernel
theorem dG_shorten_6 : decode cG_shorten 6 = .ok (.invokevirtual 40, 3) := by decide +kernel
theorem dG_shorten_9 : decode cG_shorten 9 = .ok (.istore_n 2, 1) := by decide +kernel
theorem dG_shorten_10 : decode cG_shorten 10 = .ok (.aload_n 0, 1) := by decide +kernel
theorem dG_shorten_11 : decode cG_shorten 11 = .ok (.getfield 37, 3) := by decide +kernel
theorem dG_shorten_14 : decode cG_shorten 14 = .ok (.aload_n 0, 1) := by decide +kernel
theorem dG_shorten_15 : decode cG_shorten 15 = .ok (.getfield 21, 3) := by decide +kernel
theorem dG_shorten_18 : decode cG_shorten 18 = .ok (.if_icmp .le 71, 3) := by decide +kernel
theorem dG_shorten_21 : decode cG_shorten 21 = .ok (.aload_n 0, 1) := by decide +kernel
theorem dG_shorten_22 : decode cG_shorten 22 = .ok (.getfield 44, 3) := by decide +kernel
theorem dG_shorten_25 : decode cG_shorten 25 = .ok (.aload_n 0, 1) := by decide +kernel
theorem dG_shorten_26 : decode cG_shorten 26 = .ok (.getfield 17, 3) := by decide +kernel
theorem dG_shorten_29 : decode cG_shorten 29 = .ok (.iadd, 1) := by decide +kernel
theorem dG_shorten_30 : decode cG_shorten 30 = .ok (.iload_n 2, 1) := by decide +kernel
theorem dG_shorten_31 : decode cG_shorten 31 = .ok (.if_icmp .gt 58, 3) := by decide +kernel
theorem dG_shorten_34 : decode cG_shorten 34 = .ok (.aload_n 0, 1) := by decide +kernel
theorem dG_shorten_35 : decode cG_shorten 35 = .ok (.getfield 44, 3) := by decide +kernel
theorem dG_shorten_38 : decode cG_shorten 38 = .ok (.istore_n 3, 1) := by decide +kernel
theorem dG_shorten_39 : decode cG_shorten 39 = .ok (.iload_n 3, 1) := by decide +kernel
theorem dG_shorten_40 : decode cG_shorten 40 = .ok (.aload_n 0, 1) := by decide +kernel
theorem dG_shorten_41 : decode cG_shorten 41 = .ok (.getfield 44, 3) := by decide +kernel
theorem dG_shorten_44 : decode cG_shorten 44 = .ok (.aload_n 0, 1) := by decide +kernel
theorem dG_shorten_45 : decode cG_shorten 45 = .ok (.getfield 17, 3) := by decide +kernel
theorem dG_shorten_48 : decode cG_shorten 48 = .ok (.iadd, 1) := by decide +kernel
theorem dG_shorten_49 : decode cG_shorten 49 = .ok (.if_icmp .ge 14, 3) := by decide +kernel
theorem dG_shorten_52 : decode cG_shorten 52 = .ok (.aload_n 0, 1) := by decide +kernel
theorem dG_shorten_53 : decode cG_shorten 53 = .ok (.iload_n 3, 1) := by decide +kernel
theorem dG_shorten_54 : decode cG_shorten 54 = .ok (.invokevirtual 47, 3) := by decide +kernel
theorem dG_shorten_57 : decode cG_shorten 57 = .ok (.iinc 3 1, 3) := by decide +kernel
theorem dG_shorten_60 : decode cG_shorten 60 = .ok (.goto (-21), 3) := by decide +kernel
theorem dG_shorten_63 : decode cG_shorten 63 = .ok (.aload_n 0, 1) := by decide +kernel
theorem dG_shorten_64 : decode cG_shorten 64 = .ok (.dup, 1) := by decide +kernel
theorem dG_shorten_65 : decode cG_shorten 65 = .ok (.getfield 44, 3) := by decide +kernel
theorem dG_shorten_68 : decode cG_shorten 68 = .ok (.aload_n 0, 1) := by decide +kernel
theorem dG_shorten_69 : decode cG_shorten 69 = .ok (.getfield 17, 3) := by decide +kernel
theorem dG_shorten_72 : decode cG_shorten 72 = .ok (.iadd, 1) := by decide +kernel
theorem dG_shorten_73 : decode cG_shorten 73 = .ok (.putfield 44, 3) := by decide +kernel
theorem dG_shorten_76 : decode cG_shorten 76 = .ok (.aload_n 0, 1) := by decide +kernel
theorem dG_shorten_77 : decode cG_shorten 77 = .ok (.dup, 1) := by decide +kernel
theorem dG_shorten_78 : decode cG_shorten 78 = .ok (.getfield 37, 3) := by decide +kernel
theorem dG_shorten_81 : decode cG_shorten 81 = .ok (.iconst 1, 1) := by decide +kernel
theorem dG_shorten_82 : decode cG_shorten 82 = .ok (.isub, 1) := by decide +kernel
theorem dG_shorten_83 : decode cG_shorten 83 = .ok (.putfield 37, 3) := by decide +kernel
theorem dG_shorten_86 : decode cG_shorten 86 = .ok (.goto (-76), 3) := by decide +kernel
theorem dG_shorten_89 : decode cG_shorten 89 = .ok (.iload_n 1, 1) := by decide +kernel
theorem dG_shorten_90 : decode cG_shorten 90 = .ok (.aload_n 0, 1) := by decide +kernel
theorem dG_shorten_91 : decode cG_shorten 91 = .ok (.getfield 31, 3) := by decide +kernel
theorem dG_shorten_94 : decode cG_shorten 94 = .ok (.isub, 1) := by decide +kernel
theorem dG_shorten_95 : decode cG_shorten 95 = .ok (.ireturn, 1) := by decide +kernel
theorem dG_drop_0 : decode cG_drop 0 = .ok (.aload_n 0, 1) := by decide +kernel
theorem dG_drop_1 : decode cG_drop 1 = .ok (.getfield 11, 3) := by decide +kernel
theorem dG_drop_4 : decode cG_drop 4 = .ok (.iload_n 1, 1) := by decide +kernel
theorem dG_drop_5 : decode cG_drop 5 = .ok (.aaload, 1) := by decide +kernel
theorem dG_drop_6 : decode cG_drop 6 = .ok (.ifnull 20, 3) := by decide +kernel
theorem dG_drop_9 : decode cG_drop 9 = .ok (.aload_n 0, 1) := by decide +kernel
theorem dG_drop_10 : decode cG_drop 10 = .ok (.getfield 11, 3) := by decide +kernel
theorem dG_drop_13 : decode cG_drop 13 = .ok (.iload_n 1, 1) := by decide +kernel
theorem dG_drop_14 : decode cG_drop 14 = .ok (.aconst_null, 1) := by decide +kernel
theorem dG_drop_15 : decode cG_drop 15 = .ok (.aastore, 1) := by decide +kernel
theorem dG_drop_16 : decode cG_drop 16 = .ok (.aload_n 0, 1) := by decide +kernel
theorem dG_drop_17 : decode cG_drop 17 = .ok (.dup, 1) := by decide +kernel
theorem dG_drop_18 : decode cG_drop 18 = .ok (.getfield 31, 3) := by decide +kernel
theorem dG_drop_21 : decode cG_drop 21 = .ok (.iconst 1, 1) := by decide +kernel
theorem dG_drop_22 : decode cG_drop 22 = .ok (.isub, 1) := by decide +kernel
theorem dG_drop_23 : decode cG_drop 23 = .ok (.putfield 31, 3) := by decide +kernel
theorem dG_drop_26 : decode cG_drop 26 = .ok (.return_, 1) := by decide +kernel
theorem dG_stableOffset_0 : decode cG_stableOffset 0 = .ok (.aload_n 0, 1) := by decide +kernel
theorem dG_stableOffset_1 : decode cG_stableOffset 1 = .ok (.getfield 44, 3) := by decide +kernel
theorem dG_stableOffset_4 : decode cG_stableOffset 4 = .ok (.istore_n 1, 1) := by decide +kernel
theorem dG_stableOffset_5 : decode cG_stableOffset 5 = .ok (.iload_n 1, 1) := by decide +kernel
theorem dG_stableOffset_6 : decode cG_stableOffset 6 = .ok (.aload_n 0, 1) := by decide +kernel
theorem dG_stableOffset_7 : decode cG_stableOffset 7 = .ok (.getfield 28, 3) := by decide +kernel
theorem dG_stableOffset_10 : decode cG_stableOffset 10 = .ok (.if_icmp .ge 33, 3) := by decide +kernel
theorem dG_stableOffset_13 : decode cG_stableOffset 13 = .ok (.aload_n 0, 1) := by decide +kernel
theorem dG_stableOffset_14 : decode cG_stableOffset 14 = .ok (.getfield 11, 3) := by decide +kernel
theorem dG_stableOffset_17 : decode cG_stableOffset 17 = .ok (.iload_n 1, 1) := by decide +kernel
theorem dG_stableOffset_18 : decode cG_stableOffset 18 = .ok (.aaload, 1) := by decide +kernel
theorem dG_stableOffset_19 : decode cG_stableOffset 19 = .ok (.ifnull 18, 3) := by decide +kernel
theorem dG_stableOffset_22 : decode cG_stableOffset 22 = .ok (.aload_n 0, 1) := by decide +kernel
theorem dG_stableOffset_23 : decode cG_stableOffset 23 = .ok (.getfield 11, 3) := by decide +kernel
theorem dG_stableOffset_26 : decode cG_stableOffset 26 = .ok (.iload_n 1, 1) := by decide +kernel
theorem dG_stableOffset_27 : decode cG_stableOffset 27 = .ok (.aaload, 1) := by decide +kernel
theorem dG_stableOffset_28 : decode cG_stableOffset 28 = .ok (.getfield 51, 3) := by decide +kernel
theorem dG_stableOffset_31 : decode cG_stableOffset 31 = .ok (.iconst 2, 1) := by decide +kernel
theorem dG_stableOffset_32 : decode cG_stableOffset 32 = .ok (.if_icmp .ne 5, 3) := by decide +kernel
theorem dG_stableOffset_35 : decode cG_stableOffset 35 = .ok (.iload_n 1, 1) := by decide +kernel
theorem dG_stableOffset_36 : decode cG_stableOffset 36 = .ok (.ireturn, 1) := by decide +kernel
theorem dG_stableOffset_37 : decode cG_stableOffset 37 = .ok (.iinc 1 1, 3) := by decide +kernel
theorem dG_stableOffset_40 : decode cG_stableOffset 40 = .ok (.goto (-35), 3) := by decide +kernel
theorem dG_stableOffset_43 : decode cG_stableOffset 43 = .ok (.aload_n 0, 1) := by decide +kernel
theorem dG_stableOffset_44 : decode cG_stableOffset 44 = .ok (.getfield 28, 3) := by decide +kernel
theorem dG_stableOffset_47 : decode cG_stableOffset 47 = .ok (.ireturn, 1) := by decide +kernel
theorem dG_hasUndecidedOf_0 : decode cG_hasUndecidedOf 0 = .ok (.aload_n 0, 1) := by decide +kernel
theorem dG_hasUndecidedOf_1 : decode cG_hasUndecidedOf 1 = .ok (.getfield 44, 3) := by decide +kernel
theorem dG_hasUndecidedOf_4 : decode cG_hasUndecidedOf 4 = .ok (.istore_n 2, 1) := by decide +kernel
theorem dG_hasUndecidedOf_5 : decode cG_hasUndecidedOf 5 = .ok (.iload_n 2, 1) := by decide +kernel
theorem dG_hasUndecidedOf_6 : decode cG_hasUndecidedOf 6 = .ok (.aload_n 0, 1) := by decide +kernel
theorem dG_hasUndecidedOf_7 : decode cG_hasUndecidedOf 7 = .ok (.getfield 28, 3) := by decide +kernel
theorem dG_hasUndecidedOf_10 : decode cG_hasUndecidedOf 10 = .ok (.if_icmp .ge 33, 3) := by decide +kernel
theorem dG_hasUndecidedOf_13 : decode cG_hasUndecidedOf 13 = .ok (.aload_n 0, 1) := by decide +kernel
theorem dG_hasUndecidedOf_14 : decode cG_hasUndecidedOf 14 = .ok (.getfield 11, 3) := by decide +kernel
theorem dG_hasUndecidedOf_17 : decode cG_hasUndecidedOf 17 = .ok (.iload_n 2, 1) := by decide +kernel
theorem dG_hasUndecidedOf_18 : decode cG_hasUndecidedOf 18 = .ok (.aaload, 1) := by decide +kernel
theorem dG_hasUndecidedOf_19 : decode cG_hasUndecidedOf 19 = .ok (.ifnull 18, 3) := by decide +kernel
theorem dG_hasUndecidedOf_22 : decode cG_hasUndecidedOf 22 = .ok (.aload_n 0, 1) := by decide +kernel
theorem dG_hasUndecidedOf_23 : decode cG_hasUndecidedOf 23 = .ok (.getfield 11, 3) := by decide +kernel
theorem dG_hasUndecidedOf_26 : decode cG_hasUndecidedOf 26 = .ok (.iload_n 2, 1) := by decide +kernel
theorem dG_hasUndecidedOf_27 : decode cG_hasUndecidedOf 27 = .ok (.aaload, 1) := by decide +kernel
theorem dG_hasUndecidedOf_28 : decode cG_hasUndecidedOf 28 = .ok (.iload_n 1, 1) := by decide +kernel
theorem dG_hasUndecidedOf_29 : decode cG_hasUndecidedOf 29 = .ok (.invokevirtual 54, 3) := by decide +kernel
theorem dG_hasUndecidedOf_32 : decode cG_hasUndecidedOf 32 = .ok (.ifCond .eq 5, 3) := by decide +kernel
theorem dG_hasUndecidedOf_35 : decode cG_hasUndecidedOf 35 = .ok (.iconst 1, 1) := by decide +kernel
theorem dG_hasUndecidedOf_36 : decode cG_hasUndecidedOf 36 = .ok (.ireturn, 1) := by decide +kernel
theorem dG_hasUndecidedOf_37 : decode cG_hasUndecidedOf 37 = .ok (.iinc 2 1, 3) := by decide +kernel
theorem dG_hasUndecidedOf_40 : decode cG_hasUndecidedOf 40 = .ok (.goto (-35), 3) := by decide +kernel
theorem dG_hasUndecidedOf_43 : decode cG_hasUndecidedOf 43 = .ok (.iconst 0, 1) := by decide +kernel
theorem dG_hasUndecidedOf_44 : decode cG_hasUndecidedOf 44 = .ok (.ireturn, 1) := by decide +kernel
theorem dG_settle_0 : decode cG_settle 0 = .ok (.aload_n 0, 1) := by decide +kernel
theorem dG_settle_1 : decode cG_settle 1 = .ok (.getfield 44, 3) := by decide +kernel
theorem dG_settle_4 : decode cG_settle 4 = .ok (.istore_n 3, 1) := by decide +kernel
theorem dG_settle_5 : decode cG_settle 5 = .ok (.iload_n 3, 1) := by decide +kernel
theorem dG_settle_6 : decode cG_settle 6 = .ok (.aload_n 0, 1) := by decide +kernel
theorem dG_settle_7 : decode cG_settle 7 = .ok (.getfield 28, 3) := by decide +kernel
theorem dG_settle_10 : decode cG_settle 10 = .ok (.if_icmp .ge 41, 3) := by decide +kernel
theorem dG_settle_13 : decode cG_settle 13 = .ok (.aload_n 0, 1) := by decide +kernel
theorem dG_settle_14 : decode cG_settle 14 = .ok (.getfield 11, 3) := by decide +kernel
theorem dG_settle_17 : decode cG_settle 17 = .ok (.iload_n 3, 1) := by decide +kernel
theorem dG_settle_18 : decode cG_settle 18 = .ok (.aaload, 1) := by decide +kernel
theorem dG_settle_19 : decode cG_settle 19 = .ok (.ifnull 26, 3) := by decide +kernel
theorem dG_settle_22 : decode cG_settle 22 = .ok (.aload_n 0, 1) := by decide +kernel
theorem dG_settle_23 : decode cG_settle 23 = .ok (.getfield 11, 3) := by decide +kernel
theorem dG_settle_26 : decode cG_settle 26 = .ok (.iload_n 3, 1) := by decide +kernel
theorem dG_settle_27 : decode cG_settle 27 = .ok (.aaload, 1) := by decide +kernel
theorem dG_settle_28 : decode cG_settle 28 = .ok (.iload_n 1, 1) := by decide +kernel
theorem dG_settle_29 : decode cG_settle 29 = .ok (.invokevirtual 54, 3) := by decide +kernel
theorem dG_settle_32 : decode cG_settle 32 = .ok (.ifCond .eq 13, 3) := by decide +kernel
theorem dG_settle_35 : decode cG_settle 35 = .ok (.aload_n 0, 1) := by decide +kernel
theorem dG_settle_36 : decode cG_settle 36 = .ok (.getfield 11, 3) := by decide +kernel
theorem dG_settle_39 : decode cG_settle 39 = .ok (.iload_n 3, 1) := by decide +kernel
theorem dG_settle_40 : decode cG_settle 40 = .ok (.aaload, 1) := by decide +kernel
theorem dG_settle_41 : decode cG_settle 41 = .ok (.iload_n 2, 1) := by decide +kernel
theorem dG_settle_42 : decode cG_settle 42 = .ok (.putfield 51, 3) := by decide +kernel
theorem dG_settle_45 : decode cG_settle 45 = .ok (.iinc 3 1, 3) := by decide +kernel
theorem dG_settle_48 : decode cG_settle 48 = .ok (.goto (-43), 3) := by decide +kernel
theorem dG_settle_51 : decode cG_settle 51 = .ok (.return_, 1) := by decide +kernel
theorem dG_hasData_0 : decode cG_hasData 0 = .ok (.aload_n 0, 1) := by decide +kernel
theorem dG_hasData_1 : decode cG_hasData 1 = .ok (.getfield 11, 3) := by decide +kernel
theorem dG_hasData_4 : decode cG_hasData 4 = .ok (.iload_n 1, 1) := by decide +kernel
theorem dG_hasData_5 : decode cG_hasData 5 = .ok (.aaload, 1) := by decide +kernel
theorem dG_hasData_6 : decode cG_hasData 6 = .ok (.ifnull 19, 3) := by decide +kernel
theorem dG_hasData_9 : decode cG_hasData 9 = .ok (.aload_n 0, 1) := by decide +kernel
theorem dG_hasData_10 : decode cG_hasData 10 = .ok (.getfield 11, 3) := by decide +kernel
theorem dG_hasData_13 : decode cG_hasData 13 = .ok (.iload_n 1, 1) := by decide +kernel
theorem dG_hasData_14 : decode cG_hasData 14 = .ok (.aaload, 1) := by decide +kernel
theorem dG_hasData_15 : decode cG_hasData 15 = .ok (.getfield 58, 3) := by decide +kernel
theorem dG_hasData_18 : decode cG_hasData 18 = .ok (.ifCond .ne 7, 3) := by decide +kernel
theorem dG_hasData_21 : decode cG_hasData 21 = .ok (.iconst 1, 1) := by decide +kernel
theorem dG_hasData_22 : decode cG_hasData 22 = .ok (.goto 4, 3) := by decide +kernel
theorem dG_hasData_25 : decode cG_hasData 25 = .ok (.iconst 0, 1) := by decide +kernel
theorem dG_hasData_26 : decode cG_hasData 26 = .ok (.ireturn, 1) := by decide +kernel
theorem dG_firstVisible_0 : decode cG_firstVisible 0 = .ok (.iload_n 2, 1) := by decide +kernel
theorem dG_firstVisible_1 : decode cG_firstVisible 1 = .ok (.ifCond .eq 10, 3) := by decide +kernel
theorem dG_firstVisible_4 : decode cG_firstVisible 4 = .ok (.aload_n 0, 1) := by decide +kernel
theorem dG_firstVisible_5 : decode cG_firstVisible 5 = .ok (.invokevirtual 40, 3) := by decide +kernel
theorem dG_firstVisible_8 : decode cG_firstVisible 8 = .ok (.goto 7, 3) := by decide +kernel
theorem dG_firstVisible_11 : decode cG_firstVisible 11 = .ok (.aload_n 0, 1) := by decide +kernel
theorem dG_firstVisible_12 : decode cG_firstVisible 12 = .ok (.getfield 28, 3) := by decide +kernel
theorem dG_firstVisible_15 : decode cG_firstVisible 15 = .ok (.istore_n 3, 1) := by decide +kernel
theorem dG_firstVisible_16 : decode cG_firstVisible 16 = .ok (.iload_n 1, 1) := by decide +kernel
theorem dG_firstVisible_17 : decode cG_firstVisible 17 = .ok (.istore 4, 2) := by decide +kernel
theorem dG_firstVisible_19 : decode cG_firstVisible 19 = .ok (.iload 4, 2) := by decide +kernel
theorem dG_firstVisible_21 : decode cG_firstVisible 21 = .ok (.iload_n 3, 1) := by decide +kernel
theorem dG_firstVisible_22 : decode cG_firstVisible 22 = .ok (.if_icmp .ge 38, 3) := by decide +kernel
theorem dG_firstVisible_25 : decode cG_firstVisible 25 = .ok (.aload_n 0, 1) := by decide +kernel
theorem dG_firstVisible_26 : decode cG_firstVisible 26 = .ok (.iload 4, 2) := by decide +kernel
theorem dG_firstVisible_28 : decode cG_firstVisible 28 = .ok (.invokevirtual 61, 3) := by decide +kernel
theorem dG_firstVisible_31 : decode cG_firstVisible 31 = .ok (.ifCond .eq 23, 3) := by decide +kernel
theorem dG_firstVisible_34 : decode cG_firstVisible 34 = .ok (.iload_n 2, 1) := by decide +kernel
theorem dG_firstVisible_35 : decode cG_firstVisible 35 = .ok (.ifCond .eq 16, 3) := by decide +kernel
theorem dG_firstVisible_38 : decode cG_firstVisible 38 = .ok (.aload_n 0, 1) := by decide +kernel
theorem dG_firstVisible_39 : decode cG_firstVisible 39 = .ok (.getfield 11, 3) := by decide +kernel
theorem dG_firstVisible_42 : decode cG_firstVisible 42 = .ok (.iload 4, 2) := by decide +kernel
theorem dG_firstVisible_44 : decode cG_firstVisible 44 = .ok (.aaload, 1) := by decide +kernel
theorem dG_firstVisible_45 : decode cG_firstVisible 45 = .ok (.getfield 51, 3) := by decide +kernel
theorem dG_firstVisible_48 : decode cG_firstVisible 48 = .ok (.ifCond .ne 6, 3) := by decide +kernel
theorem dG_firstVisible_51 : decode cG_firstVisible 51 = .ok (.iload 4, 2) := by decide +kernel
theorem dG_firstVisible_53 : decode cG_firstVisible 53 = .ok (.ireturn, 1) := by decide +kernel
theorem dG_firstVisible_54 : decode cG_firstVisible 54 = .ok (.iinc 4 1, 3) := by decide +kernel
theorem dG_firstVisible_57 : decode cG_firstVisible 57 = .ok (.goto (-38), 3) := by decide +kernel
theorem dG_firstVisible_60 : decode cG_firstVisible 60 = .ok (.iconst (-1), 1) := by decide +kernel
theorem dG_firstVisible_61 : decode cG_firstVisible 61 = .ok (.ireturn, 1) := by decide +kernel
theorem dG_dropOutdated_0 : decode cG_dropOutdated 0 = .ok (.aload_n 0, 1) := by decide +kernel
theorem dG_dropOutdated_1 : decode cG_dropOutdated 1 = .ok (.getfield 31, 3) := by decide +kernel
theorem dG_dropOutdated_4 : decode cG_dropOutdated 4 = .ok (.istore_n 1, 1) := by decide +kernel
theorem dG_dropOutdated_5 : decode cG_dropOutdated 5 = .ok (.aload_n 0, 1) := by decide +kernel
theorem dG_dropOutdated_6 : decode cG_dropOutdated 6 = .ok (.invokevirtual 40, 3) := by decide +kernel
theorem dG_dropOutdated_9 : decode cG_dropOutdated 9 = .ok (.istore_n 2, 1) := by decide +kernel
theorem dG_dropOutdated_10 : decode cG_dropOutdated 10 = .ok (.aload_n 0, 1) := by decide +kernel
theorem dG_dropOutdated_11 : decode cG_dropOutdated 11 = .ok (.getfield 34, 3) := by decide +kernel
theorem dG_dropOutdated_14 : decode cG_dropOutdated 14 = .ok (.iload_n 2, 1) := by decide +kernel
theorem dG_dropOutdated_15 : decode cG_dropOutdated 15 = .ok (.invokestatic 64, 3) := by decide +kernel
theorem dG_dropOutdated_18 : decode cG_dropOutdated 18 = .ok (.istore_n 3, 1) := by decide +kernel
theorem dG_dropOutdated_19 : decode cG_dropOutdated 19 = .ok (.iconst 0, 1) := by decide +kernel
theorem dG_dropOutdated_20 : decode cG_dropOutdated 20 = .ok (.istore 4, 2) := by decide +kernel
theorem dG_dropOutdated_22 : decode cG_dropOutdated 22 = .ok (.iload_n 2, 1) := by decide +kernel
theorem dG_dropOutdated_23 : decode cG_dropOutdated 23 = .ok (.iconst 1, 1) := by decide +kernel
theorem dG_dropOutdated_24 : decode cG_dropOutdated 24 = .ok (.isub, 1) := by decide +kernel
theorem dG_dropOutdated_25 : decode cG_dropOutdated 25 = .ok (.istore 5, 2) := by decide +kernel
theorem dG_dropOutdated_27 : decode cG_dropOutdated 27 = .ok (.iload 5, 2) := by decide +kernel
theorem dG_dropOutdated_29 : decode cG_dropOutdated 29 = .ok (.aload_n 0, 1) := by decide +kernel
theorem dG_dropOutdated_30 : decode cG_dropOutdated 30 = .ok (.getfield 44, 3) := by decide +kernel
theorem dG_dropOutdated_33 : decode cG_dropOutdated 33 = .ok (.if_icmp .lt 82, 3) := by decide +kernel
theorem dG_dropOutdated_36 : decode cG_dropOutdated 36 = .ok (.aload_n 0, 1) := by decide +kernel
theorem dG_dropOutdated_37 : decode cG_dropOutdated 37 = .ok (.iload 5, 2) := by decide +kernel
theorem dG_dropOutdated_39 : decode cG_dropOutdated 39 = .ok (.invokevirtual 61, 3) := by decide +kernel
theorem dG_dropOutdated_42 : decode cG_dropOutdated 42 = .ok (.ifCond .eq 67, 3) := by decide +kernel
theorem dG_dropOutdated_45 : decode cG_dropOutdated 45 = .ok (.aload_n 0, 1) := by decide +kernel
theorem dG_dropOutdated_46 : decode cG_dropOutdated 46 = .ok (.getfield 11, 3) := by decide +kernel
theorem dG_dropOutdated_49 : decode cG_dropOutdated 49 = .ok (.iload 5, 2) := by decide +kernel
theorem dG_dropOutdated_51 : decode cG_dropOutdated 51 = .ok (.aaload, 1) := by decide +kernel
theorem dG_dropOutdated_52 : decode cG_dropOutdated 52 = .ok (.astore 6, 2) := by decide +kernel
theorem dG_dropOutdated_54 : decode cG_dropOutdated 54 = .ok (.aload 6, 2) := by decide +kernel
theorem dG_dropOutdated_56 : decode cG_dropOutdated 56 = .ok (.invokestatic 70, 3) := by decide +kernel
theorem dG_dropOutdated_59 : decode cG_dropOutdated 59 = .ok (.istore 7, 2) := by decide +kernel
theorem dG_dropOutdated_61 : decode cG_dropOutdated 61 = .ok (.aload 6, 2) := by decide +kernel
theorem dG_dropOutdated_63 : decode cG_dropOutdated 63 = .ok (.getfield 51, 3) := by decide +kernel
theorem dG_dropOutdated_66 : decode cG_dropOutdated 66 = .ok (.iconst 1, 1) := by decide +kernel
theorem dG_dropOutdated_67 : decode cG_dropOutdated 67 = .ok (.if_icmp .eq 11, 3) := by decide +kernel
theorem dG_dropOutdated_70 : decode cG_dropOutdated 70 = .ok (.iload 4, 2) := by decide +kernel
theorem dG_dropOutdated_72 : decode cG_dropOutdated 72 = .ok (.iload 7, 2) := by decide +kernel
theorem dG_dropOutdated_74 : decode cG_dropOutdated 74 = .ok (.iand, 1) := by decide +kernel
theorem dG_dropOutdated_75 : decode cG_dropOutdated 75 = .ok (.ifCond .eq 7, 3) := by decide +kernel
theorem dG_dropOutdated_78 : decode cG_dropOutdated 78 = .ok (.iconst 1, 1) := by decide +kernel
theorem dG_dropOutdated_79 : decode cG_dropOutdated 79 = .ok (.goto 4, 3) := by decide +kernel
theorem dG_dropOutdated_82 : decode cG_dropOutdated 82 = .ok (.iconst 0, 1) := by decide +kernel
theorem dG_dropOutdated_83 : decode cG_dropOutdated 83 = .ok (.istore 8, 2) := by decide +kernel
theorem dG_dropOutdated_85 : decode cG_dropOutdated 85 = .ok (.iload 8, 2) := by decide +kernel
theorem dG_dropOutdated_87 : decode cG_dropOutdated 87 = .ok (.ifCond .eq 15, 3) := by decide +kernel
theorem dG_dropOutdated_90 : decode cG_dropOutdated 90 = .ok (.iload 5, 2) := by decide +kernel
theorem dG_dropOutdated_92 : decode cG_dropOutdated 92 = .ok (.iload_n 3, 1) := by decide +kernel
theorem dG_dropOutdated_93 : decode cG_dropOutdated 93 = .ok (.if_icmp .ge 9, 3) := by decide +kernel
theorem dG_dropOutdated_96 : decode cG_dropOutdated 96 = .ok (.aload_n 0, 1) := by decide +kernel
theorem dG_dropOutdated_97 : decode cG_dropOutdated 97 = .ok (.iload 5, 2) := by decide +kernel
theorem dG_dropOutdated_99 : decode cG_dropOutdated 99 = .ok (.invokevirtual 47, 3) := by decide +kernel
theorem dG_dropOutdated_102 : decode cG_dropOutdated 102 = .ok (.iload 4, 2) := by decide +kernel
theorem dG_dropOutdated_104 : decode cG_dropOutdated 104 = .ok (.iload 7, 2) := by decide +kernel
theorem dG_dropOutdated_106 : decode cG_dropOutdated 106 = .ok (.ior, 1) := by decide +kernel
theorem dG_dropOutdated_107 : decode cG_dropOutdated 107 = .ok (.istore 4, 2) := by decide +kernel
theorem dG_dropOutdated_109 : decode cG_dropOutdated 109 = .ok (.iinc 5 (-1), 3) := by decide +kernel
theorem dG_dropOutdated_112 : decode cG_dropOutdated 112 = .ok (.goto (-85), 3) := by decide +kernel
theorem dG_dropOutdated_115 : decode cG_dropOutdated 115 = .ok (.iload_n 1, 1) := by decide +kernel
theorem dG_dropOutdated_116 : decode cG_dropOutdated 116 = .ok (.aload_n 0, 1) := by decide +kernel
theorem dG_dropOutdated_117 : decode cG_dropOutdated 117 = .ok (.getfield 31, 3) := by decide +kernel
theorem dG_dropOutdated_120 : decode cG_dropOutdated 120 = .ok (.isub, 1) := by decide +kernel
theorem dG_dropOutdated_121 : decode cG_dropOutdated 121 = .ok (.ireturn, 1) := by decide +kernel
theorem dG_bitOfCommittedKey_0 : decode cG_bitOfCommittedKey 0 = .ok (.aload_n 0, 1) := by decide +kernel
theorem dG_bitOfCommittedKey_1 : decode cG_bitOfCommittedKey 1 = .ok (.getfield 51, 3) := by decide +kernel
theorem dG_bitOfCommittedKey_4 : decode cG_bitOfCommittedKey 4 = .ok (.ifCond .ne 20, 3) := by decide +kernel
theorem dG_bitOfCommittedKey_7 : decode cG_bitOfCommittedKey 7 = .ok (.aload_n 0, 1) := by decide +kernel
theorem dG_bitOfCommittedKey_8 : decode cG_bitOfCommittedKey 8 = .ok (.getfield 74, 3) := by decide +kernel
theorem dG_bitOfCommittedKey_11 : decode cG_bitOfCommittedKey 11 = .ok (.iconst (-1), 1) := by decide +kernel
theorem dG_bitOfCommittedKey_12 : decode cG_bitOfCommittedKey 12 = .ok (.if_icmp .eq 12, 3) := by decide +kernel
theorem dG_bitOfCommittedKey_15 : decode cG_bitOfCommittedKey 15 = .ok (.iconst 1, 1) := by decide +kernel
theorem dG_bitOfCommittedKey_16 : decode cG_bitOfCommittedKey 16 = .ok (.aload_n 0, 1) := by decide +kernel
theorem dG_bitOfCommittedKey_17 : decode cG_bitOfCommittedKey 17 = .ok (.getfield 74, 3) := by decide +kernel
theorem dG_bitOfCommittedKey_20 : decode cG_bitOfCommittedKey 20 = .ok (.ishl, 1) := by decide +kernel
theorem dG_bitOfCommittedKey_21 : decode cG_bitOfCommittedKey 21 = .ok (.goto 4, 3) := by decide +kernel
theorem dG_bitOfCommittedKey_24 : decode cG_bitOfCommittedKey 24 = .ok (.iconst 0, 1) := by decide +kernel
theorem dG_bitOfCommittedKey_25 : decode cG_bitOfCommittedKey 25 = .ok (.ireturn, 1) := by decide +kernel
theorem dS_init_0 : decode cS_init 0 = .ok (.aload_n 0, 1) := by decide +kernel
theorem dS_init_1 : decode cS_init 1 = .ok (.invokespecial 3, 3) := by decide +kernel
theorem dS_init_4 : decode cS_init 4 = .ok (.aload_n 0, 1) := by decide +kernel
theorem dS_init_5 : decode cS_init 5 = .ok (.iconst (-1), 1) := by decide +kernel
theorem dS_init_6 : decode cS_init 6 = .ok (.putfield 9, 3) := by decide +kernel
theorem dS_init_9 : decode cS_init 9 = .ok (.aload_n 0, 1) := by decide +kernel
theorem dS_init_10 : decode cS_init 10 = .ok (.bipush 12, 2) := by decide +kernel
theorem dS_init_12 : decode cS_init 12 = .ok (.newarray .int, 2) := by decide +kernel
theorem dS_init_14 : decode cS_init 14 = .ok (.putfield 15, 3) := by decide +kernel
theorem dS_init_17 : decode cS_init 17 = .ok (.aload_n 0, 1) := by decide +kernel
theorem dS_init_18 : decode cS_init 18 = .ok (.bipush 36, 2) := by decide +kernel
theorem dS_init_20 : decode cS_init 20 = .ok (.newarray .int, 2) := by decide +kernel
theorem dS_init_22 : decode cS_init 22 = .ok (.putfield 19, 3) := by decide +kernel
theorem dS_init_25 : decode cS_init 25 = .ok (.return_, 1) := by decide +kernel
theorem dS_startFor_0 : decode cS_startFor 0 = .ok (.aload_n 0, 1) := by decide +kernel
theorem dS_startFor_1 : decode cS_startFor 1 = .ok (.iload_n 1, 1) := by decide +kernel
theorem dS_startFor_2 : decode cS_startFor 2 = .ok (.putfield 9, 3) := by decide +kernel
theorem dS_startFor_5 : decode cS_startFor 5 = .ok (.aload_n 0, 1) := by decide +kernel
theorem dS_startFor_6 : decode cS_startFor 6 = .ok (.getfield 15, 3) := by decide +kernel
theorem dS_startFor_9 : decode cS_startFor 9 = .ok (.iconst 0, 1) := by decide +kernel
theorem dS_startFor_10 : decode cS_startFor 10 = .ok (.invokestatic 22, 3) := by decide +kernel
theorem dS_startFor_13 : decode cS_startFor 13 = .ok (.return_, 1) := by decide +kernel
theorem dS_expects_0 : decode cS_expects 0 = .ok (.iload_n 2, 1) := by decide +kernel
theorem dS_expects_1 : decode cS_expects 1 = .ok (.aload_n 0, 1) := by decide +kernel
theorem dS_expects_2 : decode cS_expects 2 = .ok (.getfield 15, 3) := by decide +kernel
theorem dS_expects_5 : decode cS_expects 5 = .ok (.iload_n 1, 1) := by decide +kernel
theorem dS_expects_6 : decode cS_expects 6 = .ok (.iaload, 1) := by decide +kernel
theorem dS_expects_7 : decode cS_expects 7 = .ok (.if_icmp .ne 7, 3) := by decide +kernel
theorem dS_expects_10 : decode cS_expects 10 = .ok (.iconst 1, 1) := by decide +kernel
theorem dS_expects_11 : decode cS_expects 11 = .ok (.goto 4, 3) := by decide +kernel
theorem dS_expects_14 : decode cS_expects 14 = .ok (.iconst 0, 1) := by decide +kernel
theorem dS_expects_15 : decode cS_expects 15 = .ok (.ireturn, 1) := by decide +kernel
theorem dS_remembers_0 : decode cS_remembers 0 = .ok (.iload_n 2, 1) := by decide +kernel
theorem dS_remembers_1 : decode cS_remembers 1 = .ok (.aload_n 0, 1) := by decide +kernel
theorem dS_remembers_2 : decode cS_remembers 2 = .ok (.getfield 15, 3) := by decide +kernel
theorem dS_remembers_5 : decode cS_remembers 5 = .ok (.iload_n 1, 1) := by decide +kernel
theorem dS_remembers_6 : decode cS_remembers 6 = .ok (.iaload, 1) := by decide +kernel
theorem dS_remembers_7 : decode cS_remembers 7 = .ok (.if_icmp .ge 19, 3) := by decide +kernel
theorem dS_remembers_10 : decode cS_remembers 10 = .ok (.iload_n 2, 1) := by decide +kernel
theorem dS_remembers_11 : decode cS_remembers 11 = .ok (.aload_n 0, 1) := by decide +kernel
theorem dS_remembers_12 : decode cS_remembers 12 = .ok (.getfield 15, 3) := by decide +kernel
theorem dS_remembers_15 : decode cS_remembers 15 = .ok (.iload_n 1, 1) := by decide +kernel
theorem dS_remembers_16 : decode cS_remembers 16 = .ok (.iaload, 1) := by decide +kernel
theorem dS_remembers_17 : decode cS_remembers 17 = .ok (.iconst 3, 1) := by decide +kernel
theorem dS_remembers_18 : decode cS_remembers 18 = .ok (.isub, 1) := by decide +kernel
theorem dS_remembers_19 : decode cS_remembers 19 = .ok (.if_icmp .lt 7, 3) := by decide +kernel
theorem dS_remembers_22 : decode cS_remembers 22 = .ok (.iconst 1, 1) := by decide +kernel
theorem dS_remembers_23 : decode cS_remembers 23 = .ok (.goto 4, 3) := by decide +kernel
theorem dS_remembers_26 : decode cS_remembers 26 = .ok (.iconst 0, 1) := by decide +kernel
theorem dS_remembers_27 : decode cS_remembers 27 = .ok (.ireturn, 1) := by decide +kernel
theorem dS_offsetRemembered_0 : decode cS_offsetRemembered 0 = .ok (.aload_n 0, 1) := by decide +kernel
theorem dS_offsetRemembered_1 : decode cS_offsetRemembered 1 = .ok (.getfield 19, 3) := by decide +kernel
theorem dS_offsetRemembered_4 : decode cS_offsetRemembered 4 = .ok (.iload_n 1, 1) := by decide +kernel
theorem dS_offsetRemembered_5 : decode cS_offsetRemembered 5 = .ok (.iconst 3, 1) := by decide +kernel
theorem dS_offsetRemembered_6 : decode cS_offsetRemembered 6 = .ok (.imul, 1) := by decide +kernel
theorem dS_offsetRemembered_7 : decode cS_offsetRemembered 7 = .ok (.iload_n 2, 1) := by decide +kernel
theorem dS_offsetRemembered_8 : decode cS_offsetRemembered 8 = .ok (.iconst 3, 1) := by decide +kernel
theorem dS_offsetRemembered_9 : decode cS_offsetRemembered 9 = .ok (.irem, 1) := by decide +kernel
theorem dS_offsetRemembered_10 : decode cS_offsetRemembered 10 = .ok (.iadd, 1) := by decide +kernel
theorem dS_offsetRemembered_11 : decode cS_offsetRemembered 11 = .ok (.iaload, 1) := by decide +kernel
theorem dS_offsetRemembered_12 : decode cS_offsetRemembered 12 = .ok (.ireturn, 1) := by decide +kernel
theorem dS_remember_0 : decode cS_remember 0 = .ok (.aload_n 0, 1) := by decide +kernel
theorem dS_remember_1 : decode cS_remember 1 = .ok (.getfield 19, 3) := by decide +kernel
theorem dS_remember_4 : decode cS_remember 4 = .ok (.iload_n 1, 1) := by decide +kernel
theorem dS_remember_5 : decode cS_remember 5 = .ok (.iconst 3, 1) := by decide +kernel
theorem dS_remember_6 : decode cS_remember 6 = .ok (.imul, 1) := by decide +kernel
theorem dS_remember_7 : decode cS_remember 7 = .ok (.aload_n 0, 1) := by decide +kernel
theorem dS_remember_8 : decode cS_remember 8 = .ok (.getfield 15, 3) := by decide +kernel
theorem dS_remember_11 : decode cS_remember 11 = .ok (.iload_n 1, 1) := by decide +kernel
theorem dS_remember_12 : decode cS_remember 12 = .ok (.iaload, 1) := by decide +kernel
theorem dS_remember_13 : decode cS_remember 13 = .ok (.iconst 3, 1) := by decide +kernel
theorem dS_remember_14 : decode cS_remember 14 = .ok (.irem, 1) := by decide +kernel
theorem dS_remember_15 : decode cS_remember 15 = .ok (.iadd, 1) := by decide +kernel
theorem dS_remember_16 : decode cS_remember 16 = .ok (.iload_n 2, 1) := by decide +kernel
theorem dS_remember_17 : decode cS_remember 17 = .ok (.iastore, 1) := by decide +kernel
theorem dS_remember_18 : decode cS_remember 18 = .ok (.aload_n 0, 1) := by decide +kernel
theorem dS_remember_19 : decode cS_remember 19 = .ok (.getfield 15, 3) := by decide +kernel
theorem dS_remember_22 : decode cS_remember 22 = .ok (.iload_n 1, 1) := by decide +kernel
theorem dS_remember_23 : decode cS_remember 23 = .ok (.dup2, 1) := by decide +kernel
theorem dS_remember_24 : decode cS_remember 24 = .ok (.iaload, 1) := by decide +kernel
theorem dS_remember_25 : decode cS_remember 25 = .ok (.iconst 1, 1) := by decide +kernel
theorem dS_remember_26 : decode cS_remember 26 = .ok (.iadd, 1) := by decide +kernel
theorem dS_remember_27 : decode cS_remember 27 = .ok (.iastore, 1) := by decide +kernel
theorem dS_remember_28 : decode cS_remember 28 = .ok (.return_, 1) := by decide +kernel
theorem dA_fill_0 : decode cA_fill 0 = .ok (.iconst 0, 1) := by decide +kernel
theorem dA_fill_1 : decode cA_fill 1 = .ok (.istore_n 2, 1) := by decide +kernel
theorem dA_fill_2 : decode cA_fill 2 = .ok (.aload_n 0, 1) := by decide +kernel
theorem dA_fill_3 : decode cA_fill 3 = .ok (.arraylength, 1) := by decide +kernel
theorem dA_fill_4 : decode cA_fill 4 = .ok (.istore_n 3, 1) := by decide +kernel
theorem dA_fill_5 : decode cA_fill 5 = .ok (.iload_n 2, 1) := by decide +kernel
theorem dA_fill_6 : decode cA_fill 6 = .ok (.iload_n 3, 1) := by decide +kernel
theorem dA_fill_7 : decode cA_fill 7 = .ok (.if_icmp .ge 13, 3) := by decide +kernel
theorem dA_fill_10 : decode cA_fill 10 = .ok (.aload_n 0, 1) := by decide +kernel
theorem dA_fill_11 : decode cA_fill 11 = .ok (.iload_n 2, 1) := by decide +kernel
theorem dA_fill_12 : decode cA_fill 12 = .ok (.iload_n 1, 1) := by decide +kernel
theorem dA_fill_13 : decode cA_fill 13 = .ok (.iastore, 1) := by decide +kernel
theorem dA_fill_14 : decode cA_fill 14 = .ok (.iinc 2 1, 3) := by decide +kernel
theorem dA_fill_17 : decode cA_fill 17 = .ok (.goto (-12), 3) := by decide +kernel
theorem dA_fill_20 : decode cA_fill 20 = .ok (.return_, 1) := by decide +kernel
