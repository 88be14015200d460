theorem dX0_init_0 : decode cX0_init 0 = .ok (.aload_n 0, 1) := by decide +kernel
theorem dX0_init_1 : decode cX0_init 1 = .ok (.iload_n 1, 1) := by decide +kernel
theorem dX0_init_2 : decode cX0_init 2 = .ok (.iload_n 2, 1) := by decide +kernel
theorem dX0_init_3 : decode cX0_init 3 = .ok (.iload_n 3, 1) := by decide +kernel
theorem dX0_init_4 : decode cX0_init 4 = .ok (.aload 4, 2) := by decide +kernel
theorem dX0_init_6 : decode cX0_init 6 = .ok (.invokespecial 1, 3) := by decide +kernel
theorem dX0_init_9 : decode cX0_init 9 = .ok (.return_, 1) := by decide +kernel
theorem dX0_size_0 : decode cX0_size 0 = .ok (.aload_n 0, 1) := by decide +kernel
theorem dX0_size_1 : decode cX0_size 1 = .ok (.getfield 7, 3) := by decide +kernel
theorem dX0_size_4 : decode cX0_size 4 = .ok (.bipush 12, 2) := by decide +kernel
theorem dX0_size_6 : decode cX0_size 6 = .ok (.invokevirtual 13, 3) := by decide +kernel
theorem dX0_size_9 : decode cX0_size 9 = .ok (.aload_n 0, 1) := by decide +kernel
theorem dX0_size_10 : decode cX0_size 10 = .ok (.invokespecial 19, 3) := by decide +kernel
theorem dX0_size_13 : decode cX0_size 13 = .ok (.ineg, 1) := by decide +kernel
theorem dX0_size_14 : decode cX0_size 14 = .ok (.ireturn, 1) := by decide +kernel
theorem dX0_mark_0 : decode cX0_mark 0 = .ok (.aload_n 0, 1) := by decide +kernel
theorem dX0_mark_1 : decode cX0_mark 1 = .ok (.getfield 7, 3) := by decide +kernel
theorem dX0_mark_4 : decode cX0_mark 4 = .ok (.bipush 24, 2) := by decide +kernel
theorem dX0_mark_6 : decode cX0_mark 6 = .ok (.invokevirtual 13, 3) := by decide +kernel
theorem dX0_mark_9 : decode cX0_mark 9 = .ok (.aload_n 0, 1) := by decide +kernel
theorem dX0_mark_10 : decode cX0_mark 10 = .ok (.invokespecial 23, 3) := by decide +kernel
theorem dX0_mark_13 : decode cX0_mark 13 = .ok (.sipush 1000, 3) := by decide +kernel
theorem dX0_mark_16 : decode cX0_mark 16 = .ok (.iadd, 1) := by decide +kernel
theorem dX0_mark_17 : decode cX0_mark 17 = .ok (.ireturn, 1) := by decide +kernel
theorem dX1_init_0 : decode cX1_init 0 = .ok (.aload_n 0, 1) := by decide +kernel
theorem dX1_init_1 : decode cX1_init 1 = .ok (.invokespecial 3, 3) := by decide +kernel
theorem dX1_init_4 : decode cX1_init 4 = .ok (.aload_n 0, 1) := by decide +kernel
theorem dX1_init_5 : decode cX1_init 5 = .ok (.bipush 24, 2) := by decide +kernel
theorem dX1_init_7 : decode cX1_init 7 = .ok (.newarray .int, 2) := by decide +kernel
theorem dX1_init_9 : decode cX1_init 9 = .ok (.putfield 9, 3) := by decide +kernel
theorem dX1_init_12 : decode cX1_init 12 = .ok (.aload_n 0, 1) := by decide +kernel
theorem dX1_init_13 : decode cX1_init 13 = .ok (.bipush 8, 2) := by decide +kernel
theorem dX1_init_15 : decode cX1_init 15 = .ok (.newarray .int, 2) := by decide +kernel
theorem dX1_init_17 : decode cX1_init 17 = .ok (.putfield 15, 3) := by decide +kernel
theorem dX1_init_20 : decode cX1_init 20 = .ok (.aload_n 0, 1) := by decide +kernel
theorem dX1_init_21 : decode cX1_init 21 = .ok (.bipush 8, 2) := by decide +kernel
theorem dX1_init_23 : decode cX1_init 23 = .ok (.newarray .int, 2) := by decide +kernel
theorem dX1_init_25 : decode cX1_init 25 = .ok (.putfield 18, 3) := by decide +kernel
theorem dX1_init_28 : decode cX1_init 28 = .ok (.aload_n 0, 1) := by decide +kernel
theorem dX1_init_29 : decode cX1_init 29 = .ok (.bipush 8, 2) := by decide +kernel
theorem dX1_init_31 : decode cX1_init 31 = .ok (.newarray .int, 2) := by decide +kernel
theorem dX1_init_33 : decode cX1_init 33 = .ok (.putfield 21, 3) := by decide +kernel
theorem dX1_init_36 : decode cX1_init 36 = .ok (.aload_n 0, 1) := by decide +kernel
theorem dX1_init_37 : decode cX1_init 37 = .ok (.bipush 8, 2) := by decide +kernel
theorem dX1_init_39 : decode cX1_init 39 = .ok (.newarray .int, 2) := by decide +kernel
theorem dX1_init_41 : decode cX1_init 41 = .ok (.putfield 24, 3) := by decide +kernel
theorem dX1_init_44 : decode cX1_init 44 = .ok (.aload_n 0, 1) := by decide +kernel
theorem dX1_init_45 : decode cX1_init 45 = .ok (.bipush 8, 2) := by decide +kernel
theorem dX1_init_47 : decode cX1_init 47 = .ok (.newarray .int, 2) := by decide +kernel
theorem dX1_init_49 : decode cX1_init 49 = .ok (.putfield 27, 3) := by decide +kernel
theorem dX1_init_52 : decode cX1_init 52 = .ok (.aload_n 0, 1) := by decide +kernel
theorem dX1_init_53 : decode cX1_init 53 = .ok (.bipush 8, 2) := by decide +kernel
theorem dX1_init_55 : decode cX1_init 55 = .ok (.newarray .int, 2) := by decide +kernel
theorem dX1_init_57 : decode cX1_init 57 = .ok (.putfield 30, 3) := by decide +kernel
theorem dX1_init_60 : decode cX1_init 60 = .ok (.aload_n 0, 1) := by decide +kernel
theorem dX1_init_61 : decode cX1_init 61 = .ok (.bipush 8, 2) := by decide +kernel
theorem dX1_init_63 : decode cX1_init 63 = .ok (.newarray .int, 2) := by decide +kernel
theorem dX1_init_65 : decode cX1_init 65 = .ok (.putfield 33, 3) := by decide +kernel
theorem dX1_init_68 : decode cX1_init 68 = .ok (.aload_n 0, 1) := by decide +kernel
theorem dX1_init_69 : decode cX1_init 69 = .ok (.bipush 8, 2) := by decide +kernel
theorem dX1_init_71 : decode cX1_init 71 = .ok (.newarray .int, 2) := by decide +kernel
theorem dX1_init_73 : decode cX1_init 73 = .ok (.putfield 36, 3) := by decide +kernel
theorem dX1_init_76 : decode cX1_init 76 = .ok (.aload_n 0, 1) := by decide +kernel
theorem dX1_init_77 : decode cX1_init 77 = .ok (.bipush 10, 2) := by decide +kernel
theorem dX1_init_79 : decode cX1_init 79 = .ok (.newarray .int, 2) := by decide +kernel
theorem dX1_init_81 : decode cX1_init 81 = .ok (.putfield 39, 3) := by decide +kernel
theorem dX1_init_84 : decode cX1_init 84 = .ok (.aload_n 0, 1) := by decide +kernel
theorem dX1_init_85 : decode cX1_init 85 = .ok (.bipush 10, 2) := by decide +kernel
theorem dX1_init_87 : decode cX1_init 87 = .ok (.newarray .int, 2) := by decide +kernel
theorem dX1_init_89 : decode cX1_init 89 = .ok (.putfield 42, 3) := by decide +kernel
theorem dX1_init_92 : decode cX1_init 92 = .ok (.aload_n 0, 1) := by decide +kernel
theorem dX1_init_93 : decode cX1_init 93 = .ok (.bipush 10, 2) := by decide +kernel
theorem dX1_init_95 : decode cX1_init 95 = .ok (.newarray .int, 2) := by decide +kernel
theorem dX1_init_97 : decode cX1_init 97 = .ok (.putfield 45, 3) := by decide +kernel
theorem dX1_init_100 : decode cX1_init 100 = .ok (.aload_n 0, 1) := by decide +kernel
theorem dX1_init_101 : decode cX1_init 101 = .ok (.bipush 10, 2) := by decide +kernel
theorem dX1_init_103 : decode cX1_init 103 = .ok (.newarray .int, 2) := by decide +kernel
theorem dX1_init_105 : decode cX1_init 105 = .ok (.putfield 48, 3) := by decide +kernel
theorem dX1_init_108 : decode cX1_init 108 = .ok (.return_, 1) := by decide +kernel
theorem dX1_isTold_0 : decode cX1_isTold 0 = .ok (.aload_n 0, 1) := by decide +kernel
theorem dX1_isTold_1 : decode cX1_isTold 1 = .ok (.getfield 51, 3) := by decide +kernel
theorem dX1_isTold_4 : decode cX1_isTold 4 = .ok (.ifCond .le 7, 3) := by decide +kernel
theorem dX1_isTold_7 : decode cX1_isTold 7 = .ok (.iconst 1, 1) := by decide +kernel
theorem dX1_isTold_8 : decode cX1_isTold 8 = .ok (.goto 4, 3) := by decide +kernel
theorem dX1_isTold_11 : decode cX1_isTold 11 = .ok (.iconst 0, 1) := by decide +kernel
theorem dX1_isTold_12 : decode cX1_isTold 12 = .ok (.ireturn, 1) := by decide +kernel
theorem dX1_addLine_0 : decode cX1_addLine 0 = .ok (.aload_n 0, 1) := by decide +kernel
theorem dX1_addLine_1 : decode cX1_addLine 1 = .ok (.getfield 51, 3) := by decide +kernel
theorem dX1_addLine_4 : decode cX1_addLine 4 = .ok (.bipush 8, 2) := by decide +kernel
theorem dX1_addLine_6 : decode cX1_addLine 6 = .ok (.if_icmp .ge 43, 3) := by decide +kernel
theorem dX1_addLine_9 : decode cX1_addLine 9 = .ok (.aload_n 0, 1) := by decide +kernel
theorem dX1_addLine_10 : decode cX1_addLine 10 = .ok (.getfield 15, 3) := by decide +kernel
theorem dX1_addLine_13 : decode cX1_addLine 13 = .ok (.aload_n 0, 1) := by decide +kernel
theorem dX1_addLine_14 : decode cX1_addLine 14 = .ok (.getfield 51, 3) := by decide +kernel
theorem dX1_addLine_17 : decode cX1_addLine 17 = .ok (.iload_n 1, 1) := by decide +kernel
theorem dX1_addLine_18 : decode cX1_addLine 18 = .ok (.iastore, 1) := by decide +kernel
theorem dX1_addLine_19 : decode cX1_addLine 19 = .ok (.aload_n 0, 1) := by decide +kernel
theorem dX1_addLine_20 : decode cX1_addLine 20 = .ok (.getfield 18, 3) := by decide +kernel
theorem dX1_addLine_23 : decode cX1_addLine 23 = .ok (.aload_n 0, 1) := by decide +kernel
theorem dX1_addLine_24 : decode cX1_addLine 24 = .ok (.getfield 51, 3) := by decide +kernel
theorem dX1_addLine_27 : decode cX1_addLine 27 = .ok (.iload_n 2, 1) := by decide +kernel
theorem dX1_addLine_28 : decode cX1_addLine 28 = .ok (.iastore, 1) := by decide +kernel
theorem dX1_addLine_29 : decode cX1_addLine 29 = .ok (.aload_n 0, 1) := by decide +kernel
theorem dX1_addLine_30 : decode cX1_addLine 30 = .ok (.getfield 21, 3) := by decide +kernel
theorem dX1_addLine_33 : decode cX1_addLine 33 = .ok (.aload_n 0, 1) := by decide +kernel
theorem dX1_addLine_34 : decode cX1_addLine 34 = .ok (.getfield 51, 3) := by decide +kernel
theorem dX1_addLine_37 : decode cX1_addLine 37 = .ok (.iload_n 3, 1) := by decide +kernel
theorem dX1_addLine_38 : decode cX1_addLine 38 = .ok (.iastore, 1) := by decide +kernel
theorem dX1_addLine_39 : decode cX1_addLine 39 = .ok (.aload_n 0, 1) := by decide +kernel
theorem dX1_addLine_40 : decode cX1_addLine 40 = .ok (.dup, 1) := by decide +kernel
theorem dX1_addLine_41 : decode cX1_addLine 41 = .ok (.getfield 51, 3) := by decide +kernel
theorem dX1_addLine_44 : decode cX1_addLine 44 = .ok (.iconst 1, 1) := by decide +kernel
theorem dX1_addLine_45 : decode cX1_addLine 45 = .ok (.iadd, 1) := by decide +kernel
theorem dX1_addLine_46 : decode cX1_addLine 46 = .ok (.putfield 51, 3) := by decide +kernel
theorem dX1_addLine_49 : decode cX1_addLine 49 = .ok (.return_, 1) := by decide +kernel
theorem dX1_addRight_0 : decode cX1_addRight 0 = .ok (.aload_n 0, 1) := by decide +kernel
theorem dX1_addRight_1 : decode cX1_addRight 1 = .ok (.getfield 55, 3) := by decide +kernel
theorem dX1_addRight_4 : decode cX1_addRight 4 = .ok (.bipush 8, 2) := by decide +kernel
theorem dX1_addRight_6 : decode cX1_addRight 6 = .ok (.if_icmp .ge 54, 3) := by decide +kernel
theorem dX1_addRight_9 : decode cX1_addRight 9 = .ok (.aload_n 0, 1) := by decide +kernel
theorem dX1_addRight_10 : decode cX1_addRight 10 = .ok (.getfield 27, 3) := by decide +kernel
theorem dX1_addRight_13 : decode cX1_addRight 13 = .ok (.aload_n 0, 1) := by decide +kernel
theorem dX1_addRight_14 : decode cX1_addRight 14 = .ok (.getfield 55, 3) := by decide +kernel
theorem dX1_addRight_17 : decode cX1_addRight 17 = .ok (.iload_n 1, 1) := by decide +kernel
theorem dX1_addRight_18 : decode cX1_addRight 18 = .ok (.iastore, 1) := by decide +kernel
theorem dX1_addRight_19 : decode cX1_addRight 19 = .ok (.aload_n 0, 1) := by decide +kernel
theorem dX1_addRight_20 : decode cX1_addRight 20 = .ok (.getfield 30, 3) := by decide +kernel
theorem dX1_addRight_23 : decode cX1_addRight 23 = .ok (.aload_n 0, 1) := by decide +kernel
theorem dX1_addRight_24 : decode cX1_addRight 24 = .ok (.getfield 55, 3) := by decide +kernel
theorem dX1_addRight_27 : decode cX1_addRight 27 = .ok (.iload_n 2, 1) := by decide +kernel
theorem dX1_addRight_28 : decode cX1_addRight 28 = .ok (.iastore, 1) := by decide +kernel
theorem dX1_addRight_29 : decode cX1_addRight 29 = .ok (.aload_n 0, 1) := by decide +kernel
theorem dX1_addRight_30 : decode cX1_addRight 30 = .ok (.getfield 33, 3) := by decide +kernel
theorem dX1_addRight_33 : decode cX1_addRight 33 = .ok (.aload_n 0, 1) := by decide +kernel
theorem dX1_addRight_34 : decode cX1_addRight 34 = .ok (.getfield 55, 3) := by decide +kernel
theorem dX1_addRight_37 : decode cX1_addRight 37 = .ok (.iload_n 3, 1) := by decide +kernel
theorem dX1_addRight_38 : decode cX1_addRight 38 = .ok (.iastore, 1) := by decide +kernel
theorem dX1_addRight_39 : decode cX1_addRight 39 = .ok (.aload_n 0, 1) := by decide +kernel
theorem dX1_addRight_40 : decode cX1_addRight 40 = .ok (.getfield 36, 3) := by decide +kernel
theorem dX1_addRight_43 : decode cX1_addRight 43 = .ok (.aload_n 0, 1) := by decide +kernel
theorem dX1_addRight_44 : decode cX1_addRight 44 = .ok (.getfield 55, 3) := by decide +kernel
theorem dX1_addRight_47 : decode cX1_addRight 47 = .ok (.iload 4, 2) := by decide +kernel
theorem dX1_addRight_49 : decode cX1_addRight 49 = .ok (.iastore, 1) := by decide +kernel
theorem dX1_addRight_50 : decode cX1_addRight 50 = .ok (.aload_n 0, 1) := by decide +kernel
theorem dX1_addRight_51 : decode cX1_addRight 51 = .ok (.dup, 1) := by decide +kernel
theorem dX1_addRight_52 : decode cX1_addRight 52 = .ok (.getfield 55, 3) := by decide +kernel
theorem dX1_addRight_55 : decode cX1_addRight 55 = .ok (.iconst 1, 1) := by decide +kernel
theorem dX1_addRight_56 : decode cX1_addRight 56 = .ok (.iadd, 1) := by decide +kernel
theorem dX1_addRight_57 : decode cX1_addRight 57 = .ok (.putfield 55, 3) := by decide +kernel
theorem dX1_addRight_60 : decode cX1_addRight 60 = .ok (.return_, 1) := by decide +kernel
theorem dX1_addPiece_0 : decode cX1_addPiece 0 = .ok (.aload_n 0, 1) := by decide +kernel
theorem dX1_addPiece_1 : decode cX1_addPiece 1 = .ok (.getfield 58, 3) := by decide +kernel
theorem dX1_addPiece_4 : decode cX1_addPiece 4 = .ok (.bipush 10, 2) := by decide +kernel
theorem dX1_addPiece_6 : decode cX1_addPiece 6 = .ok (.if_icmp .ge 54, 3) := by decide +kernel
theorem dX1_addPiece_9 : decode cX1_addPiece 9 = .ok (.aload_n 0, 1) := by decide +kernel
theorem dX1_addPiece_10 : decode cX1_addPiece 10 = .ok (.getfield 39, 3) := by decide +kernel
theorem dX1_addPiece_13 : decode cX1_addPiece 13 = .ok (.aload_n 0, 1) := by decide +kernel
theorem dX1_addPiece_14 : decode cX1_addPiece 14 = .ok (.getfield 58, 3) := by decide +kernel
theorem dX1_addPiece_17 : decode cX1_addPiece 17 = .ok (.iload_n 1, 1) := by decide +kernel
theorem dX1_addPiece_18 : decode cX1_addPiece 18 = .ok (.iastore, 1) := by decide +kernel
theorem dX1_addPiece_19 : decode cX1_addPiece 19 = .ok (.aload_n 0, 1) := by decide +kernel
theorem dX1_addPiece_20 : decode cX1_addPiece 20 = .ok (.getfield 42, 3) := by decide +kernel
theorem dX1_addPiece_23 : decode cX1_addPiece 23 = .ok (.aload_n 0, 1) := by decide +kernel
theorem dX1_addPiece_24 : decode cX1_addPiece 24 = .ok (.getfield 58, 3) := by decide +kernel
theorem dX1_addPiece_27 : decode cX1_addPiece 27 = .ok (.iload_n 2, 1) := by decide +kernel
theorem dX1_addPiece_28 : decode cX1_addPiece 28 = .ok (.iastore, 1) := by decide +kernel
theorem dX1_addPiece_29 : decode cX1_addPiece 29 = .ok (.aload_n 0, 1) := by decide +kernel
theorem dX1_addPiece_30 : decode cX1_addPiece 30 = .ok (.getfield 45, 3) := by decide +kernel
theorem dX1_addPiece_33 : decode cX1_addPiece 33 = .ok (.aload_n 0, 1) := by decide +kernel
theorem dX1_addPiece_34 : decode cX1_addPiece 34 = .ok (.getfield 58, 3) := by decide +kernel
theorem dX1_addPiece_37 : decode cX1_addPiece 37 = .ok (.iload_n 3, 1) := by decide +kernel
theorem dX1_addPiece_38 : decode cX1_addPiece 38 = .ok (.iastore, 1) := by decide +kernel
theorem dX1_addPiece_39 : decode cX1_addPiece 39 = .ok (.aload_n 0, 1) := by decide +kernel
theorem dX1_addPiece_40 : decode cX1_addPiece 40 = .ok (.getfield 48, 3) := by decide +kernel
theorem dX1_addPiece_43 : decode cX1_addPiece 43 = .ok (.aload_n 0, 1) := by decide +kernel
theorem dX1_addPiece_44 : decode cX1_addPiece 44 = .ok (.getfield 58, 3) := by decide +kernel
theorem dX1_addPiece_47 : decode cX1_addPiece 47 = .ok (.iload 4, 2) := by decide +kernel
theorem dX1_addPiece_49 : decode cX1_addPiece 49 = .ok (.iastore, 1) := by decide +kernel
theorem dX1_addPiece_50 : decode cX1_addPiece 50 = .ok (.aload_n 0, 1) := by decide +kernel
theorem dX1_addPiece_51 : decode cX1_addPiece 51 = .ok (.dup, 1) := by decide +kernel
theorem dX1_addPiece_52 : decode cX1_addPiece 52 = .ok (.getfield 58, 3) := by decide +kernel
theorem dX1_addPiece_55 : decode cX1_addPiece 55 = .ok (.iconst 1, 1) := by decide +kernel
theorem dX1_addPiece_56 : decode cX1_addPiece 56 = .ok (.iadd, 1) := by decide +kernel
theorem dX1_addPiece_57 : decode cX1_addPiece 57 = .ok (.putfield 58, 3) := by decide +kernel
theorem dX1_addPiece_60 : decode cX1_addPiece 60 = .ok (.return_, 1) := by decide +kernel
theorem dX1_hasLineAt_0 : decode cX1_hasLineAt 0 = .ok (.iconst 0, 1) := by decide +kernel
theorem dX1_hasLineAt_1 : decode cX1_hasLineAt 1 = .ok (.istore_n 3, 1) := by decide +kernel
theorem dX1_hasLineAt_2 : decode cX1_hasLineAt 2 = .ok (.iload_n 3, 1) := by decide +kernel
theorem dX1_hasLineAt_3 : decode cX1_hasLineAt 3 = .ok (.aload_n 0, 1) := by decide +kernel
theorem dX1_hasLineAt_4 : decode cX1_hasLineAt 4 = .ok (.getfield 51, 3) := by decide +kernel
theorem dX1_hasLineAt_7 : decode cX1_hasLineAt 7 = .ok (.if_icmp .ge 31, 3) := by decide +kernel
theorem dX1_hasLineAt_10 : decode cX1_hasLineAt 10 = .ok (.aload_n 0, 1) := by decide +kernel
theorem dX1_hasLineAt_11 : decode cX1_hasLineAt 11 = .ok (.getfield 15, 3) := by decide +kernel
theorem dX1_hasLineAt_14 : decode cX1_hasLineAt 14 = .ok (.iload_n 3, 1) := by decide +kernel
theorem dX1_hasLineAt_15 : decode cX1_hasLineAt 15 = .ok (.iaload, 1) := by decide +kernel
theorem dX1_hasLineAt_16 : decode cX1_hasLineAt 16 = .ok (.iload_n 1, 1) := by decide +kernel
theorem dX1_hasLineAt_17 : decode cX1_hasLineAt 17 = .ok (.if_icmp .ne 15, 3) := by decide +kernel
theorem dX1_hasLineAt_20 : decode cX1_hasLineAt 20 = .ok (.aload_n 0, 1) := by decide +kernel
theorem dX1_hasLineAt_21 : decode cX1_hasLineAt 21 = .ok (.getfield 18, 3) := by decide +kernel
theorem dX1_hasLineAt_24 : decode cX1_hasLineAt 24 = .ok (.iload_n 3, 1) := by decide +kernel
theorem dX1_hasLineAt_25 : decode cX1_hasLineAt 25 = .ok (.iaload, 1) := by decide +kernel
theorem dX1_hasLineAt_26 : decode cX1_hasLineAt 26 = .ok (.iload_n 2, 1) := by decide +kernel
theorem dX1_hasLineAt_27 : decode cX1_hasLineAt 27 = .ok (.if_icmp .ne 5, 3) := by decide +kernel
theorem dX1_hasLineAt_30 : decode cX1_hasLineAt 30 = .ok (.iconst 1, 1) := by decide +kernel
theorem dX1_hasLineAt_31 : decode cX1_hasLineAt 31 = .ok (.ireturn, 1) := by decide +kernel
theorem dX1_hasLineAt_32 : decode cX1_hasLineAt 32 = .ok (.iinc 3 1, 3) := by decide +kernel
theorem dX1_hasLineAt_35 : decode cX1_hasLineAt 35 = .ok (.goto (-33), 3) := by decide +kernel
theorem dX1_hasLineAt_38 : decode cX1_hasLineAt 38 = .ok (.iconst 0, 1) := by decide +kernel
theorem dX1_hasLineAt_39 : decode cX1_hasLineAt 39 = .ok (.ireturn, 1) := by decide +kernel
theorem dX1_findLinesBelow_0 : decode cX1_findLinesBelow 0 = .ok (.iconst 0, 1) := by decide +kernel
theorem dX1_findLinesBelow_1 : decode cX1_findLinesBelow 1 = .ok (.istore_n 1, 1) := by decide +kernel
theorem dX1_findLinesBelow_2 : decode cX1_findLinesBelow 2 = .ok (.iload_n 1, 1) := by decide +kernel
theorem dX1_findLinesBelow_3 : decode cX1_findLinesBelow 3 = .ok (.aload_n 0, 1) := by decide +kernel
theorem dX1_findLinesBelow_4 : decode cX1_findLinesBelow 4 = .ok (.getfield 51, 3) := by decide +kernel
theorem dX1_findLinesBelow_7 : decode cX1_findLinesBelow 7 = .ok (.if_icmp .ge 20, 3) := by decide +kernel
theorem dX1_findLinesBelow_10 : decode cX1_findLinesBelow 10 = .ok (.aload_n 0, 1) := by decide +kernel
theorem dX1_findLinesBelow_11 : decode cX1_findLinesBelow 11 = .ok (.getfield 24, 3) := by decide +kernel
theorem dX1_findLinesBelow_14 : decode cX1_findLinesBelow 14 = .ok (.iload_n 1, 1) := by decide +kernel
theorem dX1_findLinesBelow_15 : decode cX1_findLinesBelow 15 = .ok (.aload_n 0, 1) := by decide +kernel
theorem dX1_findLinesBelow_16 : decode cX1_findLinesBelow 16 = .ok (.iload_n 1, 1) := by decide +kernel
theorem dX1_findLinesBelow_17 : decode cX1_findLinesBelow 17 = .ok (.invokevirtual 61, 3) := by decide +kernel
theorem dX1_findLinesBelow_20 : decode cX1_findLinesBelow 20 = .ok (.iastore, 1) := by decide +kernel
theorem dX1_findLinesBelow_21 : decode cX1_findLinesBelow 21 = .ok (.iinc 1 1, 3) := by decide +kernel
theorem dX1_findLinesBelow_24 : decode cX1_findLinesBelow 24 = .ok (.goto (-22), 3) := by decide +kernel
theorem dX1_findLinesBelow_27 : decode cX1_findLinesBelow 27 = .ok (.return_, 1) := by decide +kernel
theorem dX1_nextBelow_0 : decode cX1_nextBelow 0 = .ok (.iconst (-1), 1) := by decide +kernel
theorem dX1_nextBelow_1 : decode cX1_nextBelow 1 = .ok (.istore_n 2, 1) := by decide +kernel
theorem dX1_nextBelow_2 : decode cX1_nextBelow 2 = .ok (.iconst 0, 1) := by decide +kernel
theorem dX1_nextBelow_3 : decode cX1_nextBelow 3 = .ok (.istore_n 3, 1) := by decide +kernel
theorem dX1_nextBelow_4 : decode cX1_nextBelow 4 = .ok (.iload_n 3, 1) := by decide +kernel
theorem dX1_nextBelow_5 : decode cX1_nextBelow 5 = .ok (.aload_n 0, 1) := by decide +kernel
theorem dX1_nextBelow_6 : decode cX1_nextBelow 6 = .ok (.getfield 51, 3) := by decide +kernel
theorem dX1_nextBelow_9 : decode cX1_nextBelow 9 = .ok (.if_icmp .ge 60, 3) := by decide +kernel
theorem dX1_nextBelow_12 : decode cX1_nextBelow 12 = .ok (.aload_n 0, 1) := by decide +kernel
theorem dX1_nextBelow_13 : decode cX1_nextBelow 13 = .ok (.getfield 18, 3) := by decide +kernel
theorem dX1_nextBelow_16 : decode cX1_nextBelow 16 = .ok (.iload_n 3, 1) := by decide +kernel
theorem dX1_nextBelow_17 : decode cX1_nextBelow 17 = .ok (.iaload, 1) := by decide +kernel
theorem dX1_nextBelow_18 : decode cX1_nextBelow 18 = .ok (.aload_n 0, 1) := by decide +kernel
theorem dX1_nextBelow_19 : decode cX1_nextBelow 19 = .ok (.getfield 18, 3) := by decide +kernel
theorem dX1_nextBelow_22 : decode cX1_nextBelow 22 = .ok (.iload_n 1, 1) := by decide +kernel
theorem dX1_nextBelow_23 : decode cX1_nextBelow 23 = .ok (.iaload, 1) := by decide +kernel
theorem dX1_nextBelow_24 : decode cX1_nextBelow 24 = .ok (.if_icmp .ne 39, 3) := by decide +kernel
theorem dX1_nextBelow_27 : decode cX1_nextBelow 27 = .ok (.aload_n 0, 1) := by decide +kernel
theorem dX1_nextBelow_28 : decode cX1_nextBelow 28 = .ok (.getfield 15, 3) := by decide +kernel
theorem dX1_nextBelow_31 : decode cX1_nextBelow 31 = .ok (.iload_n 3, 1) := by decide +kernel
theorem dX1_nextBelow_32 : decode cX1_nextBelow 32 = .ok (.iaload, 1) := by decide +kernel
theorem dX1_nextBelow_33 : decode cX1_nextBelow 33 = .ok (.aload_n 0, 1) := by decide +kernel
theorem dX1_nextBelow_34 : decode cX1_nextBelow 34 = .ok (.getfield 15, 3) := by decide +kernel
theorem dX1_nextBelow_37 : decode cX1_nextBelow 37 = .ok (.iload_n 1, 1) := by decide +kernel
theorem dX1_nextBelow_38 : decode cX1_nextBelow 38 = .ok (.iaload, 1) := by decide +kernel
theorem dX1_nextBelow_39 : decode cX1_nextBelow 39 = .ok (.if_icmp .ge 24, 3) := by decide +kernel
theorem dX1_nextBelow_42 : decode cX1_nextBelow 42 = .ok (.iload_n 2, 1) := by decide +kernel
theorem dX1_nextBelow_43 : decode cX1_nextBelow 43 = .ok (.ifCond .lt 18, 3) := by decide +kernel
theorem dX1_nextBelow_46 : decode cX1_nextBelow 46 = .ok (.aload_n 0, 1) := by decide +kernel
theorem dX1_nextBelow_47 : decode cX1_nextBelow 47 = .ok (.getfield 15, 3) := by decide +kernel
theorem dX1_nextBelow_50 : decode cX1_nextBelow 50 = .ok (.iload_n 3, 1) := by decide +kernel
theorem dX1_nextBelow_51 : decode cX1_nextBelow 51 = .ok (.iaload, 1) := by decide +kernel
theorem dX1_nextBelow_52 : decode cX1_nextBelow 52 = .ok (.aload_n 0, 1) := by decide +kernel
theorem dX1_nextBelow_53 : decode cX1_nextBelow 53 = .ok (.getfield 15, 3) := by decide +kernel
theorem dX1_nextBelow_56 : decode cX1_nextBelow 56 = .ok (.iload_n 2, 1) := by decide +kernel
theorem dX1_nextBelow_57 : decode cX1_nextBelow 57 = .ok (.iaload, 1) := by decide +kernel
theorem dX1_nextBelow_58 : decode cX1_nextBelow 58 = .ok (.if_icmp .le 5, 3) := by decide +kernel
theorem dX1_nextBelow_61 : decode cX1_nextBelow 61 = .ok (.iload_n 3, 1) := by decide +kernel
theorem dX1_nextBelow_62 : decode cX1_nextBelow 62 = .ok (.istore_n 2, 1) := by decide +kernel
theorem dX1_nextBelow_63 : decode cX1_nextBelow 63 = .ok (.iinc 3 1, 3) := by decide +kernel
theorem dX1_nextBelow_66 : decode cX1_nextBelow 66 = .ok (.goto (-62), 3) := by decide +kernel
theorem dX1_nextBelow_69 : decode cX1_nextBelow 69 = .ok (.iload_n 2, 1) := by decide +kernel
theorem dX1_nextBelow_70 : decode cX1_nextBelow 70 = .ok (.ireturn, 1) := by decide +kernel
theorem dX1_hasSun_0 : decode cX1_hasSun 0 = .ok (.aload_n 0, 1) := by decide +kernel
theorem dX1_hasSun_1 : decode cX1_hasSun 1 = .ok (.getfield 15, 3) := by decide +kernel
theorem dX1_hasSun_4 : decode cX1_hasSun 4 = .ok (.iload_n 1, 1) := by decide +kernel
theorem dX1_hasSun_5 : decode cX1_hasSun 5 = .ok (.iaload, 1) := by decide +kernel
theorem dX1_hasSun_6 : decode cX1_hasSun 6 = .ok (.aload_n 0, 1) := by decide +kernel
theorem dX1_hasSun_7 : decode cX1_hasSun 7 = .ok (.getfield 9, 3) := by decide +kernel
theorem dX1_hasSun_10 : decode cX1_hasSun 10 = .ok (.iload_n 2, 1) := by decide +kernel
theorem dX1_hasSun_11 : decode cX1_hasSun 11 = .ok (.iaload, 1) := by decide +kernel
theorem dX1_hasSun_12 : decode cX1_hasSun 12 = .ok (.bipush 10, 2) := by decide +kernel
theorem dX1_hasSun_14 : decode cX1_hasSun 14 = .ok (.idiv, 1) := by decide +kernel
theorem dX1_hasSun_15 : decode cX1_hasSun 15 = .ok (.iload_n 3, 1) := by decide +kernel
theorem dX1_hasSun_16 : decode cX1_hasSun 16 = .ok (.iadd, 1) := by decide +kernel
theorem dX1_hasSun_17 : decode cX1_hasSun 17 = .ok (.if_icmp .lt 7, 3) := by decide +kernel
theorem dX1_hasSun_20 : decode cX1_hasSun 20 = .ok (.iconst 1, 1) := by decide +kernel
theorem dX1_hasSun_21 : decode cX1_hasSun 21 = .ok (.goto 4, 3) := by decide +kernel
theorem dX1_hasSun_24 : decode cX1_hasSun 24 = .ok (.iconst 0, 1) := by decide +kernel
theorem dX1_hasSun_25 : decode cX1_hasSun 25 = .ok (.ireturn, 1) := by decide +kernel
theorem dX1_sunnyQuarters_0 : decode cX1_sunnyQuarters 0 = .ok (.iconst 0, 1) := by decide +kernel
theorem dX1_sunnyQuarters_1 : decode cX1_sunnyQuarters 1 = .ok (.istore 5, 2) := by decide +kernel
theorem dX1_sunnyQuarters_3 : decode cX1_sunnyQuarters 3 = .ok (.iload_n 2, 1) := by decide +kernel
theorem dX1_sunnyQuarters_4 : decode cX1_sunnyQuarters 4 = .ok (.istore 6, 2) := by decide +kernel
theorem dX1_sunnyQuarters_6 : decode cX1_sunnyQuarters 6 = .ok (.iload 6, 2) := by decide +kernel
theorem dX1_sunnyQuarters_8 : decode cX1_sunnyQuarters 8 = .ok (.iload_n 3, 1) := by decide +kernel
theorem dX1_sunnyQuarters_9 : decode cX1_sunnyQuarters 9 = .ok (.if_icmp .gt 38, 3) := by decide +kernel
theorem dX1_sunnyQuarters_12 : decode cX1_sunnyQuarters 12 = .ok (.iload 6, 2) := by decide +kernel
theorem dX1_sunnyQuarters_14 : decode cX1_sunnyQuarters 14 = .ok (.bipush 24, 2) := by decide +kernel
theorem dX1_sunnyQuarters_16 : decode cX1_sunnyQuarters 16 = .ok (.if_icmp .ge 31, 3) := by decide +kernel
theorem dX1_sunnyQuarters_19 : decode cX1_sunnyQuarters 19 = .ok (.iload 5, 2) := by decide +kernel
theorem dX1_sunnyQuarters_21 : decode cX1_sunnyQuarters 21 = .ok (.aload_n 0, 1) := by decide +kernel
theorem dX1_sunnyQuarters_22 : decode cX1_sunnyQuarters 22 = .ok (.iload_n 1, 1) := by decide +kernel
theorem dX1_sunnyQuarters_23 : decode cX1_sunnyQuarters 23 = .ok (.iload 6, 2) := by decide +kernel
theorem dX1_sunnyQuarters_25 : decode cX1_sunnyQuarters 25 = .ok (.iload 4, 2) := by decide +kernel
theorem dX1_sunnyQuarters_27 : decode cX1_sunnyQuarters 27 = .ok (.invokevirtual 65, 3) := by decide +kernel
theorem dX1_sunnyQuarters_30 : decode cX1_sunnyQuarters 30 = .ok (.ifCond .eq 7, 3) := by decide +kernel
theorem dX1_sunnyQuarters_33 : decode cX1_sunnyQuarters 33 = .ok (.iconst 1, 1) := by decide +kernel
theorem dX1_sunnyQuarters_34 : decode cX1_sunnyQuarters 34 = .ok (.goto 4, 3) := by decide +kernel
theorem dX1_sunnyQuarters_37 : decode cX1_sunnyQuarters 37 = .ok (.iconst 0, 1) := by decide +kernel
theorem dX1_sunnyQuarters_38 : decode cX1_sunnyQuarters 38 = .ok (.iadd, 1) := by decide +kernel
theorem dX1_sunnyQuarters_39 : decode cX1_sunnyQuarters 39 = .ok (.istore 5, 2) := by decide +kernel
theorem dX1_sunnyQuarters_41 : decode cX1_sunnyQuarters 41 = .ok (.iinc 6 1, 3) := by decide +kernel
theorem dX1_sunnyQuarters_44 : decode cX1_sunnyQuarters 44 = .ok (.goto (-38), 3) := by decide +kernel
theorem dX1_sunnyQuarters_47 : decode cX1_sunnyQuarters 47 = .ok (.iload 5, 2) := by decide +kernel
theorem dX1_sunnyQuarters_49 : decode cX1_sunnyQuarters 49 = .ok (.ireturn, 1) := by decide +kernel
theorem dX1_drying_0 : decode cX1_drying 0 = .ok (.aload_n 0, 1) := by decide +kernel
theorem dX1_drying_1 : decode cX1_drying 1 = .ok (.getfield 9, 3) := by decide +kernel
theorem dX1_drying_4 : decode cX1_drying 4 = .ok (.iload_n 3, 1) := by decide +kernel
theorem dX1_drying_5 : decode cX1_drying 5 = .ok (.iaload, 1) := by decide +kernel
theorem dX1_drying_6 : decode cX1_drying 6 = .ok (.bipush 10, 2) := by decide +kernel
theorem dX1_drying_8 : decode cX1_drying 8 = .ok (.irem, 1) := by decide +kernel
theorem dX1_drying_9 : decode cX1_drying 9 = .ok (.istore 4, 2) := by decide +kernel
theorem dX1_drying_11 : decode cX1_drying 11 = .ok (.aload_n 0, 1) := by decide +kernel
theorem dX1_drying_12 : decode cX1_drying 12 = .ok (.iload_n 2, 1) := by decide +kernel
theorem dX1_drying_13 : decode cX1_drying 13 = .ok (.iload_n 3, 1) := by decide +kernel
theorem dX1_drying_14 : decode cX1_drying 14 = .ok (.iconst 0, 1) := by decide +kernel
theorem dX1_drying_15 : decode cX1_drying 15 = .ok (.invokevirtual 65, 3) := by decide +kernel
theorem dX1_drying_18 : decode cX1_drying 18 = .ok (.ifCond .eq 10, 3) := by decide +kernel
theorem dX1_drying_21 : decode cX1_drying 21 = .ok (.iload 4, 2) := by decide +kernel
theorem dX1_drying_23 : decode cX1_drying 23 = .ok (.iconst 2, 1) := by decide +kernel
theorem dX1_drying_24 : decode cX1_drying 24 = .ok (.iadd, 1) := by decide +kernel
theorem dX1_drying_25 : decode cX1_drying 25 = .ok (.goto 5, 3) := by decide +kernel
theorem dX1_drying_28 : decode cX1_drying 28 = .ok (.iload 4, 2) := by decide +kernel
theorem dX1_drying_30 : decode cX1_drying 30 = .ok (.istore 5, 2) := by decide +kernel
theorem dX1_drying_32 : decode cX1_drying 32 = .ok (.aload_n 0, 1) := by decide +kernel
theorem dX1_drying_33 : decode cX1_drying 33 = .ok (.getfield 39, 3) := by decide +kernel
theorem dX1_drying_36 : decode cX1_drying 36 = .ok (.iload_n 1, 1) := by decide +kernel
theorem dX1_drying_37 : decode cX1_drying 37 = .ok (.iaload, 1) := by decide +kernel
theorem dX1_drying_38 : decode cX1_drying 38 = .ok (.iconst 3, 1) := by decide +kernel
theorem dX1_drying_39 : decode cX1_drying 39 = .ok (.if_icmp .eq 13, 3) := by decide +kernel
theorem dX1_drying_42 : decode cX1_drying 42 = .ok (.aload_n 0, 1) := by decide +kernel
theorem dX1_drying_43 : decode cX1_drying 43 = .ok (.getfield 39, 3) := by decide +kernel
theorem dX1_drying_46 : decode cX1_drying 46 = .ok (.iload_n 1, 1) := by decide +kernel
theorem dX1_drying_47 : decode cX1_drying 47 = .ok (.iaload, 1) := by decide +kernel
theorem dX1_drying_48 : decode cX1_drying 48 = .ok (.iconst 5, 1) := by decide +kernel
theorem dX1_drying_49 : decode cX1_drying 49 = .ok (.if_icmp .ne 7, 3) := by decide +kernel
theorem dX1_drying_52 : decode cX1_drying 52 = .ok (.iconst 1, 1) := by decide +kernel
theorem dX1_drying_53 : decode cX1_drying 53 = .ok (.goto 4, 3) := by decide +kernel
theorem dX1_drying_56 : decode cX1_drying 56 = .ok (.iconst 0, 1) := by decide +kernel
theorem dX1_drying_57 : decode cX1_drying 57 = .ok (.istore 6, 2) := by decide +kernel
theorem dX1_drying_59 : decode cX1_drying 59 = .ok (.iload 6, 2) := by decide +kernel
theorem dX1_drying_61 : decode cX1_drying 61 = .ok (.ifCond .eq 14, 3) := by decide +kernel
theorem dX1_drying_64 : decode cX1_drying 64 = .ok (.iconst 0, 1) := by decide +kernel
theorem dX1_drying_65 : decode cX1_drying 65 = .ok (.iload 5, 2) := by decide +kernel
theorem dX1_drying_67 : decode cX1_drying 67 = .ok (.iconst 2, 1) := by decide +kernel
theorem dX1_drying_68 : decode cX1_drying 68 = .ok (.isub, 1) := by decide +kernel
theorem dX1_drying_69 : decode cX1_drying 69 = .ok (.invokestatic 69, 3) := by decide +kernel
theorem dX1_drying_72 : decode cX1_drying 72 = .ok (.goto 5, 3) := by decide +kernel
theorem dX1_drying_75 : decode cX1_drying 75 = .ok (.iload 5, 2) := by decide +kernel
theorem dX1_drying_77 : decode cX1_drying 77 = .ok (.ireturn, 1) := by decide +kernel
theorem dX1_takesStains_0 : decode cX1_takesStains 0 = .ok (.aload_n 0, 1) := by decide +kernel
theorem dX1_takesStains_1 : decode cX1_takesStains 1 = .ok (.getfield 39, 3) := by decide +kernel
theorem dX1_takesStains_4 : decode cX1_takesStains 4 = .ok (.iload_n 1, 1) := by decide +kernel
theorem dX1_takesStains_5 : decode cX1_takesStains 5 = .ok (.iaload, 1) := by decide +kernel
theorem dX1_takesStains_6 : decode cX1_takesStains 6 = .ok (.iconst 1, 1) := by decide +kernel
theorem dX1_takesStains_7 : decode cX1_takesStains 7 = .ok (.if_icmp .eq 17, 3) := by decide +kernel
theorem dX1_takesStains_10 : decode cX1_takesStains 10 = .ok (.aload_n 0, 1) := by decide +kernel
theorem dX1_takesStains_11 : decode cX1_takesStains 11 = .ok (.getfield 39, 3) := by decide +kernel
theorem dX1_takesStains_14 : decode cX1_takesStains 14 = .ok (.iload_n 1, 1) := by decide +kernel
theorem dX1_takesStains_15 : decode cX1_takesStains 15 = .ok (.iaload, 1) := by decide +kernel
theorem dX1_takesStains_16 : decode cX1_takesStains 16 = .ok (.iconst 2, 1) := by decide +kernel
theorem dX1_takesStains_17 : decode cX1_takesStains 17 = .ok (.if_icmp .eq 7, 3) := by decide +kernel
theorem dX1_takesStains_20 : decode cX1_takesStains 20 = .ok (.iconst 1, 1) := by decide +kernel
theorem dX1_takesStains_21 : decode cX1_takesStains 21 = .ok (.goto 4, 3) := by decide +kernel
theorem dX1_takesStains_24 : decode cX1_takesStains 24 = .ok (.iconst 0, 1) := by decide +kernel
theorem dX1_takesStains_25 : decode cX1_takesStains 25 = .ok (.ireturn, 1) := by decide +kernel
theorem dX1_holders_0 : decode cX1_holders 0 = .ok (.iconst 0, 1) := by decide +kernel
theorem dX1_holders_1 : decode cX1_holders 1 = .ok (.istore_n 3, 1) := by decide +kernel
theorem dX1_holders_2 : decode cX1_holders 2 = .ok (.iconst 0, 1) := by decide +kernel
theorem dX1_holders_3 : decode cX1_holders 3 = .ok (.istore 4, 2) := by decide +kernel
theorem dX1_holders_5 : decode cX1_holders 5 = .ok (.iload 4, 2) := by decide +kernel
theorem dX1_holders_7 : decode cX1_holders 7 = .ok (.aload_n 0, 1) := by decide +kernel
theorem dX1_holders_8 : decode cX1_holders 8 = .ok (.getfield 55, 3) := by decide +kernel
theorem dX1_holders_11 : decode cX1_holders 11 = .ok (.if_icmp .ge 53, 3) := by decide +kernel
theorem dX1_holders_14 : decode cX1_holders 14 = .ok (.aload_n 0, 1) := by decide +kernel
theorem dX1_holders_15 : decode cX1_holders 15 = .ok (.getfield 27, 3) := by decide +kernel
theorem dX1_holders_18 : decode cX1_holders 18 = .ok (.iload 4, 2) := by decide +kernel
theorem dX1_holders_20 : decode cX1_holders 20 = .ok (.iaload, 1) := by decide +kernel
theorem dX1_holders_21 : decode cX1_holders 21 = .ok (.iload_n 1, 1) := by decide +kernel
theorem dX1_holders_22 : decode cX1_holders 22 = .ok (.if_icmp .ne 36, 3) := by decide +kernel
theorem dX1_holders_25 : decode cX1_holders 25 = .ok (.iload_n 2, 1) := by decide +kernel
theorem dX1_holders_26 : decode cX1_holders 26 = .ok (.aload_n 0, 1) := by decide +kernel
theorem dX1_holders_27 : decode cX1_holders 27 = .ok (.getfield 30, 3) := by decide +kernel
theorem dX1_holders_30 : decode cX1_holders 30 = .ok (.iload 4, 2) := by decide +kernel
theorem dX1_holders_32 : decode cX1_holders 32 = .ok (.iaload, 1) := by decide +kernel
theorem dX1_holders_33 : decode cX1_holders 33 = .ok (.aload_n 0, 1) := by decide +kernel
theorem dX1_holders_34 : decode cX1_holders 34 = .ok (.getfield 33, 3) := by decide +kernel
theorem dX1_holders_37 : decode cX1_holders 37 = .ok (.iload 4, 2) := by decide +kernel
theorem dX1_holders_39 : decode cX1_holders 39 = .ok (.iaload, 1) := by decide +kernel
theorem dX1_holders_40 : decode cX1_holders 40 = .ok (.invokestatic 75, 3) := by decide +kernel
theorem dX1_holders_43 : decode cX1_holders 43 = .ok (.ifCond .eq 15, 3) := by decide +kernel
theorem dX1_holders_46 : decode cX1_holders 46 = .ok (.iload_n 3, 1) := by decide +kernel
theorem dX1_holders_47 : decode cX1_holders 47 = .ok (.iconst 1, 1) := by decide +kernel
theorem dX1_holders_48 : decode cX1_holders 48 = .ok (.aload_n 0, 1) := by decide +kernel
theorem dX1_holders_49 : decode cX1_holders 49 = .ok (.getfield 36, 3) := by decide +kernel
theorem dX1_holders_52 : decode cX1_holders 52 = .ok (.iload 4, 2) := by decide +kernel
theorem dX1_holders_54 : decode cX1_holders 54 = .ok (.iaload, 1) := by decide +kernel
theorem dX1_holders_55 : decode cX1_holders 55 = .ok (.ishl, 1) := by decide +kernel
theorem dX1_holders_56 : decode cX1_holders 56 = .ok (.ior, 1) := by decide +kernel
theorem dX1_holders_57 : decode cX1_holders 57 = .ok (.istore_n 3, 1) := by decide +kernel
theorem dX1_holders_58 : decode cX1_holders 58 = .ok (.iinc 4 1, 3) := by decide +kernel
theorem dX1_holders_61 : decode cX1_holders 61 = .ok (.goto (-56), 3) := by decide +kernel
theorem dX1_holders_64 : decode cX1_holders 64 = .ok (.iload_n 3, 1) := by decide +kernel
theorem dX1_holders_65 : decode cX1_holders 65 = .ok (.ireturn, 1) := by decide +kernel
theorem dX2_init_0 : decode cX2_init 0 = .ok (.aload_n 0, 1) := by decide +kernel
theorem dX2_init_1 : decode cX2_init 1 = .ok (.invokespecial 1, 3) := by decide +kernel
theorem dX2_init_4 : decode cX2_init 4 = .ok (.aload_n 0, 1) := by decide +kernel
theorem dX2_init_5 : decode cX2_init 5 = .ok (.iload_n 1, 1) := by decide +kernel
theorem dX2_init_6 : decode cX2_init 6 = .ok (.putfield 7, 3) := by decide +kernel
theorem dX2_init_9 : decode cX2_init 9 = .ok (.aload_n 0, 1) := by decide +kernel
theorem dX2_init_10 : decode cX2_init 10 = .ok (.iload_n 2, 1) := by decide +kernel
theorem dX2_init_11 : decode cX2_init 11 = .ok (.putfield 13, 3) := by decide +kernel
theorem dX2_init_14 : decode cX2_init 14 = .ok (.aload_n 0, 1) := by decide +kernel
theorem dX2_init_15 : decode cX2_init 15 = .ok (.iload_n 3, 1) := by decide +kernel
theorem dX2_init_16 : decode cX2_init 16 = .ok (.putfield 16, 3) := by decide +kernel
theorem dX2_init_19 : decode cX2_init 19 = .ok (.aload_n 0, 1) := by decide +kernel
theorem dX2_init_20 : decode cX2_init 20 = .ok (.aload 4, 2) := by decide +kernel
theorem dX2_init_22 : decode cX2_init 22 = .ok (.putfield 19, 3) := by decide +kernel
theorem dX2_init_25 : decode cX2_init 25 = .ok (.return_, 1) := by decide +kernel
theorem dX2_size_0 : decode cX2_size 0 = .ok (.aload_n 0, 1) := by decide +kernel
theorem dX2_size_1 : decode cX2_size 1 = .ok (.getfield 19, 3) := by decide +kernel
theorem dX2_size_4 : decode cX2_size 4 = .ok (.bipush 10, 2) := by decide +kernel
theorem dX2_size_6 : decode cX2_size 6 = .ok (.invokevirtual 23, 3) := by decide +kernel
theorem dX2_size_9 : decode cX2_size 9 = .ok (.aload_n 0, 1) := by decide +kernel
theorem dX2_size_10 : decode cX2_size 10 = .ok (.getfield 13, 3) := by decide +kernel
theorem dX2_size_13 : decode cX2_size 13 = .ok (.ireturn, 1) := by decide +kernel
theorem dX2_mark_0 : decode cX2_mark 0 = .ok (.aload_n 0, 1) := by decide +kernel
theorem dX2_mark_1 : decode cX2_mark 1 = .ok (.getfield 19, 3) := by decide +kernel
theorem dX2_mark_4 : decode cX2_mark 4 = .ok (.bipush 20, 2) := by decide +kernel
theorem dX2_mark_6 : decode cX2_mark 6 = .ok (.invokevirtual 23, 3) := by decide +kernel
theorem dX2_mark_9 : decode cX2_mark 9 = .ok (.aload_n 0, 1) := by decide +kernel
theorem dX2_mark_10 : decode cX2_mark 10 = .ok (.getfield 7, 3) := by decide +kernel
theorem dX2_mark_13 : decode cX2_mark 13 = .ok (.ireturn, 1) := by decide +kernel
theorem dX3_init_0 : decode cX3_init 0 = .ok (.aload_n 0, 1) := by decide +kernel
theorem dX3_init_1 : decode cX3_init 1 = .ok (.invokespecial 3, 3) := by decide +kernel
theorem dX3_init_4 : decode cX3_init 4 = .ok (.aload_n 0, 1) := by decide +kernel
theorem dX3_init_5 : decode cX3_init 5 = .ok (.sipush 500, 3) := by decide +kernel
theorem dX3_init_8 : decode cX3_init 8 = .ok (.newarray .byte, 2) := by decide +kernel
theorem dX3_init_10 : decode cX3_init 10 = .ok (.putfield 11, 3) := by decide +kernel
theorem dX3_init_13 : decode cX3_init 13 = .ok (.return_, 1) := by decide +kernel
theorem dX3_hasRoom_0 : decode cX3_hasRoom 0 = .ok (.iload_n 1, 1) := by decide +kernel
theorem dX3_hasRoom_1 : decode cX3_hasRoom 1 = .ok (.sipush 500, 3) := by decide +kernel
theorem dX3_hasRoom_4 : decode cX3_hasRoom 4 = .ok (.aload_n 0, 1) := by decide +kernel
theorem dX3_hasRoom_5 : decode cX3_hasRoom 5 = .ok (.getfield 15, 3) := by decide +kernel
theorem dX3_hasRoom_8 : decode cX3_hasRoom 8 = .ok (.isub, 1) := by decide +kernel
theorem dX3_hasRoom_9 : decode cX3_hasRoom 9 = .ok (.if_icmp .gt 7, 3) := by decide +kernel
theorem dX3_hasRoom_12 : decode cX3_hasRoom 12 = .ok (.iconst 1, 1) := by decide +kernel
theorem dX3_hasRoom_13 : decode cX3_hasRoom 13 = .ok (.goto 4, 3) := by decide +kernel
theorem dX3_hasRoom_16 : decode cX3_hasRoom 16 = .ok (.iconst 0, 1) := by decide +kernel
theorem dX3_hasRoom_17 : decode cX3_hasRoom 17 = .ok (.ireturn, 1) := by decide +kernel
theorem dX3_append_0 : decode cX3_append 0 = .ok (.iload_n 3, 1) := by decide +kernel
theorem dX3_append_1 : decode cX3_append 1 = .ok (.iconst 1, 1) := by decide +kernel
theorem dX3_append_2 : decode cX3_append 2 = .ok (.isub, 1) := by decide +kernel
theorem dX3_append_3 : decode cX3_append 3 = .ok (.istore 4, 2) := by decide +kernel
theorem dX3_append_5 : decode cX3_append 5 = .ok (.iload 4, 2) := by decide +kernel
theorem dX3_append_7 : decode cX3_append 7 = .ok (.ifCond .lt 47, 3) := by decide +kernel
theorem dX3_append_10 : decode cX3_append 10 = .ok (.aload_n 0, 1) := by decide +kernel
theorem dX3_append_11 : decode cX3_append 11 = .ok (.getfield 15, 3) := by decide +kernel
theorem dX3_append_14 : decode cX3_append 14 = .ok (.sipush 500, 3) := by decide +kernel
theorem dX3_append_17 : decode cX3_append 17 = .ok (.if_icmp .ge 37, 3) := by decide +kernel
theorem dX3_append_20 : decode cX3_append 20 = .ok (.aload_n 0, 1) := by decide +kernel
theorem dX3_append_21 : decode cX3_append 21 = .ok (.getfield 11, 3) := by decide +kernel
theorem dX3_append_24 : decode cX3_append 24 = .ok (.aload_n 0, 1) := by decide +kernel
theorem dX3_append_25 : decode cX3_append 25 = .ok (.getfield 15, 3) := by decide +kernel
theorem dX3_append_28 : decode cX3_append 28 = .ok (.lload_n 1, 1) := by decide +kernel
theorem dX3_append_29 : decode cX3_append 29 = .ok (.bipush 8, 2) := by decide +kernel
theorem dX3_append_31 : decode cX3_append 31 = .ok (.iload 4, 2) := by decide +kernel
theorem dX3_append_33 : decode cX3_append 33 = .ok (.imul, 1) := by decide +kernel
theorem dX3_append_34 : decode cX3_append 34 = .ok (.lshr, 1) := by decide +kernel
theorem dX3_append_35 : decode cX3_append 35 = .ok (.l2i, 1) := by decide +kernel
theorem dX3_append_36 : decode cX3_append 36 = .ok (.i2b, 1) := by decide +kernel
theorem dX3_append_37 : decode cX3_append 37 = .ok (.bastore, 1) := by decide +kernel
theorem dX3_append_38 : decode cX3_append 38 = .ok (.aload_n 0, 1) := by decide +kernel
theorem dX3_append_39 : decode cX3_append 39 = .ok (.dup, 1) := by decide +kernel
theorem dX3_append_40 : decode cX3_append 40 = .ok (.getfield 15, 3) := by decide +kernel
theorem dX3_append_43 : decode cX3_append 43 = .ok (.iconst 1, 1) := by decide +kernel
theorem dX3_append_44 : decode cX3_append 44 = .ok (.iadd, 1) := by decide +kernel
theorem dX3_append_45 : decode cX3_append 45 = .ok (.putfield 15, 3) := by decide +kernel
theorem dX3_append_48 : decode cX3_append 48 = .ok (.iinc 4 (-1), 3) := by decide +kernel
theorem dX3_append_51 : decode cX3_append 51 = .ok (.goto (-46), 3) := by decide +kernel
theorem dX3_append_54 : decode cX3_append 54 = .ok (.aload_n 0, 1) := by decide +kernel
theorem dX3_append_55 : decode cX3_append 55 = .ok (.getfield 15, 3) := by decide +kernel
theorem dX3_append_58 : decode cX3_append 58 = .ok (.ireturn, 1) := by decide +kernel
theorem dX3_readCourt_0 : decode cX3_readCourt 0 = .ok (.new 19, 3) := by decide +kernel
theorem dX3_readCourt_3 : decode cX3_readCourt 3 = .ok (.dup, 1) := by decide +kernel
theorem dX3_readCourt_4 : decode cX3_readCourt 4 = .ok (.invokespecial 21, 3) := by decide +kernel
theorem dX3_readCourt_7 : decode cX3_readCourt 7 = .ok (.astore_n 1, 1) := by decide +kernel
theorem dX3_readCourt_8 : decode cX3_readCourt 8 = .ok (.aload_n 0, 1) := by decide +kernel
theorem dX3_readCourt_9 : decode cX3_readCourt 9 = .ok (.iconst 0, 1) := by decide +kernel
theorem dX3_readCourt_10 : decode cX3_readCourt 10 = .ok (.putfield 22, 3) := by decide +kernel
theorem dX3_readCourt_13 : decode cX3_readCourt 13 = .ok (.aload_n 0, 1) := by decide +kernel
theorem dX3_readCourt_14 : decode cX3_readCourt 14 = .ok (.iconst 0, 1) := by decide +kernel
theorem dX3_readCourt_15 : decode cX3_readCourt 15 = .ok (.putfield 25, 3) := by decide +kernel
theorem dX3_readCourt_18 : decode cX3_readCourt 18 = .ok (.aload_n 0, 1) := by decide +kernel
theorem dX3_readCourt_19 : decode cX3_readCourt 19 = .ok (.iconst 0, 1) := by decide +kernel
theorem dX3_readCourt_20 : decode cX3_readCourt 20 = .ok (.putfield 28, 3) := by decide +kernel
theorem dX3_readCourt_23 : decode cX3_readCourt 23 = .ok (.aload_n 0, 1) := by decide +kernel
theorem dX3_readCourt_24 : decode cX3_readCourt 24 = .ok (.invokevirtual 31, 3) := by decide +kernel
theorem dX3_readCourt_27 : decode cX3_readCourt 27 = .ok (.aload_n 0, 1) := by decide +kernel
theorem dX3_readCourt_28 : decode cX3_readCourt 28 = .ok (.aload_n 1, 1) := by decide +kernel
theorem dX3_readCourt_29 : decode cX3_readCourt 29 = .ok (.invokevirtual 34, 3) := by decide +kernel
theorem dX3_readCourt_32 : decode cX3_readCourt 32 = .ok (.aload_n 0, 1) := by decide +kernel
theorem dX3_readCourt_33 : decode cX3_readCourt 33 = .ok (.aload_n 1, 1) := by decide +kernel
theorem dX3_readCourt_34 : decode cX3_readCourt 34 = .ok (.invokevirtual 38, 3) := by decide +kernel
theorem dX3_readCourt_37 : decode cX3_readCourt 37 = .ok (.aload_n 0, 1) := by decide +kernel
theorem dX3_readCourt_38 : decode cX3_readCourt 38 = .ok (.aload_n 1, 1) := by decide +kernel
theorem dX3_readCourt_39 : decode cX3_readCourt 39 = .ok (.invokevirtual 41, 3) := by decide +kernel
theorem dX3_readCourt_42 : decode cX3_readCourt 42 = .ok (.aload_n 0, 1) := by decide +kernel
theorem dX3_readCourt_43 : decode cX3_readCourt 43 = .ok (.aload_n 1, 1) := by decide +kernel
theorem dX3_readCourt_44 : decode cX3_readCourt 44 = .ok (.invokevirtual 44, 3) := by decide +kernel
theorem dX3_readCourt_47 : decode cX3_readCourt 47 = .ok (.aload_n 0, 1) := by decide +kernel
theorem dX3_readCourt_48 : decode cX3_readCourt 48 = .ok (.getfield 47, 3) := by decide +kernel
theorem dX3_readCourt_51 : decode cX3_readCourt 51 = .ok (.ifCond .eq 12, 3) := by decide +kernel
theorem dX3_readCourt_54 : decode cX3_readCourt 54 = .ok (.aload_n 0, 1) := by decide +kernel
theorem dX3_readCourt_55 : decode cX3_readCourt 55 = .ok (.aload_n 0, 1) := by decide +kernel
theorem dX3_readCourt_56 : decode cX3_readCourt 56 = .ok (.getfield 50, 3) := by decide +kernel
theorem dX3_readCourt_59 : decode cX3_readCourt 59 = .ok (.iconst 1, 1) := by decide +kernel
theorem dX3_readCourt_60 : decode cX3_readCourt 60 = .ok (.invokevirtual 53, 3) := by decide +kernel
theorem dX3_readCourt_63 : decode cX3_readCourt 63 = .ok (.aload_n 1, 1) := by decide +kernel
theorem dX3_readCourt_64 : decode cX3_readCourt 64 = .ok (.invokevirtual 57, 3) := by decide +kernel
theorem dX3_readCourt_67 : decode cX3_readCourt 67 = .ok (.aload_n 0, 1) := by decide +kernel
theorem dX3_readCourt_68 : decode cX3_readCourt 68 = .ok (.iconst 0, 1) := by decide +kernel
theorem dX3_readCourt_69 : decode cX3_readCourt 69 = .ok (.putfield 15, 3) := by decide +kernel
theorem dX3_readCourt_72 : decode cX3_readCourt 72 = .ok (.aload_n 1, 1) := by decide +kernel
theorem dX3_readCourt_73 : decode cX3_readCourt 73 = .ok (.areturn, 1) := by decide +kernel
theorem dX3_readDay_0 : decode cX3_readDay 0 = .ok (.aload_n 0, 1) := by decide +kernel
theorem dX3_readDay_1 : decode cX3_readDay 1 = .ok (.ldc 60, 2) := by decide +kernel
theorem dX3_readDay_3 : decode cX3_readDay 3 = .ok (.iconst 1, 1) := by decide +kernel
theorem dX3_readDay_4 : decode cX3_readDay 4 = .ok (.invokevirtual 62, 3) := by decide +kernel
theorem dX3_readDay_7 : decode cX3_readDay 7 = .ok (.iconst 0, 1) := by decide +kernel
theorem dX3_readDay_8 : decode cX3_readDay 8 = .ok (.istore_n 2, 1) := by decide +kernel
theorem dX3_readDay_9 : decode cX3_readDay 9 = .ok (.iload_n 2, 1) := by decide +kernel
theorem dX3_readDay_10 : decode cX3_readDay 10 = .ok (.bipush 24, 2) := by decide +kernel
theorem dX3_readDay_12 : decode cX3_readDay 12 = .ok (.if_icmp .ge 22, 3) := by decide +kernel
theorem dX3_readDay_15 : decode cX3_readDay 15 = .ok (.aload_n 1, 1) := by decide +kernel
theorem dX3_readDay_16 : decode cX3_readDay 16 = .ok (.getfield 66, 3) := by decide +kernel
theorem dX3_readDay_19 : decode cX3_readDay 19 = .ok (.iload_n 2, 1) := by decide +kernel
theorem dX3_readDay_20 : decode cX3_readDay 20 = .ok (.aload_n 0, 1) := by decide +kernel
theorem dX3_readDay_21 : decode cX3_readDay 21 = .ok (.iconst 0, 1) := by decide +kernel
theorem dX3_readDay_22 : decode cX3_readDay 22 = .ok (.bipush 99, 2) := by decide +kernel
theorem dX3_readDay_24 : decode cX3_readDay 24 = .ok (.invokevirtual 69, 3) := by decide +kernel
theorem dX3_readDay_27 : decode cX3_readDay 27 = .ok (.iastore, 1) := by decide +kernel
theorem dX3_readDay_28 : decode cX3_readDay 28 = .ok (.iinc 2 1, 3) := by decide +kernel
theorem dX3_readDay_31 : decode cX3_readDay 31 = .ok (.goto (-22), 3) := by decide +kernel
theorem dX3_readDay_34 : decode cX3_readDay 34 = .ok (.aload_n 0, 1) := by decide +kernel
theorem dX3_readDay_35 : decode cX3_readDay 35 = .ok (.invokevirtual 73, 3) := by decide +kernel
theorem dX3_readDay_38 : decode cX3_readDay 38 = .ok (.return_, 1) := by decide +kernel
theorem dX3_readLines_0 : decode cX3_readLines 0 = .ok (.aload_n 0, 1) := by decide +kernel
theorem dX3_readLines_1 : decode cX3_readLines 1 = .ok (.aload_n 1, 1) := by decide +kernel
theorem dX3_readLines_2 : decode cX3_readLines 2 = .ok (.invokevirtual 76, 3) := by decide +kernel
theorem dX3_readLines_5 : decode cX3_readLines 5 = .ok (.iconst 0, 1) := by decide +kernel
theorem dX3_readLines_6 : decode cX3_readLines 6 = .ok (.istore_n 2, 1) := by decide +kernel
theorem dX3_readLines_7 : decode cX3_readLines 7 = .ok (.iload_n 2, 1) := by decide +kernel
theorem dX3_readLines_8 : decode cX3_readLines 8 = .ok (.bipush 8, 2) := by decide +kernel
theorem dX3_readLines_10 : decode cX3_readLines 10 = .ok (.if_icmp .ge 23, 3) := by decide +kernel
theorem dX3_readLines_13 : decode cX3_readLines 13 = .ok (.aload_n 0, 1) := by decide +kernel
theorem dX3_readLines_14 : decode cX3_readLines 14 = .ok (.ldc 79, 2) := by decide +kernel
theorem dX3_readLines_16 : decode cX3_readLines 16 = .ok (.invokevirtual 81, 3) := by decide +kernel
theorem dX3_readLines_19 : decode cX3_readLines 19 = .ok (.ifCond .eq 14, 3) := by decide +kernel
theorem dX3_readLines_22 : decode cX3_readLines 22 = .ok (.aload_n 0, 1) := by decide +kernel
theorem dX3_readLines_23 : decode cX3_readLines 23 = .ok (.aload_n 1, 1) := by decide +kernel
theorem dX3_readLines_24 : decode cX3_readLines 24 = .ok (.invokevirtual 76, 3) := by decide +kernel
theorem dX3_readLines_27 : decode cX3_readLines 27 = .ok (.iinc 2 1, 3) := by decide +kernel
theorem dX3_readLines_30 : decode cX3_readLines 30 = .ok (.goto (-23), 3) := by decide +kernel
theorem dX3_readLines_33 : decode cX3_readLines 33 = .ok (.return_, 1) := by decide +kernel
theorem dX3_readLine_0 : decode cX3_readLine 0 = .ok (.aload_n 0, 1) := by decide +kernel
theorem dX3_readLine_1 : decode cX3_readLine 1 = .ok (.ldc 79, 2) := by decide +kernel
theorem dX3_readLine_3 : decode cX3_readLine 3 = .ok (.aload_n 1, 1) := by decide +kernel
theorem dX3_readLine_4 : decode cX3_readLine 4 = .ok (.getfield 85, 3) := by decide +kernel
theorem dX3_readLine_7 : decode cX3_readLine 7 = .ok (.bipush 8, 2) := by decide +kernel
theorem dX3_readLine_9 : decode cX3_readLine 9 = .ok (.if_icmp .ge 7, 3) := by decide +kernel
theorem dX3_readLine_12 : decode cX3_readLine 12 = .ok (.iconst 1, 1) := by decide +kernel
theorem dX3_readLine_13 : decode cX3_readLine 13 = .ok (.goto 4, 3) := by decide +kernel
theorem dX3_readLine_16 : decode cX3_readLine 16 = .ok (.iconst 0, 1) := by decide +kernel
theorem dX3_readLine_17 : decode cX3_readLine 17 = .ok (.invokevirtual 62, 3) := by decide +kernel
theorem dX3_readLine_20 : decode cX3_readLine 20 = .ok (.aload_n 0, 1) := by decide +kernel
theorem dX3_readLine_21 : decode cX3_readLine 21 = .ok (.iconst 0, 1) := by decide +kernel
theorem dX3_readLine_22 : decode cX3_readLine 22 = .ok (.bipush 9, 2) := by decide +kernel
theorem dX3_readLine_24 : decode cX3_readLine 24 = .ok (.invokevirtual 69, 3) := by decide +kernel
theorem dX3_readLine_27 : decode cX3_readLine 27 = .ok (.istore_n 2, 1) := by decide +kernel
theorem dX3_readLine_28 : decode cX3_readLine 28 = .ok (.aload_n 0, 1) := by decide +kernel
theorem dX3_readLine_29 : decode cX3_readLine 29 = .ok (.getfield 50, 3) := by decide +kernel
theorem dX3_readLine_32 : decode cX3_readLine 32 = .ok (.istore_n 3, 1) := by decide +kernel
theorem dX3_readLine_33 : decode cX3_readLine 33 = .ok (.aload_n 0, 1) := by decide +kernel
theorem dX3_readLine_34 : decode cX3_readLine 34 = .ok (.iconst 0, 1) := by decide +kernel
theorem dX3_readLine_35 : decode cX3_readLine 35 = .ok (.iconst 3, 1) := by decide +kernel
theorem dX3_readLine_36 : decode cX3_readLine 36 = .ok (.invokevirtual 69, 3) := by decide +kernel
theorem dX3_readLine_39 : decode cX3_readLine 39 = .ok (.istore 4, 2) := by decide +kernel
theorem dX3_readLine_41 : decode cX3_readLine 41 = .ok (.aload_n 1, 1) := by decide +kernel
theorem dX3_readLine_42 : decode cX3_readLine 42 = .ok (.iload_n 2, 1) := by decide +kernel
theorem dX3_readLine_43 : decode cX3_readLine 43 = .ok (.iload 4, 2) := by decide +kernel
theorem dX3_readLine_45 : decode cX3_readLine 45 = .ok (.invokevirtual 88, 3) := by decide +kernel
theorem dX3_readLine_48 : decode cX3_readLine 48 = .ok (.ifCond .eq 9, 3) := by decide +kernel
theorem dX3_readLine_51 : decode cX3_readLine 51 = .ok (.aload_n 0, 1) := by decide +kernel
theorem dX3_readLine_52 : decode cX3_readLine 52 = .ok (.iload_n 3, 1) := by decide +kernel
theorem dX3_readLine_53 : decode cX3_readLine 53 = .ok (.iconst 2, 1) := by decide +kernel
theorem dX3_readLine_54 : decode cX3_readLine 54 = .ok (.invokevirtual 53, 3) := by decide +kernel
theorem dX3_readLine_57 : decode cX3_readLine 57 = .ok (.aload_n 0, 1) := by decide +kernel
theorem dX3_readLine_58 : decode cX3_readLine 58 = .ok (.iconst 1, 1) := by decide +kernel
theorem dX3_readLine_59 : decode cX3_readLine 59 = .ok (.bipush 9, 2) := by decide +kernel
theorem dX3_readLine_61 : decode cX3_readLine 61 = .ok (.invokevirtual 69, 3) := by decide +kernel
theorem dX3_readLine_64 : decode cX3_readLine 64 = .ok (.istore 5, 2) := by decide +kernel
theorem dX3_readLine_66 : decode cX3_readLine 66 = .ok (.aload_n 0, 1) := by decide +kernel
theorem dX3_readLine_67 : decode cX3_readLine 67 = .ok (.invokevirtual 73, 3) := by decide +kernel
theorem dX3_readLine_70 : decode cX3_readLine 70 = .ok (.aload_n 0, 1) := by decide +kernel
theorem dX3_readLine_71 : decode cX3_readLine 71 = .ok (.getfield 22, 3) := by decide +kernel
theorem dX3_readLine_74 : decode cX3_readLine 74 = .ok (.ifCond .ne 12, 3) := by decide +kernel
theorem dX3_readLine_77 : decode cX3_readLine 77 = .ok (.aload_n 1, 1) := by decide +kernel
theorem dX3_readLine_78 : decode cX3_readLine 78 = .ok (.iload_n 2, 1) := by decide +kernel
theorem dX3_readLine_79 : decode cX3_readLine 79 = .ok (.iload 4, 2) := by decide +kernel
theorem dX3_readLine_81 : decode cX3_readLine 81 = .ok (.iload 5, 2) := by decide +kernel
theorem dX3_readLine_83 : decode cX3_readLine 83 = .ok (.invokevirtual 92, 3) := by decide +kernel
theorem dX3_readLine_86 : decode cX3_readLine 86 = .ok (.return_, 1) := by decide +kernel
theorem dX3_readRights_0 : decode cX3_readRights 0 = .ok (.iconst 0, 1) := by decide +kernel
theorem dX3_readRights_1 : decode cX3_readRights 1 = .ok (.istore_n 2, 1) := by decide +kernel
theorem dX3_readRights_2 : decode cX3_readRights 2 = .ok (.iload_n 2, 1) := by decide +kernel
theorem dX3_readRights_3 : decode cX3_readRights 3 = .ok (.bipush 8, 2) := by decide +kernel
theorem dX3_readRights_5 : decode cX3_readRights 5 = .ok (.if_icmp .gt 23, 3) := by decide +kernel
theorem dX3_readRights_8 : decode cX3_readRights 8 = .ok (.aload_n 0, 1) := by decide +kernel
theorem dX3_readRights_9 : decode cX3_readRights 9 = .ok (.ldc 96, 2) := by decide +kernel
theorem dX3_readRights_11 : decode cX3_readRights 11 = .ok (.invokevirtual 81, 3) := by decide +kernel
theorem dX3_readRights_14 : decode cX3_readRights 14 = .ok (.ifCond .eq 14, 3) := by decide +kernel
theorem dX3_readRights_17 : decode cX3_readRights 17 = .ok (.aload_n 0, 1) := by decide +kernel
theorem dX3_readRights_18 : decode cX3_readRights 18 = .ok (.aload_n 1, 1) := by decide +kernel
theorem dX3_readRights_19 : decode cX3_readRights 19 = .ok (.invokevirtual 98, 3) := by decide +kernel
theorem dX3_readRights_22 : decode cX3_readRights 22 = .ok (.iinc 2 1, 3) := by decide +kernel
theorem dX3_readRights_25 : decode cX3_readRights 25 = .ok (.goto (-23), 3) := by decide +kernel
theorem dX3_readRights_28 : decode cX3_readRights 28 = .ok (.return_, 1) := by decide +kernel
theorem dX3_readRight_0 : decode cX3_readRight 0 = .ok (.aload_n 0, 1) := by decide +kernel
theorem dX3_readRight_1 : decode cX3_readRight 1 = .ok (.ldc 96, 2) := by decide +kernel
theorem dX3_readRight_3 : decode cX3_readRight 3 = .ok (.aload_n 1, 1) := by decide +kernel
theorem dX3_readRight_4 : decode cX3_readRight 4 = .ok (.getfield 101, 3) := by decide +kernel
theorem dX3_readRight_7 : decode cX3_readRight 7 = .ok (.bipush 8, 2) := by decide +kernel
theorem dX3_readRight_9 : decode cX3_readRight 9 = .ok (.if_icmp .ge 7, 3) := by decide +kernel
theorem dX3_readRight_12 : decode cX3_readRight 12 = .ok (.iconst 1, 1) := by decide +kernel
theorem dX3_readRight_13 : decode cX3_readRight 13 = .ok (.goto 4, 3) := by decide +kernel
theorem dX3_readRight_16 : decode cX3_readRight 16 = .ok (.iconst 0, 1) := by decide +kernel
theorem dX3_readRight_17 : decode cX3_readRight 17 = .ok (.invokevirtual 62, 3) := by decide +kernel
theorem dX3_readRight_20 : decode cX3_readRight 20 = .ok (.aload_n 0, 1) := by decide +kernel
theorem dX3_readRight_21 : decode cX3_readRight 21 = .ok (.iconst 0, 1) := by decide +kernel
theorem dX3_readRight_22 : decode cX3_readRight 22 = .ok (.aload_n 1, 1) := by decide +kernel
theorem dX3_readRight_23 : decode cX3_readRight 23 = .ok (.getfield 85, 3) := by decide +kernel
theorem dX3_readRight_26 : decode cX3_readRight 26 = .ok (.iconst 1, 1) := by decide +kernel
theorem dX3_readRight_27 : decode cX3_readRight 27 = .ok (.isub, 1) := by decide +kernel
theorem dX3_readRight_28 : decode cX3_readRight 28 = .ok (.invokevirtual 69, 3) := by decide +kernel
theorem dX3_readRight_31 : decode cX3_readRight 31 = .ok (.istore_n 2, 1) := by decide +kernel
theorem dX3_readRight_32 : decode cX3_readRight 32 = .ok (.aload_n 0, 1) := by decide +kernel
theorem dX3_readRight_33 : decode cX3_readRight 33 = .ok (.iconst 0, 1) := by decide +kernel
theorem dX3_readRight_34 : decode cX3_readRight 34 = .ok (.bipush 23, 2) := by decide +kernel
theorem dX3_readRight_36 : decode cX3_readRight 36 = .ok (.invokevirtual 69, 3) := by decide +kernel
theorem dX3_readRight_39 : decode cX3_readRight 39 = .ok (.istore_n 3, 1) := by decide +kernel
theorem dX3_readRight_40 : decode cX3_readRight 40 = .ok (.aload_n 0, 1) := by decide +kernel
theorem dX3_readRight_41 : decode cX3_readRight 41 = .ok (.iload_n 3, 1) := by decide +kernel
theorem dX3_readRight_42 : decode cX3_readRight 42 = .ok (.bipush 23, 2) := by decide +kernel
theorem dX3_readRight_44 : decode cX3_readRight 44 = .ok (.invokevirtual 69, 3) := by decide +kernel
theorem dX3_readRight_47 : decode cX3_readRight 47 = .ok (.istore 4, 2) := by decide +kernel
theorem dX3_readRight_49 : decode cX3_readRight 49 = .ok (.aload_n 0, 1) := by decide +kernel
theorem dX3_readRight_50 : decode cX3_readRight 50 = .ok (.iconst 0, 1) := by decide +kernel
theorem dX3_readRight_51 : decode cX3_readRight 51 = .ok (.iconst 5, 1) := by decide +kernel
theorem dX3_readRight_52 : decode cX3_readRight 52 = .ok (.invokevirtual 69, 3) := by decide +kernel
theorem dX3_readRight_55 : decode cX3_readRight 55 = .ok (.istore 5, 2) := by decide +kernel
theorem dX3_readRight_57 : decode cX3_readRight 57 = .ok (.aload_n 0, 1) := by decide +kernel
theorem dX3_readRight_58 : decode cX3_readRight 58 = .ok (.invokevirtual 73, 3) := by decide +kernel
theorem dX3_readRight_61 : decode cX3_readRight 61 = .ok (.aload_n 0, 1) := by decide +kernel
theorem dX3_readRight_62 : decode cX3_readRight 62 = .ok (.getfield 22, 3) := by decide +kernel
theorem dX3_readRight_65 : decode cX3_readRight 65 = .ok (.ifCond .ne 13, 3) := by decide +kernel
theorem dX3_readRight_68 : decode cX3_readRight 68 = .ok (.aload_n 1, 1) := by decide +kernel
theorem dX3_readRight_69 : decode cX3_readRight 69 = .ok (.iload_n 2, 1) := by decide +kernel
theorem dX3_readRight_70 : decode cX3_readRight 70 = .ok (.iload_n 3, 1) := by decide +kernel
theorem dX3_readRight_71 : decode cX3_readRight 71 = .ok (.iload 4, 2) := by decide +kernel
theorem dX3_readRight_73 : decode cX3_readRight 73 = .ok (.iload 5, 2) := by decide +kernel
theorem dX3_readRight_75 : decode cX3_readRight 75 = .ok (.invokevirtual 104, 3) := by decide +kernel
theorem dX3_readRight_78 : decode cX3_readRight 78 = .ok (.return_, 1) := by decide +kernel
theorem dX3_readPieces_0 : decode cX3_readPieces 0 = .ok (.iconst 0, 1) := by decide +kernel
theorem dX3_readPieces_1 : decode cX3_readPieces 1 = .ok (.istore_n 2, 1) := by decide +kernel
theorem dX3_readPieces_2 : decode cX3_readPieces 2 = .ok (.iload_n 2, 1) := by decide +kernel
theorem dX3_readPieces_3 : decode cX3_readPieces 3 = .ok (.bipush 10, 2) := by decide +kernel
theorem dX3_readPieces_5 : decode cX3_readPieces 5 = .ok (.if_icmp .gt 23, 3) := by decide +kernel
theorem dX3_readPieces_8 : decode cX3_readPieces 8 = .ok (.aload_n 0, 1) := by decide +kernel
theorem dX3_readPieces_9 : decode cX3_readPieces 9 = .ok (.ldc 108, 2) := by decide +kernel
theorem dX3_readPieces_11 : decode cX3_readPieces 11 = .ok (.invokevirtual 81, 3) := by decide +kernel
theorem dX3_readPieces_14 : decode cX3_readPieces 14 = .ok (.ifCond .eq 14, 3) := by decide +kernel
theorem dX3_readPieces_17 : decode cX3_readPieces 17 = .ok (.aload_n 0, 1) := by decide +kernel
theorem dX3_readPieces_18 : decode cX3_readPieces 18 = .ok (.aload_n 1, 1) := by decide +kernel
theorem dX3_readPieces_19 : decode cX3_readPieces 19 = .ok (.invokevirtual 110, 3) := by decide +kernel
theorem dX3_readPieces_22 : decode cX3_readPieces 22 = .ok (.iinc 2 1, 3) := by decide +kernel
theorem dX3_readPieces_25 : decode cX3_readPieces 25 = .ok (.goto (-23), 3) := by decide +kernel
theorem dX3_readPieces_28 : decode cX3_readPieces 28 = .ok (.return_, 1) := by decide +kernel
theorem dX3_readPiece_0 : decode cX3_readPiece 0 = .ok (.aload_n 0, 1) := by decide +kernel
theorem dX3_readPiece_1 : decode cX3_readPiece 1 = .ok (.ldc 108, 2) := by decide +kernel
theorem dX3_readPiece_3 : decode cX3_readPiece 3 = .ok (.aload_n 1, 1) := by decide +kernel
theorem dX3_readPiece_4 : decode cX3_readPiece 4 = .ok (.getfield 113, 3) := by decide +kernel
theorem dX3_readPiece_7 : decode cX3_readPiece 7 = .ok (.bipush 10, 2) := by decide +kernel
theorem dX3_readPiece_9 : decode cX3_readPiece 9 = .ok (.if_icmp .ge 7, 3) := by decide +kernel
theorem dX3_readPiece_12 : decode cX3_readPiece 12 = .ok (.iconst 1, 1) := by decide +kernel
theorem dX3_readPiece_13 : decode cX3_readPiece 13 = .ok (.goto 4, 3) := by decide +kernel
theorem dX3_readPiece_16 : decode cX3_readPiece 16 = .ok (.iconst 0, 1) := by decide +kernel
theorem dX3_readPiece_17 : decode cX3_readPiece 17 = .ok (.invokevirtual 62, 3) := by decide +kernel
theorem dX3_readPiece_20 : decode cX3_readPiece 20 = .ok (.aload_n 0, 1) := by decide +kernel
theorem dX3_readPiece_21 : decode cX3_readPiece 21 = .ok (.invokevirtual 116, 3) := by decide +kernel
theorem dX3_readPiece_24 : decode cX3_readPiece 24 = .ok (.istore_n 2, 1) := by decide +kernel
theorem dX3_readPiece_25 : decode cX3_readPiece 25 = .ok (.aload_n 0, 1) := by decide +kernel
theorem dX3_readPiece_26 : decode cX3_readPiece 26 = .ok (.iconst 0, 1) := by decide +kernel
theorem dX3_readPiece_27 : decode cX3_readPiece 27 = .ok (.iconst 5, 1) := by decide +kernel
theorem dX3_readPiece_28 : decode cX3_readPiece 28 = .ok (.invokevirtual 69, 3) := by decide +kernel
theorem dX3_readPiece_31 : decode cX3_readPiece 31 = .ok (.istore_n 3, 1) := by decide +kernel
theorem dX3_readPiece_32 : decode cX3_readPiece 32 = .ok (.aload_n 0, 1) := by decide +kernel
theorem dX3_readPiece_33 : decode cX3_readPiece 33 = .ok (.iconst 0, 1) := by decide +kernel
theorem dX3_readPiece_34 : decode cX3_readPiece 34 = .ok (.bipush 99, 2) := by decide +kernel
theorem dX3_readPiece_36 : decode cX3_readPiece 36 = .ok (.invokevirtual 69, 3) := by decide +kernel
theorem dX3_readPiece_39 : decode cX3_readPiece 39 = .ok (.istore 4, 2) := by decide +kernel
theorem dX3_readPiece_41 : decode cX3_readPiece 41 = .ok (.aload_n 0, 1) := by decide +kernel
theorem dX3_readPiece_42 : decode cX3_readPiece 42 = .ok (.iconst 1, 1) := by decide +kernel
theorem dX3_readPiece_43 : decode cX3_readPiece 43 = .ok (.bipush 9, 2) := by decide +kernel
theorem dX3_readPiece_45 : decode cX3_readPiece 45 = .ok (.invokevirtual 69, 3) := by decide +kernel
theorem dX3_readPiece_48 : decode cX3_readPiece 48 = .ok (.istore 5, 2) := by decide +kernel
theorem dX3_readPiece_50 : decode cX3_readPiece 50 = .ok (.aload_n 0, 1) := by decide +kernel
theorem dX3_readPiece_51 : decode cX3_readPiece 51 = .ok (.invokevirtual 73, 3) := by decide +kernel
theorem dX3_readPiece_54 : decode cX3_readPiece 54 = .ok (.aload_n 0, 1) := by decide +kernel
theorem dX3_readPiece_55 : decode cX3_readPiece 55 = .ok (.getfield 22, 3) := by decide +kernel
theorem dX3_readPiece_58 : decode cX3_readPiece 58 = .ok (.ifCond .ne 13, 3) := by decide +kernel
theorem dX3_readPiece_61 : decode cX3_readPiece 61 = .ok (.aload_n 1, 1) := by decide +kernel
theorem dX3_readPiece_62 : decode cX3_readPiece 62 = .ok (.iload_n 2, 1) := by decide +kernel
theorem dX3_readPiece_63 : decode cX3_readPiece 63 = .ok (.iload_n 3, 1) := by decide +kernel
theorem dX3_readPiece_64 : decode cX3_readPiece 64 = .ok (.iload 4, 2) := by decide +kernel
theorem dX3_readPiece_66 : decode cX3_readPiece 66 = .ok (.iload 5, 2) := by decide +kernel
theorem dX3_readPiece_68 : decode cX3_readPiece 68 = .ok (.invokevirtual 122, 3) := by decide +kernel
theorem dX3_readPiece_71 : decode cX3_readPiece 71 = .ok (.return_, 1) := by decide +kernel
theorem dX3_readKind_0 : decode cX3_readKind 0 = .ok (.iconst 1, 1) := by decide +kernel
theorem dX3_readKind_1 : decode cX3_readKind 1 = .ok (.istore_n 1, 1) := by decide +kernel
theorem dX3_readKind_2 : decode cX3_readKind 2 = .ok (.iload_n 1, 1) := by decide +kernel
theorem dX3_readKind_3 : decode cX3_readKind 3 = .ok (.iconst 5, 1) := by decide +kernel
theorem dX3_readKind_4 : decode cX3_readKind 4 = .ok (.if_icmp .gt 26, 3) := by decide +kernel
theorem dX3_readKind_7 : decode cX3_readKind 7 = .ok (.aload_n 0, 1) := by decide +kernel
theorem dX3_readKind_8 : decode cX3_readKind 8 = .ok (.iload_n 1, 1) := by decide +kernel
theorem dX3_readKind_9 : decode cX3_readKind 9 = .ok (.invokestatic 125, 3) := by decide +kernel
theorem dX3_readKind_12 : decode cX3_readKind 12 = .ok (.invokevirtual 81, 3) := by decide +kernel
theorem dX3_readKind_15 : decode cX3_readKind 15 = .ok (.ifCond .eq 9, 3) := by decide +kernel
theorem dX3_readKind_18 : decode cX3_readKind 18 = .ok (.aload_n 0, 1) := by decide +kernel
theorem dX3_readKind_19 : decode cX3_readKind 19 = .ok (.invokevirtual 31, 3) := by decide +kernel
theorem dX3_readKind_22 : decode cX3_readKind 22 = .ok (.iload_n 1, 1) := by decide +kernel
theorem dX3_readKind_23 : decode cX3_readKind 23 = .ok (.ireturn, 1) := by decide +kernel
theorem dX3_readKind_24 : decode cX3_readKind 24 = .ok (.iinc 1 1, 3) := by decide +kernel
theorem dX3_readKind_27 : decode cX3_readKind 27 = .ok (.goto (-25), 3) := by decide +kernel
theorem dX3_readKind_30 : decode cX3_readKind 30 = .ok (.aload_n 0, 1) := by decide +kernel
theorem dX3_readKind_31 : decode cX3_readKind 31 = .ok (.aload_n 0, 1) := by decide +kernel
theorem dX3_readKind_32 : decode cX3_readKind 32 = .ok (.getfield 50, 3) := by decide +kernel
theorem dX3_readKind_35 : decode cX3_readKind 35 = .ok (.iconst 1, 1) := by decide +kernel
theorem dX3_readKind_36 : decode cX3_readKind 36 = .ok (.invokevirtual 53, 3) := by decide +kernel
theorem dX3_readKind_39 : decode cX3_readKind 39 = .ok (.iconst 0, 1) := by decide +kernel
theorem dX3_readKind_40 : decode cX3_readKind 40 = .ok (.ireturn, 1) := by decide +kernel
theorem dX3_sortOf_0 : decode cX3_sortOf 0 = .ok (.iload_n 0, 1) := by decide +kernel
theorem dX3_sortOf_1 : decode cX3_sortOf 1 = .ok (.tableswitch 43 1 4 #[31, 34, 37, 40], 31) := by decide +kernel
theorem dX3_sortOf_32 : decode cX3_sortOf 32 = .ok (.ldc 129, 2) := by decide +kernel
theorem dX3_sortOf_34 : decode cX3_sortOf 34 = .ok (.areturn, 1) := by decide +kernel
theorem dX3_sortOf_35 : decode cX3_sortOf 35 = .ok (.ldc 131, 2) := by decide +kernel
theorem dX3_sortOf_37 : decode cX3_sortOf 37 = .ok (.areturn, 1) := by decide +kernel
theorem dX3_sortOf_38 : decode cX3_sortOf 38 = .ok (.ldc 133, 2) := by decide +kernel
theorem dX3_sortOf_40 : decode cX3_sortOf 40 = .ok (.areturn, 1) := by decide +kernel
theorem dX3_sortOf_41 : decode cX3_sortOf 41 = .ok (.ldc 135, 2) := by decide +kernel
theorem dX3_sortOf_43 : decode cX3_sortOf 43 = .ok (.areturn, 1) := by decide +kernel
theorem dX3_sortOf_44 : decode cX3_sortOf 44 = .ok (.ldc 137, 2) := by decide +kernel
theorem dX3_sortOf_46 : decode cX3_sortOf 46 = .ok (.areturn, 1) := by decide +kernel
theorem dX3_readWord_0 : decode cX3_readWord 0 = .ok (.aload_n 0, 1) := by decide +kernel
theorem dX3_readWord_1 : decode cX3_readWord 1 = .ok (.aload_n 1, 1) := by decide +kernel
theorem dX3_readWord_2 : decode cX3_readWord 2 = .ok (.invokevirtual 81, 3) := by decide +kernel
theorem dX3_readWord_5 : decode cX3_readWord 5 = .ok (.ifCond .ne 15, 3) := by decide +kernel
theorem dX3_readWord_8 : decode cX3_readWord 8 = .ok (.aload_n 0, 1) := by decide +kernel
theorem dX3_readWord_9 : decode cX3_readWord 9 = .ok (.aload_n 0, 1) := by decide +kernel
theorem dX3_readWord_10 : decode cX3_readWord 10 = .ok (.getfield 50, 3) := by decide +kernel
theorem dX3_readWord_13 : decode cX3_readWord 13 = .ok (.iconst 1, 1) := by decide +kernel
theorem dX3_readWord_14 : decode cX3_readWord 14 = .ok (.invokevirtual 53, 3) := by decide +kernel
theorem dX3_readWord_17 : decode cX3_readWord 17 = .ok (.goto 16, 3) := by decide +kernel
theorem dX3_readWord_20 : decode cX3_readWord 20 = .ok (.iload_n 2, 1) := by decide +kernel
theorem dX3_readWord_21 : decode cX3_readWord 21 = .ok (.ifCond .ne 12, 3) := by decide +kernel
theorem dX3_readWord_24 : decode cX3_readWord 24 = .ok (.aload_n 0, 1) := by decide +kernel
theorem dX3_readWord_25 : decode cX3_readWord 25 = .ok (.aload_n 0, 1) := by decide +kernel
theorem dX3_readWord_26 : decode cX3_readWord 26 = .ok (.getfield 50, 3) := by decide +kernel
theorem dX3_readWord_29 : decode cX3_readWord 29 = .ok (.iconst 3, 1) := by decide +kernel
theorem dX3_readWord_30 : decode cX3_readWord 30 = .ok (.invokevirtual 53, 3) := by decide +kernel
theorem dX3_readWord_33 : decode cX3_readWord 33 = .ok (.aload_n 0, 1) := by decide +kernel
theorem dX3_readWord_34 : decode cX3_readWord 34 = .ok (.invokevirtual 31, 3) := by decide +kernel
theorem dX3_readWord_37 : decode cX3_readWord 37 = .ok (.return_, 1) := by decide +kernel
theorem dX3_readSign_0 : decode cX3_readSign 0 = .ok (.aload_n 0, 1) := by decide +kernel
theorem dX3_readSign_1 : decode cX3_readSign 1 = .ok (.getfield 47, 3) := by decide +kernel
theorem dX3_readSign_4 : decode cX3_readSign 4 = .ok (.iconst 3, 1) := by decide +kernel
theorem dX3_readSign_5 : decode cX3_readSign 5 = .ok (.if_icmp .eq 12, 3) := by decide +kernel
theorem dX3_readSign_8 : decode cX3_readSign 8 = .ok (.aload_n 0, 1) := by decide +kernel
theorem dX3_readSign_9 : decode cX3_readSign 9 = .ok (.aload_n 0, 1) := by decide +kernel
theorem dX3_readSign_10 : decode cX3_readSign 10 = .ok (.getfield 50, 3) := by decide +kernel
theorem dX3_readSign_13 : decode cX3_readSign 13 = .ok (.iconst 1, 1) := by decide +kernel
theorem dX3_readSign_14 : decode cX3_readSign 14 = .ok (.invokevirtual 53, 3) := by decide +kernel
theorem dX3_readSign_17 : decode cX3_readSign 17 = .ok (.aload_n 0, 1) := by decide +kernel
theorem dX3_readSign_18 : decode cX3_readSign 18 = .ok (.invokevirtual 31, 3) := by decide +kernel
theorem dX3_readSign_21 : decode cX3_readSign 21 = .ok (.return_, 1) := by decide +kernel
theorem dX3_readNumber_0 : decode cX3_readNumber 0 = .ok (.aload_n 0, 1) := by decide +kernel
theorem dX3_readNumber_1 : decode cX3_readNumber 1 = .ok (.getfield 47, 3) := by decide +kernel
theorem dX3_readNumber_4 : decode cX3_readNumber 4 = .ok (.iconst 2, 1) := by decide +kernel
theorem dX3_readNumber_5 : decode cX3_readNumber 5 = .ok (.if_icmp .ne 10, 3) := by decide +kernel
theorem dX3_readNumber_8 : decode cX3_readNumber 8 = .ok (.aload_n 0, 1) := by decide +kernel
theorem dX3_readNumber_9 : decode cX3_readNumber 9 = .ok (.invokevirtual 139, 3) := by decide +kernel
theorem dX3_readNumber_12 : decode cX3_readNumber 12 = .ok (.goto 4, 3) := by decide +kernel
theorem dX3_readNumber_15 : decode cX3_readNumber 15 = .ok (.iconst 0, 1) := by decide +kernel
theorem dX3_readNumber_16 : decode cX3_readNumber 16 = .ok (.istore_n 3, 1) := by decide +kernel
theorem dX3_readNumber_17 : decode cX3_readNumber 17 = .ok (.aload_n 0, 1) := by decide +kernel
theorem dX3_readNumber_18 : decode cX3_readNumber 18 = .ok (.getfield 47, 3) := by decide +kernel
theorem dX3_readNumber_21 : decode cX3_readNumber 21 = .ok (.iconst 2, 1) := by decide +kernel
theorem dX3_readNumber_22 : decode cX3_readNumber 22 = .ok (.if_icmp .eq 15, 3) := by decide +kernel
theorem dX3_readNumber_25 : decode cX3_readNumber 25 = .ok (.aload_n 0, 1) := by decide +kernel
theorem dX3_readNumber_26 : decode cX3_readNumber 26 = .ok (.aload_n 0, 1) := by decide +kernel
theorem dX3_readNumber_27 : decode cX3_readNumber 27 = .ok (.getfield 50, 3) := by decide +kernel
theorem dX3_readNumber_30 : decode cX3_readNumber 30 = .ok (.iconst 1, 1) := by decide +kernel
theorem dX3_readNumber_31 : decode cX3_readNumber 31 = .ok (.invokevirtual 53, 3) := by decide +kernel
theorem dX3_readNumber_34 : decode cX3_readNumber 34 = .ok (.goto 21, 3) := by decide +kernel
theorem dX3_readNumber_37 : decode cX3_readNumber 37 = .ok (.iload_n 3, 1) := by decide +kernel
theorem dX3_readNumber_38 : decode cX3_readNumber 38 = .ok (.iload_n 1, 1) := by decide +kernel
theorem dX3_readNumber_39 : decode cX3_readNumber 39 = .ok (.iload_n 2, 1) := by decide +kernel
theorem dX3_readNumber_40 : decode cX3_readNumber 40 = .ok (.invokestatic 142, 3) := by decide +kernel
theorem dX3_readNumber_43 : decode cX3_readNumber 43 = .ok (.ifCond .ne 12, 3) := by decide +kernel
theorem dX3_readNumber_46 : decode cX3_readNumber 46 = .ok (.aload_n 0, 1) := by decide +kernel
theorem dX3_readNumber_47 : decode cX3_readNumber 47 = .ok (.aload_n 0, 1) := by decide +kernel
theorem dX3_readNumber_48 : decode cX3_readNumber 48 = .ok (.getfield 50, 3) := by decide +kernel
theorem dX3_readNumber_51 : decode cX3_readNumber 51 = .ok (.iconst 2, 1) := by decide +kernel
theorem dX3_readNumber_52 : decode cX3_readNumber 52 = .ok (.invokevirtual 53, 3) := by decide +kernel
theorem dX3_readNumber_55 : decode cX3_readNumber 55 = .ok (.aload_n 0, 1) := by decide +kernel
theorem dX3_readNumber_56 : decode cX3_readNumber 56 = .ok (.invokevirtual 31, 3) := by decide +kernel
theorem dX3_readNumber_59 : decode cX3_readNumber 59 = .ok (.iload_n 3, 1) := by decide +kernel
theorem dX3_readNumber_60 : decode cX3_readNumber 60 = .ok (.ireturn, 1) := by decide +kernel
theorem dX3_numberOfToken_0 : decode cX3_numberOfToken 0 = .ok (.iconst 0, 1) := by decide +kernel
theorem dX3_numberOfToken_1 : decode cX3_numberOfToken 1 = .ok (.istore_n 1, 1) := by decide +kernel
theorem dX3_numberOfToken_2 : decode cX3_numberOfToken 2 = .ok (.aload_n 0, 1) := by decide +kernel
theorem dX3_numberOfToken_3 : decode cX3_numberOfToken 3 = .ok (.getfield 50, 3) := by decide +kernel
theorem dX3_numberOfToken_6 : decode cX3_numberOfToken 6 = .ok (.istore_n 2, 1) := by decide +kernel
theorem dX3_numberOfToken_7 : decode cX3_numberOfToken 7 = .ok (.iload_n 2, 1) := by decide +kernel
theorem dX3_numberOfToken_8 : decode cX3_numberOfToken 8 = .ok (.aload_n 0, 1) := by decide +kernel
theorem dX3_numberOfToken_9 : decode cX3_numberOfToken 9 = .ok (.getfield 28, 3) := by decide +kernel
theorem dX3_numberOfToken_12 : decode cX3_numberOfToken 12 = .ok (.if_icmp .ge 24, 3) := by decide +kernel
theorem dX3_numberOfToken_15 : decode cX3_numberOfToken 15 = .ok (.iload_n 1, 1) := by decide +kernel
theorem dX3_numberOfToken_16 : decode cX3_numberOfToken 16 = .ok (.bipush 10, 2) := by decide +kernel
theorem dX3_numberOfToken_18 : decode cX3_numberOfToken 18 = .ok (.imul, 1) := by decide +kernel
theorem dX3_numberOfToken_19 : decode cX3_numberOfToken 19 = .ok (.aload_n 0, 1) := by decide +kernel
theorem dX3_numberOfToken_20 : decode cX3_numberOfToken 20 = .ok (.getfield 11, 3) := by decide +kernel
theorem dX3_numberOfToken_23 : decode cX3_numberOfToken 23 = .ok (.iload_n 2, 1) := by decide +kernel
theorem dX3_numberOfToken_24 : decode cX3_numberOfToken 24 = .ok (.baload, 1) := by decide +kernel
theorem dX3_numberOfToken_25 : decode cX3_numberOfToken 25 = .ok (.iadd, 1) := by decide +kernel
theorem dX3_numberOfToken_26 : decode cX3_numberOfToken 26 = .ok (.bipush 48, 2) := by decide +kernel
theorem dX3_numberOfToken_28 : decode cX3_numberOfToken 28 = .ok (.isub, 1) := by decide +kernel
theorem dX3_numberOfToken_29 : decode cX3_numberOfToken 29 = .ok (.istore_n 1, 1) := by decide +kernel
theorem dX3_numberOfToken_30 : decode cX3_numberOfToken 30 = .ok (.iinc 2 1, 3) := by decide +kernel
theorem dX3_numberOfToken_33 : decode cX3_numberOfToken 33 = .ok (.goto (-26), 3) := by decide +kernel
theorem dX3_numberOfToken_36 : decode cX3_numberOfToken 36 = .ok (.iload_n 1, 1) := by decide +kernel
theorem dX3_numberOfToken_37 : decode cX3_numberOfToken 37 = .ok (.ireturn, 1) := by decide +kernel
theorem dX3_failAt_0 : decode cX3_failAt 0 = .ok (.aload_n 0, 1) := by decide +kernel
theorem dX3_failAt_1 : decode cX3_failAt 1 = .ok (.getfield 22, 3) := by decide +kernel
theorem dX3_failAt_4 : decode cX3_failAt 4 = .ok (.ifCond .ne 13, 3) := by decide +kernel
theorem dX3_failAt_7 : decode cX3_failAt 7 = .ok (.aload_n 0, 1) := by decide +kernel
theorem dX3_failAt_8 : decode cX3_failAt 8 = .ok (.iload_n 2, 1) := by decide +kernel
theorem dX3_failAt_9 : decode cX3_failAt 9 = .ok (.putfield 22, 3) := by decide +kernel
theorem dX3_failAt_12 : decode cX3_failAt 12 = .ok (.aload_n 0, 1) := by decide +kernel
theorem dX3_failAt_13 : decode cX3_failAt 13 = .ok (.iload_n 1, 1) := by decide +kernel
theorem dX3_failAt_14 : decode cX3_failAt 14 = .ok (.putfield 25, 3) := by decide +kernel
theorem dX3_failAt_17 : decode cX3_failAt 17 = .ok (.return_, 1) := by decide +kernel
theorem dX3_isNext_0 : decode cX3_isNext 0 = .ok (.aload_n 0, 1) := by decide +kernel
theorem dX3_isNext_1 : decode cX3_isNext 1 = .ok (.getfield 22, 3) := by decide +kernel
theorem dX3_isNext_4 : decode cX3_isNext 4 = .ok (.ifCond .ne 27, 3) := by decide +kernel
theorem dX3_isNext_7 : decode cX3_isNext 7 = .ok (.aload_n 0, 1) := by decide +kernel
theorem dX3_isNext_8 : decode cX3_isNext 8 = .ok (.getfield 47, 3) := by decide +kernel
theorem dX3_isNext_11 : decode cX3_isNext 11 = .ok (.iconst 1, 1) := by decide +kernel
theorem dX3_isNext_12 : decode cX3_isNext 12 = .ok (.if_icmp .ne 19, 3) := by decide +kernel
theorem dX3_isNext_15 : decode cX3_isNext 15 = .ok (.aload_n 0, 1) := by decide +kernel
theorem dX3_isNext_16 : decode cX3_isNext 16 = .ok (.getfield 28, 3) := by decide +kernel
theorem dX3_isNext_19 : decode cX3_isNext 19 = .ok (.aload_n 0, 1) := by decide +kernel
theorem dX3_isNext_20 : decode cX3_isNext 20 = .ok (.getfield 50, 3) := by decide +kernel
theorem dX3_isNext_23 : decode cX3_isNext 23 = .ok (.isub, 1) := by decide +kernel
theorem dX3_isNext_24 : decode cX3_isNext 24 = .ok (.aload_n 1, 1) := by decide +kernel
theorem dX3_isNext_25 : decode cX3_isNext 25 = .ok (.invokevirtual 146, 3) := by decide +kernel
theorem dX3_isNext_28 : decode cX3_isNext 28 = .ok (.if_icmp .eq 5, 3) := by decide +kernel
theorem dX3_isNext_31 : decode cX3_isNext 31 = .ok (.iconst 0, 1) := by decide +kernel
theorem dX3_isNext_32 : decode cX3_isNext 32 = .ok (.ireturn, 1) := by decide +kernel
theorem dX3_isNext_33 : decode cX3_isNext 33 = .ok (.iconst 0, 1) := by decide +kernel
theorem dX3_isNext_34 : decode cX3_isNext 34 = .ok (.istore_n 2, 1) := by decide +kernel
theorem dX3_isNext_35 : decode cX3_isNext 35 = .ok (.iload_n 2, 1) := by decide +kernel
theorem dX3_isNext_36 : decode cX3_isNext 36 = .ok (.aload_n 1, 1) := by decide +kernel
theorem dX3_isNext_37 : decode cX3_isNext 37 = .ok (.invokevirtual 146, 3) := by decide +kernel
theorem dX3_isNext_40 : decode cX3_isNext 40 = .ok (.if_icmp .ge 30, 3) := by decide +kernel
theorem dX3_isNext_43 : decode cX3_isNext 43 = .ok (.aload_n 0, 1) := by decide +kernel
theorem dX3_isNext_44 : decode cX3_isNext 44 = .ok (.getfield 11, 3) := by decide +kernel
theorem dX3_isNext_47 : decode cX3_isNext 47 = .ok (.aload_n 0, 1) := by decide +kernel
theorem dX3_isNext_48 : decode cX3_isNext 48 = .ok (.getfield 50, 3) := by decide +kernel
theorem dX3_isNext_51 : decode cX3_isNext 51 = .ok (.iload_n 2, 1) := by decide +kernel
theorem dX3_isNext_52 : decode cX3_isNext 52 = .ok (.iadd, 1) := by decide +kernel
theorem dX3_isNext_53 : decode cX3_isNext 53 = .ok (.baload, 1) := by decide +kernel
theorem dX3_isNext_54 : decode cX3_isNext 54 = .ok (.aload_n 1, 1) := by decide +kernel
theorem dX3_isNext_55 : decode cX3_isNext 55 = .ok (.iload_n 2, 1) := by decide +kernel
theorem dX3_isNext_56 : decode cX3_isNext 56 = .ok (.invokevirtual 150, 3) := by decide +kernel
theorem dX3_isNext_59 : decode cX3_isNext 59 = .ok (.if_icmp .eq 5, 3) := by decide +kernel
theorem dX3_isNext_62 : decode cX3_isNext 62 = .ok (.iconst 0, 1) := by decide +kernel
theorem dX3_isNext_63 : decode cX3_isNext 63 = .ok (.ireturn, 1) := by decide +kernel
theorem dX3_isNext_64 : decode cX3_isNext 64 = .ok (.iinc 2 1, 3) := by decide +kernel
theorem dX3_isNext_67 : decode cX3_isNext 67 = .ok (.goto (-32), 3) := by decide +kernel
theorem dX3_isNext_70 : decode cX3_isNext 70 = .ok (.iconst 1, 1) := by decide +kernel
theorem dX3_isNext_71 : decode cX3_isNext 71 = .ok (.ireturn, 1) := by decide +kernel
theorem dX3_nextToken_0 : decode cX3_nextToken 0 = .ok (.aload_n 0, 1) := by decide +kernel
theorem dX3_nextToken_1 : decode cX3_nextToken 1 = .ok (.getfield 22, 3) := by decide +kernel
theorem dX3_nextToken_4 : decode cX3_nextToken 4 = .ok (.ifCond .eq 4, 3) := by decide +kernel
theorem dX3_nextToken_7 : decode cX3_nextToken 7 = .ok (.return_, 1) := by decide +kernel
theorem dX3_nextToken_8 : decode cX3_nextToken 8 = .ok (.aload_n 0, 1) := by decide +kernel
theorem dX3_nextToken_9 : decode cX3_nextToken 9 = .ok (.getfield 28, 3) := by decide +kernel
theorem dX3_nextToken_12 : decode cX3_nextToken 12 = .ok (.istore_n 1, 1) := by decide +kernel
theorem dX3_nextToken_13 : decode cX3_nextToken 13 = .ok (.iload_n 1, 1) := by decide +kernel
theorem dX3_nextToken_14 : decode cX3_nextToken 14 = .ok (.aload_n 0, 1) := by decide +kernel
theorem dX3_nextToken_15 : decode cX3_nextToken 15 = .ok (.getfield 15, 3) := by decide +kernel
theorem dX3_nextToken_18 : decode cX3_nextToken 18 = .ok (.if_icmp .ge 18, 3) := by decide +kernel
theorem dX3_nextToken_21 : decode cX3_nextToken 21 = .ok (.aload_n 0, 1) := by decide +kernel
theorem dX3_nextToken_22 : decode cX3_nextToken 22 = .ok (.iload_n 1, 1) := by decide +kernel
theorem dX3_nextToken_23 : decode cX3_nextToken 23 = .ok (.invokevirtual 154, 3) := by decide +kernel
theorem dX3_nextToken_26 : decode cX3_nextToken 26 = .ok (.iconst 5, 1) := by decide +kernel
theorem dX3_nextToken_27 : decode cX3_nextToken 27 = .ok (.if_icmp .ne 9, 3) := by decide +kernel
theorem dX3_nextToken_30 : decode cX3_nextToken 30 = .ok (.iinc 1 1, 3) := by decide +kernel
theorem dX3_nextToken_33 : decode cX3_nextToken 33 = .ok (.goto (-20), 3) := by decide +kernel
theorem dX3_nextToken_36 : decode cX3_nextToken 36 = .ok (.aload_n 0, 1) := by decide +kernel
theorem dX3_nextToken_37 : decode cX3_nextToken 37 = .ok (.iload_n 1, 1) := by decide +kernel
theorem dX3_nextToken_38 : decode cX3_nextToken 38 = .ok (.putfield 50, 3) := by decide +kernel
theorem dX3_nextToken_41 : decode cX3_nextToken 41 = .ok (.aload_n 0, 1) := by decide +kernel
theorem dX3_nextToken_42 : decode cX3_nextToken 42 = .ok (.iload_n 1, 1) := by decide +kernel
theorem dX3_nextToken_43 : decode cX3_nextToken 43 = .ok (.aload_n 0, 1) := by decide +kernel
theorem dX3_nextToken_44 : decode cX3_nextToken 44 = .ok (.getfield 15, 3) := by decide +kernel
theorem dX3_nextToken_47 : decode cX3_nextToken 47 = .ok (.if_icmp .ge 11, 3) := by decide +kernel
theorem dX3_nextToken_50 : decode cX3_nextToken 50 = .ok (.aload_n 0, 1) := by decide +kernel
theorem dX3_nextToken_51 : decode cX3_nextToken 51 = .ok (.iload_n 1, 1) := by decide +kernel
theorem dX3_nextToken_52 : decode cX3_nextToken 52 = .ok (.invokevirtual 154, 3) := by decide +kernel
theorem dX3_nextToken_55 : decode cX3_nextToken 55 = .ok (.goto 4, 3) := by decide +kernel
theorem dX3_nextToken_58 : decode cX3_nextToken 58 = .ok (.iconst 0, 1) := by decide +kernel
theorem dX3_nextToken_59 : decode cX3_nextToken 59 = .ok (.putfield 47, 3) := by decide +kernel
theorem dX3_nextToken_62 : decode cX3_nextToken 62 = .ok (.aload_n 0, 1) := by decide +kernel
theorem dX3_nextToken_63 : decode cX3_nextToken 63 = .ok (.iload_n 1, 1) := by decide +kernel
theorem dX3_nextToken_64 : decode cX3_nextToken 64 = .ok (.iconst 1, 1) := by decide +kernel
theorem dX3_nextToken_65 : decode cX3_nextToken 65 = .ok (.iadd, 1) := by decide +kernel
theorem dX3_nextToken_66 : decode cX3_nextToken 66 = .ok (.aload_n 0, 1) := by decide +kernel
theorem dX3_nextToken_67 : decode cX3_nextToken 67 = .ok (.getfield 15, 3) := by decide +kernel
theorem dX3_nextToken_70 : decode cX3_nextToken 70 = .ok (.invokestatic 158, 3) := by decide +kernel
theorem dX3_nextToken_73 : decode cX3_nextToken 73 = .ok (.putfield 28, 3) := by decide +kernel
theorem dX3_nextToken_76 : decode cX3_nextToken 76 = .ok (.aload_n 0, 1) := by decide +kernel
theorem dX3_nextToken_77 : decode cX3_nextToken 77 = .ok (.getfield 47, 3) := by decide +kernel
theorem dX3_nextToken_80 : decode cX3_nextToken 80 = .ok (.iconst 1, 1) := by decide +kernel
theorem dX3_nextToken_81 : decode cX3_nextToken 81 = .ok (.if_icmp .eq 11, 3) := by decide +kernel
theorem dX3_nextToken_84 : decode cX3_nextToken 84 = .ok (.aload_n 0, 1) := by decide +kernel
theorem dX3_nextToken_85 : decode cX3_nextToken 85 = .ok (.getfield 47, 3) := by decide +kernel
theorem dX3_nextToken_88 : decode cX3_nextToken 88 = .ok (.iconst 2, 1) := by decide +kernel
theorem dX3_nextToken_89 : decode cX3_nextToken 89 = .ok (.if_icmp .ne 42, 3) := by decide +kernel
theorem dX3_nextToken_92 : decode cX3_nextToken 92 = .ok (.aload_n 0, 1) := by decide +kernel
theorem dX3_nextToken_93 : decode cX3_nextToken 93 = .ok (.getfield 28, 3) := by decide +kernel
theorem dX3_nextToken_96 : decode cX3_nextToken 96 = .ok (.aload_n 0, 1) := by decide +kernel
theorem dX3_nextToken_97 : decode cX3_nextToken 97 = .ok (.getfield 15, 3) := by decide +kernel
theorem dX3_nextToken_100 : decode cX3_nextToken 100 = .ok (.if_icmp .ge 31, 3) := by decide +kernel
theorem dX3_nextToken_103 : decode cX3_nextToken 103 = .ok (.aload_n 0, 1) := by decide +kernel
theorem dX3_nextToken_104 : decode cX3_nextToken 104 = .ok (.aload_n 0, 1) := by decide +kernel
theorem dX3_nextToken_105 : decode cX3_nextToken 105 = .ok (.getfield 28, 3) := by decide +kernel
theorem dX3_nextToken_108 : decode cX3_nextToken 108 = .ok (.invokevirtual 154, 3) := by decide +kernel
theorem dX3_nextToken_111 : decode cX3_nextToken 111 = .ok (.aload_n 0, 1) := by decide +kernel
theorem dX3_nextToken_112 : decode cX3_nextToken 112 = .ok (.getfield 47, 3) := by decide +kernel
theorem dX3_nextToken_115 : decode cX3_nextToken 115 = .ok (.if_icmp .ne 16, 3) := by decide +kernel
theorem dX3_nextToken_118 : decode cX3_nextToken 118 = .ok (.aload_n 0, 1) := by decide +kernel
theorem dX3_nextToken_119 : decode cX3_nextToken 119 = .ok (.dup, 1) := by decide +kernel
theorem dX3_nextToken_120 : decode cX3_nextToken 120 = .ok (.getfield 28, 3) := by decide +kernel
theorem dX3_nextToken_123 : decode cX3_nextToken 123 = .ok (.iconst 1, 1) := by decide +kernel
theorem dX3_nextToken_124 : decode cX3_nextToken 124 = .ok (.iadd, 1) := by decide +kernel
theorem dX3_nextToken_125 : decode cX3_nextToken 125 = .ok (.putfield 28, 3) := by decide +kernel
theorem dX3_nextToken_128 : decode cX3_nextToken 128 = .ok (.goto (-36), 3) := by decide +kernel
theorem dX3_nextToken_131 : decode cX3_nextToken 131 = .ok (.aload_n 0, 1) := by decide +kernel
theorem dX3_nextToken_132 : decode cX3_nextToken 132 = .ok (.getfield 47, 3) := by decide +kernel
theorem dX3_nextToken_135 : decode cX3_nextToken 135 = .ok (.iconst 2, 1) := by decide +kernel
theorem dX3_nextToken_136 : decode cX3_nextToken 136 = .ok (.if_icmp .ne 21, 3) := by decide +kernel
theorem dX3_nextToken_139 : decode cX3_nextToken 139 = .ok (.aload_n 0, 1) := by decide +kernel
theorem dX3_nextToken_140 : decode cX3_nextToken 140 = .ok (.getfield 28, 3) := by decide +kernel
theorem dX3_nextToken_143 : decode cX3_nextToken 143 = .ok (.aload_n 0, 1) := by decide +kernel
theorem dX3_nextToken_144 : decode cX3_nextToken 144 = .ok (.getfield 50, 3) := by decide +kernel
theorem dX3_nextToken_147 : decode cX3_nextToken 147 = .ok (.isub, 1) := by decide +kernel
theorem dX3_nextToken_148 : decode cX3_nextToken 148 = .ok (.iconst 3, 1) := by decide +kernel
theorem dX3_nextToken_149 : decode cX3_nextToken 149 = .ok (.if_icmp .le 8, 3) := by decide +kernel
theorem dX3_nextToken_152 : decode cX3_nextToken 152 = .ok (.aload_n 0, 1) := by decide +kernel
theorem dX3_nextToken_153 : decode cX3_nextToken 153 = .ok (.iconst 4, 1) := by decide +kernel
theorem dX3_nextToken_154 : decode cX3_nextToken 154 = .ok (.putfield 47, 3) := by decide +kernel
theorem dX3_nextToken_157 : decode cX3_nextToken 157 = .ok (.return_, 1) := by decide +kernel
theorem dX3_sortAt_0 : decode cX3_sortAt 0 = .ok (.aload_n 0, 1) := by decide +kernel
theorem dX3_sortAt_1 : decode cX3_sortAt 1 = .ok (.getfield 11, 3) := by decide +kernel
theorem dX3_sortAt_4 : decode cX3_sortAt 4 = .ok (.iload_n 1, 1) := by decide +kernel
theorem dX3_sortAt_5 : decode cX3_sortAt 5 = .ok (.baload, 1) := by decide +kernel
theorem dX3_sortAt_6 : decode cX3_sortAt 6 = .ok (.istore_n 2, 1) := by decide +kernel
theorem dX3_sortAt_7 : decode cX3_sortAt 7 = .ok (.iload_n 2, 1) := by decide +kernel
theorem dX3_sortAt_8 : decode cX3_sortAt 8 = .ok (.bipush 32, 2) := by decide +kernel
theorem dX3_sortAt_10 : decode cX3_sortAt 10 = .ok (.if_icmp .eq 9, 3) := by decide +kernel
theorem dX3_sortAt_13 : decode cX3_sortAt 13 = .ok (.iload_n 2, 1) := by decide +kernel
theorem dX3_sortAt_14 : decode cX3_sortAt 14 = .ok (.bipush 10, 2) := by decide +kernel
theorem dX3_sortAt_16 : decode cX3_sortAt 16 = .ok (.if_icmp .ne 5, 3) := by decide +kernel
theorem dX3_sortAt_19 : decode cX3_sortAt 19 = .ok (.iconst 5, 1) := by decide +kernel
theorem dX3_sortAt_20 : decode cX3_sortAt 20 = .ok (.ireturn, 1) := by decide +kernel
theorem dX3_sortAt_21 : decode cX3_sortAt 21 = .ok (.iload_n 2, 1) := by decide +kernel
theorem dX3_sortAt_22 : decode cX3_sortAt 22 = .ok (.bipush 97, 2) := by decide +kernel
theorem dX3_sortAt_24 : decode cX3_sortAt 24 = .ok (.bipush 122, 2) := by decide +kernel
theorem dX3_sortAt_26 : decode cX3_sortAt 26 = .ok (.invokestatic 142, 3) := by decide +kernel
theorem dX3_sortAt_29 : decode cX3_sortAt 29 = .ok (.ifCond .eq 5, 3) := by decide +kernel
theorem dX3_sortAt_32 : decode cX3_sortAt 32 = .ok (.iconst 1, 1) := by decide +kernel
theorem dX3_sortAt_33 : decode cX3_sortAt 33 = .ok (.ireturn, 1) := by decide +kernel
theorem dX3_sortAt_34 : decode cX3_sortAt 34 = .ok (.iload_n 2, 1) := by decide +kernel
theorem dX3_sortAt_35 : decode cX3_sortAt 35 = .ok (.bipush 48, 2) := by decide +kernel
theorem dX3_sortAt_37 : decode cX3_sortAt 37 = .ok (.bipush 57, 2) := by decide +kernel
theorem dX3_sortAt_39 : decode cX3_sortAt 39 = .ok (.invokestatic 142, 3) := by decide +kernel
theorem dX3_sortAt_42 : decode cX3_sortAt 42 = .ok (.ifCond .eq 5, 3) := by decide +kernel
theorem dX3_sortAt_45 : decode cX3_sortAt 45 = .ok (.iconst 2, 1) := by decide +kernel
theorem dX3_sortAt_46 : decode cX3_sortAt 46 = .ok (.ireturn, 1) := by decide +kernel
theorem dX3_sortAt_47 : decode cX3_sortAt 47 = .ok (.iload_n 2, 1) := by decide +kernel
theorem dX3_sortAt_48 : decode cX3_sortAt 48 = .ok (.bipush 59, 2) := by decide +kernel
theorem dX3_sortAt_50 : decode cX3_sortAt 50 = .ok (.if_icmp .ne 7, 3) := by decide +kernel
theorem dX3_sortAt_53 : decode cX3_sortAt 53 = .ok (.iconst 3, 1) := by decide +kernel
theorem dX3_sortAt_54 : decode cX3_sortAt 54 = .ok (.goto 4, 3) := by decide +kernel
theorem dX3_sortAt_57 : decode cX3_sortAt 57 = .ok (.iconst 4, 1) := by decide +kernel
theorem dX3_sortAt_58 : decode cX3_sortAt 58 = .ok (.ireturn, 1) := by decide +kernel
theorem dX4_init_0 : decode cX4_init 0 = .ok (.aload_n 0, 1) := by decide +kernel
theorem dX4_init_1 : decode cX4_init 1 = .ok (.iload_n 1, 1) := by decide +kernel
theorem dX4_init_2 : decode cX4_init 2 = .ok (.iload_n 2, 1) := by decide +kernel
theorem dX4_init_3 : decode cX4_init 3 = .ok (.iload_n 3, 1) := by decide +kernel
theorem dX4_init_4 : decode cX4_init 4 = .ok (.aload 4, 2) := by decide +kernel
theorem dX4_init_6 : decode cX4_init 6 = .ok (.invokespecial 1, 3) := by decide +kernel
theorem dX4_init_9 : decode cX4_init 9 = .ok (.return_, 1) := by decide +kernel
theorem dX4_size_0 : decode cX4_size 0 = .ok (.aload_n 0, 1) := by decide +kernel
theorem dX4_size_1 : decode cX4_size 1 = .ok (.getfield 7, 3) := by decide +kernel
theorem dX4_size_4 : decode cX4_size 4 = .ok (.bipush 11, 2) := by decide +kernel
theorem dX4_size_6 : decode cX4_size 6 = .ok (.invokevirtual 13, 3) := by decide +kernel
theorem dX4_size_9 : decode cX4_size 9 = .ok (.aload_n 0, 1) := by decide +kernel
theorem dX4_size_10 : decode cX4_size 10 = .ok (.invokespecial 19, 3) := by decide +kernel
theorem dX4_size_13 : decode cX4_size 13 = .ok (.aload_n 0, 1) := by decide +kernel
theorem dX4_size_14 : decode cX4_size 14 = .ok (.invokevirtual 23, 3) := by decide +kernel
theorem dX4_size_17 : decode cX4_size 17 = .ok (.iadd, 1) := by decide +kernel
theorem dX4_size_18 : decode cX4_size 18 = .ok (.ireturn, 1) := by decide +kernel
theorem dX4_mark_0 : decode cX4_mark 0 = .ok (.aload_n 0, 1) := by decide +kernel
theorem dX4_mark_1 : decode cX4_mark 1 = .ok (.getfield 7, 3) := by decide +kernel
theorem dX4_mark_4 : decode cX4_mark 4 = .ok (.bipush 21, 2) := by decide +kernel
theorem dX4_mark_6 : decode cX4_mark 6 = .ok (.invokevirtual 13, 3) := by decide +kernel
theorem dX4_mark_9 : decode cX4_mark 9 = .ok (.aload_n 0, 1) := by decide +kernel
theorem dX4_mark_10 : decode cX4_mark 10 = .ok (.invokespecial 26, 3) := by decide +kernel
theorem dX4_mark_13 : decode cX4_mark 13 = .ok (.aload_n 0, 1) := by decide +kernel
theorem dX4_mark_14 : decode cX4_mark 14 = .ok (.getfield 27, 3) := by decide +kernel
theorem dX4_mark_17 : decode cX4_mark 17 = .ok (.iadd, 1) := by decide +kernel
theorem dX4_mark_18 : decode cX4_mark 18 = .ok (.ireturn, 1) := by decide +kernel
theorem dX5_init_0 : decode cX5_init 0 = .ok (.aload_n 0, 1) := by decide +kernel
theorem dX5_init_1 : decode cX5_init 1 = .ok (.invokespecial 1, 3) := by decide +kernel
theorem dX5_init_4 : decode cX5_init 4 = .ok (.aload_n 0, 1) := by decide +kernel
theorem dX5_init_5 : decode cX5_init 5 = .ok (.bipush 8, 2) := by decide +kernel
theorem dX5_init_7 : decode cX5_init 7 = .ok (.newarray .int, 2) := by decide +kernel
theorem dX5_init_9 : decode cX5_init 9 = .ok (.putfield 9, 3) := by decide +kernel
theorem dX5_init_12 : decode cX5_init 12 = .ok (.aload_n 0, 1) := by decide +kernel
theorem dX5_init_13 : decode cX5_init 13 = .ok (.bipush 8, 2) := by decide +kernel
theorem dX5_init_15 : decode cX5_init 15 = .ok (.newarray .int, 2) := by decide +kernel
theorem dX5_init_17 : decode cX5_init 17 = .ok (.putfield 13, 3) := by decide +kernel
theorem dX5_init_20 : decode cX5_init 20 = .ok (.aload_n 0, 1) := by decide +kernel
theorem dX5_init_21 : decode cX5_init 21 = .ok (.sipush 320, 3) := by decide +kernel
theorem dX5_init_24 : decode cX5_init 24 = .ok (.newarray .int, 2) := by decide +kernel
theorem dX5_init_26 : decode cX5_init 26 = .ok (.putfield 16, 3) := by decide +kernel
theorem dX5_init_29 : decode cX5_init 29 = .ok (.aload_n 0, 1) := by decide +kernel
theorem dX5_init_30 : decode cX5_init 30 = .ok (.getfield 9, 3) := by decide +kernel
theorem dX5_init_33 : decode cX5_init 33 = .ok (.iconst (-1), 1) := by decide +kernel
theorem dX5_init_34 : decode cX5_init 34 = .ok (.invokestatic 19, 3) := by decide +kernel
theorem dX5_init_37 : decode cX5_init 37 = .ok (.return_, 1) := by decide +kernel
theorem dX5_isRow_0 : decode cX5_isRow 0 = .ok (.iload_n 1, 1) := by decide +kernel
theorem dX5_isRow_1 : decode cX5_isRow 1 = .ok (.iconst 0, 1) := by decide +kernel
theorem dX5_isRow_2 : decode cX5_isRow 2 = .ok (.bipush 7, 2) := by decide +kernel
theorem dX5_isRow_4 : decode cX5_isRow 4 = .ok (.invokestatic 25, 3) := by decide +kernel
theorem dX5_isRow_7 : decode cX5_isRow 7 = .ok (.ireturn, 1) := by decide +kernel
theorem dX5_isMissing_0 : decode cX5_isMissing 0 = .ok (.aload_n 0, 1) := by decide +kernel
theorem dX5_isMissing_1 : decode cX5_isMissing 1 = .ok (.getfield 9, 3) := by decide +kernel
theorem dX5_isMissing_4 : decode cX5_isMissing 4 = .ok (.iload_n 1, 1) := by decide +kernel
theorem dX5_isMissing_5 : decode cX5_isMissing 5 = .ok (.iaload, 1) := by decide +kernel
theorem dX5_isMissing_6 : decode cX5_isMissing 6 = .ok (.iconst (-1), 1) := by decide +kernel
theorem dX5_isMissing_7 : decode cX5_isMissing 7 = .ok (.if_icmp .ne 7, 3) := by decide +kernel
theorem dX5_isMissing_10 : decode cX5_isMissing 10 = .ok (.iconst 1, 1) := by decide +kernel
theorem dX5_isMissing_11 : decode cX5_isMissing 11 = .ok (.goto 4, 3) := by decide +kernel
theorem dX5_isMissing_14 : decode cX5_isMissing 14 = .ok (.iconst 0, 1) := by decide +kernel
theorem dX5_isMissing_15 : decode cX5_isMissing 15 = .ok (.ireturn, 1) := by decide +kernel
theorem dX5_areAlike_0 : decode cX5_areAlike 0 = .ok (.aload_n 0, 1) := by decide +kernel
theorem dX5_areAlike_1 : decode cX5_areAlike 1 = .ok (.getfield 9, 3) := by decide +kernel
theorem dX5_areAlike_4 : decode cX5_areAlike 4 = .ok (.iload_n 1, 1) := by decide +kernel
theorem dX5_areAlike_5 : decode cX5_areAlike 5 = .ok (.iaload, 1) := by decide +kernel
theorem dX5_areAlike_6 : decode cX5_areAlike 6 = .ok (.aload_n 0, 1) := by decide +kernel
theorem dX5_areAlike_7 : decode cX5_areAlike 7 = .ok (.getfield 9, 3) := by decide +kernel
theorem dX5_areAlike_10 : decode cX5_areAlike 10 = .ok (.iload_n 2, 1) := by decide +kernel
theorem dX5_areAlike_11 : decode cX5_areAlike 11 = .ok (.iaload, 1) := by decide +kernel
theorem dX5_areAlike_12 : decode cX5_areAlike 12 = .ok (.if_icmp .ne 7, 3) := by decide +kernel
theorem dX5_areAlike_15 : decode cX5_areAlike 15 = .ok (.iconst 1, 1) := by decide +kernel
theorem dX5_areAlike_16 : decode cX5_areAlike 16 = .ok (.goto 4, 3) := by decide +kernel
theorem dX5_areAlike_19 : decode cX5_areAlike 19 = .ok (.iconst 0, 1) := by decide +kernel
theorem dX5_areAlike_20 : decode cX5_areAlike 20 = .ok (.ireturn, 1) := by decide +kernel
theorem dX5_hasItems_0 : decode cX5_hasItems 0 = .ok (.iload_n 2, 1) := by decide +kernel
theorem dX5_hasItems_1 : decode cX5_hasItems 1 = .ok (.ifCond .lt 23, 3) := by decide +kernel
theorem dX5_hasItems_4 : decode cX5_hasItems 4 = .ok (.iload_n 3, 1) := by decide +kernel
theorem dX5_hasItems_5 : decode cX5_hasItems 5 = .ok (.ifCond .lt 19, 3) := by decide +kernel
theorem dX5_hasItems_8 : decode cX5_hasItems 8 = .ok (.iload_n 2, 1) := by decide +kernel
theorem dX5_hasItems_9 : decode cX5_hasItems 9 = .ok (.aload_n 0, 1) := by decide +kernel
theorem dX5_hasItems_10 : decode cX5_hasItems 10 = .ok (.getfield 13, 3) := by decide +kernel
theorem dX5_hasItems_13 : decode cX5_hasItems 13 = .ok (.iload_n 1, 1) := by decide +kernel
theorem dX5_hasItems_14 : decode cX5_hasItems 14 = .ok (.iaload, 1) := by decide +kernel
theorem dX5_hasItems_15 : decode cX5_hasItems 15 = .ok (.iload_n 3, 1) := by decide +kernel
theorem dX5_hasItems_16 : decode cX5_hasItems 16 = .ok (.isub, 1) := by decide +kernel
theorem dX5_hasItems_17 : decode cX5_hasItems 17 = .ok (.if_icmp .gt 7, 3) := by decide +kernel
theorem dX5_hasItems_20 : decode cX5_hasItems 20 = .ok (.iconst 1, 1) := by decide +kernel
theorem dX5_hasItems_21 : decode cX5_hasItems 21 = .ok (.goto 4, 3) := by decide +kernel
theorem dX5_hasItems_24 : decode cX5_hasItems 24 = .ok (.iconst 0, 1) := by decide +kernel
theorem dX5_hasItems_25 : decode cX5_hasItems 25 = .ok (.ireturn, 1) := by decide +kernel
theorem dX5_make_0 : decode cX5_make 0 = .ok (.aload_n 0, 1) := by decide +kernel
theorem dX5_make_1 : decode cX5_make 1 = .ok (.getfield 9, 3) := by decide +kernel
theorem dX5_make_4 : decode cX5_make 4 = .ok (.iload_n 1, 1) := by decide +kernel
theorem dX5_make_5 : decode cX5_make 5 = .ok (.iload_n 2, 1) := by decide +kernel
theorem dX5_make_6 : decode cX5_make 6 = .ok (.iastore, 1) := by decide +kernel
theorem dX5_make_7 : decode cX5_make 7 = .ok (.aload_n 0, 1) := by decide +kernel
theorem dX5_make_8 : decode cX5_make 8 = .ok (.getfield 13, 3) := by decide +kernel
theorem dX5_make_11 : decode cX5_make 11 = .ok (.iload_n 1, 1) := by decide +kernel
theorem dX5_make_12 : decode cX5_make 12 = .ok (.iload_n 3, 1) := by decide +kernel
theorem dX5_make_13 : decode cX5_make 13 = .ok (.iastore, 1) := by decide +kernel
theorem dX5_make_14 : decode cX5_make 14 = .ok (.aload_n 0, 1) := by decide +kernel
theorem dX5_make_15 : decode cX5_make 15 = .ok (.getfield 16, 3) := by decide +kernel
theorem dX5_make_18 : decode cX5_make 18 = .ok (.iload_n 1, 1) := by decide +kernel
theorem dX5_make_19 : decode cX5_make 19 = .ok (.bipush 40, 2) := by decide +kernel
theorem dX5_make_21 : decode cX5_make 21 = .ok (.imul, 1) := by decide +kernel
theorem dX5_make_22 : decode cX5_make 22 = .ok (.iload_n 1, 1) := by decide +kernel
theorem dX5_make_23 : decode cX5_make 23 = .ok (.bipush 40, 2) := by decide +kernel
theorem dX5_make_25 : decode cX5_make 25 = .ok (.imul, 1) := by decide +kernel
theorem dX5_make_26 : decode cX5_make 26 = .ok (.iload_n 3, 1) := by decide +kernel
theorem dX5_make_27 : decode cX5_make 27 = .ok (.iadd, 1) := by decide +kernel
theorem dX5_make_28 : decode cX5_make 28 = .ok (.iconst 0, 1) := by decide +kernel
theorem dX5_make_29 : decode cX5_make 29 = .ok (.invokestatic 31, 3) := by decide +kernel
theorem dX5_make_32 : decode cX5_make 32 = .ok (.return_, 1) := by decide +kernel
theorem dX5_lose_0 : decode cX5_lose 0 = .ok (.aload_n 0, 1) := by decide +kernel
theorem dX5_lose_1 : decode cX5_lose 1 = .ok (.getfield 13, 3) := by decide +kernel
theorem dX5_lose_4 : decode cX5_lose 4 = .ok (.iload_n 1, 1) := by decide +kernel
theorem dX5_lose_5 : decode cX5_lose 5 = .ok (.iaload, 1) := by decide +kernel
theorem dX5_lose_6 : decode cX5_lose 6 = .ok (.istore_n 2, 1) := by decide +kernel
theorem dX5_lose_7 : decode cX5_lose 7 = .ok (.aload_n 0, 1) := by decide +kernel
theorem dX5_lose_8 : decode cX5_lose 8 = .ok (.getfield 9, 3) := by decide +kernel
theorem dX5_lose_11 : decode cX5_lose 11 = .ok (.iload_n 1, 1) := by decide +kernel
theorem dX5_lose_12 : decode cX5_lose 12 = .ok (.iconst (-1), 1) := by decide +kernel
theorem dX5_lose_13 : decode cX5_lose 13 = .ok (.iastore, 1) := by decide +kernel
theorem dX5_lose_14 : decode cX5_lose 14 = .ok (.aload_n 0, 1) := by decide +kernel
theorem dX5_lose_15 : decode cX5_lose 15 = .ok (.getfield 13, 3) := by decide +kernel
theorem dX5_lose_18 : decode cX5_lose 18 = .ok (.iload_n 1, 1) := by decide +kernel
theorem dX5_lose_19 : decode cX5_lose 19 = .ok (.iconst 0, 1) := by decide +kernel
theorem dX5_lose_20 : decode cX5_lose 20 = .ok (.iastore, 1) := by decide +kernel
theorem dX5_lose_21 : decode cX5_lose 21 = .ok (.iload_n 2, 1) := by decide +kernel
theorem dX5_lose_22 : decode cX5_lose 22 = .ok (.ireturn, 1) := by decide +kernel
theorem dX5_item_0 : decode cX5_item 0 = .ok (.aload_n 0, 1) := by decide +kernel
theorem dX5_item_1 : decode cX5_item 1 = .ok (.getfield 16, 3) := by decide +kernel
theorem dX5_item_4 : decode cX5_item 4 = .ok (.iload_n 1, 1) := by decide +kernel
theorem dX5_item_5 : decode cX5_item 5 = .ok (.bipush 40, 2) := by decide +kernel
theorem dX5_item_7 : decode cX5_item 7 = .ok (.imul, 1) := by decide +kernel
theorem dX5_item_8 : decode cX5_item 8 = .ok (.iload_n 2, 1) := by decide +kernel
theorem dX5_item_9 : decode cX5_item 9 = .ok (.iadd, 1) := by decide +kernel
theorem dX5_item_10 : decode cX5_item 10 = .ok (.iaload, 1) := by decide +kernel
theorem dX5_item_11 : decode cX5_item 11 = .ok (.ireturn, 1) := by decide +kernel
theorem dX5_put_0 : decode cX5_put 0 = .ok (.aload_n 0, 1) := by decide +kernel
theorem dX5_put_1 : decode cX5_put 1 = .ok (.getfield 9, 3) := by decide +kernel
theorem dX5_put_4 : decode cX5_put 4 = .ok (.iload_n 1, 1) := by decide +kernel
theorem dX5_put_5 : decode cX5_put 5 = .ok (.iaload, 1) := by decide +kernel
theorem dX5_put_6 : decode cX5_put 6 = .ok (.iload_n 3, 1) := by decide +kernel
theorem dX5_put_7 : decode cX5_put 7 = .ok (.invokestatic 34, 3) := by decide +kernel
theorem dX5_put_10 : decode cX5_put 10 = .ok (.istore 4, 2) := by decide +kernel
theorem dX5_put_12 : decode cX5_put 12 = .ok (.aload_n 0, 1) := by decide +kernel
theorem dX5_put_13 : decode cX5_put 13 = .ok (.getfield 16, 3) := by decide +kernel
theorem dX5_put_16 : decode cX5_put 16 = .ok (.iload_n 1, 1) := by decide +kernel
theorem dX5_put_17 : decode cX5_put 17 = .ok (.bipush 40, 2) := by decide +kernel
theorem dX5_put_19 : decode cX5_put 19 = .ok (.imul, 1) := by decide +kernel
theorem dX5_put_20 : decode cX5_put 20 = .ok (.iload_n 2, 1) := by decide +kernel
theorem dX5_put_21 : decode cX5_put 21 = .ok (.iadd, 1) := by decide +kernel
theorem dX5_put_22 : decode cX5_put 22 = .ok (.iload 4, 2) := by decide +kernel
theorem dX5_put_24 : decode cX5_put 24 = .ok (.iastore, 1) := by decide +kernel
theorem dX5_put_25 : decode cX5_put 25 = .ok (.iload 4, 2) := by decide +kernel
theorem dX5_put_27 : decode cX5_put 27 = .ok (.ireturn, 1) := by decide +kernel
theorem dX5_move_0 : decode cX5_move 0 = .ok (.aload_n 0, 1) := by decide +kernel
theorem dX5_move_1 : decode cX5_move 1 = .ok (.getfield 16, 3) := by decide +kernel
theorem dX5_move_4 : decode cX5_move 4 = .ok (.iload_n 1, 1) := by decide +kernel
theorem dX5_move_5 : decode cX5_move 5 = .ok (.bipush 40, 2) := by decide +kernel
theorem dX5_move_7 : decode cX5_move 7 = .ok (.imul, 1) := by decide +kernel
theorem dX5_move_8 : decode cX5_move 8 = .ok (.iload_n 2, 1) := by decide +kernel
theorem dX5_move_9 : decode cX5_move 9 = .ok (.iadd, 1) := by decide +kernel
theorem dX5_move_10 : decode cX5_move 10 = .ok (.aload_n 0, 1) := by decide +kernel
theorem dX5_move_11 : decode cX5_move 11 = .ok (.getfield 16, 3) := by decide +kernel
theorem dX5_move_14 : decode cX5_move 14 = .ok (.iload_n 3, 1) := by decide +kernel
theorem dX5_move_15 : decode cX5_move 15 = .ok (.bipush 40, 2) := by decide +kernel
theorem dX5_move_17 : decode cX5_move 17 = .ok (.imul, 1) := by decide +kernel
theorem dX5_move_18 : decode cX5_move 18 = .ok (.iload 4, 2) := by decide +kernel
theorem dX5_move_20 : decode cX5_move 20 = .ok (.iadd, 1) := by decide +kernel
theorem dX5_move_21 : decode cX5_move 21 = .ok (.iload 5, 2) := by decide +kernel
theorem dX5_move_23 : decode cX5_move 23 = .ok (.invokestatic 38, 3) := by decide +kernel
theorem dX5_move_26 : decode cX5_move 26 = .ok (.return_, 1) := by decide +kernel
theorem dX5_areIn_0 : decode cX5_areIn 0 = .ok (.iconst 0, 1) := by decide +kernel
theorem dX5_areIn_1 : decode cX5_areIn 1 = .ok (.istore 6, 2) := by decide +kernel
theorem dX5_areIn_3 : decode cX5_areIn 3 = .ok (.iload 6, 2) := by decide +kernel
theorem dX5_areIn_5 : decode cX5_areIn 5 = .ok (.iload_n 3, 1) := by decide +kernel
theorem dX5_areIn_6 : decode cX5_areIn 6 = .ok (.if_icmp .ge 30, 3) := by decide +kernel
theorem dX5_areIn_9 : decode cX5_areIn 9 = .ok (.aload_n 0, 1) := by decide +kernel
theorem dX5_areIn_10 : decode cX5_areIn 10 = .ok (.iload_n 1, 1) := by decide +kernel
theorem dX5_areIn_11 : decode cX5_areIn 11 = .ok (.iload_n 2, 1) := by decide +kernel
theorem dX5_areIn_12 : decode cX5_areIn 12 = .ok (.iload 6, 2) := by decide +kernel
theorem dX5_areIn_14 : decode cX5_areIn 14 = .ok (.iadd, 1) := by decide +kernel
theorem dX5_areIn_15 : decode cX5_areIn 15 = .ok (.invokevirtual 44, 3) := by decide +kernel
theorem dX5_areIn_18 : decode cX5_areIn 18 = .ok (.iload 4, 2) := by decide +kernel
theorem dX5_areIn_20 : decode cX5_areIn 20 = .ok (.iload 5, 2) := by decide +kernel
theorem dX5_areIn_22 : decode cX5_areIn 22 = .ok (.invokestatic 25, 3) := by decide +kernel
theorem dX5_areIn_25 : decode cX5_areIn 25 = .ok (.ifCond .ne 5, 3) := by decide +kernel
theorem dX5_areIn_28 : decode cX5_areIn 28 = .ok (.iconst 0, 1) := by decide +kernel
theorem dX5_areIn_29 : decode cX5_areIn 29 = .ok (.ireturn, 1) := by decide +kernel
theorem dX5_areIn_30 : decode cX5_areIn 30 = .ok (.iinc 6 1, 3) := by decide +kernel
theorem dX5_areIn_33 : decode cX5_areIn 33 = .ok (.goto (-30), 3) := by decide +kernel
theorem dX5_areIn_36 : decode cX5_areIn 36 = .ok (.iconst 1, 1) := by decide +kernel
theorem dX5_areIn_37 : decode cX5_areIn 37 = .ok (.ireturn, 1) := by decide +kernel
theorem dX5_areUnlike_0 : decode cX5_areUnlike 0 = .ok (.iconst 0, 1) := by decide +kernel
theorem dX5_areUnlike_1 : decode cX5_areUnlike 1 = .ok (.istore_n 3, 1) := by decide +kernel
theorem dX5_areUnlike_2 : decode cX5_areUnlike 2 = .ok (.iload_n 3, 1) := by decide +kernel
theorem dX5_areUnlike_3 : decode cX5_areUnlike 3 = .ok (.iload_n 2, 1) := by decide +kernel
theorem dX5_areUnlike_4 : decode cX5_areUnlike 4 = .ok (.if_icmp .ge 42, 3) := by decide +kernel
theorem dX5_areUnlike_7 : decode cX5_areUnlike 7 = .ok (.iconst 0, 1) := by decide +kernel
theorem dX5_areUnlike_8 : decode cX5_areUnlike 8 = .ok (.istore 4, 2) := by decide +kernel
theorem dX5_areUnlike_10 : decode cX5_areUnlike 10 = .ok (.iload 4, 2) := by decide +kernel
theorem dX5_areUnlike_12 : decode cX5_areUnlike 12 = .ok (.iload_n 3, 1) := by decide +kernel
theorem dX5_areUnlike_13 : decode cX5_areUnlike 13 = .ok (.if_icmp .ge 27, 3) := by decide +kernel
theorem dX5_areUnlike_16 : decode cX5_areUnlike 16 = .ok (.aload_n 0, 1) := by decide +kernel
theorem dX5_areUnlike_17 : decode cX5_areUnlike 17 = .ok (.iload_n 1, 1) := by decide +kernel
theorem dX5_areUnlike_18 : decode cX5_areUnlike 18 = .ok (.iload_n 3, 1) := by decide +kernel
theorem dX5_areUnlike_19 : decode cX5_areUnlike 19 = .ok (.invokevirtual 44, 3) := by decide +kernel
theorem dX5_areUnlike_22 : decode cX5_areUnlike 22 = .ok (.aload_n 0, 1) := by decide +kernel
theorem dX5_areUnlike_23 : decode cX5_areUnlike 23 = .ok (.iload_n 1, 1) := by decide +kernel
theorem dX5_areUnlike_24 : decode cX5_areUnlike 24 = .ok (.iload 4, 2) := by decide +kernel
theorem dX5_areUnlike_26 : decode cX5_areUnlike 26 = .ok (.invokevirtual 44, 3) := by decide +kernel
theorem dX5_areUnlike_29 : decode cX5_areUnlike 29 = .ok (.if_icmp .ne 5, 3) := by decide +kernel
theorem dX5_areUnlike_32 : decode cX5_areUnlike 32 = .ok (.iconst 0, 1) := by decide +kernel
theorem dX5_areUnlike_33 : decode cX5_areUnlike 33 = .ok (.ireturn, 1) := by decide +kernel
theorem dX5_areUnlike_34 : decode cX5_areUnlike 34 = .ok (.iinc 4 1, 3) := by decide +kernel
theorem dX5_areUnlike_37 : decode cX5_areUnlike 37 = .ok (.goto (-27), 3) := by decide +kernel
theorem dX5_areUnlike_40 : decode cX5_areUnlike 40 = .ok (.iinc 3 1, 3) := by decide +kernel
theorem dX5_areUnlike_43 : decode cX5_areUnlike 43 = .ok (.goto (-41), 3) := by decide +kernel
theorem dX5_areUnlike_46 : decode cX5_areUnlike 46 = .ok (.iconst 1, 1) := by decide +kernel
theorem dX5_areUnlike_47 : decode cX5_areUnlike 47 = .ok (.ireturn, 1) := by decide +kernel
theorem dX5_firstItems_0 : decode cX5_firstItems 0 = .ok (.aload_n 0, 1) := by decide +kernel
theorem dX5_firstItems_1 : decode cX5_firstItems 1 = .ok (.getfield 16, 3) := by decide +kernel
theorem dX5_firstItems_4 : decode cX5_firstItems 4 = .ok (.iload_n 1, 1) := by decide +kernel
theorem dX5_firstItems_5 : decode cX5_firstItems 5 = .ok (.bipush 40, 2) := by decide +kernel
theorem dX5_firstItems_7 : decode cX5_firstItems 7 = .ok (.imul, 1) := by decide +kernel
theorem dX5_firstItems_8 : decode cX5_firstItems 8 = .ok (.iload_n 1, 1) := by decide +kernel
theorem dX5_firstItems_9 : decode cX5_firstItems 9 = .ok (.bipush 40, 2) := by decide +kernel
theorem dX5_firstItems_11 : decode cX5_firstItems 11 = .ok (.imul, 1) := by decide +kernel
theorem dX5_firstItems_12 : decode cX5_firstItems 12 = .ok (.iload_n 2, 1) := by decide +kernel
theorem dX5_firstItems_13 : decode cX5_firstItems 13 = .ok (.iadd, 1) := by decide +kernel
theorem dX5_firstItems_14 : decode cX5_firstItems 14 = .ok (.invokestatic 47, 3) := by decide +kernel
theorem dX5_firstItems_17 : decode cX5_firstItems 17 = .ok (.areturn, 1) := by decide +kernel
theorem dX5_howMany_0 : decode cX5_howMany 0 = .ok (.iconst 0, 1) := by decide +kernel
theorem dX5_howMany_1 : decode cX5_howMany 1 = .ok (.istore_n 1, 1) := by decide +kernel
theorem dX5_howMany_2 : decode cX5_howMany 2 = .ok (.iconst 0, 1) := by decide +kernel
theorem dX5_howMany_3 : decode cX5_howMany 3 = .ok (.istore_n 2, 1) := by decide +kernel
theorem dX5_howMany_4 : decode cX5_howMany 4 = .ok (.iload_n 2, 1) := by decide +kernel
theorem dX5_howMany_5 : decode cX5_howMany 5 = .ok (.bipush 8, 2) := by decide +kernel
theorem dX5_howMany_7 : decode cX5_howMany 7 = .ok (.if_icmp .ge 25, 3) := by decide +kernel
theorem dX5_howMany_10 : decode cX5_howMany 10 = .ok (.iload_n 1, 1) := by decide +kernel
theorem dX5_howMany_11 : decode cX5_howMany 11 = .ok (.aload_n 0, 1) := by decide +kernel
theorem dX5_howMany_12 : decode cX5_howMany 12 = .ok (.iload_n 2, 1) := by decide +kernel
theorem dX5_howMany_13 : decode cX5_howMany 13 = .ok (.invokevirtual 51, 3) := by decide +kernel
theorem dX5_howMany_16 : decode cX5_howMany 16 = .ok (.ifCond .eq 7, 3) := by decide +kernel
theorem dX5_howMany_19 : decode cX5_howMany 19 = .ok (.iconst 0, 1) := by decide +kernel
theorem dX5_howMany_20 : decode cX5_howMany 20 = .ok (.goto 4, 3) := by decide +kernel
theorem dX5_howMany_23 : decode cX5_howMany 23 = .ok (.iconst 1, 1) := by decide +kernel
theorem dX5_howMany_24 : decode cX5_howMany 24 = .ok (.iadd, 1) := by decide +kernel
theorem dX5_howMany_25 : decode cX5_howMany 25 = .ok (.istore_n 1, 1) := by decide +kernel
theorem dX5_howMany_26 : decode cX5_howMany 26 = .ok (.iinc 2 1, 3) := by decide +kernel
theorem dX5_howMany_29 : decode cX5_howMany 29 = .ok (.goto (-25), 3) := by decide +kernel
theorem dX5_howMany_32 : decode cX5_howMany 32 = .ok (.iload_n 1, 1) := by decide +kernel
theorem dX5_howMany_33 : decode cX5_howMany 33 = .ok (.ireturn, 1) := by decide +kernel
theorem dX5_cutToLane_0 : decode cX5_cutToLane 0 = .ok (.iload_n 0, 1) := by decide +kernel
theorem dX5_cutToLane_1 : decode cX5_cutToLane 1 = .ok (.lookupswitch 33 #[(0, 27), (1, 30)], 27) := by decide +kernel
theorem dX5_cutToLane_28 : decode cX5_cutToLane 28 = .ok (.iload_n 1, 1) := by decide +kernel
theorem dX5_cutToLane_29 : decode cX5_cutToLane 29 = .ok (.i2b, 1) := by decide +kernel
theorem dX5_cutToLane_30 : decode cX5_cutToLane 30 = .ok (.ireturn, 1) := by decide +kernel
theorem dX5_cutToLane_31 : decode cX5_cutToLane 31 = .ok (.iload_n 1, 1) := by decide +kernel
theorem dX5_cutToLane_32 : decode cX5_cutToLane 32 = .ok (.i2s, 1) := by decide +kernel
theorem dX5_cutToLane_33 : decode cX5_cutToLane 33 = .ok (.ireturn, 1) := by decide +kernel
theorem dX5_cutToLane_34 : decode cX5_cutToLane 34 = .ok (.iload_n 1, 1) := by decide +kernel
theorem dX5_cutToLane_35 : decode cX5_cutToLane 35 = .ok (.ireturn, 1) := by decide +kernel
theorem dX6_init_0 : decode cX6_init 0 = .ok (.aload_n 0, 1) := by decide +kernel
theorem dX6_init_1 : decode cX6_init 1 = .ok (.iload_n 1, 1) := by decide +kernel
theorem dX6_init_2 : decode cX6_init 2 = .ok (.iload_n 2, 1) := by decide +kernel
theorem dX6_init_3 : decode cX6_init 3 = .ok (.iload_n 3, 1) := by decide +kernel
theorem dX6_init_4 : decode cX6_init 4 = .ok (.aload 4, 2) := by decide +kernel
theorem dX6_init_6 : decode cX6_init 6 = .ok (.invokespecial 1, 3) := by decide +kernel
theorem dX6_init_9 : decode cX6_init 9 = .ok (.return_, 1) := by decide +kernel
theorem dX6_mark_0 : decode cX6_mark 0 = .ok (.aload_n 0, 1) := by decide +kernel
theorem dX6_mark_1 : decode cX6_mark 1 = .ok (.getfield 7, 3) := by decide +kernel
theorem dX6_mark_4 : decode cX6_mark 4 = .ok (.bipush 22, 2) := by decide +kernel
theorem dX6_mark_6 : decode cX6_mark 6 = .ok (.invokevirtual 13, 3) := by decide +kernel
theorem dX6_mark_9 : decode cX6_mark 9 = .ok (.aload_n 0, 1) := by decide +kernel
theorem dX6_mark_10 : decode cX6_mark 10 = .ok (.invokespecial 19, 3) := by decide +kernel
theorem dX6_mark_13 : decode cX6_mark 13 = .ok (.aload_n 0, 1) := by decide +kernel
theorem dX6_mark_14 : decode cX6_mark 14 = .ok (.invokevirtual 23, 3) := by decide +kernel
theorem dX6_mark_17 : decode cX6_mark 17 = .ok (.isub, 1) := by decide +kernel
theorem dX6_mark_18 : decode cX6_mark 18 = .ok (.ireturn, 1) := by decide +kernel
theorem dX7_init_0 : decode cX7_init 0 = .ok (.aload_n 0, 1) := by decide +kernel
theorem dX7_init_1 : decode cX7_init 1 = .ok (.iload_n 1, 1) := by decide +kernel
theorem dX7_init_2 : decode cX7_init 2 = .ok (.iload_n 2, 1) := by decide +kernel
theorem dX7_init_3 : decode cX7_init 3 = .ok (.iload_n 3, 1) := by decide +kernel
theorem dX7_init_4 : decode cX7_init 4 = .ok (.aload 4, 2) := by decide +kernel
theorem dX7_init_6 : decode cX7_init 6 = .ok (.invokespecial 1, 3) := by decide +kernel
theorem dX7_init_9 : decode cX7_init 9 = .ok (.return_, 1) := by decide +kernel
theorem dX7_size_0 : decode cX7_size 0 = .ok (.aload_n 0, 1) := by decide +kernel
theorem dX7_size_1 : decode cX7_size 1 = .ok (.getfield 7, 3) := by decide +kernel
theorem dX7_size_4 : decode cX7_size 4 = .ok (.bipush 14, 2) := by decide +kernel
theorem dX7_size_6 : decode cX7_size 6 = .ok (.invokevirtual 13, 3) := by decide +kernel
theorem dX7_size_9 : decode cX7_size 9 = .ok (.iconst 2, 1) := by decide +kernel
theorem dX7_size_10 : decode cX7_size 10 = .ok (.aload_n 0, 1) := by decide +kernel
theorem dX7_size_11 : decode cX7_size 11 = .ok (.invokespecial 19, 3) := by decide +kernel
theorem dX7_size_14 : decode cX7_size 14 = .ok (.imul, 1) := by decide +kernel
theorem dX7_size_15 : decode cX7_size 15 = .ok (.ireturn, 1) := by decide +kernel
theorem dX7_mark_0 : decode cX7_mark 0 = .ok (.aload_n 0, 1) := by decide +kernel
theorem dX7_mark_1 : decode cX7_mark 1 = .ok (.getfield 7, 3) := by decide +kernel
theorem dX7_mark_4 : decode cX7_mark 4 = .ok (.bipush 23, 2) := by decide +kernel
theorem dX7_mark_6 : decode cX7_mark 6 = .ok (.invokevirtual 13, 3) := by decide +kernel
theorem dX7_mark_9 : decode cX7_mark 9 = .ok (.aload_n 0, 1) := by decide +kernel
theorem dX7_mark_10 : decode cX7_mark 10 = .ok (.invokespecial 23, 3) := by decide +kernel
theorem dX7_mark_13 : decode cX7_mark 13 = .ok (.bipush 10, 2) := by decide +kernel
theorem dX7_mark_15 : decode cX7_mark 15 = .ok (.aload_n 0, 1) := by decide +kernel
theorem dX7_mark_16 : decode cX7_mark 16 = .ok (.invokevirtual 26, 3) := by decide +kernel
theorem dX7_mark_19 : decode cX7_mark 19 = .ok (.imul, 1) := by decide +kernel
theorem dX7_mark_20 : decode cX7_mark 20 = .ok (.iadd, 1) := by decide +kernel
theorem dX7_mark_21 : decode cX7_mark 21 = .ok (.ireturn, 1) := by decide +kernel
theorem dX8_init_0 : decode cX8_init 0 = .ok (.aload_n 0, 1) := by decide +kernel
theorem dX8_init_1 : decode cX8_init 1 = .ok (.invokespecial 1, 3) := by decide +kernel
theorem dX8_init_4 : decode cX8_init 4 = .ok (.aload_n 0, 1) := by decide +kernel
theorem dX8_init_5 : decode cX8_init 5 = .ok (.bipush 16, 2) := by decide +kernel
theorem dX8_init_7 : decode cX8_init 7 = .ok (.newarray .int, 2) := by decide +kernel
theorem dX8_init_9 : decode cX8_init 9 = .ok (.putfield 9, 3) := by decide +kernel
theorem dX8_init_12 : decode cX8_init 12 = .ok (.return_, 1) := by decide +kernel
theorem dX8_empty_0 : decode cX8_empty 0 = .ok (.aload_n 0, 1) := by decide +kernel
theorem dX8_empty_1 : decode cX8_empty 1 = .ok (.iconst 0, 1) := by decide +kernel
theorem dX8_empty_2 : decode cX8_empty 2 = .ok (.putfield 13, 3) := by decide +kernel
theorem dX8_empty_5 : decode cX8_empty 5 = .ok (.return_, 1) := by decide +kernel
theorem dX8_begin_0 : decode cX8_begin 0 = .ok (.aload_n 0, 1) := by decide +kernel
theorem dX8_begin_1 : decode cX8_begin 1 = .ok (.getfield 13, 3) := by decide +kernel
theorem dX8_begin_4 : decode cX8_begin 4 = .ok (.bipush 16, 2) := by decide +kernel
theorem dX8_begin_6 : decode cX8_begin 6 = .ok (.if_icmp .ge 23, 3) := by decide +kernel
theorem dX8_begin_9 : decode cX8_begin 9 = .ok (.aload_n 0, 1) := by decide +kernel
theorem dX8_begin_10 : decode cX8_begin 10 = .ok (.getfield 9, 3) := by decide +kernel
theorem dX8_begin_13 : decode cX8_begin 13 = .ok (.aload_n 0, 1) := by decide +kernel
theorem dX8_begin_14 : decode cX8_begin 14 = .ok (.getfield 13, 3) := by decide +kernel
theorem dX8_begin_17 : decode cX8_begin 17 = .ok (.iload_n 1, 1) := by decide +kernel
theorem dX8_begin_18 : decode cX8_begin 18 = .ok (.iastore, 1) := by decide +kernel
theorem dX8_begin_19 : decode cX8_begin 19 = .ok (.aload_n 0, 1) := by decide +kernel
theorem dX8_begin_20 : decode cX8_begin 20 = .ok (.dup, 1) := by decide +kernel
theorem dX8_begin_21 : decode cX8_begin 21 = .ok (.getfield 13, 3) := by decide +kernel
theorem dX8_begin_24 : decode cX8_begin 24 = .ok (.iconst 1, 1) := by decide +kernel
theorem dX8_begin_25 : decode cX8_begin 25 = .ok (.iadd, 1) := by decide +kernel
theorem dX8_begin_26 : decode cX8_begin 26 = .ok (.putfield 13, 3) := by decide +kernel
theorem dX8_begin_29 : decode cX8_begin 29 = .ok (.return_, 1) := by decide +kernel
theorem dX9_init_0 : decode cX9_init 0 = .ok (.aload_n 0, 1) := by decide +kernel
theorem dX9_init_1 : decode cX9_init 1 = .ok (.invokespecial 3, 3) := by decide +kernel
theorem dX9_init_4 : decode cX9_init 4 = .ok (.aload_n 0, 1) := by decide +kernel
theorem dX9_init_5 : decode cX9_init 5 = .ok (.bipush 10, 2) := by decide +kernel
theorem dX9_init_7 : decode cX9_init 7 = .ok (.newarray .int, 2) := by decide +kernel
theorem dX9_init_9 : decode cX9_init 9 = .ok (.putfield 11, 3) := by decide +kernel
theorem dX9_init_12 : decode cX9_init 12 = .ok (.aload_n 0, 1) := by decide +kernel
theorem dX9_init_13 : decode cX9_init 13 = .ok (.bipush 10, 2) := by decide +kernel
theorem dX9_init_15 : decode cX9_init 15 = .ok (.newarray .int, 2) := by decide +kernel
theorem dX9_init_17 : decode cX9_init 17 = .ok (.putfield 17, 3) := by decide +kernel
theorem dX9_init_20 : decode cX9_init 20 = .ok (.aload_n 0, 1) := by decide +kernel
theorem dX9_init_21 : decode cX9_init 21 = .ok (.bipush 10, 2) := by decide +kernel
theorem dX9_init_23 : decode cX9_init 23 = .ok (.newarray .boolean, 2) := by decide +kernel
theorem dX9_init_25 : decode cX9_init 25 = .ok (.putfield 20, 3) := by decide +kernel
theorem dX9_init_28 : decode cX9_init 28 = .ok (.aload_n 0, 1) := by decide +kernel
theorem dX9_init_29 : decode cX9_init 29 = .ok (.bipush 8, 2) := by decide +kernel
theorem dX9_init_31 : decode cX9_init 31 = .ok (.newarray .int, 2) := by decide +kernel
theorem dX9_init_33 : decode cX9_init 33 = .ok (.putfield 24, 3) := by decide +kernel
theorem dX9_init_36 : decode cX9_init 36 = .ok (.aload_n 0, 1) := by decide +kernel
theorem dX9_init_37 : decode cX9_init 37 = .ok (.bipush 8, 2) := by decide +kernel
theorem dX9_init_39 : decode cX9_init 39 = .ok (.newarray .boolean, 2) := by decide +kernel
theorem dX9_init_41 : decode cX9_init 41 = .ok (.putfield 27, 3) := by decide +kernel
theorem dX9_init_44 : decode cX9_init 44 = .ok (.aload_n 0, 1) := by decide +kernel
theorem dX9_init_45 : decode cX9_init 45 = .ok (.aload_n 1, 1) := by decide +kernel
theorem dX9_init_46 : decode cX9_init 46 = .ok (.putfield 30, 3) := by decide +kernel
theorem dX9_init_49 : decode cX9_init 49 = .ok (.return_, 1) := by decide +kernel
theorem dX9_begin_0 : decode cX9_begin 0 = .ok (.aload_n 0, 1) := by decide +kernel
theorem dX9_begin_1 : decode cX9_begin 1 = .ok (.aload_n 1, 1) := by decide +kernel
theorem dX9_begin_2 : decode cX9_begin 2 = .ok (.putfield 30, 3) := by decide +kernel
theorem dX9_begin_5 : decode cX9_begin 5 = .ok (.aload_n 0, 1) := by decide +kernel
theorem dX9_begin_6 : decode cX9_begin 6 = .ok (.iconst 0, 1) := by decide +kernel
theorem dX9_begin_7 : decode cX9_begin 7 = .ok (.putfield 34, 3) := by decide +kernel
theorem dX9_begin_10 : decode cX9_begin 10 = .ok (.iconst 0, 1) := by decide +kernel
theorem dX9_begin_11 : decode cX9_begin 11 = .ok (.istore_n 2, 1) := by decide +kernel
theorem dX9_begin_12 : decode cX9_begin 12 = .ok (.iload_n 2, 1) := by decide +kernel
theorem dX9_begin_13 : decode cX9_begin 13 = .ok (.bipush 10, 2) := by decide +kernel
theorem dX9_begin_15 : decode cX9_begin 15 = .ok (.if_icmp .ge 35, 3) := by decide +kernel
theorem dX9_begin_18 : decode cX9_begin 18 = .ok (.aload_n 0, 1) := by decide +kernel
