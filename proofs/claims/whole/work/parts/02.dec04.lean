theorem dX12_next_198 : decode cX12_next 198 = .ok (.getfield 90, 3) := by decide +kernel
theorem dX12_next_201 : decode cX12_next 201 = .ok (.putfield 108, 3) := by decide +kernel
theorem dX12_next_204 : decode cX12_next 204 = .ok (.return_, 1) := by decide +kernel
theorem dX12_begin_0 : decode cX12_begin 0 = .ok (.aload_n 0, 1) := by decide +kernel
theorem dX12_begin_1 : decode cX12_begin 1 = .ok (.aload_n 0, 1) := by decide +kernel
theorem dX12_begin_2 : decode cX12_begin 2 = .ok (.getfield 80, 3) := by decide +kernel
theorem dX12_begin_5 : decode cX12_begin 5 = .ok (.putfield 86, 3) := by decide +kernel
theorem dX12_begin_8 : decode cX12_begin 8 = .ok (.aload_n 0, 1) := by decide +kernel
theorem dX12_begin_9 : decode cX12_begin 9 = .ok (.iconst 0, 1) := by decide +kernel
theorem dX12_begin_10 : decode cX12_begin 10 = .ok (.putfield 80, 3) := by decide +kernel
theorem dX12_begin_13 : decode cX12_begin 13 = .ok (.aload_n 0, 1) := by decide +kernel
theorem dX12_begin_14 : decode cX12_begin 14 = .ok (.iconst 0, 1) := by decide +kernel
theorem dX12_begin_15 : decode cX12_begin 15 = .ok (.putfield 90, 3) := by decide +kernel
theorem dX12_begin_18 : decode cX12_begin 18 = .ok (.aload_n 0, 1) := by decide +kernel
theorem dX12_begin_19 : decode cX12_begin 19 = .ok (.iconst 0, 1) := by decide +kernel
theorem dX12_begin_20 : decode cX12_begin 20 = .ok (.putfield 111, 3) := by decide +kernel
theorem dX12_begin_23 : decode cX12_begin 23 = .ok (.aload_n 0, 1) := by decide +kernel
theorem dX12_begin_24 : decode cX12_begin 24 = .ok (.invokevirtual 114, 3) := by decide +kernel
theorem dX12_begin_27 : decode cX12_begin 27 = .ok (.return_, 1) := by decide +kernel
theorem dX12_bad_0 : decode cX12_bad 0 = .ok (.aload_n 0, 1) := by decide +kernel
theorem dX12_bad_1 : decode cX12_bad 1 = .ok (.getfield 111, 3) := by decide +kernel
theorem dX12_bad_4 : decode cX12_bad 4 = .ok (.ifCond .ne 16, 3) := by decide +kernel
theorem dX12_bad_7 : decode cX12_bad 7 = .ok (.aload_n 0, 1) := by decide +kernel
theorem dX12_bad_8 : decode cX12_bad 8 = .ok (.iload_n 1, 1) := by decide +kernel
theorem dX12_bad_9 : decode cX12_bad 9 = .ok (.putfield 111, 3) := by decide +kernel
theorem dX12_bad_12 : decode cX12_bad 12 = .ok (.aload_n 0, 1) := by decide +kernel
theorem dX12_bad_13 : decode cX12_bad 13 = .ok (.aload_n 0, 1) := by decide +kernel
theorem dX12_bad_14 : decode cX12_bad 14 = .ok (.getfield 96, 3) := by decide +kernel
theorem dX12_bad_17 : decode cX12_bad 17 = .ok (.putfield 117, 3) := by decide +kernel
theorem dX12_bad_20 : decode cX12_bad 20 = .ok (.return_, 1) := by decide +kernel
theorem dX12_must_0 : decode cX12_must 0 = .ok (.iload_n 1, 1) := by decide +kernel
theorem dX12_must_1 : decode cX12_must 1 = .ok (.ifCond .ne 8, 3) := by decide +kernel
theorem dX12_must_4 : decode cX12_must 4 = .ok (.aload_n 0, 1) := by decide +kernel
theorem dX12_must_5 : decode cX12_must 5 = .ok (.iconst 1, 1) := by decide +kernel
theorem dX12_must_6 : decode cX12_must 6 = .ok (.invokevirtual 120, 3) := by decide +kernel
theorem dX12_must_9 : decode cX12_must 9 = .ok (.aload_n 0, 1) := by decide +kernel
theorem dX12_must_10 : decode cX12_must 10 = .ok (.getfield 111, 3) := by decide +kernel
theorem dX12_must_13 : decode cX12_must 13 = .ok (.ifCond .ne 7, 3) := by decide +kernel
theorem dX12_must_16 : decode cX12_must 16 = .ok (.aload_n 0, 1) := by decide +kernel
theorem dX12_must_17 : decode cX12_must 17 = .ok (.invokevirtual 114, 3) := by decide +kernel
theorem dX12_must_20 : decode cX12_must 20 = .ok (.return_, 1) := by decide +kernel
theorem dX12_name_0 : decode cX12_name 0 = .ok (.lconst 0, 1) := by decide +kernel
theorem dX12_name_1 : decode cX12_name 1 = .ok (.lstore_n 1, 1) := by decide +kernel
theorem dX12_name_2 : decode cX12_name 2 = .ok (.aload_n 0, 1) := by decide +kernel
theorem dX12_name_3 : decode cX12_name 3 = .ok (.getfield 96, 3) := by decide +kernel
theorem dX12_name_6 : decode cX12_name 6 = .ok (.istore_n 3, 1) := by decide +kernel
theorem dX12_name_7 : decode cX12_name 7 = .ok (.iload_n 3, 1) := by decide +kernel
theorem dX12_name_8 : decode cX12_name 8 = .ok (.aload_n 0, 1) := by decide +kernel
theorem dX12_name_9 : decode cX12_name 9 = .ok (.getfield 108, 3) := by decide +kernel
theorem dX12_name_12 : decode cX12_name 12 = .ok (.if_icmp .ge 44, 3) := by decide +kernel
theorem dX12_name_15 : decode cX12_name 15 = .ok (.aload_n 0, 1) := by decide +kernel
theorem dX12_name_16 : decode cX12_name 16 = .ok (.getfield 99, 3) := by decide +kernel
theorem dX12_name_19 : decode cX12_name 19 = .ok (.iconst 2, 1) := by decide +kernel
theorem dX12_name_20 : decode cX12_name 20 = .ok (.if_icmp .ne 36, 3) := by decide +kernel
theorem dX12_name_23 : decode cX12_name 23 = .ok (.aload_n 0, 1) := by decide +kernel
theorem dX12_name_24 : decode cX12_name 24 = .ok (.getfield 108, 3) := by decide +kernel
theorem dX12_name_27 : decode cX12_name 27 = .ok (.aload_n 0, 1) := by decide +kernel
theorem dX12_name_28 : decode cX12_name 28 = .ok (.getfield 96, 3) := by decide +kernel
theorem dX12_name_31 : decode cX12_name 31 = .ok (.isub, 1) := by decide +kernel
theorem dX12_name_32 : decode cX12_name 32 = .ok (.bipush 8, 2) := by decide +kernel
theorem dX12_name_34 : decode cX12_name 34 = .ok (.if_icmp .ge 22, 3) := by decide +kernel
theorem dX12_name_37 : decode cX12_name 37 = .ok (.lload_n 1, 1) := by decide +kernel
theorem dX12_name_38 : decode cX12_name 38 = .ok (.bipush 8, 2) := by decide +kernel
theorem dX12_name_40 : decode cX12_name 40 = .ok (.lshl, 1) := by decide +kernel
theorem dX12_name_41 : decode cX12_name 41 = .ok (.aload_n 0, 1) := by decide +kernel
theorem dX12_name_42 : decode cX12_name 42 = .ok (.getfield 25, 3) := by decide +kernel
theorem dX12_name_45 : decode cX12_name 45 = .ok (.iload_n 3, 1) := by decide +kernel
theorem dX12_name_46 : decode cX12_name 46 = .ok (.iaload, 1) := by decide +kernel
theorem dX12_name_47 : decode cX12_name 47 = .ok (.i2l, 1) := by decide +kernel
theorem dX12_name_48 : decode cX12_name 48 = .ok (.lor, 1) := by decide +kernel
theorem dX12_name_49 : decode cX12_name 49 = .ok (.lstore_n 1, 1) := by decide +kernel
theorem dX12_name_50 : decode cX12_name 50 = .ok (.iinc 3 1, 3) := by decide +kernel
theorem dX12_name_53 : decode cX12_name 53 = .ok (.goto (-46), 3) := by decide +kernel
theorem dX12_name_56 : decode cX12_name 56 = .ok (.aload_n 0, 1) := by decide +kernel
theorem dX12_name_57 : decode cX12_name 57 = .ok (.getfield 111, 3) := by decide +kernel
theorem dX12_name_60 : decode cX12_name 60 = .ok (.ifCond .ne 7, 3) := by decide +kernel
theorem dX12_name_63 : decode cX12_name 63 = .ok (.lload_n 1, 1) := by decide +kernel
theorem dX12_name_64 : decode cX12_name 64 = .ok (.goto 4, 3) := by decide +kernel
theorem dX12_name_67 : decode cX12_name 67 = .ok (.lconst 0, 1) := by decide +kernel
theorem dX12_name_68 : decode cX12_name 68 = .ok (.lreturn, 1) := by decide +kernel
theorem dX12_figures_0 : decode cX12_figures 0 = .ok (.iconst 0, 1) := by decide +kernel
theorem dX12_figures_1 : decode cX12_figures 1 = .ok (.istore_n 1, 1) := by decide +kernel
theorem dX12_figures_2 : decode cX12_figures 2 = .ok (.aload_n 0, 1) := by decide +kernel
theorem dX12_figures_3 : decode cX12_figures 3 = .ok (.getfield 96, 3) := by decide +kernel
theorem dX12_figures_6 : decode cX12_figures 6 = .ok (.istore_n 2, 1) := by decide +kernel
theorem dX12_figures_7 : decode cX12_figures 7 = .ok (.iload_n 2, 1) := by decide +kernel
theorem dX12_figures_8 : decode cX12_figures 8 = .ok (.aload_n 0, 1) := by decide +kernel
theorem dX12_figures_9 : decode cX12_figures 9 = .ok (.getfield 108, 3) := by decide +kernel
theorem dX12_figures_12 : decode cX12_figures 12 = .ok (.if_icmp .ge 32, 3) := by decide +kernel
theorem dX12_figures_15 : decode cX12_figures 15 = .ok (.aload_n 0, 1) := by decide +kernel
theorem dX12_figures_16 : decode cX12_figures 16 = .ok (.getfield 99, 3) := by decide +kernel
theorem dX12_figures_19 : decode cX12_figures 19 = .ok (.iconst 3, 1) := by decide +kernel
theorem dX12_figures_20 : decode cX12_figures 20 = .ok (.if_icmp .ne 24, 3) := by decide +kernel
theorem dX12_figures_23 : decode cX12_figures 23 = .ok (.bipush 10, 2) := by decide +kernel
theorem dX12_figures_25 : decode cX12_figures 25 = .ok (.iload_n 1, 1) := by decide +kernel
theorem dX12_figures_26 : decode cX12_figures 26 = .ok (.imul, 1) := by decide +kernel
theorem dX12_figures_27 : decode cX12_figures 27 = .ok (.aload_n 0, 1) := by decide +kernel
theorem dX12_figures_28 : decode cX12_figures 28 = .ok (.getfield 25, 3) := by decide +kernel
theorem dX12_figures_31 : decode cX12_figures 31 = .ok (.iload_n 2, 1) := by decide +kernel
theorem dX12_figures_32 : decode cX12_figures 32 = .ok (.iaload, 1) := by decide +kernel
theorem dX12_figures_33 : decode cX12_figures 33 = .ok (.iadd, 1) := by decide +kernel
theorem dX12_figures_34 : decode cX12_figures 34 = .ok (.bipush 48, 2) := by decide +kernel
theorem dX12_figures_36 : decode cX12_figures 36 = .ok (.isub, 1) := by decide +kernel
theorem dX12_figures_37 : decode cX12_figures 37 = .ok (.istore_n 1, 1) := by decide +kernel
theorem dX12_figures_38 : decode cX12_figures 38 = .ok (.iinc 2 1, 3) := by decide +kernel
theorem dX12_figures_41 : decode cX12_figures 41 = .ok (.goto (-34), 3) := by decide +kernel
theorem dX12_figures_44 : decode cX12_figures 44 = .ok (.iload_n 1, 1) := by decide +kernel
theorem dX12_figures_45 : decode cX12_figures 45 = .ok (.ireturn, 1) := by decide +kernel
theorem dX12_number_0 : decode cX12_number 0 = .ok (.aload_n 0, 1) := by decide +kernel
theorem dX12_number_1 : decode cX12_number 1 = .ok (.getfield 111, 3) := by decide +kernel
theorem dX12_number_4 : decode cX12_number 4 = .ok (.ifCond .le 5, 3) := by decide +kernel
theorem dX12_number_7 : decode cX12_number 7 = .ok (.iconst 0, 1) := by decide +kernel
theorem dX12_number_8 : decode cX12_number 8 = .ok (.ireturn, 1) := by decide +kernel
theorem dX12_number_9 : decode cX12_number 9 = .ok (.aload_n 0, 1) := by decide +kernel
theorem dX12_number_10 : decode cX12_number 10 = .ok (.invokevirtual 124, 3) := by decide +kernel
theorem dX12_number_13 : decode cX12_number 13 = .ok (.istore_n 3, 1) := by decide +kernel
theorem dX12_number_14 : decode cX12_number 14 = .ok (.aload_n 0, 1) := by decide +kernel
theorem dX12_number_15 : decode cX12_number 15 = .ok (.getfield 99, 3) := by decide +kernel
theorem dX12_number_18 : decode cX12_number 18 = .ok (.iconst 3, 1) := by decide +kernel
theorem dX12_number_19 : decode cX12_number 19 = .ok (.if_icmp .ne 20, 3) := by decide +kernel
theorem dX12_number_22 : decode cX12_number 22 = .ok (.iload_n 3, 1) := by decide +kernel
theorem dX12_number_23 : decode cX12_number 23 = .ok (.i2l, 1) := by decide +kernel
theorem dX12_number_24 : decode cX12_number 24 = .ok (.iload_n 1, 1) := by decide +kernel
theorem dX12_number_25 : decode cX12_number 25 = .ok (.i2l, 1) := by decide +kernel
theorem dX12_number_26 : decode cX12_number 26 = .ok (.iload_n 2, 1) := by decide +kernel
theorem dX12_number_27 : decode cX12_number 27 = .ok (.i2l, 1) := by decide +kernel
theorem dX12_number_28 : decode cX12_number 28 = .ok (.invokestatic 63, 3) := by decide +kernel
theorem dX12_number_31 : decode cX12_number 31 = .ok (.ifCond .ne 8, 3) := by decide +kernel
theorem dX12_number_34 : decode cX12_number 34 = .ok (.aload_n 0, 1) := by decide +kernel
theorem dX12_number_35 : decode cX12_number 35 = .ok (.iconst 2, 1) := by decide +kernel
theorem dX12_number_36 : decode cX12_number 36 = .ok (.invokevirtual 120, 3) := by decide +kernel
theorem dX12_number_39 : decode cX12_number 39 = .ok (.aload_n 0, 1) := by decide +kernel
theorem dX12_number_40 : decode cX12_number 40 = .ok (.aload_n 0, 1) := by decide +kernel
theorem dX12_number_41 : decode cX12_number 41 = .ok (.getfield 99, 3) := by decide +kernel
theorem dX12_number_44 : decode cX12_number 44 = .ok (.iconst 3, 1) := by decide +kernel
theorem dX12_number_45 : decode cX12_number 45 = .ok (.if_icmp .ne 7, 3) := by decide +kernel
theorem dX12_number_48 : decode cX12_number 48 = .ok (.iconst 1, 1) := by decide +kernel
theorem dX12_number_49 : decode cX12_number 49 = .ok (.goto 4, 3) := by decide +kernel
theorem dX12_number_52 : decode cX12_number 52 = .ok (.iconst 0, 1) := by decide +kernel
theorem dX12_number_53 : decode cX12_number 53 = .ok (.invokevirtual 128, 3) := by decide +kernel
theorem dX12_number_56 : decode cX12_number 56 = .ok (.iload_n 3, 1) := by decide +kernel
theorem dX12_number_57 : decode cX12_number 57 = .ok (.ireturn, 1) := by decide +kernel
theorem dX12_kindBy_0 : decode cX12_kindBy 0 = .ok (.lload_n 0, 1) := by decide +kernel
theorem dX12_kindBy_1 : decode cX12_kindBy 1 = .ok (.ldc2_w 132, 3) := by decide +kernel
theorem dX12_kindBy_4 : decode cX12_kindBy 4 = .ok (.lcmp, 1) := by decide +kernel
theorem dX12_kindBy_5 : decode cX12_kindBy 5 = .ok (.ifCond .ne 7, 3) := by decide +kernel
theorem dX12_kindBy_8 : decode cX12_kindBy 8 = .ok (.iconst 1, 1) := by decide +kernel
theorem dX12_kindBy_9 : decode cX12_kindBy 9 = .ok (.goto 53, 3) := by decide +kernel
theorem dX12_kindBy_12 : decode cX12_kindBy 12 = .ok (.lload_n 0, 1) := by decide +kernel
theorem dX12_kindBy_13 : decode cX12_kindBy 13 = .ok (.ldc2_w 134, 3) := by decide +kernel
theorem dX12_kindBy_16 : decode cX12_kindBy 16 = .ok (.lcmp, 1) := by decide +kernel
theorem dX12_kindBy_17 : decode cX12_kindBy 17 = .ok (.ifCond .ne 7, 3) := by decide +kernel
theorem dX12_kindBy_20 : decode cX12_kindBy 20 = .ok (.iconst 3, 1) := by decide +kernel
theorem dX12_kindBy_21 : decode cX12_kindBy 21 = .ok (.goto 41, 3) := by decide +kernel
theorem dX12_kindBy_24 : decode cX12_kindBy 24 = .ok (.lload_n 0, 1) := by decide +kernel
theorem dX12_kindBy_25 : decode cX12_kindBy 25 = .ok (.ldc2_w 136, 3) := by decide +kernel
theorem dX12_kindBy_28 : decode cX12_kindBy 28 = .ok (.lcmp, 1) := by decide +kernel
theorem dX12_kindBy_29 : decode cX12_kindBy 29 = .ok (.ifCond .ne 7, 3) := by decide +kernel
theorem dX12_kindBy_32 : decode cX12_kindBy 32 = .ok (.iconst 4, 1) := by decide +kernel
theorem dX12_kindBy_33 : decode cX12_kindBy 33 = .ok (.goto 29, 3) := by decide +kernel
theorem dX12_kindBy_36 : decode cX12_kindBy 36 = .ok (.lload_n 0, 1) := by decide +kernel
theorem dX12_kindBy_37 : decode cX12_kindBy 37 = .ok (.ldc2_w 138, 3) := by decide +kernel
theorem dX12_kindBy_40 : decode cX12_kindBy 40 = .ok (.lcmp, 1) := by decide +kernel
theorem dX12_kindBy_41 : decode cX12_kindBy 41 = .ok (.ifCond .ne 7, 3) := by decide +kernel
theorem dX12_kindBy_44 : decode cX12_kindBy 44 = .ok (.iconst 2, 1) := by decide +kernel
theorem dX12_kindBy_45 : decode cX12_kindBy 45 = .ok (.goto 17, 3) := by decide +kernel
theorem dX12_kindBy_48 : decode cX12_kindBy 48 = .ok (.lload_n 0, 1) := by decide +kernel
theorem dX12_kindBy_49 : decode cX12_kindBy 49 = .ok (.ldc2_w 140, 3) := by decide +kernel
theorem dX12_kindBy_52 : decode cX12_kindBy 52 = .ok (.lcmp, 1) := by decide +kernel
theorem dX12_kindBy_53 : decode cX12_kindBy 53 = .ok (.ifCond .ne 7, 3) := by decide +kernel
theorem dX12_kindBy_56 : decode cX12_kindBy 56 = .ok (.iconst 5, 1) := by decide +kernel
theorem dX12_kindBy_57 : decode cX12_kindBy 57 = .ok (.goto 5, 3) := by decide +kernel
theorem dX12_kindBy_60 : decode cX12_kindBy 60 = .ok (.ldc 89, 2) := by decide +kernel
theorem dX12_kindBy_62 : decode cX12_kindBy 62 = .ok (.ireturn, 1) := by decide +kernel
theorem dX12_mustEnd_0 : decode cX12_mustEnd 0 = .ok (.aload_n 0, 1) := by decide +kernel
theorem dX12_mustEnd_1 : decode cX12_mustEnd 1 = .ok (.getfield 111, 3) := by decide +kernel
theorem dX12_mustEnd_4 : decode cX12_mustEnd 4 = .ok (.ifCond .ne 20, 3) := by decide +kernel
theorem dX12_mustEnd_7 : decode cX12_mustEnd 7 = .ok (.aload_n 0, 1) := by decide +kernel
theorem dX12_mustEnd_8 : decode cX12_mustEnd 8 = .ok (.aload_n 0, 1) := by decide +kernel
theorem dX12_mustEnd_9 : decode cX12_mustEnd 9 = .ok (.getfield 99, 3) := by decide +kernel
theorem dX12_mustEnd_12 : decode cX12_mustEnd 12 = .ok (.iconst 4, 1) := by decide +kernel
theorem dX12_mustEnd_13 : decode cX12_mustEnd 13 = .ok (.if_icmp .ne 7, 3) := by decide +kernel
theorem dX12_mustEnd_16 : decode cX12_mustEnd 16 = .ok (.iconst 1, 1) := by decide +kernel
theorem dX12_mustEnd_17 : decode cX12_mustEnd 17 = .ok (.goto 4, 3) := by decide +kernel
theorem dX12_mustEnd_20 : decode cX12_mustEnd 20 = .ok (.iconst 0, 1) := by decide +kernel
theorem dX12_mustEnd_21 : decode cX12_mustEnd 21 = .ok (.invokevirtual 128, 3) := by decide +kernel
theorem dX12_mustEnd_24 : decode cX12_mustEnd 24 = .ok (.return_, 1) := by decide +kernel
theorem dX12_begins_0 : decode cX12_begins 0 = .ok (.aload_n 0, 1) := by decide +kernel
theorem dX12_begins_1 : decode cX12_begins 1 = .ok (.getfield 22, 3) := by decide +kernel
theorem dX12_begins_4 : decode cX12_begins 4 = .ok (.iload_n 1, 1) := by decide +kernel
theorem dX12_begins_5 : decode cX12_begins 5 = .ok (.iaload, 1) := by decide +kernel
theorem dX12_begins_6 : decode cX12_begins 6 = .ok (.iload_n 2, 1) := by decide +kernel
theorem dX12_begins_7 : decode cX12_begins 7 = .ok (.if_icmp .ne 8, 3) := by decide +kernel
theorem dX12_begins_10 : decode cX12_begins 10 = .ok (.aload_n 0, 1) := by decide +kernel
theorem dX12_begins_11 : decode cX12_begins 11 = .ok (.iconst 3, 1) := by decide +kernel
theorem dX12_begins_12 : decode cX12_begins 12 = .ok (.invokevirtual 120, 3) := by decide +kernel
theorem dX12_begins_15 : decode cX12_begins 15 = .ok (.aload_n 0, 1) := by decide +kernel
theorem dX12_begins_16 : decode cX12_begins 16 = .ok (.iconst 1, 1) := by decide +kernel
theorem dX12_begins_17 : decode cX12_begins 17 = .ok (.invokevirtual 128, 3) := by decide +kernel
theorem dX12_begins_20 : decode cX12_begins 20 = .ok (.return_, 1) := by decide +kernel
theorem dX12_isTold_0 : decode cX12_isTold 0 = .ok (.iconst 0, 1) := by decide +kernel
theorem dX12_isTold_1 : decode cX12_isTold 1 = .ok (.istore_n 3, 1) := by decide +kernel
theorem dX12_isTold_2 : decode cX12_isTold 2 = .ok (.iconst 0, 1) := by decide +kernel
theorem dX12_isTold_3 : decode cX12_isTold 3 = .ok (.istore 4, 2) := by decide +kernel
theorem dX12_isTold_5 : decode cX12_isTold 5 = .ok (.iload 4, 2) := by decide +kernel
theorem dX12_isTold_7 : decode cX12_isTold 7 = .ok (.aload_n 0, 1) := by decide +kernel
theorem dX12_isTold_8 : decode cX12_isTold 8 = .ok (.getfield 22, 3) := by decide +kernel
theorem dX12_isTold_11 : decode cX12_isTold 11 = .ok (.iconst 0, 1) := by decide +kernel
theorem dX12_isTold_12 : decode cX12_isTold 12 = .ok (.iaload, 1) := by decide +kernel
theorem dX12_isTold_13 : decode cX12_isTold 13 = .ok (.if_icmp .ge 53, 3) := by decide +kernel
theorem dX12_isTold_16 : decode cX12_isTold 16 = .ok (.iload_n 3, 1) := by decide +kernel
theorem dX12_isTold_17 : decode cX12_isTold 17 = .ok (.ifCond .ne 37, 3) := by decide +kernel
theorem dX12_isTold_20 : decode cX12_isTold 20 = .ok (.aload_n 0, 1) := by decide +kernel
theorem dX12_isTold_21 : decode cX12_isTold 21 = .ok (.getfield 22, 3) := by decide +kernel
theorem dX12_isTold_24 : decode cX12_isTold 24 = .ok (.bipush 28, 2) := by decide +kernel
theorem dX12_isTold_26 : decode cX12_isTold 26 = .ok (.iconst 3, 1) := by decide +kernel
theorem dX12_isTold_27 : decode cX12_isTold 27 = .ok (.iload 4, 2) := by decide +kernel
theorem dX12_isTold_29 : decode cX12_isTold 29 = .ok (.imul, 1) := by decide +kernel
theorem dX12_isTold_30 : decode cX12_isTold 30 = .ok (.iadd, 1) := by decide +kernel
theorem dX12_isTold_31 : decode cX12_isTold 31 = .ok (.iaload, 1) := by decide +kernel
theorem dX12_isTold_32 : decode cX12_isTold 32 = .ok (.iload_n 1, 1) := by decide +kernel
theorem dX12_isTold_33 : decode cX12_isTold 33 = .ok (.if_icmp .ne 25, 3) := by decide +kernel
theorem dX12_isTold_36 : decode cX12_isTold 36 = .ok (.aload_n 0, 1) := by decide +kernel
theorem dX12_isTold_37 : decode cX12_isTold 37 = .ok (.getfield 22, 3) := by decide +kernel
theorem dX12_isTold_40 : decode cX12_isTold 40 = .ok (.bipush 28, 2) := by decide +kernel
theorem dX12_isTold_42 : decode cX12_isTold 42 = .ok (.iconst 3, 1) := by decide +kernel
theorem dX12_isTold_43 : decode cX12_isTold 43 = .ok (.iload 4, 2) := by decide +kernel
theorem dX12_isTold_45 : decode cX12_isTold 45 = .ok (.imul, 1) := by decide +kernel
theorem dX12_isTold_46 : decode cX12_isTold 46 = .ok (.iadd, 1) := by decide +kernel
theorem dX12_isTold_47 : decode cX12_isTold 47 = .ok (.iconst 1, 1) := by decide +kernel
theorem dX12_isTold_48 : decode cX12_isTold 48 = .ok (.iadd, 1) := by decide +kernel
theorem dX12_isTold_49 : decode cX12_isTold 49 = .ok (.iaload, 1) := by decide +kernel
theorem dX12_isTold_50 : decode cX12_isTold 50 = .ok (.iload_n 2, 1) := by decide +kernel
theorem dX12_isTold_51 : decode cX12_isTold 51 = .ok (.if_icmp .ne 7, 3) := by decide +kernel
theorem dX12_isTold_54 : decode cX12_isTold 54 = .ok (.iconst 1, 1) := by decide +kernel
theorem dX12_isTold_55 : decode cX12_isTold 55 = .ok (.goto 4, 3) := by decide +kernel
theorem dX12_isTold_58 : decode cX12_isTold 58 = .ok (.iconst 0, 1) := by decide +kernel
theorem dX12_isTold_59 : decode cX12_isTold 59 = .ok (.istore_n 3, 1) := by decide +kernel
theorem dX12_isTold_60 : decode cX12_isTold 60 = .ok (.iinc 4 1, 3) := by decide +kernel
theorem dX12_isTold_63 : decode cX12_isTold 63 = .ok (.goto (-58), 3) := by decide +kernel
theorem dX12_isTold_66 : decode cX12_isTold 66 = .ok (.iload_n 3, 1) := by decide +kernel
theorem dX12_isTold_67 : decode cX12_isTold 67 = .ok (.ireturn, 1) := by decide +kernel
theorem dX12_readDay_0 : decode cX12_readDay 0 = .ok (.aload_n 0, 1) := by decide +kernel
theorem dX12_readDay_1 : decode cX12_readDay 1 = .ok (.aload_n 0, 1) := by decide +kernel
theorem dX12_readDay_2 : decode cX12_readDay 2 = .ok (.invokevirtual 142, 3) := by decide +kernel
theorem dX12_readDay_5 : decode cX12_readDay 5 = .ok (.ldc2_w 146, 3) := by decide +kernel
theorem dX12_readDay_8 : decode cX12_readDay 8 = .ok (.lcmp, 1) := by decide +kernel
theorem dX12_readDay_9 : decode cX12_readDay 9 = .ok (.ifCond .ne 7, 3) := by decide +kernel
theorem dX12_readDay_12 : decode cX12_readDay 12 = .ok (.iconst 1, 1) := by decide +kernel
theorem dX12_readDay_13 : decode cX12_readDay 13 = .ok (.goto 4, 3) := by decide +kernel
theorem dX12_readDay_16 : decode cX12_readDay 16 = .ok (.iconst 0, 1) := by decide +kernel
theorem dX12_readDay_17 : decode cX12_readDay 17 = .ok (.invokevirtual 128, 3) := by decide +kernel
theorem dX12_readDay_20 : decode cX12_readDay 20 = .ok (.iconst 0, 1) := by decide +kernel
theorem dX12_readDay_21 : decode cX12_readDay 21 = .ok (.istore_n 1, 1) := by decide +kernel
theorem dX12_readDay_22 : decode cX12_readDay 22 = .ok (.iload_n 1, 1) := by decide +kernel
theorem dX12_readDay_23 : decode cX12_readDay 23 = .ok (.bipush 24, 2) := by decide +kernel
theorem dX12_readDay_25 : decode cX12_readDay 25 = .ok (.if_icmp .ge 24, 3) := by decide +kernel
theorem dX12_readDay_28 : decode cX12_readDay 28 = .ok (.aload_n 0, 1) := by decide +kernel
theorem dX12_readDay_29 : decode cX12_readDay 29 = .ok (.getfield 22, 3) := by decide +kernel
theorem dX12_readDay_32 : decode cX12_readDay 32 = .ok (.iconst 4, 1) := by decide +kernel
theorem dX12_readDay_33 : decode cX12_readDay 33 = .ok (.iload_n 1, 1) := by decide +kernel
theorem dX12_readDay_34 : decode cX12_readDay 34 = .ok (.iadd, 1) := by decide +kernel
theorem dX12_readDay_35 : decode cX12_readDay 35 = .ok (.aload_n 0, 1) := by decide +kernel
theorem dX12_readDay_36 : decode cX12_readDay 36 = .ok (.iconst 0, 1) := by decide +kernel
theorem dX12_readDay_37 : decode cX12_readDay 37 = .ok (.bipush 99, 2) := by decide +kernel
theorem dX12_readDay_39 : decode cX12_readDay 39 = .ok (.invokevirtual 148, 3) := by decide +kernel
theorem dX12_readDay_42 : decode cX12_readDay 42 = .ok (.iastore, 1) := by decide +kernel
theorem dX12_readDay_43 : decode cX12_readDay 43 = .ok (.iinc 1 1, 3) := by decide +kernel
theorem dX12_readDay_46 : decode cX12_readDay 46 = .ok (.goto (-24), 3) := by decide +kernel
theorem dX12_readDay_49 : decode cX12_readDay 49 = .ok (.aload_n 0, 1) := by decide +kernel
theorem dX12_readDay_50 : decode cX12_readDay 50 = .ok (.invokevirtual 152, 3) := by decide +kernel
theorem dX12_readDay_53 : decode cX12_readDay 53 = .ok (.return_, 1) := by decide +kernel
theorem dX12_readLine_0 : decode cX12_readLine 0 = .ok (.aload_n 0, 1) := by decide +kernel
theorem dX12_readLine_1 : decode cX12_readLine 1 = .ok (.iconst 0, 1) := by decide +kernel
theorem dX12_readLine_2 : decode cX12_readLine 2 = .ok (.bipush 8, 2) := by decide +kernel
theorem dX12_readLine_4 : decode cX12_readLine 4 = .ok (.invokevirtual 155, 3) := by decide +kernel
theorem dX12_readLine_7 : decode cX12_readLine 7 = .ok (.aload_n 0, 1) := by decide +kernel
theorem dX12_readLine_8 : decode cX12_readLine 8 = .ok (.iconst 0, 1) := by decide +kernel
theorem dX12_readLine_9 : decode cX12_readLine 9 = .ok (.bipush 9, 2) := by decide +kernel
theorem dX12_readLine_11 : decode cX12_readLine 11 = .ok (.invokevirtual 148, 3) := by decide +kernel
theorem dX12_readLine_14 : decode cX12_readLine 14 = .ok (.istore_n 1, 1) := by decide +kernel
theorem dX12_readLine_15 : decode cX12_readLine 15 = .ok (.aload_n 0, 1) := by decide +kernel
theorem dX12_readLine_16 : decode cX12_readLine 16 = .ok (.getfield 111, 3) := by decide +kernel
theorem dX12_readLine_19 : decode cX12_readLine 19 = .ok (.ifCond .ne 28, 3) := by decide +kernel
theorem dX12_readLine_22 : decode cX12_readLine 22 = .ok (.aload_n 0, 1) := by decide +kernel
theorem dX12_readLine_23 : decode cX12_readLine 23 = .ok (.getfield 99, 3) := by decide +kernel
theorem dX12_readLine_26 : decode cX12_readLine 26 = .ok (.iconst 3, 1) := by decide +kernel
theorem dX12_readLine_27 : decode cX12_readLine 27 = .ok (.if_icmp .ne 20, 3) := by decide +kernel
theorem dX12_readLine_30 : decode cX12_readLine 30 = .ok (.aload_n 0, 1) := by decide +kernel
theorem dX12_readLine_31 : decode cX12_readLine 31 = .ok (.iload_n 1, 1) := by decide +kernel
theorem dX12_readLine_32 : decode cX12_readLine 32 = .ok (.aload_n 0, 1) := by decide +kernel
theorem dX12_readLine_33 : decode cX12_readLine 33 = .ok (.invokevirtual 124, 3) := by decide +kernel
theorem dX12_readLine_36 : decode cX12_readLine 36 = .ok (.invokevirtual 159, 3) := by decide +kernel
theorem dX12_readLine_39 : decode cX12_readLine 39 = .ok (.ifCond .eq 8, 3) := by decide +kernel
theorem dX12_readLine_42 : decode cX12_readLine 42 = .ok (.aload_n 0, 1) := by decide +kernel
theorem dX12_readLine_43 : decode cX12_readLine 43 = .ok (.iconst 2, 1) := by decide +kernel
theorem dX12_readLine_44 : decode cX12_readLine 44 = .ok (.invokevirtual 120, 3) := by decide +kernel
theorem dX12_readLine_47 : decode cX12_readLine 47 = .ok (.aload_n 0, 1) := by decide +kernel
theorem dX12_readLine_48 : decode cX12_readLine 48 = .ok (.iconst 0, 1) := by decide +kernel
theorem dX12_readLine_49 : decode cX12_readLine 49 = .ok (.iconst 3, 1) := by decide +kernel
theorem dX12_readLine_50 : decode cX12_readLine 50 = .ok (.invokevirtual 148, 3) := by decide +kernel
theorem dX12_readLine_53 : decode cX12_readLine 53 = .ok (.istore_n 2, 1) := by decide +kernel
theorem dX12_readLine_54 : decode cX12_readLine 54 = .ok (.aload_n 0, 1) := by decide +kernel
theorem dX12_readLine_55 : decode cX12_readLine 55 = .ok (.iconst 1, 1) := by decide +kernel
theorem dX12_readLine_56 : decode cX12_readLine 56 = .ok (.bipush 9, 2) := by decide +kernel
theorem dX12_readLine_58 : decode cX12_readLine 58 = .ok (.invokevirtual 148, 3) := by decide +kernel
theorem dX12_readLine_61 : decode cX12_readLine 61 = .ok (.istore_n 3, 1) := by decide +kernel
theorem dX12_readLine_62 : decode cX12_readLine 62 = .ok (.aload_n 0, 1) := by decide +kernel
theorem dX12_readLine_63 : decode cX12_readLine 63 = .ok (.invokevirtual 152, 3) := by decide +kernel
theorem dX12_readLine_66 : decode cX12_readLine 66 = .ok (.aload_n 0, 1) := by decide +kernel
theorem dX12_readLine_67 : decode cX12_readLine 67 = .ok (.getfield 111, 3) := by decide +kernel
theorem dX12_readLine_70 : decode cX12_readLine 70 = .ok (.ifCond .ne 54, 3) := by decide +kernel
theorem dX12_readLine_73 : decode cX12_readLine 73 = .ok (.bipush 28, 2) := by decide +kernel
theorem dX12_readLine_75 : decode cX12_readLine 75 = .ok (.iconst 3, 1) := by decide +kernel
theorem dX12_readLine_76 : decode cX12_readLine 76 = .ok (.aload_n 0, 1) := by decide +kernel
theorem dX12_readLine_77 : decode cX12_readLine 77 = .ok (.getfield 22, 3) := by decide +kernel
theorem dX12_readLine_80 : decode cX12_readLine 80 = .ok (.iconst 0, 1) := by decide +kernel
theorem dX12_readLine_81 : decode cX12_readLine 81 = .ok (.iaload, 1) := by decide +kernel
theorem dX12_readLine_82 : decode cX12_readLine 82 = .ok (.imul, 1) := by decide +kernel
theorem dX12_readLine_83 : decode cX12_readLine 83 = .ok (.iadd, 1) := by decide +kernel
theorem dX12_readLine_84 : decode cX12_readLine 84 = .ok (.istore 4, 2) := by decide +kernel
theorem dX12_readLine_86 : decode cX12_readLine 86 = .ok (.aload_n 0, 1) := by decide +kernel
theorem dX12_readLine_87 : decode cX12_readLine 87 = .ok (.getfield 22, 3) := by decide +kernel
theorem dX12_readLine_90 : decode cX12_readLine 90 = .ok (.iload 4, 2) := by decide +kernel
theorem dX12_readLine_92 : decode cX12_readLine 92 = .ok (.iload_n 1, 1) := by decide +kernel
theorem dX12_readLine_93 : decode cX12_readLine 93 = .ok (.iastore, 1) := by decide +kernel
theorem dX12_readLine_94 : decode cX12_readLine 94 = .ok (.aload_n 0, 1) := by decide +kernel
theorem dX12_readLine_95 : decode cX12_readLine 95 = .ok (.getfield 22, 3) := by decide +kernel
theorem dX12_readLine_98 : decode cX12_readLine 98 = .ok (.iload 4, 2) := by decide +kernel
theorem dX12_readLine_100 : decode cX12_readLine 100 = .ok (.iconst 1, 1) := by decide +kernel
theorem dX12_readLine_101 : decode cX12_readLine 101 = .ok (.iadd, 1) := by decide +kernel
theorem dX12_readLine_102 : decode cX12_readLine 102 = .ok (.iload_n 2, 1) := by decide +kernel
theorem dX12_readLine_103 : decode cX12_readLine 103 = .ok (.iastore, 1) := by decide +kernel
theorem dX12_readLine_104 : decode cX12_readLine 104 = .ok (.aload_n 0, 1) := by decide +kernel
theorem dX12_readLine_105 : decode cX12_readLine 105 = .ok (.getfield 22, 3) := by decide +kernel
theorem dX12_readLine_108 : decode cX12_readLine 108 = .ok (.iload 4, 2) := by decide +kernel
theorem dX12_readLine_110 : decode cX12_readLine 110 = .ok (.iconst 2, 1) := by decide +kernel
theorem dX12_readLine_111 : decode cX12_readLine 111 = .ok (.iadd, 1) := by decide +kernel
theorem dX12_readLine_112 : decode cX12_readLine 112 = .ok (.iload_n 3, 1) := by decide +kernel
theorem dX12_readLine_113 : decode cX12_readLine 113 = .ok (.iastore, 1) := by decide +kernel
theorem dX12_readLine_114 : decode cX12_readLine 114 = .ok (.aload_n 0, 1) := by decide +kernel
theorem dX12_readLine_115 : decode cX12_readLine 115 = .ok (.getfield 22, 3) := by decide +kernel
theorem dX12_readLine_118 : decode cX12_readLine 118 = .ok (.iconst 0, 1) := by decide +kernel
theorem dX12_readLine_119 : decode cX12_readLine 119 = .ok (.dup2, 1) := by decide +kernel
theorem dX12_readLine_120 : decode cX12_readLine 120 = .ok (.iaload, 1) := by decide +kernel
theorem dX12_readLine_121 : decode cX12_readLine 121 = .ok (.iconst 1, 1) := by decide +kernel
theorem dX12_readLine_122 : decode cX12_readLine 122 = .ok (.iadd, 1) := by decide +kernel
theorem dX12_readLine_123 : decode cX12_readLine 123 = .ok (.iastore, 1) := by decide +kernel
theorem dX12_readLine_124 : decode cX12_readLine 124 = .ok (.return_, 1) := by decide +kernel
theorem dX12_readRight_0 : decode cX12_readRight 0 = .ok (.aload_n 0, 1) := by decide +kernel
theorem dX12_readRight_1 : decode cX12_readRight 1 = .ok (.iconst 1, 1) := by decide +kernel
theorem dX12_readRight_2 : decode cX12_readRight 2 = .ok (.bipush 8, 2) := by decide +kernel
theorem dX12_readRight_4 : decode cX12_readRight 4 = .ok (.invokevirtual 155, 3) := by decide +kernel
theorem dX12_readRight_7 : decode cX12_readRight 7 = .ok (.aload_n 0, 1) := by decide +kernel
theorem dX12_readRight_8 : decode cX12_readRight 8 = .ok (.iconst 0, 1) := by decide +kernel
theorem dX12_readRight_9 : decode cX12_readRight 9 = .ok (.aload_n 0, 1) := by decide +kernel
theorem dX12_readRight_10 : decode cX12_readRight 10 = .ok (.getfield 22, 3) := by decide +kernel
theorem dX12_readRight_13 : decode cX12_readRight 13 = .ok (.iconst 0, 1) := by decide +kernel
theorem dX12_readRight_14 : decode cX12_readRight 14 = .ok (.iaload, 1) := by decide +kernel
theorem dX12_readRight_15 : decode cX12_readRight 15 = .ok (.iconst 1, 1) := by decide +kernel
theorem dX12_readRight_16 : decode cX12_readRight 16 = .ok (.isub, 1) := by decide +kernel
theorem dX12_readRight_17 : decode cX12_readRight 17 = .ok (.invokevirtual 148, 3) := by decide +kernel
theorem dX12_readRight_20 : decode cX12_readRight 20 = .ok (.istore_n 1, 1) := by decide +kernel
theorem dX12_readRight_21 : decode cX12_readRight 21 = .ok (.aload_n 0, 1) := by decide +kernel
theorem dX12_readRight_22 : decode cX12_readRight 22 = .ok (.iconst 0, 1) := by decide +kernel
theorem dX12_readRight_23 : decode cX12_readRight 23 = .ok (.bipush 23, 2) := by decide +kernel
theorem dX12_readRight_25 : decode cX12_readRight 25 = .ok (.invokevirtual 148, 3) := by decide +kernel
theorem dX12_readRight_28 : decode cX12_readRight 28 = .ok (.istore_n 2, 1) := by decide +kernel
theorem dX12_readRight_29 : decode cX12_readRight 29 = .ok (.aload_n 0, 1) := by decide +kernel
theorem dX12_readRight_30 : decode cX12_readRight 30 = .ok (.iload_n 2, 1) := by decide +kernel
theorem dX12_readRight_31 : decode cX12_readRight 31 = .ok (.bipush 23, 2) := by decide +kernel
theorem dX12_readRight_33 : decode cX12_readRight 33 = .ok (.invokevirtual 148, 3) := by decide +kernel
theorem dX12_readRight_36 : decode cX12_readRight 36 = .ok (.istore_n 3, 1) := by decide +kernel
theorem dX12_readRight_37 : decode cX12_readRight 37 = .ok (.aload_n 0, 1) := by decide +kernel
theorem dX12_readRight_38 : decode cX12_readRight 38 = .ok (.iconst 0, 1) := by decide +kernel
theorem dX12_readRight_39 : decode cX12_readRight 39 = .ok (.iconst 5, 1) := by decide +kernel
theorem dX12_readRight_40 : decode cX12_readRight 40 = .ok (.invokevirtual 148, 3) := by decide +kernel
theorem dX12_readRight_43 : decode cX12_readRight 43 = .ok (.istore 4, 2) := by decide +kernel
theorem dX12_readRight_45 : decode cX12_readRight 45 = .ok (.aload_n 0, 1) := by decide +kernel
theorem dX12_readRight_46 : decode cX12_readRight 46 = .ok (.invokevirtual 152, 3) := by decide +kernel
theorem dX12_readRight_49 : decode cX12_readRight 49 = .ok (.aload_n 0, 1) := by decide +kernel
theorem dX12_readRight_50 : decode cX12_readRight 50 = .ok (.getfield 111, 3) := by decide +kernel
theorem dX12_readRight_53 : decode cX12_readRight 53 = .ok (.ifCond .ne 65, 3) := by decide +kernel
theorem dX12_readRight_56 : decode cX12_readRight 56 = .ok (.bipush 52, 2) := by decide +kernel
theorem dX12_readRight_58 : decode cX12_readRight 58 = .ok (.iconst 4, 1) := by decide +kernel
theorem dX12_readRight_59 : decode cX12_readRight 59 = .ok (.aload_n 0, 1) := by decide +kernel
theorem dX12_readRight_60 : decode cX12_readRight 60 = .ok (.getfield 22, 3) := by decide +kernel
theorem dX12_readRight_63 : decode cX12_readRight 63 = .ok (.iconst 1, 1) := by decide +kernel
theorem dX12_readRight_64 : decode cX12_readRight 64 = .ok (.iaload, 1) := by decide +kernel
theorem dX12_readRight_65 : decode cX12_readRight 65 = .ok (.imul, 1) := by decide +kernel
theorem dX12_readRight_66 : decode cX12_readRight 66 = .ok (.iadd, 1) := by decide +kernel
theorem dX12_readRight_67 : decode cX12_readRight 67 = .ok (.istore 5, 2) := by decide +kernel
theorem dX12_readRight_69 : decode cX12_readRight 69 = .ok (.aload_n 0, 1) := by decide +kernel
theorem dX12_readRight_70 : decode cX12_readRight 70 = .ok (.getfield 22, 3) := by decide +kernel
theorem dX12_readRight_73 : decode cX12_readRight 73 = .ok (.iload 5, 2) := by decide +kernel
theorem dX12_readRight_75 : decode cX12_readRight 75 = .ok (.iload_n 1, 1) := by decide +kernel
theorem dX12_readRight_76 : decode cX12_readRight 76 = .ok (.iastore, 1) := by decide +kernel
theorem dX12_readRight_77 : decode cX12_readRight 77 = .ok (.aload_n 0, 1) := by decide +kernel
theorem dX12_readRight_78 : decode cX12_readRight 78 = .ok (.getfield 22, 3) := by decide +kernel
theorem dX12_readRight_81 : decode cX12_readRight 81 = .ok (.iload 5, 2) := by decide +kernel
theorem dX12_readRight_83 : decode cX12_readRight 83 = .ok (.iconst 1, 1) := by decide +kernel
theorem dX12_readRight_84 : decode cX12_readRight 84 = .ok (.iadd, 1) := by decide +kernel
theorem dX12_readRight_85 : decode cX12_readRight 85 = .ok (.iload_n 2, 1) := by decide +kernel
theorem dX12_readRight_86 : decode cX12_readRight 86 = .ok (.iastore, 1) := by decide +kernel
theorem dX12_readRight_87 : decode cX12_readRight 87 = .ok (.aload_n 0, 1) := by decide +kernel
theorem dX12_readRight_88 : decode cX12_readRight 88 = .ok (.getfield 22, 3) := by decide +kernel
theorem dX12_readRight_91 : decode cX12_readRight 91 = .ok (.iload 5, 2) := by decide +kernel
theorem dX12_readRight_93 : decode cX12_readRight 93 = .ok (.iconst 2, 1) := by decide +kernel
theorem dX12_readRight_94 : decode cX12_readRight 94 = .ok (.iadd, 1) := by decide +kernel
theorem dX12_readRight_95 : decode cX12_readRight 95 = .ok (.iload_n 3, 1) := by decide +kernel
theorem dX12_readRight_96 : decode cX12_readRight 96 = .ok (.iastore, 1) := by decide +kernel
theorem dX12_readRight_97 : decode cX12_readRight 97 = .ok (.aload_n 0, 1) := by decide +kernel
theorem dX12_readRight_98 : decode cX12_readRight 98 = .ok (.getfield 22, 3) := by decide +kernel
theorem dX12_readRight_101 : decode cX12_readRight 101 = .ok (.iload 5, 2) := by decide +kernel
theorem dX12_readRight_103 : decode cX12_readRight 103 = .ok (.iconst 3, 1) := by decide +kernel
theorem dX12_readRight_104 : decode cX12_readRight 104 = .ok (.iadd, 1) := by decide +kernel
theorem dX12_readRight_105 : decode cX12_readRight 105 = .ok (.iload 4, 2) := by decide +kernel
theorem dX12_readRight_107 : decode cX12_readRight 107 = .ok (.iastore, 1) := by decide +kernel
theorem dX12_readRight_108 : decode cX12_readRight 108 = .ok (.aload_n 0, 1) := by decide +kernel
theorem dX12_readRight_109 : decode cX12_readRight 109 = .ok (.getfield 22, 3) := by decide +kernel
theorem dX12_readRight_112 : decode cX12_readRight 112 = .ok (.iconst 1, 1) := by decide +kernel
theorem dX12_readRight_113 : decode cX12_readRight 113 = .ok (.dup2, 1) := by decide +kernel
theorem dX12_readRight_114 : decode cX12_readRight 114 = .ok (.iaload, 1) := by decide +kernel
theorem dX12_readRight_115 : decode cX12_readRight 115 = .ok (.iconst 1, 1) := by decide +kernel
theorem dX12_readRight_116 : decode cX12_readRight 116 = .ok (.iadd, 1) := by decide +kernel
theorem dX12_readRight_117 : decode cX12_readRight 117 = .ok (.iastore, 1) := by decide +kernel
theorem dX12_readRight_118 : decode cX12_readRight 118 = .ok (.return_, 1) := by decide +kernel
theorem dX12_readPiece_0 : decode cX12_readPiece 0 = .ok (.aload_n 0, 1) := by decide +kernel
theorem dX12_readPiece_1 : decode cX12_readPiece 1 = .ok (.iconst 2, 1) := by decide +kernel
theorem dX12_readPiece_2 : decode cX12_readPiece 2 = .ok (.bipush 10, 2) := by decide +kernel
theorem dX12_readPiece_4 : decode cX12_readPiece 4 = .ok (.invokevirtual 155, 3) := by decide +kernel
theorem dX12_readPiece_7 : decode cX12_readPiece 7 = .ok (.aload_n 0, 1) := by decide +kernel
theorem dX12_readPiece_8 : decode cX12_readPiece 8 = .ok (.invokevirtual 142, 3) := by decide +kernel
theorem dX12_readPiece_11 : decode cX12_readPiece 11 = .ok (.invokestatic 163, 3) := by decide +kernel
theorem dX12_readPiece_14 : decode cX12_readPiece 14 = .ok (.istore_n 1, 1) := by decide +kernel
theorem dX12_readPiece_15 : decode cX12_readPiece 15 = .ok (.aload_n 0, 1) := by decide +kernel
theorem dX12_readPiece_16 : decode cX12_readPiece 16 = .ok (.getfield 111, 3) := by decide +kernel
theorem dX12_readPiece_19 : decode cX12_readPiece 19 = .ok (.ifCond .ne 18, 3) := by decide +kernel
theorem dX12_readPiece_22 : decode cX12_readPiece 22 = .ok (.aload_n 0, 1) := by decide +kernel
theorem dX12_readPiece_23 : decode cX12_readPiece 23 = .ok (.iload_n 1, 1) := by decide +kernel
theorem dX12_readPiece_24 : decode cX12_readPiece 24 = .ok (.ldc 89, 2) := by decide +kernel
theorem dX12_readPiece_26 : decode cX12_readPiece 26 = .ok (.if_icmp .eq 7, 3) := by decide +kernel
theorem dX12_readPiece_29 : decode cX12_readPiece 29 = .ok (.iconst 1, 1) := by decide +kernel
theorem dX12_readPiece_30 : decode cX12_readPiece 30 = .ok (.goto 4, 3) := by decide +kernel
theorem dX12_readPiece_33 : decode cX12_readPiece 33 = .ok (.iconst 0, 1) := by decide +kernel
theorem dX12_readPiece_34 : decode cX12_readPiece 34 = .ok (.invokevirtual 128, 3) := by decide +kernel
theorem dX12_readPiece_37 : decode cX12_readPiece 37 = .ok (.aload_n 0, 1) := by decide +kernel
theorem dX12_readPiece_38 : decode cX12_readPiece 38 = .ok (.iconst 0, 1) := by decide +kernel
theorem dX12_readPiece_39 : decode cX12_readPiece 39 = .ok (.iconst 5, 1) := by decide +kernel
theorem dX12_readPiece_40 : decode cX12_readPiece 40 = .ok (.invokevirtual 148, 3) := by decide +kernel
theorem dX12_readPiece_43 : decode cX12_readPiece 43 = .ok (.istore_n 2, 1) := by decide +kernel
theorem dX12_readPiece_44 : decode cX12_readPiece 44 = .ok (.aload_n 0, 1) := by decide +kernel
theorem dX12_readPiece_45 : decode cX12_readPiece 45 = .ok (.iconst 0, 1) := by decide +kernel
theorem dX12_readPiece_46 : decode cX12_readPiece 46 = .ok (.bipush 99, 2) := by decide +kernel
theorem dX12_readPiece_48 : decode cX12_readPiece 48 = .ok (.invokevirtual 148, 3) := by decide +kernel
theorem dX12_readPiece_51 : decode cX12_readPiece 51 = .ok (.istore_n 3, 1) := by decide +kernel
theorem dX12_readPiece_52 : decode cX12_readPiece 52 = .ok (.aload_n 0, 1) := by decide +kernel
theorem dX12_readPiece_53 : decode cX12_readPiece 53 = .ok (.iconst 1, 1) := by decide +kernel
theorem dX12_readPiece_54 : decode cX12_readPiece 54 = .ok (.bipush 9, 2) := by decide +kernel
theorem dX12_readPiece_56 : decode cX12_readPiece 56 = .ok (.invokevirtual 148, 3) := by decide +kernel
theorem dX12_readPiece_59 : decode cX12_readPiece 59 = .ok (.istore 4, 2) := by decide +kernel
theorem dX12_readPiece_61 : decode cX12_readPiece 61 = .ok (.aload_n 0, 1) := by decide +kernel
theorem dX12_readPiece_62 : decode cX12_readPiece 62 = .ok (.invokevirtual 152, 3) := by decide +kernel
theorem dX12_readPiece_65 : decode cX12_readPiece 65 = .ok (.aload_n 0, 1) := by decide +kernel
theorem dX12_readPiece_66 : decode cX12_readPiece 66 = .ok (.getfield 111, 3) := by decide +kernel
theorem dX12_readPiece_69 : decode cX12_readPiece 69 = .ok (.ifCond .ne 77, 3) := by decide +kernel
theorem dX12_readPiece_72 : decode cX12_readPiece 72 = .ok (.bipush 84, 2) := by decide +kernel
theorem dX12_readPiece_74 : decode cX12_readPiece 74 = .ok (.bipush 6, 2) := by decide +kernel
theorem dX12_readPiece_76 : decode cX12_readPiece 76 = .ok (.aload_n 0, 1) := by decide +kernel
theorem dX12_readPiece_77 : decode cX12_readPiece 77 = .ok (.getfield 22, 3) := by decide +kernel
theorem dX12_readPiece_80 : decode cX12_readPiece 80 = .ok (.iconst 2, 1) := by decide +kernel
theorem dX12_readPiece_81 : decode cX12_readPiece 81 = .ok (.iaload, 1) := by decide +kernel
theorem dX12_readPiece_82 : decode cX12_readPiece 82 = .ok (.imul, 1) := by decide +kernel
theorem dX12_readPiece_83 : decode cX12_readPiece 83 = .ok (.iadd, 1) := by decide +kernel
theorem dX12_readPiece_84 : decode cX12_readPiece 84 = .ok (.istore 5, 2) := by decide +kernel
theorem dX12_readPiece_86 : decode cX12_readPiece 86 = .ok (.aload_n 0, 1) := by decide +kernel
theorem dX12_readPiece_87 : decode cX12_readPiece 87 = .ok (.getfield 22, 3) := by decide +kernel
theorem dX12_readPiece_90 : decode cX12_readPiece 90 = .ok (.iload 5, 2) := by decide +kernel
theorem dX12_readPiece_92 : decode cX12_readPiece 92 = .ok (.iload_n 1, 1) := by decide +kernel
theorem dX12_readPiece_93 : decode cX12_readPiece 93 = .ok (.iastore, 1) := by decide +kernel
theorem dX12_readPiece_94 : decode cX12_readPiece 94 = .ok (.aload_n 0, 1) := by decide +kernel
theorem dX12_readPiece_95 : decode cX12_readPiece 95 = .ok (.getfield 22, 3) := by decide +kernel
theorem dX12_readPiece_98 : decode cX12_readPiece 98 = .ok (.iload 5, 2) := by decide +kernel
theorem dX12_readPiece_100 : decode cX12_readPiece 100 = .ok (.iconst 1, 1) := by decide +kernel
theorem dX12_readPiece_101 : decode cX12_readPiece 101 = .ok (.iadd, 1) := by decide +kernel
theorem dX12_readPiece_102 : decode cX12_readPiece 102 = .ok (.iload_n 2, 1) := by decide +kernel
theorem dX12_readPiece_103 : decode cX12_readPiece 103 = .ok (.iastore, 1) := by decide +kernel
theorem dX12_readPiece_104 : decode cX12_readPiece 104 = .ok (.aload_n 0, 1) := by decide +kernel
theorem dX12_readPiece_105 : decode cX12_readPiece 105 = .ok (.getfield 22, 3) := by decide +kernel
theorem dX12_readPiece_108 : decode cX12_readPiece 108 = .ok (.iload 5, 2) := by decide +kernel
theorem dX12_readPiece_110 : decode cX12_readPiece 110 = .ok (.iconst 2, 1) := by decide +kernel
theorem dX12_readPiece_111 : decode cX12_readPiece 111 = .ok (.iadd, 1) := by decide +kernel
theorem dX12_readPiece_112 : decode cX12_readPiece 112 = .ok (.iload_n 3, 1) := by decide +kernel
theorem dX12_readPiece_113 : decode cX12_readPiece 113 = .ok (.iastore, 1) := by decide +kernel
theorem dX12_readPiece_114 : decode cX12_readPiece 114 = .ok (.aload_n 0, 1) := by decide +kernel
theorem dX12_readPiece_115 : decode cX12_readPiece 115 = .ok (.getfield 22, 3) := by decide +kernel
theorem dX12_readPiece_118 : decode cX12_readPiece 118 = .ok (.iload 5, 2) := by decide +kernel
theorem dX12_readPiece_120 : decode cX12_readPiece 120 = .ok (.iconst 3, 1) := by decide +kernel
theorem dX12_readPiece_121 : decode cX12_readPiece 121 = .ok (.iadd, 1) := by decide +kernel
theorem dX12_readPiece_122 : decode cX12_readPiece 122 = .ok (.iload 4, 2) := by decide +kernel
theorem dX12_readPiece_124 : decode cX12_readPiece 124 = .ok (.iastore, 1) := by decide +kernel
theorem dX12_readPiece_125 : decode cX12_readPiece 125 = .ok (.aload_n 0, 1) := by decide +kernel
theorem dX12_readPiece_126 : decode cX12_readPiece 126 = .ok (.getfield 22, 3) := by decide +kernel
theorem dX12_readPiece_129 : decode cX12_readPiece 129 = .ok (.iload 5, 2) := by decide +kernel
theorem dX12_readPiece_131 : decode cX12_readPiece 131 = .ok (.iconst 4, 1) := by decide +kernel
theorem dX12_readPiece_132 : decode cX12_readPiece 132 = .ok (.iadd, 1) := by decide +kernel
theorem dX12_readPiece_133 : decode cX12_readPiece 133 = .ok (.ldc 89, 2) := by decide +kernel
theorem dX12_readPiece_135 : decode cX12_readPiece 135 = .ok (.iastore, 1) := by decide +kernel
theorem dX12_readPiece_136 : decode cX12_readPiece 136 = .ok (.aload_n 0, 1) := by decide +kernel
theorem dX12_readPiece_137 : decode cX12_readPiece 137 = .ok (.getfield 22, 3) := by decide +kernel
theorem dX12_readPiece_140 : decode cX12_readPiece 140 = .ok (.iconst 2, 1) := by decide +kernel
theorem dX12_readPiece_141 : decode cX12_readPiece 141 = .ok (.dup2, 1) := by decide +kernel
theorem dX12_readPiece_142 : decode cX12_readPiece 142 = .ok (.iaload, 1) := by decide +kernel
theorem dX12_readPiece_143 : decode cX12_readPiece 143 = .ok (.iconst 1, 1) := by decide +kernel
theorem dX12_readPiece_144 : decode cX12_readPiece 144 = .ok (.iadd, 1) := by decide +kernel
theorem dX12_readPiece_145 : decode cX12_readPiece 145 = .ok (.iastore, 1) := by decide +kernel
theorem dX12_readPiece_146 : decode cX12_readPiece 146 = .ok (.return_, 1) := by decide +kernel
theorem dX12_court_0 : decode cX12_court 0 = .ok (.aload_n 0, 1) := by decide +kernel
theorem dX12_court_1 : decode cX12_court 1 = .ok (.iconst 0, 1) := by decide +kernel
theorem dX12_court_2 : decode cX12_court 2 = .ok (.putfield 53, 3) := by decide +kernel
theorem dX12_court_5 : decode cX12_court 5 = .ok (.aload_n 0, 1) := by decide +kernel
theorem dX12_court_6 : decode cX12_court 6 = .ok (.invokevirtual 167, 3) := by decide +kernel
theorem dX12_court_9 : decode cX12_court 9 = .ok (.iconst 0, 1) := by decide +kernel
theorem dX12_court_10 : decode cX12_court 10 = .ok (.istore_n 1, 1) := by decide +kernel
theorem dX12_court_11 : decode cX12_court 11 = .ok (.iload_n 1, 1) := by decide +kernel
theorem dX12_court_12 : decode cX12_court 12 = .ok (.sipush 144, 3) := by decide +kernel
theorem dX12_court_15 : decode cX12_court 15 = .ok (.if_icmp .ge 16, 3) := by decide +kernel
theorem dX12_court_18 : decode cX12_court 18 = .ok (.aload_n 0, 1) := by decide +kernel
theorem dX12_court_19 : decode cX12_court 19 = .ok (.getfield 22, 3) := by decide +kernel
theorem dX12_court_22 : decode cX12_court 22 = .ok (.iload_n 1, 1) := by decide +kernel
theorem dX12_court_23 : decode cX12_court 23 = .ok (.iconst 0, 1) := by decide +kernel
theorem dX12_court_24 : decode cX12_court 24 = .ok (.iastore, 1) := by decide +kernel
theorem dX12_court_25 : decode cX12_court 25 = .ok (.iinc 1 1, 3) := by decide +kernel
theorem dX12_court_28 : decode cX12_court 28 = .ok (.goto (-17), 3) := by decide +kernel
theorem dX12_court_31 : decode cX12_court 31 = .ok (.aload_n 0, 1) := by decide +kernel
theorem dX12_court_32 : decode cX12_court 32 = .ok (.invokevirtual 170, 3) := by decide +kernel
theorem dX12_court_35 : decode cX12_court 35 = .ok (.aload_n 0, 1) := by decide +kernel
theorem dX12_court_36 : decode cX12_court 36 = .ok (.invokevirtual 142, 3) := by decide +kernel
theorem dX12_court_39 : decode cX12_court 39 = .ok (.ldc2_w 173, 3) := by decide +kernel
theorem dX12_court_42 : decode cX12_court 42 = .ok (.lcmp, 1) := by decide +kernel
theorem dX12_court_43 : decode cX12_court 43 = .ok (.ifCond .eq 8, 3) := by decide +kernel
theorem dX12_court_46 : decode cX12_court 46 = .ok (.aload_n 0, 1) := by decide +kernel
theorem dX12_court_47 : decode cX12_court 47 = .ok (.iconst 1, 1) := by decide +kernel
theorem dX12_court_48 : decode cX12_court 48 = .ok (.invokevirtual 120, 3) := by decide +kernel
theorem dX12_court_51 : decode cX12_court 51 = .ok (.aload_n 0, 1) := by decide +kernel
theorem dX12_court_52 : decode cX12_court 52 = .ok (.invokevirtual 142, 3) := by decide +kernel
theorem dX12_court_55 : decode cX12_court 55 = .ok (.ldc2_w 173, 3) := by decide +kernel
theorem dX12_court_58 : decode cX12_court 58 = .ok (.lcmp, 1) := by decide +kernel
theorem dX12_court_59 : decode cX12_court 59 = .ok (.ifCond .ne 10, 3) := by decide +kernel
theorem dX12_court_62 : decode cX12_court 62 = .ok (.aload_n 0, 1) := by decide +kernel
theorem dX12_court_63 : decode cX12_court 63 = .ok (.invokevirtual 175, 3) := by decide +kernel
theorem dX12_court_66 : decode cX12_court 66 = .ok (.goto (-15), 3) := by decide +kernel
theorem dX12_court_69 : decode cX12_court 69 = .ok (.aload_n 0, 1) := by decide +kernel
theorem dX12_court_70 : decode cX12_court 70 = .ok (.invokevirtual 142, 3) := by decide +kernel
theorem dX12_court_73 : decode cX12_court 73 = .ok (.ldc2_w 178, 3) := by decide +kernel
theorem dX12_court_76 : decode cX12_court 76 = .ok (.lcmp, 1) := by decide +kernel
theorem dX12_court_77 : decode cX12_court 77 = .ok (.ifCond .ne 10, 3) := by decide +kernel
theorem dX12_court_80 : decode cX12_court 80 = .ok (.aload_n 0, 1) := by decide +kernel
theorem dX12_court_81 : decode cX12_court 81 = .ok (.invokevirtual 180, 3) := by decide +kernel
theorem dX12_court_84 : decode cX12_court 84 = .ok (.goto (-15), 3) := by decide +kernel
theorem dX12_court_87 : decode cX12_court 87 = .ok (.aload_n 0, 1) := by decide +kernel
theorem dX12_court_88 : decode cX12_court 88 = .ok (.invokevirtual 142, 3) := by decide +kernel
theorem dX12_court_91 : decode cX12_court 91 = .ok (.ldc2_w 183, 3) := by decide +kernel
theorem dX12_court_94 : decode cX12_court 94 = .ok (.lcmp, 1) := by decide +kernel
theorem dX12_court_95 : decode cX12_court 95 = .ok (.ifCond .ne 10, 3) := by decide +kernel
theorem dX12_court_98 : decode cX12_court 98 = .ok (.aload_n 0, 1) := by decide +kernel
theorem dX12_court_99 : decode cX12_court 99 = .ok (.invokevirtual 185, 3) := by decide +kernel
theorem dX12_court_102 : decode cX12_court 102 = .ok (.goto (-15), 3) := by decide +kernel
theorem dX12_court_105 : decode cX12_court 105 = .ok (.aload_n 0, 1) := by decide +kernel
theorem dX12_court_106 : decode cX12_court 106 = .ok (.getfield 111, 3) := by decide +kernel
theorem dX12_court_109 : decode cX12_court 109 = .ok (.ifCond .ne 16, 3) := by decide +kernel
theorem dX12_court_112 : decode cX12_court 112 = .ok (.aload_n 0, 1) := by decide +kernel
theorem dX12_court_113 : decode cX12_court 113 = .ok (.getfield 99, 3) := by decide +kernel
theorem dX12_court_116 : decode cX12_court 116 = .ok (.iconst 1, 1) := by decide +kernel
theorem dX12_court_117 : decode cX12_court 117 = .ok (.if_icmp .eq 8, 3) := by decide +kernel
theorem dX12_court_120 : decode cX12_court 120 = .ok (.aload_n 0, 1) := by decide +kernel
theorem dX12_court_121 : decode cX12_court 121 = .ok (.iconst 1, 1) := by decide +kernel
theorem dX12_court_122 : decode cX12_court 122 = .ok (.invokevirtual 120, 3) := by decide +kernel
theorem dX12_court_125 : decode cX12_court 125 = .ok (.aload_n 0, 1) := by decide +kernel
theorem dX12_court_126 : decode cX12_court 126 = .ok (.getfield 111, 3) := by decide +kernel
theorem dX12_court_129 : decode cX12_court 129 = .ok (.ifCond .le 19, 3) := by decide +kernel
theorem dX12_court_132 : decode cX12_court 132 = .ok (.aload_n 0, 1) := by decide +kernel
theorem dX12_court_133 : decode cX12_court 133 = .ok (.aload_n 0, 1) := by decide +kernel
theorem dX12_court_134 : decode cX12_court 134 = .ok (.getfield 111, 3) := by decide +kernel
theorem dX12_court_137 : decode cX12_court 137 = .ok (.putfield 188, 3) := by decide +kernel
theorem dX12_court_140 : decode cX12_court 140 = .ok (.ldc 191, 2) := by decide +kernel
theorem dX12_court_142 : decode cX12_court 142 = .ok (.aload_n 0, 1) := by decide +kernel
theorem dX12_court_143 : decode cX12_court 143 = .ok (.getfield 117, 3) := by decide +kernel
theorem dX12_court_146 : decode cX12_court 146 = .ok (.isub, 1) := by decide +kernel
theorem dX12_court_147 : decode cX12_court 147 = .ok (.ireturn, 1) := by decide +kernel
theorem dX12_court_148 : decode cX12_court 148 = .ok (.aload_n 0, 1) := by decide +kernel
theorem dX12_court_149 : decode cX12_court 149 = .ok (.iconst 1, 1) := by decide +kernel
theorem dX12_court_150 : decode cX12_court 150 = .ok (.putfield 192, 3) := by decide +kernel
theorem dX12_court_153 : decode cX12_court 153 = .ok (.iconst 0, 1) := by decide +kernel
theorem dX12_court_154 : decode cX12_court 154 = .ok (.istore_n 1, 1) := by decide +kernel
theorem dX12_court_155 : decode cX12_court 155 = .ok (.iload_n 1, 1) := by decide +kernel
theorem dX12_court_156 : decode cX12_court 156 = .ok (.sipush 144, 3) := by decide +kernel
theorem dX12_court_159 : decode cX12_court 159 = .ok (.if_icmp .ge 21, 3) := by decide +kernel
theorem dX12_court_162 : decode cX12_court 162 = .ok (.aload_n 0, 1) := by decide +kernel
theorem dX12_court_163 : decode cX12_court 163 = .ok (.getfield 19, 3) := by decide +kernel
theorem dX12_court_166 : decode cX12_court 166 = .ok (.iload_n 1, 1) := by decide +kernel
theorem dX12_court_167 : decode cX12_court 167 = .ok (.aload_n 0, 1) := by decide +kernel
theorem dX12_court_168 : decode cX12_court 168 = .ok (.getfield 22, 3) := by decide +kernel
theorem dX12_court_171 : decode cX12_court 171 = .ok (.iload_n 1, 1) := by decide +kernel
theorem dX12_court_172 : decode cX12_court 172 = .ok (.iaload, 1) := by decide +kernel
theorem dX12_court_173 : decode cX12_court 173 = .ok (.iastore, 1) := by decide +kernel
theorem dX12_court_174 : decode cX12_court 174 = .ok (.iinc 1 1, 3) := by decide +kernel
theorem dX12_court_177 : decode cX12_court 177 = .ok (.goto (-22), 3) := by decide +kernel
theorem dX12_court_180 : decode cX12_court 180 = .ok (.aload_n 0, 1) := by decide +kernel
theorem dX12_court_181 : decode cX12_court 181 = .ok (.getfield 19, 3) := by decide +kernel
theorem dX12_court_184 : decode cX12_court 184 = .ok (.iconst 0, 1) := by decide +kernel
theorem dX12_court_185 : decode cX12_court 185 = .ok (.iaload, 1) := by decide +kernel
theorem dX12_court_186 : decode cX12_court 186 = .ok (.ireturn, 1) := by decide +kernel
theorem dX12_fault_0 : decode cX12_fault 0 = .ok (.aload_n 0, 1) := by decide +kernel
theorem dX12_fault_1 : decode cX12_fault 1 = .ok (.iconst 0, 1) := by decide +kernel
theorem dX12_fault_2 : decode cX12_fault 2 = .ok (.putfield 53, 3) := by decide +kernel
theorem dX12_fault_5 : decode cX12_fault 5 = .ok (.aload_n 0, 1) := by decide +kernel
theorem dX12_fault_6 : decode cX12_fault 6 = .ok (.getfield 188, 3) := by decide +kernel
theorem dX12_fault_9 : decode cX12_fault 9 = .ok (.ireturn, 1) := by decide +kernel
theorem dX12_isLine_0 : decode cX12_isLine 0 = .ok (.iload_n 1, 1) := by decide +kernel
theorem dX12_isLine_1 : decode cX12_isLine 1 = .ok (.i2l, 1) := by decide +kernel
theorem dX12_isLine_2 : decode cX12_isLine 2 = .ok (.lconst 0, 1) := by decide +kernel
theorem dX12_isLine_3 : decode cX12_isLine 3 = .ok (.aload_n 0, 1) := by decide +kernel
theorem dX12_isLine_4 : decode cX12_isLine 4 = .ok (.getfield 19, 3) := by decide +kernel
theorem dX12_isLine_7 : decode cX12_isLine 7 = .ok (.iconst 0, 1) := by decide +kernel
theorem dX12_isLine_8 : decode cX12_isLine 8 = .ok (.iaload, 1) := by decide +kernel
theorem dX12_isLine_9 : decode cX12_isLine 9 = .ok (.iconst 1, 1) := by decide +kernel
theorem dX12_isLine_10 : decode cX12_isLine 10 = .ok (.isub, 1) := by decide +kernel
theorem dX12_isLine_11 : decode cX12_isLine 11 = .ok (.i2l, 1) := by decide +kernel
theorem dX12_isLine_12 : decode cX12_isLine 12 = .ok (.invokestatic 63, 3) := by decide +kernel
theorem dX12_isLine_15 : decode cX12_isLine 15 = .ok (.ireturn, 1) := by decide +kernel
theorem dX12_isPiece_0 : decode cX12_isPiece 0 = .ok (.iload_n 1, 1) := by decide +kernel
theorem dX12_isPiece_1 : decode cX12_isPiece 1 = .ok (.i2l, 1) := by decide +kernel
theorem dX12_isPiece_2 : decode cX12_isPiece 2 = .ok (.lconst 0, 1) := by decide +kernel
theorem dX12_isPiece_3 : decode cX12_isPiece 3 = .ok (.aload_n 0, 1) := by decide +kernel
theorem dX12_isPiece_4 : decode cX12_isPiece 4 = .ok (.getfield 19, 3) := by decide +kernel
theorem dX12_isPiece_7 : decode cX12_isPiece 7 = .ok (.iconst 2, 1) := by decide +kernel
theorem dX12_isPiece_8 : decode cX12_isPiece 8 = .ok (.iaload, 1) := by decide +kernel
theorem dX12_isPiece_9 : decode cX12_isPiece 9 = .ok (.iconst 1, 1) := by decide +kernel
theorem dX12_isPiece_10 : decode cX12_isPiece 10 = .ok (.isub, 1) := by decide +kernel
theorem dX12_isPiece_11 : decode cX12_isPiece 11 = .ok (.i2l, 1) := by decide +kernel
theorem dX12_isPiece_12 : decode cX12_isPiece 12 = .ok (.invokestatic 63, 3) := by decide +kernel
theorem dX12_isPiece_15 : decode cX12_isPiece 15 = .ok (.ireturn, 1) := by decide +kernel
theorem dX12_of_0 : decode cX12_of 0 = .ok (.aload_n 0, 1) := by decide +kernel
theorem dX12_of_1 : decode cX12_of 1 = .ok (.getfield 19, 3) := by decide +kernel
theorem dX12_of_4 : decode cX12_of 4 = .ok (.bipush 84, 2) := by decide +kernel
theorem dX12_of_6 : decode cX12_of 6 = .ok (.bipush 6, 2) := by decide +kernel
theorem dX12_of_8 : decode cX12_of 8 = .ok (.iload_n 1, 1) := by decide +kernel
theorem dX12_of_9 : decode cX12_of 9 = .ok (.imul, 1) := by decide +kernel
theorem dX12_of_10 : decode cX12_of 10 = .ok (.iadd, 1) := by decide +kernel
theorem dX12_of_11 : decode cX12_of 11 = .ok (.iload_n 2, 1) := by decide +kernel
theorem dX12_of_12 : decode cX12_of 12 = .ok (.iadd, 1) := by decide +kernel
theorem dX12_of_13 : decode cX12_of 13 = .ok (.iaload, 1) := by decide +kernel
theorem dX12_of_14 : decode cX12_of 14 = .ok (.ireturn, 1) := by decide +kernel
theorem dX12_floor_0 : decode cX12_floor 0 = .ok (.aload_n 0, 1) := by decide +kernel
theorem dX12_floor_1 : decode cX12_floor 1 = .ok (.getfield 19, 3) := by decide +kernel
theorem dX12_floor_4 : decode cX12_floor 4 = .ok (.bipush 28, 2) := by decide +kernel
theorem dX12_floor_6 : decode cX12_floor 6 = .ok (.iconst 3, 1) := by decide +kernel
theorem dX12_floor_7 : decode cX12_floor 7 = .ok (.iload_n 1, 1) := by decide +kernel
theorem dX12_floor_8 : decode cX12_floor 8 = .ok (.imul, 1) := by decide +kernel
theorem dX12_floor_9 : decode cX12_floor 9 = .ok (.iadd, 1) := by decide +kernel
theorem dX12_floor_10 : decode cX12_floor 10 = .ok (.iaload, 1) := by decide +kernel
theorem dX12_floor_11 : decode cX12_floor 11 = .ok (.ireturn, 1) := by decide +kernel
theorem dX12_below_0 : decode cX12_below 0 = .ok (.ldc 89, 2) := by decide +kernel
theorem dX12_below_2 : decode cX12_below 2 = .ok (.istore_n 2, 1) := by decide +kernel
theorem dX12_below_3 : decode cX12_below 3 = .ok (.iconst 0, 1) := by decide +kernel
theorem dX12_below_4 : decode cX12_below 4 = .ok (.istore_n 3, 1) := by decide +kernel
theorem dX12_below_5 : decode cX12_below 5 = .ok (.iload_n 3, 1) := by decide +kernel
theorem dX12_below_6 : decode cX12_below 6 = .ok (.aload_n 0, 1) := by decide +kernel
theorem dX12_below_7 : decode cX12_below 7 = .ok (.getfield 19, 3) := by decide +kernel
theorem dX12_below_10 : decode cX12_below 10 = .ok (.iconst 0, 1) := by decide +kernel
theorem dX12_below_11 : decode cX12_below 11 = .ok (.iaload, 1) := by decide +kernel
theorem dX12_below_12 : decode cX12_below 12 = .ok (.if_icmp .ge 88, 3) := by decide +kernel
theorem dX12_below_15 : decode cX12_below 15 = .ok (.aload_n 0, 1) := by decide +kernel
theorem dX12_below_16 : decode cX12_below 16 = .ok (.getfield 19, 3) := by decide +kernel
theorem dX12_below_19 : decode cX12_below 19 = .ok (.bipush 28, 2) := by decide +kernel
theorem dX12_below_21 : decode cX12_below 21 = .ok (.iconst 3, 1) := by decide +kernel
theorem dX12_below_22 : decode cX12_below 22 = .ok (.iload_n 3, 1) := by decide +kernel
theorem dX12_below_23 : decode cX12_below 23 = .ok (.imul, 1) := by decide +kernel
theorem dX12_below_24 : decode cX12_below 24 = .ok (.iadd, 1) := by decide +kernel
theorem dX12_below_25 : decode cX12_below 25 = .ok (.iconst 1, 1) := by decide +kernel
theorem dX12_below_26 : decode cX12_below 26 = .ok (.iadd, 1) := by decide +kernel
theorem dX12_below_27 : decode cX12_below 27 = .ok (.iaload, 1) := by decide +kernel
theorem dX12_below_28 : decode cX12_below 28 = .ok (.aload_n 0, 1) := by decide +kernel
theorem dX12_below_29 : decode cX12_below 29 = .ok (.getfield 19, 3) := by decide +kernel
theorem dX12_below_32 : decode cX12_below 32 = .ok (.bipush 28, 2) := by decide +kernel
theorem dX12_below_34 : decode cX12_below 34 = .ok (.iconst 3, 1) := by decide +kernel
theorem dX12_below_35 : decode cX12_below 35 = .ok (.iload_n 1, 1) := by decide +kernel
theorem dX12_below_36 : decode cX12_below 36 = .ok (.imul, 1) := by decide +kernel
theorem dX12_below_37 : decode cX12_below 37 = .ok (.iadd, 1) := by decide +kernel
theorem dX12_below_38 : decode cX12_below 38 = .ok (.iconst 1, 1) := by decide +kernel
theorem dX12_below_39 : decode cX12_below 39 = .ok (.iadd, 1) := by decide +kernel
theorem dX12_below_40 : decode cX12_below 40 = .ok (.iaload, 1) := by decide +kernel
theorem dX12_below_41 : decode cX12_below 41 = .ok (.if_icmp .ne 20, 3) := by decide +kernel
theorem dX12_below_44 : decode cX12_below 44 = .ok (.aload_n 0, 1) := by decide +kernel
theorem dX12_below_45 : decode cX12_below 45 = .ok (.iload_n 3, 1) := by decide +kernel
theorem dX12_below_46 : decode cX12_below 46 = .ok (.invokevirtual 196, 3) := by decide +kernel
theorem dX12_below_49 : decode cX12_below 49 = .ok (.aload_n 0, 1) := by decide +kernel
theorem dX12_below_50 : decode cX12_below 50 = .ok (.iload_n 1, 1) := by decide +kernel
theorem dX12_below_51 : decode cX12_below 51 = .ok (.invokevirtual 196, 3) := by decide +kernel
theorem dX12_below_54 : decode cX12_below 54 = .ok (.if_icmp .ge 7, 3) := by decide +kernel
theorem dX12_below_57 : decode cX12_below 57 = .ok (.iconst 1, 1) := by decide +kernel
theorem dX12_below_58 : decode cX12_below 58 = .ok (.goto 4, 3) := by decide +kernel
theorem dX12_below_61 : decode cX12_below 61 = .ok (.iconst 0, 1) := by decide +kernel
theorem dX12_below_62 : decode cX12_below 62 = .ok (.istore 4, 2) := by decide +kernel
theorem dX12_below_64 : decode cX12_below 64 = .ok (.iload 4, 2) := by decide +kernel
theorem dX12_below_66 : decode cX12_below 66 = .ok (.ifCond .eq 26, 3) := by decide +kernel
theorem dX12_below_69 : decode cX12_below 69 = .ok (.iload_n 2, 1) := by decide +kernel
theorem dX12_below_70 : decode cX12_below 70 = .ok (.ldc 89, 2) := by decide +kernel
theorem dX12_below_72 : decode cX12_below 72 = .ok (.if_icmp .eq 16, 3) := by decide +kernel
theorem dX12_below_75 : decode cX12_below 75 = .ok (.aload_n 0, 1) := by decide +kernel
theorem dX12_below_76 : decode cX12_below 76 = .ok (.iload_n 3, 1) := by decide +kernel
theorem dX12_below_77 : decode cX12_below 77 = .ok (.invokevirtual 196, 3) := by decide +kernel
theorem dX12_below_80 : decode cX12_below 80 = .ok (.aload_n 0, 1) := by decide +kernel
theorem dX12_below_81 : decode cX12_below 81 = .ok (.iload_n 2, 1) := by decide +kernel
theorem dX12_below_82 : decode cX12_below 82 = .ok (.invokevirtual 196, 3) := by decide +kernel
theorem dX12_below_85 : decode cX12_below 85 = .ok (.if_icmp .le 7, 3) := by decide +kernel
theorem dX12_below_88 : decode cX12_below 88 = .ok (.iload_n 3, 1) := by decide +kernel
theorem dX12_below_89 : decode cX12_below 89 = .ok (.goto 4, 3) := by decide +kernel
theorem dX12_below_92 : decode cX12_below 92 = .ok (.iload_n 2, 1) := by decide +kernel
theorem dX12_below_93 : decode cX12_below 93 = .ok (.istore_n 2, 1) := by decide +kernel
theorem dX12_below_94 : decode cX12_below 94 = .ok (.iinc 3 1, 3) := by decide +kernel
theorem dX12_below_97 : decode cX12_below 97 = .ok (.goto (-92), 3) := by decide +kernel
theorem dX12_below_100 : decode cX12_below 100 = .ok (.iload_n 2, 1) := by decide +kernel
theorem dX12_below_101 : decode cX12_below 101 = .ok (.ireturn, 1) := by decide +kernel
theorem dX12_rightsTo_0 : decode cX12_rightsTo 0 = .ok (.aload_n 0, 1) := by decide +kernel
theorem dX12_rightsTo_1 : decode cX12_rightsTo 1 = .ok (.getfield 19, 3) := by decide +kernel
theorem dX12_rightsTo_4 : decode cX12_rightsTo 4 = .ok (.iconst 3, 1) := by decide +kernel
theorem dX12_rightsTo_5 : decode cX12_rightsTo 5 = .ok (.iaload, 1) := by decide +kernel
theorem dX12_rightsTo_6 : decode cX12_rightsTo 6 = .ok (.bipush 24, 2) := by decide +kernel
theorem dX12_rightsTo_8 : decode cX12_rightsTo 8 = .ok (.irem, 1) := by decide +kernel
theorem dX12_rightsTo_9 : decode cX12_rightsTo 9 = .ok (.istore_n 2, 1) := by decide +kernel
theorem dX12_rightsTo_10 : decode cX12_rightsTo 10 = .ok (.iconst 0, 1) := by decide +kernel
theorem dX12_rightsTo_11 : decode cX12_rightsTo 11 = .ok (.istore_n 3, 1) := by decide +kernel
theorem dX12_rightsTo_12 : decode cX12_rightsTo 12 = .ok (.iconst 0, 1) := by decide +kernel
theorem dX12_rightsTo_13 : decode cX12_rightsTo 13 = .ok (.istore 4, 2) := by decide +kernel
theorem dX12_rightsTo_15 : decode cX12_rightsTo 15 = .ok (.iload 4, 2) := by decide +kernel
theorem dX12_rightsTo_17 : decode cX12_rightsTo 17 = .ok (.aload_n 0, 1) := by decide +kernel
theorem dX12_rightsTo_18 : decode cX12_rightsTo 18 = .ok (.getfield 19, 3) := by decide +kernel
theorem dX12_rightsTo_21 : decode cX12_rightsTo 21 = .ok (.iconst 1, 1) := by decide +kernel
theorem dX12_rightsTo_22 : decode cX12_rightsTo 22 = .ok (.iaload, 1) := by decide +kernel
theorem dX12_rightsTo_23 : decode cX12_rightsTo 23 = .ok (.if_icmp .ge 75, 3) := by decide +kernel
theorem dX12_rightsTo_26 : decode cX12_rightsTo 26 = .ok (.bipush 52, 2) := by decide +kernel
theorem dX12_rightsTo_28 : decode cX12_rightsTo 28 = .ok (.iconst 4, 1) := by decide +kernel
theorem dX12_rightsTo_29 : decode cX12_rightsTo 29 = .ok (.iload 4, 2) := by decide +kernel
theorem dX12_rightsTo_31 : decode cX12_rightsTo 31 = .ok (.imul, 1) := by decide +kernel
theorem dX12_rightsTo_32 : decode cX12_rightsTo 32 = .ok (.iadd, 1) := by decide +kernel
theorem dX12_rightsTo_33 : decode cX12_rightsTo 33 = .ok (.istore 5, 2) := by decide +kernel
theorem dX12_rightsTo_35 : decode cX12_rightsTo 35 = .ok (.iload_n 3, 1) := by decide +kernel
theorem dX12_rightsTo_36 : decode cX12_rightsTo 36 = .ok (.aload_n 0, 1) := by decide +kernel
theorem dX12_rightsTo_37 : decode cX12_rightsTo 37 = .ok (.getfield 19, 3) := by decide +kernel
theorem dX12_rightsTo_40 : decode cX12_rightsTo 40 = .ok (.iload 5, 2) := by decide +kernel
theorem dX12_rightsTo_42 : decode cX12_rightsTo 42 = .ok (.iaload, 1) := by decide +kernel
theorem dX12_rightsTo_43 : decode cX12_rightsTo 43 = .ok (.iload_n 1, 1) := by decide +kernel
theorem dX12_rightsTo_44 : decode cX12_rightsTo 44 = .ok (.if_icmp .ne 45, 3) := by decide +kernel
theorem dX12_rightsTo_47 : decode cX12_rightsTo 47 = .ok (.iload_n 2, 1) := by decide +kernel
theorem dX12_rightsTo_48 : decode cX12_rightsTo 48 = .ok (.i2l, 1) := by decide +kernel
theorem dX12_rightsTo_49 : decode cX12_rightsTo 49 = .ok (.aload_n 0, 1) := by decide +kernel
theorem dX12_rightsTo_50 : decode cX12_rightsTo 50 = .ok (.getfield 19, 3) := by decide +kernel
theorem dX12_rightsTo_53 : decode cX12_rightsTo 53 = .ok (.iload 5, 2) := by decide +kernel
theorem dX12_rightsTo_55 : decode cX12_rightsTo 55 = .ok (.iconst 1, 1) := by decide +kernel
theorem dX12_rightsTo_56 : decode cX12_rightsTo 56 = .ok (.iadd, 1) := by decide +kernel
theorem dX12_rightsTo_57 : decode cX12_rightsTo 57 = .ok (.iaload, 1) := by decide +kernel
theorem dX12_rightsTo_58 : decode cX12_rightsTo 58 = .ok (.i2l, 1) := by decide +kernel
theorem dX12_rightsTo_59 : decode cX12_rightsTo 59 = .ok (.aload_n 0, 1) := by decide +kernel
theorem dX12_rightsTo_60 : decode cX12_rightsTo 60 = .ok (.getfield 19, 3) := by decide +kernel
theorem dX12_rightsTo_63 : decode cX12_rightsTo 63 = .ok (.iload 5, 2) := by decide +kernel
theorem dX12_rightsTo_65 : decode cX12_rightsTo 65 = .ok (.iconst 2, 1) := by decide +kernel
theorem dX12_rightsTo_66 : decode cX12_rightsTo 66 = .ok (.iadd, 1) := by decide +kernel
theorem dX12_rightsTo_67 : decode cX12_rightsTo 67 = .ok (.iaload, 1) := by decide +kernel
theorem dX12_rightsTo_68 : decode cX12_rightsTo 68 = .ok (.i2l, 1) := by decide +kernel
theorem dX12_rightsTo_69 : decode cX12_rightsTo 69 = .ok (.invokestatic 63, 3) := by decide +kernel
theorem dX12_rightsTo_72 : decode cX12_rightsTo 72 = .ok (.ifCond .eq 17, 3) := by decide +kernel
theorem dX12_rightsTo_75 : decode cX12_rightsTo 75 = .ok (.iconst 1, 1) := by decide +kernel
theorem dX12_rightsTo_76 : decode cX12_rightsTo 76 = .ok (.aload_n 0, 1) := by decide +kernel
theorem dX12_rightsTo_77 : decode cX12_rightsTo 77 = .ok (.getfield 19, 3) := by decide +kernel
theorem dX12_rightsTo_80 : decode cX12_rightsTo 80 = .ok (.iload 5, 2) := by decide +kernel
theorem dX12_rightsTo_82 : decode cX12_rightsTo 82 = .ok (.iconst 3, 1) := by decide +kernel
theorem dX12_rightsTo_83 : decode cX12_rightsTo 83 = .ok (.iadd, 1) := by decide +kernel
theorem dX12_rightsTo_84 : decode cX12_rightsTo 84 = .ok (.iaload, 1) := by decide +kernel
theorem dX12_rightsTo_85 : decode cX12_rightsTo 85 = .ok (.ishl, 1) := by decide +kernel
theorem dX12_rightsTo_86 : decode cX12_rightsTo 86 = .ok (.goto 4, 3) := by decide +kernel
theorem dX12_rightsTo_89 : decode cX12_rightsTo 89 = .ok (.iconst 0, 1) := by decide +kernel
theorem dX12_rightsTo_90 : decode cX12_rightsTo 90 = .ok (.ior, 1) := by decide +kernel
theorem dX12_rightsTo_91 : decode cX12_rightsTo 91 = .ok (.istore_n 3, 1) := by decide +kernel
theorem dX12_rightsTo_92 : decode cX12_rightsTo 92 = .ok (.iinc 4 1, 3) := by decide +kernel
theorem dX12_rightsTo_95 : decode cX12_rightsTo 95 = .ok (.goto (-80), 3) := by decide +kernel
theorem dX12_rightsTo_98 : decode cX12_rightsTo 98 = .ok (.iload_n 3, 1) := by decide +kernel
theorem dX12_rightsTo_99 : decode cX12_rightsTo 99 = .ok (.ireturn, 1) := by decide +kernel
theorem dX12_layNow_0 : decode cX12_layNow 0 = .ok (.aload_n 0, 1) := by decide +kernel
theorem dX12_layNow_1 : decode cX12_layNow 1 = .ok (.iconst 0, 1) := by decide +kernel
theorem dX12_layNow_2 : decode cX12_layNow 2 = .ok (.putfield 199, 3) := by decide +kernel
theorem dX12_layNow_5 : decode cX12_layNow 5 = .ok (.iconst 0, 1) := by decide +kernel
theorem dX12_layNow_6 : decode cX12_layNow 6 = .ok (.istore_n 1, 1) := by decide +kernel
theorem dX12_layNow_7 : decode cX12_layNow 7 = .ok (.iload_n 1, 1) := by decide +kernel
theorem dX12_layNow_8 : decode cX12_layNow 8 = .ok (.aload_n 0, 1) := by decide +kernel
theorem dX12_layNow_9 : decode cX12_layNow 9 = .ok (.getfield 19, 3) := by decide +kernel
theorem dX12_layNow_12 : decode cX12_layNow 12 = .ok (.iconst 2, 1) := by decide +kernel
theorem dX12_layNow_13 : decode cX12_layNow 13 = .ok (.iaload, 1) := by decide +kernel
theorem dX12_layNow_14 : decode cX12_layNow 14 = .ok (.if_icmp .ge 50, 3) := by decide +kernel
theorem dX12_layNow_17 : decode cX12_layNow 17 = .ok (.aload_n 0, 1) := by decide +kernel
theorem dX12_layNow_18 : decode cX12_layNow 18 = .ok (.getfield 28, 3) := by decide +kernel
theorem dX12_layNow_21 : decode cX12_layNow 21 = .ok (.iload_n 1, 1) := by decide +kernel
theorem dX12_layNow_22 : decode cX12_layNow 22 = .ok (.aload_n 0, 1) := by decide +kernel
theorem dX12_layNow_23 : decode cX12_layNow 23 = .ok (.iload_n 1, 1) := by decide +kernel
theorem dX12_layNow_24 : decode cX12_layNow 24 = .ok (.iconst 4, 1) := by decide +kernel
theorem dX12_layNow_25 : decode cX12_layNow 25 = .ok (.invokevirtual 202, 3) := by decide +kernel
theorem dX12_layNow_28 : decode cX12_layNow 28 = .ok (.iastore, 1) := by decide +kernel
theorem dX12_layNow_29 : decode cX12_layNow 29 = .ok (.aload_n 0, 1) := by decide +kernel
theorem dX12_layNow_30 : decode cX12_layNow 30 = .ok (.getfield 31, 3) := by decide +kernel
theorem dX12_layNow_33 : decode cX12_layNow 33 = .ok (.iload_n 1, 1) := by decide +kernel
theorem dX12_layNow_34 : decode cX12_layNow 34 = .ok (.aload_n 0, 1) := by decide +kernel
theorem dX12_layNow_35 : decode cX12_layNow 35 = .ok (.iload_n 1, 1) := by decide +kernel
theorem dX12_layNow_36 : decode cX12_layNow 36 = .ok (.iconst 2, 1) := by decide +kernel
theorem dX12_layNow_37 : decode cX12_layNow 37 = .ok (.invokevirtual 202, 3) := by decide +kernel
theorem dX12_layNow_40 : decode cX12_layNow 40 = .ok (.iastore, 1) := by decide +kernel
theorem dX12_layNow_41 : decode cX12_layNow 41 = .ok (.aload_n 0, 1) := by decide +kernel
theorem dX12_layNow_42 : decode cX12_layNow 42 = .ok (.dup, 1) := by decide +kernel
theorem dX12_layNow_43 : decode cX12_layNow 43 = .ok (.getfield 199, 3) := by decide +kernel
theorem dX12_layNow_46 : decode cX12_layNow 46 = .ok (.aload_n 0, 1) := by decide +kernel
theorem dX12_layNow_47 : decode cX12_layNow 47 = .ok (.iload_n 1, 1) := by decide +kernel
theorem dX12_layNow_48 : decode cX12_layNow 48 = .ok (.iconst 5, 1) := by decide +kernel
theorem dX12_layNow_49 : decode cX12_layNow 49 = .ok (.invokevirtual 202, 3) := by decide +kernel
theorem dX12_layNow_52 : decode cX12_layNow 52 = .ok (.iload_n 1, 1) := by decide +kernel
theorem dX12_layNow_53 : decode cX12_layNow 53 = .ok (.ishl, 1) := by decide +kernel
theorem dX12_layNow_54 : decode cX12_layNow 54 = .ok (.ior, 1) := by decide +kernel
theorem dX12_layNow_55 : decode cX12_layNow 55 = .ok (.putfield 199, 3) := by decide +kernel
theorem dX12_layNow_58 : decode cX12_layNow 58 = .ok (.iinc 1 1, 3) := by decide +kernel
theorem dX12_layNow_61 : decode cX12_layNow 61 = .ok (.goto (-54), 3) := by decide +kernel
theorem dX12_layNow_64 : decode cX12_layNow 64 = .ok (.return_, 1) := by decide +kernel
theorem dX12_keepNow_0 : decode cX12_keepNow 0 = .ok (.iconst 0, 1) := by decide +kernel
theorem dX12_keepNow_1 : decode cX12_keepNow 1 = .ok (.istore_n 1, 1) := by decide +kernel
theorem dX12_keepNow_2 : decode cX12_keepNow 2 = .ok (.iload_n 1, 1) := by decide +kernel
theorem dX12_keepNow_3 : decode cX12_keepNow 3 = .ok (.aload_n 0, 1) := by decide +kernel
theorem dX12_keepNow_4 : decode cX12_keepNow 4 = .ok (.getfield 19, 3) := by decide +kernel
theorem dX12_keepNow_7 : decode cX12_keepNow 7 = .ok (.iconst 2, 1) := by decide +kernel
theorem dX12_keepNow_8 : decode cX12_keepNow 8 = .ok (.iaload, 1) := by decide +kernel
theorem dX12_keepNow_9 : decode cX12_keepNow 9 = .ok (.if_icmp .ge 71, 3) := by decide +kernel
theorem dX12_keepNow_12 : decode cX12_keepNow 12 = .ok (.aload_n 0, 1) := by decide +kernel
theorem dX12_keepNow_13 : decode cX12_keepNow 13 = .ok (.getfield 19, 3) := by decide +kernel
theorem dX12_keepNow_16 : decode cX12_keepNow 16 = .ok (.bipush 84, 2) := by decide +kernel
theorem dX12_keepNow_18 : decode cX12_keepNow 18 = .ok (.bipush 6, 2) := by decide +kernel
theorem dX12_keepNow_20 : decode cX12_keepNow 20 = .ok (.iload_n 1, 1) := by decide +kernel
theorem dX12_keepNow_21 : decode cX12_keepNow 21 = .ok (.imul, 1) := by decide +kernel
theorem dX12_keepNow_22 : decode cX12_keepNow 22 = .ok (.iadd, 1) := by decide +kernel
theorem dX12_keepNow_23 : decode cX12_keepNow 23 = .ok (.iconst 4, 1) := by decide +kernel
theorem dX12_keepNow_24 : decode cX12_keepNow 24 = .ok (.iadd, 1) := by decide +kernel
theorem dX12_keepNow_25 : decode cX12_keepNow 25 = .ok (.aload_n 0, 1) := by decide +kernel
theorem dX12_keepNow_26 : decode cX12_keepNow 26 = .ok (.getfield 28, 3) := by decide +kernel
theorem dX12_keepNow_29 : decode cX12_keepNow 29 = .ok (.iload_n 1, 1) := by decide +kernel
theorem dX12_keepNow_30 : decode cX12_keepNow 30 = .ok (.iaload, 1) := by decide +kernel
theorem dX12_keepNow_31 : decode cX12_keepNow 31 = .ok (.iastore, 1) := by decide +kernel
theorem dX12_keepNow_32 : decode cX12_keepNow 32 = .ok (.aload_n 0, 1) := by decide +kernel
theorem dX12_keepNow_33 : decode cX12_keepNow 33 = .ok (.getfield 19, 3) := by decide +kernel
theorem dX12_keepNow_36 : decode cX12_keepNow 36 = .ok (.bipush 84, 2) := by decide +kernel
theorem dX12_keepNow_38 : decode cX12_keepNow 38 = .ok (.bipush 6, 2) := by decide +kernel
theorem dX12_keepNow_40 : decode cX12_keepNow 40 = .ok (.iload_n 1, 1) := by decide +kernel
theorem dX12_keepNow_41 : decode cX12_keepNow 41 = .ok (.imul, 1) := by decide +kernel
theorem dX12_keepNow_42 : decode cX12_keepNow 42 = .ok (.iadd, 1) := by decide +kernel
theorem dX12_keepNow_43 : decode cX12_keepNow 43 = .ok (.iconst 2, 1) := by decide +kernel
theorem dX12_keepNow_44 : decode cX12_keepNow 44 = .ok (.iadd, 1) := by decide +kernel
theorem dX12_keepNow_45 : decode cX12_keepNow 45 = .ok (.aload_n 0, 1) := by decide +kernel
theorem dX12_keepNow_46 : decode cX12_keepNow 46 = .ok (.getfield 31, 3) := by decide +kernel
theorem dX12_keepNow_49 : decode cX12_keepNow 49 = .ok (.iload_n 1, 1) := by decide +kernel
theorem dX12_keepNow_50 : decode cX12_keepNow 50 = .ok (.iaload, 1) := by decide +kernel
theorem dX12_keepNow_51 : decode cX12_keepNow 51 = .ok (.iastore, 1) := by decide +kernel
theorem dX12_keepNow_52 : decode cX12_keepNow 52 = .ok (.aload_n 0, 1) := by decide +kernel
theorem dX12_keepNow_53 : decode cX12_keepNow 53 = .ok (.getfield 19, 3) := by decide +kernel
theorem dX12_keepNow_56 : decode cX12_keepNow 56 = .ok (.bipush 84, 2) := by decide +kernel
theorem dX12_keepNow_58 : decode cX12_keepNow 58 = .ok (.bipush 6, 2) := by decide +kernel
theorem dX12_keepNow_60 : decode cX12_keepNow 60 = .ok (.iload_n 1, 1) := by decide +kernel
theorem dX12_keepNow_61 : decode cX12_keepNow 61 = .ok (.imul, 1) := by decide +kernel
theorem dX12_keepNow_62 : decode cX12_keepNow 62 = .ok (.iadd, 1) := by decide +kernel
theorem dX12_keepNow_63 : decode cX12_keepNow 63 = .ok (.iconst 5, 1) := by decide +kernel
theorem dX12_keepNow_64 : decode cX12_keepNow 64 = .ok (.iadd, 1) := by decide +kernel
theorem dX12_keepNow_65 : decode cX12_keepNow 65 = .ok (.aload_n 0, 1) := by decide +kernel
theorem dX12_keepNow_66 : decode cX12_keepNow 66 = .ok (.getfield 199, 3) := by decide +kernel
theorem dX12_keepNow_69 : decode cX12_keepNow 69 = .ok (.iload_n 1, 1) := by decide +kernel
theorem dX12_keepNow_70 : decode cX12_keepNow 70 = .ok (.ishr, 1) := by decide +kernel
theorem dX12_keepNow_71 : decode cX12_keepNow 71 = .ok (.iconst 1, 1) := by decide +kernel
theorem dX12_keepNow_72 : decode cX12_keepNow 72 = .ok (.iand, 1) := by decide +kernel
theorem dX12_keepNow_73 : decode cX12_keepNow 73 = .ok (.iastore, 1) := by decide +kernel
theorem dX12_keepNow_74 : decode cX12_keepNow 74 = .ok (.iinc 1 1, 3) := by decide +kernel
theorem dX12_keepNow_77 : decode cX12_keepNow 77 = .ok (.goto (-75), 3) := by decide +kernel
theorem dX12_keepNow_80 : decode cX12_keepNow 80 = .ok (.return_, 1) := by decide +kernel
theorem dX12_yardsOn_0 : decode cX12_yardsOn 0 = .ok (.iconst 0, 1) := by decide +kernel
theorem dX12_yardsOn_1 : decode cX12_yardsOn 1 = .ok (.istore_n 2, 1) := by decide +kernel
theorem dX12_yardsOn_2 : decode cX12_yardsOn 2 = .ok (.iconst 0, 1) := by decide +kernel
theorem dX12_yardsOn_3 : decode cX12_yardsOn 3 = .ok (.istore_n 3, 1) := by decide +kernel
theorem dX12_yardsOn_4 : decode cX12_yardsOn 4 = .ok (.iload_n 3, 1) := by decide +kernel
theorem dX12_yardsOn_5 : decode cX12_yardsOn 5 = .ok (.aload_n 0, 1) := by decide +kernel
theorem dX12_yardsOn_6 : decode cX12_yardsOn 6 = .ok (.getfield 19, 3) := by decide +kernel
theorem dX12_yardsOn_9 : decode cX12_yardsOn 9 = .ok (.iconst 2, 1) := by decide +kernel
theorem dX12_yardsOn_10 : decode cX12_yardsOn 10 = .ok (.iaload, 1) := by decide +kernel
theorem dX12_yardsOn_11 : decode cX12_yardsOn 11 = .ok (.if_icmp .ge 32, 3) := by decide +kernel
theorem dX12_yardsOn_14 : decode cX12_yardsOn 14 = .ok (.iload_n 2, 1) := by decide +kernel
theorem dX12_yardsOn_15 : decode cX12_yardsOn 15 = .ok (.aload_n 0, 1) := by decide +kernel
theorem dX12_yardsOn_16 : decode cX12_yardsOn 16 = .ok (.getfield 28, 3) := by decide +kernel
theorem dX12_yardsOn_19 : decode cX12_yardsOn 19 = .ok (.iload_n 3, 1) := by decide +kernel
theorem dX12_yardsOn_20 : decode cX12_yardsOn 20 = .ok (.iaload, 1) := by decide +kernel
theorem dX12_yardsOn_21 : decode cX12_yardsOn 21 = .ok (.iload_n 1, 1) := by decide +kernel
theorem dX12_yardsOn_22 : decode cX12_yardsOn 22 = .ok (.if_icmp .ne 12, 3) := by decide +kernel
theorem dX12_yardsOn_25 : decode cX12_yardsOn 25 = .ok (.aload_n 0, 1) := by decide +kernel
theorem dX12_yardsOn_26 : decode cX12_yardsOn 26 = .ok (.iload_n 3, 1) := by decide +kernel
theorem dX12_yardsOn_27 : decode cX12_yardsOn 27 = .ok (.iconst 3, 1) := by decide +kernel
theorem dX12_yardsOn_28 : decode cX12_yardsOn 28 = .ok (.invokevirtual 202, 3) := by decide +kernel
theorem dX12_yardsOn_31 : decode cX12_yardsOn 31 = .ok (.goto 4, 3) := by decide +kernel
theorem dX12_yardsOn_34 : decode cX12_yardsOn 34 = .ok (.iconst 0, 1) := by decide +kernel
theorem dX12_yardsOn_35 : decode cX12_yardsOn 35 = .ok (.iadd, 1) := by decide +kernel
theorem dX12_yardsOn_36 : decode cX12_yardsOn 36 = .ok (.istore_n 2, 1) := by decide +kernel
theorem dX12_yardsOn_37 : decode cX12_yardsOn 37 = .ok (.iinc 3 1, 3) := by decide +kernel
theorem dX12_yardsOn_40 : decode cX12_yardsOn 40 = .ok (.goto (-36), 3) := by decide +kernel
theorem dX12_yardsOn_43 : decode cX12_yardsOn 43 = .ok (.iload_n 2, 1) := by decide +kernel
theorem dX12_yardsOn_44 : decode cX12_yardsOn 44 = .ok (.ireturn, 1) := by decide +kernel
theorem dX12_hasSheet_0 : decode cX12_hasSheet 0 = .ok (.iconst 0, 1) := by decide +kernel
theorem dX12_hasSheet_1 : decode cX12_hasSheet 1 = .ok (.istore_n 2, 1) := by decide +kernel
theorem dX12_hasSheet_2 : decode cX12_hasSheet 2 = .ok (.iconst 0, 1) := by decide +kernel
theorem dX12_hasSheet_3 : decode cX12_hasSheet 3 = .ok (.istore_n 3, 1) := by decide +kernel
theorem dX12_hasSheet_4 : decode cX12_hasSheet 4 = .ok (.iload_n 3, 1) := by decide +kernel
theorem dX12_hasSheet_5 : decode cX12_hasSheet 5 = .ok (.aload_n 0, 1) := by decide +kernel
theorem dX12_hasSheet_6 : decode cX12_hasSheet 6 = .ok (.getfield 19, 3) := by decide +kernel
theorem dX12_hasSheet_9 : decode cX12_hasSheet 9 = .ok (.iconst 2, 1) := by decide +kernel
theorem dX12_hasSheet_10 : decode cX12_hasSheet 10 = .ok (.iaload, 1) := by decide +kernel
theorem dX12_hasSheet_11 : decode cX12_hasSheet 11 = .ok (.if_icmp .ge 39, 3) := by decide +kernel
theorem dX12_hasSheet_14 : decode cX12_hasSheet 14 = .ok (.iload_n 2, 1) := by decide +kernel
theorem dX12_hasSheet_15 : decode cX12_hasSheet 15 = .ok (.ifCond .ne 23, 3) := by decide +kernel
theorem dX12_hasSheet_18 : decode cX12_hasSheet 18 = .ok (.aload_n 0, 1) := by decide +kernel
theorem dX12_hasSheet_19 : decode cX12_hasSheet 19 = .ok (.getfield 28, 3) := by decide +kernel
theorem dX12_hasSheet_22 : decode cX12_hasSheet 22 = .ok (.iload_n 3, 1) := by decide +kernel
theorem dX12_hasSheet_23 : decode cX12_hasSheet 23 = .ok (.iaload, 1) := by decide +kernel
theorem dX12_hasSheet_24 : decode cX12_hasSheet 24 = .ok (.iload_n 1, 1) := by decide +kernel
theorem dX12_hasSheet_25 : decode cX12_hasSheet 25 = .ok (.if_icmp .ne 17, 3) := by decide +kernel
theorem dX12_hasSheet_28 : decode cX12_hasSheet 28 = .ok (.aload_n 0, 1) := by decide +kernel
theorem dX12_hasSheet_29 : decode cX12_hasSheet 29 = .ok (.iload_n 3, 1) := by decide +kernel
theorem dX12_hasSheet_30 : decode cX12_hasSheet 30 = .ok (.iconst 0, 1) := by decide +kernel
theorem dX12_hasSheet_31 : decode cX12_hasSheet 31 = .ok (.invokevirtual 202, 3) := by decide +kernel
theorem dX12_hasSheet_34 : decode cX12_hasSheet 34 = .ok (.iconst 4, 1) := by decide +kernel
theorem dX12_hasSheet_35 : decode cX12_hasSheet 35 = .ok (.if_icmp .ne 7, 3) := by decide +kernel
theorem dX12_hasSheet_38 : decode cX12_hasSheet 38 = .ok (.iconst 1, 1) := by decide +kernel
theorem dX12_hasSheet_39 : decode cX12_hasSheet 39 = .ok (.goto 4, 3) := by decide +kernel
theorem dX12_hasSheet_42 : decode cX12_hasSheet 42 = .ok (.iconst 0, 1) := by decide +kernel
theorem dX12_hasSheet_43 : decode cX12_hasSheet 43 = .ok (.istore_n 2, 1) := by decide +kernel
theorem dX12_hasSheet_44 : decode cX12_hasSheet 44 = .ok (.iinc 3 1, 3) := by decide +kernel
theorem dX12_hasSheet_47 : decode cX12_hasSheet 47 = .ok (.goto (-43), 3) := by decide +kernel
theorem dX12_hasSheet_50 : decode cX12_hasSheet 50 = .ok (.iload_n 2, 1) := by decide +kernel
theorem dX12_hasSheet_51 : decode cX12_hasSheet 51 = .ok (.ireturn, 1) := by decide +kernel
theorem dX12_comes_0 : decode cX12_comes 0 = .ok (.aload_n 0, 1) := by decide +kernel
theorem dX12_comes_1 : decode cX12_comes 1 = .ok (.iload_n 2, 1) := by decide +kernel
theorem dX12_comes_2 : decode cX12_comes 2 = .ok (.invokevirtual 205, 3) := by decide +kernel
theorem dX12_comes_5 : decode cX12_comes 5 = .ok (.istore_n 3, 1) := by decide +kernel
theorem dX12_comes_6 : decode cX12_comes 6 = .ok (.aload_n 0, 1) := by decide +kernel
theorem dX12_comes_7 : decode cX12_comes 7 = .ok (.getfield 28, 3) := by decide +kernel
theorem dX12_comes_10 : decode cX12_comes 10 = .ok (.iload_n 1, 1) := by decide +kernel
theorem dX12_comes_11 : decode cX12_comes 11 = .ok (.iaload, 1) := by decide +kernel
theorem dX12_comes_12 : decode cX12_comes 12 = .ok (.ldc 89, 2) := by decide +kernel
theorem dX12_comes_14 : decode cX12_comes 14 = .ok (.if_icmp .ne 20, 3) := by decide +kernel
theorem dX12_comes_17 : decode cX12_comes 17 = .ok (.iload_n 3, 1) := by decide +kernel
theorem dX12_comes_18 : decode cX12_comes 18 = .ok (.ifCond .eq 19, 3) := by decide +kernel
theorem dX12_comes_21 : decode cX12_comes 21 = .ok (.iload_n 3, 1) := by decide +kernel
theorem dX12_comes_22 : decode cX12_comes 22 = .ok (.aload_n 0, 1) := by decide +kernel
theorem dX12_comes_23 : decode cX12_comes 23 = .ok (.iload_n 1, 1) := by decide +kernel
theorem dX12_comes_24 : decode cX12_comes 24 = .ok (.iconst 1, 1) := by decide +kernel
theorem dX12_comes_25 : decode cX12_comes 25 = .ok (.invokevirtual 202, 3) := by decide +kernel
theorem dX12_comes_28 : decode cX12_comes 28 = .ok (.ishr, 1) := by decide +kernel
theorem dX12_comes_29 : decode cX12_comes 29 = .ok (.iconst 1, 1) := by decide +kernel
theorem dX12_comes_30 : decode cX12_comes 30 = .ok (.iand, 1) := by decide +kernel
theorem dX12_comes_31 : decode cX12_comes 31 = .ok (.ifCond .ne 6, 3) := by decide +kernel
theorem dX12_comes_34 : decode cX12_comes 34 = .ok (.ldc 208, 2) := by decide +kernel
theorem dX12_comes_36 : decode cX12_comes 36 = .ok (.ireturn, 1) := by decide +kernel
theorem dX12_comes_37 : decode cX12_comes 37 = .ok (.aload_n 0, 1) := by decide +kernel
theorem dX12_comes_38 : decode cX12_comes 38 = .ok (.iload_n 2, 1) := by decide +kernel
theorem dX12_comes_39 : decode cX12_comes 39 = .ok (.invokevirtual 209, 3) := by decide +kernel
theorem dX12_comes_42 : decode cX12_comes 42 = .ok (.istore 4, 2) := by decide +kernel
theorem dX12_comes_44 : decode cX12_comes 44 = .ok (.aload_n 0, 1) := by decide +kernel
theorem dX12_comes_45 : decode cX12_comes 45 = .ok (.iload_n 1, 1) := by decide +kernel
theorem dX12_comes_46 : decode cX12_comes 46 = .ok (.iconst 0, 1) := by decide +kernel
theorem dX12_comes_47 : decode cX12_comes 47 = .ok (.invokevirtual 202, 3) := by decide +kernel
theorem dX12_comes_50 : decode cX12_comes 50 = .ok (.iconst 4, 1) := by decide +kernel
theorem dX12_comes_51 : decode cX12_comes 51 = .ok (.if_icmp .ne 7, 3) := by decide +kernel
theorem dX12_comes_54 : decode cX12_comes 54 = .ok (.iconst 1, 1) := by decide +kernel
theorem dX12_comes_55 : decode cX12_comes 55 = .ok (.goto 4, 3) := by decide +kernel
theorem dX12_comes_58 : decode cX12_comes 58 = .ok (.iconst 0, 1) := by decide +kernel
theorem dX12_comes_59 : decode cX12_comes 59 = .ok (.istore 5, 2) := by decide +kernel
theorem dX12_comes_61 : decode cX12_comes 61 = .ok (.aload_n 0, 1) := by decide +kernel
theorem dX12_comes_62 : decode cX12_comes 62 = .ok (.getfield 19, 3) := by decide +kernel
theorem dX12_comes_65 : decode cX12_comes 65 = .ok (.bipush 28, 2) := by decide +kernel
theorem dX12_comes_67 : decode cX12_comes 67 = .ok (.iconst 3, 1) := by decide +kernel
theorem dX12_comes_68 : decode cX12_comes 68 = .ok (.iload_n 2, 1) := by decide +kernel
theorem dX12_comes_69 : decode cX12_comes 69 = .ok (.imul, 1) := by decide +kernel
theorem dX12_comes_70 : decode cX12_comes 70 = .ok (.iadd, 1) := by decide +kernel
theorem dX12_comes_71 : decode cX12_comes 71 = .ok (.iconst 2, 1) := by decide +kernel
theorem dX12_comes_72 : decode cX12_comes 72 = .ok (.iadd, 1) := by decide +kernel
theorem dX12_comes_73 : decode cX12_comes 73 = .ok (.iaload, 1) := by decide +kernel
theorem dX12_comes_74 : decode cX12_comes 74 = .ok (.iload 4, 2) := by decide +kernel
theorem dX12_comes_76 : decode cX12_comes 76 = .ok (.isub, 1) := by decide +kernel
theorem dX12_comes_77 : decode cX12_comes 77 = .ok (.aload_n 0, 1) := by decide +kernel
theorem dX12_comes_78 : decode cX12_comes 78 = .ok (.iload_n 1, 1) := by decide +kernel
theorem dX12_comes_79 : decode cX12_comes 79 = .ok (.iconst 3, 1) := by decide +kernel
theorem dX12_comes_80 : decode cX12_comes 80 = .ok (.invokevirtual 202, 3) := by decide +kernel
theorem dX12_comes_83 : decode cX12_comes 83 = .ok (.isub, 1) := by decide +kernel
theorem dX12_comes_84 : decode cX12_comes 84 = .ok (.istore 6, 2) := by decide +kernel
theorem dX12_comes_86 : decode cX12_comes 86 = .ok (.iload 6, 2) := by decide +kernel
theorem dX12_comes_88 : decode cX12_comes 88 = .ok (.ifCond .lt 21, 3) := by decide +kernel
theorem dX12_comes_91 : decode cX12_comes 91 = .ok (.aload_n 0, 1) := by decide +kernel
theorem dX12_comes_92 : decode cX12_comes 92 = .ok (.iload_n 2, 1) := by decide +kernel
theorem dX12_comes_93 : decode cX12_comes 93 = .ok (.invokevirtual 212, 3) := by decide +kernel
theorem dX12_comes_96 : decode cX12_comes 96 = .ok (.ifCond .ne 13, 3) := by decide +kernel
theorem dX12_comes_99 : decode cX12_comes 99 = .ok (.iload 5, 2) := by decide +kernel
theorem dX12_comes_101 : decode cX12_comes 101 = .ok (.ifCond .eq 11, 3) := by decide +kernel
theorem dX12_comes_104 : decode cX12_comes 104 = .ok (.iload 4, 2) := by decide +kernel
theorem dX12_comes_106 : decode cX12_comes 106 = .ok (.ifCond .le 6, 3) := by decide +kernel
theorem dX12_comes_109 : decode cX12_comes 109 = .ok (.ldc 83, 2) := by decide +kernel
theorem dX12_comes_111 : decode cX12_comes 111 = .ok (.ireturn, 1) := by decide +kernel
theorem dX12_comes_112 : decode cX12_comes 112 = .ok (.aload_n 0, 1) := by decide +kernel
theorem dX12_comes_113 : decode cX12_comes 113 = .ok (.getfield 28, 3) := by decide +kernel
theorem dX12_comes_116 : decode cX12_comes 116 = .ok (.iload_n 1, 1) := by decide +kernel
theorem dX12_comes_117 : decode cX12_comes 117 = .ok (.iload_n 2, 1) := by decide +kernel
theorem dX12_comes_118 : decode cX12_comes 118 = .ok (.iastore, 1) := by decide +kernel
theorem dX12_comes_119 : decode cX12_comes 119 = .ok (.iload 5, 2) := by decide +kernel
theorem dX12_comes_121 : decode cX12_comes 121 = .ok (.ifCond .eq 7, 3) := by decide +kernel
theorem dX12_comes_124 : decode cX12_comes 124 = .ok (.iconst 0, 1) := by decide +kernel
theorem dX12_comes_125 : decode cX12_comes 125 = .ok (.goto 5, 3) := by decide +kernel
theorem dX12_comes_128 : decode cX12_comes 128 = .ok (.iload 6, 2) := by decide +kernel
theorem dX12_comes_130 : decode cX12_comes 130 = .ok (.ireturn, 1) := by decide +kernel
theorem dX12_hang_0 : decode cX12_hang 0 = .ok (.aload_n 0, 1) := by decide +kernel
theorem dX12_hang_1 : decode cX12_hang 1 = .ok (.iconst 0, 1) := by decide +kernel
theorem dX12_hang_2 : decode cX12_hang 2 = .ok (.putfield 53, 3) := by decide +kernel
theorem dX12_hang_5 : decode cX12_hang 5 = .ok (.aload_n 0, 1) := by decide +kernel
theorem dX12_hang_6 : decode cX12_hang 6 = .ok (.iload_n 1, 1) := by decide +kernel
theorem dX12_hang_7 : decode cX12_hang 7 = .ok (.invokevirtual 215, 3) := by decide +kernel
theorem dX12_hang_10 : decode cX12_hang 10 = .ok (.ifCond .eq 11, 3) := by decide +kernel
theorem dX12_hang_13 : decode cX12_hang 13 = .ok (.aload_n 0, 1) := by decide +kernel
theorem dX12_hang_14 : decode cX12_hang 14 = .ok (.iload_n 2, 1) := by decide +kernel
theorem dX12_hang_15 : decode cX12_hang 15 = .ok (.invokevirtual 218, 3) := by decide +kernel
theorem dX12_hang_18 : decode cX12_hang 18 = .ok (.ifCond .ne 6, 3) := by decide +kernel
theorem dX12_hang_21 : decode cX12_hang 21 = .ok (.ldc 73, 2) := by decide +kernel
theorem dX12_hang_23 : decode cX12_hang 23 = .ok (.ireturn, 1) := by decide +kernel
theorem dX12_hang_24 : decode cX12_hang 24 = .ok (.aload_n 0, 1) := by decide +kernel
theorem dX12_hang_25 : decode cX12_hang 25 = .ok (.invokevirtual 221, 3) := by decide +kernel
theorem dX12_hang_28 : decode cX12_hang 28 = .ok (.aload_n 0, 1) := by decide +kernel
theorem dX12_hang_29 : decode cX12_hang 29 = .ok (.iload_n 1, 1) := by decide +kernel
theorem dX12_hang_30 : decode cX12_hang 30 = .ok (.iload_n 2, 1) := by decide +kernel
theorem dX12_hang_31 : decode cX12_hang 31 = .ok (.invokevirtual 224, 3) := by decide +kernel
theorem dX12_hang_34 : decode cX12_hang 34 = .ok (.istore_n 3, 1) := by decide +kernel
theorem dX12_hang_35 : decode cX12_hang 35 = .ok (.aload_n 0, 1) := by decide +kernel
theorem dX12_hang_36 : decode cX12_hang 36 = .ok (.invokevirtual 227, 3) := by decide +kernel
theorem dX12_hang_39 : decode cX12_hang 39 = .ok (.iload_n 3, 1) := by decide +kernel
theorem dX12_hang_40 : decode cX12_hang 40 = .ok (.ireturn, 1) := by decide +kernel
theorem dX12_take_0 : decode cX12_take 0 = .ok (.aload_n 0, 1) := by decide +kernel
theorem dX12_take_1 : decode cX12_take 1 = .ok (.iconst 0, 1) := by decide +kernel
theorem dX12_take_2 : decode cX12_take 2 = .ok (.putfield 53, 3) := by decide +kernel
theorem dX12_take_5 : decode cX12_take 5 = .ok (.aload_n 0, 1) := by decide +kernel
theorem dX12_take_6 : decode cX12_take 6 = .ok (.iload_n 1, 1) := by decide +kernel
theorem dX12_take_7 : decode cX12_take 7 = .ok (.invokevirtual 215, 3) := by decide +kernel
theorem dX12_take_10 : decode cX12_take 10 = .ok (.ifCond .ne 6, 3) := by decide +kernel
theorem dX12_take_13 : decode cX12_take 13 = .ok (.ldc 73, 2) := by decide +kernel
theorem dX12_take_15 : decode cX12_take 15 = .ok (.ireturn, 1) := by decide +kernel
theorem dX12_take_16 : decode cX12_take 16 = .ok (.aload_n 0, 1) := by decide +kernel
theorem dX12_take_17 : decode cX12_take 17 = .ok (.iload_n 1, 1) := by decide +kernel
theorem dX12_take_18 : decode cX12_take 18 = .ok (.iconst 4, 1) := by decide +kernel
theorem dX12_take_19 : decode cX12_take 19 = .ok (.invokevirtual 202, 3) := by decide +kernel
theorem dX12_take_22 : decode cX12_take 22 = .ok (.istore_n 2, 1) := by decide +kernel
theorem dX12_take_23 : decode cX12_take 23 = .ok (.iload_n 2, 1) := by decide +kernel
theorem dX12_take_24 : decode cX12_take 24 = .ok (.ldc 89, 2) := by decide +kernel
theorem dX12_take_26 : decode cX12_take 26 = .ok (.if_icmp .ne 6, 3) := by decide +kernel
theorem dX12_take_29 : decode cX12_take 29 = .ok (.ldc 208, 2) := by decide +kernel
theorem dX12_take_31 : decode cX12_take 31 = .ok (.ireturn, 1) := by decide +kernel
theorem dX12_take_32 : decode cX12_take 32 = .ok (.aload_n 0, 1) := by decide +kernel
theorem dX12_take_33 : decode cX12_take 33 = .ok (.getfield 19, 3) := by decide +kernel
theorem dX12_take_36 : decode cX12_take 36 = .ok (.bipush 84, 2) := by decide +kernel
theorem dX12_take_38 : decode cX12_take 38 = .ok (.bipush 6, 2) := by decide +kernel
theorem dX12_take_40 : decode cX12_take 40 = .ok (.iload_n 1, 1) := by decide +kernel
theorem dX12_take_41 : decode cX12_take 41 = .ok (.imul, 1) := by decide +kernel
theorem dX12_take_42 : decode cX12_take 42 = .ok (.iadd, 1) := by decide +kernel
theorem dX12_take_43 : decode cX12_take 43 = .ok (.iconst 4, 1) := by decide +kernel
theorem dX12_take_44 : decode cX12_take 44 = .ok (.iadd, 1) := by decide +kernel
theorem dX12_take_45 : decode cX12_take 45 = .ok (.ldc 89, 2) := by decide +kernel
theorem dX12_take_47 : decode cX12_take 47 = .ok (.iastore, 1) := by decide +kernel
theorem dX12_take_48 : decode cX12_take 48 = .ok (.iload_n 2, 1) := by decide +kernel
theorem dX12_take_49 : decode cX12_take 49 = .ok (.ireturn, 1) := by decide +kernel
theorem dX12_hasSun_0 : decode cX12_hasSun 0 = .ok (.aload_n 0, 1) := by decide +kernel
theorem dX12_hasSun_1 : decode cX12_hasSun 1 = .ok (.iload_n 1, 1) := by decide +kernel
theorem dX12_hasSun_2 : decode cX12_hasSun 2 = .ok (.invokevirtual 196, 3) := by decide +kernel
theorem dX12_hasSun_5 : decode cX12_hasSun 5 = .ok (.aload_n 0, 1) := by decide +kernel
theorem dX12_hasSun_6 : decode cX12_hasSun 6 = .ok (.getfield 19, 3) := by decide +kernel
theorem dX12_hasSun_9 : decode cX12_hasSun 9 = .ok (.iconst 4, 1) := by decide +kernel
theorem dX12_hasSun_10 : decode cX12_hasSun 10 = .ok (.iload_n 2, 1) := by decide +kernel
theorem dX12_hasSun_11 : decode cX12_hasSun 11 = .ok (.bipush 24, 2) := by decide +kernel
theorem dX12_hasSun_13 : decode cX12_hasSun 13 = .ok (.irem, 1) := by decide +kernel
theorem dX12_hasSun_14 : decode cX12_hasSun 14 = .ok (.iadd, 1) := by decide +kernel
theorem dX12_hasSun_15 : decode cX12_hasSun 15 = .ok (.iaload, 1) := by decide +kernel
theorem dX12_hasSun_16 : decode cX12_hasSun 16 = .ok (.bipush 10, 2) := by decide +kernel
theorem dX12_hasSun_18 : decode cX12_hasSun 18 = .ok (.idiv, 1) := by decide +kernel
theorem dX12_hasSun_19 : decode cX12_hasSun 19 = .ok (.iload_n 3, 1) := by decide +kernel
theorem dX12_hasSun_20 : decode cX12_hasSun 20 = .ok (.iadd, 1) := by decide +kernel
theorem dX12_hasSun_21 : decode cX12_hasSun 21 = .ok (.if_icmp .lt 7, 3) := by decide +kernel
theorem dX12_hasSun_24 : decode cX12_hasSun 24 = .ok (.iconst 1, 1) := by decide +kernel
theorem dX12_hasSun_25 : decode cX12_hasSun 25 = .ok (.goto 4, 3) := by decide +kernel
theorem dX12_hasSun_28 : decode cX12_hasSun 28 = .ok (.iconst 0, 1) := by decide +kernel
theorem dX12_hasSun_29 : decode cX12_hasSun 29 = .ok (.ireturn, 1) := by decide +kernel
theorem dX12_dries_0 : decode cX12_dries 0 = .ok (.aload_n 0, 1) := by decide +kernel
theorem dX12_dries_1 : decode cX12_dries 1 = .ok (.iload_n 1, 1) := by decide +kernel
theorem dX12_dries_2 : decode cX12_dries 2 = .ok (.iconst 0, 1) := by decide +kernel
theorem dX12_dries_3 : decode cX12_dries 3 = .ok (.invokevirtual 202, 3) := by decide +kernel
theorem dX12_dries_6 : decode cX12_dries 6 = .ok (.istore_n 3, 1) := by decide +kernel
theorem dX12_dries_7 : decode cX12_dries 7 = .ok (.aload_n 0, 1) := by decide +kernel
theorem dX12_dries_8 : decode cX12_dries 8 = .ok (.getfield 19, 3) := by decide +kernel
theorem dX12_dries_11 : decode cX12_dries 11 = .ok (.iconst 4, 1) := by decide +kernel
theorem dX12_dries_12 : decode cX12_dries 12 = .ok (.iload_n 2, 1) := by decide +kernel
theorem dX12_dries_13 : decode cX12_dries 13 = .ok (.bipush 24, 2) := by decide +kernel
theorem dX12_dries_15 : decode cX12_dries 15 = .ok (.irem, 1) := by decide +kernel
theorem dX12_dries_16 : decode cX12_dries 16 = .ok (.iadd, 1) := by decide +kernel
theorem dX12_dries_17 : decode cX12_dries 17 = .ok (.iaload, 1) := by decide +kernel
theorem dX12_dries_18 : decode cX12_dries 18 = .ok (.bipush 10, 2) := by decide +kernel
theorem dX12_dries_20 : decode cX12_dries 20 = .ok (.irem, 1) := by decide +kernel
theorem dX12_dries_21 : decode cX12_dries 21 = .ok (.aload_n 0, 1) := by decide +kernel
theorem dX12_dries_22 : decode cX12_dries 22 = .ok (.aload_n 0, 1) := by decide +kernel
theorem dX12_dries_23 : decode cX12_dries 23 = .ok (.getfield 28, 3) := by decide +kernel
theorem dX12_dries_26 : decode cX12_dries 26 = .ok (.iload_n 1, 1) := by decide +kernel
theorem dX12_dries_27 : decode cX12_dries 27 = .ok (.iaload, 1) := by decide +kernel
theorem dX12_dries_28 : decode cX12_dries 28 = .ok (.iload_n 2, 1) := by decide +kernel
theorem dX12_dries_29 : decode cX12_dries 29 = .ok (.iconst 0, 1) := by decide +kernel
theorem dX12_dries_30 : decode cX12_dries 30 = .ok (.invokevirtual 230, 3) := by decide +kernel
theorem dX12_dries_33 : decode cX12_dries 33 = .ok (.ifCond .eq 7, 3) := by decide +kernel
theorem dX12_dries_36 : decode cX12_dries 36 = .ok (.iconst 2, 1) := by decide +kernel
theorem dX12_dries_37 : decode cX12_dries 37 = .ok (.goto 4, 3) := by decide +kernel
theorem dX12_dries_40 : decode cX12_dries 40 = .ok (.iconst 0, 1) := by decide +kernel
theorem dX12_dries_41 : decode cX12_dries 41 = .ok (.iadd, 1) := by decide +kernel
theorem dX12_dries_42 : decode cX12_dries 42 = .ok (.iload_n 3, 1) := by decide +kernel
theorem dX12_dries_43 : decode cX12_dries 43 = .ok (.iconst 3, 1) := by decide +kernel
theorem dX12_dries_44 : decode cX12_dries 44 = .ok (.if_icmp .eq 8, 3) := by decide +kernel
theorem dX12_dries_47 : decode cX12_dries 47 = .ok (.iload_n 3, 1) := by decide +kernel
theorem dX12_dries_48 : decode cX12_dries 48 = .ok (.iconst 5, 1) := by decide +kernel
theorem dX12_dries_49 : decode cX12_dries 49 = .ok (.if_icmp .ne 7, 3) := by decide +kernel
theorem dX12_dries_52 : decode cX12_dries 52 = .ok (.iconst 2, 1) := by decide +kernel
theorem dX12_dries_53 : decode cX12_dries 53 = .ok (.goto 4, 3) := by decide +kernel
theorem dX12_dries_56 : decode cX12_dries 56 = .ok (.iconst 0, 1) := by decide +kernel
theorem dX12_dries_57 : decode cX12_dries 57 = .ok (.isub, 1) := by decide +kernel
theorem dX12_dries_58 : decode cX12_dries 58 = .ok (.istore 4, 2) := by decide +kernel
theorem dX12_dries_60 : decode cX12_dries 60 = .ok (.aload_n 0, 1) := by decide +kernel
theorem dX12_dries_61 : decode cX12_dries 61 = .ok (.getfield 31, 3) := by decide +kernel
theorem dX12_dries_64 : decode cX12_dries 64 = .ok (.iload_n 1, 1) := by decide +kernel
theorem dX12_dries_65 : decode cX12_dries 65 = .ok (.iaload, 1) := by decide +kernel
theorem dX12_dries_66 : decode cX12_dries 66 = .ok (.iload 4, 2) := by decide +kernel
theorem dX12_dries_68 : decode cX12_dries 68 = .ok (.ifCond .ge 7, 3) := by decide +kernel
theorem dX12_dries_71 : decode cX12_dries 71 = .ok (.iconst 0, 1) := by decide +kernel
theorem dX12_dries_72 : decode cX12_dries 72 = .ok (.goto 5, 3) := by decide +kernel
theorem dX12_dries_75 : decode cX12_dries 75 = .ok (.iload 4, 2) := by decide +kernel
theorem dX12_dries_77 : decode cX12_dries 77 = .ok (.isub, 1) := by decide +kernel
theorem dX12_dries_78 : decode cX12_dries 78 = .ok (.istore 5, 2) := by decide +kernel
theorem dX12_dries_80 : decode cX12_dries 80 = .ok (.aload_n 0, 1) := by decide +kernel
theorem dX12_dries_81 : decode cX12_dries 81 = .ok (.getfield 31, 3) := by decide +kernel
theorem dX12_dries_84 : decode cX12_dries 84 = .ok (.iload_n 1, 1) := by decide +kernel
theorem dX12_dries_85 : decode cX12_dries 85 = .ok (.iload 5, 2) := by decide +kernel
theorem dX12_dries_87 : decode cX12_dries 87 = .ok (.ifCond .ge 7, 3) := by decide +kernel
theorem dX12_dries_90 : decode cX12_dries 90 = .ok (.iconst 0, 1) := by decide +kernel
theorem dX12_dries_91 : decode cX12_dries 91 = .ok (.goto 5, 3) := by decide +kernel
theorem dX12_dries_94 : decode cX12_dries 94 = .ok (.iload 5, 2) := by decide +kernel
theorem dX12_dries_96 : decode cX12_dries 96 = .ok (.iastore, 1) := by decide +kernel
theorem dX12_dries_97 : decode cX12_dries 97 = .ok (.return_, 1) := by decide +kernel
theorem dX12_isReddish_0 : decode cX12_isReddish 0 = .ok (.aload_n 0, 1) := by decide +kernel
theorem dX12_isReddish_1 : decode cX12_isReddish 1 = .ok (.iload_n 1, 1) := by decide +kernel
theorem dX12_isReddish_2 : decode cX12_isReddish 2 = .ok (.iconst 0, 1) := by decide +kernel
theorem dX12_isReddish_3 : decode cX12_isReddish 3 = .ok (.invokevirtual 202, 3) := by decide +kernel
theorem dX12_isReddish_6 : decode cX12_isReddish 6 = .ok (.iconst 1, 1) := by decide +kernel
theorem dX12_isReddish_7 : decode cX12_isReddish 7 = .ok (.if_icmp .eq 13, 3) := by decide +kernel
theorem dX12_isReddish_10 : decode cX12_isReddish 10 = .ok (.aload_n 0, 1) := by decide +kernel
theorem dX12_isReddish_11 : decode cX12_isReddish 11 = .ok (.iload_n 1, 1) := by decide +kernel
theorem dX12_isReddish_12 : decode cX12_isReddish 12 = .ok (.iconst 0, 1) := by decide +kernel
theorem dX12_isReddish_13 : decode cX12_isReddish 13 = .ok (.invokevirtual 202, 3) := by decide +kernel
theorem dX12_isReddish_16 : decode cX12_isReddish 16 = .ok (.iconst 2, 1) := by decide +kernel
theorem dX12_isReddish_17 : decode cX12_isReddish 17 = .ok (.if_icmp .ne 7, 3) := by decide +kernel
theorem dX12_isReddish_20 : decode cX12_isReddish 20 = .ok (.iconst 1, 1) := by decide +kernel
theorem dX12_isReddish_21 : decode cX12_isReddish 21 = .ok (.goto 4, 3) := by decide +kernel
theorem dX12_isReddish_24 : decode cX12_isReddish 24 = .ok (.iconst 0, 1) := by decide +kernel
theorem dX12_isReddish_25 : decode cX12_isReddish 25 = .ok (.ireturn, 1) := by decide +kernel
theorem dX12_goOn_0 : decode cX12_goOn 0 = .ok (.iconst 0, 1) := by decide +kernel
theorem dX12_goOn_1 : decode cX12_goOn 1 = .ok (.istore_n 2, 1) := by decide +kernel
theorem dX12_goOn_2 : decode cX12_goOn 2 = .ok (.iload_n 2, 1) := by decide +kernel
theorem dX12_goOn_3 : decode cX12_goOn 3 = .ok (.aload_n 0, 1) := by decide +kernel
theorem dX12_goOn_4 : decode cX12_goOn 4 = .ok (.getfield 19, 3) := by decide +kernel
theorem dX12_goOn_7 : decode cX12_goOn 7 = .ok (.iconst 2, 1) := by decide +kernel
theorem dX12_goOn_8 : decode cX12_goOn 8 = .ok (.iaload, 1) := by decide +kernel
theorem dX12_goOn_9 : decode cX12_goOn 9 = .ok (.if_icmp .ge 26, 3) := by decide +kernel
theorem dX12_goOn_12 : decode cX12_goOn 12 = .ok (.aload_n 0, 1) := by decide +kernel
theorem dX12_goOn_13 : decode cX12_goOn 13 = .ok (.getfield 28, 3) := by decide +kernel
theorem dX12_goOn_16 : decode cX12_goOn 16 = .ok (.iload_n 2, 1) := by decide +kernel
theorem dX12_goOn_17 : decode cX12_goOn 17 = .ok (.iaload, 1) := by decide +kernel
theorem dX12_goOn_18 : decode cX12_goOn 18 = .ok (.ldc 89, 2) := by decide +kernel
theorem dX12_goOn_20 : decode cX12_goOn 20 = .ok (.if_icmp .eq 9, 3) := by decide +kernel
theorem dX12_goOn_23 : decode cX12_goOn 23 = .ok (.aload_n 0, 1) := by decide +kernel
theorem dX12_goOn_24 : decode cX12_goOn 24 = .ok (.iload_n 2, 1) := by decide +kernel
theorem dX12_goOn_25 : decode cX12_goOn 25 = .ok (.iload_n 1, 1) := by decide +kernel
theorem dX12_goOn_26 : decode cX12_goOn 26 = .ok (.invokevirtual 234, 3) := by decide +kernel
theorem dX12_goOn_29 : decode cX12_goOn 29 = .ok (.iinc 2 1, 3) := by decide +kernel
theorem dX12_goOn_32 : decode cX12_goOn 32 = .ok (.goto (-30), 3) := by decide +kernel
theorem dX12_goOn_35 : decode cX12_goOn 35 = .ok (.iconst 0, 1) := by decide +kernel
theorem dX12_goOn_36 : decode cX12_goOn 36 = .ok (.istore_n 2, 1) := by decide +kernel
theorem dX12_goOn_37 : decode cX12_goOn 37 = .ok (.iconst 0, 1) := by decide +kernel
theorem dX12_goOn_38 : decode cX12_goOn 38 = .ok (.istore_n 3, 1) := by decide +kernel
theorem dX12_goOn_39 : decode cX12_goOn 39 = .ok (.iload_n 3, 1) := by decide +kernel
theorem dX12_goOn_40 : decode cX12_goOn 40 = .ok (.aload_n 0, 1) := by decide +kernel
theorem dX12_goOn_41 : decode cX12_goOn 41 = .ok (.getfield 19, 3) := by decide +kernel
theorem dX12_goOn_44 : decode cX12_goOn 44 = .ok (.iconst 2, 1) := by decide +kernel
theorem dX12_goOn_45 : decode cX12_goOn 45 = .ok (.iaload, 1) := by decide +kernel
theorem dX12_goOn_46 : decode cX12_goOn 46 = .ok (.if_icmp .ge 41, 3) := by decide +kernel
theorem dX12_goOn_49 : decode cX12_goOn 49 = .ok (.iload_n 2, 1) := by decide +kernel
theorem dX12_goOn_50 : decode cX12_goOn 50 = .ok (.aload_n 0, 1) := by decide +kernel
theorem dX12_goOn_51 : decode cX12_goOn 51 = .ok (.getfield 28, 3) := by decide +kernel
theorem dX12_goOn_54 : decode cX12_goOn 54 = .ok (.iload_n 3, 1) := by decide +kernel
theorem dX12_goOn_55 : decode cX12_goOn 55 = .ok (.iaload, 1) := by decide +kernel
theorem dX12_goOn_56 : decode cX12_goOn 56 = .ok (.ldc 89, 2) := by decide +kernel
theorem dX12_goOn_58 : decode cX12_goOn 58 = .ok (.if_icmp .eq 20, 3) := by decide +kernel
theorem dX12_goOn_61 : decode cX12_goOn 61 = .ok (.aload_n 0, 1) := by decide +kernel
theorem dX12_goOn_62 : decode cX12_goOn 62 = .ok (.getfield 31, 3) := by decide +kernel
theorem dX12_goOn_65 : decode cX12_goOn 65 = .ok (.iload_n 3, 1) := by decide +kernel
theorem dX12_goOn_66 : decode cX12_goOn 66 = .ok (.iaload, 1) := by decide +kernel
theorem dX12_goOn_67 : decode cX12_goOn 67 = .ok (.bipush 30, 2) := by decide +kernel
theorem dX12_goOn_69 : decode cX12_goOn 69 = .ok (.if_icmp .le 9, 3) := by decide +kernel
theorem dX12_goOn_72 : decode cX12_goOn 72 = .ok (.iconst 1, 1) := by decide +kernel
theorem dX12_goOn_73 : decode cX12_goOn 73 = .ok (.iload_n 3, 1) := by decide +kernel
theorem dX12_goOn_74 : decode cX12_goOn 74 = .ok (.ishl, 1) := by decide +kernel
theorem dX12_goOn_75 : decode cX12_goOn 75 = .ok (.goto 4, 3) := by decide +kernel
theorem dX12_goOn_78 : decode cX12_goOn 78 = .ok (.iconst 0, 1) := by decide +kernel
theorem dX12_goOn_79 : decode cX12_goOn 79 = .ok (.ior, 1) := by decide +kernel
theorem dX12_goOn_80 : decode cX12_goOn 80 = .ok (.istore_n 2, 1) := by decide +kernel
theorem dX12_goOn_81 : decode cX12_goOn 81 = .ok (.iinc 3 1, 3) := by decide +kernel
theorem dX12_goOn_84 : decode cX12_goOn 84 = .ok (.goto (-45), 3) := by decide +kernel
theorem dX12_goOn_87 : decode cX12_goOn 87 = .ok (.iconst 0, 1) := by decide +kernel
theorem dX12_goOn_88 : decode cX12_goOn 88 = .ok (.istore_n 3, 1) := by decide +kernel
theorem dX12_goOn_89 : decode cX12_goOn 89 = .ok (.iload_n 3, 1) := by decide +kernel
theorem dX12_goOn_90 : decode cX12_goOn 90 = .ok (.aload_n 0, 1) := by decide +kernel
theorem dX12_goOn_91 : decode cX12_goOn 91 = .ok (.getfield 19, 3) := by decide +kernel
theorem dX12_goOn_94 : decode cX12_goOn 94 = .ok (.iconst 2, 1) := by decide +kernel
theorem dX12_goOn_95 : decode cX12_goOn 95 = .ok (.iaload, 1) := by decide +kernel
theorem dX12_goOn_96 : decode cX12_goOn 96 = .ok (.if_icmp .ge 145, 3) := by decide +kernel
theorem dX12_goOn_99 : decode cX12_goOn 99 = .ok (.iload_n 2, 1) := by decide +kernel
theorem dX12_goOn_100 : decode cX12_goOn 100 = .ok (.iload_n 3, 1) := by decide +kernel
theorem dX12_goOn_101 : decode cX12_goOn 101 = .ok (.ishr, 1) := by decide +kernel
theorem dX12_goOn_102 : decode cX12_goOn 102 = .ok (.iconst 1, 1) := by decide +kernel
theorem dX12_goOn_103 : decode cX12_goOn 103 = .ok (.iand, 1) := by decide +kernel
theorem dX12_goOn_104 : decode cX12_goOn 104 = .ok (.iconst 1, 1) := by decide +kernel
theorem dX12_goOn_105 : decode cX12_goOn 105 = .ok (.if_icmp .ne 16, 3) := by decide +kernel
theorem dX12_goOn_108 : decode cX12_goOn 108 = .ok (.aload_n 0, 1) := by decide +kernel
theorem dX12_goOn_109 : decode cX12_goOn 109 = .ok (.aload_n 0, 1) := by decide +kernel
theorem dX12_goOn_110 : decode cX12_goOn 110 = .ok (.getfield 28, 3) := by decide +kernel
theorem dX12_goOn_113 : decode cX12_goOn 113 = .ok (.iload_n 3, 1) := by decide +kernel
theorem dX12_goOn_114 : decode cX12_goOn 114 = .ok (.iaload, 1) := by decide +kernel
theorem dX12_goOn_115 : decode cX12_goOn 115 = .ok (.invokevirtual 237, 3) := by decide +kernel
theorem dX12_goOn_118 : decode cX12_goOn 118 = .ok (.goto 5, 3) := by decide +kernel
theorem dX12_goOn_121 : decode cX12_goOn 121 = .ok (.ldc 89, 2) := by decide +kernel
theorem dX12_goOn_123 : decode cX12_goOn 123 = .ok (.istore 4, 2) := by decide +kernel
theorem dX12_goOn_125 : decode cX12_goOn 125 = .ok (.iconst 0, 1) := by decide +kernel
theorem dX12_goOn_126 : decode cX12_goOn 126 = .ok (.istore 5, 2) := by decide +kernel
theorem dX12_goOn_128 : decode cX12_goOn 128 = .ok (.iload 5, 2) := by decide +kernel
theorem dX12_goOn_130 : decode cX12_goOn 130 = .ok (.aload_n 0, 1) := by decide +kernel
theorem dX12_goOn_131 : decode cX12_goOn 131 = .ok (.getfield 19, 3) := by decide +kernel
theorem dX12_goOn_134 : decode cX12_goOn 134 = .ok (.iconst 2, 1) := by decide +kernel
theorem dX12_goOn_135 : decode cX12_goOn 135 = .ok (.iaload, 1) := by decide +kernel
theorem dX12_goOn_136 : decode cX12_goOn 136 = .ok (.if_icmp .ge 99, 3) := by decide +kernel
theorem dX12_goOn_139 : decode cX12_goOn 139 = .ok (.iload 4, 2) := by decide +kernel
theorem dX12_goOn_141 : decode cX12_goOn 141 = .ok (.ldc 89, 2) := by decide +kernel
theorem dX12_goOn_143 : decode cX12_goOn 143 = .ok (.if_icmp .eq 92, 3) := by decide +kernel
theorem dX12_goOn_146 : decode cX12_goOn 146 = .ok (.aload_n 0, 1) := by decide +kernel
theorem dX12_goOn_147 : decode cX12_goOn 147 = .ok (.getfield 28, 3) := by decide +kernel
theorem dX12_goOn_150 : decode cX12_goOn 150 = .ok (.iload 5, 2) := by decide +kernel
theorem dX12_goOn_152 : decode cX12_goOn 152 = .ok (.iaload, 1) := by decide +kernel
theorem dX12_goOn_153 : decode cX12_goOn 153 = .ok (.iload 4, 2) := by decide +kernel
theorem dX12_goOn_155 : decode cX12_goOn 155 = .ok (.if_icmp .ne 74, 3) := by decide +kernel
theorem dX12_goOn_158 : decode cX12_goOn 158 = .ok (.aload_n 0, 1) := by decide +kernel
theorem dX12_goOn_159 : decode cX12_goOn 159 = .ok (.getfield 31, 3) := by decide +kernel
theorem dX12_goOn_162 : decode cX12_goOn 162 = .ok (.iload 5, 2) := by decide +kernel
theorem dX12_goOn_164 : decode cX12_goOn 164 = .ok (.aload_n 0, 1) := by decide +kernel
theorem dX12_goOn_165 : decode cX12_goOn 165 = .ok (.getfield 31, 3) := by decide +kernel
theorem dX12_goOn_168 : decode cX12_goOn 168 = .ok (.iload 5, 2) := by decide +kernel
theorem dX12_goOn_170 : decode cX12_goOn 170 = .ok (.iaload, 1) := by decide +kernel
theorem dX12_goOn_171 : decode cX12_goOn 171 = .ok (.iconst 3, 1) := by decide +kernel
theorem dX12_goOn_172 : decode cX12_goOn 172 = .ok (.iadd, 1) := by decide +kernel
theorem dX12_goOn_173 : decode cX12_goOn 173 = .ok (.bipush 99, 2) := by decide +kernel
theorem dX12_goOn_175 : decode cX12_goOn 175 = .ok (.if_icmp .le 8, 3) := by decide +kernel
theorem dX12_goOn_178 : decode cX12_goOn 178 = .ok (.bipush 99, 2) := by decide +kernel
theorem dX12_goOn_180 : decode cX12_goOn 180 = .ok (.goto 12, 3) := by decide +kernel
theorem dX12_goOn_183 : decode cX12_goOn 183 = .ok (.aload_n 0, 1) := by decide +kernel
theorem dX12_goOn_184 : decode cX12_goOn 184 = .ok (.getfield 31, 3) := by decide +kernel
theorem dX12_goOn_187 : decode cX12_goOn 187 = .ok (.iload 5, 2) := by decide +kernel
theorem dX12_goOn_189 : decode cX12_goOn 189 = .ok (.iaload, 1) := by decide +kernel
theorem dX12_goOn_190 : decode cX12_goOn 190 = .ok (.iconst 3, 1) := by decide +kernel
theorem dX12_goOn_191 : decode cX12_goOn 191 = .ok (.iadd, 1) := by decide +kernel
theorem dX12_goOn_192 : decode cX12_goOn 192 = .ok (.iastore, 1) := by decide +kernel
theorem dX12_goOn_193 : decode cX12_goOn 193 = .ok (.aload_n 0, 1) := by decide +kernel
theorem dX12_goOn_194 : decode cX12_goOn 194 = .ok (.dup, 1) := by decide +kernel
theorem dX12_goOn_195 : decode cX12_goOn 195 = .ok (.getfield 199, 3) := by decide +kernel
theorem dX12_goOn_198 : decode cX12_goOn 198 = .ok (.aload_n 0, 1) := by decide +kernel
theorem dX12_goOn_199 : decode cX12_goOn 199 = .ok (.iload_n 3, 1) := by decide +kernel
theorem dX12_goOn_200 : decode cX12_goOn 200 = .ok (.iconst 0, 1) := by decide +kernel
theorem dX12_goOn_201 : decode cX12_goOn 201 = .ok (.invokevirtual 202, 3) := by decide +kernel
theorem dX12_goOn_204 : decode cX12_goOn 204 = .ok (.iconst 1, 1) := by decide +kernel
theorem dX12_goOn_205 : decode cX12_goOn 205 = .ok (.if_icmp .ne 19, 3) := by decide +kernel
theorem dX12_goOn_208 : decode cX12_goOn 208 = .ok (.aload_n 0, 1) := by decide +kernel
theorem dX12_goOn_209 : decode cX12_goOn 209 = .ok (.iload 5, 2) := by decide +kernel
theorem dX12_goOn_211 : decode cX12_goOn 211 = .ok (.invokevirtual 240, 3) := by decide +kernel
theorem dX12_goOn_214 : decode cX12_goOn 214 = .ok (.ifCond .ne 10, 3) := by decide +kernel
theorem dX12_goOn_217 : decode cX12_goOn 217 = .ok (.iconst 1, 1) := by decide +kernel
theorem dX12_goOn_218 : decode cX12_goOn 218 = .ok (.iload 5, 2) := by decide +kernel
theorem dX12_goOn_220 : decode cX12_goOn 220 = .ok (.ishl, 1) := by decide +kernel
theorem dX12_goOn_221 : decode cX12_goOn 221 = .ok (.goto 4, 3) := by decide +kernel
theorem dX12_goOn_224 : decode cX12_goOn 224 = .ok (.iconst 0, 1) := by decide +kernel
theorem dX12_goOn_225 : decode cX12_goOn 225 = .ok (.ior, 1) := by decide +kernel
theorem dX12_goOn_226 : decode cX12_goOn 226 = .ok (.putfield 199, 3) := by decide +kernel
theorem dX12_goOn_229 : decode cX12_goOn 229 = .ok (.iinc 5 1, 3) := by decide +kernel
theorem dX12_goOn_232 : decode cX12_goOn 232 = .ok (.goto (-104), 3) := by decide +kernel
theorem dX12_goOn_235 : decode cX12_goOn 235 = .ok (.iinc 3 1, 3) := by decide +kernel
theorem dX12_goOn_238 : decode cX12_goOn 238 = .ok (.goto (-149), 3) := by decide +kernel
theorem dX12_goOn_241 : decode cX12_goOn 241 = .ok (.return_, 1) := by decide +kernel
theorem dX12_quarters_0 : decode cX12_quarters 0 = .ok (.aload_n 0, 1) := by decide +kernel
theorem dX12_quarters_1 : decode cX12_quarters 1 = .ok (.iconst 0, 1) := by decide +kernel
theorem dX12_quarters_2 : decode cX12_quarters 2 = .ok (.putfield 53, 3) := by decide +kernel
theorem dX12_quarters_5 : decode cX12_quarters 5 = .ok (.aload_n 0, 1) := by decide +kernel
theorem dX12_quarters_6 : decode cX12_quarters 6 = .ok (.getfield 192, 3) := by decide +kernel
theorem dX12_quarters_9 : decode cX12_quarters 9 = .ok (.ifCond .ne 6, 3) := by decide +kernel
theorem dX12_quarters_12 : decode cX12_quarters 12 = .ok (.ldc 208, 2) := by decide +kernel
theorem dX12_quarters_14 : decode cX12_quarters 14 = .ok (.ireturn, 1) := by decide +kernel
theorem dX12_quarters_15 : decode cX12_quarters 15 = .ok (.iload_n 1, 1) := by decide +kernel
theorem dX12_quarters_16 : decode cX12_quarters 16 = .ok (.i2l, 1) := by decide +kernel
theorem dX12_quarters_17 : decode cX12_quarters 17 = .ok (.lconst 1, 1) := by decide +kernel
theorem dX12_quarters_18 : decode cX12_quarters 18 = .ok (.ldc2_w 243, 3) := by decide +kernel
theorem dX12_quarters_21 : decode cX12_quarters 21 = .ok (.invokestatic 63, 3) := by decide +kernel
theorem dX12_quarters_24 : decode cX12_quarters 24 = .ok (.ifCond .ne 6, 3) := by decide +kernel
theorem dX12_quarters_27 : decode cX12_quarters 27 = .ok (.ldc 73, 2) := by decide +kernel
theorem dX12_quarters_29 : decode cX12_quarters 29 = .ok (.ireturn, 1) := by decide +kernel
theorem dX12_quarters_30 : decode cX12_quarters 30 = .ok (.aload_n 0, 1) := by decide +kernel
theorem dX12_quarters_31 : decode cX12_quarters 31 = .ok (.invokevirtual 221, 3) := by decide +kernel
theorem dX12_quarters_34 : decode cX12_quarters 34 = .ok (.iconst 0, 1) := by decide +kernel
theorem dX12_quarters_35 : decode cX12_quarters 35 = .ok (.istore_n 2, 1) := by decide +kernel
theorem dX12_quarters_36 : decode cX12_quarters 36 = .ok (.iload_n 2, 1) := by decide +kernel
theorem dX12_quarters_37 : decode cX12_quarters 37 = .ok (.iload_n 1, 1) := by decide +kernel
theorem dX12_quarters_38 : decode cX12_quarters 38 = .ok (.if_icmp .ge 21, 3) := by decide +kernel
theorem dX12_quarters_41 : decode cX12_quarters 41 = .ok (.aload_n 0, 1) := by decide +kernel
theorem dX12_quarters_42 : decode cX12_quarters 42 = .ok (.aload_n 0, 1) := by decide +kernel
theorem dX12_quarters_43 : decode cX12_quarters 43 = .ok (.getfield 19, 3) := by decide +kernel
theorem dX12_quarters_46 : decode cX12_quarters 46 = .ok (.iconst 3, 1) := by decide +kernel
theorem dX12_quarters_47 : decode cX12_quarters 47 = .ok (.iaload, 1) := by decide +kernel
theorem dX12_quarters_48 : decode cX12_quarters 48 = .ok (.iload_n 2, 1) := by decide +kernel
theorem dX12_quarters_49 : decode cX12_quarters 49 = .ok (.iadd, 1) := by decide +kernel
theorem dX12_quarters_50 : decode cX12_quarters 50 = .ok (.invokevirtual 245, 3) := by decide +kernel
theorem dX12_quarters_53 : decode cX12_quarters 53 = .ok (.iinc 2 1, 3) := by decide +kernel
theorem dX12_quarters_56 : decode cX12_quarters 56 = .ok (.goto (-20), 3) := by decide +kernel
theorem dX12_quarters_59 : decode cX12_quarters 59 = .ok (.aload_n 0, 1) := by decide +kernel
theorem dX12_quarters_60 : decode cX12_quarters 60 = .ok (.invokevirtual 227, 3) := by decide +kernel
theorem dX12_quarters_63 : decode cX12_quarters 63 = .ok (.aload_n 0, 1) := by decide +kernel
theorem dX12_quarters_64 : decode cX12_quarters 64 = .ok (.getfield 19, 3) := by decide +kernel
theorem dX12_quarters_67 : decode cX12_quarters 67 = .ok (.iconst 3, 1) := by decide +kernel
theorem dX12_quarters_68 : decode cX12_quarters 68 = .ok (.dup2, 1) := by decide +kernel
theorem dX12_quarters_69 : decode cX12_quarters 69 = .ok (.iaload, 1) := by decide +kernel
theorem dX12_quarters_70 : decode cX12_quarters 70 = .ok (.iload_n 1, 1) := by decide +kernel
theorem dX12_quarters_71 : decode cX12_quarters 71 = .ok (.iadd, 1) := by decide +kernel
theorem dX12_quarters_72 : decode cX12_quarters 72 = .ok (.iastore, 1) := by decide +kernel
theorem dX12_quarters_73 : decode cX12_quarters 73 = .ok (.aload_n 0, 1) := by decide +kernel
theorem dX12_quarters_74 : decode cX12_quarters 74 = .ok (.getfield 19, 3) := by decide +kernel
theorem dX12_quarters_77 : decode cX12_quarters 77 = .ok (.iconst 3, 1) := by decide +kernel
theorem dX12_quarters_78 : decode cX12_quarters 78 = .ok (.iaload, 1) := by decide +kernel
theorem dX12_quarters_79 : decode cX12_quarters 79 = .ok (.ireturn, 1) := by decide +kernel
theorem dX12_lay_0 : decode cX12_lay 0 = .ok (.aload_n 0, 1) := by decide +kernel
theorem dX12_lay_1 : decode cX12_lay 1 = .ok (.iconst 0, 1) := by decide +kernel
theorem dX12_lay_2 : decode cX12_lay 2 = .ok (.putfield 53, 3) := by decide +kernel
theorem dX12_lay_5 : decode cX12_lay 5 = .ok (.aload_n 0, 1) := by decide +kernel
theorem dX12_lay_6 : decode cX12_lay 6 = .ok (.getfield 192, 3) := by decide +kernel
theorem dX12_lay_9 : decode cX12_lay 9 = .ok (.ifCond .ne 6, 3) := by decide +kernel
theorem dX12_lay_12 : decode cX12_lay 12 = .ok (.ldc 208, 2) := by decide +kernel
theorem dX12_lay_14 : decode cX12_lay 14 = .ok (.ireturn, 1) := by decide +kernel
theorem dX12_lay_15 : decode cX12_lay 15 = .ok (.iload_n 1, 1) := by decide +kernel
theorem dX12_lay_16 : decode cX12_lay 16 = .ok (.invokestatic 67, 3) := by decide +kernel
theorem dX12_lay_19 : decode cX12_lay 19 = .ok (.ifCond .ne 6, 3) := by decide +kernel
theorem dX12_lay_22 : decode cX12_lay 22 = .ok (.ldc 73, 2) := by decide +kernel
theorem dX12_lay_24 : decode cX12_lay 24 = .ok (.ireturn, 1) := by decide +kernel
theorem dX12_lay_25 : decode cX12_lay 25 = .ok (.aload_n 0, 1) := by decide +kernel
theorem dX12_lay_26 : decode cX12_lay 26 = .ok (.getfield 7, 3) := by decide +kernel
theorem dX12_lay_29 : decode cX12_lay 29 = .ok (.iload_n 1, 1) := by decide +kernel
theorem dX12_lay_30 : decode cX12_lay 30 = .ok (.iaload, 1) := by decide +kernel
theorem dX12_lay_31 : decode cX12_lay 31 = .ok (.ifCond .ge 9, 3) := by decide +kernel
theorem dX12_lay_34 : decode cX12_lay 34 = .ok (.aload_n 0, 1) := by decide +kernel
theorem dX12_lay_35 : decode cX12_lay 35 = .ok (.iconst 1, 1) := by decide +kernel
theorem dX12_lay_36 : decode cX12_lay 36 = .ok (.invokevirtual 74, 3) := by decide +kernel
theorem dX12_lay_39 : decode cX12_lay 39 = .ok (.ireturn, 1) := by decide +kernel
theorem dX12_lay_40 : decode cX12_lay 40 = .ok (.iload_n 2, 1) := by decide +kernel
theorem dX12_lay_41 : decode cX12_lay 41 = .ok (.ifCond .lt 24, 3) := by decide +kernel
theorem dX12_lay_44 : decode cX12_lay 44 = .ok (.iload_n 2, 1) := by decide +kernel
theorem dX12_lay_45 : decode cX12_lay 45 = .ok (.i2l, 1) := by decide +kernel
theorem dX12_lay_46 : decode cX12_lay 46 = .ok (.aload_n 0, 1) := by decide +kernel
theorem dX12_lay_47 : decode cX12_lay 47 = .ok (.getfield 19, 3) := by decide +kernel
theorem dX12_lay_50 : decode cX12_lay 50 = .ok (.iconst 2, 1) := by decide +kernel
theorem dX12_lay_51 : decode cX12_lay 51 = .ok (.iaload, 1) := by decide +kernel
theorem dX12_lay_52 : decode cX12_lay 52 = .ok (.i2l, 1) := by decide +kernel
theorem dX12_lay_53 : decode cX12_lay 53 = .ok (.ladd, 1) := by decide +kernel
theorem dX12_lay_54 : decode cX12_lay 54 = .ok (.aload_n 0, 1) := by decide +kernel
theorem dX12_lay_55 : decode cX12_lay 55 = .ok (.getfield 13, 3) := by decide +kernel
theorem dX12_lay_58 : decode cX12_lay 58 = .ok (.iload_n 1, 1) := by decide +kernel
theorem dX12_lay_59 : decode cX12_lay 59 = .ok (.iaload, 1) := by decide +kernel
theorem dX12_lay_60 : decode cX12_lay 60 = .ok (.i2l, 1) := by decide +kernel
theorem dX12_lay_61 : decode cX12_lay 61 = .ok (.lcmp, 1) := by decide +kernel
