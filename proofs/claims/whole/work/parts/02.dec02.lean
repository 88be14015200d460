theorem dX9_begin_19 : decode cX9_begin 19 = .ok (.getfield 11, 3) := by decide +kernel
theorem dX9_begin_22 : decode cX9_begin 22 = .ok (.iload_n 2, 1) := by decide +kernel
theorem dX9_begin_23 : decode cX9_begin 23 = .ok (.aload_n 1, 1) := by decide +kernel
theorem dX9_begin_24 : decode cX9_begin 24 = .ok (.getfield 38, 3) := by decide +kernel
theorem dX9_begin_27 : decode cX9_begin 27 = .ok (.iload_n 2, 1) := by decide +kernel
theorem dX9_begin_28 : decode cX9_begin 28 = .ok (.iaload, 1) := by decide +kernel
theorem dX9_begin_29 : decode cX9_begin 29 = .ok (.iastore, 1) := by decide +kernel
theorem dX9_begin_30 : decode cX9_begin 30 = .ok (.aload_n 0, 1) := by decide +kernel
theorem dX9_begin_31 : decode cX9_begin 31 = .ok (.getfield 17, 3) := by decide +kernel
theorem dX9_begin_34 : decode cX9_begin 34 = .ok (.iload_n 2, 1) := by decide +kernel
theorem dX9_begin_35 : decode cX9_begin 35 = .ok (.iconst (-1), 1) := by decide +kernel
theorem dX9_begin_36 : decode cX9_begin 36 = .ok (.iastore, 1) := by decide +kernel
theorem dX9_begin_37 : decode cX9_begin 37 = .ok (.aload_n 0, 1) := by decide +kernel
theorem dX9_begin_38 : decode cX9_begin 38 = .ok (.getfield 20, 3) := by decide +kernel
theorem dX9_begin_41 : decode cX9_begin 41 = .ok (.iload_n 2, 1) := by decide +kernel
theorem dX9_begin_42 : decode cX9_begin 42 = .ok (.iconst 0, 1) := by decide +kernel
theorem dX9_begin_43 : decode cX9_begin 43 = .ok (.bastore, 1) := by decide +kernel
theorem dX9_begin_44 : decode cX9_begin 44 = .ok (.iinc 2 1, 3) := by decide +kernel
theorem dX9_begin_47 : decode cX9_begin 47 = .ok (.goto (-35), 3) := by decide +kernel
theorem dX9_begin_50 : decode cX9_begin 50 = .ok (.return_, 1) := by decide +kernel
theorem dX9_become_0 : decode cX9_become 0 = .ok (.aload_n 0, 1) := by decide +kernel
theorem dX9_become_1 : decode cX9_become 1 = .ok (.aload_n 1, 1) := by decide +kernel
theorem dX9_become_2 : decode cX9_become 2 = .ok (.getfield 30, 3) := by decide +kernel
theorem dX9_become_5 : decode cX9_become 5 = .ok (.putfield 30, 3) := by decide +kernel
theorem dX9_become_8 : decode cX9_become 8 = .ok (.aload_n 0, 1) := by decide +kernel
theorem dX9_become_9 : decode cX9_become 9 = .ok (.aload_n 1, 1) := by decide +kernel
theorem dX9_become_10 : decode cX9_become 10 = .ok (.getfield 34, 3) := by decide +kernel
theorem dX9_become_13 : decode cX9_become 13 = .ok (.putfield 34, 3) := by decide +kernel
theorem dX9_become_16 : decode cX9_become 16 = .ok (.iconst 0, 1) := by decide +kernel
theorem dX9_become_17 : decode cX9_become 17 = .ok (.istore_n 2, 1) := by decide +kernel
theorem dX9_become_18 : decode cX9_become 18 = .ok (.iload_n 2, 1) := by decide +kernel
theorem dX9_become_19 : decode cX9_become 19 = .ok (.bipush 10, 2) := by decide +kernel
theorem dX9_become_21 : decode cX9_become 21 = .ok (.if_icmp .ge 45, 3) := by decide +kernel
theorem dX9_become_24 : decode cX9_become 24 = .ok (.aload_n 0, 1) := by decide +kernel
theorem dX9_become_25 : decode cX9_become 25 = .ok (.getfield 11, 3) := by decide +kernel
theorem dX9_become_28 : decode cX9_become 28 = .ok (.iload_n 2, 1) := by decide +kernel
theorem dX9_become_29 : decode cX9_become 29 = .ok (.aload_n 1, 1) := by decide +kernel
theorem dX9_become_30 : decode cX9_become 30 = .ok (.getfield 11, 3) := by decide +kernel
theorem dX9_become_33 : decode cX9_become 33 = .ok (.iload_n 2, 1) := by decide +kernel
theorem dX9_become_34 : decode cX9_become 34 = .ok (.iaload, 1) := by decide +kernel
theorem dX9_become_35 : decode cX9_become 35 = .ok (.iastore, 1) := by decide +kernel
theorem dX9_become_36 : decode cX9_become 36 = .ok (.aload_n 0, 1) := by decide +kernel
theorem dX9_become_37 : decode cX9_become 37 = .ok (.getfield 17, 3) := by decide +kernel
theorem dX9_become_40 : decode cX9_become 40 = .ok (.iload_n 2, 1) := by decide +kernel
theorem dX9_become_41 : decode cX9_become 41 = .ok (.aload_n 1, 1) := by decide +kernel
theorem dX9_become_42 : decode cX9_become 42 = .ok (.getfield 17, 3) := by decide +kernel
theorem dX9_become_45 : decode cX9_become 45 = .ok (.iload_n 2, 1) := by decide +kernel
theorem dX9_become_46 : decode cX9_become 46 = .ok (.iaload, 1) := by decide +kernel
theorem dX9_become_47 : decode cX9_become 47 = .ok (.iastore, 1) := by decide +kernel
theorem dX9_become_48 : decode cX9_become 48 = .ok (.aload_n 0, 1) := by decide +kernel
theorem dX9_become_49 : decode cX9_become 49 = .ok (.getfield 20, 3) := by decide +kernel
theorem dX9_become_52 : decode cX9_become 52 = .ok (.iload_n 2, 1) := by decide +kernel
theorem dX9_become_53 : decode cX9_become 53 = .ok (.aload_n 1, 1) := by decide +kernel
theorem dX9_become_54 : decode cX9_become 54 = .ok (.getfield 20, 3) := by decide +kernel
theorem dX9_become_57 : decode cX9_become 57 = .ok (.iload_n 2, 1) := by decide +kernel
theorem dX9_become_58 : decode cX9_become 58 = .ok (.baload, 1) := by decide +kernel
theorem dX9_become_59 : decode cX9_become 59 = .ok (.bastore, 1) := by decide +kernel
theorem dX9_become_60 : decode cX9_become 60 = .ok (.iinc 2 1, 3) := by decide +kernel
theorem dX9_become_63 : decode cX9_become 63 = .ok (.goto (-45), 3) := by decide +kernel
theorem dX9_become_66 : decode cX9_become 66 = .ok (.return_, 1) := by decide +kernel
theorem dX9_quarterNow_0 : decode cX9_quarterNow 0 = .ok (.aload_n 0, 1) := by decide +kernel
theorem dX9_quarterNow_1 : decode cX9_quarterNow 1 = .ok (.getfield 34, 3) := by decide +kernel
theorem dX9_quarterNow_4 : decode cX9_quarterNow 4 = .ok (.bipush 24, 2) := by decide +kernel
theorem dX9_quarterNow_6 : decode cX9_quarterNow 6 = .ok (.invokestatic 41, 3) := by decide +kernel
theorem dX9_quarterNow_9 : decode cX9_quarterNow 9 = .ok (.ireturn, 1) := by decide +kernel
theorem dX9_isHung_0 : decode cX9_isHung 0 = .ok (.aload_n 0, 1) := by decide +kernel
theorem dX9_isHung_1 : decode cX9_isHung 1 = .ok (.getfield 17, 3) := by decide +kernel
theorem dX9_isHung_4 : decode cX9_isHung 4 = .ok (.iload_n 1, 1) := by decide +kernel
theorem dX9_isHung_5 : decode cX9_isHung 5 = .ok (.iaload, 1) := by decide +kernel
theorem dX9_isHung_6 : decode cX9_isHung 6 = .ok (.iconst (-1), 1) := by decide +kernel
theorem dX9_isHung_7 : decode cX9_isHung 7 = .ok (.if_icmp .eq 7, 3) := by decide +kernel
theorem dX9_isHung_10 : decode cX9_isHung 10 = .ok (.iconst 1, 1) := by decide +kernel
theorem dX9_isHung_11 : decode cX9_isHung 11 = .ok (.goto 4, 3) := by decide +kernel
theorem dX9_isHung_14 : decode cX9_isHung 14 = .ok (.iconst 0, 1) := by decide +kernel
theorem dX9_isHung_15 : decode cX9_isHung 15 = .ok (.ireturn, 1) := by decide +kernel
theorem dX9_putUp_0 : decode cX9_putUp 0 = .ok (.aload_n 0, 1) := by decide +kernel
theorem dX9_putUp_1 : decode cX9_putUp 1 = .ok (.getfield 17, 3) := by decide +kernel
theorem dX9_putUp_4 : decode cX9_putUp 4 = .ok (.iload_n 1, 1) := by decide +kernel
theorem dX9_putUp_5 : decode cX9_putUp 5 = .ok (.iload_n 2, 1) := by decide +kernel
theorem dX9_putUp_6 : decode cX9_putUp 6 = .ok (.iastore, 1) := by decide +kernel
theorem dX9_putUp_7 : decode cX9_putUp 7 = .ok (.return_, 1) := by decide +kernel
theorem dX9_takeDown_0 : decode cX9_takeDown 0 = .ok (.aload_n 0, 1) := by decide +kernel
theorem dX9_takeDown_1 : decode cX9_takeDown 1 = .ok (.getfield 17, 3) := by decide +kernel
theorem dX9_takeDown_4 : decode cX9_takeDown 4 = .ok (.iload_n 1, 1) := by decide +kernel
theorem dX9_takeDown_5 : decode cX9_takeDown 5 = .ok (.iaload, 1) := by decide +kernel
theorem dX9_takeDown_6 : decode cX9_takeDown 6 = .ok (.istore_n 2, 1) := by decide +kernel
theorem dX9_takeDown_7 : decode cX9_takeDown 7 = .ok (.aload_n 0, 1) := by decide +kernel
theorem dX9_takeDown_8 : decode cX9_takeDown 8 = .ok (.getfield 17, 3) := by decide +kernel
theorem dX9_takeDown_11 : decode cX9_takeDown 11 = .ok (.iload_n 1, 1) := by decide +kernel
theorem dX9_takeDown_12 : decode cX9_takeDown 12 = .ok (.iconst (-1), 1) := by decide +kernel
theorem dX9_takeDown_13 : decode cX9_takeDown 13 = .ok (.iastore, 1) := by decide +kernel
theorem dX9_takeDown_14 : decode cX9_takeDown 14 = .ok (.iload_n 2, 1) := by decide +kernel
theorem dX9_takeDown_15 : decode cX9_takeDown 15 = .ok (.ireturn, 1) := by decide +kernel
theorem dX9_takeAllDown_0 : decode cX9_takeAllDown 0 = .ok (.iconst 0, 1) := by decide +kernel
theorem dX9_takeAllDown_1 : decode cX9_takeAllDown 1 = .ok (.istore_n 1, 1) := by decide +kernel
theorem dX9_takeAllDown_2 : decode cX9_takeAllDown 2 = .ok (.iload_n 1, 1) := by decide +kernel
theorem dX9_takeAllDown_3 : decode cX9_takeAllDown 3 = .ok (.aload_n 0, 1) := by decide +kernel
theorem dX9_takeAllDown_4 : decode cX9_takeAllDown 4 = .ok (.getfield 30, 3) := by decide +kernel
theorem dX9_takeAllDown_7 : decode cX9_takeAllDown 7 = .ok (.getfield 47, 3) := by decide +kernel
theorem dX9_takeAllDown_10 : decode cX9_takeAllDown 10 = .ok (.if_icmp .ge 15, 3) := by decide +kernel
theorem dX9_takeAllDown_13 : decode cX9_takeAllDown 13 = .ok (.aload_n 0, 1) := by decide +kernel
theorem dX9_takeAllDown_14 : decode cX9_takeAllDown 14 = .ok (.iload_n 1, 1) := by decide +kernel
theorem dX9_takeAllDown_15 : decode cX9_takeAllDown 15 = .ok (.invokevirtual 50, 3) := by decide +kernel
theorem dX9_takeAllDown_18 : decode cX9_takeAllDown 18 = .ok (.pop, 1) := by decide +kernel
theorem dX9_takeAllDown_19 : decode cX9_takeAllDown 19 = .ok (.iinc 1 1, 3) := by decide +kernel
theorem dX9_takeAllDown_22 : decode cX9_takeAllDown 22 = .ok (.goto (-20), 3) := by decide +kernel
theorem dX9_takeAllDown_25 : decode cX9_takeAllDown 25 = .ok (.return_, 1) := by decide +kernel
theorem dX9_bitsOn_0 : decode cX9_bitsOn 0 = .ok (.iconst 0, 1) := by decide +kernel
theorem dX9_bitsOn_1 : decode cX9_bitsOn 1 = .ok (.istore_n 2, 1) := by decide +kernel
theorem dX9_bitsOn_2 : decode cX9_bitsOn 2 = .ok (.iconst 0, 1) := by decide +kernel
theorem dX9_bitsOn_3 : decode cX9_bitsOn 3 = .ok (.istore_n 3, 1) := by decide +kernel
theorem dX9_bitsOn_4 : decode cX9_bitsOn 4 = .ok (.iload_n 3, 1) := by decide +kernel
theorem dX9_bitsOn_5 : decode cX9_bitsOn 5 = .ok (.aload_n 0, 1) := by decide +kernel
theorem dX9_bitsOn_6 : decode cX9_bitsOn 6 = .ok (.getfield 30, 3) := by decide +kernel
theorem dX9_bitsOn_9 : decode cX9_bitsOn 9 = .ok (.getfield 47, 3) := by decide +kernel
theorem dX9_bitsOn_12 : decode cX9_bitsOn 12 = .ok (.if_icmp .ge 25, 3) := by decide +kernel
theorem dX9_bitsOn_15 : decode cX9_bitsOn 15 = .ok (.aload_n 0, 1) := by decide +kernel
theorem dX9_bitsOn_16 : decode cX9_bitsOn 16 = .ok (.getfield 17, 3) := by decide +kernel
theorem dX9_bitsOn_19 : decode cX9_bitsOn 19 = .ok (.iload_n 3, 1) := by decide +kernel
theorem dX9_bitsOn_20 : decode cX9_bitsOn 20 = .ok (.iaload, 1) := by decide +kernel
theorem dX9_bitsOn_21 : decode cX9_bitsOn 21 = .ok (.iload_n 1, 1) := by decide +kernel
theorem dX9_bitsOn_22 : decode cX9_bitsOn 22 = .ok (.if_icmp .ne 9, 3) := by decide +kernel
theorem dX9_bitsOn_25 : decode cX9_bitsOn 25 = .ok (.iload_n 2, 1) := by decide +kernel
theorem dX9_bitsOn_26 : decode cX9_bitsOn 26 = .ok (.iconst 1, 1) := by decide +kernel
theorem dX9_bitsOn_27 : decode cX9_bitsOn 27 = .ok (.iload_n 3, 1) := by decide +kernel
theorem dX9_bitsOn_28 : decode cX9_bitsOn 28 = .ok (.ishl, 1) := by decide +kernel
theorem dX9_bitsOn_29 : decode cX9_bitsOn 29 = .ok (.ior, 1) := by decide +kernel
theorem dX9_bitsOn_30 : decode cX9_bitsOn 30 = .ok (.istore_n 2, 1) := by decide +kernel
theorem dX9_bitsOn_31 : decode cX9_bitsOn 31 = .ok (.iinc 3 1, 3) := by decide +kernel
theorem dX9_bitsOn_34 : decode cX9_bitsOn 34 = .ok (.goto (-30), 3) := by decide +kernel
theorem dX9_bitsOn_37 : decode cX9_bitsOn 37 = .ok (.iload_n 2, 1) := by decide +kernel
theorem dX9_bitsOn_38 : decode cX9_bitsOn 38 = .ok (.ireturn, 1) := by decide +kernel
theorem dX9_hungBits_0 : decode cX9_hungBits 0 = .ok (.iconst 0, 1) := by decide +kernel
theorem dX9_hungBits_1 : decode cX9_hungBits 1 = .ok (.istore_n 1, 1) := by decide +kernel
theorem dX9_hungBits_2 : decode cX9_hungBits 2 = .ok (.iconst 0, 1) := by decide +kernel
theorem dX9_hungBits_3 : decode cX9_hungBits 3 = .ok (.istore_n 2, 1) := by decide +kernel
theorem dX9_hungBits_4 : decode cX9_hungBits 4 = .ok (.iload_n 2, 1) := by decide +kernel
theorem dX9_hungBits_5 : decode cX9_hungBits 5 = .ok (.aload_n 0, 1) := by decide +kernel
theorem dX9_hungBits_6 : decode cX9_hungBits 6 = .ok (.getfield 30, 3) := by decide +kernel
theorem dX9_hungBits_9 : decode cX9_hungBits 9 = .ok (.getfield 47, 3) := by decide +kernel
theorem dX9_hungBits_12 : decode cX9_hungBits 12 = .ok (.if_icmp .ge 23, 3) := by decide +kernel
theorem dX9_hungBits_15 : decode cX9_hungBits 15 = .ok (.aload_n 0, 1) := by decide +kernel
theorem dX9_hungBits_16 : decode cX9_hungBits 16 = .ok (.iload_n 2, 1) := by decide +kernel
theorem dX9_hungBits_17 : decode cX9_hungBits 17 = .ok (.invokevirtual 54, 3) := by decide +kernel
theorem dX9_hungBits_20 : decode cX9_hungBits 20 = .ok (.ifCond .eq 9, 3) := by decide +kernel
theorem dX9_hungBits_23 : decode cX9_hungBits 23 = .ok (.iload_n 1, 1) := by decide +kernel
theorem dX9_hungBits_24 : decode cX9_hungBits 24 = .ok (.iconst 1, 1) := by decide +kernel
theorem dX9_hungBits_25 : decode cX9_hungBits 25 = .ok (.iload_n 2, 1) := by decide +kernel
theorem dX9_hungBits_26 : decode cX9_hungBits 26 = .ok (.ishl, 1) := by decide +kernel
theorem dX9_hungBits_27 : decode cX9_hungBits 27 = .ok (.ior, 1) := by decide +kernel
theorem dX9_hungBits_28 : decode cX9_hungBits 28 = .ok (.istore_n 1, 1) := by decide +kernel
theorem dX9_hungBits_29 : decode cX9_hungBits 29 = .ok (.iinc 2 1, 3) := by decide +kernel
theorem dX9_hungBits_32 : decode cX9_hungBits 32 = .ok (.goto (-28), 3) := by decide +kernel
theorem dX9_hungBits_35 : decode cX9_hungBits 35 = .ok (.iload_n 1, 1) := by decide +kernel
theorem dX9_hungBits_36 : decode cX9_hungBits 36 = .ok (.ireturn, 1) := by decide +kernel
theorem dX9_howManyStained_0 : decode cX9_howManyStained 0 = .ok (.iconst 0, 1) := by decide +kernel
theorem dX9_howManyStained_1 : decode cX9_howManyStained 1 = .ok (.istore_n 1, 1) := by decide +kernel
theorem dX9_howManyStained_2 : decode cX9_howManyStained 2 = .ok (.iconst 0, 1) := by decide +kernel
theorem dX9_howManyStained_3 : decode cX9_howManyStained 3 = .ok (.istore_n 2, 1) := by decide +kernel
theorem dX9_howManyStained_4 : decode cX9_howManyStained 4 = .ok (.iload_n 2, 1) := by decide +kernel
theorem dX9_howManyStained_5 : decode cX9_howManyStained 5 = .ok (.aload_n 0, 1) := by decide +kernel
theorem dX9_howManyStained_6 : decode cX9_howManyStained 6 = .ok (.getfield 30, 3) := by decide +kernel
theorem dX9_howManyStained_9 : decode cX9_howManyStained 9 = .ok (.getfield 47, 3) := by decide +kernel
theorem dX9_howManyStained_12 : decode cX9_howManyStained 12 = .ok (.if_icmp .ge 26, 3) := by decide +kernel
theorem dX9_howManyStained_15 : decode cX9_howManyStained 15 = .ok (.iload_n 1, 1) := by decide +kernel
theorem dX9_howManyStained_16 : decode cX9_howManyStained 16 = .ok (.aload_n 0, 1) := by decide +kernel
theorem dX9_howManyStained_17 : decode cX9_howManyStained 17 = .ok (.getfield 20, 3) := by decide +kernel
theorem dX9_howManyStained_20 : decode cX9_howManyStained 20 = .ok (.iload_n 2, 1) := by decide +kernel
theorem dX9_howManyStained_21 : decode cX9_howManyStained 21 = .ok (.baload, 1) := by decide +kernel
theorem dX9_howManyStained_22 : decode cX9_howManyStained 22 = .ok (.ifCond .eq 7, 3) := by decide +kernel
theorem dX9_howManyStained_25 : decode cX9_howManyStained 25 = .ok (.iconst 1, 1) := by decide +kernel
theorem dX9_howManyStained_26 : decode cX9_howManyStained 26 = .ok (.goto 4, 3) := by decide +kernel
theorem dX9_howManyStained_29 : decode cX9_howManyStained 29 = .ok (.iconst 0, 1) := by decide +kernel
theorem dX9_howManyStained_30 : decode cX9_howManyStained 30 = .ok (.iadd, 1) := by decide +kernel
theorem dX9_howManyStained_31 : decode cX9_howManyStained 31 = .ok (.istore_n 1, 1) := by decide +kernel
theorem dX9_howManyStained_32 : decode cX9_howManyStained 32 = .ok (.iinc 2 1, 3) := by decide +kernel
theorem dX9_howManyStained_35 : decode cX9_howManyStained 35 = .ok (.goto (-31), 3) := by decide +kernel
theorem dX9_howManyStained_38 : decode cX9_howManyStained 38 = .ok (.iload_n 1, 1) := by decide +kernel
theorem dX9_howManyStained_39 : decode cX9_howManyStained 39 = .ok (.ireturn, 1) := by decide +kernel
theorem dX9_refusal_0 : decode cX9_refusal 0 = .ok (.aload_n 0, 1) := by decide +kernel
theorem dX9_refusal_1 : decode cX9_refusal 1 = .ok (.iload_n 1, 1) := by decide +kernel
theorem dX9_refusal_2 : decode cX9_refusal 2 = .ok (.invokevirtual 54, 3) := by decide +kernel
theorem dX9_refusal_5 : decode cX9_refusal 5 = .ok (.ifCond .ne 12, 3) := by decide +kernel
theorem dX9_refusal_8 : decode cX9_refusal 8 = .ok (.aload_n 0, 1) := by decide +kernel
theorem dX9_refusal_9 : decode cX9_refusal 9 = .ok (.iload_n 1, 1) := by decide +kernel
theorem dX9_refusal_10 : decode cX9_refusal 10 = .ok (.iload_n 2, 1) := by decide +kernel
theorem dX9_refusal_11 : decode cX9_refusal 11 = .ok (.invokevirtual 58, 3) := by decide +kernel
theorem dX9_refusal_14 : decode cX9_refusal 14 = .ok (.ifCond .eq 6, 3) := by decide +kernel
theorem dX9_refusal_17 : decode cX9_refusal 17 = .ok (.ldc 62, 2) := by decide +kernel
theorem dX9_refusal_19 : decode cX9_refusal 19 = .ok (.ireturn, 1) := by decide +kernel
theorem dX9_refusal_20 : decode cX9_refusal 20 = .ok (.aload_n 0, 1) := by decide +kernel
theorem dX9_refusal_21 : decode cX9_refusal 21 = .ok (.iload_n 1, 1) := by decide +kernel
theorem dX9_refusal_22 : decode cX9_refusal 22 = .ok (.iload_n 2, 1) := by decide +kernel
theorem dX9_refusal_23 : decode cX9_refusal 23 = .ok (.invokevirtual 63, 3) := by decide +kernel
theorem dX9_refusal_26 : decode cX9_refusal 26 = .ok (.ifCond .eq 7, 3) := by decide +kernel
theorem dX9_refusal_29 : decode cX9_refusal 29 = .ok (.iconst 0, 1) := by decide +kernel
theorem dX9_refusal_30 : decode cX9_refusal 30 = .ok (.goto 5, 3) := by decide +kernel
theorem dX9_refusal_33 : decode cX9_refusal 33 = .ok (.ldc 66, 2) := by decide +kernel
theorem dX9_refusal_35 : decode cX9_refusal 35 = .ok (.ireturn, 1) := by decide +kernel
theorem dX9_isOfOthers_0 : decode cX9_isOfOthers 0 = .ok (.aload_n 0, 1) := by decide +kernel
theorem dX9_isOfOthers_1 : decode cX9_isOfOthers 1 = .ok (.getfield 30, 3) := by decide +kernel
theorem dX9_isOfOthers_4 : decode cX9_isOfOthers 4 = .ok (.iload_n 2, 1) := by decide +kernel
theorem dX9_isOfOthers_5 : decode cX9_isOfOthers 5 = .ok (.aload_n 0, 1) := by decide +kernel
theorem dX9_isOfOthers_6 : decode cX9_isOfOthers 6 = .ok (.invokevirtual 67, 3) := by decide +kernel
theorem dX9_isOfOthers_9 : decode cX9_isOfOthers 9 = .ok (.invokevirtual 71, 3) := by decide +kernel
theorem dX9_isOfOthers_12 : decode cX9_isOfOthers 12 = .ok (.istore_n 3, 1) := by decide +kernel
theorem dX9_isOfOthers_13 : decode cX9_isOfOthers 13 = .ok (.iload_n 3, 1) := by decide +kernel
theorem dX9_isOfOthers_14 : decode cX9_isOfOthers 14 = .ok (.ifCond .eq 23, 3) := by decide +kernel
theorem dX9_isOfOthers_17 : decode cX9_isOfOthers 17 = .ok (.iload_n 3, 1) := by decide +kernel
theorem dX9_isOfOthers_18 : decode cX9_isOfOthers 18 = .ok (.aload_n 0, 1) := by decide +kernel
theorem dX9_isOfOthers_19 : decode cX9_isOfOthers 19 = .ok (.getfield 30, 3) := by decide +kernel
theorem dX9_isOfOthers_22 : decode cX9_isOfOthers 22 = .ok (.getfield 74, 3) := by decide +kernel
theorem dX9_isOfOthers_25 : decode cX9_isOfOthers 25 = .ok (.iload_n 1, 1) := by decide +kernel
theorem dX9_isOfOthers_26 : decode cX9_isOfOthers 26 = .ok (.iaload, 1) := by decide +kernel
theorem dX9_isOfOthers_27 : decode cX9_isOfOthers 27 = .ok (.ishr, 1) := by decide +kernel
theorem dX9_isOfOthers_28 : decode cX9_isOfOthers 28 = .ok (.iconst 1, 1) := by decide +kernel
theorem dX9_isOfOthers_29 : decode cX9_isOfOthers 29 = .ok (.iand, 1) := by decide +kernel
theorem dX9_isOfOthers_30 : decode cX9_isOfOthers 30 = .ok (.ifCond .ne 7, 3) := by decide +kernel
theorem dX9_isOfOthers_33 : decode cX9_isOfOthers 33 = .ok (.iconst 1, 1) := by decide +kernel
theorem dX9_isOfOthers_34 : decode cX9_isOfOthers 34 = .ok (.goto 4, 3) := by decide +kernel
theorem dX9_isOfOthers_37 : decode cX9_isOfOthers 37 = .ok (.iconst 0, 1) := by decide +kernel
theorem dX9_isOfOthers_38 : decode cX9_isOfOthers 38 = .ok (.ireturn, 1) := by decide +kernel
theorem dX9_hasRoomFor_0 : decode cX9_hasRoomFor 0 = .ok (.aload_n 0, 1) := by decide +kernel
theorem dX9_hasRoomFor_1 : decode cX9_hasRoomFor 1 = .ok (.getfield 30, 3) := by decide +kernel
theorem dX9_hasRoomFor_4 : decode cX9_hasRoomFor 4 = .ok (.getfield 77, 3) := by decide +kernel
theorem dX9_hasRoomFor_7 : decode cX9_hasRoomFor 7 = .ok (.iload_n 1, 1) := by decide +kernel
theorem dX9_hasRoomFor_8 : decode cX9_hasRoomFor 8 = .ok (.iaload, 1) := by decide +kernel
theorem dX9_hasRoomFor_9 : decode cX9_hasRoomFor 9 = .ok (.istore_n 3, 1) := by decide +kernel
theorem dX9_hasRoomFor_10 : decode cX9_hasRoomFor 10 = .ok (.iconst 0, 1) := by decide +kernel
theorem dX9_hasRoomFor_11 : decode cX9_hasRoomFor 11 = .ok (.istore 4, 2) := by decide +kernel
theorem dX9_hasRoomFor_13 : decode cX9_hasRoomFor 13 = .ok (.iload 4, 2) := by decide +kernel
theorem dX9_hasRoomFor_15 : decode cX9_hasRoomFor 15 = .ok (.aload_n 0, 1) := by decide +kernel
theorem dX9_hasRoomFor_16 : decode cX9_hasRoomFor 16 = .ok (.getfield 30, 3) := by decide +kernel
theorem dX9_hasRoomFor_19 : decode cX9_hasRoomFor 19 = .ok (.getfield 47, 3) := by decide +kernel
theorem dX9_hasRoomFor_22 : decode cX9_hasRoomFor 22 = .ok (.if_icmp .ge 65, 3) := by decide +kernel
theorem dX9_hasRoomFor_25 : decode cX9_hasRoomFor 25 = .ok (.aload_n 0, 1) := by decide +kernel
theorem dX9_hasRoomFor_26 : decode cX9_hasRoomFor 26 = .ok (.getfield 17, 3) := by decide +kernel
theorem dX9_hasRoomFor_29 : decode cX9_hasRoomFor 29 = .ok (.iload 4, 2) := by decide +kernel
theorem dX9_hasRoomFor_31 : decode cX9_hasRoomFor 31 = .ok (.iaload, 1) := by decide +kernel
theorem dX9_hasRoomFor_32 : decode cX9_hasRoomFor 32 = .ok (.iload_n 2, 1) := by decide +kernel
theorem dX9_hasRoomFor_33 : decode cX9_hasRoomFor 33 = .ok (.if_icmp .eq 6, 3) := by decide +kernel
theorem dX9_hasRoomFor_36 : decode cX9_hasRoomFor 36 = .ok (.goto 45, 3) := by decide +kernel
theorem dX9_hasRoomFor_39 : decode cX9_hasRoomFor 39 = .ok (.aload_n 0, 1) := by decide +kernel
theorem dX9_hasRoomFor_40 : decode cX9_hasRoomFor 40 = .ok (.getfield 30, 3) := by decide +kernel
theorem dX9_hasRoomFor_43 : decode cX9_hasRoomFor 43 = .ok (.getfield 80, 3) := by decide +kernel
theorem dX9_hasRoomFor_46 : decode cX9_hasRoomFor 46 = .ok (.iload 4, 2) := by decide +kernel
theorem dX9_hasRoomFor_48 : decode cX9_hasRoomFor 48 = .ok (.iaload, 1) := by decide +kernel
theorem dX9_hasRoomFor_49 : decode cX9_hasRoomFor 49 = .ok (.iconst 4, 1) := by decide +kernel
theorem dX9_hasRoomFor_50 : decode cX9_hasRoomFor 50 = .ok (.if_icmp .eq 16, 3) := by decide +kernel
theorem dX9_hasRoomFor_53 : decode cX9_hasRoomFor 53 = .ok (.aload_n 0, 1) := by decide +kernel
theorem dX9_hasRoomFor_54 : decode cX9_hasRoomFor 54 = .ok (.getfield 30, 3) := by decide +kernel
theorem dX9_hasRoomFor_57 : decode cX9_hasRoomFor 57 = .ok (.getfield 80, 3) := by decide +kernel
theorem dX9_hasRoomFor_60 : decode cX9_hasRoomFor 60 = .ok (.iload_n 1, 1) := by decide +kernel
theorem dX9_hasRoomFor_61 : decode cX9_hasRoomFor 61 = .ok (.iaload, 1) := by decide +kernel
theorem dX9_hasRoomFor_62 : decode cX9_hasRoomFor 62 = .ok (.iconst 4, 1) := by decide +kernel
theorem dX9_hasRoomFor_63 : decode cX9_hasRoomFor 63 = .ok (.if_icmp .ne 5, 3) := by decide +kernel
theorem dX9_hasRoomFor_66 : decode cX9_hasRoomFor 66 = .ok (.iconst 0, 1) := by decide +kernel
theorem dX9_hasRoomFor_67 : decode cX9_hasRoomFor 67 = .ok (.ireturn, 1) := by decide +kernel
theorem dX9_hasRoomFor_68 : decode cX9_hasRoomFor 68 = .ok (.iload_n 3, 1) := by decide +kernel
theorem dX9_hasRoomFor_69 : decode cX9_hasRoomFor 69 = .ok (.aload_n 0, 1) := by decide +kernel
theorem dX9_hasRoomFor_70 : decode cX9_hasRoomFor 70 = .ok (.getfield 30, 3) := by decide +kernel
theorem dX9_hasRoomFor_73 : decode cX9_hasRoomFor 73 = .ok (.getfield 77, 3) := by decide +kernel
theorem dX9_hasRoomFor_76 : decode cX9_hasRoomFor 76 = .ok (.iload 4, 2) := by decide +kernel
theorem dX9_hasRoomFor_78 : decode cX9_hasRoomFor 78 = .ok (.iaload, 1) := by decide +kernel
theorem dX9_hasRoomFor_79 : decode cX9_hasRoomFor 79 = .ok (.iadd, 1) := by decide +kernel
theorem dX9_hasRoomFor_80 : decode cX9_hasRoomFor 80 = .ok (.istore_n 3, 1) := by decide +kernel
theorem dX9_hasRoomFor_81 : decode cX9_hasRoomFor 81 = .ok (.iinc 4 1, 3) := by decide +kernel
theorem dX9_hasRoomFor_84 : decode cX9_hasRoomFor 84 = .ok (.goto (-71), 3) := by decide +kernel
theorem dX9_hasRoomFor_87 : decode cX9_hasRoomFor 87 = .ok (.iload_n 3, 1) := by decide +kernel
theorem dX9_hasRoomFor_88 : decode cX9_hasRoomFor 88 = .ok (.aload_n 0, 1) := by decide +kernel
theorem dX9_hasRoomFor_89 : decode cX9_hasRoomFor 89 = .ok (.getfield 30, 3) := by decide +kernel
theorem dX9_hasRoomFor_92 : decode cX9_hasRoomFor 92 = .ok (.getfield 83, 3) := by decide +kernel
theorem dX9_hasRoomFor_95 : decode cX9_hasRoomFor 95 = .ok (.iload_n 2, 1) := by decide +kernel
theorem dX9_hasRoomFor_96 : decode cX9_hasRoomFor 96 = .ok (.iaload, 1) := by decide +kernel
theorem dX9_hasRoomFor_97 : decode cX9_hasRoomFor 97 = .ok (.if_icmp .gt 7, 3) := by decide +kernel
theorem dX9_hasRoomFor_100 : decode cX9_hasRoomFor 100 = .ok (.iconst 1, 1) := by decide +kernel
theorem dX9_hasRoomFor_101 : decode cX9_hasRoomFor 101 = .ok (.goto 4, 3) := by decide +kernel
theorem dX9_hasRoomFor_104 : decode cX9_hasRoomFor 104 = .ok (.iconst 0, 1) := by decide +kernel
theorem dX9_hasRoomFor_105 : decode cX9_hasRoomFor 105 = .ok (.ireturn, 1) := by decide +kernel
theorem dX9_yardsLeft_0 : decode cX9_yardsLeft 0 = .ok (.aload_n 0, 1) := by decide +kernel
theorem dX9_yardsLeft_1 : decode cX9_yardsLeft 1 = .ok (.getfield 30, 3) := by decide +kernel
theorem dX9_yardsLeft_4 : decode cX9_yardsLeft 4 = .ok (.getfield 80, 3) := by decide +kernel
theorem dX9_yardsLeft_7 : decode cX9_yardsLeft 7 = .ok (.iload_n 1, 1) := by decide +kernel
theorem dX9_yardsLeft_8 : decode cX9_yardsLeft 8 = .ok (.iaload, 1) := by decide +kernel
theorem dX9_yardsLeft_9 : decode cX9_yardsLeft 9 = .ok (.iconst 4, 1) := by decide +kernel
theorem dX9_yardsLeft_10 : decode cX9_yardsLeft 10 = .ok (.if_icmp .ne 5, 3) := by decide +kernel
theorem dX9_yardsLeft_13 : decode cX9_yardsLeft 13 = .ok (.iconst 0, 1) := by decide +kernel
theorem dX9_yardsLeft_14 : decode cX9_yardsLeft 14 = .ok (.ireturn, 1) := by decide +kernel
theorem dX9_yardsLeft_15 : decode cX9_yardsLeft 15 = .ok (.aload_n 0, 1) := by decide +kernel
theorem dX9_yardsLeft_16 : decode cX9_yardsLeft 16 = .ok (.getfield 30, 3) := by decide +kernel
theorem dX9_yardsLeft_19 : decode cX9_yardsLeft 19 = .ok (.getfield 83, 3) := by decide +kernel
theorem dX9_yardsLeft_22 : decode cX9_yardsLeft 22 = .ok (.iload_n 2, 1) := by decide +kernel
theorem dX9_yardsLeft_23 : decode cX9_yardsLeft 23 = .ok (.iaload, 1) := by decide +kernel
theorem dX9_yardsLeft_24 : decode cX9_yardsLeft 24 = .ok (.istore_n 3, 1) := by decide +kernel
theorem dX9_yardsLeft_25 : decode cX9_yardsLeft 25 = .ok (.iconst 0, 1) := by decide +kernel
theorem dX9_yardsLeft_26 : decode cX9_yardsLeft 26 = .ok (.istore 4, 2) := by decide +kernel
theorem dX9_yardsLeft_28 : decode cX9_yardsLeft 28 = .ok (.iload 4, 2) := by decide +kernel
theorem dX9_yardsLeft_30 : decode cX9_yardsLeft 30 = .ok (.aload_n 0, 1) := by decide +kernel
theorem dX9_yardsLeft_31 : decode cX9_yardsLeft 31 = .ok (.getfield 30, 3) := by decide +kernel
theorem dX9_yardsLeft_34 : decode cX9_yardsLeft 34 = .ok (.getfield 47, 3) := by decide +kernel
theorem dX9_yardsLeft_37 : decode cX9_yardsLeft 37 = .ok (.if_icmp .ge 37, 3) := by decide +kernel
theorem dX9_yardsLeft_40 : decode cX9_yardsLeft 40 = .ok (.iload_n 3, 1) := by decide +kernel
theorem dX9_yardsLeft_41 : decode cX9_yardsLeft 41 = .ok (.aload_n 0, 1) := by decide +kernel
theorem dX9_yardsLeft_42 : decode cX9_yardsLeft 42 = .ok (.getfield 17, 3) := by decide +kernel
theorem dX9_yardsLeft_45 : decode cX9_yardsLeft 45 = .ok (.iload 4, 2) := by decide +kernel
theorem dX9_yardsLeft_47 : decode cX9_yardsLeft 47 = .ok (.iaload, 1) := by decide +kernel
theorem dX9_yardsLeft_48 : decode cX9_yardsLeft 48 = .ok (.iload_n 2, 1) := by decide +kernel
theorem dX9_yardsLeft_49 : decode cX9_yardsLeft 49 = .ok (.if_icmp .ne 16, 3) := by decide +kernel
theorem dX9_yardsLeft_52 : decode cX9_yardsLeft 52 = .ok (.aload_n 0, 1) := by decide +kernel
theorem dX9_yardsLeft_53 : decode cX9_yardsLeft 53 = .ok (.getfield 30, 3) := by decide +kernel
theorem dX9_yardsLeft_56 : decode cX9_yardsLeft 56 = .ok (.getfield 77, 3) := by decide +kernel
theorem dX9_yardsLeft_59 : decode cX9_yardsLeft 59 = .ok (.iload 4, 2) := by decide +kernel
theorem dX9_yardsLeft_61 : decode cX9_yardsLeft 61 = .ok (.iaload, 1) := by decide +kernel
theorem dX9_yardsLeft_62 : decode cX9_yardsLeft 62 = .ok (.goto 4, 3) := by decide +kernel
theorem dX9_yardsLeft_65 : decode cX9_yardsLeft 65 = .ok (.iconst 0, 1) := by decide +kernel
theorem dX9_yardsLeft_66 : decode cX9_yardsLeft 66 = .ok (.isub, 1) := by decide +kernel
theorem dX9_yardsLeft_67 : decode cX9_yardsLeft 67 = .ok (.istore_n 3, 1) := by decide +kernel
theorem dX9_yardsLeft_68 : decode cX9_yardsLeft 68 = .ok (.iinc 4 1, 3) := by decide +kernel
theorem dX9_yardsLeft_71 : decode cX9_yardsLeft 71 = .ok (.goto (-43), 3) := by decide +kernel
theorem dX9_yardsLeft_74 : decode cX9_yardsLeft 74 = .ok (.iload_n 3, 1) := by decide +kernel
theorem dX9_yardsLeft_75 : decode cX9_yardsLeft 75 = .ok (.ireturn, 1) := by decide +kernel
theorem dX9_passQuarter_0 : decode cX9_passQuarter 0 = .ok (.aload_n 0, 1) := by decide +kernel
theorem dX9_passQuarter_1 : decode cX9_passQuarter 1 = .ok (.invokevirtual 67, 3) := by decide +kernel
theorem dX9_passQuarter_4 : decode cX9_passQuarter 4 = .ok (.istore_n 1, 1) := by decide +kernel
theorem dX9_passQuarter_5 : decode cX9_passQuarter 5 = .ok (.iconst 0, 1) := by decide +kernel
theorem dX9_passQuarter_6 : decode cX9_passQuarter 6 = .ok (.istore_n 2, 1) := by decide +kernel
theorem dX9_passQuarter_7 : decode cX9_passQuarter 7 = .ok (.iload_n 2, 1) := by decide +kernel
theorem dX9_passQuarter_8 : decode cX9_passQuarter 8 = .ok (.aload_n 0, 1) := by decide +kernel
theorem dX9_passQuarter_9 : decode cX9_passQuarter 9 = .ok (.getfield 30, 3) := by decide +kernel
theorem dX9_passQuarter_12 : decode cX9_passQuarter 12 = .ok (.getfield 47, 3) := by decide +kernel
theorem dX9_passQuarter_15 : decode cX9_passQuarter 15 = .ok (.if_icmp .ge 49, 3) := by decide +kernel
theorem dX9_passQuarter_18 : decode cX9_passQuarter 18 = .ok (.aload_n 0, 1) := by decide +kernel
theorem dX9_passQuarter_19 : decode cX9_passQuarter 19 = .ok (.iload_n 2, 1) := by decide +kernel
theorem dX9_passQuarter_20 : decode cX9_passQuarter 20 = .ok (.invokevirtual 54, 3) := by decide +kernel
theorem dX9_passQuarter_23 : decode cX9_passQuarter 23 = .ok (.ifCond .eq 35, 3) := by decide +kernel
theorem dX9_passQuarter_26 : decode cX9_passQuarter 26 = .ok (.aload_n 0, 1) := by decide +kernel
theorem dX9_passQuarter_27 : decode cX9_passQuarter 27 = .ok (.getfield 11, 3) := by decide +kernel
theorem dX9_passQuarter_30 : decode cX9_passQuarter 30 = .ok (.iload_n 2, 1) := by decide +kernel
theorem dX9_passQuarter_31 : decode cX9_passQuarter 31 = .ok (.iconst 0, 1) := by decide +kernel
theorem dX9_passQuarter_32 : decode cX9_passQuarter 32 = .ok (.aload_n 0, 1) := by decide +kernel
theorem dX9_passQuarter_33 : decode cX9_passQuarter 33 = .ok (.getfield 11, 3) := by decide +kernel
theorem dX9_passQuarter_36 : decode cX9_passQuarter 36 = .ok (.iload_n 2, 1) := by decide +kernel
theorem dX9_passQuarter_37 : decode cX9_passQuarter 37 = .ok (.iaload, 1) := by decide +kernel
theorem dX9_passQuarter_38 : decode cX9_passQuarter 38 = .ok (.aload_n 0, 1) := by decide +kernel
theorem dX9_passQuarter_39 : decode cX9_passQuarter 39 = .ok (.getfield 30, 3) := by decide +kernel
theorem dX9_passQuarter_42 : decode cX9_passQuarter 42 = .ok (.iload_n 2, 1) := by decide +kernel
theorem dX9_passQuarter_43 : decode cX9_passQuarter 43 = .ok (.aload_n 0, 1) := by decide +kernel
theorem dX9_passQuarter_44 : decode cX9_passQuarter 44 = .ok (.getfield 17, 3) := by decide +kernel
theorem dX9_passQuarter_47 : decode cX9_passQuarter 47 = .ok (.iload_n 2, 1) := by decide +kernel
theorem dX9_passQuarter_48 : decode cX9_passQuarter 48 = .ok (.iaload, 1) := by decide +kernel
theorem dX9_passQuarter_49 : decode cX9_passQuarter 49 = .ok (.iload_n 1, 1) := by decide +kernel
theorem dX9_passQuarter_50 : decode cX9_passQuarter 50 = .ok (.invokevirtual 86, 3) := by decide +kernel
theorem dX9_passQuarter_53 : decode cX9_passQuarter 53 = .ok (.isub, 1) := by decide +kernel
theorem dX9_passQuarter_54 : decode cX9_passQuarter 54 = .ok (.invokestatic 90, 3) := by decide +kernel
theorem dX9_passQuarter_57 : decode cX9_passQuarter 57 = .ok (.iastore, 1) := by decide +kernel
theorem dX9_passQuarter_58 : decode cX9_passQuarter 58 = .ok (.iinc 2 1, 3) := by decide +kernel
theorem dX9_passQuarter_61 : decode cX9_passQuarter 61 = .ok (.goto (-54), 3) := by decide +kernel
theorem dX9_passQuarter_64 : decode cX9_passQuarter 64 = .ok (.aload_n 0, 1) := by decide +kernel
theorem dX9_passQuarter_65 : decode cX9_passQuarter 65 = .ok (.invokevirtual 93, 3) := by decide +kernel
theorem dX9_passQuarter_68 : decode cX9_passQuarter 68 = .ok (.aload_n 0, 1) := by decide +kernel
theorem dX9_passQuarter_69 : decode cX9_passQuarter 69 = .ok (.invokevirtual 96, 3) := by decide +kernel
theorem dX9_passQuarter_72 : decode cX9_passQuarter 72 = .ok (.aload_n 0, 1) := by decide +kernel
theorem dX9_passQuarter_73 : decode cX9_passQuarter 73 = .ok (.dup, 1) := by decide +kernel
theorem dX9_passQuarter_74 : decode cX9_passQuarter 74 = .ok (.getfield 34, 3) := by decide +kernel
theorem dX9_passQuarter_77 : decode cX9_passQuarter 77 = .ok (.iconst 1, 1) := by decide +kernel
theorem dX9_passQuarter_78 : decode cX9_passQuarter 78 = .ok (.iadd, 1) := by decide +kernel
theorem dX9_passQuarter_79 : decode cX9_passQuarter 79 = .ok (.putfield 34, 3) := by decide +kernel
theorem dX9_passQuarter_82 : decode cX9_passQuarter 82 = .ok (.return_, 1) := by decide +kernel
theorem dX9_gatherDrips_0 : decode cX9_gatherDrips 0 = .ok (.iconst 0, 1) := by decide +kernel
theorem dX9_gatherDrips_1 : decode cX9_gatherDrips 1 = .ok (.istore_n 1, 1) := by decide +kernel
theorem dX9_gatherDrips_2 : decode cX9_gatherDrips 2 = .ok (.iload_n 1, 1) := by decide +kernel
theorem dX9_gatherDrips_3 : decode cX9_gatherDrips 3 = .ok (.aload_n 0, 1) := by decide +kernel
theorem dX9_gatherDrips_4 : decode cX9_gatherDrips 4 = .ok (.getfield 30, 3) := by decide +kernel
theorem dX9_gatherDrips_7 : decode cX9_gatherDrips 7 = .ok (.getfield 99, 3) := by decide +kernel
theorem dX9_gatherDrips_10 : decode cX9_gatherDrips 10 = .ok (.if_icmp .ge 23, 3) := by decide +kernel
theorem dX9_gatherDrips_13 : decode cX9_gatherDrips 13 = .ok (.aload_n 0, 1) := by decide +kernel
theorem dX9_gatherDrips_14 : decode cX9_gatherDrips 14 = .ok (.getfield 24, 3) := by decide +kernel
theorem dX9_gatherDrips_17 : decode cX9_gatherDrips 17 = .ok (.iload_n 1, 1) := by decide +kernel
theorem dX9_gatherDrips_18 : decode cX9_gatherDrips 18 = .ok (.iconst 0, 1) := by decide +kernel
theorem dX9_gatherDrips_19 : decode cX9_gatherDrips 19 = .ok (.iastore, 1) := by decide +kernel
theorem dX9_gatherDrips_20 : decode cX9_gatherDrips 20 = .ok (.aload_n 0, 1) := by decide +kernel
theorem dX9_gatherDrips_21 : decode cX9_gatherDrips 21 = .ok (.getfield 27, 3) := by decide +kernel
theorem dX9_gatherDrips_24 : decode cX9_gatherDrips 24 = .ok (.iload_n 1, 1) := by decide +kernel
theorem dX9_gatherDrips_25 : decode cX9_gatherDrips 25 = .ok (.iconst 0, 1) := by decide +kernel
theorem dX9_gatherDrips_26 : decode cX9_gatherDrips 26 = .ok (.bastore, 1) := by decide +kernel
theorem dX9_gatherDrips_27 : decode cX9_gatherDrips 27 = .ok (.iinc 1 1, 3) := by decide +kernel
theorem dX9_gatherDrips_30 : decode cX9_gatherDrips 30 = .ok (.goto (-28), 3) := by decide +kernel
theorem dX9_gatherDrips_33 : decode cX9_gatherDrips 33 = .ok (.iconst 0, 1) := by decide +kernel
theorem dX9_gatherDrips_34 : decode cX9_gatherDrips 34 = .ok (.istore_n 1, 1) := by decide +kernel
theorem dX9_gatherDrips_35 : decode cX9_gatherDrips 35 = .ok (.iload_n 1, 1) := by decide +kernel
theorem dX9_gatherDrips_36 : decode cX9_gatherDrips 36 = .ok (.aload_n 0, 1) := by decide +kernel
theorem dX9_gatherDrips_37 : decode cX9_gatherDrips 37 = .ok (.getfield 30, 3) := by decide +kernel
theorem dX9_gatherDrips_40 : decode cX9_gatherDrips 40 = .ok (.getfield 47, 3) := by decide +kernel
theorem dX9_gatherDrips_43 : decode cX9_gatherDrips 43 = .ok (.if_icmp .ge 94, 3) := by decide +kernel
theorem dX9_gatherDrips_46 : decode cX9_gatherDrips 46 = .ok (.aload_n 0, 1) := by decide +kernel
theorem dX9_gatherDrips_47 : decode cX9_gatherDrips 47 = .ok (.iload_n 1, 1) := by decide +kernel
theorem dX9_gatherDrips_48 : decode cX9_gatherDrips 48 = .ok (.invokevirtual 54, 3) := by decide +kernel
theorem dX9_gatherDrips_51 : decode cX9_gatherDrips 51 = .ok (.ifCond .eq 31, 3) := by decide +kernel
theorem dX9_gatherDrips_54 : decode cX9_gatherDrips 54 = .ok (.aload_n 0, 1) := by decide +kernel
theorem dX9_gatherDrips_55 : decode cX9_gatherDrips 55 = .ok (.getfield 11, 3) := by decide +kernel
theorem dX9_gatherDrips_58 : decode cX9_gatherDrips 58 = .ok (.iload_n 1, 1) := by decide +kernel
theorem dX9_gatherDrips_59 : decode cX9_gatherDrips 59 = .ok (.iaload, 1) := by decide +kernel
theorem dX9_gatherDrips_60 : decode cX9_gatherDrips 60 = .ok (.bipush 30, 2) := by decide +kernel
theorem dX9_gatherDrips_62 : decode cX9_gatherDrips 62 = .ok (.if_icmp .le 20, 3) := by decide +kernel
theorem dX9_gatherDrips_65 : decode cX9_gatherDrips 65 = .ok (.aload_n 0, 1) := by decide +kernel
theorem dX9_gatherDrips_66 : decode cX9_gatherDrips 66 = .ok (.getfield 30, 3) := by decide +kernel
theorem dX9_gatherDrips_69 : decode cX9_gatherDrips 69 = .ok (.getfield 102, 3) := by decide +kernel
theorem dX9_gatherDrips_72 : decode cX9_gatherDrips 72 = .ok (.aload_n 0, 1) := by decide +kernel
theorem dX9_gatherDrips_73 : decode cX9_gatherDrips 73 = .ok (.getfield 17, 3) := by decide +kernel
theorem dX9_gatherDrips_76 : decode cX9_gatherDrips 76 = .ok (.iload_n 1, 1) := by decide +kernel
theorem dX9_gatherDrips_77 : decode cX9_gatherDrips 77 = .ok (.iaload, 1) := by decide +kernel
theorem dX9_gatherDrips_78 : decode cX9_gatherDrips 78 = .ok (.iaload, 1) := by decide +kernel
theorem dX9_gatherDrips_79 : decode cX9_gatherDrips 79 = .ok (.goto 4, 3) := by decide +kernel
theorem dX9_gatherDrips_82 : decode cX9_gatherDrips 82 = .ok (.iconst (-1), 1) := by decide +kernel
theorem dX9_gatherDrips_83 : decode cX9_gatherDrips 83 = .ok (.istore_n 2, 1) := by decide +kernel
theorem dX9_gatherDrips_84 : decode cX9_gatherDrips 84 = .ok (.iload_n 2, 1) := by decide +kernel
theorem dX9_gatherDrips_85 : decode cX9_gatherDrips 85 = .ok (.ifCond .lt 46, 3) := by decide +kernel
theorem dX9_gatherDrips_88 : decode cX9_gatherDrips 88 = .ok (.aload_n 0, 1) := by decide +kernel
theorem dX9_gatherDrips_89 : decode cX9_gatherDrips 89 = .ok (.getfield 24, 3) := by decide +kernel
theorem dX9_gatherDrips_92 : decode cX9_gatherDrips 92 = .ok (.iload_n 2, 1) := by decide +kernel
theorem dX9_gatherDrips_93 : decode cX9_gatherDrips 93 = .ok (.dup2, 1) := by decide +kernel
theorem dX9_gatherDrips_94 : decode cX9_gatherDrips 94 = .ok (.iaload, 1) := by decide +kernel
theorem dX9_gatherDrips_95 : decode cX9_gatherDrips 95 = .ok (.iconst 1, 1) := by decide +kernel
theorem dX9_gatherDrips_96 : decode cX9_gatherDrips 96 = .ok (.iadd, 1) := by decide +kernel
theorem dX9_gatherDrips_97 : decode cX9_gatherDrips 97 = .ok (.iastore, 1) := by decide +kernel
theorem dX9_gatherDrips_98 : decode cX9_gatherDrips 98 = .ok (.aload_n 0, 1) := by decide +kernel
theorem dX9_gatherDrips_99 : decode cX9_gatherDrips 99 = .ok (.getfield 27, 3) := by decide +kernel
theorem dX9_gatherDrips_102 : decode cX9_gatherDrips 102 = .ok (.iload_n 2, 1) := by decide +kernel
theorem dX9_gatherDrips_103 : decode cX9_gatherDrips 103 = .ok (.aload_n 0, 1) := by decide +kernel
theorem dX9_gatherDrips_104 : decode cX9_gatherDrips 104 = .ok (.getfield 27, 3) := by decide +kernel
theorem dX9_gatherDrips_107 : decode cX9_gatherDrips 107 = .ok (.iload_n 2, 1) := by decide +kernel
theorem dX9_gatherDrips_108 : decode cX9_gatherDrips 108 = .ok (.baload, 1) := by decide +kernel
theorem dX9_gatherDrips_109 : decode cX9_gatherDrips 109 = .ok (.ifCond .ne 16, 3) := by decide +kernel
theorem dX9_gatherDrips_112 : decode cX9_gatherDrips 112 = .ok (.aload_n 0, 1) := by decide +kernel
theorem dX9_gatherDrips_113 : decode cX9_gatherDrips 113 = .ok (.getfield 30, 3) := by decide +kernel
theorem dX9_gatherDrips_116 : decode cX9_gatherDrips 116 = .ok (.getfield 80, 3) := by decide +kernel
theorem dX9_gatherDrips_119 : decode cX9_gatherDrips 119 = .ok (.iload_n 1, 1) := by decide +kernel
theorem dX9_gatherDrips_120 : decode cX9_gatherDrips 120 = .ok (.iaload, 1) := by decide +kernel
theorem dX9_gatherDrips_121 : decode cX9_gatherDrips 121 = .ok (.iconst 1, 1) := by decide +kernel
theorem dX9_gatherDrips_122 : decode cX9_gatherDrips 122 = .ok (.if_icmp .ne 7, 3) := by decide +kernel
theorem dX9_gatherDrips_125 : decode cX9_gatherDrips 125 = .ok (.iconst 1, 1) := by decide +kernel
theorem dX9_gatherDrips_126 : decode cX9_gatherDrips 126 = .ok (.goto 4, 3) := by decide +kernel
theorem dX9_gatherDrips_129 : decode cX9_gatherDrips 129 = .ok (.iconst 0, 1) := by decide +kernel
theorem dX9_gatherDrips_130 : decode cX9_gatherDrips 130 = .ok (.bastore, 1) := by decide +kernel
theorem dX9_gatherDrips_131 : decode cX9_gatherDrips 131 = .ok (.iinc 1 1, 3) := by decide +kernel
theorem dX9_gatherDrips_134 : decode cX9_gatherDrips 134 = .ok (.goto (-99), 3) := by decide +kernel
theorem dX9_gatherDrips_137 : decode cX9_gatherDrips 137 = .ok (.return_, 1) := by decide +kernel
theorem dX9_takeDrips_0 : decode cX9_takeDrips 0 = .ok (.iconst 0, 1) := by decide +kernel
theorem dX9_takeDrips_1 : decode cX9_takeDrips 1 = .ok (.istore_n 1, 1) := by decide +kernel
theorem dX9_takeDrips_2 : decode cX9_takeDrips 2 = .ok (.iload_n 1, 1) := by decide +kernel
theorem dX9_takeDrips_3 : decode cX9_takeDrips 3 = .ok (.aload_n 0, 1) := by decide +kernel
theorem dX9_takeDrips_4 : decode cX9_takeDrips 4 = .ok (.getfield 30, 3) := by decide +kernel
theorem dX9_takeDrips_7 : decode cX9_takeDrips 7 = .ok (.getfield 47, 3) := by decide +kernel
theorem dX9_takeDrips_10 : decode cX9_takeDrips 10 = .ok (.if_icmp .ge 93, 3) := by decide +kernel
theorem dX9_takeDrips_13 : decode cX9_takeDrips 13 = .ok (.aload_n 0, 1) := by decide +kernel
theorem dX9_takeDrips_14 : decode cX9_takeDrips 14 = .ok (.iload_n 1, 1) := by decide +kernel
theorem dX9_takeDrips_15 : decode cX9_takeDrips 15 = .ok (.invokevirtual 54, 3) := by decide +kernel
theorem dX9_takeDrips_18 : decode cX9_takeDrips 18 = .ok (.ifCond .eq 79, 3) := by decide +kernel
theorem dX9_takeDrips_21 : decode cX9_takeDrips 21 = .ok (.aload_n 0, 1) := by decide +kernel
theorem dX9_takeDrips_22 : decode cX9_takeDrips 22 = .ok (.getfield 11, 3) := by decide +kernel
theorem dX9_takeDrips_25 : decode cX9_takeDrips 25 = .ok (.iload_n 1, 1) := by decide +kernel
theorem dX9_takeDrips_26 : decode cX9_takeDrips 26 = .ok (.bipush 99, 2) := by decide +kernel
theorem dX9_takeDrips_28 : decode cX9_takeDrips 28 = .ok (.aload_n 0, 1) := by decide +kernel
theorem dX9_takeDrips_29 : decode cX9_takeDrips 29 = .ok (.getfield 11, 3) := by decide +kernel
theorem dX9_takeDrips_32 : decode cX9_takeDrips 32 = .ok (.iload_n 1, 1) := by decide +kernel
theorem dX9_takeDrips_33 : decode cX9_takeDrips 33 = .ok (.iaload, 1) := by decide +kernel
theorem dX9_takeDrips_34 : decode cX9_takeDrips 34 = .ok (.iconst 3, 1) := by decide +kernel
theorem dX9_takeDrips_35 : decode cX9_takeDrips 35 = .ok (.aload_n 0, 1) := by decide +kernel
theorem dX9_takeDrips_36 : decode cX9_takeDrips 36 = .ok (.getfield 24, 3) := by decide +kernel
theorem dX9_takeDrips_39 : decode cX9_takeDrips 39 = .ok (.aload_n 0, 1) := by decide +kernel
theorem dX9_takeDrips_40 : decode cX9_takeDrips 40 = .ok (.getfield 17, 3) := by decide +kernel
theorem dX9_takeDrips_43 : decode cX9_takeDrips 43 = .ok (.iload_n 1, 1) := by decide +kernel
theorem dX9_takeDrips_44 : decode cX9_takeDrips 44 = .ok (.iaload, 1) := by decide +kernel
theorem dX9_takeDrips_45 : decode cX9_takeDrips 45 = .ok (.iaload, 1) := by decide +kernel
theorem dX9_takeDrips_46 : decode cX9_takeDrips 46 = .ok (.imul, 1) := by decide +kernel
theorem dX9_takeDrips_47 : decode cX9_takeDrips 47 = .ok (.iadd, 1) := by decide +kernel
theorem dX9_takeDrips_48 : decode cX9_takeDrips 48 = .ok (.invokestatic 105, 3) := by decide +kernel
theorem dX9_takeDrips_51 : decode cX9_takeDrips 51 = .ok (.iastore, 1) := by decide +kernel
theorem dX9_takeDrips_52 : decode cX9_takeDrips 52 = .ok (.aload_n 0, 1) := by decide +kernel
theorem dX9_takeDrips_53 : decode cX9_takeDrips 53 = .ok (.getfield 20, 3) := by decide +kernel
theorem dX9_takeDrips_56 : decode cX9_takeDrips 56 = .ok (.iload_n 1, 1) := by decide +kernel
theorem dX9_takeDrips_57 : decode cX9_takeDrips 57 = .ok (.aload_n 0, 1) := by decide +kernel
theorem dX9_takeDrips_58 : decode cX9_takeDrips 58 = .ok (.getfield 20, 3) := by decide +kernel
theorem dX9_takeDrips_61 : decode cX9_takeDrips 61 = .ok (.iload_n 1, 1) := by decide +kernel
theorem dX9_takeDrips_62 : decode cX9_takeDrips 62 = .ok (.baload, 1) := by decide +kernel
theorem dX9_takeDrips_63 : decode cX9_takeDrips 63 = .ok (.ifCond .ne 28, 3) := by decide +kernel
theorem dX9_takeDrips_66 : decode cX9_takeDrips 66 = .ok (.aload_n 0, 1) := by decide +kernel
theorem dX9_takeDrips_67 : decode cX9_takeDrips 67 = .ok (.getfield 27, 3) := by decide +kernel
theorem dX9_takeDrips_70 : decode cX9_takeDrips 70 = .ok (.aload_n 0, 1) := by decide +kernel
theorem dX9_takeDrips_71 : decode cX9_takeDrips 71 = .ok (.getfield 17, 3) := by decide +kernel
theorem dX9_takeDrips_74 : decode cX9_takeDrips 74 = .ok (.iload_n 1, 1) := by decide +kernel
theorem dX9_takeDrips_75 : decode cX9_takeDrips 75 = .ok (.iaload, 1) := by decide +kernel
theorem dX9_takeDrips_76 : decode cX9_takeDrips 76 = .ok (.baload, 1) := by decide +kernel
theorem dX9_takeDrips_77 : decode cX9_takeDrips 77 = .ok (.ifCond .eq 18, 3) := by decide +kernel
theorem dX9_takeDrips_80 : decode cX9_takeDrips 80 = .ok (.aload_n 0, 1) := by decide +kernel
theorem dX9_takeDrips_81 : decode cX9_takeDrips 81 = .ok (.getfield 30, 3) := by decide +kernel
theorem dX9_takeDrips_84 : decode cX9_takeDrips 84 = .ok (.iload_n 1, 1) := by decide +kernel
theorem dX9_takeDrips_85 : decode cX9_takeDrips 85 = .ok (.invokevirtual 108, 3) := by decide +kernel
theorem dX9_takeDrips_88 : decode cX9_takeDrips 88 = .ok (.ifCond .eq 7, 3) := by decide +kernel
theorem dX9_takeDrips_91 : decode cX9_takeDrips 91 = .ok (.iconst 1, 1) := by decide +kernel
theorem dX9_takeDrips_92 : decode cX9_takeDrips 92 = .ok (.goto 4, 3) := by decide +kernel
theorem dX9_takeDrips_95 : decode cX9_takeDrips 95 = .ok (.iconst 0, 1) := by decide +kernel
theorem dX9_takeDrips_96 : decode cX9_takeDrips 96 = .ok (.bastore, 1) := by decide +kernel
theorem dX9_takeDrips_97 : decode cX9_takeDrips 97 = .ok (.iinc 1 1, 3) := by decide +kernel
theorem dX9_takeDrips_100 : decode cX9_takeDrips 100 = .ok (.goto (-98), 3) := by decide +kernel
theorem dX9_takeDrips_103 : decode cX9_takeDrips 103 = .ok (.return_, 1) := by decide +kernel
theorem dX9_allHungAreDry_0 : decode cX9_allHungAreDry 0 = .ok (.iconst 0, 1) := by decide +kernel
theorem dX9_allHungAreDry_1 : decode cX9_allHungAreDry 1 = .ok (.istore_n 1, 1) := by decide +kernel
theorem dX9_allHungAreDry_2 : decode cX9_allHungAreDry 2 = .ok (.iload_n 1, 1) := by decide +kernel
theorem dX9_allHungAreDry_3 : decode cX9_allHungAreDry 3 = .ok (.aload_n 0, 1) := by decide +kernel
theorem dX9_allHungAreDry_4 : decode cX9_allHungAreDry 4 = .ok (.getfield 30, 3) := by decide +kernel
theorem dX9_allHungAreDry_7 : decode cX9_allHungAreDry 7 = .ok (.getfield 47, 3) := by decide +kernel
theorem dX9_allHungAreDry_10 : decode cX9_allHungAreDry 10 = .ok (.if_icmp .ge 28, 3) := by decide +kernel
theorem dX9_allHungAreDry_13 : decode cX9_allHungAreDry 13 = .ok (.aload_n 0, 1) := by decide +kernel
theorem dX9_allHungAreDry_14 : decode cX9_allHungAreDry 14 = .ok (.iload_n 1, 1) := by decide +kernel
theorem dX9_allHungAreDry_15 : decode cX9_allHungAreDry 15 = .ok (.invokevirtual 54, 3) := by decide +kernel
theorem dX9_allHungAreDry_18 : decode cX9_allHungAreDry 18 = .ok (.ifCond .eq 14, 3) := by decide +kernel
theorem dX9_allHungAreDry_21 : decode cX9_allHungAreDry 21 = .ok (.aload_n 0, 1) := by decide +kernel
theorem dX9_allHungAreDry_22 : decode cX9_allHungAreDry 22 = .ok (.getfield 11, 3) := by decide +kernel
theorem dX9_allHungAreDry_25 : decode cX9_allHungAreDry 25 = .ok (.iload_n 1, 1) := by decide +kernel
theorem dX9_allHungAreDry_26 : decode cX9_allHungAreDry 26 = .ok (.iaload, 1) := by decide +kernel
theorem dX9_allHungAreDry_27 : decode cX9_allHungAreDry 27 = .ok (.ifCond .le 5, 3) := by decide +kernel
theorem dX9_allHungAreDry_30 : decode cX9_allHungAreDry 30 = .ok (.iconst 0, 1) := by decide +kernel
theorem dX9_allHungAreDry_31 : decode cX9_allHungAreDry 31 = .ok (.ireturn, 1) := by decide +kernel
theorem dX9_allHungAreDry_32 : decode cX9_allHungAreDry 32 = .ok (.iinc 1 1, 3) := by decide +kernel
theorem dX9_allHungAreDry_35 : decode cX9_allHungAreDry 35 = .ok (.goto (-33), 3) := by decide +kernel
theorem dX9_allHungAreDry_38 : decode cX9_allHungAreDry 38 = .ok (.iconst 1, 1) := by decide +kernel
theorem dX9_allHungAreDry_39 : decode cX9_allHungAreDry 39 = .ok (.ireturn, 1) := by decide +kernel
theorem dX9_areDry_0 : decode cX9_areDry 0 = .ok (.iload_n 1, 1) := by decide +kernel
theorem dX9_areDry_1 : decode cX9_areDry 1 = .ok (.istore_n 3, 1) := by decide +kernel
theorem dX9_areDry_2 : decode cX9_areDry 2 = .ok (.iload_n 3, 1) := by decide +kernel
theorem dX9_areDry_3 : decode cX9_areDry 3 = .ok (.iload_n 2, 1) := by decide +kernel
theorem dX9_areDry_4 : decode cX9_areDry 4 = .ok (.if_icmp .gt 20, 3) := by decide +kernel
theorem dX9_areDry_7 : decode cX9_areDry 7 = .ok (.aload_n 0, 1) := by decide +kernel
theorem dX9_areDry_8 : decode cX9_areDry 8 = .ok (.getfield 11, 3) := by decide +kernel
theorem dX9_areDry_11 : decode cX9_areDry 11 = .ok (.iload_n 3, 1) := by decide +kernel
theorem dX9_areDry_12 : decode cX9_areDry 12 = .ok (.iaload, 1) := by decide +kernel
theorem dX9_areDry_13 : decode cX9_areDry 13 = .ok (.ifCond .le 5, 3) := by decide +kernel
theorem dX9_areDry_16 : decode cX9_areDry 16 = .ok (.iconst 0, 1) := by decide +kernel
theorem dX9_areDry_17 : decode cX9_areDry 17 = .ok (.ireturn, 1) := by decide +kernel
theorem dX9_areDry_18 : decode cX9_areDry 18 = .ok (.iinc 3 1, 3) := by decide +kernel
theorem dX9_areDry_21 : decode cX9_areDry 21 = .ok (.goto (-19), 3) := by decide +kernel
theorem dX9_areDry_24 : decode cX9_areDry 24 = .ok (.iconst 1, 1) := by decide +kernel
theorem dX9_areDry_25 : decode cX9_areDry 25 = .ok (.ireturn, 1) := by decide +kernel
theorem dX9_areStainedSince_0 : decode cX9_areStainedSince 0 = .ok (.iload_n 2, 1) := by decide +kernel
theorem dX9_areStainedSince_1 : decode cX9_areStainedSince 1 = .ok (.istore 4, 2) := by decide +kernel
theorem dX9_areStainedSince_3 : decode cX9_areStainedSince 3 = .ok (.iload 4, 2) := by decide +kernel
theorem dX9_areStainedSince_5 : decode cX9_areStainedSince 5 = .ok (.iload_n 3, 1) := by decide +kernel
theorem dX9_areStainedSince_6 : decode cX9_areStainedSince 6 = .ok (.if_icmp .gt 31, 3) := by decide +kernel
theorem dX9_areStainedSince_9 : decode cX9_areStainedSince 9 = .ok (.aload_n 0, 1) := by decide +kernel
theorem dX9_areStainedSince_10 : decode cX9_areStainedSince 10 = .ok (.getfield 20, 3) := by decide +kernel
theorem dX9_areStainedSince_13 : decode cX9_areStainedSince 13 = .ok (.iload 4, 2) := by decide +kernel
theorem dX9_areStainedSince_15 : decode cX9_areStainedSince 15 = .ok (.baload, 1) := by decide +kernel
theorem dX9_areStainedSince_16 : decode cX9_areStainedSince 16 = .ok (.ifCond .eq 15, 3) := by decide +kernel
theorem dX9_areStainedSince_19 : decode cX9_areStainedSince 19 = .ok (.aload_n 1, 1) := by decide +kernel
theorem dX9_areStainedSince_20 : decode cX9_areStainedSince 20 = .ok (.getfield 20, 3) := by decide +kernel
theorem dX9_areStainedSince_23 : decode cX9_areStainedSince 23 = .ok (.iload 4, 2) := by decide +kernel
theorem dX9_areStainedSince_25 : decode cX9_areStainedSince 25 = .ok (.baload, 1) := by decide +kernel
theorem dX9_areStainedSince_26 : decode cX9_areStainedSince 26 = .ok (.ifCond .ne 5, 3) := by decide +kernel
theorem dX9_areStainedSince_29 : decode cX9_areStainedSince 29 = .ok (.iconst 1, 1) := by decide +kernel
theorem dX9_areStainedSince_30 : decode cX9_areStainedSince 30 = .ok (.ireturn, 1) := by decide +kernel
theorem dX9_areStainedSince_31 : decode cX9_areStainedSince 31 = .ok (.iinc 4 1, 3) := by decide +kernel
theorem dX9_areStainedSince_34 : decode cX9_areStainedSince 34 = .ok (.goto (-31), 3) := by decide +kernel
theorem dX9_areStainedSince_37 : decode cX9_areStainedSince 37 = .ok (.iconst 0, 1) := by decide +kernel
theorem dX9_areStainedSince_38 : decode cX9_areStainedSince 38 = .ok (.ireturn, 1) := by decide +kernel
theorem dX10_init_0 : decode cX10_init 0 = .ok (.aload_n 0, 1) := by decide +kernel
theorem dX10_init_1 : decode cX10_init 1 = .ok (.iload_n 1, 1) := by decide +kernel
theorem dX10_init_2 : decode cX10_init 2 = .ok (.iload_n 2, 1) := by decide +kernel
theorem dX10_init_3 : decode cX10_init 3 = .ok (.iload_n 3, 1) := by decide +kernel
theorem dX10_init_4 : decode cX10_init 4 = .ok (.aload 4, 2) := by decide +kernel
theorem dX10_init_6 : decode cX10_init 6 = .ok (.invokespecial 1, 3) := by decide +kernel
theorem dX10_init_9 : decode cX10_init 9 = .ok (.return_, 1) := by decide +kernel
theorem dX10_size_0 : decode cX10_size 0 = .ok (.aload_n 0, 1) := by decide +kernel
theorem dX10_size_1 : decode cX10_size 1 = .ok (.getfield 7, 3) := by decide +kernel
theorem dX10_size_4 : decode cX10_size 4 = .ok (.bipush 13, 2) := by decide +kernel
theorem dX10_size_6 : decode cX10_size 6 = .ok (.invokevirtual 13, 3) := by decide +kernel
theorem dX10_size_9 : decode cX10_size 9 = .ok (.aload_n 0, 1) := by decide +kernel
theorem dX10_size_10 : decode cX10_size 10 = .ok (.invokespecial 19, 3) := by decide +kernel
theorem dX10_size_13 : decode cX10_size 13 = .ok (.aload_n 0, 1) := by decide +kernel
theorem dX10_size_14 : decode cX10_size 14 = .ok (.getfield 23, 3) := by decide +kernel
theorem dX10_size_17 : decode cX10_size 17 = .ok (.isub, 1) := by decide +kernel
theorem dX10_size_18 : decode cX10_size 18 = .ok (.ireturn, 1) := by decide +kernel
theorem dX11_init_0 : decode cX11_init 0 = .ok (.aload_n 0, 1) := by decide +kernel
theorem dX11_init_1 : decode cX11_init 1 = .ok (.invokespecial 1, 3) := by decide +kernel
theorem dX11_init_4 : decode cX11_init 4 = .ok (.aload_n 0, 1) := by decide +kernel
theorem dX11_init_5 : decode cX11_init 5 = .ok (.new 7, 3) := by decide +kernel
theorem dX11_init_8 : decode cX11_init 8 = .ok (.dup, 1) := by decide +kernel
theorem dX11_init_9 : decode cX11_init 9 = .ok (.invokespecial 9, 3) := by decide +kernel
theorem dX11_init_12 : decode cX11_init 12 = .ok (.putfield 10, 3) := by decide +kernel
theorem dX11_init_15 : decode cX11_init 15 = .ok (.aload_n 0, 1) := by decide +kernel
theorem dX11_init_16 : decode cX11_init 16 = .ok (.new 16, 3) := by decide +kernel
theorem dX11_init_19 : decode cX11_init 19 = .ok (.dup, 1) := by decide +kernel
theorem dX11_init_20 : decode cX11_init 20 = .ok (.invokespecial 18, 3) := by decide +kernel
theorem dX11_init_23 : decode cX11_init 23 = .ok (.putfield 19, 3) := by decide +kernel
theorem dX11_init_26 : decode cX11_init 26 = .ok (.aload_n 0, 1) := by decide +kernel
theorem dX11_init_27 : decode cX11_init 27 = .ok (.new 23, 3) := by decide +kernel
theorem dX11_init_30 : decode cX11_init 30 = .ok (.dup, 1) := by decide +kernel
theorem dX11_init_31 : decode cX11_init 31 = .ok (.invokespecial 25, 3) := by decide +kernel
theorem dX11_init_34 : decode cX11_init 34 = .ok (.putfield 26, 3) := by decide +kernel
theorem dX11_init_37 : decode cX11_init 37 = .ok (.aload_n 0, 1) := by decide +kernel
theorem dX11_init_38 : decode cX11_init 38 = .ok (.iconst 4, 1) := by decide +kernel
theorem dX11_init_39 : decode cX11_init 39 = .ok (.newarray .int, 2) := by decide +kernel
theorem dX11_init_41 : decode cX11_init 41 = .ok (.putfield 30, 3) := by decide +kernel
theorem dX11_init_44 : decode cX11_init 44 = .ok (.aload_n 0, 1) := by decide +kernel
theorem dX11_init_45 : decode cX11_init 45 = .ok (.iconst 4, 1) := by decide +kernel
theorem dX11_init_46 : decode cX11_init 46 = .ok (.newarray .int, 2) := by decide +kernel
theorem dX11_init_48 : decode cX11_init 48 = .ok (.putfield 34, 3) := by decide +kernel
theorem dX11_init_51 : decode cX11_init 51 = .ok (.aload_n 0, 1) := by decide +kernel
theorem dX11_init_52 : decode cX11_init 52 = .ok (.bipush 32, 2) := by decide +kernel
theorem dX11_init_54 : decode cX11_init 54 = .ok (.newarray .int, 2) := by decide +kernel
theorem dX11_init_56 : decode cX11_init 56 = .ok (.putfield 39, 3) := by decide +kernel
theorem dX11_init_59 : decode cX11_init 59 = .ok (.new 37, 3) := by decide +kernel
theorem dX11_init_62 : decode cX11_init 62 = .ok (.dup, 1) := by decide +kernel
theorem dX11_init_63 : decode cX11_init 63 = .ok (.invokespecial 42, 3) := by decide +kernel
theorem dX11_init_66 : decode cX11_init 66 = .ok (.astore_n 1, 1) := by decide +kernel
theorem dX11_init_67 : decode cX11_init 67 = .ok (.aload_n 0, 1) := by decide +kernel
theorem dX11_init_68 : decode cX11_init 68 = .ok (.new 43, 3) := by decide +kernel
theorem dX11_init_71 : decode cX11_init 71 = .ok (.dup, 1) := by decide +kernel
theorem dX11_init_72 : decode cX11_init 72 = .ok (.aload_n 1, 1) := by decide +kernel
theorem dX11_init_73 : decode cX11_init 73 = .ok (.invokespecial 45, 3) := by decide +kernel
theorem dX11_init_76 : decode cX11_init 76 = .ok (.putfield 48, 3) := by decide +kernel
theorem dX11_init_79 : decode cX11_init 79 = .ok (.aload_n 0, 1) := by decide +kernel
theorem dX11_init_80 : decode cX11_init 80 = .ok (.new 43, 3) := by decide +kernel
theorem dX11_init_83 : decode cX11_init 83 = .ok (.dup, 1) := by decide +kernel
theorem dX11_init_84 : decode cX11_init 84 = .ok (.aload_n 1, 1) := by decide +kernel
theorem dX11_init_85 : decode cX11_init 85 = .ok (.invokespecial 45, 3) := by decide +kernel
theorem dX11_init_88 : decode cX11_init 88 = .ok (.putfield 52, 3) := by decide +kernel
theorem dX11_init_91 : decode cX11_init 91 = .ok (.aload_n 0, 1) := by decide +kernel
theorem dX11_init_92 : decode cX11_init 92 = .ok (.new 43, 3) := by decide +kernel
theorem dX11_init_95 : decode cX11_init 95 = .ok (.dup, 1) := by decide +kernel
theorem dX11_init_96 : decode cX11_init 96 = .ok (.aload_n 1, 1) := by decide +kernel
theorem dX11_init_97 : decode cX11_init 97 = .ok (.invokespecial 45, 3) := by decide +kernel
theorem dX11_init_100 : decode cX11_init 100 = .ok (.putfield 55, 3) := by decide +kernel
theorem dX11_init_103 : decode cX11_init 103 = .ok (.aload_n 0, 1) := by decide +kernel
theorem dX11_init_104 : decode cX11_init 104 = .ok (.new 43, 3) := by decide +kernel
theorem dX11_init_107 : decode cX11_init 107 = .ok (.dup, 1) := by decide +kernel
theorem dX11_init_108 : decode cX11_init 108 = .ok (.aload_n 1, 1) := by decide +kernel
theorem dX11_init_109 : decode cX11_init 109 = .ok (.invokespecial 45, 3) := by decide +kernel
theorem dX11_init_112 : decode cX11_init 112 = .ok (.putfield 58, 3) := by decide +kernel
theorem dX11_init_115 : decode cX11_init 115 = .ok (.aload_n 0, 1) := by decide +kernel
theorem dX11_init_116 : decode cX11_init 116 = .ok (.new 43, 3) := by decide +kernel
theorem dX11_init_119 : decode cX11_init 119 = .ok (.dup, 1) := by decide +kernel
theorem dX11_init_120 : decode cX11_init 120 = .ok (.aload_n 1, 1) := by decide +kernel
theorem dX11_init_121 : decode cX11_init 121 = .ok (.invokespecial 45, 3) := by decide +kernel
theorem dX11_init_124 : decode cX11_init 124 = .ok (.putfield 61, 3) := by decide +kernel
theorem dX11_init_127 : decode cX11_init 127 = .ok (.return_, 1) := by decide +kernel
theorem dX11_row_0 : decode cX11_row 0 = .ok (.aload_n 0, 1) := by decide +kernel
theorem dX11_row_1 : decode cX11_row 1 = .ok (.getfield 10, 3) := by decide +kernel
theorem dX11_row_4 : decode cX11_row 4 = .ok (.iload_n 1, 1) := by decide +kernel
theorem dX11_row_5 : decode cX11_row 5 = .ok (.invokevirtual 64, 3) := by decide +kernel
theorem dX11_row_8 : decode cX11_row 8 = .ok (.ifCond .eq 18, 3) := by decide +kernel
theorem dX11_row_11 : decode cX11_row 11 = .ok (.iload_n 2, 1) := by decide +kernel
theorem dX11_row_12 : decode cX11_row 12 = .ok (.iconst 0, 1) := by decide +kernel
theorem dX11_row_13 : decode cX11_row 13 = .ok (.iconst 2, 1) := by decide +kernel
theorem dX11_row_14 : decode cX11_row 14 = .ok (.invokestatic 68, 3) := by decide +kernel
theorem dX11_row_17 : decode cX11_row 17 = .ok (.ifCond .eq 9, 3) := by decide +kernel
theorem dX11_row_20 : decode cX11_row 20 = .ok (.iload_n 3, 1) := by decide +kernel
theorem dX11_row_21 : decode cX11_row 21 = .ok (.bipush 40, 2) := by decide +kernel
theorem dX11_row_23 : decode cX11_row 23 = .ok (.if_icmp .le 6, 3) := by decide +kernel
theorem dX11_row_26 : decode cX11_row 26 = .ok (.ldc 72, 2) := by decide +kernel
theorem dX11_row_28 : decode cX11_row 28 = .ok (.ireturn, 1) := by decide +kernel
theorem dX11_row_29 : decode cX11_row 29 = .ok (.iload_n 3, 1) := by decide +kernel
theorem dX11_row_30 : decode cX11_row 30 = .ok (.ifCond .ge 9, 3) := by decide +kernel
theorem dX11_row_33 : decode cX11_row 33 = .ok (.aload_n 0, 1) := by decide +kernel
theorem dX11_row_34 : decode cX11_row 34 = .ok (.iconst 4, 1) := by decide +kernel
theorem dX11_row_35 : decode cX11_row 35 = .ok (.invokevirtual 73, 3) := by decide +kernel
theorem dX11_row_38 : decode cX11_row 38 = .ok (.ireturn, 1) := by decide +kernel
theorem dX11_row_39 : decode cX11_row 39 = .ok (.aload_n 0, 1) := by decide +kernel
theorem dX11_row_40 : decode cX11_row 40 = .ok (.getfield 10, 3) := by decide +kernel
theorem dX11_row_43 : decode cX11_row 43 = .ok (.iload_n 1, 1) := by decide +kernel
theorem dX11_row_44 : decode cX11_row 44 = .ok (.iload_n 2, 1) := by decide +kernel
theorem dX11_row_45 : decode cX11_row 45 = .ok (.iload_n 3, 1) := by decide +kernel
theorem dX11_row_46 : decode cX11_row 46 = .ok (.invokevirtual 77, 3) := by decide +kernel
theorem dX11_row_49 : decode cX11_row 49 = .ok (.aload_n 0, 1) := by decide +kernel
theorem dX11_row_50 : decode cX11_row 50 = .ok (.iload_n 3, 1) := by decide +kernel
theorem dX11_row_51 : decode cX11_row 51 = .ok (.invokevirtual 81, 3) := by decide +kernel
theorem dX11_row_54 : decode cX11_row 54 = .ok (.ireturn, 1) := by decide +kernel
theorem dX11_set_0 : decode cX11_set 0 = .ok (.aload_n 0, 1) := by decide +kernel
theorem dX11_set_1 : decode cX11_set 1 = .ok (.getfield 10, 3) := by decide +kernel
theorem dX11_set_4 : decode cX11_set 4 = .ok (.iload_n 1, 1) := by decide +kernel
theorem dX11_set_5 : decode cX11_set 5 = .ok (.invokevirtual 64, 3) := by decide +kernel
theorem dX11_set_8 : decode cX11_set 8 = .ok (.ifCond .ne 6, 3) := by decide +kernel
theorem dX11_set_11 : decode cX11_set 11 = .ok (.ldc 72, 2) := by decide +kernel
theorem dX11_set_13 : decode cX11_set 13 = .ok (.ireturn, 1) := by decide +kernel
theorem dX11_set_14 : decode cX11_set 14 = .ok (.aload_n 0, 1) := by decide +kernel
theorem dX11_set_15 : decode cX11_set 15 = .ok (.getfield 10, 3) := by decide +kernel
theorem dX11_set_18 : decode cX11_set 18 = .ok (.iload_n 1, 1) := by decide +kernel
theorem dX11_set_19 : decode cX11_set 19 = .ok (.invokevirtual 84, 3) := by decide +kernel
theorem dX11_set_22 : decode cX11_set 22 = .ok (.ifCond .eq 9, 3) := by decide +kernel
theorem dX11_set_25 : decode cX11_set 25 = .ok (.aload_n 0, 1) := by decide +kernel
theorem dX11_set_26 : decode cX11_set 26 = .ok (.iconst 1, 1) := by decide +kernel
theorem dX11_set_27 : decode cX11_set 27 = .ok (.invokevirtual 73, 3) := by decide +kernel
theorem dX11_set_30 : decode cX11_set 30 = .ok (.ireturn, 1) := by decide +kernel
theorem dX11_set_31 : decode cX11_set 31 = .ok (.aload_n 0, 1) := by decide +kernel
theorem dX11_set_32 : decode cX11_set 32 = .ok (.getfield 10, 3) := by decide +kernel
theorem dX11_set_35 : decode cX11_set 35 = .ok (.iload_n 1, 1) := by decide +kernel
theorem dX11_set_36 : decode cX11_set 36 = .ok (.iload_n 2, 1) := by decide +kernel
theorem dX11_set_37 : decode cX11_set 37 = .ok (.iconst 1, 1) := by decide +kernel
theorem dX11_set_38 : decode cX11_set 38 = .ok (.invokevirtual 87, 3) := by decide +kernel
theorem dX11_set_41 : decode cX11_set 41 = .ok (.ifCond .ne 9, 3) := by decide +kernel
theorem dX11_set_44 : decode cX11_set 44 = .ok (.aload_n 0, 1) := by decide +kernel
theorem dX11_set_45 : decode cX11_set 45 = .ok (.iconst 2, 1) := by decide +kernel
theorem dX11_set_46 : decode cX11_set 46 = .ok (.invokevirtual 73, 3) := by decide +kernel
theorem dX11_set_49 : decode cX11_set 49 = .ok (.ireturn, 1) := by decide +kernel
theorem dX11_set_50 : decode cX11_set 50 = .ok (.aload_n 0, 1) := by decide +kernel
theorem dX11_set_51 : decode cX11_set 51 = .ok (.aload_n 0, 1) := by decide +kernel
theorem dX11_set_52 : decode cX11_set 52 = .ok (.getfield 10, 3) := by decide +kernel
theorem dX11_set_55 : decode cX11_set 55 = .ok (.iload_n 1, 1) := by decide +kernel
theorem dX11_set_56 : decode cX11_set 56 = .ok (.iload_n 2, 1) := by decide +kernel
theorem dX11_set_57 : decode cX11_set 57 = .ok (.iload_n 3, 1) := by decide +kernel
theorem dX11_set_58 : decode cX11_set 58 = .ok (.invokevirtual 90, 3) := by decide +kernel
theorem dX11_set_61 : decode cX11_set 61 = .ok (.invokevirtual 81, 3) := by decide +kernel
theorem dX11_set_64 : decode cX11_set 64 = .ok (.ireturn, 1) := by decide +kernel
theorem dX11_copy_0 : decode cX11_copy 0 = .ok (.aload_n 0, 1) := by decide +kernel
theorem dX11_copy_1 : decode cX11_copy 1 = .ok (.getfield 10, 3) := by decide +kernel
theorem dX11_copy_4 : decode cX11_copy 4 = .ok (.iload_n 1, 1) := by decide +kernel
theorem dX11_copy_5 : decode cX11_copy 5 = .ok (.invokevirtual 64, 3) := by decide +kernel
theorem dX11_copy_8 : decode cX11_copy 8 = .ok (.ifCond .eq 14, 3) := by decide +kernel
theorem dX11_copy_11 : decode cX11_copy 11 = .ok (.aload_n 0, 1) := by decide +kernel
theorem dX11_copy_12 : decode cX11_copy 12 = .ok (.getfield 10, 3) := by decide +kernel
theorem dX11_copy_15 : decode cX11_copy 15 = .ok (.iload_n 3, 1) := by decide +kernel
theorem dX11_copy_16 : decode cX11_copy 16 = .ok (.invokevirtual 64, 3) := by decide +kernel
theorem dX11_copy_19 : decode cX11_copy 19 = .ok (.ifCond .ne 6, 3) := by decide +kernel
theorem dX11_copy_22 : decode cX11_copy 22 = .ok (.ldc 72, 2) := by decide +kernel
theorem dX11_copy_24 : decode cX11_copy 24 = .ok (.ireturn, 1) := by decide +kernel
theorem dX11_copy_25 : decode cX11_copy 25 = .ok (.aload_n 0, 1) := by decide +kernel
theorem dX11_copy_26 : decode cX11_copy 26 = .ok (.getfield 10, 3) := by decide +kernel
theorem dX11_copy_29 : decode cX11_copy 29 = .ok (.iload_n 1, 1) := by decide +kernel
theorem dX11_copy_30 : decode cX11_copy 30 = .ok (.invokevirtual 84, 3) := by decide +kernel
theorem dX11_copy_33 : decode cX11_copy 33 = .ok (.ifCond .ne 14, 3) := by decide +kernel
theorem dX11_copy_36 : decode cX11_copy 36 = .ok (.aload_n 0, 1) := by decide +kernel
theorem dX11_copy_37 : decode cX11_copy 37 = .ok (.getfield 10, 3) := by decide +kernel
theorem dX11_copy_40 : decode cX11_copy 40 = .ok (.iload_n 3, 1) := by decide +kernel
theorem dX11_copy_41 : decode cX11_copy 41 = .ok (.invokevirtual 84, 3) := by decide +kernel
theorem dX11_copy_44 : decode cX11_copy 44 = .ok (.ifCond .eq 9, 3) := by decide +kernel
theorem dX11_copy_47 : decode cX11_copy 47 = .ok (.aload_n 0, 1) := by decide +kernel
theorem dX11_copy_48 : decode cX11_copy 48 = .ok (.iconst 1, 1) := by decide +kernel
theorem dX11_copy_49 : decode cX11_copy 49 = .ok (.invokevirtual 73, 3) := by decide +kernel
theorem dX11_copy_52 : decode cX11_copy 52 = .ok (.ireturn, 1) := by decide +kernel
theorem dX11_copy_53 : decode cX11_copy 53 = .ok (.aload_n 0, 1) := by decide +kernel
theorem dX11_copy_54 : decode cX11_copy 54 = .ok (.getfield 10, 3) := by decide +kernel
theorem dX11_copy_57 : decode cX11_copy 57 = .ok (.iload_n 1, 1) := by decide +kernel
theorem dX11_copy_58 : decode cX11_copy 58 = .ok (.iload_n 3, 1) := by decide +kernel
theorem dX11_copy_59 : decode cX11_copy 59 = .ok (.invokevirtual 94, 3) := by decide +kernel
theorem dX11_copy_62 : decode cX11_copy 62 = .ok (.ifCond .ne 9, 3) := by decide +kernel
theorem dX11_copy_65 : decode cX11_copy 65 = .ok (.aload_n 0, 1) := by decide +kernel
theorem dX11_copy_66 : decode cX11_copy 66 = .ok (.iconst 5, 1) := by decide +kernel
theorem dX11_copy_67 : decode cX11_copy 67 = .ok (.invokevirtual 73, 3) := by decide +kernel
theorem dX11_copy_70 : decode cX11_copy 70 = .ok (.ireturn, 1) := by decide +kernel
theorem dX11_copy_71 : decode cX11_copy 71 = .ok (.aload_n 0, 1) := by decide +kernel
theorem dX11_copy_72 : decode cX11_copy 72 = .ok (.getfield 10, 3) := by decide +kernel
theorem dX11_copy_75 : decode cX11_copy 75 = .ok (.iload_n 1, 1) := by decide +kernel
theorem dX11_copy_76 : decode cX11_copy 76 = .ok (.iload_n 2, 1) := by decide +kernel
theorem dX11_copy_77 : decode cX11_copy 77 = .ok (.iload 5, 2) := by decide +kernel
theorem dX11_copy_79 : decode cX11_copy 79 = .ok (.invokevirtual 87, 3) := by decide +kernel
theorem dX11_copy_82 : decode cX11_copy 82 = .ok (.ifCond .eq 18, 3) := by decide +kernel
theorem dX11_copy_85 : decode cX11_copy 85 = .ok (.aload_n 0, 1) := by decide +kernel
theorem dX11_copy_86 : decode cX11_copy 86 = .ok (.getfield 10, 3) := by decide +kernel
theorem dX11_copy_89 : decode cX11_copy 89 = .ok (.iload_n 3, 1) := by decide +kernel
theorem dX11_copy_90 : decode cX11_copy 90 = .ok (.iload 4, 2) := by decide +kernel
theorem dX11_copy_92 : decode cX11_copy 92 = .ok (.iload 5, 2) := by decide +kernel
theorem dX11_copy_94 : decode cX11_copy 94 = .ok (.invokevirtual 87, 3) := by decide +kernel
theorem dX11_copy_97 : decode cX11_copy 97 = .ok (.ifCond .ne 9, 3) := by decide +kernel
theorem dX11_copy_100 : decode cX11_copy 100 = .ok (.aload_n 0, 1) := by decide +kernel
theorem dX11_copy_101 : decode cX11_copy 101 = .ok (.iconst 2, 1) := by decide +kernel
theorem dX11_copy_102 : decode cX11_copy 102 = .ok (.invokevirtual 73, 3) := by decide +kernel
theorem dX11_copy_105 : decode cX11_copy 105 = .ok (.ireturn, 1) := by decide +kernel
theorem dX11_copy_106 : decode cX11_copy 106 = .ok (.aload_n 0, 1) := by decide +kernel
theorem dX11_copy_107 : decode cX11_copy 107 = .ok (.getfield 10, 3) := by decide +kernel
theorem dX11_copy_110 : decode cX11_copy 110 = .ok (.iload_n 1, 1) := by decide +kernel
theorem dX11_copy_111 : decode cX11_copy 111 = .ok (.iload_n 2, 1) := by decide +kernel
theorem dX11_copy_112 : decode cX11_copy 112 = .ok (.iload_n 3, 1) := by decide +kernel
theorem dX11_copy_113 : decode cX11_copy 113 = .ok (.iload 4, 2) := by decide +kernel
theorem dX11_copy_115 : decode cX11_copy 115 = .ok (.iload 5, 2) := by decide +kernel
theorem dX11_copy_117 : decode cX11_copy 117 = .ok (.invokevirtual 98, 3) := by decide +kernel
theorem dX11_copy_120 : decode cX11_copy 120 = .ok (.aload_n 0, 1) := by decide +kernel
theorem dX11_copy_121 : decode cX11_copy 121 = .ok (.iload 5, 2) := by decide +kernel
theorem dX11_copy_123 : decode cX11_copy 123 = .ok (.invokevirtual 81, 3) := by decide +kernel
theorem dX11_copy_126 : decode cX11_copy 126 = .ok (.ireturn, 1) := by decide +kernel
theorem dX11_drop_0 : decode cX11_drop 0 = .ok (.aload_n 0, 1) := by decide +kernel
theorem dX11_drop_1 : decode cX11_drop 1 = .ok (.getfield 10, 3) := by decide +kernel
theorem dX11_drop_4 : decode cX11_drop 4 = .ok (.iload_n 1, 1) := by decide +kernel
theorem dX11_drop_5 : decode cX11_drop 5 = .ok (.invokevirtual 64, 3) := by decide +kernel
theorem dX11_drop_8 : decode cX11_drop 8 = .ok (.ifCond .ne 6, 3) := by decide +kernel
theorem dX11_drop_11 : decode cX11_drop 11 = .ok (.ldc 72, 2) := by decide +kernel
theorem dX11_drop_13 : decode cX11_drop 13 = .ok (.ireturn, 1) := by decide +kernel
theorem dX11_drop_14 : decode cX11_drop 14 = .ok (.aload_n 0, 1) := by decide +kernel
theorem dX11_drop_15 : decode cX11_drop 15 = .ok (.getfield 10, 3) := by decide +kernel
theorem dX11_drop_18 : decode cX11_drop 18 = .ok (.iload_n 1, 1) := by decide +kernel
theorem dX11_drop_19 : decode cX11_drop 19 = .ok (.invokevirtual 84, 3) := by decide +kernel
theorem dX11_drop_22 : decode cX11_drop 22 = .ok (.ifCond .eq 9, 3) := by decide +kernel
theorem dX11_drop_25 : decode cX11_drop 25 = .ok (.aload_n 0, 1) := by decide +kernel
theorem dX11_drop_26 : decode cX11_drop 26 = .ok (.iconst 1, 1) := by decide +kernel
theorem dX11_drop_27 : decode cX11_drop 27 = .ok (.invokevirtual 73, 3) := by decide +kernel
theorem dX11_drop_30 : decode cX11_drop 30 = .ok (.ireturn, 1) := by decide +kernel
theorem dX11_drop_31 : decode cX11_drop 31 = .ok (.aload_n 0, 1) := by decide +kernel
theorem dX11_drop_32 : decode cX11_drop 32 = .ok (.aload_n 0, 1) := by decide +kernel
theorem dX11_drop_33 : decode cX11_drop 33 = .ok (.getfield 10, 3) := by decide +kernel
theorem dX11_drop_36 : decode cX11_drop 36 = .ok (.iload_n 1, 1) := by decide +kernel
theorem dX11_drop_37 : decode cX11_drop 37 = .ok (.invokevirtual 102, 3) := by decide +kernel
theorem dX11_drop_40 : decode cX11_drop 40 = .ok (.invokevirtual 81, 3) := by decide +kernel
theorem dX11_drop_43 : decode cX11_drop 43 = .ok (.ireturn, 1) := by decide +kernel
theorem dX11_feed_0 : decode cX11_feed 0 = .ok (.iload_n 3, 1) := by decide +kernel
theorem dX11_feed_1 : decode cX11_feed 1 = .ok (.iconst 1, 1) := by decide +kernel
theorem dX11_feed_2 : decode cX11_feed 2 = .ok (.bipush 8, 2) := by decide +kernel
theorem dX11_feed_4 : decode cX11_feed 4 = .ok (.invokestatic 68, 3) := by decide +kernel
theorem dX11_feed_7 : decode cX11_feed 7 = .ok (.ifCond .ne 6, 3) := by decide +kernel
theorem dX11_feed_10 : decode cX11_feed 10 = .ok (.ldc 72, 2) := by decide +kernel
theorem dX11_feed_12 : decode cX11_feed 12 = .ok (.ireturn, 1) := by decide +kernel
theorem dX11_feed_13 : decode cX11_feed 13 = .ok (.aload_n 0, 1) := by decide +kernel
theorem dX11_feed_14 : decode cX11_feed 14 = .ok (.getfield 19, 3) := by decide +kernel
theorem dX11_feed_17 : decode cX11_feed 17 = .ok (.iload_n 3, 1) := by decide +kernel
theorem dX11_feed_18 : decode cX11_feed 18 = .ok (.invokevirtual 105, 3) := by decide +kernel
theorem dX11_feed_21 : decode cX11_feed 21 = .ok (.ifCond .ne 6, 3) := by decide +kernel
theorem dX11_feed_24 : decode cX11_feed 24 = .ok (.ldc 108, 2) := by decide +kernel
theorem dX11_feed_26 : decode cX11_feed 26 = .ok (.ireturn, 1) := by decide +kernel
theorem dX11_feed_27 : decode cX11_feed 27 = .ok (.aload_n 0, 1) := by decide +kernel
theorem dX11_feed_28 : decode cX11_feed 28 = .ok (.getfield 19, 3) := by decide +kernel
theorem dX11_feed_31 : decode cX11_feed 31 = .ok (.lload_n 1, 1) := by decide +kernel
theorem dX11_feed_32 : decode cX11_feed 32 = .ok (.iload_n 3, 1) := by decide +kernel
theorem dX11_feed_33 : decode cX11_feed 33 = .ok (.invokevirtual 109, 3) := by decide +kernel
theorem dX11_feed_36 : decode cX11_feed 36 = .ok (.ireturn, 1) := by decide +kernel
theorem dX11_court_0 : decode cX11_court 0 = .ok (.aload_n 0, 1) := by decide +kernel
theorem dX11_court_1 : decode cX11_court 1 = .ok (.getfield 19, 3) := by decide +kernel
theorem dX11_court_4 : decode cX11_court 4 = .ok (.invokevirtual 113, 3) := by decide +kernel
theorem dX11_court_7 : decode cX11_court 7 = .ok (.astore_n 1, 1) := by decide +kernel
theorem dX11_court_8 : decode cX11_court 8 = .ok (.aload_n 0, 1) := by decide +kernel
theorem dX11_court_9 : decode cX11_court 9 = .ok (.getfield 19, 3) := by decide +kernel
theorem dX11_court_12 : decode cX11_court 12 = .ok (.getfield 117, 3) := by decide +kernel
theorem dX11_court_15 : decode cX11_court 15 = .ok (.ifCond .eq 25, 3) := by decide +kernel
theorem dX11_court_18 : decode cX11_court 18 = .ok (.aload_n 0, 1) := by decide +kernel
theorem dX11_court_19 : decode cX11_court 19 = .ok (.aload_n 0, 1) := by decide +kernel
theorem dX11_court_20 : decode cX11_court 20 = .ok (.getfield 19, 3) := by decide +kernel
theorem dX11_court_23 : decode cX11_court 23 = .ok (.getfield 117, 3) := by decide +kernel
theorem dX11_court_26 : decode cX11_court 26 = .ok (.putfield 121, 3) := by decide +kernel
theorem dX11_court_29 : decode cX11_court 29 = .ok (.ldc 124, 2) := by decide +kernel
theorem dX11_court_31 : decode cX11_court 31 = .ok (.aload_n 0, 1) := by decide +kernel
theorem dX11_court_32 : decode cX11_court 32 = .ok (.getfield 19, 3) := by decide +kernel
theorem dX11_court_35 : decode cX11_court 35 = .ok (.getfield 125, 3) := by decide +kernel
theorem dX11_court_38 : decode cX11_court 38 = .ok (.isub, 1) := by decide +kernel
theorem dX11_court_39 : decode cX11_court 39 = .ok (.ireturn, 1) := by decide +kernel
theorem dX11_court_40 : decode cX11_court 40 = .ok (.aload_n 0, 1) := by decide +kernel
theorem dX11_court_41 : decode cX11_court 41 = .ok (.getfield 48, 3) := by decide +kernel
theorem dX11_court_44 : decode cX11_court 44 = .ok (.aload_n 1, 1) := by decide +kernel
theorem dX11_court_45 : decode cX11_court 45 = .ok (.invokevirtual 128, 3) := by decide +kernel
theorem dX11_court_48 : decode cX11_court 48 = .ok (.aload_n 1, 1) := by decide +kernel
theorem dX11_court_49 : decode cX11_court 49 = .ok (.getfield 131, 3) := by decide +kernel
theorem dX11_court_52 : decode cX11_court 52 = .ok (.ireturn, 1) := by decide +kernel
theorem dX11_fault_0 : decode cX11_fault 0 = .ok (.aload_n 0, 1) := by decide +kernel
theorem dX11_fault_1 : decode cX11_fault 1 = .ok (.getfield 121, 3) := by decide +kernel
theorem dX11_fault_4 : decode cX11_fault 4 = .ok (.ireturn, 1) := by decide +kernel
theorem dX11_hang_0 : decode cX11_hang 0 = .ok (.aload_n 0, 1) := by decide +kernel
theorem dX11_hang_1 : decode cX11_hang 1 = .ok (.iload_n 1, 1) := by decide +kernel
theorem dX11_hang_2 : decode cX11_hang 2 = .ok (.invokevirtual 134, 3) := by decide +kernel
theorem dX11_hang_5 : decode cX11_hang 5 = .ok (.ifCond .eq 11, 3) := by decide +kernel
theorem dX11_hang_8 : decode cX11_hang 8 = .ok (.aload_n 0, 1) := by decide +kernel
theorem dX11_hang_9 : decode cX11_hang 9 = .ok (.iload_n 2, 1) := by decide +kernel
theorem dX11_hang_10 : decode cX11_hang 10 = .ok (.invokevirtual 137, 3) := by decide +kernel
theorem dX11_hang_13 : decode cX11_hang 13 = .ok (.ifCond .ne 6, 3) := by decide +kernel
theorem dX11_hang_16 : decode cX11_hang 16 = .ok (.ldc 72, 2) := by decide +kernel
theorem dX11_hang_18 : decode cX11_hang 18 = .ok (.ireturn, 1) := by decide +kernel
theorem dX11_hang_19 : decode cX11_hang 19 = .ok (.aload_n 0, 1) := by decide +kernel
theorem dX11_hang_20 : decode cX11_hang 20 = .ok (.getfield 48, 3) := by decide +kernel
theorem dX11_hang_23 : decode cX11_hang 23 = .ok (.iload_n 1, 1) := by decide +kernel
theorem dX11_hang_24 : decode cX11_hang 24 = .ok (.iload_n 2, 1) := by decide +kernel
theorem dX11_hang_25 : decode cX11_hang 25 = .ok (.invokevirtual 140, 3) := by decide +kernel
theorem dX11_hang_28 : decode cX11_hang 28 = .ok (.istore_n 3, 1) := by decide +kernel
theorem dX11_hang_29 : decode cX11_hang 29 = .ok (.iload_n 3, 1) := by decide +kernel
theorem dX11_hang_30 : decode cX11_hang 30 = .ok (.ifCond .eq 5, 3) := by decide +kernel
theorem dX11_hang_33 : decode cX11_hang 33 = .ok (.iload_n 3, 1) := by decide +kernel
theorem dX11_hang_34 : decode cX11_hang 34 = .ok (.ireturn, 1) := by decide +kernel
theorem dX11_hang_35 : decode cX11_hang 35 = .ok (.aload_n 0, 1) := by decide +kernel
theorem dX11_hang_36 : decode cX11_hang 36 = .ok (.getfield 48, 3) := by decide +kernel
theorem dX11_hang_39 : decode cX11_hang 39 = .ok (.iload_n 1, 1) := by decide +kernel
theorem dX11_hang_40 : decode cX11_hang 40 = .ok (.iload_n 2, 1) := by decide +kernel
theorem dX11_hang_41 : decode cX11_hang 41 = .ok (.invokevirtual 144, 3) := by decide +kernel
theorem dX11_hang_44 : decode cX11_hang 44 = .ok (.aload_n 0, 1) := by decide +kernel
theorem dX11_hang_45 : decode cX11_hang 45 = .ok (.getfield 48, 3) := by decide +kernel
theorem dX11_hang_48 : decode cX11_hang 48 = .ok (.iload_n 1, 1) := by decide +kernel
theorem dX11_hang_49 : decode cX11_hang 49 = .ok (.iload_n 2, 1) := by decide +kernel
theorem dX11_hang_50 : decode cX11_hang 50 = .ok (.invokevirtual 148, 3) := by decide +kernel
theorem dX11_hang_53 : decode cX11_hang 53 = .ok (.ireturn, 1) := by decide +kernel
theorem dX11_take_0 : decode cX11_take 0 = .ok (.aload_n 0, 1) := by decide +kernel
theorem dX11_take_1 : decode cX11_take 1 = .ok (.iload_n 1, 1) := by decide +kernel
theorem dX11_take_2 : decode cX11_take 2 = .ok (.invokevirtual 134, 3) := by decide +kernel
theorem dX11_take_5 : decode cX11_take 5 = .ok (.ifCond .ne 6, 3) := by decide +kernel
theorem dX11_take_8 : decode cX11_take 8 = .ok (.ldc 72, 2) := by decide +kernel
theorem dX11_take_10 : decode cX11_take 10 = .ok (.ireturn, 1) := by decide +kernel
theorem dX11_take_11 : decode cX11_take 11 = .ok (.aload_n 0, 1) := by decide +kernel
theorem dX11_take_12 : decode cX11_take 12 = .ok (.getfield 48, 3) := by decide +kernel
theorem dX11_take_15 : decode cX11_take 15 = .ok (.iload_n 1, 1) := by decide +kernel
theorem dX11_take_16 : decode cX11_take 16 = .ok (.invokevirtual 151, 3) := by decide +kernel
theorem dX11_take_19 : decode cX11_take 19 = .ok (.ifCond .ne 6, 3) := by decide +kernel
theorem dX11_take_22 : decode cX11_take 22 = .ok (.ldc 154, 2) := by decide +kernel
theorem dX11_take_24 : decode cX11_take 24 = .ok (.ireturn, 1) := by decide +kernel
theorem dX11_take_25 : decode cX11_take 25 = .ok (.aload_n 0, 1) := by decide +kernel
theorem dX11_take_26 : decode cX11_take 26 = .ok (.getfield 48, 3) := by decide +kernel
theorem dX11_take_29 : decode cX11_take 29 = .ok (.iload_n 1, 1) := by decide +kernel
theorem dX11_take_30 : decode cX11_take 30 = .ok (.invokevirtual 155, 3) := by decide +kernel
theorem dX11_take_33 : decode cX11_take 33 = .ok (.ireturn, 1) := by decide +kernel
theorem dX11_quarters_0 : decode cX11_quarters 0 = .ok (.aload_n 0, 1) := by decide +kernel
theorem dX11_quarters_1 : decode cX11_quarters 1 = .ok (.invokevirtual 158, 3) := by decide +kernel
theorem dX11_quarters_4 : decode cX11_quarters 4 = .ok (.ifCond .eq 6, 3) := by decide +kernel
theorem dX11_quarters_7 : decode cX11_quarters 7 = .ok (.ldc 154, 2) := by decide +kernel
theorem dX11_quarters_9 : decode cX11_quarters 9 = .ok (.ireturn, 1) := by decide +kernel
theorem dX11_quarters_10 : decode cX11_quarters 10 = .ok (.iload_n 1, 1) := by decide +kernel
theorem dX11_quarters_11 : decode cX11_quarters 11 = .ok (.iconst 1, 1) := by decide +kernel
theorem dX11_quarters_12 : decode cX11_quarters 12 = .ok (.bipush 96, 2) := by decide +kernel
theorem dX11_quarters_14 : decode cX11_quarters 14 = .ok (.invokestatic 68, 3) := by decide +kernel
theorem dX11_quarters_17 : decode cX11_quarters 17 = .ok (.ifCond .ne 6, 3) := by decide +kernel
theorem dX11_quarters_20 : decode cX11_quarters 20 = .ok (.ldc 72, 2) := by decide +kernel
theorem dX11_quarters_22 : decode cX11_quarters 22 = .ok (.ireturn, 1) := by decide +kernel
theorem dX11_quarters_23 : decode cX11_quarters 23 = .ok (.iconst 0, 1) := by decide +kernel
theorem dX11_quarters_24 : decode cX11_quarters 24 = .ok (.istore_n 2, 1) := by decide +kernel
theorem dX11_quarters_25 : decode cX11_quarters 25 = .ok (.iload_n 2, 1) := by decide +kernel
theorem dX11_quarters_26 : decode cX11_quarters 26 = .ok (.iload_n 1, 1) := by decide +kernel
theorem dX11_quarters_27 : decode cX11_quarters 27 = .ok (.if_icmp .ge 16, 3) := by decide +kernel
theorem dX11_quarters_30 : decode cX11_quarters 30 = .ok (.aload_n 0, 1) := by decide +kernel
theorem dX11_quarters_31 : decode cX11_quarters 31 = .ok (.getfield 48, 3) := by decide +kernel
theorem dX11_quarters_34 : decode cX11_quarters 34 = .ok (.invokevirtual 162, 3) := by decide +kernel
theorem dX11_quarters_37 : decode cX11_quarters 37 = .ok (.iinc 2 1, 3) := by decide +kernel
theorem dX11_quarters_40 : decode cX11_quarters 40 = .ok (.goto (-15), 3) := by decide +kernel
theorem dX11_quarters_43 : decode cX11_quarters 43 = .ok (.aload_n 0, 1) := by decide +kernel
theorem dX11_quarters_44 : decode cX11_quarters 44 = .ok (.getfield 48, 3) := by decide +kernel
theorem dX11_quarters_47 : decode cX11_quarters 47 = .ok (.getfield 165, 3) := by decide +kernel
theorem dX11_quarters_50 : decode cX11_quarters 50 = .ok (.ireturn, 1) := by decide +kernel
theorem dX11_lay_0 : decode cX11_lay 0 = .ok (.aload_n 0, 1) := by decide +kernel
theorem dX11_lay_1 : decode cX11_lay 1 = .ok (.invokevirtual 158, 3) := by decide +kernel
theorem dX11_lay_4 : decode cX11_lay 4 = .ok (.ifCond .eq 6, 3) := by decide +kernel
theorem dX11_lay_7 : decode cX11_lay 7 = .ok (.ldc 154, 2) := by decide +kernel
theorem dX11_lay_9 : decode cX11_lay 9 = .ok (.ireturn, 1) := by decide +kernel
theorem dX11_lay_10 : decode cX11_lay 10 = .ok (.aload_n 0, 1) := by decide +kernel
theorem dX11_lay_11 : decode cX11_lay 11 = .ok (.getfield 10, 3) := by decide +kernel
theorem dX11_lay_14 : decode cX11_lay 14 = .ok (.iload_n 1, 1) := by decide +kernel
theorem dX11_lay_15 : decode cX11_lay 15 = .ok (.invokevirtual 64, 3) := by decide +kernel
theorem dX11_lay_18 : decode cX11_lay 18 = .ok (.ifCond .ne 6, 3) := by decide +kernel
theorem dX11_lay_21 : decode cX11_lay 21 = .ok (.ldc 72, 2) := by decide +kernel
theorem dX11_lay_23 : decode cX11_lay 23 = .ok (.ireturn, 1) := by decide +kernel
theorem dX11_lay_24 : decode cX11_lay 24 = .ok (.aload_n 0, 1) := by decide +kernel
theorem dX11_lay_25 : decode cX11_lay 25 = .ok (.getfield 10, 3) := by decide +kernel
theorem dX11_lay_28 : decode cX11_lay 28 = .ok (.iload_n 1, 1) := by decide +kernel
theorem dX11_lay_29 : decode cX11_lay 29 = .ok (.invokevirtual 84, 3) := by decide +kernel
theorem dX11_lay_32 : decode cX11_lay 32 = .ok (.ifCond .eq 9, 3) := by decide +kernel
theorem dX11_lay_35 : decode cX11_lay 35 = .ok (.aload_n 0, 1) := by decide +kernel
theorem dX11_lay_36 : decode cX11_lay 36 = .ok (.iconst 1, 1) := by decide +kernel
theorem dX11_lay_37 : decode cX11_lay 37 = .ok (.invokevirtual 73, 3) := by decide +kernel
theorem dX11_lay_40 : decode cX11_lay 40 = .ok (.ireturn, 1) := by decide +kernel
theorem dX11_lay_41 : decode cX11_lay 41 = .ok (.aload_n 0, 1) := by decide +kernel
theorem dX11_lay_42 : decode cX11_lay 42 = .ok (.getfield 48, 3) := by decide +kernel
theorem dX11_lay_45 : decode cX11_lay 45 = .ok (.getfield 168, 3) := by decide +kernel
theorem dX11_lay_48 : decode cX11_lay 48 = .ok (.getfield 172, 3) := by decide +kernel
theorem dX11_lay_51 : decode cX11_lay 51 = .ok (.istore_n 3, 1) := by decide +kernel
theorem dX11_lay_52 : decode cX11_lay 52 = .ok (.aload_n 0, 1) := by decide +kernel
theorem dX11_lay_53 : decode cX11_lay 53 = .ok (.getfield 10, 3) := by decide +kernel
theorem dX11_lay_56 : decode cX11_lay 56 = .ok (.iload_n 1, 1) := by decide +kernel
theorem dX11_lay_57 : decode cX11_lay 57 = .ok (.iload_n 2, 1) := by decide +kernel
theorem dX11_lay_58 : decode cX11_lay 58 = .ok (.iload_n 3, 1) := by decide +kernel
theorem dX11_lay_59 : decode cX11_lay 59 = .ok (.invokevirtual 87, 3) := by decide +kernel
theorem dX11_lay_62 : decode cX11_lay 62 = .ok (.ifCond .ne 9, 3) := by decide +kernel
theorem dX11_lay_65 : decode cX11_lay 65 = .ok (.aload_n 0, 1) := by decide +kernel
theorem dX11_lay_66 : decode cX11_lay 66 = .ok (.iconst 2, 1) := by decide +kernel
theorem dX11_lay_67 : decode cX11_lay 67 = .ok (.invokevirtual 73, 3) := by decide +kernel
theorem dX11_lay_70 : decode cX11_lay 70 = .ok (.ireturn, 1) := by decide +kernel
theorem dX11_lay_71 : decode cX11_lay 71 = .ok (.aload_n 0, 1) := by decide +kernel
theorem dX11_lay_72 : decode cX11_lay 72 = .ok (.getfield 10, 3) := by decide +kernel
theorem dX11_lay_75 : decode cX11_lay 75 = .ok (.iload_n 1, 1) := by decide +kernel
theorem dX11_lay_76 : decode cX11_lay 76 = .ok (.iload_n 2, 1) := by decide +kernel
theorem dX11_lay_77 : decode cX11_lay 77 = .ok (.iload_n 3, 1) := by decide +kernel
theorem dX11_lay_78 : decode cX11_lay 78 = .ok (.iconst (-1), 1) := by decide +kernel
theorem dX11_lay_79 : decode cX11_lay 79 = .ok (.aload_n 0, 1) := by decide +kernel
theorem dX11_lay_80 : decode cX11_lay 80 = .ok (.getfield 48, 3) := by decide +kernel
theorem dX11_lay_83 : decode cX11_lay 83 = .ok (.getfield 168, 3) := by decide +kernel
theorem dX11_lay_86 : decode cX11_lay 86 = .ok (.getfield 131, 3) := by decide +kernel
theorem dX11_lay_89 : decode cX11_lay 89 = .ok (.iconst 1, 1) := by decide +kernel
theorem dX11_lay_90 : decode cX11_lay 90 = .ok (.isub, 1) := by decide +kernel
theorem dX11_lay_91 : decode cX11_lay 91 = .ok (.invokevirtual 175, 3) := by decide +kernel
theorem dX11_lay_94 : decode cX11_lay 94 = .ok (.ifCond .ne 6, 3) := by decide +kernel
theorem dX11_lay_97 : decode cX11_lay 97 = .ok (.ldc 72, 2) := by decide +kernel
theorem dX11_lay_99 : decode cX11_lay 99 = .ok (.ireturn, 1) := by decide +kernel
theorem dX11_lay_100 : decode cX11_lay 100 = .ok (.aload_n 0, 1) := by decide +kernel
theorem dX11_lay_101 : decode cX11_lay 101 = .ok (.iload_n 1, 1) := by decide +kernel
theorem dX11_lay_102 : decode cX11_lay 102 = .ok (.iload_n 2, 1) := by decide +kernel
theorem dX11_lay_103 : decode cX11_lay 103 = .ok (.invokevirtual 179, 3) := by decide +kernel
theorem dX11_lay_106 : decode cX11_lay 106 = .ok (.istore 4, 2) := by decide +kernel
theorem dX11_lay_108 : decode cX11_lay 108 = .ok (.iload 4, 2) := by decide +kernel
theorem dX11_lay_110 : decode cX11_lay 110 = .ok (.ifCond .eq 6, 3) := by decide +kernel
theorem dX11_lay_113 : decode cX11_lay 113 = .ok (.iload 4, 2) := by decide +kernel
theorem dX11_lay_115 : decode cX11_lay 115 = .ok (.ireturn, 1) := by decide +kernel
theorem dX11_lay_116 : decode cX11_lay 116 = .ok (.aload_n 0, 1) := by decide +kernel
theorem dX11_lay_117 : decode cX11_lay 117 = .ok (.getfield 48, 3) := by decide +kernel
theorem dX11_lay_120 : decode cX11_lay 120 = .ok (.aload_n 0, 1) := by decide +kernel
theorem dX11_lay_121 : decode cX11_lay 121 = .ok (.getfield 58, 3) := by decide +kernel
theorem dX11_lay_124 : decode cX11_lay 124 = .ok (.invokevirtual 182, 3) := by decide +kernel
theorem dX11_lay_127 : decode cX11_lay 127 = .ok (.aload_n 0, 1) := by decide +kernel
theorem dX11_lay_128 : decode cX11_lay 128 = .ok (.aload_n 0, 1) := by decide +kernel
theorem dX11_lay_129 : decode cX11_lay 129 = .ok (.getfield 48, 3) := by decide +kernel
theorem dX11_lay_132 : decode cX11_lay 132 = .ok (.invokevirtual 186, 3) := by decide +kernel
theorem dX11_lay_135 : decode cX11_lay 135 = .ok (.invokestatic 190, 3) := by decide +kernel
theorem dX11_lay_138 : decode cX11_lay 138 = .ok (.invokevirtual 81, 3) := by decide +kernel
theorem dX11_lay_141 : decode cX11_lay 141 = .ok (.ireturn, 1) := by decide +kernel
theorem dX11_piece_0 : decode cX11_piece 0 = .ok (.aload_n 0, 1) := by decide +kernel
theorem dX11_piece_1 : decode cX11_piece 1 = .ok (.iload_n 1, 1) := by decide +kernel
theorem dX11_piece_2 : decode cX11_piece 2 = .ok (.invokevirtual 134, 3) := by decide +kernel
theorem dX11_piece_5 : decode cX11_piece 5 = .ok (.ifCond .ne 6, 3) := by decide +kernel
theorem dX11_piece_8 : decode cX11_piece 8 = .ok (.ldc 72, 2) := by decide +kernel
theorem dX11_piece_10 : decode cX11_piece 10 = .ok (.ireturn, 1) := by decide +kernel
theorem dX11_piece_11 : decode cX11_piece 11 = .ok (.iload_n 2, 1) := by decide +kernel
theorem dX11_piece_12 : decode cX11_piece 12 = .ok (.tableswitch 116 0 4 #[36, 46, 72, 90, 103], 36) := by decide +kernel
theorem dX11_piece_48 : decode cX11_piece 48 = .ok (.aload_n 0, 1) := by decide +kernel
theorem dX11_piece_49 : decode cX11_piece 49 = .ok (.getfield 48, 3) := by decide +kernel
theorem dX11_piece_52 : decode cX11_piece 52 = .ok (.getfield 195, 3) := by decide +kernel
theorem dX11_piece_55 : decode cX11_piece 55 = .ok (.iload_n 1, 1) := by decide +kernel
theorem dX11_piece_56 : decode cX11_piece 56 = .ok (.iaload, 1) := by decide +kernel
theorem dX11_piece_57 : decode cX11_piece 57 = .ok (.ireturn, 1) := by decide +kernel
theorem dX11_piece_58 : decode cX11_piece 58 = .ok (.aload_n 0, 1) := by decide +kernel
theorem dX11_piece_59 : decode cX11_piece 59 = .ok (.getfield 48, 3) := by decide +kernel
theorem dX11_piece_62 : decode cX11_piece 62 = .ok (.iload_n 1, 1) := by decide +kernel
theorem dX11_piece_63 : decode cX11_piece 63 = .ok (.invokevirtual 151, 3) := by decide +kernel
theorem dX11_piece_66 : decode cX11_piece 66 = .ok (.ifCond .eq 15, 3) := by decide +kernel
theorem dX11_piece_69 : decode cX11_piece 69 = .ok (.aload_n 0, 1) := by decide +kernel
theorem dX11_piece_70 : decode cX11_piece 70 = .ok (.getfield 48, 3) := by decide +kernel
theorem dX11_piece_73 : decode cX11_piece 73 = .ok (.getfield 198, 3) := by decide +kernel
theorem dX11_piece_76 : decode cX11_piece 76 = .ok (.iload_n 1, 1) := by decide +kernel
theorem dX11_piece_77 : decode cX11_piece 77 = .ok (.iaload, 1) := by decide +kernel
theorem dX11_piece_78 : decode cX11_piece 78 = .ok (.goto 5, 3) := by decide +kernel
theorem dX11_piece_81 : decode cX11_piece 81 = .ok (.ldc 201, 2) := by decide +kernel
theorem dX11_piece_83 : decode cX11_piece 83 = .ok (.ireturn, 1) := by decide +kernel
theorem dX11_piece_84 : decode cX11_piece 84 = .ok (.aload_n 0, 1) := by decide +kernel
theorem dX11_piece_85 : decode cX11_piece 85 = .ok (.getfield 48, 3) := by decide +kernel
theorem dX11_piece_88 : decode cX11_piece 88 = .ok (.getfield 202, 3) := by decide +kernel
theorem dX11_piece_91 : decode cX11_piece 91 = .ok (.iload_n 1, 1) := by decide +kernel
theorem dX11_piece_92 : decode cX11_piece 92 = .ok (.baload, 1) := by decide +kernel
theorem dX11_piece_93 : decode cX11_piece 93 = .ok (.ifCond .eq 7, 3) := by decide +kernel
theorem dX11_piece_96 : decode cX11_piece 96 = .ok (.iconst 1, 1) := by decide +kernel
theorem dX11_piece_97 : decode cX11_piece 97 = .ok (.goto 4, 3) := by decide +kernel
theorem dX11_piece_100 : decode cX11_piece 100 = .ok (.iconst 0, 1) := by decide +kernel
theorem dX11_piece_101 : decode cX11_piece 101 = .ok (.ireturn, 1) := by decide +kernel
theorem dX11_piece_102 : decode cX11_piece 102 = .ok (.aload_n 0, 1) := by decide +kernel
theorem dX11_piece_103 : decode cX11_piece 103 = .ok (.getfield 48, 3) := by decide +kernel
theorem dX11_piece_106 : decode cX11_piece 106 = .ok (.getfield 168, 3) := by decide +kernel
theorem dX11_piece_109 : decode cX11_piece 109 = .ok (.getfield 206, 3) := by decide +kernel
theorem dX11_piece_112 : decode cX11_piece 112 = .ok (.iload_n 1, 1) := by decide +kernel
theorem dX11_piece_113 : decode cX11_piece 113 = .ok (.iaload, 1) := by decide +kernel
theorem dX11_piece_114 : decode cX11_piece 114 = .ok (.ireturn, 1) := by decide +kernel
theorem dX11_piece_115 : decode cX11_piece 115 = .ok (.aload_n 0, 1) := by decide +kernel
theorem dX11_piece_116 : decode cX11_piece 116 = .ok (.getfield 48, 3) := by decide +kernel
theorem dX11_piece_119 : decode cX11_piece 119 = .ok (.getfield 168, 3) := by decide +kernel
theorem dX11_piece_122 : decode cX11_piece 122 = .ok (.getfield 209, 3) := by decide +kernel
theorem dX11_piece_125 : decode cX11_piece 125 = .ok (.iload_n 1, 1) := by decide +kernel
theorem dX11_piece_126 : decode cX11_piece 126 = .ok (.iaload, 1) := by decide +kernel
theorem dX11_piece_127 : decode cX11_piece 127 = .ok (.ireturn, 1) := by decide +kernel
theorem dX11_piece_128 : decode cX11_piece 128 = .ok (.ldc 72, 2) := by decide +kernel
theorem dX11_piece_130 : decode cX11_piece 130 = .ok (.ireturn, 1) := by decide +kernel
theorem dX11_line_0 : decode cX11_line 0 = .ok (.aload_n 0, 1) := by decide +kernel
theorem dX11_line_1 : decode cX11_line 1 = .ok (.iload_n 1, 1) := by decide +kernel
theorem dX11_line_2 : decode cX11_line 2 = .ok (.invokevirtual 137, 3) := by decide +kernel
theorem dX11_line_5 : decode cX11_line 5 = .ok (.ifCond .ne 6, 3) := by decide +kernel
theorem dX11_line_8 : decode cX11_line 8 = .ok (.ldc 72, 2) := by decide +kernel
theorem dX11_line_10 : decode cX11_line 10 = .ok (.ireturn, 1) := by decide +kernel
theorem dX11_line_11 : decode cX11_line 11 = .ok (.iload_n 2, 1) := by decide +kernel
theorem dX11_line_12 : decode cX11_line 12 = .ok (.tableswitch 140 0 5 #[40, 53, 66, 79, 88, 107], 40) := by decide +kernel
theorem dX11_line_52 : decode cX11_line 52 = .ok (.aload_n 0, 1) := by decide +kernel
theorem dX11_line_53 : decode cX11_line 53 = .ok (.getfield 48, 3) := by decide +kernel
theorem dX11_line_56 : decode cX11_line 56 = .ok (.getfield 168, 3) := by decide +kernel
theorem dX11_line_59 : decode cX11_line 59 = .ok (.getfield 212, 3) := by decide +kernel
theorem dX11_line_62 : decode cX11_line 62 = .ok (.iload_n 1, 1) := by decide +kernel
theorem dX11_line_63 : decode cX11_line 63 = .ok (.iaload, 1) := by decide +kernel
theorem dX11_line_64 : decode cX11_line 64 = .ok (.ireturn, 1) := by decide +kernel
theorem dX11_line_65 : decode cX11_line 65 = .ok (.aload_n 0, 1) := by decide +kernel
theorem dX11_line_66 : decode cX11_line 66 = .ok (.getfield 48, 3) := by decide +kernel
theorem dX11_line_69 : decode cX11_line 69 = .ok (.getfield 168, 3) := by decide +kernel
theorem dX11_line_72 : decode cX11_line 72 = .ok (.getfield 215, 3) := by decide +kernel
theorem dX11_line_75 : decode cX11_line 75 = .ok (.iload_n 1, 1) := by decide +kernel
theorem dX11_line_76 : decode cX11_line 76 = .ok (.iaload, 1) := by decide +kernel
theorem dX11_line_77 : decode cX11_line 77 = .ok (.ireturn, 1) := by decide +kernel
theorem dX11_line_78 : decode cX11_line 78 = .ok (.aload_n 0, 1) := by decide +kernel
theorem dX11_line_79 : decode cX11_line 79 = .ok (.getfield 48, 3) := by decide +kernel
theorem dX11_line_82 : decode cX11_line 82 = .ok (.getfield 168, 3) := by decide +kernel
theorem dX11_line_85 : decode cX11_line 85 = .ok (.getfield 218, 3) := by decide +kernel
theorem dX11_line_88 : decode cX11_line 88 = .ok (.iload_n 1, 1) := by decide +kernel
theorem dX11_line_89 : decode cX11_line 89 = .ok (.iaload, 1) := by decide +kernel
theorem dX11_line_90 : decode cX11_line 90 = .ok (.ireturn, 1) := by decide +kernel
theorem dX11_line_91 : decode cX11_line 91 = .ok (.aload_n 0, 1) := by decide +kernel
theorem dX11_line_92 : decode cX11_line 92 = .ok (.getfield 48, 3) := by decide +kernel
theorem dX11_line_95 : decode cX11_line 95 = .ok (.iload_n 1, 1) := by decide +kernel
theorem dX11_line_96 : decode cX11_line 96 = .ok (.invokevirtual 221, 3) := by decide +kernel
theorem dX11_line_99 : decode cX11_line 99 = .ok (.ireturn, 1) := by decide +kernel
theorem dX11_line_100 : decode cX11_line 100 = .ok (.aload_n 0, 1) := by decide +kernel
theorem dX11_line_101 : decode cX11_line 101 = .ok (.getfield 48, 3) := by decide +kernel
theorem dX11_line_104 : decode cX11_line 104 = .ok (.getfield 168, 3) := by decide +kernel
theorem dX11_line_107 : decode cX11_line 107 = .ok (.iload_n 1, 1) := by decide +kernel
theorem dX11_line_108 : decode cX11_line 108 = .ok (.aload_n 0, 1) := by decide +kernel
theorem dX11_line_109 : decode cX11_line 109 = .ok (.getfield 48, 3) := by decide +kernel
theorem dX11_line_112 : decode cX11_line 112 = .ok (.invokevirtual 224, 3) := by decide +kernel
theorem dX11_line_115 : decode cX11_line 115 = .ok (.invokevirtual 227, 3) := by decide +kernel
theorem dX11_line_118 : decode cX11_line 118 = .ok (.ireturn, 1) := by decide +kernel
theorem dX11_line_119 : decode cX11_line 119 = .ok (.aload_n 0, 1) := by decide +kernel
theorem dX11_line_120 : decode cX11_line 120 = .ok (.getfield 48, 3) := by decide +kernel
theorem dX11_line_123 : decode cX11_line 123 = .ok (.getfield 168, 3) := by decide +kernel
theorem dX11_line_126 : decode cX11_line 126 = .ok (.getfield 230, 3) := by decide +kernel
theorem dX11_line_129 : decode cX11_line 129 = .ok (.iload_n 1, 1) := by decide +kernel
theorem dX11_line_130 : decode cX11_line 130 = .ok (.iaload, 1) := by decide +kernel
theorem dX11_line_131 : decode cX11_line 131 = .ok (.ifCond .ge 8, 3) := by decide +kernel
theorem dX11_line_134 : decode cX11_line 134 = .ok (.ldc 201, 2) := by decide +kernel
theorem dX11_line_136 : decode cX11_line 136 = .ok (.goto 15, 3) := by decide +kernel
theorem dX11_line_139 : decode cX11_line 139 = .ok (.aload_n 0, 1) := by decide +kernel
theorem dX11_line_140 : decode cX11_line 140 = .ok (.getfield 48, 3) := by decide +kernel
theorem dX11_line_143 : decode cX11_line 143 = .ok (.getfield 168, 3) := by decide +kernel
theorem dX11_line_146 : decode cX11_line 146 = .ok (.getfield 230, 3) := by decide +kernel
theorem dX11_line_149 : decode cX11_line 149 = .ok (.iload_n 1, 1) := by decide +kernel
theorem dX11_line_150 : decode cX11_line 150 = .ok (.iaload, 1) := by decide +kernel
theorem dX11_line_151 : decode cX11_line 151 = .ok (.ireturn, 1) := by decide +kernel
theorem dX11_line_152 : decode cX11_line 152 = .ok (.ldc 72, 2) := by decide +kernel
theorem dX11_line_154 : decode cX11_line 154 = .ok (.ireturn, 1) := by decide +kernel
theorem dX11_dry_0 : decode cX11_dry 0 = .ok (.aload_n 0, 1) := by decide +kernel
theorem dX11_dry_1 : decode cX11_dry 1 = .ok (.invokevirtual 158, 3) := by decide +kernel
theorem dX11_dry_4 : decode cX11_dry 4 = .ok (.ifCond .eq 6, 3) := by decide +kernel
theorem dX11_dry_7 : decode cX11_dry 7 = .ok (.ldc 154, 2) := by decide +kernel
theorem dX11_dry_9 : decode cX11_dry 9 = .ok (.ireturn, 1) := by decide +kernel
theorem dX11_dry_10 : decode cX11_dry 10 = .ok (.aload_n 0, 1) := by decide +kernel
theorem dX11_dry_11 : decode cX11_dry 11 = .ok (.getfield 61, 3) := by decide +kernel
theorem dX11_dry_14 : decode cX11_dry 14 = .ok (.aload_n 0, 1) := by decide +kernel
theorem dX11_dry_15 : decode cX11_dry 15 = .ok (.getfield 48, 3) := by decide +kernel
theorem dX11_dry_18 : decode cX11_dry 18 = .ok (.invokevirtual 182, 3) := by decide +kernel
theorem dX11_dry_21 : decode cX11_dry 21 = .ok (.iconst 0, 1) := by decide +kernel
theorem dX11_dry_22 : decode cX11_dry 22 = .ok (.istore_n 1, 1) := by decide +kernel
theorem dX11_dry_23 : decode cX11_dry 23 = .ok (.iload_n 1, 1) := by decide +kernel
theorem dX11_dry_24 : decode cX11_dry 24 = .ok (.bipush 96, 2) := by decide +kernel
theorem dX11_dry_26 : decode cX11_dry 26 = .ok (.if_icmp .gt 28, 3) := by decide +kernel
theorem dX11_dry_29 : decode cX11_dry 29 = .ok (.aload_n 0, 1) := by decide +kernel
theorem dX11_dry_30 : decode cX11_dry 30 = .ok (.getfield 61, 3) := by decide +kernel
theorem dX11_dry_33 : decode cX11_dry 33 = .ok (.invokevirtual 233, 3) := by decide +kernel
theorem dX11_dry_36 : decode cX11_dry 36 = .ok (.ifCond .eq 5, 3) := by decide +kernel
theorem dX11_dry_39 : decode cX11_dry 39 = .ok (.iload_n 1, 1) := by decide +kernel
theorem dX11_dry_40 : decode cX11_dry 40 = .ok (.ireturn, 1) := by decide +kernel
theorem dX11_dry_41 : decode cX11_dry 41 = .ok (.aload_n 0, 1) := by decide +kernel
theorem dX11_dry_42 : decode cX11_dry 42 = .ok (.getfield 61, 3) := by decide +kernel
theorem dX11_dry_45 : decode cX11_dry 45 = .ok (.invokevirtual 162, 3) := by decide +kernel
theorem dX11_dry_48 : decode cX11_dry 48 = .ok (.iinc 1 1, 3) := by decide +kernel
theorem dX11_dry_51 : decode cX11_dry 51 = .ok (.goto (-28), 3) := by decide +kernel
theorem dX11_dry_54 : decode cX11_dry 54 = .ok (.ldc 201, 2) := by decide +kernel
theorem dX11_dry_56 : decode cX11_dry 56 = .ok (.ireturn, 1) := by decide +kernel
theorem dX11_plan_0 : decode cX11_plan 0 = .ok (.aload_n 0, 1) := by decide +kernel
theorem dX11_plan_1 : decode cX11_plan 1 = .ok (.invokevirtual 158, 3) := by decide +kernel
theorem dX11_plan_4 : decode cX11_plan 4 = .ok (.ifCond .eq 6, 3) := by decide +kernel
theorem dX11_plan_7 : decode cX11_plan 7 = .ok (.ldc 154, 2) := by decide +kernel
theorem dX11_plan_9 : decode cX11_plan 9 = .ok (.ireturn, 1) := by decide +kernel
theorem dX11_plan_10 : decode cX11_plan 10 = .ok (.iload_n 1, 1) := by decide +kernel
theorem dX11_plan_11 : decode cX11_plan 11 = .ok (.iconst 1, 1) := by decide +kernel
theorem dX11_plan_12 : decode cX11_plan 12 = .ok (.iconst 4, 1) := by decide +kernel
theorem dX11_plan_13 : decode cX11_plan 13 = .ok (.invokestatic 68, 3) := by decide +kernel
theorem dX11_plan_16 : decode cX11_plan 16 = .ok (.ifCond .eq 28, 3) := by decide +kernel
theorem dX11_plan_19 : decode cX11_plan 19 = .ok (.iload_n 1, 1) := by decide +kernel
theorem dX11_plan_20 : decode cX11_plan 20 = .ok (.aload_n 0, 1) := by decide +kernel
theorem dX11_plan_21 : decode cX11_plan 21 = .ok (.getfield 48, 3) := by decide +kernel
theorem dX11_plan_24 : decode cX11_plan 24 = .ok (.getfield 168, 3) := by decide +kernel
theorem dX11_plan_27 : decode cX11_plan 27 = .ok (.getfield 172, 3) := by decide +kernel
theorem dX11_plan_30 : decode cX11_plan 30 = .ok (.if_icmp .gt 14, 3) := by decide +kernel
theorem dX11_plan_33 : decode cX11_plan 33 = .ok (.iload_n 2, 1) := by decide +kernel
theorem dX11_plan_34 : decode cX11_plan 34 = .ok (.iconst (-1), 1) := by decide +kernel
theorem dX11_plan_35 : decode cX11_plan 35 = .ok (.iload_n 1, 1) := by decide +kernel
theorem dX11_plan_36 : decode cX11_plan 36 = .ok (.iconst 1, 1) := by decide +kernel
theorem dX11_plan_37 : decode cX11_plan 37 = .ok (.isub, 1) := by decide +kernel
theorem dX11_plan_38 : decode cX11_plan 38 = .ok (.invokestatic 68, 3) := by decide +kernel
theorem dX11_plan_41 : decode cX11_plan 41 = .ok (.ifCond .ne 6, 3) := by decide +kernel
theorem dX11_plan_44 : decode cX11_plan 44 = .ok (.ldc 72, 2) := by decide +kernel
theorem dX11_plan_46 : decode cX11_plan 46 = .ok (.ireturn, 1) := by decide +kernel
theorem dX11_plan_47 : decode cX11_plan 47 = .ok (.aload_n 0, 1) := by decide +kernel
theorem dX11_plan_48 : decode cX11_plan 48 = .ok (.iload_n 1, 1) := by decide +kernel
theorem dX11_plan_49 : decode cX11_plan 49 = .ok (.invokevirtual 236, 3) := by decide +kernel
theorem dX11_plan_52 : decode cX11_plan 52 = .ok (.aload_n 0, 1) := by decide +kernel
theorem dX11_plan_53 : decode cX11_plan 53 = .ok (.getfield 240, 3) := by decide +kernel
theorem dX11_plan_56 : decode cX11_plan 56 = .ok (.bipush 49, 2) := by decide +kernel
theorem dX11_plan_58 : decode cX11_plan 58 = .ok (.if_icmp .ne 6, 3) := by decide +kernel
theorem dX11_plan_61 : decode cX11_plan 61 = .ok (.ldc 201, 2) := by decide +kernel
theorem dX11_plan_63 : decode cX11_plan 63 = .ok (.ireturn, 1) := by decide +kernel
theorem dX11_plan_64 : decode cX11_plan 64 = .ok (.iload_n 2, 1) := by decide +kernel
theorem dX11_plan_65 : decode cX11_plan 65 = .ok (.ifCond .ge 10, 3) := by decide +kernel
theorem dX11_plan_68 : decode cX11_plan 68 = .ok (.aload_n 0, 1) := by decide +kernel
theorem dX11_plan_69 : decode cX11_plan 69 = .ok (.getfield 240, 3) := by decide +kernel
theorem dX11_plan_72 : decode cX11_plan 72 = .ok (.goto 9, 3) := by decide +kernel
theorem dX11_plan_75 : decode cX11_plan 75 = .ok (.aload_n 0, 1) := by decide +kernel
theorem dX11_plan_76 : decode cX11_plan 76 = .ok (.getfield 34, 3) := by decide +kernel
theorem dX11_plan_79 : decode cX11_plan 79 = .ok (.iload_n 2, 1) := by decide +kernel
theorem dX11_plan_80 : decode cX11_plan 80 = .ok (.iaload, 1) := by decide +kernel
theorem dX11_plan_81 : decode cX11_plan 81 = .ok (.ireturn, 1) := by decide +kernel
theorem dX11_whose_0 : decode cX11_whose 0 = .ok (.aload_n 0, 1) := by decide +kernel
theorem dX11_whose_1 : decode cX11_whose 1 = .ok (.invokevirtual 158, 3) := by decide +kernel
theorem dX11_whose_4 : decode cX11_whose 4 = .ok (.ifCond .eq 6, 3) := by decide +kernel
theorem dX11_whose_7 : decode cX11_whose 7 = .ok (.ldc 154, 2) := by decide +kernel
theorem dX11_whose_9 : decode cX11_whose 9 = .ok (.ireturn, 1) := by decide +kernel
theorem dX11_whose_10 : decode cX11_whose 10 = .ok (.iload_n 1, 1) := by decide +kernel
theorem dX11_whose_11 : decode cX11_whose 11 = .ok (.iconst 0, 1) := by decide +kernel
theorem dX11_whose_12 : decode cX11_whose 12 = .ok (.bipush 9, 2) := by decide +kernel
theorem dX11_whose_14 : decode cX11_whose 14 = .ok (.invokestatic 68, 3) := by decide +kernel
theorem dX11_whose_17 : decode cX11_whose 17 = .ok (.ifCond .eq 12, 3) := by decide +kernel
theorem dX11_whose_20 : decode cX11_whose 20 = .ok (.iload_n 2, 1) := by decide +kernel
theorem dX11_whose_21 : decode cX11_whose 21 = .ok (.iconst 0, 1) := by decide +kernel
theorem dX11_whose_22 : decode cX11_whose 22 = .ok (.iconst 3, 1) := by decide +kernel
theorem dX11_whose_23 : decode cX11_whose 23 = .ok (.invokestatic 68, 3) := by decide +kernel
theorem dX11_whose_26 : decode cX11_whose 26 = .ok (.ifCond .ne 6, 3) := by decide +kernel
theorem dX11_whose_29 : decode cX11_whose 29 = .ok (.ldc 72, 2) := by decide +kernel
theorem dX11_whose_31 : decode cX11_whose 31 = .ok (.ireturn, 1) := by decide +kernel
theorem dX11_whose_32 : decode cX11_whose 32 = .ok (.iconst 0, 1) := by decide +kernel
theorem dX11_whose_33 : decode cX11_whose 33 = .ok (.istore_n 3, 1) := by decide +kernel
theorem dX11_whose_34 : decode cX11_whose 34 = .ok (.iconst 0, 1) := by decide +kernel
theorem dX11_whose_35 : decode cX11_whose 35 = .ok (.istore 4, 2) := by decide +kernel
theorem dX11_whose_37 : decode cX11_whose 37 = .ok (.iload 4, 2) := by decide +kernel
theorem dX11_whose_39 : decode cX11_whose 39 = .ok (.aload_n 0, 1) := by decide +kernel
theorem dX11_whose_40 : decode cX11_whose 40 = .ok (.getfield 48, 3) := by decide +kernel
theorem dX11_whose_43 : decode cX11_whose 43 = .ok (.getfield 168, 3) := by decide +kernel
theorem dX11_whose_46 : decode cX11_whose 46 = .ok (.getfield 172, 3) := by decide +kernel
theorem dX11_whose_49 : decode cX11_whose 49 = .ok (.if_icmp .ge 44, 3) := by decide +kernel
theorem dX11_whose_52 : decode cX11_whose 52 = .ok (.aload_n 0, 1) := by decide +kernel
theorem dX11_whose_53 : decode cX11_whose 53 = .ok (.getfield 48, 3) := by decide +kernel
theorem dX11_whose_56 : decode cX11_whose 56 = .ok (.getfield 168, 3) := by decide +kernel
theorem dX11_whose_59 : decode cX11_whose 59 = .ok (.getfield 209, 3) := by decide +kernel
theorem dX11_whose_62 : decode cX11_whose 62 = .ok (.iload 4, 2) := by decide +kernel
theorem dX11_whose_64 : decode cX11_whose 64 = .ok (.iaload, 1) := by decide +kernel
theorem dX11_whose_65 : decode cX11_whose 65 = .ok (.iconst 3, 1) := by decide +kernel
theorem dX11_whose_66 : decode cX11_whose 66 = .ok (.if_icmp .gt 21, 3) := by decide +kernel
theorem dX11_whose_69 : decode cX11_whose 69 = .ok (.aload_n 0, 1) := by decide +kernel
theorem dX11_whose_70 : decode cX11_whose 70 = .ok (.iload 4, 2) := by decide +kernel
theorem dX11_whose_72 : decode cX11_whose 72 = .ok (.iload_n 1, 1) := by decide +kernel
theorem dX11_whose_73 : decode cX11_whose 73 = .ok (.iload_n 2, 1) := by decide +kernel
theorem dX11_whose_74 : decode cX11_whose 74 = .ok (.invokevirtual 243, 3) := by decide +kernel
theorem dX11_whose_77 : decode cX11_whose 77 = .ok (.ifCond .eq 10, 3) := by decide +kernel
theorem dX11_whose_80 : decode cX11_whose 80 = .ok (.iload_n 3, 1) := by decide +kernel
theorem dX11_whose_81 : decode cX11_whose 81 = .ok (.iconst 1, 1) := by decide +kernel
theorem dX11_whose_82 : decode cX11_whose 82 = .ok (.iload 4, 2) := by decide +kernel
theorem dX11_whose_84 : decode cX11_whose 84 = .ok (.ishl, 1) := by decide +kernel
theorem dX11_whose_85 : decode cX11_whose 85 = .ok (.ior, 1) := by decide +kernel
theorem dX11_whose_86 : decode cX11_whose 86 = .ok (.istore_n 3, 1) := by decide +kernel
theorem dX11_whose_87 : decode cX11_whose 87 = .ok (.iinc 4 1, 3) := by decide +kernel
theorem dX11_whose_90 : decode cX11_whose 90 = .ok (.goto (-53), 3) := by decide +kernel
theorem dX11_whose_93 : decode cX11_whose 93 = .ok (.iload_n 3, 1) := by decide +kernel
theorem dX11_whose_94 : decode cX11_whose 94 = .ok (.ireturn, 1) := by decide +kernel
theorem dX11_sun_0 : decode cX11_sun 0 = .ok (.aload_n 0, 1) := by decide +kernel
theorem dX11_sun_1 : decode cX11_sun 1 = .ok (.iload_n 1, 1) := by decide +kernel
theorem dX11_sun_2 : decode cX11_sun 2 = .ok (.invokevirtual 137, 3) := by decide +kernel
theorem dX11_sun_5 : decode cX11_sun 5 = .ok (.ifCond .eq 13, 3) := by decide +kernel
theorem dX11_sun_8 : decode cX11_sun 8 = .ok (.iload_n 2, 1) := by decide +kernel
theorem dX11_sun_9 : decode cX11_sun 9 = .ok (.iconst 0, 1) := by decide +kernel
theorem dX11_sun_10 : decode cX11_sun 10 = .ok (.bipush 9, 2) := by decide +kernel
theorem dX11_sun_12 : decode cX11_sun 12 = .ok (.invokestatic 68, 3) := by decide +kernel
theorem dX11_sun_15 : decode cX11_sun 15 = .ok (.ifCond .ne 6, 3) := by decide +kernel
theorem dX11_sun_18 : decode cX11_sun 18 = .ok (.ldc 72, 2) := by decide +kernel
theorem dX11_sun_20 : decode cX11_sun 20 = .ok (.ireturn, 1) := by decide +kernel
theorem dX11_sun_21 : decode cX11_sun 21 = .ok (.aload_n 0, 1) := by decide +kernel
theorem dX11_sun_22 : decode cX11_sun 22 = .ok (.getfield 48, 3) := by decide +kernel
theorem dX11_sun_25 : decode cX11_sun 25 = .ok (.getfield 168, 3) := by decide +kernel
theorem dX11_sun_28 : decode cX11_sun 28 = .ok (.iload_n 1, 1) := by decide +kernel
theorem dX11_sun_29 : decode cX11_sun 29 = .ok (.iconst 0, 1) := by decide +kernel
theorem dX11_sun_30 : decode cX11_sun 30 = .ok (.bipush 23, 2) := by decide +kernel
theorem dX11_sun_32 : decode cX11_sun 32 = .ok (.iload_n 2, 1) := by decide +kernel
theorem dX11_sun_33 : decode cX11_sun 33 = .ok (.invokevirtual 246, 3) := by decide +kernel
theorem dX11_sun_36 : decode cX11_sun 36 = .ok (.ireturn, 1) := by decide +kernel
theorem dX11_rings_0 : decode cX11_rings 0 = .ok (.aload_n 0, 1) := by decide +kernel
theorem dX11_rings_1 : decode cX11_rings 1 = .ok (.invokevirtual 158, 3) := by decide +kernel
theorem dX11_rings_4 : decode cX11_rings 4 = .ok (.ifCond .eq 6, 3) := by decide +kernel
theorem dX11_rings_7 : decode cX11_rings 7 = .ok (.ldc 154, 2) := by decide +kernel
theorem dX11_rings_9 : decode cX11_rings 9 = .ok (.ireturn, 1) := by decide +kernel
theorem dX11_rings_10 : decode cX11_rings 10 = .ok (.aload_n 0, 1) := by decide +kernel
theorem dX11_rings_11 : decode cX11_rings 11 = .ok (.getfield 10, 3) := by decide +kernel
theorem dX11_rings_14 : decode cX11_rings 14 = .ok (.iload_n 1, 1) := by decide +kernel
theorem dX11_rings_15 : decode cX11_rings 15 = .ok (.invokevirtual 64, 3) := by decide +kernel
theorem dX11_rings_18 : decode cX11_rings 18 = .ok (.ifCond .eq 24, 3) := by decide +kernel
theorem dX11_rings_21 : decode cX11_rings 21 = .ok (.iload_n 2, 1) := by decide +kernel
theorem dX11_rings_22 : decode cX11_rings 22 = .ok (.iconst 2, 1) := by decide +kernel
theorem dX11_rings_23 : decode cX11_rings 23 = .ok (.bipush 6, 2) := by decide +kernel
theorem dX11_rings_25 : decode cX11_rings 25 = .ok (.invokestatic 68, 3) := by decide +kernel
theorem dX11_rings_28 : decode cX11_rings 28 = .ok (.ifCond .eq 14, 3) := by decide +kernel
theorem dX11_rings_31 : decode cX11_rings 31 = .ok (.iload_n 3, 1) := by decide +kernel
theorem dX11_rings_32 : decode cX11_rings 32 = .ok (.iconst 0, 1) := by decide +kernel
theorem dX11_rings_33 : decode cX11_rings 33 = .ok (.iload_n 2, 1) := by decide +kernel
theorem dX11_rings_34 : decode cX11_rings 34 = .ok (.iconst 1, 1) := by decide +kernel
theorem dX11_rings_35 : decode cX11_rings 35 = .ok (.isub, 1) := by decide +kernel
theorem dX11_rings_36 : decode cX11_rings 36 = .ok (.invokestatic 68, 3) := by decide +kernel
theorem dX11_rings_39 : decode cX11_rings 39 = .ok (.ifCond .ne 6, 3) := by decide +kernel
theorem dX11_rings_42 : decode cX11_rings 42 = .ok (.ldc 72, 2) := by decide +kernel
theorem dX11_rings_44 : decode cX11_rings 44 = .ok (.ireturn, 1) := by decide +kernel
theorem dX11_rings_45 : decode cX11_rings 45 = .ok (.aload_n 0, 1) := by decide +kernel
theorem dX11_rings_46 : decode cX11_rings 46 = .ok (.getfield 10, 3) := by decide +kernel
theorem dX11_rings_49 : decode cX11_rings 49 = .ok (.iload_n 1, 1) := by decide +kernel
theorem dX11_rings_50 : decode cX11_rings 50 = .ok (.invokevirtual 84, 3) := by decide +kernel
theorem dX11_rings_53 : decode cX11_rings 53 = .ok (.ifCond .eq 9, 3) := by decide +kernel
theorem dX11_rings_56 : decode cX11_rings 56 = .ok (.aload_n 0, 1) := by decide +kernel
theorem dX11_rings_57 : decode cX11_rings 57 = .ok (.iconst 1, 1) := by decide +kernel
theorem dX11_rings_58 : decode cX11_rings 58 = .ok (.invokevirtual 73, 3) := by decide +kernel
theorem dX11_rings_61 : decode cX11_rings 61 = .ok (.ireturn, 1) := by decide +kernel
theorem dX11_rings_62 : decode cX11_rings 62 = .ok (.aload_n 0, 1) := by decide +kernel
theorem dX11_rings_63 : decode cX11_rings 63 = .ok (.getfield 10, 3) := by decide +kernel
theorem dX11_rings_66 : decode cX11_rings 66 = .ok (.iload_n 1, 1) := by decide +kernel
theorem dX11_rings_67 : decode cX11_rings 67 = .ok (.iconst 0, 1) := by decide +kernel
theorem dX11_rings_68 : decode cX11_rings 68 = .ok (.iload_n 2, 1) := by decide +kernel
theorem dX11_rings_69 : decode cX11_rings 69 = .ok (.invokevirtual 87, 3) := by decide +kernel
theorem dX11_rings_72 : decode cX11_rings 72 = .ok (.ifCond .ne 9, 3) := by decide +kernel
theorem dX11_rings_75 : decode cX11_rings 75 = .ok (.aload_n 0, 1) := by decide +kernel
theorem dX11_rings_76 : decode cX11_rings 76 = .ok (.iconst 2, 1) := by decide +kernel
theorem dX11_rings_77 : decode cX11_rings 77 = .ok (.invokevirtual 73, 3) := by decide +kernel
theorem dX11_rings_80 : decode cX11_rings 80 = .ok (.ireturn, 1) := by decide +kernel
theorem dX11_rings_81 : decode cX11_rings 81 = .ok (.aload_n 0, 1) := by decide +kernel
theorem dX11_rings_82 : decode cX11_rings 82 = .ok (.getfield 10, 3) := by decide +kernel
theorem dX11_rings_85 : decode cX11_rings 85 = .ok (.iload_n 1, 1) := by decide +kernel
theorem dX11_rings_86 : decode cX11_rings 86 = .ok (.iconst 0, 1) := by decide +kernel
theorem dX11_rings_87 : decode cX11_rings 87 = .ok (.iload_n 2, 1) := by decide +kernel
theorem dX11_rings_88 : decode cX11_rings 88 = .ok (.iconst 0, 1) := by decide +kernel
theorem dX11_rings_89 : decode cX11_rings 89 = .ok (.aload_n 0, 1) := by decide +kernel
theorem dX11_rings_90 : decode cX11_rings 90 = .ok (.getfield 48, 3) := by decide +kernel
theorem dX11_rings_93 : decode cX11_rings 93 = .ok (.getfield 168, 3) := by decide +kernel
theorem dX11_rings_96 : decode cX11_rings 96 = .ok (.getfield 131, 3) := by decide +kernel
theorem dX11_rings_99 : decode cX11_rings 99 = .ok (.iconst 1, 1) := by decide +kernel
theorem dX11_rings_100 : decode cX11_rings 100 = .ok (.isub, 1) := by decide +kernel
theorem dX11_rings_101 : decode cX11_rings 101 = .ok (.invokevirtual 175, 3) := by decide +kernel
theorem dX11_rings_104 : decode cX11_rings 104 = .ok (.ifCond .eq 15, 3) := by decide +kernel
theorem dX11_rings_107 : decode cX11_rings 107 = .ok (.aload_n 0, 1) := by decide +kernel
theorem dX11_rings_108 : decode cX11_rings 108 = .ok (.getfield 10, 3) := by decide +kernel
theorem dX11_rings_111 : decode cX11_rings 111 = .ok (.iload_n 1, 1) := by decide +kernel
theorem dX11_rings_112 : decode cX11_rings 112 = .ok (.iload_n 2, 1) := by decide +kernel
theorem dX11_rings_113 : decode cX11_rings 113 = .ok (.invokevirtual 250, 3) := by decide +kernel
theorem dX11_rings_116 : decode cX11_rings 116 = .ok (.ifCond .ne 6, 3) := by decide +kernel
theorem dX11_rings_119 : decode cX11_rings 119 = .ok (.ldc 72, 2) := by decide +kernel
theorem dX11_rings_121 : decode cX11_rings 121 = .ok (.ireturn, 1) := by decide +kernel
theorem dX11_rings_122 : decode cX11_rings 122 = .ok (.aload_n 0, 1) := by decide +kernel
theorem dX11_rings_123 : decode cX11_rings 123 = .ok (.aload_n 0, 1) := by decide +kernel
theorem dX11_rings_124 : decode cX11_rings 124 = .ok (.getfield 10, 3) := by decide +kernel
theorem dX11_rings_127 : decode cX11_rings 127 = .ok (.iload_n 1, 1) := by decide +kernel
theorem dX11_rings_128 : decode cX11_rings 128 = .ok (.iload_n 2, 1) := by decide +kernel
theorem dX11_rings_129 : decode cX11_rings 129 = .ok (.invokevirtual 253, 3) := by decide +kernel
theorem dX11_rings_132 : decode cX11_rings 132 = .ok (.invokevirtual 257, 3) := by decide +kernel
theorem dX11_rings_135 : decode cX11_rings 135 = .ok (.astore 4, 2) := by decide +kernel
theorem dX11_rings_137 : decode cX11_rings 137 = .ok (.aload_n 0, 1) := by decide +kernel
theorem dX11_rings_138 : decode cX11_rings 138 = .ok (.aload 4, 2) := by decide +kernel
theorem dX11_rings_140 : decode cX11_rings 140 = .ok (.iload_n 3, 1) := by decide +kernel
theorem dX11_rings_141 : decode cX11_rings 141 = .ok (.iaload, 1) := by decide +kernel
theorem dX11_rings_142 : decode cX11_rings 142 = .ok (.invokevirtual 81, 3) := by decide +kernel
theorem dX11_rings_145 : decode cX11_rings 145 = .ok (.ireturn, 1) := by decide +kernel
theorem dX11_rain_0 : decode cX11_rain 0 = .ok (.aload_n 0, 1) := by decide +kernel
theorem dX11_rain_1 : decode cX11_rain 1 = .ok (.invokevirtual 158, 3) := by decide +kernel
theorem dX11_rain_4 : decode cX11_rain 4 = .ok (.ifCond .eq 6, 3) := by decide +kernel
theorem dX11_rain_7 : decode cX11_rain 7 = .ok (.ldc 154, 2) := by decide +kernel
theorem dX11_rain_9 : decode cX11_rain 9 = .ok (.ireturn, 1) := by decide +kernel
theorem dX11_rain_10 : decode cX11_rain 10 = .ok (.iload_n 1, 1) := by decide +kernel
theorem dX11_rain_11 : decode cX11_rain 11 = .ok (.iconst 0, 1) := by decide +kernel
theorem dX11_rain_12 : decode cX11_rain 12 = .ok (.bipush 100, 2) := by decide +kernel
theorem dX11_rain_14 : decode cX11_rain 14 = .ok (.invokestatic 68, 3) := by decide +kernel
theorem dX11_rain_17 : decode cX11_rain 17 = .ok (.ifCond .eq 12, 3) := by decide +kernel
theorem dX11_rain_20 : decode cX11_rain 20 = .ok (.iload_n 2, 1) := by decide +kernel
theorem dX11_rain_21 : decode cX11_rain 21 = .ok (.iconst 0, 1) := by decide +kernel
theorem dX11_rain_22 : decode cX11_rain 22 = .ok (.iconst 1, 1) := by decide +kernel
theorem dX11_rain_23 : decode cX11_rain 23 = .ok (.invokestatic 68, 3) := by decide +kernel
theorem dX11_rain_26 : decode cX11_rain 26 = .ok (.ifCond .ne 6, 3) := by decide +kernel
theorem dX11_rain_29 : decode cX11_rain 29 = .ok (.ldc 72, 2) := by decide +kernel
theorem dX11_rain_31 : decode cX11_rain 31 = .ok (.ireturn, 1) := by decide +kernel
theorem dX11_rain_32 : decode cX11_rain 32 = .ok (.iload_n 2, 1) := by decide +kernel
theorem dX11_rain_33 : decode cX11_rain 33 = .ok (.ifCond .ne 9, 3) := by decide +kernel
theorem dX11_rain_36 : decode cX11_rain 36 = .ok (.aload_n 0, 1) := by decide +kernel
theorem dX11_rain_37 : decode cX11_rain 37 = .ok (.iload_n 1, 1) := by decide +kernel
theorem dX11_rain_38 : decode cX11_rain 38 = .ok (.invokevirtual 261, 3) := by decide +kernel
theorem dX11_rain_41 : decode cX11_rain 41 = .ok (.ireturn, 1) := by decide +kernel
theorem dX11_rain_42 : decode cX11_rain 42 = .ok (.aload_n 0, 1) := by decide +kernel
theorem dX11_rain_43 : decode cX11_rain 43 = .ok (.aload_n 0, 1) := by decide +kernel
theorem dX11_rain_44 : decode cX11_rain 44 = .ok (.getfield 48, 3) := by decide +kernel
theorem dX11_rain_47 : decode cX11_rain 47 = .ok (.invokevirtual 186, 3) := by decide +kernel
theorem dX11_rain_50 : decode cX11_rain 50 = .ok (.invokevirtual 264, 3) := by decide +kernel
theorem dX11_rain_53 : decode cX11_rain 53 = .ok (.istore_n 3, 1) := by decide +kernel
theorem dX11_rain_54 : decode cX11_rain 54 = .ok (.iload_n 3, 1) := by decide +kernel
theorem dX11_rain_55 : decode cX11_rain 55 = .ok (.ifCond .ge 8, 3) := by decide +kernel
theorem dX11_rain_58 : decode cX11_rain 58 = .ok (.ldc 201, 2) := by decide +kernel
theorem dX11_rain_60 : decode cX11_rain 60 = .ok (.goto 4, 3) := by decide +kernel
theorem dX11_rain_63 : decode cX11_rain 63 = .ok (.iload_n 3, 1) := by decide +kernel
theorem dX11_rain_64 : decode cX11_rain 64 = .ok (.ireturn, 1) := by decide +kernel
theorem dX11_image_0 : decode cX11_image 0 = .ok (.iload_n 1, 1) := by decide +kernel
theorem dX11_image_1 : decode cX11_image 1 = .ok (.iconst 0, 1) := by decide +kernel
theorem dX11_image_2 : decode cX11_image 2 = .ok (.iconst 1, 1) := by decide +kernel
theorem dX11_image_3 : decode cX11_image 3 = .ok (.invokestatic 68, 3) := by decide +kernel
theorem dX11_image_6 : decode cX11_image 6 = .ok (.ifCond .ne 6, 3) := by decide +kernel
theorem dX11_image_9 : decode cX11_image 9 = .ok (.ldc 72, 2) := by decide +kernel
theorem dX11_image_11 : decode cX11_image 11 = .ok (.ireturn, 1) := by decide +kernel
theorem dX11_image_12 : decode cX11_image 12 = .ok (.aload_n 0, 1) := by decide +kernel
theorem dX11_image_13 : decode cX11_image 13 = .ok (.invokevirtual 158, 3) := by decide +kernel
theorem dX11_image_16 : decode cX11_image 16 = .ok (.ifCond .eq 6, 3) := by decide +kernel
theorem dX11_image_19 : decode cX11_image 19 = .ok (.ldc 154, 2) := by decide +kernel
theorem dX11_image_21 : decode cX11_image 21 = .ok (.ireturn, 1) := by decide +kernel
theorem dX11_image_22 : decode cX11_image 22 = .ok (.aload_n 0, 1) := by decide +kernel
theorem dX11_image_23 : decode cX11_image 23 = .ok (.iload_n 1, 1) := by decide +kernel
theorem dX11_image_24 : decode cX11_image 24 = .ok (.invokevirtual 267, 3) := by decide +kernel
theorem dX11_image_27 : decode cX11_image 27 = .ok (.aload_n 0, 1) := by decide +kernel
theorem dX11_image_28 : decode cX11_image 28 = .ok (.getfield 48, 3) := by decide +kernel
theorem dX11_image_31 : decode cX11_image 31 = .ok (.invokevirtual 182, 3) := by decide +kernel
theorem dX11_image_34 : decode cX11_image 34 = .ok (.iconst 1, 1) := by decide +kernel
theorem dX11_image_35 : decode cX11_image 35 = .ok (.ireturn, 1) := by decide +kernel
theorem dX11_restore_0 : decode cX11_restore 0 = .ok (.iload_n 1, 1) := by decide +kernel
theorem dX11_restore_1 : decode cX11_restore 1 = .ok (.iconst 0, 1) := by decide +kernel
theorem dX11_restore_2 : decode cX11_restore 2 = .ok (.iconst 1, 1) := by decide +kernel
theorem dX11_restore_3 : decode cX11_restore 3 = .ok (.invokestatic 68, 3) := by decide +kernel
theorem dX11_restore_6 : decode cX11_restore 6 = .ok (.ifCond .ne 6, 3) := by decide +kernel
theorem dX11_restore_9 : decode cX11_restore 9 = .ok (.ldc 72, 2) := by decide +kernel
theorem dX11_restore_11 : decode cX11_restore 11 = .ok (.ireturn, 1) := by decide +kernel
theorem dX11_restore_12 : decode cX11_restore 12 = .ok (.aload_n 0, 1) := by decide +kernel
