theorem dX11_restore_13 : decode cX11_restore 13 = .ok (.iload_n 1, 1) := by decide +kernel
theorem dX11_restore_14 : decode cX11_restore 14 = .ok (.invokevirtual 267, 3) := by decide +kernel
theorem dX11_restore_17 : decode cX11_restore 17 = .ok (.getfield 168, 3) := by decide +kernel
theorem dX11_restore_20 : decode cX11_restore 20 = .ok (.invokevirtual 271, 3) := by decide +kernel
theorem dX11_restore_23 : decode cX11_restore 23 = .ok (.ifCond .ne 6, 3) := by decide +kernel
theorem dX11_restore_26 : decode cX11_restore 26 = .ok (.ldc 154, 2) := by decide +kernel
theorem dX11_restore_28 : decode cX11_restore 28 = .ok (.ireturn, 1) := by decide +kernel
theorem dX11_restore_29 : decode cX11_restore 29 = .ok (.aload_n 0, 1) := by decide +kernel
theorem dX11_restore_30 : decode cX11_restore 30 = .ok (.getfield 48, 3) := by decide +kernel
theorem dX11_restore_33 : decode cX11_restore 33 = .ok (.aload_n 0, 1) := by decide +kernel
theorem dX11_restore_34 : decode cX11_restore 34 = .ok (.iload_n 1, 1) := by decide +kernel
theorem dX11_restore_35 : decode cX11_restore 35 = .ok (.invokevirtual 267, 3) := by decide +kernel
theorem dX11_restore_38 : decode cX11_restore 38 = .ok (.invokevirtual 182, 3) := by decide +kernel
theorem dX11_restore_41 : decode cX11_restore 41 = .ok (.iconst 1, 1) := by decide +kernel
theorem dX11_restore_42 : decode cX11_restore 42 = .ok (.ireturn, 1) := by decide +kernel
theorem dX11_kind_0 : decode cX11_kind 0 = .ok (.aload_n 0, 1) := by decide +kernel
theorem dX11_kind_1 : decode cX11_kind 1 = .ok (.iload_n 1, 1) := by decide +kernel
theorem dX11_kind_2 : decode cX11_kind 2 = .ok (.invokevirtual 134, 3) := by decide +kernel
theorem dX11_kind_5 : decode cX11_kind 5 = .ok (.ifCond .eq 18, 3) := by decide +kernel
theorem dX11_kind_8 : decode cX11_kind 8 = .ok (.aload_n 0, 1) := by decide +kernel
theorem dX11_kind_9 : decode cX11_kind 9 = .ok (.getfield 48, 3) := by decide +kernel
theorem dX11_kind_12 : decode cX11_kind 12 = .ok (.getfield 168, 3) := by decide +kernel
theorem dX11_kind_15 : decode cX11_kind 15 = .ok (.getfield 274, 3) := by decide +kernel
theorem dX11_kind_18 : decode cX11_kind 18 = .ok (.iload_n 1, 1) := by decide +kernel
theorem dX11_kind_19 : decode cX11_kind 19 = .ok (.iaload, 1) := by decide +kernel
theorem dX11_kind_20 : decode cX11_kind 20 = .ok (.goto 5, 3) := by decide +kernel
theorem dX11_kind_23 : decode cX11_kind 23 = .ok (.ldc 72, 2) := by decide +kernel
theorem dX11_kind_25 : decode cX11_kind 25 = .ok (.ireturn, 1) := by decide +kernel
theorem dX11_as_0 : decode cX11_as 0 = .ok (.aload_n 0, 1) := by decide +kernel
theorem dX11_as_1 : decode cX11_as 1 = .ok (.iload_n 1, 1) := by decide +kernel
theorem dX11_as_2 : decode cX11_as 2 = .ok (.invokevirtual 134, 3) := by decide +kernel
theorem dX11_as_5 : decode cX11_as 5 = .ok (.ifCond .eq 12, 3) := by decide +kernel
theorem dX11_as_8 : decode cX11_as 8 = .ok (.iload_n 2, 1) := by decide +kernel
theorem dX11_as_9 : decode cX11_as 9 = .ok (.iconst 0, 1) := by decide +kernel
theorem dX11_as_10 : decode cX11_as 10 = .ok (.iconst 5, 1) := by decide +kernel
theorem dX11_as_11 : decode cX11_as 11 = .ok (.invokestatic 68, 3) := by decide +kernel
theorem dX11_as_14 : decode cX11_as 14 = .ok (.ifCond .ne 6, 3) := by decide +kernel
theorem dX11_as_17 : decode cX11_as 17 = .ok (.ldc 72, 2) := by decide +kernel
theorem dX11_as_19 : decode cX11_as 19 = .ok (.ireturn, 1) := by decide +kernel
theorem dX11_as_20 : decode cX11_as 20 = .ok (.aload_n 0, 1) := by decide +kernel
theorem dX11_as_21 : decode cX11_as 21 = .ok (.iload_n 1, 1) := by decide +kernel
theorem dX11_as_22 : decode cX11_as 22 = .ok (.invokevirtual 277, 3) := by decide +kernel
theorem dX11_as_25 : decode cX11_as 25 = .ok (.iload_n 2, 1) := by decide +kernel
theorem dX11_as_26 : decode cX11_as 26 = .ok (.invokestatic 281, 3) := by decide +kernel
theorem dX11_as_29 : decode cX11_as 29 = .ok (.ifCond .ne 9, 3) := by decide +kernel
theorem dX11_as_32 : decode cX11_as 32 = .ok (.aload_n 0, 1) := by decide +kernel
theorem dX11_as_33 : decode cX11_as 33 = .ok (.iconst 3, 1) := by decide +kernel
theorem dX11_as_34 : decode cX11_as 34 = .ok (.invokevirtual 73, 3) := by decide +kernel
theorem dX11_as_37 : decode cX11_as 37 = .ok (.ireturn, 1) := by decide +kernel
theorem dX11_as_38 : decode cX11_as 38 = .ok (.aload_n 0, 1) := by decide +kernel
theorem dX11_as_39 : decode cX11_as 39 = .ok (.iload_n 1, 1) := by decide +kernel
theorem dX11_as_40 : decode cX11_as 40 = .ok (.invokevirtual 81, 3) := by decide +kernel
theorem dX11_as_43 : decode cX11_as 43 = .ok (.ireturn, 1) := by decide +kernel
theorem dX11_ask_0 : decode cX11_ask 0 = .ok (.aload_n 0, 1) := by decide +kernel
theorem dX11_ask_1 : decode cX11_ask 1 = .ok (.iload_n 1, 1) := by decide +kernel
theorem dX11_ask_2 : decode cX11_ask 2 = .ok (.invokevirtual 134, 3) := by decide +kernel
theorem dX11_ask_5 : decode cX11_ask 5 = .ok (.ifCond .eq 12, 3) := by decide +kernel
theorem dX11_ask_8 : decode cX11_ask 8 = .ok (.iload_n 2, 1) := by decide +kernel
theorem dX11_ask_9 : decode cX11_ask 9 = .ok (.iconst 0, 1) := by decide +kernel
theorem dX11_ask_10 : decode cX11_ask 10 = .ok (.iconst 1, 1) := by decide +kernel
theorem dX11_ask_11 : decode cX11_ask 11 = .ok (.invokestatic 68, 3) := by decide +kernel
theorem dX11_ask_14 : decode cX11_ask 14 = .ok (.ifCond .ne 6, 3) := by decide +kernel
theorem dX11_ask_17 : decode cX11_ask 17 = .ok (.ldc 72, 2) := by decide +kernel
theorem dX11_ask_19 : decode cX11_ask 19 = .ok (.ireturn, 1) := by decide +kernel
theorem dX11_ask_20 : decode cX11_ask 20 = .ok (.aload_n 0, 1) := by decide +kernel
theorem dX11_ask_21 : decode cX11_ask 21 = .ok (.getfield 26, 3) := by decide +kernel
theorem dX11_ask_24 : decode cX11_ask 24 = .ok (.invokevirtual 285, 3) := by decide +kernel
theorem dX11_ask_27 : decode cX11_ask 27 = .ok (.aload_n 0, 1) := by decide +kernel
theorem dX11_ask_28 : decode cX11_ask 28 = .ok (.iload_n 1, 1) := by decide +kernel
theorem dX11_ask_29 : decode cX11_ask 29 = .ok (.invokevirtual 277, 3) := by decide +kernel
theorem dX11_ask_32 : decode cX11_ask 32 = .ok (.astore_n 3, 1) := by decide +kernel
theorem dX11_ask_33 : decode cX11_ask 33 = .ok (.iload_n 2, 1) := by decide +kernel
theorem dX11_ask_34 : decode cX11_ask 34 = .ok (.ifCond .ne 10, 3) := by decide +kernel
theorem dX11_ask_37 : decode cX11_ask 37 = .ok (.aload_n 3, 1) := by decide +kernel
theorem dX11_ask_38 : decode cX11_ask 38 = .ok (.invokevirtual 288, 3) := by decide +kernel
theorem dX11_ask_41 : decode cX11_ask 41 = .ok (.goto 7, 3) := by decide +kernel
theorem dX11_ask_44 : decode cX11_ask 44 = .ok (.aload_n 3, 1) := by decide +kernel
theorem dX11_ask_45 : decode cX11_ask 45 = .ok (.invokevirtual 293, 3) := by decide +kernel
theorem dX11_ask_48 : decode cX11_ask 48 = .ok (.ireturn, 1) := by decide +kernel
theorem dX11_trace_0 : decode cX11_trace 0 = .ok (.iload_n 1, 1) := by decide +kernel
theorem dX11_trace_1 : decode cX11_trace 1 = .ok (.iconst 0, 1) := by decide +kernel
theorem dX11_trace_2 : decode cX11_trace 2 = .ok (.aload_n 0, 1) := by decide +kernel
theorem dX11_trace_3 : decode cX11_trace 3 = .ok (.getfield 26, 3) := by decide +kernel
theorem dX11_trace_6 : decode cX11_trace 6 = .ok (.getfield 296, 3) := by decide +kernel
theorem dX11_trace_9 : decode cX11_trace 9 = .ok (.iconst 1, 1) := by decide +kernel
theorem dX11_trace_10 : decode cX11_trace 10 = .ok (.isub, 1) := by decide +kernel
theorem dX11_trace_11 : decode cX11_trace 11 = .ok (.invokestatic 68, 3) := by decide +kernel
theorem dX11_trace_14 : decode cX11_trace 14 = .ok (.ifCond .eq 15, 3) := by decide +kernel
theorem dX11_trace_17 : decode cX11_trace 17 = .ok (.aload_n 0, 1) := by decide +kernel
theorem dX11_trace_18 : decode cX11_trace 18 = .ok (.getfield 26, 3) := by decide +kernel
theorem dX11_trace_21 : decode cX11_trace 21 = .ok (.getfield 299, 3) := by decide +kernel
theorem dX11_trace_24 : decode cX11_trace 24 = .ok (.iload_n 1, 1) := by decide +kernel
theorem dX11_trace_25 : decode cX11_trace 25 = .ok (.iaload, 1) := by decide +kernel
theorem dX11_trace_26 : decode cX11_trace 26 = .ok (.goto 5, 3) := by decide +kernel
theorem dX11_trace_29 : decode cX11_trace 29 = .ok (.ldc 201, 2) := by decide +kernel
theorem dX11_trace_31 : decode cX11_trace 31 = .ok (.ireturn, 1) := by decide +kernel
theorem dX11_count_0 : decode cX11_count 0 = .ok (.iload_n 1, 1) := by decide +kernel
theorem dX11_count_1 : decode cX11_count 1 = .ok (.tableswitch 123 0 7 #[47, 55, 66, 77, 88, 99, 107, 115], 47) := by decide +kernel
theorem dX11_count_48 : decode cX11_count 48 = .ok (.aload_n 0, 1) := by decide +kernel
theorem dX11_count_49 : decode cX11_count 49 = .ok (.getfield 10, 3) := by decide +kernel
theorem dX11_count_52 : decode cX11_count 52 = .ok (.invokevirtual 302, 3) := by decide +kernel
theorem dX11_count_55 : decode cX11_count 55 = .ok (.ireturn, 1) := by decide +kernel
theorem dX11_count_56 : decode cX11_count 56 = .ok (.aload_n 0, 1) := by decide +kernel
theorem dX11_count_57 : decode cX11_count 57 = .ok (.getfield 48, 3) := by decide +kernel
theorem dX11_count_60 : decode cX11_count 60 = .ok (.getfield 168, 3) := by decide +kernel
theorem dX11_count_63 : decode cX11_count 63 = .ok (.getfield 131, 3) := by decide +kernel
theorem dX11_count_66 : decode cX11_count 66 = .ok (.ireturn, 1) := by decide +kernel
theorem dX11_count_67 : decode cX11_count 67 = .ok (.aload_n 0, 1) := by decide +kernel
theorem dX11_count_68 : decode cX11_count 68 = .ok (.getfield 48, 3) := by decide +kernel
theorem dX11_count_71 : decode cX11_count 71 = .ok (.getfield 168, 3) := by decide +kernel
theorem dX11_count_74 : decode cX11_count 74 = .ok (.getfield 305, 3) := by decide +kernel
theorem dX11_count_77 : decode cX11_count 77 = .ok (.ireturn, 1) := by decide +kernel
theorem dX11_count_78 : decode cX11_count 78 = .ok (.aload_n 0, 1) := by decide +kernel
theorem dX11_count_79 : decode cX11_count 79 = .ok (.getfield 48, 3) := by decide +kernel
theorem dX11_count_82 : decode cX11_count 82 = .ok (.getfield 168, 3) := by decide +kernel
theorem dX11_count_85 : decode cX11_count 85 = .ok (.getfield 172, 3) := by decide +kernel
theorem dX11_count_88 : decode cX11_count 88 = .ok (.ireturn, 1) := by decide +kernel
theorem dX11_count_89 : decode cX11_count 89 = .ok (.aload_n 0, 1) := by decide +kernel
theorem dX11_count_90 : decode cX11_count 90 = .ok (.getfield 48, 3) := by decide +kernel
theorem dX11_count_93 : decode cX11_count 93 = .ok (.invokevirtual 186, 3) := by decide +kernel
theorem dX11_count_96 : decode cX11_count 96 = .ok (.invokestatic 190, 3) := by decide +kernel
theorem dX11_count_99 : decode cX11_count 99 = .ok (.ireturn, 1) := by decide +kernel
theorem dX11_count_100 : decode cX11_count 100 = .ok (.aload_n 0, 1) := by decide +kernel
theorem dX11_count_101 : decode cX11_count 101 = .ok (.getfield 48, 3) := by decide +kernel
theorem dX11_count_104 : decode cX11_count 104 = .ok (.invokevirtual 308, 3) := by decide +kernel
theorem dX11_count_107 : decode cX11_count 107 = .ok (.ireturn, 1) := by decide +kernel
theorem dX11_count_108 : decode cX11_count 108 = .ok (.aload_n 0, 1) := by decide +kernel
theorem dX11_count_109 : decode cX11_count 109 = .ok (.getfield 48, 3) := by decide +kernel
theorem dX11_count_112 : decode cX11_count 112 = .ok (.getfield 165, 3) := by decide +kernel
theorem dX11_count_115 : decode cX11_count 115 = .ok (.ireturn, 1) := by decide +kernel
theorem dX11_count_116 : decode cX11_count 116 = .ok (.aload_n 0, 1) := by decide +kernel
theorem dX11_count_117 : decode cX11_count 117 = .ok (.getfield 19, 3) := by decide +kernel
theorem dX11_count_120 : decode cX11_count 120 = .ok (.getfield 311, 3) := by decide +kernel
theorem dX11_count_123 : decode cX11_count 123 = .ok (.ireturn, 1) := by decide +kernel
theorem dX11_count_124 : decode cX11_count 124 = .ok (.ldc 72, 2) := by decide +kernel
theorem dX11_count_126 : decode cX11_count 126 = .ok (.ireturn, 1) := by decide +kernel
theorem dX11_status_0 : decode cX11_status 0 = .ok (.aload_n 0, 1) := by decide +kernel
theorem dX11_status_1 : decode cX11_status 1 = .ok (.getfield 312, 3) := by decide +kernel
theorem dX11_status_4 : decode cX11_status 4 = .ok (.ireturn, 1) := by decide +kernel
theorem dX11_isIn_0 : decode cX11_isIn 0 = .ok (.iload_n 0, 1) := by decide +kernel
theorem dX11_isIn_1 : decode cX11_isIn 1 = .ok (.iload_n 1, 1) := by decide +kernel
theorem dX11_isIn_2 : decode cX11_isIn 2 = .ok (.if_icmp .lt 12, 3) := by decide +kernel
theorem dX11_isIn_5 : decode cX11_isIn 5 = .ok (.iload_n 0, 1) := by decide +kernel
theorem dX11_isIn_6 : decode cX11_isIn 6 = .ok (.iload_n 2, 1) := by decide +kernel
theorem dX11_isIn_7 : decode cX11_isIn 7 = .ok (.if_icmp .gt 7, 3) := by decide +kernel
theorem dX11_isIn_10 : decode cX11_isIn 10 = .ok (.iconst 1, 1) := by decide +kernel
theorem dX11_isIn_11 : decode cX11_isIn 11 = .ok (.goto 4, 3) := by decide +kernel
theorem dX11_isIn_14 : decode cX11_isIn 14 = .ok (.iconst 0, 1) := by decide +kernel
theorem dX11_isIn_15 : decode cX11_isIn 15 = .ok (.ireturn, 1) := by decide +kernel
theorem dX11_found_0 : decode cX11_found 0 = .ok (.aload_n 0, 1) := by decide +kernel
theorem dX11_found_1 : decode cX11_found 1 = .ok (.iload_n 1, 1) := by decide +kernel
theorem dX11_found_2 : decode cX11_found 2 = .ok (.putfield 312, 3) := by decide +kernel
theorem dX11_found_5 : decode cX11_found 5 = .ok (.ldc_w 315, 3) := by decide +kernel
theorem dX11_found_8 : decode cX11_found 8 = .ok (.iload_n 1, 1) := by decide +kernel
theorem dX11_found_9 : decode cX11_found 9 = .ok (.isub, 1) := by decide +kernel
theorem dX11_found_10 : decode cX11_found 10 = .ok (.ireturn, 1) := by decide +kernel
theorem dX11_unfound_0 : decode cX11_unfound 0 = .ok (.aload_n 0, 1) := by decide +kernel
theorem dX11_unfound_1 : decode cX11_unfound 1 = .ok (.iconst 0, 1) := by decide +kernel
theorem dX11_unfound_2 : decode cX11_unfound 2 = .ok (.putfield 312, 3) := by decide +kernel
theorem dX11_unfound_5 : decode cX11_unfound 5 = .ok (.iload_n 1, 1) := by decide +kernel
theorem dX11_unfound_6 : decode cX11_unfound 6 = .ok (.ireturn, 1) := by decide +kernel
theorem dX11_noCourt_0 : decode cX11_noCourt 0 = .ok (.aload_n 0, 1) := by decide +kernel
theorem dX11_noCourt_1 : decode cX11_noCourt 1 = .ok (.getfield 48, 3) := by decide +kernel
theorem dX11_noCourt_4 : decode cX11_noCourt 4 = .ok (.getfield 168, 3) := by decide +kernel
theorem dX11_noCourt_7 : decode cX11_noCourt 7 = .ok (.invokevirtual 271, 3) := by decide +kernel
theorem dX11_noCourt_10 : decode cX11_noCourt 10 = .ok (.ifCond .ne 7, 3) := by decide +kernel
theorem dX11_noCourt_13 : decode cX11_noCourt 13 = .ok (.iconst 1, 1) := by decide +kernel
theorem dX11_noCourt_14 : decode cX11_noCourt 14 = .ok (.goto 4, 3) := by decide +kernel
theorem dX11_noCourt_17 : decode cX11_noCourt 17 = .ok (.iconst 0, 1) := by decide +kernel
theorem dX11_noCourt_18 : decode cX11_noCourt 18 = .ok (.ireturn, 1) := by decide +kernel
theorem dX11_isPiece_0 : decode cX11_isPiece 0 = .ok (.iload_n 1, 1) := by decide +kernel
theorem dX11_isPiece_1 : decode cX11_isPiece 1 = .ok (.iconst 0, 1) := by decide +kernel
theorem dX11_isPiece_2 : decode cX11_isPiece 2 = .ok (.aload_n 0, 1) := by decide +kernel
theorem dX11_isPiece_3 : decode cX11_isPiece 3 = .ok (.getfield 48, 3) := by decide +kernel
theorem dX11_isPiece_6 : decode cX11_isPiece 6 = .ok (.getfield 168, 3) := by decide +kernel
theorem dX11_isPiece_9 : decode cX11_isPiece 9 = .ok (.getfield 172, 3) := by decide +kernel
theorem dX11_isPiece_12 : decode cX11_isPiece 12 = .ok (.iconst 1, 1) := by decide +kernel
theorem dX11_isPiece_13 : decode cX11_isPiece 13 = .ok (.isub, 1) := by decide +kernel
theorem dX11_isPiece_14 : decode cX11_isPiece 14 = .ok (.invokestatic 68, 3) := by decide +kernel
theorem dX11_isPiece_17 : decode cX11_isPiece 17 = .ok (.ireturn, 1) := by decide +kernel
theorem dX11_isLine_0 : decode cX11_isLine 0 = .ok (.iload_n 1, 1) := by decide +kernel
theorem dX11_isLine_1 : decode cX11_isLine 1 = .ok (.iconst 0, 1) := by decide +kernel
theorem dX11_isLine_2 : decode cX11_isLine 2 = .ok (.aload_n 0, 1) := by decide +kernel
theorem dX11_isLine_3 : decode cX11_isLine 3 = .ok (.getfield 48, 3) := by decide +kernel
theorem dX11_isLine_6 : decode cX11_isLine 6 = .ok (.getfield 168, 3) := by decide +kernel
theorem dX11_isLine_9 : decode cX11_isLine 9 = .ok (.getfield 131, 3) := by decide +kernel
theorem dX11_isLine_12 : decode cX11_isLine 12 = .ok (.iconst 1, 1) := by decide +kernel
theorem dX11_isLine_13 : decode cX11_isLine 13 = .ok (.isub, 1) := by decide +kernel
theorem dX11_isLine_14 : decode cX11_isLine 14 = .ok (.invokestatic 68, 3) := by decide +kernel
theorem dX11_isLine_17 : decode cX11_isLine 17 = .ok (.ireturn, 1) := by decide +kernel
theorem dX11_imageOf_0 : decode cX11_imageOf 0 = .ok (.iload_n 1, 1) := by decide +kernel
theorem dX11_imageOf_1 : decode cX11_imageOf 1 = .ok (.ifCond .ne 10, 3) := by decide +kernel
theorem dX11_imageOf_4 : decode cX11_imageOf 4 = .ok (.aload_n 0, 1) := by decide +kernel
theorem dX11_imageOf_5 : decode cX11_imageOf 5 = .ok (.getfield 52, 3) := by decide +kernel
theorem dX11_imageOf_8 : decode cX11_imageOf 8 = .ok (.goto 7, 3) := by decide +kernel
theorem dX11_imageOf_11 : decode cX11_imageOf 11 = .ok (.aload_n 0, 1) := by decide +kernel
theorem dX11_imageOf_12 : decode cX11_imageOf 12 = .ok (.getfield 55, 3) := by decide +kernel
theorem dX11_imageOf_15 : decode cX11_imageOf 15 = .ok (.areturn, 1) := by decide +kernel
theorem dX11_draftLaid_0 : decode cX11_draftLaid 0 = .ok (.aload_n 0, 1) := by decide +kernel
theorem dX11_draftLaid_1 : decode cX11_draftLaid 1 = .ok (.getfield 58, 3) := by decide +kernel
theorem dX11_draftLaid_4 : decode cX11_draftLaid 4 = .ok (.aload_n 0, 1) := by decide +kernel
theorem dX11_draftLaid_5 : decode cX11_draftLaid 5 = .ok (.getfield 48, 3) := by decide +kernel
theorem dX11_draftLaid_8 : decode cX11_draftLaid 8 = .ok (.invokevirtual 182, 3) := by decide +kernel
theorem dX11_draftLaid_11 : decode cX11_draftLaid 11 = .ok (.aload_n 0, 1) := by decide +kernel
theorem dX11_draftLaid_12 : decode cX11_draftLaid 12 = .ok (.getfield 58, 3) := by decide +kernel
theorem dX11_draftLaid_15 : decode cX11_draftLaid 15 = .ok (.invokevirtual 316, 3) := by decide +kernel
theorem dX11_draftLaid_18 : decode cX11_draftLaid 18 = .ok (.iconst 0, 1) := by decide +kernel
theorem dX11_draftLaid_19 : decode cX11_draftLaid 19 = .ok (.istore_n 3, 1) := by decide +kernel
theorem dX11_draftLaid_20 : decode cX11_draftLaid 20 = .ok (.iload_n 3, 1) := by decide +kernel
theorem dX11_draftLaid_21 : decode cX11_draftLaid 21 = .ok (.aload_n 0, 1) := by decide +kernel
theorem dX11_draftLaid_22 : decode cX11_draftLaid 22 = .ok (.getfield 58, 3) := by decide +kernel
theorem dX11_draftLaid_25 : decode cX11_draftLaid 25 = .ok (.getfield 168, 3) := by decide +kernel
theorem dX11_draftLaid_28 : decode cX11_draftLaid 28 = .ok (.getfield 172, 3) := by decide +kernel
theorem dX11_draftLaid_31 : decode cX11_draftLaid 31 = .ok (.if_icmp .ge 61, 3) := by decide +kernel
theorem dX11_draftLaid_34 : decode cX11_draftLaid 34 = .ok (.aload_n 0, 1) := by decide +kernel
theorem dX11_draftLaid_35 : decode cX11_draftLaid 35 = .ok (.getfield 10, 3) := by decide +kernel
theorem dX11_draftLaid_38 : decode cX11_draftLaid 38 = .ok (.iload_n 1, 1) := by decide +kernel
theorem dX11_draftLaid_39 : decode cX11_draftLaid 39 = .ok (.iload_n 2, 1) := by decide +kernel
theorem dX11_draftLaid_40 : decode cX11_draftLaid 40 = .ok (.iload_n 3, 1) := by decide +kernel
theorem dX11_draftLaid_41 : decode cX11_draftLaid 41 = .ok (.iadd, 1) := by decide +kernel
theorem dX11_draftLaid_42 : decode cX11_draftLaid 42 = .ok (.invokevirtual 319, 3) := by decide +kernel
theorem dX11_draftLaid_45 : decode cX11_draftLaid 45 = .ok (.istore 4, 2) := by decide +kernel
theorem dX11_draftLaid_47 : decode cX11_draftLaid 47 = .ok (.iload 4, 2) := by decide +kernel
theorem dX11_draftLaid_49 : decode cX11_draftLaid 49 = .ok (.iconst (-1), 1) := by decide +kernel
theorem dX11_draftLaid_50 : decode cX11_draftLaid 50 = .ok (.if_icmp .ne 6, 3) := by decide +kernel
theorem dX11_draftLaid_53 : decode cX11_draftLaid 53 = .ok (.goto 33, 3) := by decide +kernel
theorem dX11_draftLaid_56 : decode cX11_draftLaid 56 = .ok (.aload_n 0, 1) := by decide +kernel
theorem dX11_draftLaid_57 : decode cX11_draftLaid 57 = .ok (.getfield 58, 3) := by decide +kernel
theorem dX11_draftLaid_60 : decode cX11_draftLaid 60 = .ok (.iload_n 3, 1) := by decide +kernel
theorem dX11_draftLaid_61 : decode cX11_draftLaid 61 = .ok (.iload 4, 2) := by decide +kernel
theorem dX11_draftLaid_63 : decode cX11_draftLaid 63 = .ok (.invokevirtual 140, 3) := by decide +kernel
theorem dX11_draftLaid_66 : decode cX11_draftLaid 66 = .ok (.istore 5, 2) := by decide +kernel
theorem dX11_draftLaid_68 : decode cX11_draftLaid 68 = .ok (.iload 5, 2) := by decide +kernel
theorem dX11_draftLaid_70 : decode cX11_draftLaid 70 = .ok (.ifCond .eq 6, 3) := by decide +kernel
theorem dX11_draftLaid_73 : decode cX11_draftLaid 73 = .ok (.iload 5, 2) := by decide +kernel
theorem dX11_draftLaid_75 : decode cX11_draftLaid 75 = .ok (.ireturn, 1) := by decide +kernel
theorem dX11_draftLaid_76 : decode cX11_draftLaid 76 = .ok (.aload_n 0, 1) := by decide +kernel
theorem dX11_draftLaid_77 : decode cX11_draftLaid 77 = .ok (.getfield 58, 3) := by decide +kernel
theorem dX11_draftLaid_80 : decode cX11_draftLaid 80 = .ok (.iload_n 3, 1) := by decide +kernel
theorem dX11_draftLaid_81 : decode cX11_draftLaid 81 = .ok (.iload 4, 2) := by decide +kernel
theorem dX11_draftLaid_83 : decode cX11_draftLaid 83 = .ok (.invokevirtual 144, 3) := by decide +kernel
theorem dX11_draftLaid_86 : decode cX11_draftLaid 86 = .ok (.iinc 3 1, 3) := by decide +kernel
theorem dX11_draftLaid_89 : decode cX11_draftLaid 89 = .ok (.goto (-69), 3) := by decide +kernel
theorem dX11_draftLaid_92 : decode cX11_draftLaid 92 = .ok (.iconst 0, 1) := by decide +kernel
theorem dX11_draftLaid_93 : decode cX11_draftLaid 93 = .ok (.ireturn, 1) := by decide +kernel
theorem dX11_hangsAbove_0 : decode cX11_hangsAbove 0 = .ok (.aload_n 0, 1) := by decide +kernel
theorem dX11_hangsAbove_1 : decode cX11_hangsAbove 1 = .ok (.getfield 48, 3) := by decide +kernel
theorem dX11_hangsAbove_4 : decode cX11_hangsAbove 4 = .ok (.iload_n 1, 1) := by decide +kernel
theorem dX11_hangsAbove_5 : decode cX11_hangsAbove 5 = .ok (.invokevirtual 151, 3) := by decide +kernel
theorem dX11_hangsAbove_8 : decode cX11_hangsAbove 8 = .ok (.ifCond .ne 5, 3) := by decide +kernel
theorem dX11_hangsAbove_11 : decode cX11_hangsAbove 11 = .ok (.iconst 0, 1) := by decide +kernel
theorem dX11_hangsAbove_12 : decode cX11_hangsAbove 12 = .ok (.ireturn, 1) := by decide +kernel
theorem dX11_hangsAbove_13 : decode cX11_hangsAbove 13 = .ok (.aload_n 0, 1) := by decide +kernel
theorem dX11_hangsAbove_14 : decode cX11_hangsAbove 14 = .ok (.getfield 48, 3) := by decide +kernel
theorem dX11_hangsAbove_17 : decode cX11_hangsAbove 17 = .ok (.getfield 198, 3) := by decide +kernel
theorem dX11_hangsAbove_20 : decode cX11_hangsAbove 20 = .ok (.iload_n 1, 1) := by decide +kernel
theorem dX11_hangsAbove_21 : decode cX11_hangsAbove 21 = .ok (.iaload, 1) := by decide +kernel
theorem dX11_hangsAbove_22 : decode cX11_hangsAbove 22 = .ok (.istore 4, 2) := by decide +kernel
theorem dX11_hangsAbove_24 : decode cX11_hangsAbove 24 = .ok (.aload_n 0, 1) := by decide +kernel
theorem dX11_hangsAbove_25 : decode cX11_hangsAbove 25 = .ok (.getfield 48, 3) := by decide +kernel
theorem dX11_hangsAbove_28 : decode cX11_hangsAbove 28 = .ok (.getfield 168, 3) := by decide +kernel
theorem dX11_hangsAbove_31 : decode cX11_hangsAbove 31 = .ok (.getfield 215, 3) := by decide +kernel
theorem dX11_hangsAbove_34 : decode cX11_hangsAbove 34 = .ok (.iload 4, 2) := by decide +kernel
theorem dX11_hangsAbove_36 : decode cX11_hangsAbove 36 = .ok (.iaload, 1) := by decide +kernel
theorem dX11_hangsAbove_37 : decode cX11_hangsAbove 37 = .ok (.iload_n 3, 1) := by decide +kernel
theorem dX11_hangsAbove_38 : decode cX11_hangsAbove 38 = .ok (.if_icmp .ne 24, 3) := by decide +kernel
theorem dX11_hangsAbove_41 : decode cX11_hangsAbove 41 = .ok (.aload_n 0, 1) := by decide +kernel
theorem dX11_hangsAbove_42 : decode cX11_hangsAbove 42 = .ok (.getfield 48, 3) := by decide +kernel
theorem dX11_hangsAbove_45 : decode cX11_hangsAbove 45 = .ok (.getfield 168, 3) := by decide +kernel
theorem dX11_hangsAbove_48 : decode cX11_hangsAbove 48 = .ok (.getfield 212, 3) := by decide +kernel
theorem dX11_hangsAbove_51 : decode cX11_hangsAbove 51 = .ok (.iload 4, 2) := by decide +kernel
theorem dX11_hangsAbove_53 : decode cX11_hangsAbove 53 = .ok (.iaload, 1) := by decide +kernel
theorem dX11_hangsAbove_54 : decode cX11_hangsAbove 54 = .ok (.iload_n 2, 1) := by decide +kernel
theorem dX11_hangsAbove_55 : decode cX11_hangsAbove 55 = .ok (.if_icmp .le 7, 3) := by decide +kernel
theorem dX11_hangsAbove_58 : decode cX11_hangsAbove 58 = .ok (.iconst 1, 1) := by decide +kernel
theorem dX11_hangsAbove_59 : decode cX11_hangsAbove 59 = .ok (.goto 4, 3) := by decide +kernel
theorem dX11_hangsAbove_62 : decode cX11_hangsAbove 62 = .ok (.iconst 0, 1) := by decide +kernel
theorem dX11_hangsAbove_63 : decode cX11_hangsAbove 63 = .ok (.ireturn, 1) := by decide +kernel
theorem dX11_findPlan_0 : decode cX11_findPlan 0 = .ok (.aload_n 0, 1) := by decide +kernel
theorem dX11_findPlan_1 : decode cX11_findPlan 1 = .ok (.getfield 58, 3) := by decide +kernel
theorem dX11_findPlan_4 : decode cX11_findPlan 4 = .ok (.aload_n 0, 1) := by decide +kernel
theorem dX11_findPlan_5 : decode cX11_findPlan 5 = .ok (.getfield 48, 3) := by decide +kernel
theorem dX11_findPlan_8 : decode cX11_findPlan 8 = .ok (.invokevirtual 182, 3) := by decide +kernel
theorem dX11_findPlan_11 : decode cX11_findPlan 11 = .ok (.aload_n 0, 1) := by decide +kernel
theorem dX11_findPlan_12 : decode cX11_findPlan 12 = .ok (.bipush 49, 2) := by decide +kernel
theorem dX11_findPlan_14 : decode cX11_findPlan 14 = .ok (.putfield 240, 3) := by decide +kernel
theorem dX11_findPlan_17 : decode cX11_findPlan 17 = .ok (.aload_n 0, 1) := by decide +kernel
theorem dX11_findPlan_18 : decode cX11_findPlan 18 = .ok (.iconst 0, 1) := by decide +kernel
theorem dX11_findPlan_19 : decode cX11_findPlan 19 = .ok (.putfield 322, 3) := by decide +kernel
theorem dX11_findPlan_22 : decode cX11_findPlan 22 = .ok (.iconst 0, 1) := by decide +kernel
theorem dX11_findPlan_23 : decode cX11_findPlan 23 = .ok (.istore_n 2, 1) := by decide +kernel
theorem dX11_findPlan_24 : decode cX11_findPlan 24 = .ok (.iload_n 2, 1) := by decide +kernel
theorem dX11_findPlan_25 : decode cX11_findPlan 25 = .ok (.iload_n 1, 1) := by decide +kernel
theorem dX11_findPlan_26 : decode cX11_findPlan 26 = .ok (.if_icmp .ge 25, 3) := by decide +kernel
theorem dX11_findPlan_29 : decode cX11_findPlan 29 = .ok (.aload_n 0, 1) := by decide +kernel
theorem dX11_findPlan_30 : decode cX11_findPlan 30 = .ok (.aload_n 0, 1) := by decide +kernel
theorem dX11_findPlan_31 : decode cX11_findPlan 31 = .ok (.getfield 322, 3) := by decide +kernel
theorem dX11_findPlan_34 : decode cX11_findPlan 34 = .ok (.aload_n 0, 1) := by decide +kernel
theorem dX11_findPlan_35 : decode cX11_findPlan 35 = .ok (.iload_n 2, 1) := by decide +kernel
theorem dX11_findPlan_36 : decode cX11_findPlan 36 = .ok (.invokevirtual 325, 3) := by decide +kernel
theorem dX11_findPlan_39 : decode cX11_findPlan 39 = .ok (.invokestatic 328, 3) := by decide +kernel
theorem dX11_findPlan_42 : decode cX11_findPlan 42 = .ok (.putfield 322, 3) := by decide +kernel
theorem dX11_findPlan_45 : decode cX11_findPlan 45 = .ok (.iinc 2 1, 3) := by decide +kernel
theorem dX11_findPlan_48 : decode cX11_findPlan 48 = .ok (.goto (-24), 3) := by decide +kernel
theorem dX11_findPlan_51 : decode cX11_findPlan 51 = .ok (.aload_n 0, 1) := by decide +kernel
theorem dX11_findPlan_52 : decode cX11_findPlan 52 = .ok (.iconst 0, 1) := by decide +kernel
theorem dX11_findPlan_53 : decode cX11_findPlan 53 = .ok (.iload_n 1, 1) := by decide +kernel
theorem dX11_findPlan_54 : decode cX11_findPlan 54 = .ok (.invokevirtual 333, 3) := by decide +kernel
theorem dX11_findPlan_57 : decode cX11_findPlan 57 = .ok (.return_, 1) := by decide +kernel
theorem dX11_leastTimeAlone_0 : decode cX11_leastTimeAlone 0 = .ok (.bipush 49, 2) := by decide +kernel
theorem dX11_leastTimeAlone_2 : decode cX11_leastTimeAlone 2 = .ok (.istore_n 2, 1) := by decide +kernel
theorem dX11_leastTimeAlone_3 : decode cX11_leastTimeAlone 3 = .ok (.iconst 0, 1) := by decide +kernel
theorem dX11_leastTimeAlone_4 : decode cX11_leastTimeAlone 4 = .ok (.istore_n 3, 1) := by decide +kernel
theorem dX11_leastTimeAlone_5 : decode cX11_leastTimeAlone 5 = .ok (.iload_n 3, 1) := by decide +kernel
theorem dX11_leastTimeAlone_6 : decode cX11_leastTimeAlone 6 = .ok (.aload_n 0, 1) := by decide +kernel
theorem dX11_leastTimeAlone_7 : decode cX11_leastTimeAlone 7 = .ok (.getfield 58, 3) := by decide +kernel
theorem dX11_leastTimeAlone_10 : decode cX11_leastTimeAlone 10 = .ok (.getfield 168, 3) := by decide +kernel
theorem dX11_leastTimeAlone_13 : decode cX11_leastTimeAlone 13 = .ok (.getfield 131, 3) := by decide +kernel
theorem dX11_leastTimeAlone_16 : decode cX11_leastTimeAlone 16 = .ok (.if_icmp .ge 73, 3) := by decide +kernel
theorem dX11_leastTimeAlone_19 : decode cX11_leastTimeAlone 19 = .ok (.bipush 49, 2) := by decide +kernel
theorem dX11_leastTimeAlone_21 : decode cX11_leastTimeAlone 21 = .ok (.istore 4, 2) := by decide +kernel
theorem dX11_leastTimeAlone_23 : decode cX11_leastTimeAlone 23 = .ok (.aload_n 0, 1) := by decide +kernel
theorem dX11_leastTimeAlone_24 : decode cX11_leastTimeAlone 24 = .ok (.getfield 58, 3) := by decide +kernel
theorem dX11_leastTimeAlone_27 : decode cX11_leastTimeAlone 27 = .ok (.iload_n 1, 1) := by decide +kernel
theorem dX11_leastTimeAlone_28 : decode cX11_leastTimeAlone 28 = .ok (.iload_n 3, 1) := by decide +kernel
theorem dX11_leastTimeAlone_29 : decode cX11_leastTimeAlone 29 = .ok (.invokevirtual 140, 3) := by decide +kernel
theorem dX11_leastTimeAlone_32 : decode cX11_leastTimeAlone 32 = .ok (.ifCond .ne 31, 3) := by decide +kernel
theorem dX11_leastTimeAlone_35 : decode cX11_leastTimeAlone 35 = .ok (.aload_n 0, 1) := by decide +kernel
theorem dX11_leastTimeAlone_36 : decode cX11_leastTimeAlone 36 = .ok (.getfield 58, 3) := by decide +kernel
theorem dX11_leastTimeAlone_39 : decode cX11_leastTimeAlone 39 = .ok (.iload_n 1, 1) := by decide +kernel
theorem dX11_leastTimeAlone_40 : decode cX11_leastTimeAlone 40 = .ok (.iload_n 3, 1) := by decide +kernel
theorem dX11_leastTimeAlone_41 : decode cX11_leastTimeAlone 41 = .ok (.invokevirtual 144, 3) := by decide +kernel
theorem dX11_leastTimeAlone_44 : decode cX11_leastTimeAlone 44 = .ok (.aload_n 0, 1) := by decide +kernel
theorem dX11_leastTimeAlone_45 : decode cX11_leastTimeAlone 45 = .ok (.iload_n 1, 1) := by decide +kernel
theorem dX11_leastTimeAlone_46 : decode cX11_leastTimeAlone 46 = .ok (.iload_n 1, 1) := by decide +kernel
theorem dX11_leastTimeAlone_47 : decode cX11_leastTimeAlone 47 = .ok (.bipush 49, 2) := by decide +kernel
theorem dX11_leastTimeAlone_49 : decode cX11_leastTimeAlone 49 = .ok (.invokevirtual 336, 3) := by decide +kernel
theorem dX11_leastTimeAlone_52 : decode cX11_leastTimeAlone 52 = .ok (.istore 4, 2) := by decide +kernel
theorem dX11_leastTimeAlone_54 : decode cX11_leastTimeAlone 54 = .ok (.aload_n 0, 1) := by decide +kernel
theorem dX11_leastTimeAlone_55 : decode cX11_leastTimeAlone 55 = .ok (.getfield 58, 3) := by decide +kernel
theorem dX11_leastTimeAlone_58 : decode cX11_leastTimeAlone 58 = .ok (.iload_n 1, 1) := by decide +kernel
theorem dX11_leastTimeAlone_59 : decode cX11_leastTimeAlone 59 = .ok (.invokevirtual 155, 3) := by decide +kernel
theorem dX11_leastTimeAlone_62 : decode cX11_leastTimeAlone 62 = .ok (.pop, 1) := by decide +kernel
theorem dX11_leastTimeAlone_63 : decode cX11_leastTimeAlone 63 = .ok (.aload_n 0, 1) := by decide +kernel
theorem dX11_leastTimeAlone_64 : decode cX11_leastTimeAlone 64 = .ok (.getfield 39, 3) := by decide +kernel
theorem dX11_leastTimeAlone_67 : decode cX11_leastTimeAlone 67 = .ok (.iload_n 1, 1) := by decide +kernel
theorem dX11_leastTimeAlone_68 : decode cX11_leastTimeAlone 68 = .ok (.bipush 8, 2) := by decide +kernel
theorem dX11_leastTimeAlone_70 : decode cX11_leastTimeAlone 70 = .ok (.imul, 1) := by decide +kernel
theorem dX11_leastTimeAlone_71 : decode cX11_leastTimeAlone 71 = .ok (.iload_n 3, 1) := by decide +kernel
theorem dX11_leastTimeAlone_72 : decode cX11_leastTimeAlone 72 = .ok (.iadd, 1) := by decide +kernel
theorem dX11_leastTimeAlone_73 : decode cX11_leastTimeAlone 73 = .ok (.iload 4, 2) := by decide +kernel
theorem dX11_leastTimeAlone_75 : decode cX11_leastTimeAlone 75 = .ok (.iastore, 1) := by decide +kernel
theorem dX11_leastTimeAlone_76 : decode cX11_leastTimeAlone 76 = .ok (.iload_n 2, 1) := by decide +kernel
theorem dX11_leastTimeAlone_77 : decode cX11_leastTimeAlone 77 = .ok (.iload 4, 2) := by decide +kernel
theorem dX11_leastTimeAlone_79 : decode cX11_leastTimeAlone 79 = .ok (.invokestatic 339, 3) := by decide +kernel
theorem dX11_leastTimeAlone_82 : decode cX11_leastTimeAlone 82 = .ok (.istore_n 2, 1) := by decide +kernel
theorem dX11_leastTimeAlone_83 : decode cX11_leastTimeAlone 83 = .ok (.iinc 3 1, 3) := by decide +kernel
theorem dX11_leastTimeAlone_86 : decode cX11_leastTimeAlone 86 = .ok (.goto (-81), 3) := by decide +kernel
theorem dX11_leastTimeAlone_89 : decode cX11_leastTimeAlone 89 = .ok (.iload_n 2, 1) := by decide +kernel
theorem dX11_leastTimeAlone_90 : decode cX11_leastTimeAlone 90 = .ok (.ireturn, 1) := by decide +kernel
theorem dX11_planPiece_0 : decode cX11_planPiece 0 = .ok (.iload_n 1, 1) := by decide +kernel
theorem dX11_planPiece_1 : decode cX11_planPiece 1 = .ok (.iload_n 2, 1) := by decide +kernel
theorem dX11_planPiece_2 : decode cX11_planPiece 2 = .ok (.if_icmp .ge 8, 3) := by decide +kernel
theorem dX11_planPiece_5 : decode cX11_planPiece 5 = .ok (.iload_n 1, 1) := by decide +kernel
theorem dX11_planPiece_6 : decode cX11_planPiece 6 = .ok (.iconst 4, 1) := by decide +kernel
theorem dX11_planPiece_7 : decode cX11_planPiece 7 = .ok (.if_icmp .lt 4, 3) := by decide +kernel
theorem dX11_planPiece_10 : decode cX11_planPiece 10 = .ok (.return_, 1) := by decide +kernel
theorem dX11_planPiece_11 : decode cX11_planPiece 11 = .ok (.iconst 0, 1) := by decide +kernel
theorem dX11_planPiece_12 : decode cX11_planPiece 12 = .ok (.istore_n 3, 1) := by decide +kernel
theorem dX11_planPiece_13 : decode cX11_planPiece 13 = .ok (.iload_n 3, 1) := by decide +kernel
theorem dX11_planPiece_14 : decode cX11_planPiece 14 = .ok (.aload_n 0, 1) := by decide +kernel
theorem dX11_planPiece_15 : decode cX11_planPiece 15 = .ok (.getfield 58, 3) := by decide +kernel
theorem dX11_planPiece_18 : decode cX11_planPiece 18 = .ok (.getfield 168, 3) := by decide +kernel
theorem dX11_planPiece_21 : decode cX11_planPiece 21 = .ok (.getfield 131, 3) := by decide +kernel
theorem dX11_planPiece_24 : decode cX11_planPiece 24 = .ok (.if_icmp .ge 107, 3) := by decide +kernel
theorem dX11_planPiece_27 : decode cX11_planPiece 27 = .ok (.aload_n 0, 1) := by decide +kernel
theorem dX11_planPiece_28 : decode cX11_planPiece 28 = .ok (.getfield 240, 3) := by decide +kernel
theorem dX11_planPiece_31 : decode cX11_planPiece 31 = .ok (.aload_n 0, 1) := by decide +kernel
theorem dX11_planPiece_32 : decode cX11_planPiece 32 = .ok (.getfield 322, 3) := by decide +kernel
theorem dX11_planPiece_35 : decode cX11_planPiece 35 = .ok (.if_icmp .le 96, 3) := by decide +kernel
theorem dX11_planPiece_38 : decode cX11_planPiece 38 = .ok (.aload_n 0, 1) := by decide +kernel
theorem dX11_planPiece_39 : decode cX11_planPiece 39 = .ok (.getfield 39, 3) := by decide +kernel
theorem dX11_planPiece_42 : decode cX11_planPiece 42 = .ok (.iload_n 1, 1) := by decide +kernel
theorem dX11_planPiece_43 : decode cX11_planPiece 43 = .ok (.bipush 8, 2) := by decide +kernel
theorem dX11_planPiece_45 : decode cX11_planPiece 45 = .ok (.imul, 1) := by decide +kernel
theorem dX11_planPiece_46 : decode cX11_planPiece 46 = .ok (.iload_n 3, 1) := by decide +kernel
theorem dX11_planPiece_47 : decode cX11_planPiece 47 = .ok (.iadd, 1) := by decide +kernel
theorem dX11_planPiece_48 : decode cX11_planPiece 48 = .ok (.iaload, 1) := by decide +kernel
theorem dX11_planPiece_49 : decode cX11_planPiece 49 = .ok (.aload_n 0, 1) := by decide +kernel
theorem dX11_planPiece_50 : decode cX11_planPiece 50 = .ok (.getfield 240, 3) := by decide +kernel
theorem dX11_planPiece_53 : decode cX11_planPiece 53 = .ok (.if_icmp .ge 72, 3) := by decide +kernel
theorem dX11_planPiece_56 : decode cX11_planPiece 56 = .ok (.aload_n 0, 1) := by decide +kernel
theorem dX11_planPiece_57 : decode cX11_planPiece 57 = .ok (.getfield 58, 3) := by decide +kernel
theorem dX11_planPiece_60 : decode cX11_planPiece 60 = .ok (.iload_n 1, 1) := by decide +kernel
theorem dX11_planPiece_61 : decode cX11_planPiece 61 = .ok (.iload_n 3, 1) := by decide +kernel
theorem dX11_planPiece_62 : decode cX11_planPiece 62 = .ok (.invokevirtual 140, 3) := by decide +kernel
theorem dX11_planPiece_65 : decode cX11_planPiece 65 = .ok (.ifCond .eq 6, 3) := by decide +kernel
theorem dX11_planPiece_68 : decode cX11_planPiece 68 = .ok (.goto 57, 3) := by decide +kernel
theorem dX11_planPiece_71 : decode cX11_planPiece 71 = .ok (.aload_n 0, 1) := by decide +kernel
theorem dX11_planPiece_72 : decode cX11_planPiece 72 = .ok (.getfield 58, 3) := by decide +kernel
theorem dX11_planPiece_75 : decode cX11_planPiece 75 = .ok (.iload_n 1, 1) := by decide +kernel
theorem dX11_planPiece_76 : decode cX11_planPiece 76 = .ok (.iload_n 3, 1) := by decide +kernel
theorem dX11_planPiece_77 : decode cX11_planPiece 77 = .ok (.invokevirtual 144, 3) := by decide +kernel
theorem dX11_planPiece_80 : decode cX11_planPiece 80 = .ok (.aload_n 0, 1) := by decide +kernel
theorem dX11_planPiece_81 : decode cX11_planPiece 81 = .ok (.getfield 30, 3) := by decide +kernel
theorem dX11_planPiece_84 : decode cX11_planPiece 84 = .ok (.iload_n 1, 1) := by decide +kernel
theorem dX11_planPiece_85 : decode cX11_planPiece 85 = .ok (.iload_n 3, 1) := by decide +kernel
theorem dX11_planPiece_86 : decode cX11_planPiece 86 = .ok (.iastore, 1) := by decide +kernel
theorem dX11_planPiece_87 : decode cX11_planPiece 87 = .ok (.aload_n 0, 1) := by decide +kernel
theorem dX11_planPiece_88 : decode cX11_planPiece 88 = .ok (.iconst 0, 1) := by decide +kernel
theorem dX11_planPiece_89 : decode cX11_planPiece 89 = .ok (.iload_n 1, 1) := by decide +kernel
theorem dX11_planPiece_90 : decode cX11_planPiece 90 = .ok (.aload_n 0, 1) := by decide +kernel
theorem dX11_planPiece_91 : decode cX11_planPiece 91 = .ok (.getfield 240, 3) := by decide +kernel
theorem dX11_planPiece_94 : decode cX11_planPiece 94 = .ok (.invokevirtual 336, 3) := by decide +kernel
theorem dX11_planPiece_97 : decode cX11_planPiece 97 = .ok (.istore 4, 2) := by decide +kernel
theorem dX11_planPiece_99 : decode cX11_planPiece 99 = .ok (.iload 4, 2) := by decide +kernel
theorem dX11_planPiece_101 : decode cX11_planPiece 101 = .ok (.aload_n 0, 1) := by decide +kernel
theorem dX11_planPiece_102 : decode cX11_planPiece 102 = .ok (.getfield 240, 3) := by decide +kernel
theorem dX11_planPiece_105 : decode cX11_planPiece 105 = .ok (.if_icmp .ge 11, 3) := by decide +kernel
theorem dX11_planPiece_108 : decode cX11_planPiece 108 = .ok (.aload_n 0, 1) := by decide +kernel
theorem dX11_planPiece_109 : decode cX11_planPiece 109 = .ok (.iload_n 1, 1) := by decide +kernel
theorem dX11_planPiece_110 : decode cX11_planPiece 110 = .ok (.iload_n 2, 1) := by decide +kernel
theorem dX11_planPiece_111 : decode cX11_planPiece 111 = .ok (.iload 4, 2) := by decide +kernel
theorem dX11_planPiece_113 : decode cX11_planPiece 113 = .ok (.invokevirtual 342, 3) := by decide +kernel
theorem dX11_planPiece_116 : decode cX11_planPiece 116 = .ok (.aload_n 0, 1) := by decide +kernel
theorem dX11_planPiece_117 : decode cX11_planPiece 117 = .ok (.getfield 58, 3) := by decide +kernel
theorem dX11_planPiece_120 : decode cX11_planPiece 120 = .ok (.iload_n 1, 1) := by decide +kernel
theorem dX11_planPiece_121 : decode cX11_planPiece 121 = .ok (.invokevirtual 155, 3) := by decide +kernel
theorem dX11_planPiece_124 : decode cX11_planPiece 124 = .ok (.pop, 1) := by decide +kernel
theorem dX11_planPiece_125 : decode cX11_planPiece 125 = .ok (.iinc 3 1, 3) := by decide +kernel
theorem dX11_planPiece_128 : decode cX11_planPiece 128 = .ok (.goto (-115), 3) := by decide +kernel
theorem dX11_planPiece_131 : decode cX11_planPiece 131 = .ok (.return_, 1) := by decide +kernel
theorem dX11_keepOrGoOn_0 : decode cX11_keepOrGoOn 0 = .ok (.iload_n 1, 1) := by decide +kernel
theorem dX11_keepOrGoOn_1 : decode cX11_keepOrGoOn 1 = .ok (.iload_n 2, 1) := by decide +kernel
theorem dX11_keepOrGoOn_2 : decode cX11_keepOrGoOn 2 = .ok (.iconst 1, 1) := by decide +kernel
theorem dX11_keepOrGoOn_3 : decode cX11_keepOrGoOn 3 = .ok (.isub, 1) := by decide +kernel
theorem dX11_keepOrGoOn_4 : decode cX11_keepOrGoOn 4 = .ok (.if_icmp .ge 14, 3) := by decide +kernel
theorem dX11_keepOrGoOn_7 : decode cX11_keepOrGoOn 7 = .ok (.aload_n 0, 1) := by decide +kernel
theorem dX11_keepOrGoOn_8 : decode cX11_keepOrGoOn 8 = .ok (.iload_n 1, 1) := by decide +kernel
theorem dX11_keepOrGoOn_9 : decode cX11_keepOrGoOn 9 = .ok (.iconst 1, 1) := by decide +kernel
theorem dX11_keepOrGoOn_10 : decode cX11_keepOrGoOn 10 = .ok (.iadd, 1) := by decide +kernel
theorem dX11_keepOrGoOn_11 : decode cX11_keepOrGoOn 11 = .ok (.iload_n 2, 1) := by decide +kernel
theorem dX11_keepOrGoOn_12 : decode cX11_keepOrGoOn 12 = .ok (.invokevirtual 333, 3) := by decide +kernel
theorem dX11_keepOrGoOn_15 : decode cX11_keepOrGoOn 15 = .ok (.goto 22, 3) := by decide +kernel
theorem dX11_keepOrGoOn_18 : decode cX11_keepOrGoOn 18 = .ok (.aload_n 0, 1) := by decide +kernel
theorem dX11_keepOrGoOn_19 : decode cX11_keepOrGoOn 19 = .ok (.iload_n 3, 1) := by decide +kernel
theorem dX11_keepOrGoOn_20 : decode cX11_keepOrGoOn 20 = .ok (.putfield 240, 3) := by decide +kernel
theorem dX11_keepOrGoOn_23 : decode cX11_keepOrGoOn 23 = .ok (.aload_n 0, 1) := by decide +kernel
theorem dX11_keepOrGoOn_24 : decode cX11_keepOrGoOn 24 = .ok (.getfield 30, 3) := by decide +kernel
theorem dX11_keepOrGoOn_27 : decode cX11_keepOrGoOn 27 = .ok (.iconst 0, 1) := by decide +kernel
theorem dX11_keepOrGoOn_28 : decode cX11_keepOrGoOn 28 = .ok (.aload_n 0, 1) := by decide +kernel
theorem dX11_keepOrGoOn_29 : decode cX11_keepOrGoOn 29 = .ok (.getfield 34, 3) := by decide +kernel
theorem dX11_keepOrGoOn_32 : decode cX11_keepOrGoOn 32 = .ok (.iconst 0, 1) := by decide +kernel
theorem dX11_keepOrGoOn_33 : decode cX11_keepOrGoOn 33 = .ok (.iload_n 2, 1) := by decide +kernel
theorem dX11_keepOrGoOn_34 : decode cX11_keepOrGoOn 34 = .ok (.invokestatic 345, 3) := by decide +kernel
theorem dX11_keepOrGoOn_37 : decode cX11_keepOrGoOn 37 = .ok (.return_, 1) := by decide +kernel
theorem dX11_timeUntilDry_0 : decode cX11_timeUntilDry 0 = .ok (.aload_n 0, 1) := by decide +kernel
theorem dX11_timeUntilDry_1 : decode cX11_timeUntilDry 1 = .ok (.getfield 61, 3) := by decide +kernel
theorem dX11_timeUntilDry_4 : decode cX11_timeUntilDry 4 = .ok (.aload_n 0, 1) := by decide +kernel
theorem dX11_timeUntilDry_5 : decode cX11_timeUntilDry 5 = .ok (.getfield 58, 3) := by decide +kernel
theorem dX11_timeUntilDry_8 : decode cX11_timeUntilDry 8 = .ok (.invokevirtual 182, 3) := by decide +kernel
theorem dX11_timeUntilDry_11 : decode cX11_timeUntilDry 11 = .ok (.iconst 0, 1) := by decide +kernel
theorem dX11_timeUntilDry_12 : decode cX11_timeUntilDry 12 = .ok (.istore 4, 2) := by decide +kernel
theorem dX11_timeUntilDry_14 : decode cX11_timeUntilDry 14 = .ok (.iload 4, 2) := by decide +kernel
theorem dX11_timeUntilDry_16 : decode cX11_timeUntilDry 16 = .ok (.iload_n 3, 1) := by decide +kernel
theorem dX11_timeUntilDry_17 : decode cX11_timeUntilDry 17 = .ok (.if_icmp .ge 49, 3) := by decide +kernel
theorem dX11_timeUntilDry_20 : decode cX11_timeUntilDry 20 = .ok (.aload_n 0, 1) := by decide +kernel
theorem dX11_timeUntilDry_21 : decode cX11_timeUntilDry 21 = .ok (.getfield 61, 3) := by decide +kernel
theorem dX11_timeUntilDry_24 : decode cX11_timeUntilDry 24 = .ok (.iload_n 1, 1) := by decide +kernel
theorem dX11_timeUntilDry_25 : decode cX11_timeUntilDry 25 = .ok (.iload_n 2, 1) := by decide +kernel
theorem dX11_timeUntilDry_26 : decode cX11_timeUntilDry 26 = .ok (.invokevirtual 351, 3) := by decide +kernel
theorem dX11_timeUntilDry_29 : decode cX11_timeUntilDry 29 = .ok (.ifCond .eq 6, 3) := by decide +kernel
theorem dX11_timeUntilDry_32 : decode cX11_timeUntilDry 32 = .ok (.iload 4, 2) := by decide +kernel
theorem dX11_timeUntilDry_34 : decode cX11_timeUntilDry 34 = .ok (.ireturn, 1) := by decide +kernel
theorem dX11_timeUntilDry_35 : decode cX11_timeUntilDry 35 = .ok (.aload_n 0, 1) := by decide +kernel
theorem dX11_timeUntilDry_36 : decode cX11_timeUntilDry 36 = .ok (.getfield 61, 3) := by decide +kernel
theorem dX11_timeUntilDry_39 : decode cX11_timeUntilDry 39 = .ok (.invokevirtual 162, 3) := by decide +kernel
theorem dX11_timeUntilDry_42 : decode cX11_timeUntilDry 42 = .ok (.aload_n 0, 1) := by decide +kernel
theorem dX11_timeUntilDry_43 : decode cX11_timeUntilDry 43 = .ok (.getfield 61, 3) := by decide +kernel
theorem dX11_timeUntilDry_46 : decode cX11_timeUntilDry 46 = .ok (.aload_n 0, 1) := by decide +kernel
theorem dX11_timeUntilDry_47 : decode cX11_timeUntilDry 47 = .ok (.getfield 58, 3) := by decide +kernel
theorem dX11_timeUntilDry_50 : decode cX11_timeUntilDry 50 = .ok (.iload_n 1, 1) := by decide +kernel
theorem dX11_timeUntilDry_51 : decode cX11_timeUntilDry 51 = .ok (.iload_n 2, 1) := by decide +kernel
theorem dX11_timeUntilDry_52 : decode cX11_timeUntilDry 52 = .ok (.invokevirtual 354, 3) := by decide +kernel
theorem dX11_timeUntilDry_55 : decode cX11_timeUntilDry 55 = .ok (.ifCond .eq 5, 3) := by decide +kernel
theorem dX11_timeUntilDry_58 : decode cX11_timeUntilDry 58 = .ok (.iload_n 3, 1) := by decide +kernel
theorem dX11_timeUntilDry_59 : decode cX11_timeUntilDry 59 = .ok (.ireturn, 1) := by decide +kernel
theorem dX11_timeUntilDry_60 : decode cX11_timeUntilDry 60 = .ok (.iinc 4 1, 3) := by decide +kernel
theorem dX11_timeUntilDry_63 : decode cX11_timeUntilDry 63 = .ok (.goto (-49), 3) := by decide +kernel
theorem dX11_timeUntilDry_66 : decode cX11_timeUntilDry 66 = .ok (.iload_n 3, 1) := by decide +kernel
theorem dX11_timeUntilDry_67 : decode cX11_timeUntilDry 67 = .ok (.ireturn, 1) := by decide +kernel
theorem dX11_linesByRings_0 : decode cX11_linesByRings 0 = .ok (.aload_n 1, 1) := by decide +kernel
theorem dX11_linesByRings_1 : decode cX11_linesByRings 1 = .ok (.arraylength, 1) := by decide +kernel
theorem dX11_linesByRings_2 : decode cX11_linesByRings 2 = .ok (.istore_n 2, 1) := by decide +kernel
theorem dX11_linesByRings_3 : decode cX11_linesByRings 3 = .ok (.iload_n 2, 1) := by decide +kernel
theorem dX11_linesByRings_4 : decode cX11_linesByRings 4 = .ok (.newarray .int, 2) := by decide +kernel
theorem dX11_linesByRings_6 : decode cX11_linesByRings 6 = .ok (.astore_n 3, 1) := by decide +kernel
theorem dX11_linesByRings_7 : decode cX11_linesByRings 7 = .ok (.iload_n 2, 1) := by decide +kernel
theorem dX11_linesByRings_8 : decode cX11_linesByRings 8 = .ok (.newarray .int, 2) := by decide +kernel
theorem dX11_linesByRings_10 : decode cX11_linesByRings 10 = .ok (.astore 4, 2) := by decide +kernel
theorem dX11_linesByRings_12 : decode cX11_linesByRings 12 = .ok (.aload_n 3, 1) := by decide +kernel
theorem dX11_linesByRings_13 : decode cX11_linesByRings 13 = .ok (.iconst (-1), 1) := by decide +kernel
theorem dX11_linesByRings_14 : decode cX11_linesByRings 14 = .ok (.invokestatic 358, 3) := by decide +kernel
theorem dX11_linesByRings_17 : decode cX11_linesByRings 17 = .ok (.iconst 0, 1) := by decide +kernel
theorem dX11_linesByRings_18 : decode cX11_linesByRings 18 = .ok (.istore 5, 2) := by decide +kernel
theorem dX11_linesByRings_20 : decode cX11_linesByRings 20 = .ok (.iload 5, 2) := by decide +kernel
theorem dX11_linesByRings_22 : decode cX11_linesByRings 22 = .ok (.iload_n 2, 1) := by decide +kernel
theorem dX11_linesByRings_23 : decode cX11_linesByRings 23 = .ok (.if_icmp .ge 93, 3) := by decide +kernel
theorem dX11_linesByRings_26 : decode cX11_linesByRings 26 = .ok (.iconst 0, 1) := by decide +kernel
theorem dX11_linesByRings_27 : decode cX11_linesByRings 27 = .ok (.istore 6, 2) := by decide +kernel
theorem dX11_linesByRings_29 : decode cX11_linesByRings 29 = .ok (.iload 6, 2) := by decide +kernel
theorem dX11_linesByRings_31 : decode cX11_linesByRings 31 = .ok (.iload_n 2, 1) := by decide +kernel
theorem dX11_linesByRings_32 : decode cX11_linesByRings 32 = .ok (.if_icmp .ge 34, 3) := by decide +kernel
theorem dX11_linesByRings_35 : decode cX11_linesByRings 35 = .ok (.aload 4, 2) := by decide +kernel
theorem dX11_linesByRings_37 : decode cX11_linesByRings 37 = .ok (.iload 6, 2) := by decide +kernel
theorem dX11_linesByRings_39 : decode cX11_linesByRings 39 = .ok (.aload_n 3, 1) := by decide +kernel
theorem dX11_linesByRings_40 : decode cX11_linesByRings 40 = .ok (.iload 6, 2) := by decide +kernel
theorem dX11_linesByRings_42 : decode cX11_linesByRings 42 = .ok (.iaload, 1) := by decide +kernel
theorem dX11_linesByRings_43 : decode cX11_linesByRings 43 = .ok (.ifCond .ge 14, 3) := by decide +kernel
theorem dX11_linesByRings_46 : decode cX11_linesByRings 46 = .ok (.aload_n 0, 1) := by decide +kernel
theorem dX11_linesByRings_47 : decode cX11_linesByRings 47 = .ok (.iload 6, 2) := by decide +kernel
theorem dX11_linesByRings_49 : decode cX11_linesByRings 49 = .ok (.aload_n 1, 1) := by decide +kernel
theorem dX11_linesByRings_50 : decode cX11_linesByRings 50 = .ok (.aload_n 3, 1) := by decide +kernel
theorem dX11_linesByRings_51 : decode cX11_linesByRings 51 = .ok (.invokevirtual 364, 3) := by decide +kernel
theorem dX11_linesByRings_54 : decode cX11_linesByRings 54 = .ok (.goto 5, 3) := by decide +kernel
theorem dX11_linesByRings_57 : decode cX11_linesByRings 57 = .ok (.iload 6, 2) := by decide +kernel
theorem dX11_linesByRings_59 : decode cX11_linesByRings 59 = .ok (.iastore, 1) := by decide +kernel
theorem dX11_linesByRings_60 : decode cX11_linesByRings 60 = .ok (.iinc 6 1, 3) := by decide +kernel
theorem dX11_linesByRings_63 : decode cX11_linesByRings 63 = .ok (.goto (-34), 3) := by decide +kernel
theorem dX11_linesByRings_66 : decode cX11_linesByRings 66 = .ok (.iconst 0, 1) := by decide +kernel
theorem dX11_linesByRings_67 : decode cX11_linesByRings 67 = .ok (.istore 6, 2) := by decide +kernel
theorem dX11_linesByRings_69 : decode cX11_linesByRings 69 = .ok (.iload 6, 2) := by decide +kernel
theorem dX11_linesByRings_71 : decode cX11_linesByRings 71 = .ok (.iload_n 2, 1) := by decide +kernel
theorem dX11_linesByRings_72 : decode cX11_linesByRings 72 = .ok (.if_icmp .ge 38, 3) := by decide +kernel
theorem dX11_linesByRings_75 : decode cX11_linesByRings 75 = .ok (.aload_n 3, 1) := by decide +kernel
theorem dX11_linesByRings_76 : decode cX11_linesByRings 76 = .ok (.iload 6, 2) := by decide +kernel
theorem dX11_linesByRings_78 : decode cX11_linesByRings 78 = .ok (.iaload, 1) := by decide +kernel
theorem dX11_linesByRings_79 : decode cX11_linesByRings 79 = .ok (.ifCond .ge 25, 3) := by decide +kernel
theorem dX11_linesByRings_82 : decode cX11_linesByRings 82 = .ok (.aload_n 0, 1) := by decide +kernel
theorem dX11_linesByRings_83 : decode cX11_linesByRings 83 = .ok (.iload 6, 2) := by decide +kernel
theorem dX11_linesByRings_85 : decode cX11_linesByRings 85 = .ok (.aload 4, 2) := by decide +kernel
theorem dX11_linesByRings_87 : decode cX11_linesByRings 87 = .ok (.invokevirtual 368, 3) := by decide +kernel
theorem dX11_linesByRings_90 : decode cX11_linesByRings 90 = .ok (.ifCond .eq 14, 3) := by decide +kernel
theorem dX11_linesByRings_93 : decode cX11_linesByRings 93 = .ok (.aload_n 3, 1) := by decide +kernel
theorem dX11_linesByRings_94 : decode cX11_linesByRings 94 = .ok (.iload 6, 2) := by decide +kernel
theorem dX11_linesByRings_96 : decode cX11_linesByRings 96 = .ok (.aload_n 1, 1) := by decide +kernel
theorem dX11_linesByRings_97 : decode cX11_linesByRings 97 = .ok (.aload 4, 2) := by decide +kernel
theorem dX11_linesByRings_99 : decode cX11_linesByRings 99 = .ok (.iload 6, 2) := by decide +kernel
theorem dX11_linesByRings_101 : decode cX11_linesByRings 101 = .ok (.iaload, 1) := by decide +kernel
theorem dX11_linesByRings_102 : decode cX11_linesByRings 102 = .ok (.iaload, 1) := by decide +kernel
theorem dX11_linesByRings_103 : decode cX11_linesByRings 103 = .ok (.iastore, 1) := by decide +kernel
theorem dX11_linesByRings_104 : decode cX11_linesByRings 104 = .ok (.iinc 6 1, 3) := by decide +kernel
theorem dX11_linesByRings_107 : decode cX11_linesByRings 107 = .ok (.goto (-38), 3) := by decide +kernel
theorem dX11_linesByRings_110 : decode cX11_linesByRings 110 = .ok (.iinc 5 1, 3) := by decide +kernel
theorem dX11_linesByRings_113 : decode cX11_linesByRings 113 = .ok (.goto (-93), 3) := by decide +kernel
theorem dX11_linesByRings_116 : decode cX11_linesByRings 116 = .ok (.aload_n 3, 1) := by decide +kernel
theorem dX11_linesByRings_117 : decode cX11_linesByRings 117 = .ok (.areturn, 1) := by decide +kernel
theorem dX11_likedMost_0 : decode cX11_likedMost 0 = .ok (.iload_n 1, 1) := by decide +kernel
theorem dX11_likedMost_1 : decode cX11_likedMost 1 = .ok (.istore 4, 2) := by decide +kernel
theorem dX11_likedMost_3 : decode cX11_likedMost 3 = .ok (.iconst 0, 1) := by decide +kernel
theorem dX11_likedMost_4 : decode cX11_likedMost 4 = .ok (.istore 5, 2) := by decide +kernel
theorem dX11_likedMost_6 : decode cX11_likedMost 6 = .ok (.iload 5, 2) := by decide +kernel
theorem dX11_likedMost_8 : decode cX11_likedMost 8 = .ok (.aload_n 2, 1) := by decide +kernel
theorem dX11_likedMost_9 : decode cX11_likedMost 9 = .ok (.arraylength, 1) := by decide +kernel
theorem dX11_likedMost_10 : decode cX11_likedMost 10 = .ok (.if_icmp .ge 36, 3) := by decide +kernel
theorem dX11_likedMost_13 : decode cX11_likedMost 13 = .ok (.aload_n 3, 1) := by decide +kernel
theorem dX11_likedMost_14 : decode cX11_likedMost 14 = .ok (.iload 5, 2) := by decide +kernel
theorem dX11_likedMost_16 : decode cX11_likedMost 16 = .ok (.iaload, 1) := by decide +kernel
theorem dX11_likedMost_17 : decode cX11_likedMost 17 = .ok (.ifCond .ge 23, 3) := by decide +kernel
theorem dX11_likedMost_20 : decode cX11_likedMost 20 = .ok (.aload_n 0, 1) := by decide +kernel
theorem dX11_likedMost_21 : decode cX11_likedMost 21 = .ok (.iload_n 1, 1) := by decide +kernel
theorem dX11_likedMost_22 : decode cX11_likedMost 22 = .ok (.aload_n 2, 1) := by decide +kernel
theorem dX11_likedMost_23 : decode cX11_likedMost 23 = .ok (.iload 5, 2) := by decide +kernel
theorem dX11_likedMost_25 : decode cX11_likedMost 25 = .ok (.iaload, 1) := by decide +kernel
theorem dX11_likedMost_26 : decode cX11_likedMost 26 = .ok (.aload_n 2, 1) := by decide +kernel
theorem dX11_likedMost_27 : decode cX11_likedMost 27 = .ok (.iload 4, 2) := by decide +kernel
theorem dX11_likedMost_29 : decode cX11_likedMost 29 = .ok (.iaload, 1) := by decide +kernel
theorem dX11_likedMost_30 : decode cX11_likedMost 30 = .ok (.invokevirtual 372, 3) := by decide +kernel
theorem dX11_likedMost_33 : decode cX11_likedMost 33 = .ok (.ifCond .eq 7, 3) := by decide +kernel
theorem dX11_likedMost_36 : decode cX11_likedMost 36 = .ok (.iload 5, 2) := by decide +kernel
theorem dX11_likedMost_38 : decode cX11_likedMost 38 = .ok (.istore 4, 2) := by decide +kernel
theorem dX11_likedMost_40 : decode cX11_likedMost 40 = .ok (.iinc 5 1, 3) := by decide +kernel
theorem dX11_likedMost_43 : decode cX11_likedMost 43 = .ok (.goto (-37), 3) := by decide +kernel
theorem dX11_likedMost_46 : decode cX11_likedMost 46 = .ok (.iload 4, 2) := by decide +kernel
theorem dX11_likedMost_48 : decode cX11_likedMost 48 = .ok (.ireturn, 1) := by decide +kernel
theorem dX11_likesMore_0 : decode cX11_likesMore 0 = .ok (.aload_n 0, 1) := by decide +kernel
theorem dX11_likesMore_1 : decode cX11_likesMore 1 = .ok (.getfield 48, 3) := by decide +kernel
theorem dX11_likesMore_4 : decode cX11_likesMore 4 = .ok (.getfield 168, 3) := by decide +kernel
theorem dX11_likesMore_7 : decode cX11_likesMore 7 = .ok (.iload_n 2, 1) := by decide +kernel
theorem dX11_likesMore_8 : decode cX11_likesMore 8 = .ok (.iconst 4, 1) := by decide +kernel
theorem dX11_likesMore_9 : decode cX11_likesMore 9 = .ok (.iload_n 1, 1) := by decide +kernel
theorem dX11_likesMore_10 : decode cX11_likesMore 10 = .ok (.imul, 1) := by decide +kernel
theorem dX11_likesMore_11 : decode cX11_likesMore 11 = .ok (.iconst 4, 1) := by decide +kernel
theorem dX11_likesMore_12 : decode cX11_likesMore 12 = .ok (.iload_n 1, 1) := by decide +kernel
theorem dX11_likesMore_13 : decode cX11_likesMore 13 = .ok (.imul, 1) := by decide +kernel
theorem dX11_likesMore_14 : decode cX11_likesMore 14 = .ok (.iconst 3, 1) := by decide +kernel
theorem dX11_likesMore_15 : decode cX11_likesMore 15 = .ok (.iadd, 1) := by decide +kernel
theorem dX11_likesMore_16 : decode cX11_likesMore 16 = .ok (.iconst 0, 1) := by decide +kernel
theorem dX11_likesMore_17 : decode cX11_likesMore 17 = .ok (.invokevirtual 246, 3) := by decide +kernel
theorem dX11_likesMore_20 : decode cX11_likesMore 20 = .ok (.istore 4, 2) := by decide +kernel
theorem dX11_likesMore_22 : decode cX11_likesMore 22 = .ok (.aload_n 0, 1) := by decide +kernel
theorem dX11_likesMore_23 : decode cX11_likesMore 23 = .ok (.getfield 48, 3) := by decide +kernel
theorem dX11_likesMore_26 : decode cX11_likesMore 26 = .ok (.getfield 168, 3) := by decide +kernel
theorem dX11_likesMore_29 : decode cX11_likesMore 29 = .ok (.iload_n 3, 1) := by decide +kernel
theorem dX11_likesMore_30 : decode cX11_likesMore 30 = .ok (.iconst 4, 1) := by decide +kernel
theorem dX11_likesMore_31 : decode cX11_likesMore 31 = .ok (.iload_n 1, 1) := by decide +kernel
theorem dX11_likesMore_32 : decode cX11_likesMore 32 = .ok (.imul, 1) := by decide +kernel
theorem dX11_likesMore_33 : decode cX11_likesMore 33 = .ok (.iconst 4, 1) := by decide +kernel
theorem dX11_likesMore_34 : decode cX11_likesMore 34 = .ok (.iload_n 1, 1) := by decide +kernel
theorem dX11_likesMore_35 : decode cX11_likesMore 35 = .ok (.imul, 1) := by decide +kernel
theorem dX11_likesMore_36 : decode cX11_likesMore 36 = .ok (.iconst 3, 1) := by decide +kernel
theorem dX11_likesMore_37 : decode cX11_likesMore 37 = .ok (.iadd, 1) := by decide +kernel
theorem dX11_likesMore_38 : decode cX11_likesMore 38 = .ok (.iconst 0, 1) := by decide +kernel
theorem dX11_likesMore_39 : decode cX11_likesMore 39 = .ok (.invokevirtual 246, 3) := by decide +kernel
theorem dX11_likesMore_42 : decode cX11_likesMore 42 = .ok (.istore 5, 2) := by decide +kernel
theorem dX11_likesMore_44 : decode cX11_likesMore 44 = .ok (.iload 4, 2) := by decide +kernel
theorem dX11_likesMore_46 : decode cX11_likesMore 46 = .ok (.iload 5, 2) := by decide +kernel
theorem dX11_likesMore_48 : decode cX11_likesMore 48 = .ok (.if_icmp .gt 15, 3) := by decide +kernel
theorem dX11_likesMore_51 : decode cX11_likesMore 51 = .ok (.iload 4, 2) := by decide +kernel
theorem dX11_likesMore_53 : decode cX11_likesMore 53 = .ok (.iload 5, 2) := by decide +kernel
theorem dX11_likesMore_55 : decode cX11_likesMore 55 = .ok (.if_icmp .ne 12, 3) := by decide +kernel
theorem dX11_likesMore_58 : decode cX11_likesMore 58 = .ok (.iload_n 2, 1) := by decide +kernel
theorem dX11_likesMore_59 : decode cX11_likesMore 59 = .ok (.iload_n 3, 1) := by decide +kernel
theorem dX11_likesMore_60 : decode cX11_likesMore 60 = .ok (.if_icmp .ge 7, 3) := by decide +kernel
theorem dX11_likesMore_63 : decode cX11_likesMore 63 = .ok (.iconst 1, 1) := by decide +kernel
theorem dX11_likesMore_64 : decode cX11_likesMore 64 = .ok (.goto 4, 3) := by decide +kernel
theorem dX11_likesMore_67 : decode cX11_likesMore 67 = .ok (.iconst 0, 1) := by decide +kernel
theorem dX11_likesMore_68 : decode cX11_likesMore 68 = .ok (.ireturn, 1) := by decide +kernel
theorem dX11_isInRing_0 : decode cX11_isInRing 0 = .ok (.iload_n 1, 1) := by decide +kernel
theorem dX11_isInRing_1 : decode cX11_isInRing 1 = .ok (.istore_n 3, 1) := by decide +kernel
theorem dX11_isInRing_2 : decode cX11_isInRing 2 = .ok (.iconst 0, 1) := by decide +kernel
theorem dX11_isInRing_3 : decode cX11_isInRing 3 = .ok (.istore 4, 2) := by decide +kernel
theorem dX11_isInRing_5 : decode cX11_isInRing 5 = .ok (.iload 4, 2) := by decide +kernel
theorem dX11_isInRing_7 : decode cX11_isInRing 7 = .ok (.aload_n 2, 1) := by decide +kernel
theorem dX11_isInRing_8 : decode cX11_isInRing 8 = .ok (.arraylength, 1) := by decide +kernel
theorem dX11_isInRing_9 : decode cX11_isInRing 9 = .ok (.if_icmp .ge 20, 3) := by decide +kernel
theorem dX11_isInRing_12 : decode cX11_isInRing 12 = .ok (.aload_n 2, 1) := by decide +kernel
theorem dX11_isInRing_13 : decode cX11_isInRing 13 = .ok (.iload_n 3, 1) := by decide +kernel
theorem dX11_isInRing_14 : decode cX11_isInRing 14 = .ok (.iaload, 1) := by decide +kernel
theorem dX11_isInRing_15 : decode cX11_isInRing 15 = .ok (.istore_n 3, 1) := by decide +kernel
theorem dX11_isInRing_16 : decode cX11_isInRing 16 = .ok (.iload_n 3, 1) := by decide +kernel
theorem dX11_isInRing_17 : decode cX11_isInRing 17 = .ok (.iload_n 1, 1) := by decide +kernel
theorem dX11_isInRing_18 : decode cX11_isInRing 18 = .ok (.if_icmp .ne 5, 3) := by decide +kernel
theorem dX11_isInRing_21 : decode cX11_isInRing 21 = .ok (.iconst 1, 1) := by decide +kernel
theorem dX11_isInRing_22 : decode cX11_isInRing 22 = .ok (.ireturn, 1) := by decide +kernel
theorem dX11_isInRing_23 : decode cX11_isInRing 23 = .ok (.iinc 4 1, 3) := by decide +kernel
theorem dX11_isInRing_26 : decode cX11_isInRing 26 = .ok (.goto (-21), 3) := by decide +kernel
theorem dX11_isInRing_29 : decode cX11_isInRing 29 = .ok (.iconst 0, 1) := by decide +kernel
theorem dX11_isInRing_30 : decode cX11_isInRing 30 = .ok (.ireturn, 1) := by decide +kernel
theorem dX11_yardsWet_0 : decode cX11_yardsWet 0 = .ok (.aload_n 0, 1) := by decide +kernel
theorem dX11_yardsWet_1 : decode cX11_yardsWet 1 = .ok (.getfield 48, 3) := by decide +kernel
theorem dX11_yardsWet_4 : decode cX11_yardsWet 4 = .ok (.invokevirtual 186, 3) := by decide +kernel
theorem dX11_yardsWet_7 : decode cX11_yardsWet 7 = .ok (.istore_n 2, 1) := by decide +kernel
theorem dX11_yardsWet_8 : decode cX11_yardsWet 8 = .ok (.ldc_w 375, 3) := by decide +kernel
theorem dX11_yardsWet_11 : decode cX11_yardsWet 11 = .ok (.istore_n 3, 1) := by decide +kernel
theorem dX11_yardsWet_12 : decode cX11_yardsWet 12 = .ok (.iconst 0, 1) := by decide +kernel
theorem dX11_yardsWet_13 : decode cX11_yardsWet 13 = .ok (.istore 4, 2) := by decide +kernel
theorem dX11_yardsWet_15 : decode cX11_yardsWet 15 = .ok (.iconst 0, 1) := by decide +kernel
theorem dX11_yardsWet_16 : decode cX11_yardsWet 16 = .ok (.istore 5, 2) := by decide +kernel
theorem dX11_yardsWet_18 : decode cX11_yardsWet 18 = .ok (.iload 5, 2) := by decide +kernel
theorem dX11_yardsWet_20 : decode cX11_yardsWet 20 = .ok (.aload_n 0, 1) := by decide +kernel
theorem dX11_yardsWet_21 : decode cX11_yardsWet 21 = .ok (.getfield 48, 3) := by decide +kernel
theorem dX11_yardsWet_24 : decode cX11_yardsWet 24 = .ok (.getfield 168, 3) := by decide +kernel
theorem dX11_yardsWet_27 : decode cX11_yardsWet 27 = .ok (.getfield 172, 3) := by decide +kernel
theorem dX11_yardsWet_30 : decode cX11_yardsWet 30 = .ok (.if_icmp .ge 67, 3) := by decide +kernel
theorem dX11_yardsWet_33 : decode cX11_yardsWet 33 = .ok (.aload_n 0, 1) := by decide +kernel
theorem dX11_yardsWet_34 : decode cX11_yardsWet 34 = .ok (.iload_n 2, 1) := by decide +kernel
theorem dX11_yardsWet_35 : decode cX11_yardsWet 35 = .ok (.invokevirtual 264, 3) := by decide +kernel
theorem dX11_yardsWet_38 : decode cX11_yardsWet 38 = .ok (.istore 6, 2) := by decide +kernel
theorem dX11_yardsWet_40 : decode cX11_yardsWet 40 = .ok (.iload 6, 2) := by decide +kernel
theorem dX11_yardsWet_42 : decode cX11_yardsWet 42 = .ok (.ifCond .ge 6, 3) := by decide +kernel
theorem dX11_yardsWet_45 : decode cX11_yardsWet 45 = .ok (.goto 52, 3) := by decide +kernel
theorem dX11_yardsWet_48 : decode cX11_yardsWet 48 = .ok (.iload 4, 2) := by decide +kernel
theorem dX11_yardsWet_50 : decode cX11_yardsWet 50 = .ok (.aload_n 0, 1) := by decide +kernel
theorem dX11_yardsWet_51 : decode cX11_yardsWet 51 = .ok (.getfield 48, 3) := by decide +kernel
theorem dX11_yardsWet_54 : decode cX11_yardsWet 54 = .ok (.getfield 168, 3) := by decide +kernel
theorem dX11_yardsWet_57 : decode cX11_yardsWet 57 = .ok (.getfield 209, 3) := by decide +kernel
theorem dX11_yardsWet_60 : decode cX11_yardsWet 60 = .ok (.iload 6, 2) := by decide +kernel
theorem dX11_yardsWet_62 : decode cX11_yardsWet 62 = .ok (.iaload, 1) := by decide +kernel
theorem dX11_yardsWet_63 : decode cX11_yardsWet 63 = .ok (.ldc_w 375, 3) := by decide +kernel
theorem dX11_yardsWet_66 : decode cX11_yardsWet 66 = .ok (.iload_n 3, 1) := by decide +kernel
theorem dX11_yardsWet_67 : decode cX11_yardsWet 67 = .ok (.isub, 1) := by decide +kernel
theorem dX11_yardsWet_68 : decode cX11_yardsWet 68 = .ok (.imul, 1) := by decide +kernel
theorem dX11_yardsWet_69 : decode cX11_yardsWet 69 = .ok (.iadd, 1) := by decide +kernel
theorem dX11_yardsWet_70 : decode cX11_yardsWet 70 = .ok (.istore 4, 2) := by decide +kernel
theorem dX11_yardsWet_72 : decode cX11_yardsWet 72 = .ok (.iload_n 3, 1) := by decide +kernel
theorem dX11_yardsWet_73 : decode cX11_yardsWet 73 = .ok (.bipush 100, 2) := by decide +kernel
theorem dX11_yardsWet_75 : decode cX11_yardsWet 75 = .ok (.iload_n 1, 1) := by decide +kernel
theorem dX11_yardsWet_76 : decode cX11_yardsWet 76 = .ok (.isub, 1) := by decide +kernel
theorem dX11_yardsWet_77 : decode cX11_yardsWet 77 = .ok (.imul, 1) := by decide +kernel
theorem dX11_yardsWet_78 : decode cX11_yardsWet 78 = .ok (.bipush 100, 2) := by decide +kernel
theorem dX11_yardsWet_80 : decode cX11_yardsWet 80 = .ok (.idiv, 1) := by decide +kernel
theorem dX11_yardsWet_81 : decode cX11_yardsWet 81 = .ok (.istore_n 3, 1) := by decide +kernel
theorem dX11_yardsWet_82 : decode cX11_yardsWet 82 = .ok (.iload_n 2, 1) := by decide +kernel
theorem dX11_yardsWet_83 : decode cX11_yardsWet 83 = .ok (.iconst 1, 1) := by decide +kernel
theorem dX11_yardsWet_84 : decode cX11_yardsWet 84 = .ok (.iload 6, 2) := by decide +kernel
theorem dX11_yardsWet_86 : decode cX11_yardsWet 86 = .ok (.ishl, 1) := by decide +kernel
theorem dX11_yardsWet_87 : decode cX11_yardsWet 87 = .ok (.iconst (-1), 1) := by decide +kernel
theorem dX11_yardsWet_88 : decode cX11_yardsWet 88 = .ok (.ixor, 1) := by decide +kernel
theorem dX11_yardsWet_89 : decode cX11_yardsWet 89 = .ok (.iand, 1) := by decide +kernel
theorem dX11_yardsWet_90 : decode cX11_yardsWet 90 = .ok (.istore_n 2, 1) := by decide +kernel
theorem dX11_yardsWet_91 : decode cX11_yardsWet 91 = .ok (.iinc 5 1, 3) := by decide +kernel
theorem dX11_yardsWet_94 : decode cX11_yardsWet 94 = .ok (.goto (-76), 3) := by decide +kernel
theorem dX11_yardsWet_97 : decode cX11_yardsWet 97 = .ok (.iload 4, 2) := by decide +kernel
theorem dX11_yardsWet_99 : decode cX11_yardsWet 99 = .ok (.ireturn, 1) := by decide +kernel
theorem dX11_takenNext_0 : decode cX11_takenNext 0 = .ok (.iconst (-1), 1) := by decide +kernel
theorem dX11_takenNext_1 : decode cX11_takenNext 1 = .ok (.istore_n 2, 1) := by decide +kernel
theorem dX11_takenNext_2 : decode cX11_takenNext 2 = .ok (.iconst 0, 1) := by decide +kernel
theorem dX11_takenNext_3 : decode cX11_takenNext 3 = .ok (.istore_n 3, 1) := by decide +kernel
theorem dX11_takenNext_4 : decode cX11_takenNext 4 = .ok (.iconst 0, 1) := by decide +kernel
theorem dX11_takenNext_5 : decode cX11_takenNext 5 = .ok (.istore 4, 2) := by decide +kernel
theorem dX11_takenNext_7 : decode cX11_takenNext 7 = .ok (.iload 4, 2) := by decide +kernel
theorem dX11_takenNext_9 : decode cX11_takenNext 9 = .ok (.aload_n 0, 1) := by decide +kernel
theorem dX11_takenNext_10 : decode cX11_takenNext 10 = .ok (.getfield 48, 3) := by decide +kernel
theorem dX11_takenNext_13 : decode cX11_takenNext 13 = .ok (.getfield 168, 3) := by decide +kernel
theorem dX11_takenNext_16 : decode cX11_takenNext 16 = .ok (.getfield 172, 3) := by decide +kernel
theorem dX11_takenNext_19 : decode cX11_takenNext 19 = .ok (.if_icmp .ge 52, 3) := by decide +kernel
theorem dX11_takenNext_22 : decode cX11_takenNext 22 = .ok (.iload_n 1, 1) := by decide +kernel
theorem dX11_takenNext_23 : decode cX11_takenNext 23 = .ok (.iload 4, 2) := by decide +kernel
theorem dX11_takenNext_25 : decode cX11_takenNext 25 = .ok (.ishr, 1) := by decide +kernel
theorem dX11_takenNext_26 : decode cX11_takenNext 26 = .ok (.iconst 1, 1) := by decide +kernel
theorem dX11_takenNext_27 : decode cX11_takenNext 27 = .ok (.iand, 1) := by decide +kernel
theorem dX11_takenNext_28 : decode cX11_takenNext 28 = .ok (.ifCond .eq 37, 3) := by decide +kernel
theorem dX11_takenNext_31 : decode cX11_takenNext 31 = .ok (.aload_n 0, 1) := by decide +kernel
theorem dX11_takenNext_32 : decode cX11_takenNext 32 = .ok (.getfield 48, 3) := by decide +kernel
theorem dX11_takenNext_35 : decode cX11_takenNext 35 = .ok (.getfield 168, 3) := by decide +kernel
theorem dX11_takenNext_38 : decode cX11_takenNext 38 = .ok (.getfield 209, 3) := by decide +kernel
theorem dX11_takenNext_41 : decode cX11_takenNext 41 = .ok (.iload 4, 2) := by decide +kernel
theorem dX11_takenNext_43 : decode cX11_takenNext 43 = .ok (.iaload, 1) := by decide +kernel
theorem dX11_takenNext_44 : decode cX11_takenNext 44 = .ok (.iload_n 3, 1) := by decide +kernel
theorem dX11_takenNext_45 : decode cX11_takenNext 45 = .ok (.if_icmp .le 20, 3) := by decide +kernel
theorem dX11_takenNext_48 : decode cX11_takenNext 48 = .ok (.iload 4, 2) := by decide +kernel
theorem dX11_takenNext_50 : decode cX11_takenNext 50 = .ok (.istore_n 2, 1) := by decide +kernel
theorem dX11_takenNext_51 : decode cX11_takenNext 51 = .ok (.aload_n 0, 1) := by decide +kernel
theorem dX11_takenNext_52 : decode cX11_takenNext 52 = .ok (.getfield 48, 3) := by decide +kernel
theorem dX11_takenNext_55 : decode cX11_takenNext 55 = .ok (.getfield 168, 3) := by decide +kernel
theorem dX11_takenNext_58 : decode cX11_takenNext 58 = .ok (.getfield 209, 3) := by decide +kernel
theorem dX11_takenNext_61 : decode cX11_takenNext 61 = .ok (.iload 4, 2) := by decide +kernel
theorem dX11_takenNext_63 : decode cX11_takenNext 63 = .ok (.iaload, 1) := by decide +kernel
theorem dX11_takenNext_64 : decode cX11_takenNext 64 = .ok (.istore_n 3, 1) := by decide +kernel
theorem dX11_takenNext_65 : decode cX11_takenNext 65 = .ok (.iinc 4 1, 3) := by decide +kernel
theorem dX11_takenNext_68 : decode cX11_takenNext 68 = .ok (.goto (-61), 3) := by decide +kernel
theorem dX11_takenNext_71 : decode cX11_takenNext 71 = .ok (.iload_n 2, 1) := by decide +kernel
theorem dX11_takenNext_72 : decode cX11_takenNext 72 = .ok (.ireturn, 1) := by decide +kernel
theorem dX11_pieceAsked_0 : decode cX11_pieceAsked 0 = .ok (.aload_n 0, 1) := by decide +kernel
theorem dX11_pieceAsked_1 : decode cX11_pieceAsked 1 = .ok (.getfield 48, 3) := by decide +kernel
theorem dX11_pieceAsked_4 : decode cX11_pieceAsked 4 = .ok (.getfield 195, 3) := by decide +kernel
theorem dX11_pieceAsked_7 : decode cX11_pieceAsked 7 = .ok (.iload_n 1, 1) := by decide +kernel
theorem dX11_pieceAsked_8 : decode cX11_pieceAsked 8 = .ok (.iaload, 1) := by decide +kernel
theorem dX11_pieceAsked_9 : decode cX11_pieceAsked 9 = .ok (.istore_n 2, 1) := by decide +kernel
theorem dX11_pieceAsked_10 : decode cX11_pieceAsked 10 = .ok (.aload_n 0, 1) := by decide +kernel
theorem dX11_pieceAsked_11 : decode cX11_pieceAsked 11 = .ok (.getfield 48, 3) := by decide +kernel
theorem dX11_pieceAsked_14 : decode cX11_pieceAsked 14 = .ok (.getfield 168, 3) := by decide +kernel
theorem dX11_pieceAsked_17 : decode cX11_pieceAsked 17 = .ok (.getfield 209, 3) := by decide +kernel
theorem dX11_pieceAsked_20 : decode cX11_pieceAsked 20 = .ok (.iload_n 1, 1) := by decide +kernel
theorem dX11_pieceAsked_21 : decode cX11_pieceAsked 21 = .ok (.iaload, 1) := by decide +kernel
theorem dX11_pieceAsked_22 : decode cX11_pieceAsked 22 = .ok (.istore_n 3, 1) := by decide +kernel
theorem dX11_pieceAsked_23 : decode cX11_pieceAsked 23 = .ok (.aload_n 0, 1) := by decide +kernel
theorem dX11_pieceAsked_24 : decode cX11_pieceAsked 24 = .ok (.getfield 48, 3) := by decide +kernel
theorem dX11_pieceAsked_27 : decode cX11_pieceAsked 27 = .ok (.getfield 168, 3) := by decide +kernel
theorem dX11_pieceAsked_30 : decode cX11_pieceAsked 30 = .ok (.getfield 274, 3) := by decide +kernel
theorem dX11_pieceAsked_33 : decode cX11_pieceAsked 33 = .ok (.iload_n 1, 1) := by decide +kernel
theorem dX11_pieceAsked_34 : decode cX11_pieceAsked 34 = .ok (.iaload, 1) := by decide +kernel
theorem dX11_pieceAsked_35 : decode cX11_pieceAsked 35 = .ok (.tableswitch 89 1 4 #[29, 44, 59, 74], 29) := by decide +kernel
theorem dX11_pieceAsked_64 : decode cX11_pieceAsked 64 = .ok (.new 376, 3) := by decide +kernel
theorem dX11_pieceAsked_67 : decode cX11_pieceAsked 67 = .ok (.dup, 1) := by decide +kernel
theorem dX11_pieceAsked_68 : decode cX11_pieceAsked 68 = .ok (.iload_n 1, 1) := by decide +kernel
theorem dX11_pieceAsked_69 : decode cX11_pieceAsked 69 = .ok (.iload_n 2, 1) := by decide +kernel
theorem dX11_pieceAsked_70 : decode cX11_pieceAsked 70 = .ok (.iload_n 3, 1) := by decide +kernel
theorem dX11_pieceAsked_71 : decode cX11_pieceAsked 71 = .ok (.aload_n 0, 1) := by decide +kernel
theorem dX11_pieceAsked_72 : decode cX11_pieceAsked 72 = .ok (.getfield 26, 3) := by decide +kernel
theorem dX11_pieceAsked_75 : decode cX11_pieceAsked 75 = .ok (.invokespecial 378, 3) := by decide +kernel
theorem dX11_pieceAsked_78 : decode cX11_pieceAsked 78 = .ok (.areturn, 1) := by decide +kernel
theorem dX11_pieceAsked_79 : decode cX11_pieceAsked 79 = .ok (.new 381, 3) := by decide +kernel
theorem dX11_pieceAsked_82 : decode cX11_pieceAsked 82 = .ok (.dup, 1) := by decide +kernel
theorem dX11_pieceAsked_83 : decode cX11_pieceAsked 83 = .ok (.iload_n 1, 1) := by decide +kernel
theorem dX11_pieceAsked_84 : decode cX11_pieceAsked 84 = .ok (.iload_n 2, 1) := by decide +kernel
theorem dX11_pieceAsked_85 : decode cX11_pieceAsked 85 = .ok (.iload_n 3, 1) := by decide +kernel
theorem dX11_pieceAsked_86 : decode cX11_pieceAsked 86 = .ok (.aload_n 0, 1) := by decide +kernel
theorem dX11_pieceAsked_87 : decode cX11_pieceAsked 87 = .ok (.getfield 26, 3) := by decide +kernel
theorem dX11_pieceAsked_90 : decode cX11_pieceAsked 90 = .ok (.invokespecial 383, 3) := by decide +kernel
theorem dX11_pieceAsked_93 : decode cX11_pieceAsked 93 = .ok (.areturn, 1) := by decide +kernel
theorem dX11_pieceAsked_94 : decode cX11_pieceAsked 94 = .ok (.new 384, 3) := by decide +kernel
theorem dX11_pieceAsked_97 : decode cX11_pieceAsked 97 = .ok (.dup, 1) := by decide +kernel
theorem dX11_pieceAsked_98 : decode cX11_pieceAsked 98 = .ok (.iload_n 1, 1) := by decide +kernel
theorem dX11_pieceAsked_99 : decode cX11_pieceAsked 99 = .ok (.iload_n 2, 1) := by decide +kernel
theorem dX11_pieceAsked_100 : decode cX11_pieceAsked 100 = .ok (.iload_n 3, 1) := by decide +kernel
theorem dX11_pieceAsked_101 : decode cX11_pieceAsked 101 = .ok (.aload_n 0, 1) := by decide +kernel
theorem dX11_pieceAsked_102 : decode cX11_pieceAsked 102 = .ok (.getfield 26, 3) := by decide +kernel
theorem dX11_pieceAsked_105 : decode cX11_pieceAsked 105 = .ok (.invokespecial 386, 3) := by decide +kernel
theorem dX11_pieceAsked_108 : decode cX11_pieceAsked 108 = .ok (.areturn, 1) := by decide +kernel
theorem dX11_pieceAsked_109 : decode cX11_pieceAsked 109 = .ok (.new 387, 3) := by decide +kernel
theorem dX11_pieceAsked_112 : decode cX11_pieceAsked 112 = .ok (.dup, 1) := by decide +kernel
theorem dX11_pieceAsked_113 : decode cX11_pieceAsked 113 = .ok (.iload_n 1, 1) := by decide +kernel
theorem dX11_pieceAsked_114 : decode cX11_pieceAsked 114 = .ok (.iload_n 2, 1) := by decide +kernel
theorem dX11_pieceAsked_115 : decode cX11_pieceAsked 115 = .ok (.iload_n 3, 1) := by decide +kernel
theorem dX11_pieceAsked_116 : decode cX11_pieceAsked 116 = .ok (.aload_n 0, 1) := by decide +kernel
theorem dX11_pieceAsked_117 : decode cX11_pieceAsked 117 = .ok (.getfield 26, 3) := by decide +kernel
theorem dX11_pieceAsked_120 : decode cX11_pieceAsked 120 = .ok (.invokespecial 389, 3) := by decide +kernel
theorem dX11_pieceAsked_123 : decode cX11_pieceAsked 123 = .ok (.areturn, 1) := by decide +kernel
theorem dX11_pieceAsked_124 : decode cX11_pieceAsked 124 = .ok (.new 390, 3) := by decide +kernel
theorem dX11_pieceAsked_127 : decode cX11_pieceAsked 127 = .ok (.dup, 1) := by decide +kernel
theorem dX11_pieceAsked_128 : decode cX11_pieceAsked 128 = .ok (.iload_n 1, 1) := by decide +kernel
theorem dX11_pieceAsked_129 : decode cX11_pieceAsked 129 = .ok (.iload_n 2, 1) := by decide +kernel
theorem dX11_pieceAsked_130 : decode cX11_pieceAsked 130 = .ok (.iload_n 3, 1) := by decide +kernel
theorem dX11_pieceAsked_131 : decode cX11_pieceAsked 131 = .ok (.aload_n 0, 1) := by decide +kernel
theorem dX11_pieceAsked_132 : decode cX11_pieceAsked 132 = .ok (.getfield 26, 3) := by decide +kernel
theorem dX11_pieceAsked_135 : decode cX11_pieceAsked 135 = .ok (.invokespecial 392, 3) := by decide +kernel
theorem dX11_pieceAsked_138 : decode cX11_pieceAsked 138 = .ok (.areturn, 1) := by decide +kernel
theorem dX11_isOfKind_0 : decode cX11_isOfKind 0 = .ok (.iload_n 1, 1) := by decide +kernel
theorem dX11_isOfKind_1 : decode cX11_isOfKind 1 = .ok (.tableswitch 60 1 5 #[35, 40, 45, 50, 55], 35) := by decide +kernel
theorem dX11_isOfKind_36 : decode cX11_isOfKind 36 = .ok (.aload_n 0, 1) := by decide +kernel
theorem dX11_isOfKind_37 : decode cX11_isOfKind 37 = .ok (.instanceof 376, 3) := by decide +kernel
theorem dX11_isOfKind_40 : decode cX11_isOfKind 40 = .ok (.ireturn, 1) := by decide +kernel
theorem dX11_isOfKind_41 : decode cX11_isOfKind 41 = .ok (.aload_n 0, 1) := by decide +kernel
theorem dX11_isOfKind_42 : decode cX11_isOfKind 42 = .ok (.instanceof 381, 3) := by decide +kernel
theorem dX11_isOfKind_45 : decode cX11_isOfKind 45 = .ok (.ireturn, 1) := by decide +kernel
theorem dX11_isOfKind_46 : decode cX11_isOfKind 46 = .ok (.aload_n 0, 1) := by decide +kernel
theorem dX11_isOfKind_47 : decode cX11_isOfKind 47 = .ok (.instanceof 384, 3) := by decide +kernel
theorem dX11_isOfKind_50 : decode cX11_isOfKind 50 = .ok (.ireturn, 1) := by decide +kernel
theorem dX11_isOfKind_51 : decode cX11_isOfKind 51 = .ok (.aload_n 0, 1) := by decide +kernel
theorem dX11_isOfKind_52 : decode cX11_isOfKind 52 = .ok (.instanceof 387, 3) := by decide +kernel
theorem dX11_isOfKind_55 : decode cX11_isOfKind 55 = .ok (.ireturn, 1) := by decide +kernel
theorem dX11_isOfKind_56 : decode cX11_isOfKind 56 = .ok (.aload_n 0, 1) := by decide +kernel
theorem dX11_isOfKind_57 : decode cX11_isOfKind 57 = .ok (.instanceof 390, 3) := by decide +kernel
theorem dX11_isOfKind_60 : decode cX11_isOfKind 60 = .ok (.ireturn, 1) := by decide +kernel
theorem dX11_isOfKind_61 : decode cX11_isOfKind 61 = .ok (.iconst 1, 1) := by decide +kernel
theorem dX11_isOfKind_62 : decode cX11_isOfKind 62 = .ok (.ireturn, 1) := by decide +kernel
theorem dX12_init_0 : decode cX12_init 0 = .ok (.aload_n 0, 1) := by decide +kernel
theorem dX12_init_1 : decode cX12_init 1 = .ok (.invokespecial 1, 3) := by decide +kernel
theorem dX12_init_4 : decode cX12_init 4 = .ok (.aload_n 0, 1) := by decide +kernel
theorem dX12_init_5 : decode cX12_init 5 = .ok (.bipush 8, 2) := by decide +kernel
theorem dX12_init_7 : decode cX12_init 7 = .ok (.newarray .int, 2) := by decide +kernel
theorem dX12_init_9 : decode cX12_init 9 = .ok (.dup, 1) := by decide +kernel
theorem dX12_init_10 : decode cX12_init 10 = .ok (.iconst 0, 1) := by decide +kernel
theorem dX12_init_11 : decode cX12_init 11 = .ok (.iconst (-1), 1) := by decide +kernel
theorem dX12_init_12 : decode cX12_init 12 = .ok (.iastore, 1) := by decide +kernel
theorem dX12_init_13 : decode cX12_init 13 = .ok (.dup, 1) := by decide +kernel
theorem dX12_init_14 : decode cX12_init 14 = .ok (.iconst 1, 1) := by decide +kernel
theorem dX12_init_15 : decode cX12_init 15 = .ok (.iconst (-1), 1) := by decide +kernel
theorem dX12_init_16 : decode cX12_init 16 = .ok (.iastore, 1) := by decide +kernel
theorem dX12_init_17 : decode cX12_init 17 = .ok (.dup, 1) := by decide +kernel
theorem dX12_init_18 : decode cX12_init 18 = .ok (.iconst 2, 1) := by decide +kernel
theorem dX12_init_19 : decode cX12_init 19 = .ok (.iconst (-1), 1) := by decide +kernel
theorem dX12_init_20 : decode cX12_init 20 = .ok (.iastore, 1) := by decide +kernel
theorem dX12_init_21 : decode cX12_init 21 = .ok (.dup, 1) := by decide +kernel
theorem dX12_init_22 : decode cX12_init 22 = .ok (.iconst 3, 1) := by decide +kernel
theorem dX12_init_23 : decode cX12_init 23 = .ok (.iconst (-1), 1) := by decide +kernel
theorem dX12_init_24 : decode cX12_init 24 = .ok (.iastore, 1) := by decide +kernel
theorem dX12_init_25 : decode cX12_init 25 = .ok (.dup, 1) := by decide +kernel
theorem dX12_init_26 : decode cX12_init 26 = .ok (.iconst 4, 1) := by decide +kernel
theorem dX12_init_27 : decode cX12_init 27 = .ok (.iconst (-1), 1) := by decide +kernel
theorem dX12_init_28 : decode cX12_init 28 = .ok (.iastore, 1) := by decide +kernel
theorem dX12_init_29 : decode cX12_init 29 = .ok (.dup, 1) := by decide +kernel
theorem dX12_init_30 : decode cX12_init 30 = .ok (.iconst 5, 1) := by decide +kernel
theorem dX12_init_31 : decode cX12_init 31 = .ok (.iconst (-1), 1) := by decide +kernel
theorem dX12_init_32 : decode cX12_init 32 = .ok (.iastore, 1) := by decide +kernel
theorem dX12_init_33 : decode cX12_init 33 = .ok (.dup, 1) := by decide +kernel
theorem dX12_init_34 : decode cX12_init 34 = .ok (.bipush 6, 2) := by decide +kernel
theorem dX12_init_36 : decode cX12_init 36 = .ok (.iconst (-1), 1) := by decide +kernel
theorem dX12_init_37 : decode cX12_init 37 = .ok (.iastore, 1) := by decide +kernel
theorem dX12_init_38 : decode cX12_init 38 = .ok (.dup, 1) := by decide +kernel
theorem dX12_init_39 : decode cX12_init 39 = .ok (.bipush 7, 2) := by decide +kernel
theorem dX12_init_41 : decode cX12_init 41 = .ok (.iconst (-1), 1) := by decide +kernel
theorem dX12_init_42 : decode cX12_init 42 = .ok (.iastore, 1) := by decide +kernel
theorem dX12_init_43 : decode cX12_init 43 = .ok (.putfield 7, 3) := by decide +kernel
theorem dX12_init_46 : decode cX12_init 46 = .ok (.aload_n 0, 1) := by decide +kernel
theorem dX12_init_47 : decode cX12_init 47 = .ok (.bipush 8, 2) := by decide +kernel
theorem dX12_init_49 : decode cX12_init 49 = .ok (.newarray .int, 2) := by decide +kernel
theorem dX12_init_51 : decode cX12_init 51 = .ok (.putfield 13, 3) := by decide +kernel
theorem dX12_init_54 : decode cX12_init 54 = .ok (.aload_n 0, 1) := by decide +kernel
theorem dX12_init_55 : decode cX12_init 55 = .ok (.sipush 320, 3) := by decide +kernel
theorem dX12_init_58 : decode cX12_init 58 = .ok (.newarray .int, 2) := by decide +kernel
theorem dX12_init_60 : decode cX12_init 60 = .ok (.putfield 16, 3) := by decide +kernel
theorem dX12_init_63 : decode cX12_init 63 = .ok (.aload_n 0, 1) := by decide +kernel
theorem dX12_init_64 : decode cX12_init 64 = .ok (.sipush 144, 3) := by decide +kernel
theorem dX12_init_67 : decode cX12_init 67 = .ok (.newarray .int, 2) := by decide +kernel
theorem dX12_init_69 : decode cX12_init 69 = .ok (.putfield 19, 3) := by decide +kernel
theorem dX12_init_72 : decode cX12_init 72 = .ok (.aload_n 0, 1) := by decide +kernel
theorem dX12_init_73 : decode cX12_init 73 = .ok (.sipush 144, 3) := by decide +kernel
theorem dX12_init_76 : decode cX12_init 76 = .ok (.newarray .int, 2) := by decide +kernel
theorem dX12_init_78 : decode cX12_init 78 = .ok (.putfield 22, 3) := by decide +kernel
theorem dX12_init_81 : decode cX12_init 81 = .ok (.aload_n 0, 1) := by decide +kernel
theorem dX12_init_82 : decode cX12_init 82 = .ok (.sipush 500, 3) := by decide +kernel
theorem dX12_init_85 : decode cX12_init 85 = .ok (.newarray .int, 2) := by decide +kernel
theorem dX12_init_87 : decode cX12_init 87 = .ok (.putfield 25, 3) := by decide +kernel
theorem dX12_init_90 : decode cX12_init 90 = .ok (.aload_n 0, 1) := by decide +kernel
theorem dX12_init_91 : decode cX12_init 91 = .ok (.bipush 10, 2) := by decide +kernel
theorem dX12_init_93 : decode cX12_init 93 = .ok (.newarray .int, 2) := by decide +kernel
theorem dX12_init_95 : decode cX12_init 95 = .ok (.putfield 28, 3) := by decide +kernel
theorem dX12_init_98 : decode cX12_init 98 = .ok (.aload_n 0, 1) := by decide +kernel
theorem dX12_init_99 : decode cX12_init 99 = .ok (.bipush 10, 2) := by decide +kernel
theorem dX12_init_101 : decode cX12_init 101 = .ok (.newarray .int, 2) := by decide +kernel
theorem dX12_init_103 : decode cX12_init 103 = .ok (.putfield 31, 3) := by decide +kernel
theorem dX12_init_106 : decode cX12_init 106 = .ok (.aload_n 0, 1) := by decide +kernel
theorem dX12_init_107 : decode cX12_init 107 = .ok (.bipush 6, 2) := by decide +kernel
theorem dX12_init_109 : decode cX12_init 109 = .ok (.newarray .int, 2) := by decide +kernel
theorem dX12_init_111 : decode cX12_init 111 = .ok (.putfield 34, 3) := by decide +kernel
theorem dX12_init_114 : decode cX12_init 114 = .ok (.aload_n 0, 1) := by decide +kernel
theorem dX12_init_115 : decode cX12_init 115 = .ok (.bipush 6, 2) := by decide +kernel
theorem dX12_init_117 : decode cX12_init 117 = .ok (.newarray .int, 2) := by decide +kernel
theorem dX12_init_119 : decode cX12_init 119 = .ok (.putfield 37, 3) := by decide +kernel
theorem dX12_init_122 : decode cX12_init 122 = .ok (.aload_n 0, 1) := by decide +kernel
theorem dX12_init_123 : decode cX12_init 123 = .ok (.bipush 6, 2) := by decide +kernel
theorem dX12_init_125 : decode cX12_init 125 = .ok (.newarray .int, 2) := by decide +kernel
theorem dX12_init_127 : decode cX12_init 127 = .ok (.putfield 40, 3) := by decide +kernel
theorem dX12_init_130 : decode cX12_init 130 = .ok (.aload_n 0, 1) := by decide +kernel
theorem dX12_init_131 : decode cX12_init 131 = .ok (.iconst 2, 1) := by decide +kernel
theorem dX12_init_132 : decode cX12_init 132 = .ok (.newarray .boolean, 2) := by decide +kernel
theorem dX12_init_134 : decode cX12_init 134 = .ok (.putfield 43, 3) := by decide +kernel
theorem dX12_init_137 : decode cX12_init 137 = .ok (.aload_n 0, 1) := by decide +kernel
theorem dX12_init_138 : decode cX12_init 138 = .ok (.sipush 288, 3) := by decide +kernel
theorem dX12_init_141 : decode cX12_init 141 = .ok (.newarray .int, 2) := by decide +kernel
theorem dX12_init_143 : decode cX12_init 143 = .ok (.putfield 47, 3) := by decide +kernel
theorem dX12_init_146 : decode cX12_init 146 = .ok (.aload_n 0, 1) := by decide +kernel
theorem dX12_init_147 : decode cX12_init 147 = .ok (.bipush 16, 2) := by decide +kernel
theorem dX12_init_149 : decode cX12_init 149 = .ok (.newarray .int, 2) := by decide +kernel
theorem dX12_init_151 : decode cX12_init 151 = .ok (.putfield 50, 3) := by decide +kernel
theorem dX12_init_154 : decode cX12_init 154 = .ok (.return_, 1) := by decide +kernel
theorem dX12_in_0 : decode cX12_in 0 = .ok (.lload_n 0, 1) := by decide +kernel
theorem dX12_in_1 : decode cX12_in 1 = .ok (.lload_n 2, 1) := by decide +kernel
theorem dX12_in_2 : decode cX12_in 2 = .ok (.lcmp, 1) := by decide +kernel
theorem dX12_in_3 : decode cX12_in 3 = .ok (.ifCond .lt 14, 3) := by decide +kernel
theorem dX12_in_6 : decode cX12_in 6 = .ok (.lload_n 0, 1) := by decide +kernel
theorem dX12_in_7 : decode cX12_in 7 = .ok (.lload 4, 2) := by decide +kernel
theorem dX12_in_9 : decode cX12_in 9 = .ok (.lcmp, 1) := by decide +kernel
theorem dX12_in_10 : decode cX12_in 10 = .ok (.ifCond .gt 7, 3) := by decide +kernel
theorem dX12_in_13 : decode cX12_in 13 = .ok (.iconst 1, 1) := by decide +kernel
theorem dX12_in_14 : decode cX12_in 14 = .ok (.goto 4, 3) := by decide +kernel
theorem dX12_in_17 : decode cX12_in 17 = .ok (.iconst 0, 1) := by decide +kernel
theorem dX12_in_18 : decode cX12_in 18 = .ok (.ireturn, 1) := by decide +kernel
theorem dX12_finding_0 : decode cX12_finding 0 = .ok (.aload_n 0, 1) := by decide +kernel
theorem dX12_finding_1 : decode cX12_finding 1 = .ok (.iload_n 1, 1) := by decide +kernel
theorem dX12_finding_2 : decode cX12_finding 2 = .ok (.putfield 57, 3) := by decide +kernel
theorem dX12_finding_5 : decode cX12_finding 5 = .ok (.ldc 60, 2) := by decide +kernel
theorem dX12_finding_7 : decode cX12_finding 7 = .ok (.iload_n 1, 1) := by decide +kernel
theorem dX12_finding_8 : decode cX12_finding 8 = .ok (.isub, 1) := by decide +kernel
theorem dX12_finding_9 : decode cX12_finding 9 = .ok (.ireturn, 1) := by decide +kernel
theorem dX12_isRow_0 : decode cX12_isRow 0 = .ok (.iload_n 0, 1) := by decide +kernel
theorem dX12_isRow_1 : decode cX12_isRow 1 = .ok (.i2l, 1) := by decide +kernel
theorem dX12_isRow_2 : decode cX12_isRow 2 = .ok (.lconst 0, 1) := by decide +kernel
theorem dX12_isRow_3 : decode cX12_isRow 3 = .ok (.ldc2_w 61, 3) := by decide +kernel
theorem dX12_isRow_6 : decode cX12_isRow 6 = .ok (.invokestatic 63, 3) := by decide +kernel
theorem dX12_isRow_9 : decode cX12_isRow 9 = .ok (.ireturn, 1) := by decide +kernel
theorem dX12_row_0 : decode cX12_row 0 = .ok (.aload_n 0, 1) := by decide +kernel
theorem dX12_row_1 : decode cX12_row 1 = .ok (.iconst 0, 1) := by decide +kernel
theorem dX12_row_2 : decode cX12_row 2 = .ok (.putfield 53, 3) := by decide +kernel
theorem dX12_row_5 : decode cX12_row 5 = .ok (.iload_n 1, 1) := by decide +kernel
theorem dX12_row_6 : decode cX12_row 6 = .ok (.invokestatic 67, 3) := by decide +kernel
theorem dX12_row_9 : decode cX12_row 9 = .ok (.ifCond .eq 21, 3) := by decide +kernel
theorem dX12_row_12 : decode cX12_row 12 = .ok (.iload_n 2, 1) := by decide +kernel
theorem dX12_row_13 : decode cX12_row 13 = .ok (.i2l, 1) := by decide +kernel
theorem dX12_row_14 : decode cX12_row 14 = .ok (.lconst 0, 1) := by decide +kernel
theorem dX12_row_15 : decode cX12_row 15 = .ok (.ldc2_w 71, 3) := by decide +kernel
theorem dX12_row_18 : decode cX12_row 18 = .ok (.invokestatic 63, 3) := by decide +kernel
theorem dX12_row_21 : decode cX12_row 21 = .ok (.ifCond .eq 9, 3) := by decide +kernel
theorem dX12_row_24 : decode cX12_row 24 = .ok (.iload_n 3, 1) := by decide +kernel
theorem dX12_row_25 : decode cX12_row 25 = .ok (.bipush 40, 2) := by decide +kernel
theorem dX12_row_27 : decode cX12_row 27 = .ok (.if_icmp .le 6, 3) := by decide +kernel
theorem dX12_row_30 : decode cX12_row 30 = .ok (.ldc 73, 2) := by decide +kernel
theorem dX12_row_32 : decode cX12_row 32 = .ok (.ireturn, 1) := by decide +kernel
theorem dX12_row_33 : decode cX12_row 33 = .ok (.aload_n 0, 1) := by decide +kernel
theorem dX12_row_34 : decode cX12_row 34 = .ok (.iconst 0, 1) := by decide +kernel
theorem dX12_row_35 : decode cX12_row 35 = .ok (.putfield 57, 3) := by decide +kernel
theorem dX12_row_38 : decode cX12_row 38 = .ok (.iload_n 3, 1) := by decide +kernel
theorem dX12_row_39 : decode cX12_row 39 = .ok (.ifCond .ge 9, 3) := by decide +kernel
theorem dX12_row_42 : decode cX12_row 42 = .ok (.aload_n 0, 1) := by decide +kernel
theorem dX12_row_43 : decode cX12_row 43 = .ok (.iconst 4, 1) := by decide +kernel
theorem dX12_row_44 : decode cX12_row 44 = .ok (.invokevirtual 74, 3) := by decide +kernel
theorem dX12_row_47 : decode cX12_row 47 = .ok (.ireturn, 1) := by decide +kernel
theorem dX12_row_48 : decode cX12_row 48 = .ok (.aload_n 0, 1) := by decide +kernel
theorem dX12_row_49 : decode cX12_row 49 = .ok (.getfield 7, 3) := by decide +kernel
theorem dX12_row_52 : decode cX12_row 52 = .ok (.iload_n 1, 1) := by decide +kernel
theorem dX12_row_53 : decode cX12_row 53 = .ok (.iload_n 2, 1) := by decide +kernel
theorem dX12_row_54 : decode cX12_row 54 = .ok (.iastore, 1) := by decide +kernel
theorem dX12_row_55 : decode cX12_row 55 = .ok (.aload_n 0, 1) := by decide +kernel
theorem dX12_row_56 : decode cX12_row 56 = .ok (.getfield 13, 3) := by decide +kernel
theorem dX12_row_59 : decode cX12_row 59 = .ok (.iload_n 1, 1) := by decide +kernel
theorem dX12_row_60 : decode cX12_row 60 = .ok (.iload_n 3, 1) := by decide +kernel
theorem dX12_row_61 : decode cX12_row 61 = .ok (.iastore, 1) := by decide +kernel
theorem dX12_row_62 : decode cX12_row 62 = .ok (.iconst 0, 1) := by decide +kernel
theorem dX12_row_63 : decode cX12_row 63 = .ok (.istore 4, 2) := by decide +kernel
theorem dX12_row_65 : decode cX12_row 65 = .ok (.iload 4, 2) := by decide +kernel
theorem dX12_row_67 : decode cX12_row 67 = .ok (.bipush 40, 2) := by decide +kernel
theorem dX12_row_69 : decode cX12_row 69 = .ok (.if_icmp .ge 22, 3) := by decide +kernel
theorem dX12_row_72 : decode cX12_row 72 = .ok (.aload_n 0, 1) := by decide +kernel
theorem dX12_row_73 : decode cX12_row 73 = .ok (.getfield 16, 3) := by decide +kernel
theorem dX12_row_76 : decode cX12_row 76 = .ok (.bipush 40, 2) := by decide +kernel
theorem dX12_row_78 : decode cX12_row 78 = .ok (.iload_n 1, 1) := by decide +kernel
theorem dX12_row_79 : decode cX12_row 79 = .ok (.imul, 1) := by decide +kernel
theorem dX12_row_80 : decode cX12_row 80 = .ok (.iload 4, 2) := by decide +kernel
theorem dX12_row_82 : decode cX12_row 82 = .ok (.iadd, 1) := by decide +kernel
theorem dX12_row_83 : decode cX12_row 83 = .ok (.iconst 0, 1) := by decide +kernel
theorem dX12_row_84 : decode cX12_row 84 = .ok (.iastore, 1) := by decide +kernel
theorem dX12_row_85 : decode cX12_row 85 = .ok (.iinc 4 1, 3) := by decide +kernel
theorem dX12_row_88 : decode cX12_row 88 = .ok (.goto (-23), 3) := by decide +kernel
theorem dX12_row_91 : decode cX12_row 91 = .ok (.iload_n 3, 1) := by decide +kernel
theorem dX12_row_92 : decode cX12_row 92 = .ok (.ireturn, 1) := by decide +kernel
theorem dX12_set_0 : decode cX12_set 0 = .ok (.aload_n 0, 1) := by decide +kernel
theorem dX12_set_1 : decode cX12_set 1 = .ok (.iconst 0, 1) := by decide +kernel
theorem dX12_set_2 : decode cX12_set 2 = .ok (.putfield 53, 3) := by decide +kernel
theorem dX12_set_5 : decode cX12_set 5 = .ok (.iload_n 1, 1) := by decide +kernel
theorem dX12_set_6 : decode cX12_set 6 = .ok (.invokestatic 67, 3) := by decide +kernel
theorem dX12_set_9 : decode cX12_set 9 = .ok (.ifCond .ne 6, 3) := by decide +kernel
theorem dX12_set_12 : decode cX12_set 12 = .ok (.ldc 73, 2) := by decide +kernel
theorem dX12_set_14 : decode cX12_set 14 = .ok (.ireturn, 1) := by decide +kernel
theorem dX12_set_15 : decode cX12_set 15 = .ok (.aload_n 0, 1) := by decide +kernel
theorem dX12_set_16 : decode cX12_set 16 = .ok (.iconst 0, 1) := by decide +kernel
theorem dX12_set_17 : decode cX12_set 17 = .ok (.putfield 57, 3) := by decide +kernel
theorem dX12_set_20 : decode cX12_set 20 = .ok (.aload_n 0, 1) := by decide +kernel
theorem dX12_set_21 : decode cX12_set 21 = .ok (.getfield 7, 3) := by decide +kernel
theorem dX12_set_24 : decode cX12_set 24 = .ok (.iload_n 1, 1) := by decide +kernel
theorem dX12_set_25 : decode cX12_set 25 = .ok (.iaload, 1) := by decide +kernel
theorem dX12_set_26 : decode cX12_set 26 = .ok (.ifCond .ge 9, 3) := by decide +kernel
theorem dX12_set_29 : decode cX12_set 29 = .ok (.aload_n 0, 1) := by decide +kernel
theorem dX12_set_30 : decode cX12_set 30 = .ok (.iconst 1, 1) := by decide +kernel
theorem dX12_set_31 : decode cX12_set 31 = .ok (.invokevirtual 74, 3) := by decide +kernel
theorem dX12_set_34 : decode cX12_set 34 = .ok (.ireturn, 1) := by decide +kernel
theorem dX12_set_35 : decode cX12_set 35 = .ok (.iload_n 2, 1) := by decide +kernel
theorem dX12_set_36 : decode cX12_set 36 = .ok (.i2l, 1) := by decide +kernel
theorem dX12_set_37 : decode cX12_set 37 = .ok (.lconst 0, 1) := by decide +kernel
theorem dX12_set_38 : decode cX12_set 38 = .ok (.aload_n 0, 1) := by decide +kernel
theorem dX12_set_39 : decode cX12_set 39 = .ok (.getfield 13, 3) := by decide +kernel
theorem dX12_set_42 : decode cX12_set 42 = .ok (.iload_n 1, 1) := by decide +kernel
theorem dX12_set_43 : decode cX12_set 43 = .ok (.iaload, 1) := by decide +kernel
theorem dX12_set_44 : decode cX12_set 44 = .ok (.iconst 1, 1) := by decide +kernel
theorem dX12_set_45 : decode cX12_set 45 = .ok (.isub, 1) := by decide +kernel
theorem dX12_set_46 : decode cX12_set 46 = .ok (.i2l, 1) := by decide +kernel
theorem dX12_set_47 : decode cX12_set 47 = .ok (.invokestatic 63, 3) := by decide +kernel
theorem dX12_set_50 : decode cX12_set 50 = .ok (.ifCond .ne 9, 3) := by decide +kernel
theorem dX12_set_53 : decode cX12_set 53 = .ok (.aload_n 0, 1) := by decide +kernel
theorem dX12_set_54 : decode cX12_set 54 = .ok (.iconst 2, 1) := by decide +kernel
theorem dX12_set_55 : decode cX12_set 55 = .ok (.invokevirtual 74, 3) := by decide +kernel
theorem dX12_set_58 : decode cX12_set 58 = .ok (.ireturn, 1) := by decide +kernel
theorem dX12_set_59 : decode cX12_set 59 = .ok (.aload_n 0, 1) := by decide +kernel
theorem dX12_set_60 : decode cX12_set 60 = .ok (.getfield 16, 3) := by decide +kernel
theorem dX12_set_63 : decode cX12_set 63 = .ok (.bipush 40, 2) := by decide +kernel
theorem dX12_set_65 : decode cX12_set 65 = .ok (.iload_n 1, 1) := by decide +kernel
theorem dX12_set_66 : decode cX12_set 66 = .ok (.imul, 1) := by decide +kernel
theorem dX12_set_67 : decode cX12_set 67 = .ok (.iload_n 2, 1) := by decide +kernel
theorem dX12_set_68 : decode cX12_set 68 = .ok (.iadd, 1) := by decide +kernel
theorem dX12_set_69 : decode cX12_set 69 = .ok (.aload_n 0, 1) := by decide +kernel
theorem dX12_set_70 : decode cX12_set 70 = .ok (.getfield 7, 3) := by decide +kernel
theorem dX12_set_73 : decode cX12_set 73 = .ok (.iload_n 1, 1) := by decide +kernel
theorem dX12_set_74 : decode cX12_set 74 = .ok (.iaload, 1) := by decide +kernel
theorem dX12_set_75 : decode cX12_set 75 = .ok (.ifCond .ne 8, 3) := by decide +kernel
theorem dX12_set_78 : decode cX12_set 78 = .ok (.iload_n 3, 1) := by decide +kernel
theorem dX12_set_79 : decode cX12_set 79 = .ok (.i2b, 1) := by decide +kernel
theorem dX12_set_80 : decode cX12_set 80 = .ok (.goto 19, 3) := by decide +kernel
theorem dX12_set_83 : decode cX12_set 83 = .ok (.aload_n 0, 1) := by decide +kernel
theorem dX12_set_84 : decode cX12_set 84 = .ok (.getfield 7, 3) := by decide +kernel
theorem dX12_set_87 : decode cX12_set 87 = .ok (.iload_n 1, 1) := by decide +kernel
theorem dX12_set_88 : decode cX12_set 88 = .ok (.iaload, 1) := by decide +kernel
theorem dX12_set_89 : decode cX12_set 89 = .ok (.iconst 1, 1) := by decide +kernel
theorem dX12_set_90 : decode cX12_set 90 = .ok (.if_icmp .ne 8, 3) := by decide +kernel
theorem dX12_set_93 : decode cX12_set 93 = .ok (.iload_n 3, 1) := by decide +kernel
theorem dX12_set_94 : decode cX12_set 94 = .ok (.i2s, 1) := by decide +kernel
theorem dX12_set_95 : decode cX12_set 95 = .ok (.goto 4, 3) := by decide +kernel
theorem dX12_set_98 : decode cX12_set 98 = .ok (.iload_n 3, 1) := by decide +kernel
theorem dX12_set_99 : decode cX12_set 99 = .ok (.iastore, 1) := by decide +kernel
theorem dX12_set_100 : decode cX12_set 100 = .ok (.aload_n 0, 1) := by decide +kernel
theorem dX12_set_101 : decode cX12_set 101 = .ok (.getfield 16, 3) := by decide +kernel
theorem dX12_set_104 : decode cX12_set 104 = .ok (.bipush 40, 2) := by decide +kernel
theorem dX12_set_106 : decode cX12_set 106 = .ok (.iload_n 1, 1) := by decide +kernel
theorem dX12_set_107 : decode cX12_set 107 = .ok (.imul, 1) := by decide +kernel
theorem dX12_set_108 : decode cX12_set 108 = .ok (.iload_n 2, 1) := by decide +kernel
theorem dX12_set_109 : decode cX12_set 109 = .ok (.iadd, 1) := by decide +kernel
theorem dX12_set_110 : decode cX12_set 110 = .ok (.iaload, 1) := by decide +kernel
theorem dX12_set_111 : decode cX12_set 111 = .ok (.ireturn, 1) := by decide +kernel
theorem dX12_copy_0 : decode cX12_copy 0 = .ok (.aload_n 0, 1) := by decide +kernel
theorem dX12_copy_1 : decode cX12_copy 1 = .ok (.iconst 0, 1) := by decide +kernel
theorem dX12_copy_2 : decode cX12_copy 2 = .ok (.putfield 53, 3) := by decide +kernel
theorem dX12_copy_5 : decode cX12_copy 5 = .ok (.iload_n 1, 1) := by decide +kernel
theorem dX12_copy_6 : decode cX12_copy 6 = .ok (.invokestatic 67, 3) := by decide +kernel
theorem dX12_copy_9 : decode cX12_copy 9 = .ok (.ifCond .eq 10, 3) := by decide +kernel
theorem dX12_copy_12 : decode cX12_copy 12 = .ok (.iload_n 3, 1) := by decide +kernel
theorem dX12_copy_13 : decode cX12_copy 13 = .ok (.invokestatic 67, 3) := by decide +kernel
theorem dX12_copy_16 : decode cX12_copy 16 = .ok (.ifCond .ne 6, 3) := by decide +kernel
theorem dX12_copy_19 : decode cX12_copy 19 = .ok (.ldc 73, 2) := by decide +kernel
theorem dX12_copy_21 : decode cX12_copy 21 = .ok (.ireturn, 1) := by decide +kernel
theorem dX12_copy_22 : decode cX12_copy 22 = .ok (.aload_n 0, 1) := by decide +kernel
theorem dX12_copy_23 : decode cX12_copy 23 = .ok (.iconst 0, 1) := by decide +kernel
theorem dX12_copy_24 : decode cX12_copy 24 = .ok (.putfield 57, 3) := by decide +kernel
theorem dX12_copy_27 : decode cX12_copy 27 = .ok (.aload_n 0, 1) := by decide +kernel
theorem dX12_copy_28 : decode cX12_copy 28 = .ok (.getfield 7, 3) := by decide +kernel
theorem dX12_copy_31 : decode cX12_copy 31 = .ok (.iload_n 1, 1) := by decide +kernel
theorem dX12_copy_32 : decode cX12_copy 32 = .ok (.iaload, 1) := by decide +kernel
theorem dX12_copy_33 : decode cX12_copy 33 = .ok (.ifCond .lt 12, 3) := by decide +kernel
theorem dX12_copy_36 : decode cX12_copy 36 = .ok (.aload_n 0, 1) := by decide +kernel
theorem dX12_copy_37 : decode cX12_copy 37 = .ok (.getfield 7, 3) := by decide +kernel
theorem dX12_copy_40 : decode cX12_copy 40 = .ok (.iload_n 3, 1) := by decide +kernel
theorem dX12_copy_41 : decode cX12_copy 41 = .ok (.iaload, 1) := by decide +kernel
theorem dX12_copy_42 : decode cX12_copy 42 = .ok (.ifCond .ge 9, 3) := by decide +kernel
theorem dX12_copy_45 : decode cX12_copy 45 = .ok (.aload_n 0, 1) := by decide +kernel
theorem dX12_copy_46 : decode cX12_copy 46 = .ok (.iconst 1, 1) := by decide +kernel
theorem dX12_copy_47 : decode cX12_copy 47 = .ok (.invokevirtual 74, 3) := by decide +kernel
theorem dX12_copy_50 : decode cX12_copy 50 = .ok (.ireturn, 1) := by decide +kernel
theorem dX12_copy_51 : decode cX12_copy 51 = .ok (.aload_n 0, 1) := by decide +kernel
theorem dX12_copy_52 : decode cX12_copy 52 = .ok (.getfield 7, 3) := by decide +kernel
theorem dX12_copy_55 : decode cX12_copy 55 = .ok (.iload_n 1, 1) := by decide +kernel
theorem dX12_copy_56 : decode cX12_copy 56 = .ok (.iaload, 1) := by decide +kernel
theorem dX12_copy_57 : decode cX12_copy 57 = .ok (.aload_n 0, 1) := by decide +kernel
theorem dX12_copy_58 : decode cX12_copy 58 = .ok (.getfield 7, 3) := by decide +kernel
theorem dX12_copy_61 : decode cX12_copy 61 = .ok (.iload_n 3, 1) := by decide +kernel
theorem dX12_copy_62 : decode cX12_copy 62 = .ok (.iaload, 1) := by decide +kernel
theorem dX12_copy_63 : decode cX12_copy 63 = .ok (.if_icmp .eq 9, 3) := by decide +kernel
theorem dX12_copy_66 : decode cX12_copy 66 = .ok (.aload_n 0, 1) := by decide +kernel
theorem dX12_copy_67 : decode cX12_copy 67 = .ok (.iconst 5, 1) := by decide +kernel
theorem dX12_copy_68 : decode cX12_copy 68 = .ok (.invokevirtual 74, 3) := by decide +kernel
theorem dX12_copy_71 : decode cX12_copy 71 = .ok (.ireturn, 1) := by decide +kernel
theorem dX12_copy_72 : decode cX12_copy 72 = .ok (.iload_n 2, 1) := by decide +kernel
theorem dX12_copy_73 : decode cX12_copy 73 = .ok (.ifCond .lt 48, 3) := by decide +kernel
theorem dX12_copy_76 : decode cX12_copy 76 = .ok (.iload 4, 2) := by decide +kernel
theorem dX12_copy_78 : decode cX12_copy 78 = .ok (.ifCond .lt 43, 3) := by decide +kernel
theorem dX12_copy_81 : decode cX12_copy 81 = .ok (.iload 5, 2) := by decide +kernel
theorem dX12_copy_83 : decode cX12_copy 83 = .ok (.ifCond .lt 38, 3) := by decide +kernel
theorem dX12_copy_86 : decode cX12_copy 86 = .ok (.iload_n 2, 1) := by decide +kernel
theorem dX12_copy_87 : decode cX12_copy 87 = .ok (.i2l, 1) := by decide +kernel
theorem dX12_copy_88 : decode cX12_copy 88 = .ok (.iload 5, 2) := by decide +kernel
theorem dX12_copy_90 : decode cX12_copy 90 = .ok (.i2l, 1) := by decide +kernel
theorem dX12_copy_91 : decode cX12_copy 91 = .ok (.ladd, 1) := by decide +kernel
theorem dX12_copy_92 : decode cX12_copy 92 = .ok (.aload_n 0, 1) := by decide +kernel
theorem dX12_copy_93 : decode cX12_copy 93 = .ok (.getfield 13, 3) := by decide +kernel
theorem dX12_copy_96 : decode cX12_copy 96 = .ok (.iload_n 1, 1) := by decide +kernel
theorem dX12_copy_97 : decode cX12_copy 97 = .ok (.iaload, 1) := by decide +kernel
theorem dX12_copy_98 : decode cX12_copy 98 = .ok (.i2l, 1) := by decide +kernel
theorem dX12_copy_99 : decode cX12_copy 99 = .ok (.lcmp, 1) := by decide +kernel
theorem dX12_copy_100 : decode cX12_copy 100 = .ok (.ifCond .gt 21, 3) := by decide +kernel
theorem dX12_copy_103 : decode cX12_copy 103 = .ok (.iload 4, 2) := by decide +kernel
theorem dX12_copy_105 : decode cX12_copy 105 = .ok (.i2l, 1) := by decide +kernel
theorem dX12_copy_106 : decode cX12_copy 106 = .ok (.iload 5, 2) := by decide +kernel
theorem dX12_copy_108 : decode cX12_copy 108 = .ok (.i2l, 1) := by decide +kernel
theorem dX12_copy_109 : decode cX12_copy 109 = .ok (.ladd, 1) := by decide +kernel
theorem dX12_copy_110 : decode cX12_copy 110 = .ok (.aload_n 0, 1) := by decide +kernel
theorem dX12_copy_111 : decode cX12_copy 111 = .ok (.getfield 13, 3) := by decide +kernel
theorem dX12_copy_114 : decode cX12_copy 114 = .ok (.iload_n 3, 1) := by decide +kernel
theorem dX12_copy_115 : decode cX12_copy 115 = .ok (.iaload, 1) := by decide +kernel
theorem dX12_copy_116 : decode cX12_copy 116 = .ok (.i2l, 1) := by decide +kernel
theorem dX12_copy_117 : decode cX12_copy 117 = .ok (.lcmp, 1) := by decide +kernel
theorem dX12_copy_118 : decode cX12_copy 118 = .ok (.ifCond .le 9, 3) := by decide +kernel
theorem dX12_copy_121 : decode cX12_copy 121 = .ok (.aload_n 0, 1) := by decide +kernel
theorem dX12_copy_122 : decode cX12_copy 122 = .ok (.iconst 2, 1) := by decide +kernel
theorem dX12_copy_123 : decode cX12_copy 123 = .ok (.invokevirtual 74, 3) := by decide +kernel
theorem dX12_copy_126 : decode cX12_copy 126 = .ok (.ireturn, 1) := by decide +kernel
theorem dX12_copy_127 : decode cX12_copy 127 = .ok (.iload_n 2, 1) := by decide +kernel
theorem dX12_copy_128 : decode cX12_copy 128 = .ok (.iload 4, 2) := by decide +kernel
theorem dX12_copy_130 : decode cX12_copy 130 = .ok (.if_icmp .lt 7, 3) := by decide +kernel
theorem dX12_copy_133 : decode cX12_copy 133 = .ok (.iconst 1, 1) := by decide +kernel
theorem dX12_copy_134 : decode cX12_copy 134 = .ok (.goto 4, 3) := by decide +kernel
theorem dX12_copy_137 : decode cX12_copy 137 = .ok (.iconst 0, 1) := by decide +kernel
theorem dX12_copy_138 : decode cX12_copy 138 = .ok (.istore 6, 2) := by decide +kernel
theorem dX12_copy_140 : decode cX12_copy 140 = .ok (.iconst 0, 1) := by decide +kernel
theorem dX12_copy_141 : decode cX12_copy 141 = .ok (.istore 7, 2) := by decide +kernel
theorem dX12_copy_143 : decode cX12_copy 143 = .ok (.iload 7, 2) := by decide +kernel
theorem dX12_copy_145 : decode cX12_copy 145 = .ok (.iload 5, 2) := by decide +kernel
theorem dX12_copy_147 : decode cX12_copy 147 = .ok (.if_icmp .ge 57, 3) := by decide +kernel
theorem dX12_copy_150 : decode cX12_copy 150 = .ok (.iload 6, 2) := by decide +kernel
theorem dX12_copy_152 : decode cX12_copy 152 = .ok (.ifCond .eq 8, 3) := by decide +kernel
theorem dX12_copy_155 : decode cX12_copy 155 = .ok (.iload 7, 2) := by decide +kernel
theorem dX12_copy_157 : decode cX12_copy 157 = .ok (.goto 10, 3) := by decide +kernel
theorem dX12_copy_160 : decode cX12_copy 160 = .ok (.iload 5, 2) := by decide +kernel
theorem dX12_copy_162 : decode cX12_copy 162 = .ok (.iconst 1, 1) := by decide +kernel
theorem dX12_copy_163 : decode cX12_copy 163 = .ok (.isub, 1) := by decide +kernel
theorem dX12_copy_164 : decode cX12_copy 164 = .ok (.iload 7, 2) := by decide +kernel
theorem dX12_copy_166 : decode cX12_copy 166 = .ok (.isub, 1) := by decide +kernel
theorem dX12_copy_167 : decode cX12_copy 167 = .ok (.istore 8, 2) := by decide +kernel
theorem dX12_copy_169 : decode cX12_copy 169 = .ok (.aload_n 0, 1) := by decide +kernel
theorem dX12_copy_170 : decode cX12_copy 170 = .ok (.getfield 16, 3) := by decide +kernel
theorem dX12_copy_173 : decode cX12_copy 173 = .ok (.bipush 40, 2) := by decide +kernel
theorem dX12_copy_175 : decode cX12_copy 175 = .ok (.iload_n 3, 1) := by decide +kernel
theorem dX12_copy_176 : decode cX12_copy 176 = .ok (.imul, 1) := by decide +kernel
theorem dX12_copy_177 : decode cX12_copy 177 = .ok (.iload 4, 2) := by decide +kernel
theorem dX12_copy_179 : decode cX12_copy 179 = .ok (.iadd, 1) := by decide +kernel
theorem dX12_copy_180 : decode cX12_copy 180 = .ok (.iload 8, 2) := by decide +kernel
theorem dX12_copy_182 : decode cX12_copy 182 = .ok (.iadd, 1) := by decide +kernel
theorem dX12_copy_183 : decode cX12_copy 183 = .ok (.aload_n 0, 1) := by decide +kernel
theorem dX12_copy_184 : decode cX12_copy 184 = .ok (.getfield 16, 3) := by decide +kernel
theorem dX12_copy_187 : decode cX12_copy 187 = .ok (.bipush 40, 2) := by decide +kernel
theorem dX12_copy_189 : decode cX12_copy 189 = .ok (.iload_n 1, 1) := by decide +kernel
theorem dX12_copy_190 : decode cX12_copy 190 = .ok (.imul, 1) := by decide +kernel
theorem dX12_copy_191 : decode cX12_copy 191 = .ok (.iload_n 2, 1) := by decide +kernel
theorem dX12_copy_192 : decode cX12_copy 192 = .ok (.iadd, 1) := by decide +kernel
theorem dX12_copy_193 : decode cX12_copy 193 = .ok (.iload 8, 2) := by decide +kernel
theorem dX12_copy_195 : decode cX12_copy 195 = .ok (.iadd, 1) := by decide +kernel
theorem dX12_copy_196 : decode cX12_copy 196 = .ok (.iaload, 1) := by decide +kernel
theorem dX12_copy_197 : decode cX12_copy 197 = .ok (.iastore, 1) := by decide +kernel
theorem dX12_copy_198 : decode cX12_copy 198 = .ok (.iinc 7 1, 3) := by decide +kernel
theorem dX12_copy_201 : decode cX12_copy 201 = .ok (.goto (-58), 3) := by decide +kernel
theorem dX12_copy_204 : decode cX12_copy 204 = .ok (.iload 5, 2) := by decide +kernel
theorem dX12_copy_206 : decode cX12_copy 206 = .ok (.ireturn, 1) := by decide +kernel
theorem dX12_drop_0 : decode cX12_drop 0 = .ok (.aload_n 0, 1) := by decide +kernel
theorem dX12_drop_1 : decode cX12_drop 1 = .ok (.iconst 0, 1) := by decide +kernel
theorem dX12_drop_2 : decode cX12_drop 2 = .ok (.putfield 53, 3) := by decide +kernel
theorem dX12_drop_5 : decode cX12_drop 5 = .ok (.iload_n 1, 1) := by decide +kernel
theorem dX12_drop_6 : decode cX12_drop 6 = .ok (.invokestatic 67, 3) := by decide +kernel
theorem dX12_drop_9 : decode cX12_drop 9 = .ok (.ifCond .ne 6, 3) := by decide +kernel
theorem dX12_drop_12 : decode cX12_drop 12 = .ok (.ldc 73, 2) := by decide +kernel
theorem dX12_drop_14 : decode cX12_drop 14 = .ok (.ireturn, 1) := by decide +kernel
theorem dX12_drop_15 : decode cX12_drop 15 = .ok (.aload_n 0, 1) := by decide +kernel
theorem dX12_drop_16 : decode cX12_drop 16 = .ok (.iconst 0, 1) := by decide +kernel
theorem dX12_drop_17 : decode cX12_drop 17 = .ok (.putfield 57, 3) := by decide +kernel
theorem dX12_drop_20 : decode cX12_drop 20 = .ok (.aload_n 0, 1) := by decide +kernel
theorem dX12_drop_21 : decode cX12_drop 21 = .ok (.getfield 7, 3) := by decide +kernel
theorem dX12_drop_24 : decode cX12_drop 24 = .ok (.iload_n 1, 1) := by decide +kernel
theorem dX12_drop_25 : decode cX12_drop 25 = .ok (.iaload, 1) := by decide +kernel
theorem dX12_drop_26 : decode cX12_drop 26 = .ok (.ifCond .ge 9, 3) := by decide +kernel
theorem dX12_drop_29 : decode cX12_drop 29 = .ok (.aload_n 0, 1) := by decide +kernel
theorem dX12_drop_30 : decode cX12_drop 30 = .ok (.iconst 1, 1) := by decide +kernel
theorem dX12_drop_31 : decode cX12_drop 31 = .ok (.invokevirtual 74, 3) := by decide +kernel
theorem dX12_drop_34 : decode cX12_drop 34 = .ok (.ireturn, 1) := by decide +kernel
theorem dX12_drop_35 : decode cX12_drop 35 = .ok (.aload_n 0, 1) := by decide +kernel
theorem dX12_drop_36 : decode cX12_drop 36 = .ok (.getfield 7, 3) := by decide +kernel
theorem dX12_drop_39 : decode cX12_drop 39 = .ok (.iload_n 1, 1) := by decide +kernel
theorem dX12_drop_40 : decode cX12_drop 40 = .ok (.iconst (-1), 1) := by decide +kernel
theorem dX12_drop_41 : decode cX12_drop 41 = .ok (.iastore, 1) := by decide +kernel
theorem dX12_drop_42 : decode cX12_drop 42 = .ok (.aload_n 0, 1) := by decide +kernel
theorem dX12_drop_43 : decode cX12_drop 43 = .ok (.getfield 13, 3) := by decide +kernel
theorem dX12_drop_46 : decode cX12_drop 46 = .ok (.iload_n 1, 1) := by decide +kernel
theorem dX12_drop_47 : decode cX12_drop 47 = .ok (.iaload, 1) := by decide +kernel
theorem dX12_drop_48 : decode cX12_drop 48 = .ok (.ireturn, 1) := by decide +kernel
theorem dX12_feed_0 : decode cX12_feed 0 = .ok (.aload_n 0, 1) := by decide +kernel
theorem dX12_feed_1 : decode cX12_feed 1 = .ok (.iconst 0, 1) := by decide +kernel
theorem dX12_feed_2 : decode cX12_feed 2 = .ok (.putfield 53, 3) := by decide +kernel
theorem dX12_feed_5 : decode cX12_feed 5 = .ok (.iload_n 3, 1) := by decide +kernel
theorem dX12_feed_6 : decode cX12_feed 6 = .ok (.i2l, 1) := by decide +kernel
theorem dX12_feed_7 : decode cX12_feed 7 = .ok (.lconst 1, 1) := by decide +kernel
theorem dX12_feed_8 : decode cX12_feed 8 = .ok (.ldc2_w 78, 3) := by decide +kernel
theorem dX12_feed_11 : decode cX12_feed 11 = .ok (.invokestatic 63, 3) := by decide +kernel
theorem dX12_feed_14 : decode cX12_feed 14 = .ok (.ifCond .ne 6, 3) := by decide +kernel
theorem dX12_feed_17 : decode cX12_feed 17 = .ok (.ldc 73, 2) := by decide +kernel
theorem dX12_feed_19 : decode cX12_feed 19 = .ok (.ireturn, 1) := by decide +kernel
theorem dX12_feed_20 : decode cX12_feed 20 = .ok (.aload_n 0, 1) := by decide +kernel
theorem dX12_feed_21 : decode cX12_feed 21 = .ok (.getfield 80, 3) := by decide +kernel
theorem dX12_feed_24 : decode cX12_feed 24 = .ok (.iload_n 3, 1) := by decide +kernel
theorem dX12_feed_25 : decode cX12_feed 25 = .ok (.iadd, 1) := by decide +kernel
theorem dX12_feed_26 : decode cX12_feed 26 = .ok (.sipush 500, 3) := by decide +kernel
theorem dX12_feed_29 : decode cX12_feed 29 = .ok (.if_icmp .le 6, 3) := by decide +kernel
theorem dX12_feed_32 : decode cX12_feed 32 = .ok (.ldc 83, 2) := by decide +kernel
theorem dX12_feed_34 : decode cX12_feed 34 = .ok (.ireturn, 1) := by decide +kernel
theorem dX12_feed_35 : decode cX12_feed 35 = .ok (.iload_n 3, 1) := by decide +kernel
theorem dX12_feed_36 : decode cX12_feed 36 = .ok (.iconst 1, 1) := by decide +kernel
theorem dX12_feed_37 : decode cX12_feed 37 = .ok (.isub, 1) := by decide +kernel
theorem dX12_feed_38 : decode cX12_feed 38 = .ok (.istore 4, 2) := by decide +kernel
theorem dX12_feed_40 : decode cX12_feed 40 = .ok (.iload 4, 2) := by decide +kernel
theorem dX12_feed_42 : decode cX12_feed 42 = .ok (.ifCond .lt 40, 3) := by decide +kernel
theorem dX12_feed_45 : decode cX12_feed 45 = .ok (.aload_n 0, 1) := by decide +kernel
theorem dX12_feed_46 : decode cX12_feed 46 = .ok (.getfield 25, 3) := by decide +kernel
theorem dX12_feed_49 : decode cX12_feed 49 = .ok (.aload_n 0, 1) := by decide +kernel
theorem dX12_feed_50 : decode cX12_feed 50 = .ok (.getfield 80, 3) := by decide +kernel
theorem dX12_feed_53 : decode cX12_feed 53 = .ok (.lload_n 1, 1) := by decide +kernel
theorem dX12_feed_54 : decode cX12_feed 54 = .ok (.bipush 8, 2) := by decide +kernel
theorem dX12_feed_56 : decode cX12_feed 56 = .ok (.iload 4, 2) := by decide +kernel
theorem dX12_feed_58 : decode cX12_feed 58 = .ok (.imul, 1) := by decide +kernel
theorem dX12_feed_59 : decode cX12_feed 59 = .ok (.lshr, 1) := by decide +kernel
theorem dX12_feed_60 : decode cX12_feed 60 = .ok (.ldc2_w 84, 3) := by decide +kernel
theorem dX12_feed_63 : decode cX12_feed 63 = .ok (.land, 1) := by decide +kernel
theorem dX12_feed_64 : decode cX12_feed 64 = .ok (.l2i, 1) := by decide +kernel
theorem dX12_feed_65 : decode cX12_feed 65 = .ok (.iastore, 1) := by decide +kernel
theorem dX12_feed_66 : decode cX12_feed 66 = .ok (.aload_n 0, 1) := by decide +kernel
theorem dX12_feed_67 : decode cX12_feed 67 = .ok (.dup, 1) := by decide +kernel
theorem dX12_feed_68 : decode cX12_feed 68 = .ok (.getfield 80, 3) := by decide +kernel
theorem dX12_feed_71 : decode cX12_feed 71 = .ok (.iconst 1, 1) := by decide +kernel
theorem dX12_feed_72 : decode cX12_feed 72 = .ok (.iadd, 1) := by decide +kernel
theorem dX12_feed_73 : decode cX12_feed 73 = .ok (.putfield 80, 3) := by decide +kernel
theorem dX12_feed_76 : decode cX12_feed 76 = .ok (.iinc 4 (-1), 3) := by decide +kernel
theorem dX12_feed_79 : decode cX12_feed 79 = .ok (.goto (-39), 3) := by decide +kernel
theorem dX12_feed_82 : decode cX12_feed 82 = .ok (.aload_n 0, 1) := by decide +kernel
theorem dX12_feed_83 : decode cX12_feed 83 = .ok (.getfield 80, 3) := by decide +kernel
theorem dX12_feed_86 : decode cX12_feed 86 = .ok (.ireturn, 1) := by decide +kernel
theorem dX12_byteAt_0 : decode cX12_byteAt 0 = .ok (.iload_n 1, 1) := by decide +kernel
theorem dX12_byteAt_1 : decode cX12_byteAt 1 = .ok (.aload_n 0, 1) := by decide +kernel
theorem dX12_byteAt_2 : decode cX12_byteAt 2 = .ok (.getfield 86, 3) := by decide +kernel
theorem dX12_byteAt_5 : decode cX12_byteAt 5 = .ok (.if_icmp .ge 12, 3) := by decide +kernel
theorem dX12_byteAt_8 : decode cX12_byteAt 8 = .ok (.aload_n 0, 1) := by decide +kernel
theorem dX12_byteAt_9 : decode cX12_byteAt 9 = .ok (.getfield 25, 3) := by decide +kernel
theorem dX12_byteAt_12 : decode cX12_byteAt 12 = .ok (.iload_n 1, 1) := by decide +kernel
theorem dX12_byteAt_13 : decode cX12_byteAt 13 = .ok (.iaload, 1) := by decide +kernel
theorem dX12_byteAt_14 : decode cX12_byteAt 14 = .ok (.goto 5, 3) := by decide +kernel
theorem dX12_byteAt_17 : decode cX12_byteAt 17 = .ok (.ldc 89, 2) := by decide +kernel
theorem dX12_byteAt_19 : decode cX12_byteAt 19 = .ok (.ireturn, 1) := by decide +kernel
theorem dX12_isLetter_0 : decode cX12_isLetter 0 = .ok (.iload_n 0, 1) := by decide +kernel
theorem dX12_isLetter_1 : decode cX12_isLetter 1 = .ok (.bipush 97, 2) := by decide +kernel
theorem dX12_isLetter_3 : decode cX12_isLetter 3 = .ok (.if_icmp .lt 13, 3) := by decide +kernel
theorem dX12_isLetter_6 : decode cX12_isLetter 6 = .ok (.iload_n 0, 1) := by decide +kernel
theorem dX12_isLetter_7 : decode cX12_isLetter 7 = .ok (.bipush 122, 2) := by decide +kernel
theorem dX12_isLetter_9 : decode cX12_isLetter 9 = .ok (.if_icmp .gt 7, 3) := by decide +kernel
theorem dX12_isLetter_12 : decode cX12_isLetter 12 = .ok (.iconst 1, 1) := by decide +kernel
theorem dX12_isLetter_13 : decode cX12_isLetter 13 = .ok (.goto 4, 3) := by decide +kernel
theorem dX12_isLetter_16 : decode cX12_isLetter 16 = .ok (.iconst 0, 1) := by decide +kernel
theorem dX12_isLetter_17 : decode cX12_isLetter 17 = .ok (.ireturn, 1) := by decide +kernel
theorem dX12_isFigure_0 : decode cX12_isFigure 0 = .ok (.iload_n 0, 1) := by decide +kernel
theorem dX12_isFigure_1 : decode cX12_isFigure 1 = .ok (.bipush 48, 2) := by decide +kernel
theorem dX12_isFigure_3 : decode cX12_isFigure 3 = .ok (.if_icmp .lt 13, 3) := by decide +kernel
theorem dX12_isFigure_6 : decode cX12_isFigure 6 = .ok (.iload_n 0, 1) := by decide +kernel
theorem dX12_isFigure_7 : decode cX12_isFigure 7 = .ok (.bipush 57, 2) := by decide +kernel
theorem dX12_isFigure_9 : decode cX12_isFigure 9 = .ok (.if_icmp .gt 7, 3) := by decide +kernel
theorem dX12_isFigure_12 : decode cX12_isFigure 12 = .ok (.iconst 1, 1) := by decide +kernel
theorem dX12_isFigure_13 : decode cX12_isFigure 13 = .ok (.goto 4, 3) := by decide +kernel
theorem dX12_isFigure_16 : decode cX12_isFigure 16 = .ok (.iconst 0, 1) := by decide +kernel
theorem dX12_isFigure_17 : decode cX12_isFigure 17 = .ok (.ireturn, 1) := by decide +kernel
theorem dX12_next_0 : decode cX12_next 0 = .ok (.aload_n 0, 1) := by decide +kernel
theorem dX12_next_1 : decode cX12_next 1 = .ok (.aload_n 0, 1) := by decide +kernel
theorem dX12_next_2 : decode cX12_next 2 = .ok (.getfield 90, 3) := by decide +kernel
theorem dX12_next_5 : decode cX12_next 5 = .ok (.invokevirtual 93, 3) := by decide +kernel
theorem dX12_next_8 : decode cX12_next 8 = .ok (.bipush 32, 2) := by decide +kernel
theorem dX12_next_10 : decode cX12_next 10 = .ok (.if_icmp .eq 16, 3) := by decide +kernel
theorem dX12_next_13 : decode cX12_next 13 = .ok (.aload_n 0, 1) := by decide +kernel
theorem dX12_next_14 : decode cX12_next 14 = .ok (.aload_n 0, 1) := by decide +kernel
theorem dX12_next_15 : decode cX12_next 15 = .ok (.getfield 90, 3) := by decide +kernel
theorem dX12_next_18 : decode cX12_next 18 = .ok (.invokevirtual 93, 3) := by decide +kernel
theorem dX12_next_21 : decode cX12_next 21 = .ok (.bipush 10, 2) := by decide +kernel
theorem dX12_next_23 : decode cX12_next 23 = .ok (.if_icmp .ne 16, 3) := by decide +kernel
theorem dX12_next_26 : decode cX12_next 26 = .ok (.aload_n 0, 1) := by decide +kernel
theorem dX12_next_27 : decode cX12_next 27 = .ok (.dup, 1) := by decide +kernel
theorem dX12_next_28 : decode cX12_next 28 = .ok (.getfield 90, 3) := by decide +kernel
theorem dX12_next_31 : decode cX12_next 31 = .ok (.iconst 1, 1) := by decide +kernel
theorem dX12_next_32 : decode cX12_next 32 = .ok (.iadd, 1) := by decide +kernel
theorem dX12_next_33 : decode cX12_next 33 = .ok (.putfield 90, 3) := by decide +kernel
theorem dX12_next_36 : decode cX12_next 36 = .ok (.goto (-36), 3) := by decide +kernel
theorem dX12_next_39 : decode cX12_next 39 = .ok (.aload_n 0, 1) := by decide +kernel
theorem dX12_next_40 : decode cX12_next 40 = .ok (.aload_n 0, 1) := by decide +kernel
theorem dX12_next_41 : decode cX12_next 41 = .ok (.getfield 90, 3) := by decide +kernel
theorem dX12_next_44 : decode cX12_next 44 = .ok (.putfield 96, 3) := by decide +kernel
theorem dX12_next_47 : decode cX12_next 47 = .ok (.aload_n 0, 1) := by decide +kernel
theorem dX12_next_48 : decode cX12_next 48 = .ok (.aload_n 0, 1) := by decide +kernel
theorem dX12_next_49 : decode cX12_next 49 = .ok (.getfield 90, 3) := by decide +kernel
theorem dX12_next_52 : decode cX12_next 52 = .ok (.invokevirtual 93, 3) := by decide +kernel
theorem dX12_next_55 : decode cX12_next 55 = .ok (.istore_n 1, 1) := by decide +kernel
theorem dX12_next_56 : decode cX12_next 56 = .ok (.iload_n 1, 1) := by decide +kernel
theorem dX12_next_57 : decode cX12_next 57 = .ok (.ldc 89, 2) := by decide +kernel
theorem dX12_next_59 : decode cX12_next 59 = .ok (.if_icmp .ne 11, 3) := by decide +kernel
theorem dX12_next_62 : decode cX12_next 62 = .ok (.aload_n 0, 1) := by decide +kernel
theorem dX12_next_63 : decode cX12_next 63 = .ok (.iconst 1, 1) := by decide +kernel
theorem dX12_next_64 : decode cX12_next 64 = .ok (.putfield 99, 3) := by decide +kernel
theorem dX12_next_67 : decode cX12_next 67 = .ok (.goto 129, 3) := by decide +kernel
theorem dX12_next_70 : decode cX12_next 70 = .ok (.iload_n 1, 1) := by decide +kernel
theorem dX12_next_71 : decode cX12_next 71 = .ok (.invokestatic 102, 3) := by decide +kernel
theorem dX12_next_74 : decode cX12_next 74 = .ok (.ifCond .eq 38, 3) := by decide +kernel
theorem dX12_next_77 : decode cX12_next 77 = .ok (.aload_n 0, 1) := by decide +kernel
theorem dX12_next_78 : decode cX12_next 78 = .ok (.aload_n 0, 1) := by decide +kernel
theorem dX12_next_79 : decode cX12_next 79 = .ok (.getfield 90, 3) := by decide +kernel
theorem dX12_next_82 : decode cX12_next 82 = .ok (.invokevirtual 93, 3) := by decide +kernel
theorem dX12_next_85 : decode cX12_next 85 = .ok (.invokestatic 102, 3) := by decide +kernel
theorem dX12_next_88 : decode cX12_next 88 = .ok (.ifCond .eq 16, 3) := by decide +kernel
theorem dX12_next_91 : decode cX12_next 91 = .ok (.aload_n 0, 1) := by decide +kernel
theorem dX12_next_92 : decode cX12_next 92 = .ok (.dup, 1) := by decide +kernel
theorem dX12_next_93 : decode cX12_next 93 = .ok (.getfield 90, 3) := by decide +kernel
theorem dX12_next_96 : decode cX12_next 96 = .ok (.iconst 1, 1) := by decide +kernel
theorem dX12_next_97 : decode cX12_next 97 = .ok (.iadd, 1) := by decide +kernel
theorem dX12_next_98 : decode cX12_next 98 = .ok (.putfield 90, 3) := by decide +kernel
theorem dX12_next_101 : decode cX12_next 101 = .ok (.goto (-24), 3) := by decide +kernel
theorem dX12_next_104 : decode cX12_next 104 = .ok (.aload_n 0, 1) := by decide +kernel
theorem dX12_next_105 : decode cX12_next 105 = .ok (.iconst 2, 1) := by decide +kernel
theorem dX12_next_106 : decode cX12_next 106 = .ok (.putfield 99, 3) := by decide +kernel
theorem dX12_next_109 : decode cX12_next 109 = .ok (.goto 87, 3) := by decide +kernel
theorem dX12_next_112 : decode cX12_next 112 = .ok (.iload_n 1, 1) := by decide +kernel
theorem dX12_next_113 : decode cX12_next 113 = .ok (.invokestatic 105, 3) := by decide +kernel
theorem dX12_next_116 : decode cX12_next 116 = .ok (.ifCond .eq 55, 3) := by decide +kernel
theorem dX12_next_119 : decode cX12_next 119 = .ok (.aload_n 0, 1) := by decide +kernel
theorem dX12_next_120 : decode cX12_next 120 = .ok (.aload_n 0, 1) := by decide +kernel
theorem dX12_next_121 : decode cX12_next 121 = .ok (.getfield 90, 3) := by decide +kernel
theorem dX12_next_124 : decode cX12_next 124 = .ok (.invokevirtual 93, 3) := by decide +kernel
theorem dX12_next_127 : decode cX12_next 127 = .ok (.invokestatic 105, 3) := by decide +kernel
theorem dX12_next_130 : decode cX12_next 130 = .ok (.ifCond .eq 16, 3) := by decide +kernel
theorem dX12_next_133 : decode cX12_next 133 = .ok (.aload_n 0, 1) := by decide +kernel
theorem dX12_next_134 : decode cX12_next 134 = .ok (.dup, 1) := by decide +kernel
theorem dX12_next_135 : decode cX12_next 135 = .ok (.getfield 90, 3) := by decide +kernel
theorem dX12_next_138 : decode cX12_next 138 = .ok (.iconst 1, 1) := by decide +kernel
theorem dX12_next_139 : decode cX12_next 139 = .ok (.iadd, 1) := by decide +kernel
theorem dX12_next_140 : decode cX12_next 140 = .ok (.putfield 90, 3) := by decide +kernel
theorem dX12_next_143 : decode cX12_next 143 = .ok (.goto (-24), 3) := by decide +kernel
theorem dX12_next_146 : decode cX12_next 146 = .ok (.aload_n 0, 1) := by decide +kernel
theorem dX12_next_147 : decode cX12_next 147 = .ok (.aload_n 0, 1) := by decide +kernel
theorem dX12_next_148 : decode cX12_next 148 = .ok (.getfield 90, 3) := by decide +kernel
theorem dX12_next_151 : decode cX12_next 151 = .ok (.aload_n 0, 1) := by decide +kernel
theorem dX12_next_152 : decode cX12_next 152 = .ok (.getfield 96, 3) := by decide +kernel
theorem dX12_next_155 : decode cX12_next 155 = .ok (.isub, 1) := by decide +kernel
theorem dX12_next_156 : decode cX12_next 156 = .ok (.iconst 3, 1) := by decide +kernel
theorem dX12_next_157 : decode cX12_next 157 = .ok (.if_icmp .le 7, 3) := by decide +kernel
theorem dX12_next_160 : decode cX12_next 160 = .ok (.iconst 0, 1) := by decide +kernel
theorem dX12_next_161 : decode cX12_next 161 = .ok (.goto 4, 3) := by decide +kernel
theorem dX12_next_164 : decode cX12_next 164 = .ok (.iconst 3, 1) := by decide +kernel
theorem dX12_next_165 : decode cX12_next 165 = .ok (.putfield 99, 3) := by decide +kernel
theorem dX12_next_168 : decode cX12_next 168 = .ok (.goto 28, 3) := by decide +kernel
theorem dX12_next_171 : decode cX12_next 171 = .ok (.aload_n 0, 1) := by decide +kernel
theorem dX12_next_172 : decode cX12_next 172 = .ok (.dup, 1) := by decide +kernel
theorem dX12_next_173 : decode cX12_next 173 = .ok (.getfield 90, 3) := by decide +kernel
theorem dX12_next_176 : decode cX12_next 176 = .ok (.iconst 1, 1) := by decide +kernel
theorem dX12_next_177 : decode cX12_next 177 = .ok (.iadd, 1) := by decide +kernel
theorem dX12_next_178 : decode cX12_next 178 = .ok (.putfield 90, 3) := by decide +kernel
theorem dX12_next_181 : decode cX12_next 181 = .ok (.aload_n 0, 1) := by decide +kernel
theorem dX12_next_182 : decode cX12_next 182 = .ok (.iload_n 1, 1) := by decide +kernel
theorem dX12_next_183 : decode cX12_next 183 = .ok (.bipush 59, 2) := by decide +kernel
theorem dX12_next_185 : decode cX12_next 185 = .ok (.if_icmp .ne 7, 3) := by decide +kernel
theorem dX12_next_188 : decode cX12_next 188 = .ok (.iconst 4, 1) := by decide +kernel
theorem dX12_next_189 : decode cX12_next 189 = .ok (.goto 4, 3) := by decide +kernel
theorem dX12_next_192 : decode cX12_next 192 = .ok (.iconst 0, 1) := by decide +kernel
theorem dX12_next_193 : decode cX12_next 193 = .ok (.putfield 99, 3) := by decide +kernel
theorem dX12_next_196 : decode cX12_next 196 = .ok (.aload_n 0, 1) := by decide +kernel
theorem dX12_next_197 : decode cX12_next 197 = .ok (.aload_n 0, 1) := by decide +kernel
