theorem dX0_init_0 : decode cX0_init 0 = .ok (.aload_n 0, 1) := by decide +kernel
theorem dX0_init_1 : decode cX0_init 1 = .ok (.invokespecial 3, 3) := by decide +kernel
theorem dX0_init_4 : decode cX0_init 4 = .ok (.aload_n 0, 1) := by decide +kernel
theorem dX0_init_5 : decode cX0_init 5 = .ok (.aload_n 1, 1) := by decide +kernel
theorem dX0_init_6 : decode cX0_init 6 = .ok (.putfield 9, 3) := by decide +kernel
theorem dX0_init_9 : decode cX0_init 9 = .ok (.return_, 1) := by decide +kernel
theorem dX0_keepState_0 : decode cX0_keepState 0 = .ok (.aload_n 0, 1) := by decide +kernel
theorem dX0_keepState_1 : decode cX0_keepState 1 = .ok (.getfield 9, 3) := by decide +kernel
theorem dX0_keepState_4 : decode cX0_keepState 4 = .ok (.iconst 0, 1) := by decide +kernel
theorem dX0_keepState_5 : decode cX0_keepState 5 = .ok (.iconst 1, 1) := by decide +kernel
theorem dX0_keepState_6 : decode cX0_keepState 6 = .ok (.aload_n 0, 1) := by decide +kernel
theorem dX0_keepState_7 : decode cX0_keepState 7 = .ok (.getfield 19, 3) := by decide +kernel
theorem dX0_keepState_10 : decode cX0_keepState 10 = .ok (.iadd, 1) := by decide +kernel
theorem dX0_keepState_11 : decode cX0_keepState 11 = .ok (.invokevirtual 22, 3) := by decide +kernel
theorem dX0_keepState_14 : decode cX0_keepState 14 = .ok (.aload_n 0, 1) := by decide +kernel
theorem dX0_keepState_15 : decode cX0_keepState 15 = .ok (.aload_n 0, 1) := by decide +kernel
theorem dX0_keepState_16 : decode cX0_keepState 16 = .ok (.getfield 19, 3) := by decide +kernel
theorem dX0_keepState_19 : decode cX0_keepState 19 = .ok (.iconst 5, 1) := by decide +kernel
theorem dX0_keepState_20 : decode cX0_keepState 20 = .ok (.if_icmp .ne 7, 3) := by decide +kernel
theorem dX0_keepState_23 : decode cX0_keepState 23 = .ok (.iconst 0, 1) := by decide +kernel
theorem dX0_keepState_24 : decode cX0_keepState 24 = .ok (.goto 9, 3) := by decide +kernel
theorem dX0_keepState_27 : decode cX0_keepState 27 = .ok (.aload_n 0, 1) := by decide +kernel
theorem dX0_keepState_28 : decode cX0_keepState 28 = .ok (.getfield 19, 3) := by decide +kernel
theorem dX0_keepState_31 : decode cX0_keepState 31 = .ok (.iconst 1, 1) := by decide +kernel
theorem dX0_keepState_32 : decode cX0_keepState 32 = .ok (.iadd, 1) := by decide +kernel
theorem dX0_keepState_33 : decode cX0_keepState 33 = .ok (.putfield 19, 3) := by decide +kernel
theorem dX0_keepState_36 : decode cX0_keepState 36 = .ok (.aload_n 0, 1) := by decide +kernel
theorem dX0_keepState_37 : decode cX0_keepState 37 = .ok (.aload_n 0, 1) := by decide +kernel
theorem dX0_keepState_38 : decode cX0_keepState 38 = .ok (.getfield 15, 3) := by decide +kernel
theorem dX0_keepState_41 : decode cX0_keepState 41 = .ok (.iconst 1, 1) := by decide +kernel
theorem dX0_keepState_42 : decode cX0_keepState 42 = .ok (.iadd, 1) := by decide +kernel
theorem dX0_keepState_43 : decode cX0_keepState 43 = .ok (.bipush 6, 2) := by decide +kernel
theorem dX0_keepState_45 : decode cX0_keepState 45 = .ok (.invokestatic 28, 3) := by decide +kernel
theorem dX0_keepState_48 : decode cX0_keepState 48 = .ok (.putfield 15, 3) := by decide +kernel
theorem dX0_keepState_51 : decode cX0_keepState 51 = .ok (.return_, 1) := by decide +kernel
theorem dX1_init_0 : decode cX1_init 0 = .ok (.aload_n 0, 1) := by decide +kernel
theorem dX1_init_1 : decode cX1_init 1 = .ok (.invokespecial 3, 3) := by decide +kernel
theorem dX1_init_4 : decode cX1_init 4 = .ok (.aload_n 0, 1) := by decide +kernel
theorem dX1_init_5 : decode cX1_init 5 = .ok (.new 9, 3) := by decide +kernel
theorem dX1_init_8 : decode cX1_init 8 = .ok (.dup, 1) := by decide +kernel
theorem dX1_init_9 : decode cX1_init 9 = .ok (.bipush 60, 2) := by decide +kernel
theorem dX1_init_11 : decode cX1_init 11 = .ok (.invokespecial 11, 3) := by decide +kernel
theorem dX1_init_14 : decode cX1_init 14 = .ok (.putfield 14, 3) := by decide +kernel
theorem dX1_init_17 : decode cX1_init 17 = .ok (.aload_n 0, 1) := by decide +kernel
theorem dX1_init_18 : decode cX1_init 18 = .ok (.new 9, 3) := by decide +kernel
theorem dX1_init_21 : decode cX1_init 21 = .ok (.dup, 1) := by decide +kernel
theorem dX1_init_22 : decode cX1_init 22 = .ok (.bipush 61, 2) := by decide +kernel
theorem dX1_init_24 : decode cX1_init 24 = .ok (.invokespecial 11, 3) := by decide +kernel
theorem dX1_init_27 : decode cX1_init 27 = .ok (.putfield 20, 3) := by decide +kernel
theorem dX1_init_30 : decode cX1_init 30 = .ok (.return_, 1) := by decide +kernel
theorem dX1_charactersIn_0 : decode cX1_charactersIn 0 = .ok (.lload_n 0, 1) := by decide +kernel
theorem dX1_charactersIn_1 : decode cX1_charactersIn 1 = .ok (.lstore_n 2, 1) := by decide +kernel
theorem dX1_charactersIn_2 : decode cX1_charactersIn 2 = .ok (.iconst 0, 1) := by decide +kernel
theorem dX1_charactersIn_3 : decode cX1_charactersIn 3 = .ok (.istore 4, 2) := by decide +kernel
theorem dX1_charactersIn_5 : decode cX1_charactersIn 5 = .ok (.iload 4, 2) := by decide +kernel
theorem dX1_charactersIn_7 : decode cX1_charactersIn 7 = .ok (.bipush 8, 2) := by decide +kernel
theorem dX1_charactersIn_9 : decode cX1_charactersIn 9 = .ok (.if_icmp .ge 51, 3) := by decide +kernel
theorem dX1_charactersIn_12 : decode cX1_charactersIn 12 = .ok (.lload_n 2, 1) := by decide +kernel
theorem dX1_charactersIn_13 : decode cX1_charactersIn 13 = .ok (.ldc2_w 23, 3) := by decide +kernel
theorem dX1_charactersIn_16 : decode cX1_charactersIn 16 = .ok (.land, 1) := by decide +kernel
theorem dX1_charactersIn_17 : decode cX1_charactersIn 17 = .ok (.lconst 0, 1) := by decide +kernel
theorem dX1_charactersIn_18 : decode cX1_charactersIn 18 = .ok (.lcmp, 1) := by decide +kernel
theorem dX1_charactersIn_19 : decode cX1_charactersIn 19 = .ok (.ifCond .eq 41, 3) := by decide +kernel
theorem dX1_charactersIn_22 : decode cX1_charactersIn 22 = .ok (.lload_n 2, 1) := by decide +kernel
theorem dX1_charactersIn_23 : decode cX1_charactersIn 23 = .ok (.ldc2_w 23, 3) := by decide +kernel
theorem dX1_charactersIn_26 : decode cX1_charactersIn 26 = .ok (.land, 1) := by decide +kernel
theorem dX1_charactersIn_27 : decode cX1_charactersIn 27 = .ok (.lstore 5, 2) := by decide +kernel
theorem dX1_charactersIn_29 : decode cX1_charactersIn 29 = .ok (.lload 5, 2) := by decide +kernel
theorem dX1_charactersIn_31 : decode cX1_charactersIn 31 = .ok (.ldc2_w 25, 3) := by decide +kernel
theorem dX1_charactersIn_34 : decode cX1_charactersIn 34 = .ok (.lcmp, 1) := by decide +kernel
theorem dX1_charactersIn_35 : decode cX1_charactersIn 35 = .ok (.ifCond .lt 12, 3) := by decide +kernel
theorem dX1_charactersIn_38 : decode cX1_charactersIn 38 = .ok (.lload 5, 2) := by decide +kernel
theorem dX1_charactersIn_40 : decode cX1_charactersIn 40 = .ok (.ldc2_w 27, 3) := by decide +kernel
theorem dX1_charactersIn_43 : decode cX1_charactersIn 43 = .ok (.lcmp, 1) := by decide +kernel
theorem dX1_charactersIn_44 : decode cX1_charactersIn 44 = .ok (.ifCond .le 5, 3) := by decide +kernel
theorem dX1_charactersIn_47 : decode cX1_charactersIn 47 = .ok (.iconst 0, 1) := by decide +kernel
theorem dX1_charactersIn_48 : decode cX1_charactersIn 48 = .ok (.ireturn, 1) := by decide +kernel
theorem dX1_charactersIn_49 : decode cX1_charactersIn 49 = .ok (.lload_n 2, 1) := by decide +kernel
theorem dX1_charactersIn_50 : decode cX1_charactersIn 50 = .ok (.bipush 8, 2) := by decide +kernel
theorem dX1_charactersIn_52 : decode cX1_charactersIn 52 = .ok (.lushr, 1) := by decide +kernel
theorem dX1_charactersIn_53 : decode cX1_charactersIn 53 = .ok (.lstore_n 2, 1) := by decide +kernel
theorem dX1_charactersIn_54 : decode cX1_charactersIn 54 = .ok (.iinc 4 1, 3) := by decide +kernel
theorem dX1_charactersIn_57 : decode cX1_charactersIn 57 = .ok (.goto (-52), 3) := by decide +kernel
theorem dX1_charactersIn_60 : decode cX1_charactersIn 60 = .ok (.lload_n 2, 1) := by decide +kernel
theorem dX1_charactersIn_61 : decode cX1_charactersIn 61 = .ok (.lconst 0, 1) := by decide +kernel
theorem dX1_charactersIn_62 : decode cX1_charactersIn 62 = .ok (.lcmp, 1) := by decide +kernel
theorem dX1_charactersIn_63 : decode cX1_charactersIn 63 = .ok (.ifCond .ne 8, 3) := by decide +kernel
theorem dX1_charactersIn_66 : decode cX1_charactersIn 66 = .ok (.iload 4, 2) := by decide +kernel
theorem dX1_charactersIn_68 : decode cX1_charactersIn 68 = .ok (.goto 4, 3) := by decide +kernel
theorem dX1_charactersIn_71 : decode cX1_charactersIn 71 = .ok (.iconst 0, 1) := by decide +kernel
theorem dX1_charactersIn_72 : decode cX1_charactersIn 72 = .ok (.ireturn, 1) := by decide +kernel
theorem dX1_length_0 : decode cX1_length 0 = .ok (.aload_n 0, 1) := by decide +kernel
theorem dX1_length_1 : decode cX1_length 1 = .ok (.getfield 29, 3) := by decide +kernel
theorem dX1_length_4 : decode cX1_length 4 = .ok (.ireturn, 1) := by decide +kernel
theorem dX1_empty_0 : decode cX1_empty 0 = .ok (.aload_n 0, 1) := by decide +kernel
theorem dX1_empty_1 : decode cX1_empty 1 = .ok (.iconst 0, 1) := by decide +kernel
theorem dX1_empty_2 : decode cX1_empty 2 = .ok (.putfield 29, 3) := by decide +kernel
theorem dX1_empty_5 : decode cX1_empty 5 = .ok (.return_, 1) := by decide +kernel
theorem dX1_append_0 : decode cX1_append 0 = .ok (.iload_n 3, 1) := by decide +kernel
theorem dX1_append_1 : decode cX1_append 1 = .ok (.iconst 1, 1) := by decide +kernel
theorem dX1_append_2 : decode cX1_append 2 = .ok (.isub, 1) := by decide +kernel
theorem dX1_append_3 : decode cX1_append 3 = .ok (.istore 4, 2) := by decide +kernel
theorem dX1_append_5 : decode cX1_append 5 = .ok (.iload 4, 2) := by decide +kernel
theorem dX1_append_7 : decode cX1_append 7 = .ok (.ifCond .lt 51, 3) := by decide +kernel
theorem dX1_append_10 : decode cX1_append 10 = .ok (.aload_n 0, 1) := by decide +kernel
theorem dX1_append_11 : decode cX1_append 11 = .ok (.getfield 29, 3) := by decide +kernel
theorem dX1_append_14 : decode cX1_append 14 = .ok (.bipush 60, 2) := by decide +kernel
theorem dX1_append_16 : decode cX1_append 16 = .ok (.if_icmp .ge 42, 3) := by decide +kernel
theorem dX1_append_19 : decode cX1_append 19 = .ok (.aload_n 0, 1) := by decide +kernel
theorem dX1_append_20 : decode cX1_append 20 = .ok (.getfield 14, 3) := by decide +kernel
theorem dX1_append_23 : decode cX1_append 23 = .ok (.aload_n 0, 1) := by decide +kernel
theorem dX1_append_24 : decode cX1_append 24 = .ok (.getfield 29, 3) := by decide +kernel
theorem dX1_append_27 : decode cX1_append 27 = .ok (.lload_n 1, 1) := by decide +kernel
theorem dX1_append_28 : decode cX1_append 28 = .ok (.iload 4, 2) := by decide +kernel
theorem dX1_append_30 : decode cX1_append 30 = .ok (.bipush 8, 2) := by decide +kernel
theorem dX1_append_32 : decode cX1_append 32 = .ok (.imul, 1) := by decide +kernel
theorem dX1_append_33 : decode cX1_append 33 = .ok (.lushr, 1) := by decide +kernel
theorem dX1_append_34 : decode cX1_append 34 = .ok (.ldc2_w 23, 3) := by decide +kernel
theorem dX1_append_37 : decode cX1_append 37 = .ok (.land, 1) := by decide +kernel
theorem dX1_append_38 : decode cX1_append 38 = .ok (.l2i, 1) := by decide +kernel
theorem dX1_append_39 : decode cX1_append 39 = .ok (.invokevirtual 33, 3) := by decide +kernel
theorem dX1_append_42 : decode cX1_append 42 = .ok (.aload_n 0, 1) := by decide +kernel
theorem dX1_append_43 : decode cX1_append 43 = .ok (.dup, 1) := by decide +kernel
theorem dX1_append_44 : decode cX1_append 44 = .ok (.getfield 29, 3) := by decide +kernel
theorem dX1_append_47 : decode cX1_append 47 = .ok (.iconst 1, 1) := by decide +kernel
theorem dX1_append_48 : decode cX1_append 48 = .ok (.iadd, 1) := by decide +kernel
theorem dX1_append_49 : decode cX1_append 49 = .ok (.putfield 29, 3) := by decide +kernel
theorem dX1_append_52 : decode cX1_append 52 = .ok (.iinc 4 (-1), 3) := by decide +kernel
theorem dX1_append_55 : decode cX1_append 55 = .ok (.goto (-50), 3) := by decide +kernel
theorem dX1_append_58 : decode cX1_append 58 = .ok (.return_, 1) := by decide +kernel
theorem dX1_firstWrong_0 : decode cX1_firstWrong 0 = .ok (.iconst 1, 1) := by decide +kernel
theorem dX1_firstWrong_1 : decode cX1_firstWrong 1 = .ok (.istore_n 1, 1) := by decide +kernel
theorem dX1_firstWrong_2 : decode cX1_firstWrong 2 = .ok (.aload_n 0, 1) := by decide +kernel
theorem dX1_firstWrong_3 : decode cX1_firstWrong 3 = .ok (.getfield 20, 3) := by decide +kernel
theorem dX1_firstWrong_6 : decode cX1_firstWrong 6 = .ok (.iconst 0, 1) := by decide +kernel
theorem dX1_firstWrong_7 : decode cX1_firstWrong 7 = .ok (.iconst 0, 1) := by decide +kernel
theorem dX1_firstWrong_8 : decode cX1_firstWrong 8 = .ok (.invokevirtual 33, 3) := by decide +kernel
theorem dX1_firstWrong_11 : decode cX1_firstWrong 11 = .ok (.iconst 0, 1) := by decide +kernel
theorem dX1_firstWrong_12 : decode cX1_firstWrong 12 = .ok (.istore_n 2, 1) := by decide +kernel
theorem dX1_firstWrong_13 : decode cX1_firstWrong 13 = .ok (.iload_n 2, 1) := by decide +kernel
theorem dX1_firstWrong_14 : decode cX1_firstWrong 14 = .ok (.aload_n 0, 1) := by decide +kernel
theorem dX1_firstWrong_15 : decode cX1_firstWrong 15 = .ok (.getfield 29, 3) := by decide +kernel
theorem dX1_firstWrong_18 : decode cX1_firstWrong 18 = .ok (.if_icmp .ge 112, 3) := by decide +kernel
theorem dX1_firstWrong_21 : decode cX1_firstWrong 21 = .ok (.iload_n 1, 1) := by decide +kernel
theorem dX1_firstWrong_22 : decode cX1_firstWrong 22 = .ok (.ifCond .ne 5, 3) := by decide +kernel
theorem dX1_firstWrong_25 : decode cX1_firstWrong 25 = .ok (.iload_n 2, 1) := by decide +kernel
theorem dX1_firstWrong_26 : decode cX1_firstWrong 26 = .ok (.ireturn, 1) := by decide +kernel
theorem dX1_firstWrong_27 : decode cX1_firstWrong 27 = .ok (.aload_n 0, 1) := by decide +kernel
theorem dX1_firstWrong_28 : decode cX1_firstWrong 28 = .ok (.getfield 20, 3) := by decide +kernel
theorem dX1_firstWrong_31 : decode cX1_firstWrong 31 = .ok (.iload_n 1, 1) := by decide +kernel
theorem dX1_firstWrong_32 : decode cX1_firstWrong 32 = .ok (.iconst 1, 1) := by decide +kernel
theorem dX1_firstWrong_33 : decode cX1_firstWrong 33 = .ok (.isub, 1) := by decide +kernel
theorem dX1_firstWrong_34 : decode cX1_firstWrong 34 = .ok (.invokevirtual 37, 3) := by decide +kernel
theorem dX1_firstWrong_37 : decode cX1_firstWrong 37 = .ok (.istore_n 3, 1) := by decide +kernel
theorem dX1_firstWrong_38 : decode cX1_firstWrong 38 = .ok (.aload_n 0, 1) := by decide +kernel
theorem dX1_firstWrong_39 : decode cX1_firstWrong 39 = .ok (.getfield 14, 3) := by decide +kernel
theorem dX1_firstWrong_42 : decode cX1_firstWrong 42 = .ok (.iload_n 2, 1) := by decide +kernel
theorem dX1_firstWrong_43 : decode cX1_firstWrong 43 = .ok (.invokevirtual 37, 3) := by decide +kernel
theorem dX1_firstWrong_46 : decode cX1_firstWrong 46 = .ok (.istore 4, 2) := by decide +kernel
theorem dX1_firstWrong_48 : decode cX1_firstWrong 48 = .ok (.iload 4, 2) := by decide +kernel
theorem dX1_firstWrong_50 : decode cX1_firstWrong 50 = .ok (.invokestatic 41, 3) := by decide +kernel
theorem dX1_firstWrong_53 : decode cX1_firstWrong 53 = .ok (.istore 5, 2) := by decide +kernel
theorem dX1_firstWrong_55 : decode cX1_firstWrong 55 = .ok (.iload 5, 2) := by decide +kernel
theorem dX1_firstWrong_57 : decode cX1_firstWrong 57 = .ok (.bipush (-6), 2) := by decide +kernel
theorem dX1_firstWrong_59 : decode cX1_firstWrong 59 = .ok (.if_icmp .eq 17, 3) := by decide +kernel
theorem dX1_firstWrong_62 : decode cX1_firstWrong 62 = .ok (.iload 5, 2) := by decide +kernel
theorem dX1_firstWrong_64 : decode cX1_firstWrong 64 = .ok (.ifCond .ne 14, 3) := by decide +kernel
theorem dX1_firstWrong_67 : decode cX1_firstWrong 67 = .ok (.iload 4, 2) := by decide +kernel
theorem dX1_firstWrong_69 : decode cX1_firstWrong 69 = .ok (.bipush 48, 2) := by decide +kernel
theorem dX1_firstWrong_71 : decode cX1_firstWrong 71 = .ok (.isub, 1) := by decide +kernel
theorem dX1_firstWrong_72 : decode cX1_firstWrong 72 = .ok (.iload_n 3, 1) := by decide +kernel
theorem dX1_firstWrong_73 : decode cX1_firstWrong 73 = .ok (.if_icmp .lt 5, 3) := by decide +kernel
theorem dX1_firstWrong_76 : decode cX1_firstWrong 76 = .ok (.iload_n 2, 1) := by decide +kernel
theorem dX1_firstWrong_77 : decode cX1_firstWrong 77 = .ok (.ireturn, 1) := by decide +kernel
theorem dX1_firstWrong_78 : decode cX1_firstWrong 78 = .ok (.iload 5, 2) := by decide +kernel
theorem dX1_firstWrong_80 : decode cX1_firstWrong 80 = .ok (.iconst 2, 1) := by decide +kernel
theorem dX1_firstWrong_81 : decode cX1_firstWrong 81 = .ok (.if_icmp .ne 19, 3) := by decide +kernel
theorem dX1_firstWrong_84 : decode cX1_firstWrong 84 = .ok (.aload_n 0, 1) := by decide +kernel
theorem dX1_firstWrong_85 : decode cX1_firstWrong 85 = .ok (.getfield 20, 3) := by decide +kernel
theorem dX1_firstWrong_88 : decode cX1_firstWrong 88 = .ok (.iload_n 1, 1) := by decide +kernel
theorem dX1_firstWrong_89 : decode cX1_firstWrong 89 = .ok (.iconst 1, 1) := by decide +kernel
theorem dX1_firstWrong_90 : decode cX1_firstWrong 90 = .ok (.isub, 1) := by decide +kernel
theorem dX1_firstWrong_91 : decode cX1_firstWrong 91 = .ok (.iload_n 3, 1) := by decide +kernel
theorem dX1_firstWrong_92 : decode cX1_firstWrong 92 = .ok (.iconst 1, 1) := by decide +kernel
theorem dX1_firstWrong_93 : decode cX1_firstWrong 93 = .ok (.iadd, 1) := by decide +kernel
theorem dX1_firstWrong_94 : decode cX1_firstWrong 94 = .ok (.invokevirtual 33, 3) := by decide +kernel
theorem dX1_firstWrong_97 : decode cX1_firstWrong 97 = .ok (.goto 27, 3) := by decide +kernel
theorem dX1_firstWrong_100 : decode cX1_firstWrong 100 = .ok (.iload 5, 2) := by decide +kernel
theorem dX1_firstWrong_102 : decode cX1_firstWrong 102 = .ok (.iconst 3, 1) := by decide +kernel
theorem dX1_firstWrong_103 : decode cX1_firstWrong 103 = .ok (.if_icmp .ne 18, 3) := by decide +kernel
theorem dX1_firstWrong_106 : decode cX1_firstWrong 106 = .ok (.aload_n 0, 1) := by decide +kernel
theorem dX1_firstWrong_107 : decode cX1_firstWrong 107 = .ok (.getfield 20, 3) := by decide +kernel
theorem dX1_firstWrong_110 : decode cX1_firstWrong 110 = .ok (.iload_n 1, 1) := by decide +kernel
theorem dX1_firstWrong_111 : decode cX1_firstWrong 111 = .ok (.iload_n 3, 1) := by decide +kernel
theorem dX1_firstWrong_112 : decode cX1_firstWrong 112 = .ok (.invokevirtual 33, 3) := by decide +kernel
theorem dX1_firstWrong_115 : decode cX1_firstWrong 115 = .ok (.iinc 1 1, 3) := by decide +kernel
theorem dX1_firstWrong_118 : decode cX1_firstWrong 118 = .ok (.goto 6, 3) := by decide +kernel
theorem dX1_firstWrong_121 : decode cX1_firstWrong 121 = .ok (.iinc 1 (-1), 3) := by decide +kernel
theorem dX1_firstWrong_124 : decode cX1_firstWrong 124 = .ok (.iinc 2 1, 3) := by decide +kernel
theorem dX1_firstWrong_127 : decode cX1_firstWrong 127 = .ok (.goto (-114), 3) := by decide +kernel
theorem dX1_firstWrong_130 : decode cX1_firstWrong 130 = .ok (.iload_n 1, 1) := by decide +kernel
theorem dX1_firstWrong_131 : decode cX1_firstWrong 131 = .ok (.ifCond .ne 8, 3) := by decide +kernel
theorem dX1_firstWrong_134 : decode cX1_firstWrong 134 = .ok (.bipush (-6), 2) := by decide +kernel
theorem dX1_firstWrong_136 : decode cX1_firstWrong 136 = .ok (.goto 7, 3) := by decide +kernel
theorem dX1_firstWrong_139 : decode cX1_firstWrong 139 = .ok (.aload_n 0, 1) := by decide +kernel
theorem dX1_firstWrong_140 : decode cX1_firstWrong 140 = .ok (.getfield 29, 3) := by decide +kernel
theorem dX1_firstWrong_143 : decode cX1_firstWrong 143 = .ok (.ireturn, 1) := by decide +kernel
theorem dX1_writeTo_0 : decode cX1_writeTo 0 = .ok (.aload_n 1, 1) := by decide +kernel
theorem dX1_writeTo_1 : decode cX1_writeTo 1 = .ok (.iload_n 2, 1) := by decide +kernel
theorem dX1_writeTo_2 : decode cX1_writeTo 2 = .ok (.invokevirtual 44, 3) := by decide +kernel
theorem dX1_writeTo_5 : decode cX1_writeTo 5 = .ok (.iconst 0, 1) := by decide +kernel
theorem dX1_writeTo_6 : decode cX1_writeTo 6 = .ok (.istore_n 3, 1) := by decide +kernel
theorem dX1_writeTo_7 : decode cX1_writeTo 7 = .ok (.iload_n 3, 1) := by decide +kernel
theorem dX1_writeTo_8 : decode cX1_writeTo 8 = .ok (.aload_n 0, 1) := by decide +kernel
theorem dX1_writeTo_9 : decode cX1_writeTo 9 = .ok (.getfield 29, 3) := by decide +kernel
theorem dX1_writeTo_12 : decode cX1_writeTo 12 = .ok (.if_icmp .ge 66, 3) := by decide +kernel
theorem dX1_writeTo_15 : decode cX1_writeTo 15 = .ok (.aload_n 0, 1) := by decide +kernel
theorem dX1_writeTo_16 : decode cX1_writeTo 16 = .ok (.getfield 14, 3) := by decide +kernel
theorem dX1_writeTo_19 : decode cX1_writeTo 19 = .ok (.iload_n 3, 1) := by decide +kernel
theorem dX1_writeTo_20 : decode cX1_writeTo 20 = .ok (.invokevirtual 37, 3) := by decide +kernel
theorem dX1_writeTo_23 : decode cX1_writeTo 23 = .ok (.istore 4, 2) := by decide +kernel
theorem dX1_writeTo_25 : decode cX1_writeTo 25 = .ok (.iload 4, 2) := by decide +kernel
theorem dX1_writeTo_27 : decode cX1_writeTo 27 = .ok (.invokestatic 41, 3) := by decide +kernel
theorem dX1_writeTo_30 : decode cX1_writeTo 30 = .ok (.istore 5, 2) := by decide +kernel
theorem dX1_writeTo_32 : decode cX1_writeTo 32 = .ok (.iconst 0, 1) := by decide +kernel
theorem dX1_writeTo_33 : decode cX1_writeTo 33 = .ok (.istore 6, 2) := by decide +kernel
theorem dX1_writeTo_35 : decode cX1_writeTo 35 = .ok (.iload 5, 2) := by decide +kernel
theorem dX1_writeTo_37 : decode cX1_writeTo 37 = .ok (.ifCond .ne 13, 3) := by decide +kernel
theorem dX1_writeTo_40 : decode cX1_writeTo 40 = .ok (.iload 4, 2) := by decide +kernel
theorem dX1_writeTo_42 : decode cX1_writeTo 42 = .ok (.bipush 48, 2) := by decide +kernel
theorem dX1_writeTo_44 : decode cX1_writeTo 44 = .ok (.isub, 1) := by decide +kernel
theorem dX1_writeTo_45 : decode cX1_writeTo 45 = .ok (.istore 6, 2) := by decide +kernel
theorem dX1_writeTo_47 : decode cX1_writeTo 47 = .ok (.goto 16, 3) := by decide +kernel
theorem dX1_writeTo_50 : decode cX1_writeTo 50 = .ok (.iload 5, 2) := by decide +kernel
theorem dX1_writeTo_52 : decode cX1_writeTo 52 = .ok (.iconst 1, 1) := by decide +kernel
theorem dX1_writeTo_53 : decode cX1_writeTo 53 = .ok (.if_icmp .ne 10, 3) := by decide +kernel
theorem dX1_writeTo_56 : decode cX1_writeTo 56 = .ok (.iload 4, 2) := by decide +kernel
theorem dX1_writeTo_58 : decode cX1_writeTo 58 = .ok (.bipush 97, 2) := by decide +kernel
theorem dX1_writeTo_60 : decode cX1_writeTo 60 = .ok (.isub, 1) := by decide +kernel
theorem dX1_writeTo_61 : decode cX1_writeTo 61 = .ok (.istore 6, 2) := by decide +kernel
theorem dX1_writeTo_63 : decode cX1_writeTo 63 = .ok (.aload_n 1, 1) := by decide +kernel
theorem dX1_writeTo_64 : decode cX1_writeTo 64 = .ok (.iload_n 2, 1) := by decide +kernel
theorem dX1_writeTo_65 : decode cX1_writeTo 65 = .ok (.iload 5, 2) := by decide +kernel
theorem dX1_writeTo_67 : decode cX1_writeTo 67 = .ok (.iload 6, 2) := by decide +kernel
theorem dX1_writeTo_69 : decode cX1_writeTo 69 = .ok (.invokevirtual 49, 3) := by decide +kernel
theorem dX1_writeTo_72 : decode cX1_writeTo 72 = .ok (.iinc 3 1, 3) := by decide +kernel
theorem dX1_writeTo_75 : decode cX1_writeTo 75 = .ok (.goto (-68), 3) := by decide +kernel
theorem dX1_writeTo_78 : decode cX1_writeTo 78 = .ok (.return_, 1) := by decide +kernel
theorem dX1_kindOf_0 : decode cX1_kindOf 0 = .ok (.iload_n 0, 1) := by decide +kernel
theorem dX1_kindOf_1 : decode cX1_kindOf 1 = .ok (.bipush 76, 2) := by decide +kernel
theorem dX1_kindOf_3 : decode cX1_kindOf 3 = .ok (.if_icmp .ne 5, 3) := by decide +kernel
theorem dX1_kindOf_6 : decode cX1_kindOf 6 = .ok (.iconst 2, 1) := by decide +kernel
theorem dX1_kindOf_7 : decode cX1_kindOf 7 = .ok (.ireturn, 1) := by decide +kernel
theorem dX1_kindOf_8 : decode cX1_kindOf 8 = .ok (.iload_n 0, 1) := by decide +kernel
theorem dX1_kindOf_9 : decode cX1_kindOf 9 = .ok (.bipush 64, 2) := by decide +kernel
theorem dX1_kindOf_11 : decode cX1_kindOf 11 = .ok (.if_icmp .ne 5, 3) := by decide +kernel
theorem dX1_kindOf_14 : decode cX1_kindOf 14 = .ok (.iconst 3, 1) := by decide +kernel
theorem dX1_kindOf_15 : decode cX1_kindOf 15 = .ok (.ireturn, 1) := by decide +kernel
theorem dX1_kindOf_16 : decode cX1_kindOf 16 = .ok (.iload_n 0, 1) := by decide +kernel
theorem dX1_kindOf_17 : decode cX1_kindOf 17 = .ok (.bipush 48, 2) := by decide +kernel
theorem dX1_kindOf_19 : decode cX1_kindOf 19 = .ok (.if_icmp .lt 11, 3) := by decide +kernel
theorem dX1_kindOf_22 : decode cX1_kindOf 22 = .ok (.iload_n 0, 1) := by decide +kernel
theorem dX1_kindOf_23 : decode cX1_kindOf 23 = .ok (.bipush 57, 2) := by decide +kernel
theorem dX1_kindOf_25 : decode cX1_kindOf 25 = .ok (.if_icmp .gt 5, 3) := by decide +kernel
theorem dX1_kindOf_28 : decode cX1_kindOf 28 = .ok (.iconst 0, 1) := by decide +kernel
theorem dX1_kindOf_29 : decode cX1_kindOf 29 = .ok (.ireturn, 1) := by decide +kernel
theorem dX1_kindOf_30 : decode cX1_kindOf 30 = .ok (.iload_n 0, 1) := by decide +kernel
theorem dX1_kindOf_31 : decode cX1_kindOf 31 = .ok (.bipush 97, 2) := by decide +kernel
theorem dX1_kindOf_33 : decode cX1_kindOf 33 = .ok (.if_icmp .lt 13, 3) := by decide +kernel
theorem dX1_kindOf_36 : decode cX1_kindOf 36 = .ok (.iload_n 0, 1) := by decide +kernel
theorem dX1_kindOf_37 : decode cX1_kindOf 37 = .ok (.bipush 103, 2) := by decide +kernel
theorem dX1_kindOf_39 : decode cX1_kindOf 39 = .ok (.if_icmp .ge 7, 3) := by decide +kernel
theorem dX1_kindOf_42 : decode cX1_kindOf 42 = .ok (.iconst 1, 1) := by decide +kernel
theorem dX1_kindOf_43 : decode cX1_kindOf 43 = .ok (.goto 5, 3) := by decide +kernel
theorem dX1_kindOf_46 : decode cX1_kindOf 46 = .ok (.bipush (-6), 2) := by decide +kernel
theorem dX1_kindOf_48 : decode cX1_kindOf 48 = .ok (.ireturn, 1) := by decide +kernel
theorem dX2_init_0 : decode cX2_init 0 = .ok (.aload_n 0, 1) := by decide +kernel
theorem dX2_init_1 : decode cX2_init 1 = .ok (.invokespecial 3, 3) := by decide +kernel
theorem dX2_init_4 : decode cX2_init 4 = .ok (.aload_n 0, 1) := by decide +kernel
theorem dX2_init_5 : decode cX2_init 5 = .ok (.aload_n 1, 1) := by decide +kernel
theorem dX2_init_6 : decode cX2_init 6 = .ok (.putfield 9, 3) := by decide +kernel
theorem dX2_init_9 : decode cX2_init 9 = .ok (.aload_n 0, 1) := by decide +kernel
theorem dX2_init_10 : decode cX2_init 10 = .ok (.aload_n 2, 1) := by decide +kernel
theorem dX2_init_11 : decode cX2_init 11 = .ok (.putfield 15, 3) := by decide +kernel
theorem dX2_init_14 : decode cX2_init 14 = .ok (.return_, 1) := by decide +kernel
theorem dX2_stepsDone_0 : decode cX2_stepsDone 0 = .ok (.aload_n 0, 1) := by decide +kernel
theorem dX2_stepsDone_1 : decode cX2_stepsDone 1 = .ok (.getfield 19, 3) := by decide +kernel
theorem dX2_stepsDone_4 : decode cX2_stepsDone 4 = .ok (.ireturn, 1) := by decide +kernel
theorem dX2_doSteps_0 : decode cX2_doSteps 0 = .ok (.aload_n 0, 1) := by decide +kernel
theorem dX2_doSteps_1 : decode cX2_doSteps 1 = .ok (.iconst 0, 1) := by decide +kernel
theorem dX2_doSteps_2 : decode cX2_doSteps 2 = .ok (.putfield 19, 3) := by decide +kernel
theorem dX2_doSteps_5 : decode cX2_doSteps 5 = .ok (.aload_n 0, 1) := by decide +kernel
theorem dX2_doSteps_6 : decode cX2_doSteps 6 = .ok (.aload_n 0, 1) := by decide +kernel
theorem dX2_doSteps_7 : decode cX2_doSteps 7 = .ok (.getfield 9, 3) := by decide +kernel
theorem dX2_doSteps_10 : decode cX2_doSteps 10 = .ok (.iload_n 1, 1) := by decide +kernel
theorem dX2_doSteps_11 : decode cX2_doSteps 11 = .ok (.invokevirtual 26, 3) := by decide +kernel
theorem dX2_doSteps_14 : decode cX2_doSteps 14 = .ok (.putfield 23, 3) := by decide +kernel
theorem dX2_doSteps_17 : decode cX2_doSteps 17 = .ok (.aload_n 0, 1) := by decide +kernel
theorem dX2_doSteps_18 : decode cX2_doSteps 18 = .ok (.getfield 15, 3) := by decide +kernel
theorem dX2_doSteps_21 : decode cX2_doSteps 21 = .ok (.iload_n 1, 1) := by decide +kernel
theorem dX2_doSteps_22 : decode cX2_doSteps 22 = .ok (.invokevirtual 32, 3) := by decide +kernel
theorem dX2_doSteps_25 : decode cX2_doSteps 25 = .ok (.iconst 0, 1) := by decide +kernel
theorem dX2_doSteps_26 : decode cX2_doSteps 26 = .ok (.istore 4, 2) := by decide +kernel
theorem dX2_doSteps_28 : decode cX2_doSteps 28 = .ok (.iload 4, 2) := by decide +kernel
theorem dX2_doSteps_30 : decode cX2_doSteps 30 = .ok (.iload_n 3, 1) := by decide +kernel
theorem dX2_doSteps_31 : decode cX2_doSteps 31 = .ok (.if_icmp .ge 84, 3) := by decide +kernel
theorem dX2_doSteps_34 : decode cX2_doSteps 34 = .ok (.aload_n 0, 1) := by decide +kernel
theorem dX2_doSteps_35 : decode cX2_doSteps 35 = .ok (.getfield 15, 3) := by decide +kernel
theorem dX2_doSteps_38 : decode cX2_doSteps 38 = .ok (.iload_n 2, 1) := by decide +kernel
theorem dX2_doSteps_39 : decode cX2_doSteps 39 = .ok (.invokevirtual 38, 3) := by decide +kernel
theorem dX2_doSteps_42 : decode cX2_doSteps 42 = .ok (.istore 5, 2) := by decide +kernel
theorem dX2_doSteps_44 : decode cX2_doSteps 44 = .ok (.iload 5, 2) := by decide +kernel
theorem dX2_doSteps_46 : decode cX2_doSteps 46 = .ok (.bipush (-6), 2) := by decide +kernel
theorem dX2_doSteps_48 : decode cX2_doSteps 48 = .ok (.if_icmp .eq 67, 3) := by decide +kernel
theorem dX2_doSteps_51 : decode cX2_doSteps 51 = .ok (.aload_n 0, 1) := by decide +kernel
theorem dX2_doSteps_52 : decode cX2_doSteps 52 = .ok (.iload 5, 2) := by decide +kernel
theorem dX2_doSteps_54 : decode cX2_doSteps 54 = .ok (.invokevirtual 41, 3) := by decide +kernel
theorem dX2_doSteps_57 : decode cX2_doSteps 57 = .ok (.sipush 200, 3) := by decide +kernel
theorem dX2_doSteps_60 : decode cX2_doSteps 60 = .ok (.if_icmp .le 6, 3) := by decide +kernel
theorem dX2_doSteps_63 : decode cX2_doSteps 63 = .ok (.goto 52, 3) := by decide +kernel
theorem dX2_doSteps_66 : decode cX2_doSteps 66 = .ok (.aload_n 0, 1) := by decide +kernel
theorem dX2_doSteps_67 : decode cX2_doSteps 67 = .ok (.iload 5, 2) := by decide +kernel
theorem dX2_doSteps_69 : decode cX2_doSteps 69 = .ok (.invokevirtual 44, 3) := by decide +kernel
theorem dX2_doSteps_72 : decode cX2_doSteps 72 = .ok (.aload_n 0, 1) := by decide +kernel
theorem dX2_doSteps_73 : decode cX2_doSteps 73 = .ok (.getfield 15, 3) := by decide +kernel
theorem dX2_doSteps_76 : decode cX2_doSteps 76 = .ok (.iload_n 1, 1) := by decide +kernel
theorem dX2_doSteps_77 : decode cX2_doSteps 77 = .ok (.invokevirtual 32, 3) := by decide +kernel
theorem dX2_doSteps_80 : decode cX2_doSteps 80 = .ok (.aload_n 0, 1) := by decide +kernel
theorem dX2_doSteps_81 : decode cX2_doSteps 81 = .ok (.dup, 1) := by decide +kernel
theorem dX2_doSteps_82 : decode cX2_doSteps 82 = .ok (.getfield 19, 3) := by decide +kernel
theorem dX2_doSteps_85 : decode cX2_doSteps 85 = .ok (.iconst 1, 1) := by decide +kernel
theorem dX2_doSteps_86 : decode cX2_doSteps 86 = .ok (.iadd, 1) := by decide +kernel
theorem dX2_doSteps_87 : decode cX2_doSteps 87 = .ok (.putfield 19, 3) := by decide +kernel
theorem dX2_doSteps_90 : decode cX2_doSteps 90 = .ok (.aload_n 0, 1) := by decide +kernel
theorem dX2_doSteps_91 : decode cX2_doSteps 91 = .ok (.aload_n 0, 1) := by decide +kernel
theorem dX2_doSteps_92 : decode cX2_doSteps 92 = .ok (.getfield 23, 3) := by decide +kernel
theorem dX2_doSteps_95 : decode cX2_doSteps 95 = .ok (.aload_n 0, 1) := by decide +kernel
theorem dX2_doSteps_96 : decode cX2_doSteps 96 = .ok (.getfield 9, 3) := by decide +kernel
theorem dX2_doSteps_99 : decode cX2_doSteps 99 = .ok (.iload_n 1, 1) := by decide +kernel
theorem dX2_doSteps_100 : decode cX2_doSteps 100 = .ok (.invokevirtual 26, 3) := by decide +kernel
theorem dX2_doSteps_103 : decode cX2_doSteps 103 = .ok (.invokestatic 47, 3) := by decide +kernel
theorem dX2_doSteps_106 : decode cX2_doSteps 106 = .ok (.putfield 23, 3) := by decide +kernel
theorem dX2_doSteps_109 : decode cX2_doSteps 109 = .ok (.iinc 4 1, 3) := by decide +kernel
theorem dX2_doSteps_112 : decode cX2_doSteps 112 = .ok (.goto (-84), 3) := by decide +kernel
theorem dX2_doSteps_115 : decode cX2_doSteps 115 = .ok (.aload_n 0, 1) := by decide +kernel
theorem dX2_doSteps_116 : decode cX2_doSteps 116 = .ok (.getfield 15, 3) := by decide +kernel
theorem dX2_doSteps_119 : decode cX2_doSteps 119 = .ok (.iload_n 2, 1) := by decide +kernel
theorem dX2_doSteps_120 : decode cX2_doSteps 120 = .ok (.invokevirtual 38, 3) := by decide +kernel
theorem dX2_doSteps_123 : decode cX2_doSteps 123 = .ok (.bipush (-6), 2) := by decide +kernel
theorem dX2_doSteps_125 : decode cX2_doSteps 125 = .ok (.if_icmp .ne 7, 3) := by decide +kernel
theorem dX2_doSteps_128 : decode cX2_doSteps 128 = .ok (.iconst 1, 1) := by decide +kernel
theorem dX2_doSteps_129 : decode cX2_doSteps 129 = .ok (.goto 4, 3) := by decide +kernel
theorem dX2_doSteps_132 : decode cX2_doSteps 132 = .ok (.iconst 0, 1) := by decide +kernel
theorem dX2_doSteps_133 : decode cX2_doSteps 133 = .ok (.ireturn, 1) := by decide +kernel
theorem dX2_lengthBehind_0 : decode cX2_lengthBehind 0 = .ok (.aload_n 0, 1) := by decide +kernel
theorem dX2_lengthBehind_1 : decode cX2_lengthBehind 1 = .ok (.getfield 15, 3) := by decide +kernel
theorem dX2_lengthBehind_4 : decode cX2_lengthBehind 4 = .ok (.invokevirtual 53, 3) := by decide +kernel
theorem dX2_lengthBehind_7 : decode cX2_lengthBehind 7 = .ok (.istore_n 2, 1) := by decide +kernel
theorem dX2_lengthBehind_8 : decode cX2_lengthBehind 8 = .ok (.aload_n 0, 1) := by decide +kernel
theorem dX2_lengthBehind_9 : decode cX2_lengthBehind 9 = .ok (.getfield 15, 3) := by decide +kernel
theorem dX2_lengthBehind_12 : decode cX2_lengthBehind 12 = .ok (.iload_n 1, 1) := by decide +kernel
theorem dX2_lengthBehind_13 : decode cX2_lengthBehind 13 = .ok (.iconst 1, 1) := by decide +kernel
theorem dX2_lengthBehind_14 : decode cX2_lengthBehind 14 = .ok (.iadd, 1) := by decide +kernel
theorem dX2_lengthBehind_15 : decode cX2_lengthBehind 15 = .ok (.invokevirtual 57, 3) := by decide +kernel
theorem dX2_lengthBehind_18 : decode cX2_lengthBehind 18 = .ok (.istore_n 3, 1) := by decide +kernel
theorem dX2_lengthBehind_19 : decode cX2_lengthBehind 19 = .ok (.aload_n 0, 1) := by decide +kernel
theorem dX2_lengthBehind_20 : decode cX2_lengthBehind 20 = .ok (.getfield 15, 3) := by decide +kernel
theorem dX2_lengthBehind_23 : decode cX2_lengthBehind 23 = .ok (.iload_n 1, 1) := by decide +kernel
theorem dX2_lengthBehind_24 : decode cX2_lengthBehind 24 = .ok (.invokevirtual 57, 3) := by decide +kernel
theorem dX2_lengthBehind_27 : decode cX2_lengthBehind 27 = .ok (.iload_n 3, 1) := by decide +kernel
theorem dX2_lengthBehind_28 : decode cX2_lengthBehind 28 = .ok (.isub, 1) := by decide +kernel
theorem dX2_lengthBehind_29 : decode cX2_lengthBehind 29 = .ok (.istore 4, 2) := by decide +kernel
theorem dX2_lengthBehind_31 : decode cX2_lengthBehind 31 = .ok (.iconst 0, 1) := by decide +kernel
theorem dX2_lengthBehind_32 : decode cX2_lengthBehind 32 = .ok (.istore 5, 2) := by decide +kernel
theorem dX2_lengthBehind_34 : decode cX2_lengthBehind 34 = .ok (.iload_n 1, 1) := by decide +kernel
theorem dX2_lengthBehind_35 : decode cX2_lengthBehind 35 = .ok (.iconst 2, 1) := by decide +kernel
theorem dX2_lengthBehind_36 : decode cX2_lengthBehind 36 = .ok (.iadd, 1) := by decide +kernel
theorem dX2_lengthBehind_37 : decode cX2_lengthBehind 37 = .ok (.istore 6, 2) := by decide +kernel
theorem dX2_lengthBehind_39 : decode cX2_lengthBehind 39 = .ok (.iload 6, 2) := by decide +kernel
theorem dX2_lengthBehind_41 : decode cX2_lengthBehind 41 = .ok (.iload_n 3, 1) := by decide +kernel
theorem dX2_lengthBehind_42 : decode cX2_lengthBehind 42 = .ok (.if_icmp .ge 45, 3) := by decide +kernel
theorem dX2_lengthBehind_45 : decode cX2_lengthBehind 45 = .ok (.aload_n 0, 1) := by decide +kernel
theorem dX2_lengthBehind_46 : decode cX2_lengthBehind 46 = .ok (.getfield 9, 3) := by decide +kernel
theorem dX2_lengthBehind_49 : decode cX2_lengthBehind 49 = .ok (.iload_n 2, 1) := by decide +kernel
theorem dX2_lengthBehind_50 : decode cX2_lengthBehind 50 = .ok (.iload 6, 2) := by decide +kernel
theorem dX2_lengthBehind_52 : decode cX2_lengthBehind 52 = .ok (.invokevirtual 60, 3) := by decide +kernel
theorem dX2_lengthBehind_55 : decode cX2_lengthBehind 55 = .ok (.ifCond .ne 26, 3) := by decide +kernel
theorem dX2_lengthBehind_58 : decode cX2_lengthBehind 58 = .ok (.aload_n 0, 1) := by decide +kernel
theorem dX2_lengthBehind_59 : decode cX2_lengthBehind 59 = .ok (.getfield 9, 3) := by decide +kernel
theorem dX2_lengthBehind_62 : decode cX2_lengthBehind 62 = .ok (.iload_n 2, 1) := by decide +kernel
theorem dX2_lengthBehind_63 : decode cX2_lengthBehind 63 = .ok (.iload 6, 2) := by decide +kernel
theorem dX2_lengthBehind_65 : decode cX2_lengthBehind 65 = .ok (.invokevirtual 63, 3) := by decide +kernel
theorem dX2_lengthBehind_68 : decode cX2_lengthBehind 68 = .ok (.aload_n 0, 1) := by decide +kernel
theorem dX2_lengthBehind_69 : decode cX2_lengthBehind 69 = .ok (.iload_n 1, 1) := by decide +kernel
theorem dX2_lengthBehind_70 : decode cX2_lengthBehind 70 = .ok (.iload 6, 2) := by decide +kernel
theorem dX2_lengthBehind_72 : decode cX2_lengthBehind 72 = .ok (.invokevirtual 66, 3) := by decide +kernel
theorem dX2_lengthBehind_75 : decode cX2_lengthBehind 75 = .ok (.if_icmp .ne 6, 3) := by decide +kernel
theorem dX2_lengthBehind_78 : decode cX2_lengthBehind 78 = .ok (.iinc 5 1, 3) := by decide +kernel
theorem dX2_lengthBehind_81 : decode cX2_lengthBehind 81 = .ok (.iinc 6 1, 3) := by decide +kernel
theorem dX2_lengthBehind_84 : decode cX2_lengthBehind 84 = .ok (.goto (-45), 3) := by decide +kernel
theorem dX2_lengthBehind_87 : decode cX2_lengthBehind 87 = .ok (.aload_n 0, 1) := by decide +kernel
theorem dX2_lengthBehind_88 : decode cX2_lengthBehind 88 = .ok (.getfield 9, 3) := by decide +kernel
theorem dX2_lengthBehind_91 : decode cX2_lengthBehind 91 = .ok (.iload_n 2, 1) := by decide +kernel
theorem dX2_lengthBehind_92 : decode cX2_lengthBehind 92 = .ok (.invokevirtual 26, 3) := by decide +kernel
theorem dX2_lengthBehind_95 : decode cX2_lengthBehind 95 = .ok (.iconst 2, 1) := by decide +kernel
theorem dX2_lengthBehind_96 : decode cX2_lengthBehind 96 = .ok (.isub, 1) := by decide +kernel
theorem dX2_lengthBehind_97 : decode cX2_lengthBehind 97 = .ok (.iload 4, 2) := by decide +kernel
theorem dX2_lengthBehind_99 : decode cX2_lengthBehind 99 = .ok (.isub, 1) := by decide +kernel
theorem dX2_lengthBehind_100 : decode cX2_lengthBehind 100 = .ok (.iload 5, 2) := by decide +kernel
theorem dX2_lengthBehind_102 : decode cX2_lengthBehind 102 = .ok (.iload 4, 2) := by decide +kernel
theorem dX2_lengthBehind_104 : decode cX2_lengthBehind 104 = .ok (.iconst 1, 1) := by decide +kernel
theorem dX2_lengthBehind_105 : decode cX2_lengthBehind 105 = .ok (.isub, 1) := by decide +kernel
theorem dX2_lengthBehind_106 : decode cX2_lengthBehind 106 = .ok (.imul, 1) := by decide +kernel
theorem dX2_lengthBehind_107 : decode cX2_lengthBehind 107 = .ok (.iadd, 1) := by decide +kernel
theorem dX2_lengthBehind_108 : decode cX2_lengthBehind 108 = .ok (.ireturn, 1) := by decide +kernel
theorem dX2_rewrite_0 : decode cX2_rewrite 0 = .ok (.aload_n 0, 1) := by decide +kernel
theorem dX2_rewrite_1 : decode cX2_rewrite 1 = .ok (.getfield 15, 3) := by decide +kernel
theorem dX2_rewrite_4 : decode cX2_rewrite 4 = .ok (.invokevirtual 53, 3) := by decide +kernel
theorem dX2_rewrite_7 : decode cX2_rewrite 7 = .ok (.istore_n 2, 1) := by decide +kernel
theorem dX2_rewrite_8 : decode cX2_rewrite 8 = .ok (.aload_n 0, 1) := by decide +kernel
theorem dX2_rewrite_9 : decode cX2_rewrite 9 = .ok (.getfield 15, 3) := by decide +kernel
theorem dX2_rewrite_12 : decode cX2_rewrite 12 = .ok (.iload_n 1, 1) := by decide +kernel
theorem dX2_rewrite_13 : decode cX2_rewrite 13 = .ok (.iconst 1, 1) := by decide +kernel
theorem dX2_rewrite_14 : decode cX2_rewrite 14 = .ok (.iadd, 1) := by decide +kernel
theorem dX2_rewrite_15 : decode cX2_rewrite 15 = .ok (.invokevirtual 57, 3) := by decide +kernel
theorem dX2_rewrite_18 : decode cX2_rewrite 18 = .ok (.istore_n 3, 1) := by decide +kernel
theorem dX2_rewrite_19 : decode cX2_rewrite 19 = .ok (.aload_n 0, 1) := by decide +kernel
theorem dX2_rewrite_20 : decode cX2_rewrite 20 = .ok (.getfield 9, 3) := by decide +kernel
theorem dX2_rewrite_23 : decode cX2_rewrite 23 = .ok (.bipush 56, 2) := by decide +kernel
theorem dX2_rewrite_25 : decode cX2_rewrite 25 = .ok (.invokevirtual 69, 3) := by decide +kernel
theorem dX2_rewrite_28 : decode cX2_rewrite 28 = .ok (.aload_n 0, 1) := by decide +kernel
theorem dX2_rewrite_29 : decode cX2_rewrite 29 = .ok (.getfield 9, 3) := by decide +kernel
theorem dX2_rewrite_32 : decode cX2_rewrite 32 = .ok (.bipush 56, 2) := by decide +kernel
theorem dX2_rewrite_34 : decode cX2_rewrite 34 = .ok (.iload_n 2, 1) := by decide +kernel
theorem dX2_rewrite_35 : decode cX2_rewrite 35 = .ok (.iconst 0, 1) := by decide +kernel
theorem dX2_rewrite_36 : decode cX2_rewrite 36 = .ok (.iload_n 1, 1) := by decide +kernel
theorem dX2_rewrite_37 : decode cX2_rewrite 37 = .ok (.invokevirtual 72, 3) := by decide +kernel
theorem dX2_rewrite_40 : decode cX2_rewrite 40 = .ok (.iload_n 1, 1) := by decide +kernel
theorem dX2_rewrite_41 : decode cX2_rewrite 41 = .ok (.iconst 2, 1) := by decide +kernel
theorem dX2_rewrite_42 : decode cX2_rewrite 42 = .ok (.iadd, 1) := by decide +kernel
theorem dX2_rewrite_43 : decode cX2_rewrite 43 = .ok (.istore 4, 2) := by decide +kernel
theorem dX2_rewrite_45 : decode cX2_rewrite 45 = .ok (.iload 4, 2) := by decide +kernel
theorem dX2_rewrite_47 : decode cX2_rewrite 47 = .ok (.iload_n 3, 1) := by decide +kernel
theorem dX2_rewrite_48 : decode cX2_rewrite 48 = .ok (.if_icmp .ge 101, 3) := by decide +kernel
theorem dX2_rewrite_51 : decode cX2_rewrite 51 = .ok (.aload_n 0, 1) := by decide +kernel
theorem dX2_rewrite_52 : decode cX2_rewrite 52 = .ok (.getfield 9, 3) := by decide +kernel
theorem dX2_rewrite_55 : decode cX2_rewrite 55 = .ok (.iload_n 2, 1) := by decide +kernel
theorem dX2_rewrite_56 : decode cX2_rewrite 56 = .ok (.iload 4, 2) := by decide +kernel
theorem dX2_rewrite_58 : decode cX2_rewrite 58 = .ok (.invokevirtual 60, 3) := by decide +kernel
theorem dX2_rewrite_61 : decode cX2_rewrite 61 = .ok (.istore 5, 2) := by decide +kernel
theorem dX2_rewrite_63 : decode cX2_rewrite 63 = .ok (.aload_n 0, 1) := by decide +kernel
theorem dX2_rewrite_64 : decode cX2_rewrite 64 = .ok (.getfield 9, 3) := by decide +kernel
theorem dX2_rewrite_67 : decode cX2_rewrite 67 = .ok (.iload_n 2, 1) := by decide +kernel
theorem dX2_rewrite_68 : decode cX2_rewrite 68 = .ok (.iload 4, 2) := by decide +kernel
theorem dX2_rewrite_70 : decode cX2_rewrite 70 = .ok (.invokevirtual 63, 3) := by decide +kernel
theorem dX2_rewrite_73 : decode cX2_rewrite 73 = .ok (.istore 6, 2) := by decide +kernel
theorem dX2_rewrite_75 : decode cX2_rewrite 75 = .ok (.aload_n 0, 1) := by decide +kernel
theorem dX2_rewrite_76 : decode cX2_rewrite 76 = .ok (.iload_n 1, 1) := by decide +kernel
theorem dX2_rewrite_77 : decode cX2_rewrite 77 = .ok (.iload 4, 2) := by decide +kernel
theorem dX2_rewrite_79 : decode cX2_rewrite 79 = .ok (.invokevirtual 66, 3) := by decide +kernel
theorem dX2_rewrite_82 : decode cX2_rewrite 82 = .ok (.istore 7, 2) := by decide +kernel
theorem dX2_rewrite_84 : decode cX2_rewrite 84 = .ok (.iload 5, 2) := by decide +kernel
theorem dX2_rewrite_86 : decode cX2_rewrite 86 = .ok (.ifCond .ne 10, 3) := by decide +kernel
theorem dX2_rewrite_89 : decode cX2_rewrite 89 = .ok (.iload 6, 2) := by decide +kernel
theorem dX2_rewrite_91 : decode cX2_rewrite 91 = .ok (.iload 7, 2) := by decide +kernel
theorem dX2_rewrite_93 : decode cX2_rewrite 93 = .ok (.if_icmp .ge 19, 3) := by decide +kernel
theorem dX2_rewrite_96 : decode cX2_rewrite 96 = .ok (.aload_n 0, 1) := by decide +kernel
theorem dX2_rewrite_97 : decode cX2_rewrite 97 = .ok (.getfield 9, 3) := by decide +kernel
theorem dX2_rewrite_100 : decode cX2_rewrite 100 = .ok (.bipush 56, 2) := by decide +kernel
theorem dX2_rewrite_102 : decode cX2_rewrite 102 = .ok (.iload 5, 2) := by decide +kernel
theorem dX2_rewrite_104 : decode cX2_rewrite 104 = .ok (.iload 6, 2) := by decide +kernel
theorem dX2_rewrite_106 : decode cX2_rewrite 106 = .ok (.invokevirtual 76, 3) := by decide +kernel
theorem dX2_rewrite_109 : decode cX2_rewrite 109 = .ok (.goto 34, 3) := by decide +kernel
theorem dX2_rewrite_112 : decode cX2_rewrite 112 = .ok (.iload 6, 2) := by decide +kernel
theorem dX2_rewrite_114 : decode cX2_rewrite 114 = .ok (.iload 7, 2) := by decide +kernel
theorem dX2_rewrite_116 : decode cX2_rewrite 116 = .ok (.if_icmp .ne 13, 3) := by decide +kernel
theorem dX2_rewrite_119 : decode cX2_rewrite 119 = .ok (.aload_n 0, 1) := by decide +kernel
theorem dX2_rewrite_120 : decode cX2_rewrite 120 = .ok (.iload_n 1, 1) := by decide +kernel
theorem dX2_rewrite_121 : decode cX2_rewrite 121 = .ok (.iload 7, 2) := by decide +kernel
theorem dX2_rewrite_123 : decode cX2_rewrite 123 = .ok (.invokevirtual 80, 3) := by decide +kernel
theorem dX2_rewrite_126 : decode cX2_rewrite 126 = .ok (.goto 17, 3) := by decide +kernel
theorem dX2_rewrite_129 : decode cX2_rewrite 129 = .ok (.aload_n 0, 1) := by decide +kernel
theorem dX2_rewrite_130 : decode cX2_rewrite 130 = .ok (.getfield 9, 3) := by decide +kernel
theorem dX2_rewrite_133 : decode cX2_rewrite 133 = .ok (.bipush 56, 2) := by decide +kernel
theorem dX2_rewrite_135 : decode cX2_rewrite 135 = .ok (.iconst 0, 1) := by decide +kernel
theorem dX2_rewrite_136 : decode cX2_rewrite 136 = .ok (.iload 6, 2) := by decide +kernel
theorem dX2_rewrite_138 : decode cX2_rewrite 138 = .ok (.iconst 1, 1) := by decide +kernel
theorem dX2_rewrite_139 : decode cX2_rewrite 139 = .ok (.isub, 1) := by decide +kernel
theorem dX2_rewrite_140 : decode cX2_rewrite 140 = .ok (.invokevirtual 76, 3) := by decide +kernel
theorem dX2_rewrite_143 : decode cX2_rewrite 143 = .ok (.iinc 4 1, 3) := by decide +kernel
theorem dX2_rewrite_146 : decode cX2_rewrite 146 = .ok (.goto (-101), 3) := by decide +kernel
theorem dX2_rewrite_149 : decode cX2_rewrite 149 = .ok (.aload_n 0, 1) := by decide +kernel
theorem dX2_rewrite_150 : decode cX2_rewrite 150 = .ok (.getfield 9, 3) := by decide +kernel
theorem dX2_rewrite_153 : decode cX2_rewrite 153 = .ok (.bipush 56, 2) := by decide +kernel
theorem dX2_rewrite_155 : decode cX2_rewrite 155 = .ok (.iload_n 2, 1) := by decide +kernel
theorem dX2_rewrite_156 : decode cX2_rewrite 156 = .ok (.aload_n 0, 1) := by decide +kernel
theorem dX2_rewrite_157 : decode cX2_rewrite 157 = .ok (.getfield 15, 3) := by decide +kernel
theorem dX2_rewrite_160 : decode cX2_rewrite 160 = .ok (.iload_n 1, 1) := by decide +kernel
theorem dX2_rewrite_161 : decode cX2_rewrite 161 = .ok (.invokevirtual 57, 3) := by decide +kernel
theorem dX2_rewrite_164 : decode cX2_rewrite 164 = .ok (.aload_n 0, 1) := by decide +kernel
theorem dX2_rewrite_165 : decode cX2_rewrite 165 = .ok (.getfield 9, 3) := by decide +kernel
theorem dX2_rewrite_168 : decode cX2_rewrite 168 = .ok (.iload_n 2, 1) := by decide +kernel
theorem dX2_rewrite_169 : decode cX2_rewrite 169 = .ok (.invokevirtual 26, 3) := by decide +kernel
theorem dX2_rewrite_172 : decode cX2_rewrite 172 = .ok (.invokevirtual 72, 3) := by decide +kernel
theorem dX2_rewrite_175 : decode cX2_rewrite 175 = .ok (.aload_n 0, 1) := by decide +kernel
theorem dX2_rewrite_176 : decode cX2_rewrite 176 = .ok (.getfield 9, 3) := by decide +kernel
theorem dX2_rewrite_179 : decode cX2_rewrite 179 = .ok (.bipush 56, 2) := by decide +kernel
theorem dX2_rewrite_181 : decode cX2_rewrite 181 = .ok (.iload_n 2, 1) := by decide +kernel
theorem dX2_rewrite_182 : decode cX2_rewrite 182 = .ok (.invokevirtual 84, 3) := by decide +kernel
theorem dX2_rewrite_185 : decode cX2_rewrite 185 = .ok (.return_, 1) := by decide +kernel
theorem dX2_draftArgument_0 : decode cX2_draftArgument 0 = .ok (.aload_n 0, 1) := by decide +kernel
theorem dX2_draftArgument_1 : decode cX2_draftArgument 1 = .ok (.getfield 15, 3) := by decide +kernel
theorem dX2_draftArgument_4 : decode cX2_draftArgument 4 = .ok (.invokevirtual 53, 3) := by decide +kernel
theorem dX2_draftArgument_7 : decode cX2_draftArgument 7 = .ok (.istore_n 3, 1) := by decide +kernel
theorem dX2_draftArgument_8 : decode cX2_draftArgument 8 = .ok (.aload_n 0, 1) := by decide +kernel
theorem dX2_draftArgument_9 : decode cX2_draftArgument 9 = .ok (.getfield 15, 3) := by decide +kernel
theorem dX2_draftArgument_12 : decode cX2_draftArgument 12 = .ok (.iload_n 1, 1) := by decide +kernel
theorem dX2_draftArgument_13 : decode cX2_draftArgument 13 = .ok (.invokevirtual 57, 3) := by decide +kernel
theorem dX2_draftArgument_16 : decode cX2_draftArgument 16 = .ok (.istore 4, 2) := by decide +kernel
theorem dX2_draftArgument_18 : decode cX2_draftArgument 18 = .ok (.aload_n 0, 1) := by decide +kernel
theorem dX2_draftArgument_19 : decode cX2_draftArgument 19 = .ok (.getfield 15, 3) := by decide +kernel
theorem dX2_draftArgument_22 : decode cX2_draftArgument 22 = .ok (.iload_n 1, 1) := by decide +kernel
theorem dX2_draftArgument_23 : decode cX2_draftArgument 23 = .ok (.iconst 1, 1) := by decide +kernel
theorem dX2_draftArgument_24 : decode cX2_draftArgument 24 = .ok (.iadd, 1) := by decide +kernel
theorem dX2_draftArgument_25 : decode cX2_draftArgument 25 = .ok (.invokevirtual 57, 3) := by decide +kernel
theorem dX2_draftArgument_28 : decode cX2_draftArgument 28 = .ok (.istore 5, 2) := by decide +kernel
theorem dX2_draftArgument_30 : decode cX2_draftArgument 30 = .ok (.iload 5, 2) := by decide +kernel
theorem dX2_draftArgument_32 : decode cX2_draftArgument 32 = .ok (.iload 4, 2) := by decide +kernel
theorem dX2_draftArgument_34 : decode cX2_draftArgument 34 = .ok (.if_icmp .ge 84, 3) := by decide +kernel
theorem dX2_draftArgument_37 : decode cX2_draftArgument 37 = .ok (.aload_n 0, 1) := by decide +kernel
theorem dX2_draftArgument_38 : decode cX2_draftArgument 38 = .ok (.getfield 9, 3) := by decide +kernel
theorem dX2_draftArgument_41 : decode cX2_draftArgument 41 = .ok (.iload_n 3, 1) := by decide +kernel
theorem dX2_draftArgument_42 : decode cX2_draftArgument 42 = .ok (.iload 5, 2) := by decide +kernel
theorem dX2_draftArgument_44 : decode cX2_draftArgument 44 = .ok (.invokevirtual 60, 3) := by decide +kernel
theorem dX2_draftArgument_47 : decode cX2_draftArgument 47 = .ok (.istore 6, 2) := by decide +kernel
theorem dX2_draftArgument_49 : decode cX2_draftArgument 49 = .ok (.aload_n 0, 1) := by decide +kernel
theorem dX2_draftArgument_50 : decode cX2_draftArgument 50 = .ok (.getfield 9, 3) := by decide +kernel
theorem dX2_draftArgument_53 : decode cX2_draftArgument 53 = .ok (.iload_n 3, 1) := by decide +kernel
theorem dX2_draftArgument_54 : decode cX2_draftArgument 54 = .ok (.iload 5, 2) := by decide +kernel
theorem dX2_draftArgument_56 : decode cX2_draftArgument 56 = .ok (.invokevirtual 63, 3) := by decide +kernel
theorem dX2_draftArgument_59 : decode cX2_draftArgument 59 = .ok (.istore 7, 2) := by decide +kernel
theorem dX2_draftArgument_61 : decode cX2_draftArgument 61 = .ok (.aload_n 0, 1) := by decide +kernel
theorem dX2_draftArgument_62 : decode cX2_draftArgument 62 = .ok (.getfield 15, 3) := by decide +kernel
theorem dX2_draftArgument_65 : decode cX2_draftArgument 65 = .ok (.iload 5, 2) := by decide +kernel
theorem dX2_draftArgument_67 : decode cX2_draftArgument 67 = .ok (.invokevirtual 87, 3) := by decide +kernel
theorem dX2_draftArgument_70 : decode cX2_draftArgument 70 = .ok (.aload_n 0, 1) := by decide +kernel
theorem dX2_draftArgument_71 : decode cX2_draftArgument 71 = .ok (.getfield 15, 3) := by decide +kernel
theorem dX2_draftArgument_74 : decode cX2_draftArgument 74 = .ok (.iload_n 1, 1) := by decide +kernel
theorem dX2_draftArgument_75 : decode cX2_draftArgument 75 = .ok (.invokevirtual 87, 3) := by decide +kernel
theorem dX2_draftArgument_78 : decode cX2_draftArgument 78 = .ok (.isub, 1) := by decide +kernel
theorem dX2_draftArgument_79 : decode cX2_draftArgument 79 = .ok (.istore 8, 2) := by decide +kernel
theorem dX2_draftArgument_81 : decode cX2_draftArgument 81 = .ok (.iload 6, 2) := by decide +kernel
theorem dX2_draftArgument_83 : decode cX2_draftArgument 83 = .ok (.ifCond .ne 16, 3) := by decide +kernel
theorem dX2_draftArgument_86 : decode cX2_draftArgument 86 = .ok (.iload 7, 2) := by decide +kernel
theorem dX2_draftArgument_88 : decode cX2_draftArgument 88 = .ok (.iload 8, 2) := by decide +kernel
theorem dX2_draftArgument_90 : decode cX2_draftArgument 90 = .ok (.if_icmp .lt 9, 3) := by decide +kernel
theorem dX2_draftArgument_93 : decode cX2_draftArgument 93 = .ok (.iload 7, 2) := by decide +kernel
theorem dX2_draftArgument_95 : decode cX2_draftArgument 95 = .ok (.iload_n 2, 1) := by decide +kernel
theorem dX2_draftArgument_96 : decode cX2_draftArgument 96 = .ok (.iadd, 1) := by decide +kernel
theorem dX2_draftArgument_97 : decode cX2_draftArgument 97 = .ok (.istore 7, 2) := by decide +kernel
theorem dX2_draftArgument_99 : decode cX2_draftArgument 99 = .ok (.aload_n 0, 1) := by decide +kernel
theorem dX2_draftArgument_100 : decode cX2_draftArgument 100 = .ok (.getfield 9, 3) := by decide +kernel
theorem dX2_draftArgument_103 : decode cX2_draftArgument 103 = .ok (.bipush 56, 2) := by decide +kernel
theorem dX2_draftArgument_105 : decode cX2_draftArgument 105 = .ok (.iload 6, 2) := by decide +kernel
theorem dX2_draftArgument_107 : decode cX2_draftArgument 107 = .ok (.iload 7, 2) := by decide +kernel
theorem dX2_draftArgument_109 : decode cX2_draftArgument 109 = .ok (.invokevirtual 76, 3) := by decide +kernel
theorem dX2_draftArgument_112 : decode cX2_draftArgument 112 = .ok (.iinc 5 1, 3) := by decide +kernel
theorem dX2_draftArgument_115 : decode cX2_draftArgument 115 = .ok (.goto (-85), 3) := by decide +kernel
theorem dX2_draftArgument_118 : decode cX2_draftArgument 118 = .ok (.return_, 1) := by decide +kernel
theorem dX2_functionsWithin_0 : decode cX2_functionsWithin 0 = .ok (.aload_n 0, 1) := by decide +kernel
theorem dX2_functionsWithin_1 : decode cX2_functionsWithin 1 = .ok (.getfield 15, 3) := by decide +kernel
theorem dX2_functionsWithin_4 : decode cX2_functionsWithin 4 = .ok (.iload_n 2, 1) := by decide +kernel
theorem dX2_functionsWithin_5 : decode cX2_functionsWithin 5 = .ok (.invokevirtual 87, 3) := by decide +kernel
theorem dX2_functionsWithin_8 : decode cX2_functionsWithin 8 = .ok (.aload_n 0, 1) := by decide +kernel
theorem dX2_functionsWithin_9 : decode cX2_functionsWithin 9 = .ok (.getfield 15, 3) := by decide +kernel
theorem dX2_functionsWithin_12 : decode cX2_functionsWithin 12 = .ok (.iload_n 1, 1) := by decide +kernel
theorem dX2_functionsWithin_13 : decode cX2_functionsWithin 13 = .ok (.invokevirtual 87, 3) := by decide +kernel
theorem dX2_functionsWithin_16 : decode cX2_functionsWithin 16 = .ok (.isub, 1) := by decide +kernel
theorem dX2_functionsWithin_17 : decode cX2_functionsWithin 17 = .ok (.iconst 1, 1) := by decide +kernel
theorem dX2_functionsWithin_18 : decode cX2_functionsWithin 18 = .ok (.isub, 1) := by decide +kernel
theorem dX2_functionsWithin_19 : decode cX2_functionsWithin 19 = .ok (.ireturn, 1) := by decide +kernel
theorem dX3_init_0 : decode cX3_init 0 = .ok (.aload_n 0, 1) := by decide +kernel
theorem dX3_init_1 : decode cX3_init 1 = .ok (.invokespecial 1, 3) := by decide +kernel
theorem dX3_init_4 : decode cX3_init 4 = .ok (.aload_n 0, 1) := by decide +kernel
theorem dX3_init_5 : decode cX3_init 5 = .ok (.iload_n 1, 1) := by decide +kernel
theorem dX3_init_6 : decode cX3_init 6 = .ok (.iconst 0, 1) := by decide +kernel
theorem dX3_init_7 : decode cX3_init 7 = .ok (.invokestatic 7, 3) := by decide +kernel
theorem dX3_init_10 : decode cX3_init 10 = .ok (.newarray .int, 2) := by decide +kernel
theorem dX3_init_12 : decode cX3_init 12 = .ok (.putfield 13, 3) := by decide +kernel
theorem dX3_init_15 : decode cX3_init 15 = .ok (.return_, 1) := by decide +kernel
theorem dX3_get_0 : decode cX3_get 0 = .ok (.iload_n 1, 1) := by decide +kernel
theorem dX3_get_1 : decode cX3_get 1 = .ok (.ifCond .lt 21, 3) := by decide +kernel
theorem dX3_get_4 : decode cX3_get 4 = .ok (.iload_n 1, 1) := by decide +kernel
theorem dX3_get_5 : decode cX3_get 5 = .ok (.aload_n 0, 1) := by decide +kernel
theorem dX3_get_6 : decode cX3_get 6 = .ok (.getfield 13, 3) := by decide +kernel
theorem dX3_get_9 : decode cX3_get 9 = .ok (.arraylength, 1) := by decide +kernel
theorem dX3_get_10 : decode cX3_get 10 = .ok (.if_icmp .ge 12, 3) := by decide +kernel
theorem dX3_get_13 : decode cX3_get 13 = .ok (.aload_n 0, 1) := by decide +kernel
theorem dX3_get_14 : decode cX3_get 14 = .ok (.getfield 13, 3) := by decide +kernel
theorem dX3_get_17 : decode cX3_get 17 = .ok (.iload_n 1, 1) := by decide +kernel
theorem dX3_get_18 : decode cX3_get 18 = .ok (.iaload, 1) := by decide +kernel
theorem dX3_get_19 : decode cX3_get 19 = .ok (.goto 4, 3) := by decide +kernel
theorem dX3_get_22 : decode cX3_get 22 = .ok (.iconst 0, 1) := by decide +kernel
theorem dX3_get_23 : decode cX3_get 23 = .ok (.ireturn, 1) := by decide +kernel
theorem dX3_set_0 : decode cX3_set 0 = .ok (.iload_n 1, 1) := by decide +kernel
theorem dX3_set_1 : decode cX3_set 1 = .ok (.ifCond .lt 19, 3) := by decide +kernel
theorem dX3_set_4 : decode cX3_set 4 = .ok (.iload_n 1, 1) := by decide +kernel
theorem dX3_set_5 : decode cX3_set 5 = .ok (.aload_n 0, 1) := by decide +kernel
theorem dX3_set_6 : decode cX3_set 6 = .ok (.getfield 13, 3) := by decide +kernel
theorem dX3_set_9 : decode cX3_set 9 = .ok (.arraylength, 1) := by decide +kernel
theorem dX3_set_10 : decode cX3_set 10 = .ok (.if_icmp .ge 10, 3) := by decide +kernel
theorem dX3_set_13 : decode cX3_set 13 = .ok (.aload_n 0, 1) := by decide +kernel
theorem dX3_set_14 : decode cX3_set 14 = .ok (.getfield 13, 3) := by decide +kernel
theorem dX3_set_17 : decode cX3_set 17 = .ok (.iload_n 1, 1) := by decide +kernel
theorem dX3_set_18 : decode cX3_set 18 = .ok (.iload_n 2, 1) := by decide +kernel
theorem dX3_set_19 : decode cX3_set 19 = .ok (.iastore, 1) := by decide +kernel
theorem dX3_set_20 : decode cX3_set 20 = .ok (.return_, 1) := by decide +kernel
theorem dX3_move_0 : decode cX3_move 0 = .ok (.aload_n 0, 1) := by decide +kernel
theorem dX3_move_1 : decode cX3_move 1 = .ok (.getfield 13, 3) := by decide +kernel
theorem dX3_move_4 : decode cX3_move 4 = .ok (.arraylength, 1) := by decide +kernel
theorem dX3_move_5 : decode cX3_move 5 = .ok (.iload_n 3, 1) := by decide +kernel
theorem dX3_move_6 : decode cX3_move 6 = .ok (.isub, 1) := by decide +kernel
theorem dX3_move_7 : decode cX3_move 7 = .ok (.istore 4, 2) := by decide +kernel
theorem dX3_move_9 : decode cX3_move 9 = .ok (.iload_n 3, 1) := by decide +kernel
theorem dX3_move_10 : decode cX3_move 10 = .ok (.ifCond .le 37, 3) := by decide +kernel
theorem dX3_move_13 : decode cX3_move 13 = .ok (.iload_n 1, 1) := by decide +kernel
theorem dX3_move_14 : decode cX3_move 14 = .ok (.ifCond .lt 33, 3) := by decide +kernel
theorem dX3_move_17 : decode cX3_move 17 = .ok (.iload_n 1, 1) := by decide +kernel
theorem dX3_move_18 : decode cX3_move 18 = .ok (.iload 4, 2) := by decide +kernel
theorem dX3_move_20 : decode cX3_move 20 = .ok (.if_icmp .gt 27, 3) := by decide +kernel
theorem dX3_move_23 : decode cX3_move 23 = .ok (.iload_n 2, 1) := by decide +kernel
theorem dX3_move_24 : decode cX3_move 24 = .ok (.ifCond .lt 23, 3) := by decide +kernel
theorem dX3_move_27 : decode cX3_move 27 = .ok (.iload_n 2, 1) := by decide +kernel
theorem dX3_move_28 : decode cX3_move 28 = .ok (.iload 4, 2) := by decide +kernel
theorem dX3_move_30 : decode cX3_move 30 = .ok (.if_icmp .gt 17, 3) := by decide +kernel
theorem dX3_move_33 : decode cX3_move 33 = .ok (.aload_n 0, 1) := by decide +kernel
theorem dX3_move_34 : decode cX3_move 34 = .ok (.getfield 13, 3) := by decide +kernel
theorem dX3_move_37 : decode cX3_move 37 = .ok (.iload_n 1, 1) := by decide +kernel
theorem dX3_move_38 : decode cX3_move 38 = .ok (.aload_n 0, 1) := by decide +kernel
theorem dX3_move_39 : decode cX3_move 39 = .ok (.getfield 13, 3) := by decide +kernel
theorem dX3_move_42 : decode cX3_move 42 = .ok (.iload_n 2, 1) := by decide +kernel
theorem dX3_move_43 : decode cX3_move 43 = .ok (.iload_n 3, 1) := by decide +kernel
theorem dX3_move_44 : decode cX3_move 44 = .ok (.invokestatic 19, 3) := by decide +kernel
theorem dX3_move_47 : decode cX3_move 47 = .ok (.return_, 1) := by decide +kernel
theorem dX4_init_0 : decode cX4_init 0 = .ok (.aload_n 0, 1) := by decide +kernel
theorem dX4_init_1 : decode cX4_init 1 = .ok (.invokespecial 3, 3) := by decide +kernel
theorem dX4_init_4 : decode cX4_init 4 = .ok (.aload_n 0, 1) := by decide +kernel
theorem dX4_init_5 : decode cX4_init 5 = .ok (.new 9, 3) := by decide +kernel
theorem dX4_init_8 : decode cX4_init 8 = .ok (.dup, 1) := by decide +kernel
theorem dX4_init_9 : decode cX4_init 9 = .ok (.bipush 57, 2) := by decide +kernel
theorem dX4_init_11 : decode cX4_init 11 = .ok (.invokespecial 11, 3) := by decide +kernel
theorem dX4_init_14 : decode cX4_init 14 = .ok (.putfield 14, 3) := by decide +kernel
theorem dX4_init_17 : decode cX4_init 17 = .ok (.aload_n 0, 1) := by decide +kernel
theorem dX4_init_18 : decode cX4_init 18 = .ok (.new 9, 3) := by decide +kernel
theorem dX4_init_21 : decode cX4_init 21 = .ok (.dup, 1) := by decide +kernel
theorem dX4_init_22 : decode cX4_init 22 = .ok (.sipush 11400, 3) := by decide +kernel
theorem dX4_init_25 : decode cX4_init 25 = .ok (.invokespecial 11, 3) := by decide +kernel
theorem dX4_init_28 : decode cX4_init 28 = .ok (.putfield 20, 3) := by decide +kernel
theorem dX4_init_31 : decode cX4_init 31 = .ok (.return_, 1) := by decide +kernel
theorem dX4_length_0 : decode cX4_length 0 = .ok (.aload_n 0, 1) := by decide +kernel
theorem dX4_length_1 : decode cX4_length 1 = .ok (.getfield 14, 3) := by decide +kernel
theorem dX4_length_4 : decode cX4_length 4 = .ok (.iload_n 1, 1) := by decide +kernel
theorem dX4_length_5 : decode cX4_length 5 = .ok (.invokevirtual 23, 3) := by decide +kernel
theorem dX4_length_8 : decode cX4_length 8 = .ok (.ireturn, 1) := by decide +kernel
theorem dX4_kind_0 : decode cX4_kind 0 = .ok (.aload_n 0, 1) := by decide +kernel
theorem dX4_kind_1 : decode cX4_kind 1 = .ok (.getfield 20, 3) := by decide +kernel
theorem dX4_kind_4 : decode cX4_kind 4 = .ok (.iload_n 1, 1) := by decide +kernel
theorem dX4_kind_5 : decode cX4_kind 5 = .ok (.sipush 200, 3) := by decide +kernel
theorem dX4_kind_8 : decode cX4_kind 8 = .ok (.imul, 1) := by decide +kernel
theorem dX4_kind_9 : decode cX4_kind 9 = .ok (.iload_n 2, 1) := by decide +kernel
theorem dX4_kind_10 : decode cX4_kind 10 = .ok (.iadd, 1) := by decide +kernel
theorem dX4_kind_11 : decode cX4_kind 11 = .ok (.invokevirtual 23, 3) := by decide +kernel
theorem dX4_kind_14 : decode cX4_kind 14 = .ok (.sipush 256, 3) := by decide +kernel
theorem dX4_kind_17 : decode cX4_kind 17 = .ok (.idiv, 1) := by decide +kernel
theorem dX4_kind_18 : decode cX4_kind 18 = .ok (.ireturn, 1) := by decide +kernel
theorem dX4_number_0 : decode cX4_number 0 = .ok (.aload_n 0, 1) := by decide +kernel
theorem dX4_number_1 : decode cX4_number 1 = .ok (.getfield 20, 3) := by decide +kernel
theorem dX4_number_4 : decode cX4_number 4 = .ok (.iload_n 1, 1) := by decide +kernel
theorem dX4_number_5 : decode cX4_number 5 = .ok (.sipush 200, 3) := by decide +kernel
theorem dX4_number_8 : decode cX4_number 8 = .ok (.imul, 1) := by decide +kernel
theorem dX4_number_9 : decode cX4_number 9 = .ok (.iload_n 2, 1) := by decide +kernel
theorem dX4_number_10 : decode cX4_number 10 = .ok (.iadd, 1) := by decide +kernel
theorem dX4_number_11 : decode cX4_number 11 = .ok (.invokevirtual 23, 3) := by decide +kernel
theorem dX4_number_14 : decode cX4_number 14 = .ok (.sipush 256, 3) := by decide +kernel
theorem dX4_number_17 : decode cX4_number 17 = .ok (.irem, 1) := by decide +kernel
theorem dX4_number_18 : decode cX4_number 18 = .ok (.ireturn, 1) := by decide +kernel
theorem dX4_clear_0 : decode cX4_clear 0 = .ok (.aload_n 0, 1) := by decide +kernel
theorem dX4_clear_1 : decode cX4_clear 1 = .ok (.getfield 14, 3) := by decide +kernel
theorem dX4_clear_4 : decode cX4_clear 4 = .ok (.iload_n 1, 1) := by decide +kernel
theorem dX4_clear_5 : decode cX4_clear 5 = .ok (.iconst 0, 1) := by decide +kernel
theorem dX4_clear_6 : decode cX4_clear 6 = .ok (.invokevirtual 27, 3) := by decide +kernel
theorem dX4_clear_9 : decode cX4_clear 9 = .ok (.return_, 1) := by decide +kernel
theorem dX4_append_0 : decode cX4_append 0 = .ok (.aload_n 0, 1) := by decide +kernel
theorem dX4_append_1 : decode cX4_append 1 = .ok (.getfield 14, 3) := by decide +kernel
theorem dX4_append_4 : decode cX4_append 4 = .ok (.iload_n 1, 1) := by decide +kernel
theorem dX4_append_5 : decode cX4_append 5 = .ok (.invokevirtual 23, 3) := by decide +kernel
theorem dX4_append_8 : decode cX4_append 8 = .ok (.istore 4, 2) := by decide +kernel
theorem dX4_append_10 : decode cX4_append 10 = .ok (.iload 4, 2) := by decide +kernel
theorem dX4_append_12 : decode cX4_append 12 = .ok (.sipush 200, 3) := by decide +kernel
theorem dX4_append_15 : decode cX4_append 15 = .ok (.if_icmp .ge 37, 3) := by decide +kernel
theorem dX4_append_18 : decode cX4_append 18 = .ok (.aload_n 0, 1) := by decide +kernel
theorem dX4_append_19 : decode cX4_append 19 = .ok (.getfield 20, 3) := by decide +kernel
theorem dX4_append_22 : decode cX4_append 22 = .ok (.iload_n 1, 1) := by decide +kernel
theorem dX4_append_23 : decode cX4_append 23 = .ok (.sipush 200, 3) := by decide +kernel
theorem dX4_append_26 : decode cX4_append 26 = .ok (.imul, 1) := by decide +kernel
theorem dX4_append_27 : decode cX4_append 27 = .ok (.iload 4, 2) := by decide +kernel
theorem dX4_append_29 : decode cX4_append 29 = .ok (.iadd, 1) := by decide +kernel
theorem dX4_append_30 : decode cX4_append 30 = .ok (.iload_n 2, 1) := by decide +kernel
theorem dX4_append_31 : decode cX4_append 31 = .ok (.sipush 256, 3) := by decide +kernel
theorem dX4_append_34 : decode cX4_append 34 = .ok (.imul, 1) := by decide +kernel
theorem dX4_append_35 : decode cX4_append 35 = .ok (.iload_n 3, 1) := by decide +kernel
theorem dX4_append_36 : decode cX4_append 36 = .ok (.iadd, 1) := by decide +kernel
theorem dX4_append_37 : decode cX4_append 37 = .ok (.invokevirtual 27, 3) := by decide +kernel
theorem dX4_append_40 : decode cX4_append 40 = .ok (.aload_n 0, 1) := by decide +kernel
theorem dX4_append_41 : decode cX4_append 41 = .ok (.getfield 14, 3) := by decide +kernel
theorem dX4_append_44 : decode cX4_append 44 = .ok (.iload_n 1, 1) := by decide +kernel
theorem dX4_append_45 : decode cX4_append 45 = .ok (.iload 4, 2) := by decide +kernel
theorem dX4_append_47 : decode cX4_append 47 = .ok (.iconst 1, 1) := by decide +kernel
theorem dX4_append_48 : decode cX4_append 48 = .ok (.iadd, 1) := by decide +kernel
theorem dX4_append_49 : decode cX4_append 49 = .ok (.invokevirtual 27, 3) := by decide +kernel
theorem dX4_append_52 : decode cX4_append 52 = .ok (.return_, 1) := by decide +kernel
theorem dX4_appendParts_0 : decode cX4_appendParts 0 = .ok (.aload_n 0, 1) := by decide +kernel
theorem dX4_appendParts_1 : decode cX4_appendParts 1 = .ok (.getfield 14, 3) := by decide +kernel
theorem dX4_appendParts_4 : decode cX4_appendParts 4 = .ok (.iload_n 1, 1) := by decide +kernel
theorem dX4_appendParts_5 : decode cX4_appendParts 5 = .ok (.invokevirtual 23, 3) := by decide +kernel
theorem dX4_appendParts_8 : decode cX4_appendParts 8 = .ok (.istore 5, 2) := by decide +kernel
theorem dX4_appendParts_10 : decode cX4_appendParts 10 = .ok (.iload 4, 2) := by decide +kernel
theorem dX4_appendParts_12 : decode cX4_appendParts 12 = .ok (.iload_n 3, 1) := by decide +kernel
theorem dX4_appendParts_13 : decode cX4_appendParts 13 = .ok (.isub, 1) := by decide +kernel
theorem dX4_appendParts_14 : decode cX4_appendParts 14 = .ok (.istore 6, 2) := by decide +kernel
theorem dX4_appendParts_16 : decode cX4_appendParts 16 = .ok (.iload 6, 2) := by decide +kernel
theorem dX4_appendParts_18 : decode cX4_appendParts 18 = .ok (.ifCond .le 51, 3) := by decide +kernel
theorem dX4_appendParts_21 : decode cX4_appendParts 21 = .ok (.iload 5, 2) := by decide +kernel
theorem dX4_appendParts_23 : decode cX4_appendParts 23 = .ok (.iload 6, 2) := by decide +kernel
theorem dX4_appendParts_25 : decode cX4_appendParts 25 = .ok (.iadd, 1) := by decide +kernel
theorem dX4_appendParts_26 : decode cX4_appendParts 26 = .ok (.sipush 200, 3) := by decide +kernel
theorem dX4_appendParts_29 : decode cX4_appendParts 29 = .ok (.if_icmp .gt 40, 3) := by decide +kernel
theorem dX4_appendParts_32 : decode cX4_appendParts 32 = .ok (.aload_n 0, 1) := by decide +kernel
theorem dX4_appendParts_33 : decode cX4_appendParts 33 = .ok (.getfield 20, 3) := by decide +kernel
theorem dX4_appendParts_36 : decode cX4_appendParts 36 = .ok (.iload_n 2, 1) := by decide +kernel
theorem dX4_appendParts_37 : decode cX4_appendParts 37 = .ok (.sipush 200, 3) := by decide +kernel
theorem dX4_appendParts_40 : decode cX4_appendParts 40 = .ok (.imul, 1) := by decide +kernel
theorem dX4_appendParts_41 : decode cX4_appendParts 41 = .ok (.iload_n 3, 1) := by decide +kernel
theorem dX4_appendParts_42 : decode cX4_appendParts 42 = .ok (.iadd, 1) := by decide +kernel
theorem dX4_appendParts_43 : decode cX4_appendParts 43 = .ok (.iload_n 1, 1) := by decide +kernel
theorem dX4_appendParts_44 : decode cX4_appendParts 44 = .ok (.sipush 200, 3) := by decide +kernel
theorem dX4_appendParts_47 : decode cX4_appendParts 47 = .ok (.imul, 1) := by decide +kernel
theorem dX4_appendParts_48 : decode cX4_appendParts 48 = .ok (.iload 5, 2) := by decide +kernel
theorem dX4_appendParts_50 : decode cX4_appendParts 50 = .ok (.iadd, 1) := by decide +kernel
theorem dX4_appendParts_51 : decode cX4_appendParts 51 = .ok (.iload 6, 2) := by decide +kernel
theorem dX4_appendParts_53 : decode cX4_appendParts 53 = .ok (.invokevirtual 31, 3) := by decide +kernel
theorem dX4_appendParts_56 : decode cX4_appendParts 56 = .ok (.aload_n 0, 1) := by decide +kernel
theorem dX4_appendParts_57 : decode cX4_appendParts 57 = .ok (.getfield 14, 3) := by decide +kernel
theorem dX4_appendParts_60 : decode cX4_appendParts 60 = .ok (.iload_n 1, 1) := by decide +kernel
theorem dX4_appendParts_61 : decode cX4_appendParts 61 = .ok (.iload 5, 2) := by decide +kernel
theorem dX4_appendParts_63 : decode cX4_appendParts 63 = .ok (.iload 6, 2) := by decide +kernel
theorem dX4_appendParts_65 : decode cX4_appendParts 65 = .ok (.iadd, 1) := by decide +kernel
theorem dX4_appendParts_66 : decode cX4_appendParts 66 = .ok (.invokevirtual 27, 3) := by decide +kernel
theorem dX4_appendParts_69 : decode cX4_appendParts 69 = .ok (.return_, 1) := by decide +kernel
theorem dX4_duplicate_0 : decode cX4_duplicate 0 = .ok (.iload_n 1, 1) := by decide +kernel
theorem dX4_duplicate_1 : decode cX4_duplicate 1 = .ok (.iload_n 2, 1) := by decide +kernel
theorem dX4_duplicate_2 : decode cX4_duplicate 2 = .ok (.if_icmp .ne 4, 3) := by decide +kernel
theorem dX4_duplicate_5 : decode cX4_duplicate 5 = .ok (.return_, 1) := by decide +kernel
theorem dX4_duplicate_6 : decode cX4_duplicate 6 = .ok (.aload_n 0, 1) := by decide +kernel
theorem dX4_duplicate_7 : decode cX4_duplicate 7 = .ok (.iload_n 2, 1) := by decide +kernel
theorem dX4_duplicate_8 : decode cX4_duplicate 8 = .ok (.invokevirtual 35, 3) := by decide +kernel
theorem dX4_duplicate_11 : decode cX4_duplicate 11 = .ok (.aload_n 0, 1) := by decide +kernel
theorem dX4_duplicate_12 : decode cX4_duplicate 12 = .ok (.iload_n 2, 1) := by decide +kernel
theorem dX4_duplicate_13 : decode cX4_duplicate 13 = .ok (.iload_n 1, 1) := by decide +kernel
theorem dX4_duplicate_14 : decode cX4_duplicate 14 = .ok (.iconst 0, 1) := by decide +kernel
theorem dX4_duplicate_15 : decode cX4_duplicate 15 = .ok (.aload_n 0, 1) := by decide +kernel
theorem dX4_duplicate_16 : decode cX4_duplicate 16 = .ok (.iload_n 1, 1) := by decide +kernel
theorem dX4_duplicate_17 : decode cX4_duplicate 17 = .ok (.invokevirtual 38, 3) := by decide +kernel
theorem dX4_duplicate_20 : decode cX4_duplicate 20 = .ok (.invokevirtual 41, 3) := by decide +kernel
theorem dX4_duplicate_23 : decode cX4_duplicate 23 = .ok (.return_, 1) := by decide +kernel
theorem dX4_duplicateState_0 : decode cX4_duplicateState 0 = .ok (.iconst 0, 1) := by decide +kernel
theorem dX4_duplicateState_1 : decode cX4_duplicateState 1 = .ok (.istore_n 3, 1) := by decide +kernel
theorem dX4_duplicateState_2 : decode cX4_duplicateState 2 = .ok (.iload_n 3, 1) := by decide +kernel
theorem dX4_duplicateState_3 : decode cX4_duplicateState 3 = .ok (.bipush 6, 2) := by decide +kernel
theorem dX4_duplicateState_5 : decode cX4_duplicateState 5 = .ok (.if_icmp .ge 25, 3) := by decide +kernel
theorem dX4_duplicateState_8 : decode cX4_duplicateState 8 = .ok (.aload_n 0, 1) := by decide +kernel
theorem dX4_duplicateState_9 : decode cX4_duplicateState 9 = .ok (.iload_n 1, 1) := by decide +kernel
theorem dX4_duplicateState_10 : decode cX4_duplicateState 10 = .ok (.bipush 6, 2) := by decide +kernel
theorem dX4_duplicateState_12 : decode cX4_duplicateState 12 = .ok (.imul, 1) := by decide +kernel
theorem dX4_duplicateState_13 : decode cX4_duplicateState 13 = .ok (.iload_n 3, 1) := by decide +kernel
theorem dX4_duplicateState_14 : decode cX4_duplicateState 14 = .ok (.iadd, 1) := by decide +kernel
theorem dX4_duplicateState_15 : decode cX4_duplicateState 15 = .ok (.iload_n 2, 1) := by decide +kernel
theorem dX4_duplicateState_16 : decode cX4_duplicateState 16 = .ok (.bipush 6, 2) := by decide +kernel
theorem dX4_duplicateState_18 : decode cX4_duplicateState 18 = .ok (.imul, 1) := by decide +kernel
theorem dX4_duplicateState_19 : decode cX4_duplicateState 19 = .ok (.iload_n 3, 1) := by decide +kernel
theorem dX4_duplicateState_20 : decode cX4_duplicateState 20 = .ok (.iadd, 1) := by decide +kernel
theorem dX4_duplicateState_21 : decode cX4_duplicateState 21 = .ok (.invokevirtual 45, 3) := by decide +kernel
theorem dX4_duplicateState_24 : decode cX4_duplicateState 24 = .ok (.iinc 3 1, 3) := by decide +kernel
theorem dX4_duplicateState_27 : decode cX4_duplicateState 27 = .ok (.goto (-25), 3) := by decide +kernel
theorem dX4_duplicateState_30 : decode cX4_duplicateState 30 = .ok (.return_, 1) := by decide +kernel
theorem dX4_partsOfKind_0 : decode cX4_partsOfKind 0 = .ok (.iconst 0, 1) := by decide +kernel
theorem dX4_partsOfKind_1 : decode cX4_partsOfKind 1 = .ok (.istore_n 3, 1) := by decide +kernel
theorem dX4_partsOfKind_2 : decode cX4_partsOfKind 2 = .ok (.iconst 0, 1) := by decide +kernel
theorem dX4_partsOfKind_3 : decode cX4_partsOfKind 3 = .ok (.istore 4, 2) := by decide +kernel
theorem dX4_partsOfKind_5 : decode cX4_partsOfKind 5 = .ok (.iload 4, 2) := by decide +kernel
theorem dX4_partsOfKind_7 : decode cX4_partsOfKind 7 = .ok (.aload_n 0, 1) := by decide +kernel
theorem dX4_partsOfKind_8 : decode cX4_partsOfKind 8 = .ok (.iload_n 1, 1) := by decide +kernel
theorem dX4_partsOfKind_9 : decode cX4_partsOfKind 9 = .ok (.invokevirtual 38, 3) := by decide +kernel
theorem dX4_partsOfKind_12 : decode cX4_partsOfKind 12 = .ok (.if_icmp .ge 23, 3) := by decide +kernel
theorem dX4_partsOfKind_15 : decode cX4_partsOfKind 15 = .ok (.aload_n 0, 1) := by decide +kernel
theorem dX4_partsOfKind_16 : decode cX4_partsOfKind 16 = .ok (.iload_n 1, 1) := by decide +kernel
theorem dX4_partsOfKind_17 : decode cX4_partsOfKind 17 = .ok (.iload 4, 2) := by decide +kernel
theorem dX4_partsOfKind_19 : decode cX4_partsOfKind 19 = .ok (.invokevirtual 48, 3) := by decide +kernel
theorem dX4_partsOfKind_22 : decode cX4_partsOfKind 22 = .ok (.iload_n 2, 1) := by decide +kernel
theorem dX4_partsOfKind_23 : decode cX4_partsOfKind 23 = .ok (.if_icmp .ne 6, 3) := by decide +kernel
theorem dX4_partsOfKind_26 : decode cX4_partsOfKind 26 = .ok (.iinc 3 1, 3) := by decide +kernel
theorem dX4_partsOfKind_29 : decode cX4_partsOfKind 29 = .ok (.iinc 4 1, 3) := by decide +kernel
theorem dX4_partsOfKind_32 : decode cX4_partsOfKind 32 = .ok (.goto (-27), 3) := by decide +kernel
theorem dX4_partsOfKind_35 : decode cX4_partsOfKind 35 = .ok (.iload_n 3, 1) := by decide +kernel
theorem dX4_partsOfKind_36 : decode cX4_partsOfKind 36 = .ok (.ireturn, 1) := by decide +kernel
theorem dX4_greatestVariable_0 : decode cX4_greatestVariable 0 = .ok (.bipush (-6), 2) := by decide +kernel
theorem dX4_greatestVariable_2 : decode cX4_greatestVariable 2 = .ok (.istore_n 2, 1) := by decide +kernel
theorem dX4_greatestVariable_3 : decode cX4_greatestVariable 3 = .ok (.iconst 0, 1) := by decide +kernel
theorem dX4_greatestVariable_4 : decode cX4_greatestVariable 4 = .ok (.istore_n 3, 1) := by decide +kernel
theorem dX4_greatestVariable_5 : decode cX4_greatestVariable 5 = .ok (.iload_n 3, 1) := by decide +kernel
theorem dX4_greatestVariable_6 : decode cX4_greatestVariable 6 = .ok (.aload_n 0, 1) := by decide +kernel
theorem dX4_greatestVariable_7 : decode cX4_greatestVariable 7 = .ok (.iload_n 1, 1) := by decide +kernel
theorem dX4_greatestVariable_8 : decode cX4_greatestVariable 8 = .ok (.invokevirtual 38, 3) := by decide +kernel
theorem dX4_greatestVariable_11 : decode cX4_greatestVariable 11 = .ok (.if_icmp .ge 29, 3) := by decide +kernel
theorem dX4_greatestVariable_14 : decode cX4_greatestVariable 14 = .ok (.aload_n 0, 1) := by decide +kernel
theorem dX4_greatestVariable_15 : decode cX4_greatestVariable 15 = .ok (.iload_n 1, 1) := by decide +kernel
theorem dX4_greatestVariable_16 : decode cX4_greatestVariable 16 = .ok (.iload_n 3, 1) := by decide +kernel
theorem dX4_greatestVariable_17 : decode cX4_greatestVariable 17 = .ok (.invokevirtual 48, 3) := by decide +kernel
theorem dX4_greatestVariable_20 : decode cX4_greatestVariable 20 = .ok (.ifCond .ne 14, 3) := by decide +kernel
theorem dX4_greatestVariable_23 : decode cX4_greatestVariable 23 = .ok (.iload_n 2, 1) := by decide +kernel
theorem dX4_greatestVariable_24 : decode cX4_greatestVariable 24 = .ok (.aload_n 0, 1) := by decide +kernel
theorem dX4_greatestVariable_25 : decode cX4_greatestVariable 25 = .ok (.iload_n 1, 1) := by decide +kernel
theorem dX4_greatestVariable_26 : decode cX4_greatestVariable 26 = .ok (.iload_n 3, 1) := by decide +kernel
theorem dX4_greatestVariable_27 : decode cX4_greatestVariable 27 = .ok (.invokevirtual 52, 3) := by decide +kernel
theorem dX4_greatestVariable_30 : decode cX4_greatestVariable 30 = .ok (.invokestatic 55, 3) := by decide +kernel
theorem dX4_greatestVariable_33 : decode cX4_greatestVariable 33 = .ok (.istore_n 2, 1) := by decide +kernel
theorem dX4_greatestVariable_34 : decode cX4_greatestVariable 34 = .ok (.iinc 3 1, 3) := by decide +kernel
theorem dX4_greatestVariable_37 : decode cX4_greatestVariable 37 = .ok (.goto (-32), 3) := by decide +kernel
theorem dX4_greatestVariable_40 : decode cX4_greatestVariable 40 = .ok (.iload_n 2, 1) := by decide +kernel
theorem dX4_greatestVariable_41 : decode cX4_greatestVariable 41 = .ok (.ireturn, 1) := by decide +kernel
theorem dX5_init_0 : decode cX5_init 0 = .ok (.aload_n 0, 1) := by decide +kernel
theorem dX5_init_1 : decode cX5_init 1 = .ok (.invokespecial 3, 3) := by decide +kernel
theorem dX5_init_4 : decode cX5_init 4 = .ok (.aload_n 0, 1) := by decide +kernel
theorem dX5_init_5 : decode cX5_init 5 = .ok (.aload_n 1, 1) := by decide +kernel
theorem dX5_init_6 : decode cX5_init 6 = .ok (.putfield 9, 3) := by decide +kernel
theorem dX5_init_9 : decode cX5_init 9 = .ok (.aload_n 0, 1) := by decide +kernel
theorem dX5_init_10 : decode cX5_init 10 = .ok (.new 15, 3) := by decide +kernel
theorem dX5_init_13 : decode cX5_init 13 = .ok (.dup, 1) := by decide +kernel
theorem dX5_init_14 : decode cX5_init 14 = .ok (.sipush 200, 3) := by decide +kernel
theorem dX5_init_17 : decode cX5_init 17 = .ok (.invokespecial 17, 3) := by decide +kernel
theorem dX5_init_20 : decode cX5_init 20 = .ok (.putfield 20, 3) := by decide +kernel
theorem dX5_init_23 : decode cX5_init 23 = .ok (.aload_n 0, 1) := by decide +kernel
theorem dX5_init_24 : decode cX5_init 24 = .ok (.new 15, 3) := by decide +kernel
theorem dX5_init_27 : decode cX5_init 27 = .ok (.dup, 1) := by decide +kernel
theorem dX5_init_28 : decode cX5_init 28 = .ok (.sipush 200, 3) := by decide +kernel
theorem dX5_init_31 : decode cX5_init 31 = .ok (.invokespecial 17, 3) := by decide +kernel
theorem dX5_init_34 : decode cX5_init 34 = .ok (.putfield 24, 3) := by decide +kernel
theorem dX5_init_37 : decode cX5_init 37 = .ok (.aload_n 0, 1) := by decide +kernel
theorem dX5_init_38 : decode cX5_init 38 = .ok (.new 15, 3) := by decide +kernel
theorem dX5_init_41 : decode cX5_init 41 = .ok (.dup, 1) := by decide +kernel
theorem dX5_init_42 : decode cX5_init 42 = .ok (.sipush 200, 3) := by decide +kernel
theorem dX5_init_45 : decode cX5_init 45 = .ok (.invokespecial 17, 3) := by decide +kernel
theorem dX5_init_48 : decode cX5_init 48 = .ok (.putfield 27, 3) := by decide +kernel
theorem dX5_init_51 : decode cX5_init 51 = .ok (.return_, 1) := by decide +kernel
theorem dX5_look_0 : decode cX5_look 0 = .ok (.aload_n 0, 1) := by decide +kernel
theorem dX5_look_1 : decode cX5_look 1 = .ok (.iload_n 1, 1) := by decide +kernel
theorem dX5_look_2 : decode cX5_look 2 = .ok (.putfield 30, 3) := by decide +kernel
theorem dX5_look_5 : decode cX5_look 5 = .ok (.aload_n 0, 1) := by decide +kernel
theorem dX5_look_6 : decode cX5_look 6 = .ok (.aload_n 0, 1) := by decide +kernel
theorem dX5_look_7 : decode cX5_look 7 = .ok (.getfield 9, 3) := by decide +kernel
theorem dX5_look_10 : decode cX5_look 10 = .ok (.iload_n 1, 1) := by decide +kernel
theorem dX5_look_11 : decode cX5_look 11 = .ok (.invokevirtual 34, 3) := by decide +kernel
theorem dX5_look_14 : decode cX5_look 14 = .ok (.putfield 40, 3) := by decide +kernel
theorem dX5_look_17 : decode cX5_look 17 = .ok (.aload_n 0, 1) := by decide +kernel
theorem dX5_look_18 : decode cX5_look 18 = .ok (.invokevirtual 42, 3) := by decide +kernel
theorem dX5_look_21 : decode cX5_look 21 = .ok (.aload_n 0, 1) := by decide +kernel
theorem dX5_look_22 : decode cX5_look 22 = .ok (.invokevirtual 45, 3) := by decide +kernel
theorem dX5_look_25 : decode cX5_look 25 = .ok (.return_, 1) := by decide +kernel
theorem dX5_term_0 : decode cX5_term 0 = .ok (.aload_n 0, 1) := by decide +kernel
theorem dX5_term_1 : decode cX5_term 1 = .ok (.getfield 30, 3) := by decide +kernel
theorem dX5_term_4 : decode cX5_term 4 = .ok (.ireturn, 1) := by decide +kernel
theorem dX5_behind_0 : decode cX5_behind 0 = .ok (.aload_n 0, 1) := by decide +kernel
theorem dX5_behind_1 : decode cX5_behind 1 = .ok (.getfield 20, 3) := by decide +kernel
theorem dX5_behind_4 : decode cX5_behind 4 = .ok (.iload_n 1, 1) := by decide +kernel
theorem dX5_behind_5 : decode cX5_behind 5 = .ok (.invokevirtual 48, 3) := by decide +kernel
theorem dX5_behind_8 : decode cX5_behind 8 = .ok (.ireturn, 1) := by decide +kernel
theorem dX5_around_0 : decode cX5_around 0 = .ok (.aload_n 0, 1) := by decide +kernel
theorem dX5_around_1 : decode cX5_around 1 = .ok (.getfield 24, 3) := by decide +kernel
theorem dX5_around_4 : decode cX5_around 4 = .ok (.iload_n 1, 1) := by decide +kernel
theorem dX5_around_5 : decode cX5_around 5 = .ok (.invokevirtual 48, 3) := by decide +kernel
theorem dX5_around_8 : decode cX5_around 8 = .ok (.ireturn, 1) := by decide +kernel
theorem dX5_binder_0 : decode cX5_binder 0 = .ok (.aload_n 0, 1) := by decide +kernel
theorem dX5_binder_1 : decode cX5_binder 1 = .ok (.getfield 9, 3) := by decide +kernel
theorem dX5_binder_4 : decode cX5_binder 4 = .ok (.aload_n 0, 1) := by decide +kernel
theorem dX5_binder_5 : decode cX5_binder 5 = .ok (.getfield 30, 3) := by decide +kernel
theorem dX5_binder_8 : decode cX5_binder 8 = .ok (.iload_n 1, 1) := by decide +kernel
theorem dX5_binder_9 : decode cX5_binder 9 = .ok (.invokevirtual 51, 3) := by decide +kernel
theorem dX5_binder_12 : decode cX5_binder 12 = .ok (.ifCond .eq 6, 3) := by decide +kernel
theorem dX5_binder_15 : decode cX5_binder 15 = .ok (.bipush (-6), 2) := by decide +kernel
theorem dX5_binder_17 : decode cX5_binder 17 = .ok (.ireturn, 1) := by decide +kernel
theorem dX5_binder_18 : decode cX5_binder 18 = .ok (.aload_n 0, 1) := by decide +kernel
theorem dX5_binder_19 : decode cX5_binder 19 = .ok (.getfield 27, 3) := by decide +kernel
theorem dX5_binder_22 : decode cX5_binder 22 = .ok (.iload_n 1, 1) := by decide +kernel
theorem dX5_binder_23 : decode cX5_binder 23 = .ok (.invokevirtual 48, 3) := by decide +kernel
theorem dX5_binder_26 : decode cX5_binder 26 = .ok (.istore_n 2, 1) := by decide +kernel
theorem dX5_binder_27 : decode cX5_binder 27 = .ok (.aload_n 0, 1) := by decide +kernel
theorem dX5_binder_28 : decode cX5_binder 28 = .ok (.getfield 9, 3) := by decide +kernel
theorem dX5_binder_31 : decode cX5_binder 31 = .ok (.aload_n 0, 1) := by decide +kernel
theorem dX5_binder_32 : decode cX5_binder 32 = .ok (.getfield 30, 3) := by decide +kernel
theorem dX5_binder_35 : decode cX5_binder 35 = .ok (.iload_n 1, 1) := by decide +kernel
theorem dX5_binder_36 : decode cX5_binder 36 = .ok (.invokevirtual 55, 3) := by decide +kernel
theorem dX5_binder_39 : decode cX5_binder 39 = .ok (.istore_n 3, 1) := by decide +kernel
theorem dX5_binder_40 : decode cX5_binder 40 = .ok (.iconst 0, 1) := by decide +kernel
theorem dX5_binder_41 : decode cX5_binder 41 = .ok (.istore 4, 2) := by decide +kernel
theorem dX5_binder_43 : decode cX5_binder 43 = .ok (.iload 4, 2) := by decide +kernel
theorem dX5_binder_45 : decode cX5_binder 45 = .ok (.iload_n 3, 1) := by decide +kernel
theorem dX5_binder_46 : decode cX5_binder 46 = .ok (.if_icmp .ge 18, 3) := by decide +kernel
theorem dX5_binder_49 : decode cX5_binder 49 = .ok (.aload_n 0, 1) := by decide +kernel
theorem dX5_binder_50 : decode cX5_binder 50 = .ok (.getfield 27, 3) := by decide +kernel
theorem dX5_binder_53 : decode cX5_binder 53 = .ok (.iload_n 2, 1) := by decide +kernel
theorem dX5_binder_54 : decode cX5_binder 54 = .ok (.invokevirtual 48, 3) := by decide +kernel
theorem dX5_binder_57 : decode cX5_binder 57 = .ok (.istore_n 2, 1) := by decide +kernel
theorem dX5_binder_58 : decode cX5_binder 58 = .ok (.iinc 4 1, 3) := by decide +kernel
theorem dX5_binder_61 : decode cX5_binder 61 = .ok (.goto (-18), 3) := by decide +kernel
theorem dX5_binder_64 : decode cX5_binder 64 = .ok (.iload_n 2, 1) := by decide +kernel
theorem dX5_binder_65 : decode cX5_binder 65 = .ok (.ireturn, 1) := by decide +kernel
theorem dX5_mostAround_0 : decode cX5_mostAround 0 = .ok (.iconst 0, 1) := by decide +kernel
theorem dX5_mostAround_1 : decode cX5_mostAround 1 = .ok (.istore_n 1, 1) := by decide +kernel
theorem dX5_mostAround_2 : decode cX5_mostAround 2 = .ok (.iconst 0, 1) := by decide +kernel
theorem dX5_mostAround_3 : decode cX5_mostAround 3 = .ok (.istore_n 2, 1) := by decide +kernel
theorem dX5_mostAround_4 : decode cX5_mostAround 4 = .ok (.iload_n 2, 1) := by decide +kernel
theorem dX5_mostAround_5 : decode cX5_mostAround 5 = .ok (.aload_n 0, 1) := by decide +kernel
theorem dX5_mostAround_6 : decode cX5_mostAround 6 = .ok (.getfield 40, 3) := by decide +kernel
theorem dX5_mostAround_9 : decode cX5_mostAround 9 = .ok (.if_icmp .ge 19, 3) := by decide +kernel
theorem dX5_mostAround_12 : decode cX5_mostAround 12 = .ok (.iload_n 1, 1) := by decide +kernel
theorem dX5_mostAround_13 : decode cX5_mostAround 13 = .ok (.aload_n 0, 1) := by decide +kernel
theorem dX5_mostAround_14 : decode cX5_mostAround 14 = .ok (.iload_n 2, 1) := by decide +kernel
theorem dX5_mostAround_15 : decode cX5_mostAround 15 = .ok (.invokevirtual 58, 3) := by decide +kernel
theorem dX5_mostAround_18 : decode cX5_mostAround 18 = .ok (.invokestatic 60, 3) := by decide +kernel
theorem dX5_mostAround_21 : decode cX5_mostAround 21 = .ok (.istore_n 1, 1) := by decide +kernel
theorem dX5_mostAround_22 : decode cX5_mostAround 22 = .ok (.iinc 2 1, 3) := by decide +kernel
theorem dX5_mostAround_25 : decode cX5_mostAround 25 = .ok (.goto (-21), 3) := by decide +kernel
theorem dX5_mostAround_28 : decode cX5_mostAround 28 = .ok (.iload_n 1, 1) := by decide +kernel
theorem dX5_mostAround_29 : decode cX5_mostAround 29 = .ok (.ireturn, 1) := by decide +kernel
theorem dX5_reduciblePlaces_0 : decode cX5_reduciblePlaces 0 = .ok (.iconst 0, 1) := by decide +kernel
theorem dX5_reduciblePlaces_1 : decode cX5_reduciblePlaces 1 = .ok (.istore_n 1, 1) := by decide +kernel
theorem dX5_reduciblePlaces_2 : decode cX5_reduciblePlaces 2 = .ok (.iconst 0, 1) := by decide +kernel
theorem dX5_reduciblePlaces_3 : decode cX5_reduciblePlaces 3 = .ok (.istore_n 2, 1) := by decide +kernel
theorem dX5_reduciblePlaces_4 : decode cX5_reduciblePlaces 4 = .ok (.iload_n 2, 1) := by decide +kernel
theorem dX5_reduciblePlaces_5 : decode cX5_reduciblePlaces 5 = .ok (.aload_n 0, 1) := by decide +kernel
theorem dX5_reduciblePlaces_6 : decode cX5_reduciblePlaces 6 = .ok (.getfield 40, 3) := by decide +kernel
theorem dX5_reduciblePlaces_9 : decode cX5_reduciblePlaces 9 = .ok (.if_icmp .ge 20, 3) := by decide +kernel
theorem dX5_reduciblePlaces_12 : decode cX5_reduciblePlaces 12 = .ok (.aload_n 0, 1) := by decide +kernel
theorem dX5_reduciblePlaces_13 : decode cX5_reduciblePlaces 13 = .ok (.iload_n 2, 1) := by decide +kernel
theorem dX5_reduciblePlaces_14 : decode cX5_reduciblePlaces 14 = .ok (.invokevirtual 65, 3) := by decide +kernel
theorem dX5_reduciblePlaces_17 : decode cX5_reduciblePlaces 17 = .ok (.ifCond .eq 6, 3) := by decide +kernel
theorem dX5_reduciblePlaces_20 : decode cX5_reduciblePlaces 20 = .ok (.iinc 1 1, 3) := by decide +kernel
theorem dX5_reduciblePlaces_23 : decode cX5_reduciblePlaces 23 = .ok (.iinc 2 1, 3) := by decide +kernel
theorem dX5_reduciblePlaces_26 : decode cX5_reduciblePlaces 26 = .ok (.goto (-22), 3) := by decide +kernel
theorem dX5_reduciblePlaces_29 : decode cX5_reduciblePlaces 29 = .ok (.iload_n 1, 1) := by decide +kernel
theorem dX5_reduciblePlaces_30 : decode cX5_reduciblePlaces 30 = .ok (.ireturn, 1) := by decide +kernel
theorem dX5_next_0 : decode cX5_next 0 = .ok (.iload_n 1, 1) := by decide +kernel
theorem dX5_next_1 : decode cX5_next 1 = .ok (.iconst 1, 1) := by decide +kernel
theorem dX5_next_2 : decode cX5_next 2 = .ok (.if_icmp .ne 8, 3) := by decide +kernel
theorem dX5_next_5 : decode cX5_next 5 = .ok (.aload_n 0, 1) := by decide +kernel
theorem dX5_next_6 : decode cX5_next 6 = .ok (.invokevirtual 69, 3) := by decide +kernel
theorem dX5_next_9 : decode cX5_next 9 = .ok (.ireturn, 1) := by decide +kernel
theorem dX5_next_10 : decode cX5_next 10 = .ok (.iconst 0, 1) := by decide +kernel
theorem dX5_next_11 : decode cX5_next 11 = .ok (.istore_n 2, 1) := by decide +kernel
theorem dX5_next_12 : decode cX5_next 12 = .ok (.iload_n 2, 1) := by decide +kernel
theorem dX5_next_13 : decode cX5_next 13 = .ok (.aload_n 0, 1) := by decide +kernel
theorem dX5_next_14 : decode cX5_next 14 = .ok (.getfield 40, 3) := by decide +kernel
theorem dX5_next_17 : decode cX5_next 17 = .ok (.if_icmp .ge 31, 3) := by decide +kernel
theorem dX5_next_20 : decode cX5_next 20 = .ok (.aload_n 0, 1) := by decide +kernel
theorem dX5_next_21 : decode cX5_next 21 = .ok (.iload_n 2, 1) := by decide +kernel
theorem dX5_next_22 : decode cX5_next 22 = .ok (.invokevirtual 65, 3) := by decide +kernel
theorem dX5_next_25 : decode cX5_next 25 = .ok (.ifCond .eq 17, 3) := by decide +kernel
theorem dX5_next_28 : decode cX5_next 28 = .ok (.iload_n 1, 1) := by decide +kernel
theorem dX5_next_29 : decode cX5_next 29 = .ok (.ifCond .eq 11, 3) := by decide +kernel
