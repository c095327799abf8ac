theorem dX5_next_32 : decode cX5_next 32 = .ok (.aload_n 0, 1) := by decide +kernel
theorem dX5_next_33 : decode cX5_next 33 = .ok (.iload_n 2, 1) := by decide +kernel
theorem dX5_next_34 : decode cX5_next 34 = .ok (.invokevirtual 58, 3) := by decide +kernel
theorem dX5_next_37 : decode cX5_next 37 = .ok (.ifCond .ne 5, 3) := by decide +kernel
theorem dX5_next_40 : decode cX5_next 40 = .ok (.iload_n 2, 1) := by decide +kernel
theorem dX5_next_41 : decode cX5_next 41 = .ok (.ireturn, 1) := by decide +kernel
theorem dX5_next_42 : decode cX5_next 42 = .ok (.iinc 2 1, 3) := by decide +kernel
theorem dX5_next_45 : decode cX5_next 45 = .ok (.goto (-33), 3) := by decide +kernel
theorem dX5_next_48 : decode cX5_next 48 = .ok (.bipush (-6), 2) := by decide +kernel
theorem dX5_next_50 : decode cX5_next 50 = .ok (.ireturn, 1) := by decide +kernel
theorem dX5_printed_0 : decode cX5_printed 0 = .ok (.iconst 0, 1) := by decide +kernel
theorem dX5_printed_1 : decode cX5_printed 1 = .ok (.istore_n 2, 1) := by decide +kernel
theorem dX5_printed_2 : decode cX5_printed 2 = .ok (.iconst 0, 1) := by decide +kernel
theorem dX5_printed_3 : decode cX5_printed 3 = .ok (.istore_n 3, 1) := by decide +kernel
theorem dX5_printed_4 : decode cX5_printed 4 = .ok (.iload_n 3, 1) := by decide +kernel
theorem dX5_printed_5 : decode cX5_printed 5 = .ok (.aload_n 0, 1) := by decide +kernel
theorem dX5_printed_6 : decode cX5_printed 6 = .ok (.getfield 40, 3) := by decide +kernel
theorem dX5_printed_9 : decode cX5_printed 9 = .ok (.if_icmp .ge 56, 3) := by decide +kernel
theorem dX5_printed_12 : decode cX5_printed 12 = .ok (.iload_n 2, 1) := by decide +kernel
theorem dX5_printed_13 : decode cX5_printed 13 = .ok (.iload_n 1, 1) := by decide +kernel
theorem dX5_printed_14 : decode cX5_printed 14 = .ok (.if_icmp .ne 9, 3) := by decide +kernel
theorem dX5_printed_17 : decode cX5_printed 17 = .ok (.aload_n 0, 1) := by decide +kernel
theorem dX5_printed_18 : decode cX5_printed 18 = .ok (.iload_n 3, 1) := by decide +kernel
theorem dX5_printed_19 : decode cX5_printed 19 = .ok (.invokevirtual 73, 3) := by decide +kernel
theorem dX5_printed_22 : decode cX5_printed 22 = .ok (.ireturn, 1) := by decide +kernel
theorem dX5_printed_23 : decode cX5_printed 23 = .ok (.iinc 2 1, 3) := by decide +kernel
theorem dX5_printed_26 : decode cX5_printed 26 = .ok (.aload_n 0, 1) := by decide +kernel
theorem dX5_printed_27 : decode cX5_printed 27 = .ok (.getfield 9, 3) := by decide +kernel
theorem dX5_printed_30 : decode cX5_printed 30 = .ok (.aload_n 0, 1) := by decide +kernel
theorem dX5_printed_31 : decode cX5_printed 31 = .ok (.getfield 30, 3) := by decide +kernel
theorem dX5_printed_34 : decode cX5_printed 34 = .ok (.iload_n 3, 1) := by decide +kernel
theorem dX5_printed_35 : decode cX5_printed 35 = .ok (.invokevirtual 51, 3) := by decide +kernel
theorem dX5_printed_38 : decode cX5_printed 38 = .ok (.iconst 2, 1) := by decide +kernel
theorem dX5_printed_39 : decode cX5_printed 39 = .ok (.if_icmp .ne 20, 3) := by decide +kernel
theorem dX5_printed_42 : decode cX5_printed 42 = .ok (.iload_n 2, 1) := by decide +kernel
theorem dX5_printed_43 : decode cX5_printed 43 = .ok (.iload_n 1, 1) := by decide +kernel
theorem dX5_printed_44 : decode cX5_printed 44 = .ok (.if_icmp .ne 12, 3) := by decide +kernel
theorem dX5_printed_47 : decode cX5_printed 47 = .ok (.aload_n 0, 1) := by decide +kernel
theorem dX5_printed_48 : decode cX5_printed 48 = .ok (.iload_n 3, 1) := by decide +kernel
theorem dX5_printed_49 : decode cX5_printed 49 = .ok (.invokevirtual 58, 3) := by decide +kernel
theorem dX5_printed_52 : decode cX5_printed 52 = .ok (.invokestatic 76, 3) := by decide +kernel
theorem dX5_printed_55 : decode cX5_printed 55 = .ok (.ireturn, 1) := by decide +kernel
theorem dX5_printed_56 : decode cX5_printed 56 = .ok (.iinc 2 1, 3) := by decide +kernel
theorem dX5_printed_59 : decode cX5_printed 59 = .ok (.iinc 3 1, 3) := by decide +kernel
theorem dX5_printed_62 : decode cX5_printed 62 = .ok (.goto (-58), 3) := by decide +kernel
theorem dX5_printed_65 : decode cX5_printed 65 = .ok (.iconst (-1), 1) := by decide +kernel
theorem dX5_printed_66 : decode cX5_printed 66 = .ok (.ireturn, 1) := by decide +kernel
theorem dX5_findEnds_0 : decode cX5_findEnds 0 = .ok (.aload_n 0, 1) := by decide +kernel
theorem dX5_findEnds_1 : decode cX5_findEnds 1 = .ok (.getfield 40, 3) := by decide +kernel
theorem dX5_findEnds_4 : decode cX5_findEnds 4 = .ok (.iconst 1, 1) := by decide +kernel
theorem dX5_findEnds_5 : decode cX5_findEnds 5 = .ok (.isub, 1) := by decide +kernel
theorem dX5_findEnds_6 : decode cX5_findEnds 6 = .ok (.istore_n 1, 1) := by decide +kernel
theorem dX5_findEnds_7 : decode cX5_findEnds 7 = .ok (.iload_n 1, 1) := by decide +kernel
theorem dX5_findEnds_8 : decode cX5_findEnds 8 = .ok (.ifCond .lt 68, 3) := by decide +kernel
theorem dX5_findEnds_11 : decode cX5_findEnds 11 = .ok (.aload_n 0, 1) := by decide +kernel
theorem dX5_findEnds_12 : decode cX5_findEnds 12 = .ok (.getfield 9, 3) := by decide +kernel
theorem dX5_findEnds_15 : decode cX5_findEnds 15 = .ok (.aload_n 0, 1) := by decide +kernel
theorem dX5_findEnds_16 : decode cX5_findEnds 16 = .ok (.getfield 30, 3) := by decide +kernel
theorem dX5_findEnds_19 : decode cX5_findEnds 19 = .ok (.iload_n 1, 1) := by decide +kernel
theorem dX5_findEnds_20 : decode cX5_findEnds 20 = .ok (.invokevirtual 51, 3) := by decide +kernel
theorem dX5_findEnds_23 : decode cX5_findEnds 23 = .ok (.istore_n 2, 1) := by decide +kernel
theorem dX5_findEnds_24 : decode cX5_findEnds 24 = .ok (.iload_n 1, 1) := by decide +kernel
theorem dX5_findEnds_25 : decode cX5_findEnds 25 = .ok (.iconst 1, 1) := by decide +kernel
theorem dX5_findEnds_26 : decode cX5_findEnds 26 = .ok (.iadd, 1) := by decide +kernel
theorem dX5_findEnds_27 : decode cX5_findEnds 27 = .ok (.istore_n 3, 1) := by decide +kernel
theorem dX5_findEnds_28 : decode cX5_findEnds 28 = .ok (.iload_n 2, 1) := by decide +kernel
theorem dX5_findEnds_29 : decode cX5_findEnds 29 = .ok (.iconst 2, 1) := by decide +kernel
theorem dX5_findEnds_30 : decode cX5_findEnds 30 = .ok (.if_icmp .ne 14, 3) := by decide +kernel
theorem dX5_findEnds_33 : decode cX5_findEnds 33 = .ok (.aload_n 0, 1) := by decide +kernel
theorem dX5_findEnds_34 : decode cX5_findEnds 34 = .ok (.iload_n 1, 1) := by decide +kernel
theorem dX5_findEnds_35 : decode cX5_findEnds 35 = .ok (.iconst 1, 1) := by decide +kernel
theorem dX5_findEnds_36 : decode cX5_findEnds 36 = .ok (.iadd, 1) := by decide +kernel
theorem dX5_findEnds_37 : decode cX5_findEnds 37 = .ok (.invokevirtual 79, 3) := by decide +kernel
theorem dX5_findEnds_40 : decode cX5_findEnds 40 = .ok (.istore_n 3, 1) := by decide +kernel
theorem dX5_findEnds_41 : decode cX5_findEnds 41 = .ok (.goto 20, 3) := by decide +kernel
theorem dX5_findEnds_44 : decode cX5_findEnds 44 = .ok (.iload_n 2, 1) := by decide +kernel
theorem dX5_findEnds_45 : decode cX5_findEnds 45 = .ok (.iconst 3, 1) := by decide +kernel
theorem dX5_findEnds_46 : decode cX5_findEnds 46 = .ok (.if_icmp .ne 15, 3) := by decide +kernel
theorem dX5_findEnds_49 : decode cX5_findEnds 49 = .ok (.aload_n 0, 1) := by decide +kernel
theorem dX5_findEnds_50 : decode cX5_findEnds 50 = .ok (.aload_n 0, 1) := by decide +kernel
theorem dX5_findEnds_51 : decode cX5_findEnds 51 = .ok (.iload_n 1, 1) := by decide +kernel
theorem dX5_findEnds_52 : decode cX5_findEnds 52 = .ok (.iconst 1, 1) := by decide +kernel
theorem dX5_findEnds_53 : decode cX5_findEnds 53 = .ok (.iadd, 1) := by decide +kernel
theorem dX5_findEnds_54 : decode cX5_findEnds 54 = .ok (.invokevirtual 79, 3) := by decide +kernel
theorem dX5_findEnds_57 : decode cX5_findEnds 57 = .ok (.invokevirtual 79, 3) := by decide +kernel
theorem dX5_findEnds_60 : decode cX5_findEnds 60 = .ok (.istore_n 3, 1) := by decide +kernel
theorem dX5_findEnds_61 : decode cX5_findEnds 61 = .ok (.aload_n 0, 1) := by decide +kernel
theorem dX5_findEnds_62 : decode cX5_findEnds 62 = .ok (.getfield 20, 3) := by decide +kernel
theorem dX5_findEnds_65 : decode cX5_findEnds 65 = .ok (.iload_n 1, 1) := by decide +kernel
theorem dX5_findEnds_66 : decode cX5_findEnds 66 = .ok (.iload_n 3, 1) := by decide +kernel
theorem dX5_findEnds_67 : decode cX5_findEnds 67 = .ok (.invokevirtual 81, 3) := by decide +kernel
theorem dX5_findEnds_70 : decode cX5_findEnds 70 = .ok (.iinc 1 (-1), 3) := by decide +kernel
theorem dX5_findEnds_73 : decode cX5_findEnds 73 = .ok (.goto (-66), 3) := by decide +kernel
theorem dX5_findEnds_76 : decode cX5_findEnds 76 = .ok (.return_, 1) := by decide +kernel
theorem dX5_findSurroundings_0 : decode cX5_findSurroundings 0 = .ok (.aload_n 0, 1) := by decide +kernel
theorem dX5_findSurroundings_1 : decode cX5_findSurroundings 1 = .ok (.getfield 24, 3) := by decide +kernel
theorem dX5_findSurroundings_4 : decode cX5_findSurroundings 4 = .ok (.iconst 0, 1) := by decide +kernel
theorem dX5_findSurroundings_5 : decode cX5_findSurroundings 5 = .ok (.iconst 0, 1) := by decide +kernel
theorem dX5_findSurroundings_6 : decode cX5_findSurroundings 6 = .ok (.invokevirtual 81, 3) := by decide +kernel
theorem dX5_findSurroundings_9 : decode cX5_findSurroundings 9 = .ok (.aload_n 0, 1) := by decide +kernel
theorem dX5_findSurroundings_10 : decode cX5_findSurroundings 10 = .ok (.getfield 27, 3) := by decide +kernel
theorem dX5_findSurroundings_13 : decode cX5_findSurroundings 13 = .ok (.iconst 0, 1) := by decide +kernel
theorem dX5_findSurroundings_14 : decode cX5_findSurroundings 14 = .ok (.bipush (-6), 2) := by decide +kernel
theorem dX5_findSurroundings_16 : decode cX5_findSurroundings 16 = .ok (.invokevirtual 81, 3) := by decide +kernel
theorem dX5_findSurroundings_19 : decode cX5_findSurroundings 19 = .ok (.iconst 0, 1) := by decide +kernel
theorem dX5_findSurroundings_20 : decode cX5_findSurroundings 20 = .ok (.istore_n 1, 1) := by decide +kernel
theorem dX5_findSurroundings_21 : decode cX5_findSurroundings 21 = .ok (.iload_n 1, 1) := by decide +kernel
theorem dX5_findSurroundings_22 : decode cX5_findSurroundings 22 = .ok (.aload_n 0, 1) := by decide +kernel
theorem dX5_findSurroundings_23 : decode cX5_findSurroundings 23 = .ok (.getfield 40, 3) := by decide +kernel
theorem dX5_findSurroundings_26 : decode cX5_findSurroundings 26 = .ok (.if_icmp .ge 83, 3) := by decide +kernel
theorem dX5_findSurroundings_29 : decode cX5_findSurroundings 29 = .ok (.aload_n 0, 1) := by decide +kernel
theorem dX5_findSurroundings_30 : decode cX5_findSurroundings 30 = .ok (.getfield 9, 3) := by decide +kernel
theorem dX5_findSurroundings_33 : decode cX5_findSurroundings 33 = .ok (.aload_n 0, 1) := by decide +kernel
theorem dX5_findSurroundings_34 : decode cX5_findSurroundings 34 = .ok (.getfield 30, 3) := by decide +kernel
theorem dX5_findSurroundings_37 : decode cX5_findSurroundings 37 = .ok (.iload_n 1, 1) := by decide +kernel
theorem dX5_findSurroundings_38 : decode cX5_findSurroundings 38 = .ok (.invokevirtual 51, 3) := by decide +kernel
theorem dX5_findSurroundings_41 : decode cX5_findSurroundings 41 = .ok (.istore_n 2, 1) := by decide +kernel
theorem dX5_findSurroundings_42 : decode cX5_findSurroundings 42 = .ok (.iload_n 2, 1) := by decide +kernel
theorem dX5_findSurroundings_43 : decode cX5_findSurroundings 43 = .ok (.iconst 2, 1) := by decide +kernel
theorem dX5_findSurroundings_44 : decode cX5_findSurroundings 44 = .ok (.if_icmp .ne 34, 3) := by decide +kernel
theorem dX5_findSurroundings_47 : decode cX5_findSurroundings 47 = .ok (.aload_n 0, 1) := by decide +kernel
theorem dX5_findSurroundings_48 : decode cX5_findSurroundings 48 = .ok (.getfield 24, 3) := by decide +kernel
theorem dX5_findSurroundings_51 : decode cX5_findSurroundings 51 = .ok (.iload_n 1, 1) := by decide +kernel
theorem dX5_findSurroundings_52 : decode cX5_findSurroundings 52 = .ok (.iconst 1, 1) := by decide +kernel
theorem dX5_findSurroundings_53 : decode cX5_findSurroundings 53 = .ok (.iadd, 1) := by decide +kernel
theorem dX5_findSurroundings_54 : decode cX5_findSurroundings 54 = .ok (.aload_n 0, 1) := by decide +kernel
theorem dX5_findSurroundings_55 : decode cX5_findSurroundings 55 = .ok (.iload_n 1, 1) := by decide +kernel
theorem dX5_findSurroundings_56 : decode cX5_findSurroundings 56 = .ok (.invokevirtual 58, 3) := by decide +kernel
theorem dX5_findSurroundings_59 : decode cX5_findSurroundings 59 = .ok (.iconst 1, 1) := by decide +kernel
theorem dX5_findSurroundings_60 : decode cX5_findSurroundings 60 = .ok (.iadd, 1) := by decide +kernel
theorem dX5_findSurroundings_61 : decode cX5_findSurroundings 61 = .ok (.invokevirtual 81, 3) := by decide +kernel
theorem dX5_findSurroundings_64 : decode cX5_findSurroundings 64 = .ok (.aload_n 0, 1) := by decide +kernel
theorem dX5_findSurroundings_65 : decode cX5_findSurroundings 65 = .ok (.getfield 27, 3) := by decide +kernel
theorem dX5_findSurroundings_68 : decode cX5_findSurroundings 68 = .ok (.iload_n 1, 1) := by decide +kernel
theorem dX5_findSurroundings_69 : decode cX5_findSurroundings 69 = .ok (.iconst 1, 1) := by decide +kernel
theorem dX5_findSurroundings_70 : decode cX5_findSurroundings 70 = .ok (.iadd, 1) := by decide +kernel
theorem dX5_findSurroundings_71 : decode cX5_findSurroundings 71 = .ok (.iload_n 1, 1) := by decide +kernel
theorem dX5_findSurroundings_72 : decode cX5_findSurroundings 72 = .ok (.invokevirtual 81, 3) := by decide +kernel
theorem dX5_findSurroundings_75 : decode cX5_findSurroundings 75 = .ok (.goto 28, 3) := by decide +kernel
theorem dX5_findSurroundings_78 : decode cX5_findSurroundings 78 = .ok (.iload_n 2, 1) := by decide +kernel
theorem dX5_findSurroundings_79 : decode cX5_findSurroundings 79 = .ok (.iconst 3, 1) := by decide +kernel
theorem dX5_findSurroundings_80 : decode cX5_findSurroundings 80 = .ok (.if_icmp .ne 23, 3) := by decide +kernel
theorem dX5_findSurroundings_83 : decode cX5_findSurroundings 83 = .ok (.aload_n 0, 1) := by decide +kernel
theorem dX5_findSurroundings_84 : decode cX5_findSurroundings 84 = .ok (.iload_n 1, 1) := by decide +kernel
theorem dX5_findSurroundings_85 : decode cX5_findSurroundings 85 = .ok (.iload_n 1, 1) := by decide +kernel
theorem dX5_findSurroundings_86 : decode cX5_findSurroundings 86 = .ok (.iconst 1, 1) := by decide +kernel
theorem dX5_findSurroundings_87 : decode cX5_findSurroundings 87 = .ok (.iadd, 1) := by decide +kernel
theorem dX5_findSurroundings_88 : decode cX5_findSurroundings 88 = .ok (.invokevirtual 85, 3) := by decide +kernel
theorem dX5_findSurroundings_91 : decode cX5_findSurroundings 91 = .ok (.aload_n 0, 1) := by decide +kernel
theorem dX5_findSurroundings_92 : decode cX5_findSurroundings 92 = .ok (.iload_n 1, 1) := by decide +kernel
theorem dX5_findSurroundings_93 : decode cX5_findSurroundings 93 = .ok (.aload_n 0, 1) := by decide +kernel
theorem dX5_findSurroundings_94 : decode cX5_findSurroundings 94 = .ok (.iload_n 1, 1) := by decide +kernel
theorem dX5_findSurroundings_95 : decode cX5_findSurroundings 95 = .ok (.iconst 1, 1) := by decide +kernel
theorem dX5_findSurroundings_96 : decode cX5_findSurroundings 96 = .ok (.iadd, 1) := by decide +kernel
theorem dX5_findSurroundings_97 : decode cX5_findSurroundings 97 = .ok (.invokevirtual 79, 3) := by decide +kernel
theorem dX5_findSurroundings_100 : decode cX5_findSurroundings 100 = .ok (.invokevirtual 85, 3) := by decide +kernel
theorem dX5_findSurroundings_103 : decode cX5_findSurroundings 103 = .ok (.iinc 1 1, 3) := by decide +kernel
theorem dX5_findSurroundings_106 : decode cX5_findSurroundings 106 = .ok (.goto (-85), 3) := by decide +kernel
theorem dX5_findSurroundings_109 : decode cX5_findSurroundings 109 = .ok (.return_, 1) := by decide +kernel
theorem dX5_surroundAs_0 : decode cX5_surroundAs 0 = .ok (.aload_n 0, 1) := by decide +kernel
theorem dX5_surroundAs_1 : decode cX5_surroundAs 1 = .ok (.getfield 24, 3) := by decide +kernel
theorem dX5_surroundAs_4 : decode cX5_surroundAs 4 = .ok (.iload_n 2, 1) := by decide +kernel
theorem dX5_surroundAs_5 : decode cX5_surroundAs 5 = .ok (.aload_n 0, 1) := by decide +kernel
theorem dX5_surroundAs_6 : decode cX5_surroundAs 6 = .ok (.getfield 24, 3) := by decide +kernel
theorem dX5_surroundAs_9 : decode cX5_surroundAs 9 = .ok (.iload_n 1, 1) := by decide +kernel
theorem dX5_surroundAs_10 : decode cX5_surroundAs 10 = .ok (.invokevirtual 48, 3) := by decide +kernel
theorem dX5_surroundAs_13 : decode cX5_surroundAs 13 = .ok (.invokevirtual 81, 3) := by decide +kernel
theorem dX5_surroundAs_16 : decode cX5_surroundAs 16 = .ok (.aload_n 0, 1) := by decide +kernel
theorem dX5_surroundAs_17 : decode cX5_surroundAs 17 = .ok (.getfield 27, 3) := by decide +kernel
theorem dX5_surroundAs_20 : decode cX5_surroundAs 20 = .ok (.iload_n 2, 1) := by decide +kernel
theorem dX5_surroundAs_21 : decode cX5_surroundAs 21 = .ok (.aload_n 0, 1) := by decide +kernel
theorem dX5_surroundAs_22 : decode cX5_surroundAs 22 = .ok (.getfield 27, 3) := by decide +kernel
theorem dX5_surroundAs_25 : decode cX5_surroundAs 25 = .ok (.iload_n 1, 1) := by decide +kernel
theorem dX5_surroundAs_26 : decode cX5_surroundAs 26 = .ok (.invokevirtual 48, 3) := by decide +kernel
theorem dX5_surroundAs_29 : decode cX5_surroundAs 29 = .ok (.invokevirtual 81, 3) := by decide +kernel
theorem dX5_surroundAs_32 : decode cX5_surroundAs 32 = .ok (.return_, 1) := by decide +kernel
theorem dX5_isReducible_0 : decode cX5_isReducible 0 = .ok (.aload_n 0, 1) := by decide +kernel
theorem dX5_isReducible_1 : decode cX5_isReducible 1 = .ok (.getfield 9, 3) := by decide +kernel
theorem dX5_isReducible_4 : decode cX5_isReducible 4 = .ok (.aload_n 0, 1) := by decide +kernel
theorem dX5_isReducible_5 : decode cX5_isReducible 5 = .ok (.getfield 30, 3) := by decide +kernel
theorem dX5_isReducible_8 : decode cX5_isReducible 8 = .ok (.iload_n 1, 1) := by decide +kernel
theorem dX5_isReducible_9 : decode cX5_isReducible 9 = .ok (.invokevirtual 51, 3) := by decide +kernel
theorem dX5_isReducible_12 : decode cX5_isReducible 12 = .ok (.iconst 3, 1) := by decide +kernel
theorem dX5_isReducible_13 : decode cX5_isReducible 13 = .ok (.if_icmp .ne 25, 3) := by decide +kernel
theorem dX5_isReducible_16 : decode cX5_isReducible 16 = .ok (.aload_n 0, 1) := by decide +kernel
theorem dX5_isReducible_17 : decode cX5_isReducible 17 = .ok (.getfield 9, 3) := by decide +kernel
theorem dX5_isReducible_20 : decode cX5_isReducible 20 = .ok (.aload_n 0, 1) := by decide +kernel
theorem dX5_isReducible_21 : decode cX5_isReducible 21 = .ok (.getfield 30, 3) := by decide +kernel
theorem dX5_isReducible_24 : decode cX5_isReducible 24 = .ok (.iload_n 1, 1) := by decide +kernel
theorem dX5_isReducible_25 : decode cX5_isReducible 25 = .ok (.iconst 1, 1) := by decide +kernel
theorem dX5_isReducible_26 : decode cX5_isReducible 26 = .ok (.iadd, 1) := by decide +kernel
theorem dX5_isReducible_27 : decode cX5_isReducible 27 = .ok (.invokevirtual 51, 3) := by decide +kernel
theorem dX5_isReducible_30 : decode cX5_isReducible 30 = .ok (.iconst 2, 1) := by decide +kernel
theorem dX5_isReducible_31 : decode cX5_isReducible 31 = .ok (.if_icmp .ne 7, 3) := by decide +kernel
theorem dX5_isReducible_34 : decode cX5_isReducible 34 = .ok (.iconst 1, 1) := by decide +kernel
theorem dX5_isReducible_35 : decode cX5_isReducible 35 = .ok (.goto 4, 3) := by decide +kernel
theorem dX5_isReducible_38 : decode cX5_isReducible 38 = .ok (.iconst 0, 1) := by decide +kernel
theorem dX5_isReducible_39 : decode cX5_isReducible 39 = .ok (.ireturn, 1) := by decide +kernel
theorem dX5_firstInner_0 : decode cX5_firstInner 0 = .ok (.bipush (-6), 2) := by decide +kernel
theorem dX5_firstInner_2 : decode cX5_firstInner 2 = .ok (.istore_n 1, 1) := by decide +kernel
theorem dX5_firstInner_3 : decode cX5_firstInner 3 = .ok (.iconst 0, 1) := by decide +kernel
theorem dX5_firstInner_4 : decode cX5_firstInner 4 = .ok (.istore_n 2, 1) := by decide +kernel
theorem dX5_firstInner_5 : decode cX5_firstInner 5 = .ok (.iload_n 2, 1) := by decide +kernel
theorem dX5_firstInner_6 : decode cX5_firstInner 6 = .ok (.aload_n 0, 1) := by decide +kernel
theorem dX5_firstInner_7 : decode cX5_firstInner 7 = .ok (.getfield 40, 3) := by decide +kernel
theorem dX5_firstInner_10 : decode cX5_firstInner 10 = .ok (.if_icmp .ge 36, 3) := by decide +kernel
theorem dX5_firstInner_13 : decode cX5_firstInner 13 = .ok (.aload_n 0, 1) := by decide +kernel
theorem dX5_firstInner_14 : decode cX5_firstInner 14 = .ok (.iload_n 2, 1) := by decide +kernel
theorem dX5_firstInner_15 : decode cX5_firstInner 15 = .ok (.invokevirtual 65, 3) := by decide +kernel
theorem dX5_firstInner_18 : decode cX5_firstInner 18 = .ok (.ifCond .eq 22, 3) := by decide +kernel
theorem dX5_firstInner_21 : decode cX5_firstInner 21 = .ok (.iload_n 1, 1) := by decide +kernel
theorem dX5_firstInner_22 : decode cX5_firstInner 22 = .ok (.bipush (-6), 2) := by decide +kernel
theorem dX5_firstInner_24 : decode cX5_firstInner 24 = .ok (.if_icmp .eq 14, 3) := by decide +kernel
theorem dX5_firstInner_27 : decode cX5_firstInner 27 = .ok (.iload_n 2, 1) := by decide +kernel
theorem dX5_firstInner_28 : decode cX5_firstInner 28 = .ok (.aload_n 0, 1) := by decide +kernel
theorem dX5_firstInner_29 : decode cX5_firstInner 29 = .ok (.iload_n 1, 1) := by decide +kernel
theorem dX5_firstInner_30 : decode cX5_firstInner 30 = .ok (.invokevirtual 79, 3) := by decide +kernel
theorem dX5_firstInner_33 : decode cX5_firstInner 33 = .ok (.if_icmp .lt 5, 3) := by decide +kernel
theorem dX5_firstInner_36 : decode cX5_firstInner 36 = .ok (.iload_n 1, 1) := by decide +kernel
theorem dX5_firstInner_37 : decode cX5_firstInner 37 = .ok (.ireturn, 1) := by decide +kernel
theorem dX5_firstInner_38 : decode cX5_firstInner 38 = .ok (.iload_n 2, 1) := by decide +kernel
theorem dX5_firstInner_39 : decode cX5_firstInner 39 = .ok (.istore_n 1, 1) := by decide +kernel
theorem dX5_firstInner_40 : decode cX5_firstInner 40 = .ok (.iinc 2 1, 3) := by decide +kernel
theorem dX5_firstInner_43 : decode cX5_firstInner 43 = .ok (.goto (-38), 3) := by decide +kernel
theorem dX5_firstInner_46 : decode cX5_firstInner 46 = .ok (.iload_n 1, 1) := by decide +kernel
theorem dX5_firstInner_47 : decode cX5_firstInner 47 = .ok (.ireturn, 1) := by decide +kernel
theorem dX5_sign_0 : decode cX5_sign 0 = .ok (.aload_n 0, 1) := by decide +kernel
theorem dX5_sign_1 : decode cX5_sign 1 = .ok (.getfield 9, 3) := by decide +kernel
theorem dX5_sign_4 : decode cX5_sign 4 = .ok (.aload_n 0, 1) := by decide +kernel
theorem dX5_sign_5 : decode cX5_sign 5 = .ok (.getfield 30, 3) := by decide +kernel
theorem dX5_sign_8 : decode cX5_sign 8 = .ok (.iload_n 1, 1) := by decide +kernel
theorem dX5_sign_9 : decode cX5_sign 9 = .ok (.invokevirtual 55, 3) := by decide +kernel
theorem dX5_sign_12 : decode cX5_sign 12 = .ok (.istore_n 2, 1) := by decide +kernel
theorem dX5_sign_13 : decode cX5_sign 13 = .ok (.aload_n 0, 1) := by decide +kernel
theorem dX5_sign_14 : decode cX5_sign 14 = .ok (.getfield 9, 3) := by decide +kernel
theorem dX5_sign_17 : decode cX5_sign 17 = .ok (.aload_n 0, 1) := by decide +kernel
theorem dX5_sign_18 : decode cX5_sign 18 = .ok (.getfield 30, 3) := by decide +kernel
theorem dX5_sign_21 : decode cX5_sign 21 = .ok (.iload_n 1, 1) := by decide +kernel
theorem dX5_sign_22 : decode cX5_sign 22 = .ok (.invokevirtual 51, 3) := by decide +kernel
theorem dX5_sign_25 : decode cX5_sign 25 = .ok (.tableswitch 48 0 2 #[27, 40, 45], 27) := by decide +kernel
theorem dX5_sign_52 : decode cX5_sign 52 = .ok (.aload_n 0, 1) := by decide +kernel
theorem dX5_sign_53 : decode cX5_sign 53 = .ok (.iload_n 1, 1) := by decide +kernel
theorem dX5_sign_54 : decode cX5_sign 54 = .ok (.invokevirtual 58, 3) := by decide +kernel
theorem dX5_sign_57 : decode cX5_sign 57 = .ok (.iconst 1, 1) := by decide +kernel
theorem dX5_sign_58 : decode cX5_sign 58 = .ok (.isub, 1) := by decide +kernel
theorem dX5_sign_59 : decode cX5_sign 59 = .ok (.iload_n 2, 1) := by decide +kernel
theorem dX5_sign_60 : decode cX5_sign 60 = .ok (.isub, 1) := by decide +kernel
theorem dX5_sign_61 : decode cX5_sign 61 = .ok (.invokestatic 76, 3) := by decide +kernel
theorem dX5_sign_64 : decode cX5_sign 64 = .ok (.ireturn, 1) := by decide +kernel
theorem dX5_sign_65 : decode cX5_sign 65 = .ok (.bipush 97, 2) := by decide +kernel
theorem dX5_sign_67 : decode cX5_sign 67 = .ok (.iload_n 2, 1) := by decide +kernel
theorem dX5_sign_68 : decode cX5_sign 68 = .ok (.iadd, 1) := by decide +kernel
theorem dX5_sign_69 : decode cX5_sign 69 = .ok (.ireturn, 1) := by decide +kernel
theorem dX5_sign_70 : decode cX5_sign 70 = .ok (.bipush 76, 2) := by decide +kernel
theorem dX5_sign_72 : decode cX5_sign 72 = .ok (.ireturn, 1) := by decide +kernel
theorem dX5_sign_73 : decode cX5_sign 73 = .ok (.bipush 64, 2) := by decide +kernel
theorem dX5_sign_75 : decode cX5_sign 75 = .ok (.ireturn, 1) := by decide +kernel
theorem dX5_letter_0 : decode cX5_letter 0 = .ok (.bipush 103, 2) := by decide +kernel
theorem dX5_letter_2 : decode cX5_letter 2 = .ok (.iload_n 0, 1) := by decide +kernel
theorem dX5_letter_3 : decode cX5_letter 3 = .ok (.bipush 20, 2) := by decide +kernel
theorem dX5_letter_5 : decode cX5_letter 5 = .ok (.irem, 1) := by decide +kernel
theorem dX5_letter_6 : decode cX5_letter 6 = .ok (.iadd, 1) := by decide +kernel
theorem dX5_letter_7 : decode cX5_letter 7 = .ok (.ireturn, 1) := by decide +kernel
theorem dX6_init_0 : decode cX6_init 0 = .ok (.aload_n 0, 1) := by decide +kernel
theorem dX6_init_1 : decode cX6_init 1 = .ok (.invokespecial 3, 3) := by decide +kernel
theorem dX6_init_4 : decode cX6_init 4 = .ok (.aload_n 0, 1) := by decide +kernel
theorem dX6_init_5 : decode cX6_init 5 = .ok (.new 9, 3) := by decide +kernel
theorem dX6_init_8 : decode cX6_init 8 = .ok (.dup, 1) := by decide +kernel
theorem dX6_init_9 : decode cX6_init 9 = .ok (.invokespecial 11, 3) := by decide +kernel
theorem dX6_init_12 : decode cX6_init 12 = .ok (.putfield 12, 3) := by decide +kernel
theorem dX6_init_15 : decode cX6_init 15 = .ok (.aload_n 0, 1) := by decide +kernel
theorem dX6_init_16 : decode cX6_init 16 = .ok (.new 16, 3) := by decide +kernel
theorem dX6_init_19 : decode cX6_init 19 = .ok (.dup, 1) := by decide +kernel
theorem dX6_init_20 : decode cX6_init 20 = .ok (.aload_n 0, 1) := by decide +kernel
theorem dX6_init_21 : decode cX6_init 21 = .ok (.getfield 12, 3) := by decide +kernel
theorem dX6_init_24 : decode cX6_init 24 = .ok (.invokespecial 18, 3) := by decide +kernel
theorem dX6_init_27 : decode cX6_init 27 = .ok (.putfield 21, 3) := by decide +kernel
theorem dX6_init_30 : decode cX6_init 30 = .ok (.aload_n 0, 1) := by decide +kernel
theorem dX6_init_31 : decode cX6_init 31 = .ok (.new 25, 3) := by decide +kernel
theorem dX6_init_34 : decode cX6_init 34 = .ok (.dup, 1) := by decide +kernel
theorem dX6_init_35 : decode cX6_init 35 = .ok (.aload_n 0, 1) := by decide +kernel
theorem dX6_init_36 : decode cX6_init 36 = .ok (.getfield 12, 3) := by decide +kernel
theorem dX6_init_39 : decode cX6_init 39 = .ok (.aload_n 0, 1) := by decide +kernel
theorem dX6_init_40 : decode cX6_init 40 = .ok (.getfield 21, 3) := by decide +kernel
theorem dX6_init_43 : decode cX6_init 43 = .ok (.invokespecial 27, 3) := by decide +kernel
theorem dX6_init_46 : decode cX6_init 46 = .ok (.putfield 30, 3) := by decide +kernel
theorem dX6_init_49 : decode cX6_init 49 = .ok (.aload_n 0, 1) := by decide +kernel
theorem dX6_init_50 : decode cX6_init 50 = .ok (.new 34, 3) := by decide +kernel
theorem dX6_init_53 : decode cX6_init 53 = .ok (.dup, 1) := by decide +kernel
theorem dX6_init_54 : decode cX6_init 54 = .ok (.aload_n 0, 1) := by decide +kernel
theorem dX6_init_55 : decode cX6_init 55 = .ok (.getfield 12, 3) := by decide +kernel
theorem dX6_init_58 : decode cX6_init 58 = .ok (.invokespecial 36, 3) := by decide +kernel
theorem dX6_init_61 : decode cX6_init 61 = .ok (.putfield 37, 3) := by decide +kernel
theorem dX6_init_64 : decode cX6_init 64 = .ok (.aload_n 0, 1) := by decide +kernel
theorem dX6_init_65 : decode cX6_init 65 = .ok (.new 41, 3) := by decide +kernel
theorem dX6_init_68 : decode cX6_init 68 = .ok (.dup, 1) := by decide +kernel
theorem dX6_init_69 : decode cX6_init 69 = .ok (.invokespecial 43, 3) := by decide +kernel
theorem dX6_init_72 : decode cX6_init 72 = .ok (.putfield 44, 3) := by decide +kernel
theorem dX6_init_75 : decode cX6_init 75 = .ok (.iconst 0, 1) := by decide +kernel
theorem dX6_init_76 : decode cX6_init 76 = .ok (.istore_n 1, 1) := by decide +kernel
theorem dX6_init_77 : decode cX6_init 77 = .ok (.iload_n 1, 1) := by decide +kernel
theorem dX6_init_78 : decode cX6_init 78 = .ok (.bipush 6, 2) := by decide +kernel
theorem dX6_init_80 : decode cX6_init 80 = .ok (.if_icmp .ge 19, 3) := by decide +kernel
theorem dX6_init_83 : decode cX6_init 83 = .ok (.aload_n 0, 1) := by decide +kernel
theorem dX6_init_84 : decode cX6_init 84 = .ok (.getfield 12, 3) := by decide +kernel
theorem dX6_init_87 : decode cX6_init 87 = .ok (.iload_n 1, 1) := by decide +kernel
theorem dX6_init_88 : decode cX6_init 88 = .ok (.iconst 1, 1) := by decide +kernel
theorem dX6_init_89 : decode cX6_init 89 = .ok (.iconst 0, 1) := by decide +kernel
theorem dX6_init_90 : decode cX6_init 90 = .ok (.invokevirtual 48, 3) := by decide +kernel
theorem dX6_init_93 : decode cX6_init 93 = .ok (.iinc 1 1, 3) := by decide +kernel
theorem dX6_init_96 : decode cX6_init 96 = .ok (.goto (-19), 3) := by decide +kernel
theorem dX6_init_99 : decode cX6_init 99 = .ok (.return_, 1) := by decide +kernel
theorem dX6_read_0 : decode cX6_read 0 = .ok (.iload_n 1, 1) := by decide +kernel
theorem dX6_read_1 : decode cX6_read 1 = .ok (.invokestatic 52, 3) := by decide +kernel
theorem dX6_read_4 : decode cX6_read 4 = .ok (.ifCond .ne 5, 3) := by decide +kernel
theorem dX6_read_7 : decode cX6_read 7 = .ok (.iconst (-1), 1) := by decide +kernel
theorem dX6_read_8 : decode cX6_read 8 = .ok (.ireturn, 1) := by decide +kernel
theorem dX6_read_9 : decode cX6_read 9 = .ok (.aload_n 0, 1) := by decide +kernel
theorem dX6_read_10 : decode cX6_read 10 = .ok (.getfield 44, 3) := by decide +kernel
theorem dX6_read_13 : decode cX6_read 13 = .ok (.invokevirtual 56, 3) := by decide +kernel
theorem dX6_read_16 : decode cX6_read 16 = .ok (.bipush (-6), 2) := by decide +kernel
theorem dX6_read_18 : decode cX6_read 18 = .ok (.if_icmp .eq 6, 3) := by decide +kernel
theorem dX6_read_21 : decode cX6_read 21 = .ok (.bipush (-3), 2) := by decide +kernel
theorem dX6_read_23 : decode cX6_read 23 = .ok (.ireturn, 1) := by decide +kernel
theorem dX6_read_24 : decode cX6_read 24 = .ok (.aload_n 0, 1) := by decide +kernel
theorem dX6_read_25 : decode cX6_read 25 = .ok (.getfield 37, 3) := by decide +kernel
theorem dX6_read_28 : decode cX6_read 28 = .ok (.invokevirtual 60, 3) := by decide +kernel
theorem dX6_read_31 : decode cX6_read 31 = .ok (.aload_n 0, 1) := by decide +kernel
theorem dX6_read_32 : decode cX6_read 32 = .ok (.getfield 44, 3) := by decide +kernel
theorem dX6_read_35 : decode cX6_read 35 = .ok (.aload_n 0, 1) := by decide +kernel
theorem dX6_read_36 : decode cX6_read 36 = .ok (.getfield 12, 3) := by decide +kernel
theorem dX6_read_39 : decode cX6_read 39 = .ok (.iload_n 1, 1) := by decide +kernel
theorem dX6_read_40 : decode cX6_read 40 = .ok (.invokevirtual 63, 3) := by decide +kernel
theorem dX6_read_43 : decode cX6_read 43 = .ok (.aload_n 0, 1) := by decide +kernel
theorem dX6_read_44 : decode cX6_read 44 = .ok (.getfield 44, 3) := by decide +kernel
theorem dX6_read_47 : decode cX6_read 47 = .ok (.invokevirtual 67, 3) := by decide +kernel
theorem dX6_read_50 : decode cX6_read 50 = .ok (.aload_n 0, 1) := by decide +kernel
theorem dX6_read_51 : decode cX6_read 51 = .ok (.getfield 12, 3) := by decide +kernel
theorem dX6_read_54 : decode cX6_read 54 = .ok (.iload_n 1, 1) := by decide +kernel
theorem dX6_read_55 : decode cX6_read 55 = .ok (.invokevirtual 70, 3) := by decide +kernel
theorem dX6_read_58 : decode cX6_read 58 = .ok (.ireturn, 1) := by decide +kernel
theorem dX6_bind_0 : decode cX6_bind 0 = .ok (.iload_n 1, 1) := by decide +kernel
theorem dX6_bind_1 : decode cX6_bind 1 = .ok (.invokestatic 52, 3) := by decide +kernel
theorem dX6_bind_4 : decode cX6_bind 4 = .ok (.ifCond .eq 10, 3) := by decide +kernel
theorem dX6_bind_7 : decode cX6_bind 7 = .ok (.iload_n 3, 1) := by decide +kernel
theorem dX6_bind_8 : decode cX6_bind 8 = .ok (.invokestatic 52, 3) := by decide +kernel
theorem dX6_bind_11 : decode cX6_bind 11 = .ok (.ifCond .ne 5, 3) := by decide +kernel
theorem dX6_bind_14 : decode cX6_bind 14 = .ok (.iconst (-1), 1) := by decide +kernel
theorem dX6_bind_15 : decode cX6_bind 15 = .ok (.ireturn, 1) := by decide +kernel
theorem dX6_bind_16 : decode cX6_bind 16 = .ok (.iload_n 2, 1) := by decide +kernel
theorem dX6_bind_17 : decode cX6_bind 17 = .ok (.ifCond .lt 9, 3) := by decide +kernel
theorem dX6_bind_20 : decode cX6_bind 20 = .ok (.iload_n 2, 1) := by decide +kernel
theorem dX6_bind_21 : decode cX6_bind 21 = .ok (.bipush 6, 2) := by decide +kernel
theorem dX6_bind_23 : decode cX6_bind 23 = .ok (.if_icmp .lt 6, 3) := by decide +kernel
theorem dX6_bind_26 : decode cX6_bind 26 = .ok (.bipush (-2), 2) := by decide +kernel
theorem dX6_bind_28 : decode cX6_bind 28 = .ok (.ireturn, 1) := by decide +kernel
theorem dX6_bind_29 : decode cX6_bind 29 = .ok (.iconst 1, 1) := by decide +kernel
theorem dX6_bind_30 : decode cX6_bind 30 = .ok (.aload_n 0, 1) := by decide +kernel
theorem dX6_bind_31 : decode cX6_bind 31 = .ok (.getfield 12, 3) := by decide +kernel
theorem dX6_bind_34 : decode cX6_bind 34 = .ok (.iload_n 1, 1) := by decide +kernel
theorem dX6_bind_35 : decode cX6_bind 35 = .ok (.invokevirtual 70, 3) := by decide +kernel
theorem dX6_bind_38 : decode cX6_bind 38 = .ok (.iadd, 1) := by decide +kernel
theorem dX6_bind_39 : decode cX6_bind 39 = .ok (.sipush 200, 3) := by decide +kernel
theorem dX6_bind_42 : decode cX6_bind 42 = .ok (.if_icmp .le 6, 3) := by decide +kernel
theorem dX6_bind_45 : decode cX6_bind 45 = .ok (.bipush (-4), 2) := by decide +kernel
theorem dX6_bind_47 : decode cX6_bind 47 = .ok (.ireturn, 1) := by decide +kernel
theorem dX6_bind_48 : decode cX6_bind 48 = .ok (.aload_n 0, 1) := by decide +kernel
theorem dX6_bind_49 : decode cX6_bind 49 = .ok (.getfield 37, 3) := by decide +kernel
theorem dX6_bind_52 : decode cX6_bind 52 = .ok (.invokevirtual 60, 3) := by decide +kernel
theorem dX6_bind_55 : decode cX6_bind 55 = .ok (.aload_n 0, 1) := by decide +kernel
theorem dX6_bind_56 : decode cX6_bind 56 = .ok (.iload_n 1, 1) := by decide +kernel
theorem dX6_bind_57 : decode cX6_bind 57 = .ok (.iload_n 2, 1) := by decide +kernel
theorem dX6_bind_58 : decode cX6_bind 58 = .ok (.invokevirtual 86, 3) := by decide +kernel
theorem dX6_bind_61 : decode cX6_bind 61 = .ok (.istore 4, 2) := by decide +kernel
theorem dX6_bind_63 : decode cX6_bind 63 = .ok (.aload_n 0, 1) := by decide +kernel
theorem dX6_bind_64 : decode cX6_bind 64 = .ok (.getfield 12, 3) := by decide +kernel
theorem dX6_bind_67 : decode cX6_bind 67 = .ok (.bipush 56, 2) := by decide +kernel
theorem dX6_bind_69 : decode cX6_bind 69 = .ok (.iload_n 3, 1) := by decide +kernel
theorem dX6_bind_70 : decode cX6_bind 70 = .ok (.invokevirtual 74, 3) := by decide +kernel
theorem dX6_bind_73 : decode cX6_bind 73 = .ok (.iload 4, 2) := by decide +kernel
theorem dX6_bind_75 : decode cX6_bind 75 = .ok (.ireturn, 1) := by decide +kernel
theorem dX6_step_0 : decode cX6_step 0 = .ok (.iload_n 1, 1) := by decide +kernel
theorem dX6_step_1 : decode cX6_step 1 = .ok (.invokestatic 52, 3) := by decide +kernel
theorem dX6_step_4 : decode cX6_step 4 = .ok (.ifCond .ne 5, 3) := by decide +kernel
theorem dX6_step_7 : decode cX6_step 7 = .ok (.iconst (-1), 1) := by decide +kernel
theorem dX6_step_8 : decode cX6_step 8 = .ok (.ireturn, 1) := by decide +kernel
theorem dX6_step_9 : decode cX6_step 9 = .ok (.iload_n 2, 1) := by decide +kernel
theorem dX6_step_10 : decode cX6_step 10 = .ok (.invokestatic 90, 3) := by decide +kernel
theorem dX6_step_13 : decode cX6_step 13 = .ok (.ifCond .ne 6, 3) := by decide +kernel
theorem dX6_step_16 : decode cX6_step 16 = .ok (.bipush (-2), 2) := by decide +kernel
theorem dX6_step_18 : decode cX6_step 18 = .ok (.ireturn, 1) := by decide +kernel
theorem dX6_step_19 : decode cX6_step 19 = .ok (.aload_n 0, 1) := by decide +kernel
theorem dX6_step_20 : decode cX6_step 20 = .ok (.getfield 21, 3) := by decide +kernel
theorem dX6_step_23 : decode cX6_step 23 = .ok (.iload_n 1, 1) := by decide +kernel
theorem dX6_step_24 : decode cX6_step 24 = .ok (.invokevirtual 93, 3) := by decide +kernel
theorem dX6_step_27 : decode cX6_step 27 = .ok (.aload_n 0, 1) := by decide +kernel
theorem dX6_step_28 : decode cX6_step 28 = .ok (.getfield 21, 3) := by decide +kernel
theorem dX6_step_31 : decode cX6_step 31 = .ok (.iload_n 2, 1) := by decide +kernel
theorem dX6_step_32 : decode cX6_step 32 = .ok (.invokevirtual 96, 3) := by decide +kernel
theorem dX6_step_35 : decode cX6_step 35 = .ok (.istore_n 3, 1) := by decide +kernel
theorem dX6_step_36 : decode cX6_step 36 = .ok (.iload_n 3, 1) := by decide +kernel
theorem dX6_step_37 : decode cX6_step 37 = .ok (.bipush (-6), 2) := by decide +kernel
theorem dX6_step_39 : decode cX6_step 39 = .ok (.if_icmp .ne 6, 3) := by decide +kernel
theorem dX6_step_42 : decode cX6_step 42 = .ok (.bipush (-5), 2) := by decide +kernel
theorem dX6_step_44 : decode cX6_step 44 = .ok (.ireturn, 1) := by decide +kernel
theorem dX6_step_45 : decode cX6_step 45 = .ok (.aload_n 0, 1) := by decide +kernel
theorem dX6_step_46 : decode cX6_step 46 = .ok (.getfield 30, 3) := by decide +kernel
theorem dX6_step_49 : decode cX6_step 49 = .ok (.iload_n 3, 1) := by decide +kernel
theorem dX6_step_50 : decode cX6_step 50 = .ok (.invokevirtual 99, 3) := by decide +kernel
theorem dX6_step_53 : decode cX6_step 53 = .ok (.sipush 200, 3) := by decide +kernel
theorem dX6_step_56 : decode cX6_step 56 = .ok (.if_icmp .le 6, 3) := by decide +kernel
theorem dX6_step_59 : decode cX6_step 59 = .ok (.bipush (-4), 2) := by decide +kernel
theorem dX6_step_61 : decode cX6_step 61 = .ok (.ireturn, 1) := by decide +kernel
theorem dX6_step_62 : decode cX6_step 62 = .ok (.aload_n 0, 1) := by decide +kernel
theorem dX6_step_63 : decode cX6_step 63 = .ok (.getfield 37, 3) := by decide +kernel
theorem dX6_step_66 : decode cX6_step 66 = .ok (.invokevirtual 60, 3) := by decide +kernel
theorem dX6_step_69 : decode cX6_step 69 = .ok (.aload_n 0, 1) := by decide +kernel
theorem dX6_step_70 : decode cX6_step 70 = .ok (.getfield 30, 3) := by decide +kernel
theorem dX6_step_73 : decode cX6_step 73 = .ok (.iload_n 3, 1) := by decide +kernel
theorem dX6_step_74 : decode cX6_step 74 = .ok (.invokevirtual 102, 3) := by decide +kernel
theorem dX6_step_77 : decode cX6_step 77 = .ok (.aload_n 0, 1) := by decide +kernel
theorem dX6_step_78 : decode cX6_step 78 = .ok (.getfield 12, 3) := by decide +kernel
theorem dX6_step_81 : decode cX6_step 81 = .ok (.iload_n 1, 1) := by decide +kernel
theorem dX6_step_82 : decode cX6_step 82 = .ok (.invokevirtual 70, 3) := by decide +kernel
theorem dX6_step_85 : decode cX6_step 85 = .ok (.ireturn, 1) := by decide +kernel
theorem dX6_of_0 : decode cX6_of 0 = .ok (.iload_n 1, 1) := by decide +kernel
theorem dX6_of_1 : decode cX6_of 1 = .ok (.invokestatic 52, 3) := by decide +kernel
theorem dX6_of_4 : decode cX6_of 4 = .ok (.ifCond .ne 5, 3) := by decide +kernel
theorem dX6_of_7 : decode cX6_of 7 = .ok (.iconst (-1), 1) := by decide +kernel
theorem dX6_of_8 : decode cX6_of 8 = .ok (.ireturn, 1) := by decide +kernel
theorem dX6_of_9 : decode cX6_of 9 = .ok (.iload_n 2, 1) := by decide +kernel
theorem dX6_of_10 : decode cX6_of 10 = .ok (.ifCond .lt 9, 3) := by decide +kernel
theorem dX6_of_13 : decode cX6_of 13 = .ok (.iload_n 2, 1) := by decide +kernel
theorem dX6_of_14 : decode cX6_of 14 = .ok (.bipush 10, 2) := by decide +kernel
theorem dX6_of_16 : decode cX6_of 16 = .ok (.if_icmp .le 6, 3) := by decide +kernel
theorem dX6_of_19 : decode cX6_of 19 = .ok (.bipush (-2), 2) := by decide +kernel
theorem dX6_of_21 : decode cX6_of 21 = .ok (.ireturn, 1) := by decide +kernel
theorem dX6_of_22 : decode cX6_of 22 = .ok (.aload_n 0, 1) := by decide +kernel
theorem dX6_of_23 : decode cX6_of 23 = .ok (.getfield 21, 3) := by decide +kernel
theorem dX6_of_26 : decode cX6_of 26 = .ok (.iload_n 1, 1) := by decide +kernel
theorem dX6_of_27 : decode cX6_of 27 = .ok (.invokevirtual 93, 3) := by decide +kernel
theorem dX6_of_30 : decode cX6_of 30 = .ok (.iload_n 2, 1) := by decide +kernel
theorem dX6_of_31 : decode cX6_of 31 = .ok (.tableswitch 145 0 9 #[53, 62, 72, 82, 92, 102, 110, 118, 127, 136], 53) := by decide +kernel
theorem dX6_of_84 : decode cX6_of 84 = .ok (.aload_n 0, 1) := by decide +kernel
theorem dX6_of_85 : decode cX6_of 85 = .ok (.getfield 12, 3) := by decide +kernel
theorem dX6_of_88 : decode cX6_of 88 = .ok (.iload_n 1, 1) := by decide +kernel
theorem dX6_of_89 : decode cX6_of 89 = .ok (.invokevirtual 70, 3) := by decide +kernel
theorem dX6_of_92 : decode cX6_of 92 = .ok (.ireturn, 1) := by decide +kernel
theorem dX6_of_93 : decode cX6_of 93 = .ok (.aload_n 0, 1) := by decide +kernel
theorem dX6_of_94 : decode cX6_of 94 = .ok (.getfield 12, 3) := by decide +kernel
theorem dX6_of_97 : decode cX6_of 97 = .ok (.iload_n 1, 1) := by decide +kernel
theorem dX6_of_98 : decode cX6_of 98 = .ok (.iconst 2, 1) := by decide +kernel
theorem dX6_of_99 : decode cX6_of 99 = .ok (.invokevirtual 115, 3) := by decide +kernel
theorem dX6_of_102 : decode cX6_of 102 = .ok (.ireturn, 1) := by decide +kernel
theorem dX6_of_103 : decode cX6_of 103 = .ok (.aload_n 0, 1) := by decide +kernel
theorem dX6_of_104 : decode cX6_of 104 = .ok (.getfield 12, 3) := by decide +kernel
theorem dX6_of_107 : decode cX6_of 107 = .ok (.iload_n 1, 1) := by decide +kernel
theorem dX6_of_108 : decode cX6_of 108 = .ok (.iconst 3, 1) := by decide +kernel
theorem dX6_of_109 : decode cX6_of 109 = .ok (.invokevirtual 115, 3) := by decide +kernel
theorem dX6_of_112 : decode cX6_of 112 = .ok (.ireturn, 1) := by decide +kernel
theorem dX6_of_113 : decode cX6_of 113 = .ok (.aload_n 0, 1) := by decide +kernel
theorem dX6_of_114 : decode cX6_of 114 = .ok (.getfield 12, 3) := by decide +kernel
theorem dX6_of_117 : decode cX6_of 117 = .ok (.iload_n 1, 1) := by decide +kernel
theorem dX6_of_118 : decode cX6_of 118 = .ok (.iconst 0, 1) := by decide +kernel
theorem dX6_of_119 : decode cX6_of 119 = .ok (.invokevirtual 115, 3) := by decide +kernel
theorem dX6_of_122 : decode cX6_of 122 = .ok (.ireturn, 1) := by decide +kernel
theorem dX6_of_123 : decode cX6_of 123 = .ok (.aload_n 0, 1) := by decide +kernel
theorem dX6_of_124 : decode cX6_of 124 = .ok (.getfield 12, 3) := by decide +kernel
theorem dX6_of_127 : decode cX6_of 127 = .ok (.iload_n 1, 1) := by decide +kernel
theorem dX6_of_128 : decode cX6_of 128 = .ok (.iconst 1, 1) := by decide +kernel
theorem dX6_of_129 : decode cX6_of 129 = .ok (.invokevirtual 115, 3) := by decide +kernel
theorem dX6_of_132 : decode cX6_of 132 = .ok (.ireturn, 1) := by decide +kernel
theorem dX6_of_133 : decode cX6_of 133 = .ok (.aload_n 0, 1) := by decide +kernel
theorem dX6_of_134 : decode cX6_of 134 = .ok (.getfield 21, 3) := by decide +kernel
theorem dX6_of_137 : decode cX6_of 137 = .ok (.invokevirtual 118, 3) := by decide +kernel
theorem dX6_of_140 : decode cX6_of 140 = .ok (.ireturn, 1) := by decide +kernel
theorem dX6_of_141 : decode cX6_of 141 = .ok (.aload_n 0, 1) := by decide +kernel
theorem dX6_of_142 : decode cX6_of 142 = .ok (.getfield 21, 3) := by decide +kernel
theorem dX6_of_145 : decode cX6_of 145 = .ok (.invokevirtual 121, 3) := by decide +kernel
theorem dX6_of_148 : decode cX6_of 148 = .ok (.ireturn, 1) := by decide +kernel
theorem dX6_of_149 : decode cX6_of 149 = .ok (.aload_n 0, 1) := by decide +kernel
theorem dX6_of_150 : decode cX6_of 150 = .ok (.getfield 21, 3) := by decide +kernel
theorem dX6_of_153 : decode cX6_of 153 = .ok (.iconst 0, 1) := by decide +kernel
theorem dX6_of_154 : decode cX6_of 154 = .ok (.invokevirtual 96, 3) := by decide +kernel
theorem dX6_of_157 : decode cX6_of 157 = .ok (.ireturn, 1) := by decide +kernel
theorem dX6_of_158 : decode cX6_of 158 = .ok (.aload_n 0, 1) := by decide +kernel
theorem dX6_of_159 : decode cX6_of 159 = .ok (.getfield 21, 3) := by decide +kernel
theorem dX6_of_162 : decode cX6_of 162 = .ok (.iconst 1, 1) := by decide +kernel
theorem dX6_of_163 : decode cX6_of 163 = .ok (.invokevirtual 96, 3) := by decide +kernel
theorem dX6_of_166 : decode cX6_of 166 = .ok (.ireturn, 1) := by decide +kernel
theorem dX6_of_167 : decode cX6_of 167 = .ok (.aload_n 0, 1) := by decide +kernel
theorem dX6_of_168 : decode cX6_of 168 = .ok (.getfield 21, 3) := by decide +kernel
theorem dX6_of_171 : decode cX6_of 171 = .ok (.iconst 2, 1) := by decide +kernel
theorem dX6_of_172 : decode cX6_of 172 = .ok (.invokevirtual 96, 3) := by decide +kernel
theorem dX6_of_175 : decode cX6_of 175 = .ok (.ireturn, 1) := by decide +kernel
theorem dX6_of_176 : decode cX6_of 176 = .ok (.aload_n 0, 1) := by decide +kernel
theorem dX6_of_177 : decode cX6_of 177 = .ok (.getfield 12, 3) := by decide +kernel
theorem dX6_of_180 : decode cX6_of 180 = .ok (.iload_n 1, 1) := by decide +kernel
theorem dX6_of_181 : decode cX6_of 181 = .ok (.invokevirtual 124, 3) := by decide +kernel
theorem dX6_of_184 : decode cX6_of 184 = .ok (.ireturn, 1) := by decide +kernel
theorem dX6_part_0 : decode cX6_part 0 = .ok (.iload_n 1, 1) := by decide +kernel
theorem dX6_part_1 : decode cX6_part 1 = .ok (.invokestatic 52, 3) := by decide +kernel
theorem dX6_part_4 : decode cX6_part 4 = .ok (.ifCond .eq 19, 3) := by decide +kernel
theorem dX6_part_7 : decode cX6_part 7 = .ok (.iload_n 2, 1) := by decide +kernel
theorem dX6_part_8 : decode cX6_part 8 = .ok (.ifCond .lt 15, 3) := by decide +kernel
theorem dX6_part_11 : decode cX6_part 11 = .ok (.iload_n 2, 1) := by decide +kernel
theorem dX6_part_12 : decode cX6_part 12 = .ok (.aload_n 0, 1) := by decide +kernel
theorem dX6_part_13 : decode cX6_part 13 = .ok (.getfield 12, 3) := by decide +kernel
theorem dX6_part_16 : decode cX6_part 16 = .ok (.iload_n 1, 1) := by decide +kernel
theorem dX6_part_17 : decode cX6_part 17 = .ok (.invokevirtual 70, 3) := by decide +kernel
theorem dX6_part_20 : decode cX6_part 20 = .ok (.if_icmp .lt 5, 3) := by decide +kernel
theorem dX6_part_23 : decode cX6_part 23 = .ok (.iconst (-1), 1) := by decide +kernel
theorem dX6_part_24 : decode cX6_part 24 = .ok (.ireturn, 1) := by decide +kernel
theorem dX6_part_25 : decode cX6_part 25 = .ok (.iload_n 3, 1) := by decide +kernel
theorem dX6_part_26 : decode cX6_part 26 = .ok (.ifCond .lt 8, 3) := by decide +kernel
theorem dX6_part_29 : decode cX6_part 29 = .ok (.iload_n 3, 1) := by decide +kernel
theorem dX6_part_30 : decode cX6_part 30 = .ok (.iconst 4, 1) := by decide +kernel
theorem dX6_part_31 : decode cX6_part 31 = .ok (.if_icmp .le 6, 3) := by decide +kernel
theorem dX6_part_34 : decode cX6_part 34 = .ok (.bipush (-2), 2) := by decide +kernel
theorem dX6_part_36 : decode cX6_part 36 = .ok (.ireturn, 1) := by decide +kernel
theorem dX6_part_37 : decode cX6_part 37 = .ok (.aload_n 0, 1) := by decide +kernel
theorem dX6_part_38 : decode cX6_part 38 = .ok (.getfield 21, 3) := by decide +kernel
theorem dX6_part_41 : decode cX6_part 41 = .ok (.iload_n 1, 1) := by decide +kernel
theorem dX6_part_42 : decode cX6_part 42 = .ok (.invokevirtual 93, 3) := by decide +kernel
theorem dX6_part_45 : decode cX6_part 45 = .ok (.iload_n 3, 1) := by decide +kernel
theorem dX6_part_46 : decode cX6_part 46 = .ok (.tableswitch 68 0 3 #[30, 40, 50, 59], 30) := by decide +kernel
theorem dX6_part_76 : decode cX6_part 76 = .ok (.aload_n 0, 1) := by decide +kernel
theorem dX6_part_77 : decode cX6_part 77 = .ok (.getfield 12, 3) := by decide +kernel
theorem dX6_part_80 : decode cX6_part 80 = .ok (.iload_n 1, 1) := by decide +kernel
theorem dX6_part_81 : decode cX6_part 81 = .ok (.iload_n 2, 1) := by decide +kernel
theorem dX6_part_82 : decode cX6_part 82 = .ok (.invokevirtual 127, 3) := by decide +kernel
theorem dX6_part_85 : decode cX6_part 85 = .ok (.ireturn, 1) := by decide +kernel
theorem dX6_part_86 : decode cX6_part 86 = .ok (.aload_n 0, 1) := by decide +kernel
theorem dX6_part_87 : decode cX6_part 87 = .ok (.getfield 12, 3) := by decide +kernel
theorem dX6_part_90 : decode cX6_part 90 = .ok (.iload_n 1, 1) := by decide +kernel
theorem dX6_part_91 : decode cX6_part 91 = .ok (.iload_n 2, 1) := by decide +kernel
theorem dX6_part_92 : decode cX6_part 92 = .ok (.invokevirtual 130, 3) := by decide +kernel
theorem dX6_part_95 : decode cX6_part 95 = .ok (.ireturn, 1) := by decide +kernel
theorem dX6_part_96 : decode cX6_part 96 = .ok (.aload_n 0, 1) := by decide +kernel
theorem dX6_part_97 : decode cX6_part 97 = .ok (.getfield 21, 3) := by decide +kernel
theorem dX6_part_100 : decode cX6_part 100 = .ok (.iload_n 2, 1) := by decide +kernel
theorem dX6_part_101 : decode cX6_part 101 = .ok (.invokevirtual 133, 3) := by decide +kernel
theorem dX6_part_104 : decode cX6_part 104 = .ok (.ireturn, 1) := by decide +kernel
theorem dX6_part_105 : decode cX6_part 105 = .ok (.aload_n 0, 1) := by decide +kernel
theorem dX6_part_106 : decode cX6_part 106 = .ok (.getfield 21, 3) := by decide +kernel
theorem dX6_part_109 : decode cX6_part 109 = .ok (.iload_n 2, 1) := by decide +kernel
theorem dX6_part_110 : decode cX6_part 110 = .ok (.invokevirtual 136, 3) := by decide +kernel
theorem dX6_part_113 : decode cX6_part 113 = .ok (.ireturn, 1) := by decide +kernel
theorem dX6_part_114 : decode cX6_part 114 = .ok (.aload_n 0, 1) := by decide +kernel
theorem dX6_part_115 : decode cX6_part 115 = .ok (.getfield 21, 3) := by decide +kernel
theorem dX6_part_118 : decode cX6_part 118 = .ok (.iload_n 2, 1) := by decide +kernel
theorem dX6_part_119 : decode cX6_part 119 = .ok (.invokevirtual 139, 3) := by decide +kernel
theorem dX6_part_122 : decode cX6_part 122 = .ok (.ireturn, 1) := by decide +kernel
theorem dX6_named_0 : decode cX6_named 0 = .ok (.iload_n 1, 1) := by decide +kernel
theorem dX6_named_1 : decode cX6_named 1 = .ok (.invokestatic 52, 3) := by decide +kernel
theorem dX6_named_4 : decode cX6_named 4 = .ok (.ifCond .ne 5, 3) := by decide +kernel
theorem dX6_named_7 : decode cX6_named 7 = .ok (.iconst (-1), 1) := by decide +kernel
theorem dX6_named_8 : decode cX6_named 8 = .ok (.ireturn, 1) := by decide +kernel
theorem dX6_named_9 : decode cX6_named 9 = .ok (.aload_n 0, 1) := by decide +kernel
theorem dX6_named_10 : decode cX6_named 10 = .ok (.getfield 21, 3) := by decide +kernel
theorem dX6_named_13 : decode cX6_named 13 = .ok (.iload_n 1, 1) := by decide +kernel
theorem dX6_named_14 : decode cX6_named 14 = .ok (.invokevirtual 93, 3) := by decide +kernel
theorem dX6_named_17 : decode cX6_named 17 = .ok (.aload_n 0, 1) := by decide +kernel
theorem dX6_named_18 : decode cX6_named 18 = .ok (.getfield 21, 3) := by decide +kernel
theorem dX6_named_21 : decode cX6_named 21 = .ok (.iload_n 2, 1) := by decide +kernel
theorem dX6_named_22 : decode cX6_named 22 = .ok (.invokevirtual 142, 3) := by decide +kernel
theorem dX6_named_25 : decode cX6_named 25 = .ok (.ireturn, 1) := by decide +kernel
theorem dX6_ends_0 : decode cX6_ends 0 = .ok (.iload_n 1, 1) := by decide +kernel
theorem dX6_ends_1 : decode cX6_ends 1 = .ok (.invokestatic 52, 3) := by decide +kernel
theorem dX6_ends_4 : decode cX6_ends 4 = .ok (.ifCond .ne 5, 3) := by decide +kernel
theorem dX6_ends_7 : decode cX6_ends 7 = .ok (.iconst (-1), 1) := by decide +kernel
theorem dX6_ends_8 : decode cX6_ends 8 = .ok (.ireturn, 1) := by decide +kernel
theorem dX6_ends_9 : decode cX6_ends 9 = .ok (.iload_n 2, 1) := by decide +kernel
theorem dX6_ends_10 : decode cX6_ends 10 = .ok (.invokestatic 90, 3) := by decide +kernel
theorem dX6_ends_13 : decode cX6_ends 13 = .ok (.ifCond .eq 10, 3) := by decide +kernel
theorem dX6_ends_16 : decode cX6_ends 16 = .ok (.iload_n 3, 1) := by decide +kernel
theorem dX6_ends_17 : decode cX6_ends 17 = .ok (.invokestatic 105, 3) := by decide +kernel
theorem dX6_ends_20 : decode cX6_ends 20 = .ok (.ifCond .ne 6, 3) := by decide +kernel
theorem dX6_ends_23 : decode cX6_ends 23 = .ok (.bipush (-2), 2) := by decide +kernel
theorem dX6_ends_25 : decode cX6_ends 25 = .ok (.ireturn, 1) := by decide +kernel
theorem dX6_ends_26 : decode cX6_ends 26 = .ok (.aload_n 0, 1) := by decide +kernel
theorem dX6_ends_27 : decode cX6_ends 27 = .ok (.getfield 12, 3) := by decide +kernel
theorem dX6_ends_30 : decode cX6_ends 30 = .ok (.iload_n 1, 1) := by decide +kernel
theorem dX6_ends_31 : decode cX6_ends 31 = .ok (.bipush 54, 2) := by decide +kernel
theorem dX6_ends_33 : decode cX6_ends 33 = .ok (.invokevirtual 74, 3) := by decide +kernel
theorem dX6_ends_36 : decode cX6_ends 36 = .ok (.aload_n 0, 1) := by decide +kernel
theorem dX6_ends_37 : decode cX6_ends 37 = .ok (.getfield 30, 3) := by decide +kernel
theorem dX6_ends_40 : decode cX6_ends 40 = .ok (.bipush 54, 2) := by decide +kernel
theorem dX6_ends_42 : decode cX6_ends 42 = .ok (.iload_n 2, 1) := by decide +kernel
theorem dX6_ends_43 : decode cX6_ends 43 = .ok (.iload_n 3, 1) := by decide +kernel
theorem dX6_ends_44 : decode cX6_ends 44 = .ok (.invokevirtual 108, 3) := by decide +kernel
theorem dX6_ends_47 : decode cX6_ends 47 = .ok (.ifCond .eq 13, 3) := by decide +kernel
theorem dX6_ends_50 : decode cX6_ends 50 = .ok (.aload_n 0, 1) := by decide +kernel
theorem dX6_ends_51 : decode cX6_ends 51 = .ok (.getfield 30, 3) := by decide +kernel
theorem dX6_ends_54 : decode cX6_ends 54 = .ok (.invokevirtual 112, 3) := by decide +kernel
theorem dX6_ends_57 : decode cX6_ends 57 = .ok (.goto 5, 3) := by decide +kernel
theorem dX6_ends_60 : decode cX6_ends 60 = .ok (.bipush (-6), 2) := by decide +kernel
theorem dX6_ends_62 : decode cX6_ends 62 = .ok (.ireturn, 1) := by decide +kernel
theorem dX6_put_0 : decode cX6_put 0 = .ok (.lload_n 1, 1) := by decide +kernel
theorem dX6_put_1 : decode cX6_put 1 = .ok (.invokestatic 161, 3) := by decide +kernel
theorem dX6_put_4 : decode cX6_put 4 = .ok (.istore_n 3, 1) := by decide +kernel
theorem dX6_put_5 : decode cX6_put 5 = .ok (.iload_n 3, 1) := by decide +kernel
theorem dX6_put_6 : decode cX6_put 6 = .ok (.ifCond .ne 6, 3) := by decide +kernel
theorem dX6_put_9 : decode cX6_put 9 = .ok (.bipush (-2), 2) := by decide +kernel
theorem dX6_put_11 : decode cX6_put 11 = .ok (.ireturn, 1) := by decide +kernel
theorem dX6_put_12 : decode cX6_put 12 = .ok (.aload_n 0, 1) := by decide +kernel
theorem dX6_put_13 : decode cX6_put 13 = .ok (.getfield 44, 3) := by decide +kernel
theorem dX6_put_16 : decode cX6_put 16 = .ok (.invokevirtual 155, 3) := by decide +kernel
theorem dX6_put_19 : decode cX6_put 19 = .ok (.iload_n 3, 1) := by decide +kernel
theorem dX6_put_20 : decode cX6_put 20 = .ok (.iadd, 1) := by decide +kernel
theorem dX6_put_21 : decode cX6_put 21 = .ok (.bipush 60, 2) := by decide +kernel
theorem dX6_put_23 : decode cX6_put 23 = .ok (.if_icmp .le 6, 3) := by decide +kernel
theorem dX6_put_26 : decode cX6_put 26 = .ok (.bipush (-4), 2) := by decide +kernel
theorem dX6_put_28 : decode cX6_put 28 = .ok (.ireturn, 1) := by decide +kernel
theorem dX6_put_29 : decode cX6_put 29 = .ok (.aload_n 0, 1) := by decide +kernel
theorem dX6_put_30 : decode cX6_put 30 = .ok (.getfield 44, 3) := by decide +kernel
theorem dX6_put_33 : decode cX6_put 33 = .ok (.lload_n 1, 1) := by decide +kernel
theorem dX6_put_34 : decode cX6_put 34 = .ok (.iload_n 3, 1) := by decide +kernel
theorem dX6_put_35 : decode cX6_put 35 = .ok (.invokevirtual 165, 3) := by decide +kernel
theorem dX6_put_38 : decode cX6_put 38 = .ok (.aload_n 0, 1) := by decide +kernel
theorem dX6_put_39 : decode cX6_put 39 = .ok (.getfield 44, 3) := by decide +kernel
theorem dX6_put_42 : decode cX6_put 42 = .ok (.invokevirtual 155, 3) := by decide +kernel
theorem dX6_put_45 : decode cX6_put 45 = .ok (.ireturn, 1) := by decide +kernel
theorem dX6_wipe_0 : decode cX6_wipe 0 = .ok (.aload_n 0, 1) := by decide +kernel
theorem dX6_wipe_1 : decode cX6_wipe 1 = .ok (.getfield 44, 3) := by decide +kernel
theorem dX6_wipe_4 : decode cX6_wipe 4 = .ok (.invokevirtual 155, 3) := by decide +kernel
theorem dX6_wipe_7 : decode cX6_wipe 7 = .ok (.istore_n 1, 1) := by decide +kernel
theorem dX6_wipe_8 : decode cX6_wipe 8 = .ok (.aload_n 0, 1) := by decide +kernel
theorem dX6_wipe_9 : decode cX6_wipe 9 = .ok (.getfield 44, 3) := by decide +kernel
theorem dX6_wipe_12 : decode cX6_wipe 12 = .ok (.invokevirtual 67, 3) := by decide +kernel
theorem dX6_wipe_15 : decode cX6_wipe 15 = .ok (.iload_n 1, 1) := by decide +kernel
theorem dX6_wipe_16 : decode cX6_wipe 16 = .ok (.ireturn, 1) := by decide +kernel
theorem dX6_fault_0 : decode cX6_fault 0 = .ok (.aload_n 0, 1) := by decide +kernel
theorem dX6_fault_1 : decode cX6_fault 1 = .ok (.getfield 44, 3) := by decide +kernel
theorem dX6_fault_4 : decode cX6_fault 4 = .ok (.invokevirtual 56, 3) := by decide +kernel
theorem dX6_fault_7 : decode cX6_fault 7 = .ok (.ireturn, 1) := by decide +kernel
theorem dX6_isRegister_0 : decode cX6_isRegister 0 = .ok (.iload_n 0, 1) := by decide +kernel
theorem dX6_isRegister_1 : decode cX6_isRegister 1 = .ok (.ifCond .lt 13, 3) := by decide +kernel
theorem dX6_isRegister_4 : decode cX6_isRegister 4 = .ok (.iload_n 0, 1) := by decide +kernel
theorem dX6_isRegister_5 : decode cX6_isRegister 5 = .ok (.bipush 6, 2) := by decide +kernel
theorem dX6_isRegister_7 : decode cX6_isRegister 7 = .ok (.if_icmp .ge 7, 3) := by decide +kernel
theorem dX6_isRegister_10 : decode cX6_isRegister 10 = .ok (.iconst 1, 1) := by decide +kernel
theorem dX6_isRegister_11 : decode cX6_isRegister 11 = .ok (.goto 4, 3) := by decide +kernel
theorem dX6_isRegister_14 : decode cX6_isRegister 14 = .ok (.iconst 0, 1) := by decide +kernel
theorem dX6_isRegister_15 : decode cX6_isRegister 15 = .ok (.ireturn, 1) := by decide +kernel
theorem dX6_isOrder_0 : decode cX6_isOrder 0 = .ok (.iload_n 0, 1) := by decide +kernel
theorem dX6_isOrder_1 : decode cX6_isOrder 1 = .ok (.ifCond .lt 12, 3) := by decide +kernel
theorem dX6_isOrder_4 : decode cX6_isOrder 4 = .ok (.iload_n 0, 1) := by decide +kernel
theorem dX6_isOrder_5 : decode cX6_isOrder 5 = .ok (.iconst 2, 1) := by decide +kernel
theorem dX6_isOrder_6 : decode cX6_isOrder 6 = .ok (.if_icmp .gt 7, 3) := by decide +kernel
theorem dX6_isOrder_9 : decode cX6_isOrder 9 = .ok (.iconst 1, 1) := by decide +kernel
theorem dX6_isOrder_10 : decode cX6_isOrder 10 = .ok (.goto 4, 3) := by decide +kernel
theorem dX6_isOrder_13 : decode cX6_isOrder 13 = .ok (.iconst 0, 1) := by decide +kernel
theorem dX6_isOrder_14 : decode cX6_isOrder 14 = .ok (.ireturn, 1) := by decide +kernel
theorem dX6_isFuel_0 : decode cX6_isFuel 0 = .ok (.iload_n 0, 1) := by decide +kernel
theorem dX6_isFuel_1 : decode cX6_isFuel 1 = .ok (.iconst 1, 1) := by decide +kernel
theorem dX6_isFuel_2 : decode cX6_isFuel 2 = .ok (.if_icmp .lt 14, 3) := by decide +kernel
theorem dX6_isFuel_5 : decode cX6_isFuel 5 = .ok (.iload_n 0, 1) := by decide +kernel
theorem dX6_isFuel_6 : decode cX6_isFuel 6 = .ok (.sipush 200, 3) := by decide +kernel
theorem dX6_isFuel_9 : decode cX6_isFuel 9 = .ok (.if_icmp .gt 7, 3) := by decide +kernel
theorem dX6_isFuel_12 : decode cX6_isFuel 12 = .ok (.iconst 1, 1) := by decide +kernel
theorem dX6_isFuel_13 : decode cX6_isFuel 13 = .ok (.goto 4, 3) := by decide +kernel
theorem dX6_isFuel_16 : decode cX6_isFuel 16 = .ok (.iconst 0, 1) := by decide +kernel
theorem dX6_isFuel_17 : decode cX6_isFuel 17 = .ok (.ireturn, 1) := by decide +kernel
theorem dX6_draftFunction_0 : decode cX6_draftFunction 0 = .ok (.aload_n 0, 1) := by decide +kernel
theorem dX6_draftFunction_1 : decode cX6_draftFunction 1 = .ok (.getfield 21, 3) := by decide +kernel
theorem dX6_draftFunction_4 : decode cX6_draftFunction 4 = .ok (.iload_n 1, 1) := by decide +kernel
theorem dX6_draftFunction_5 : decode cX6_draftFunction 5 = .ok (.invokevirtual 93, 3) := by decide +kernel
theorem dX6_draftFunction_8 : decode cX6_draftFunction 8 = .ok (.aload_n 0, 1) := by decide +kernel
theorem dX6_draftFunction_9 : decode cX6_draftFunction 9 = .ok (.getfield 12, 3) := by decide +kernel
theorem dX6_draftFunction_12 : decode cX6_draftFunction 12 = .ok (.bipush 56, 2) := by decide +kernel
theorem dX6_draftFunction_14 : decode cX6_draftFunction 14 = .ok (.invokevirtual 78, 3) := by decide +kernel
theorem dX6_draftFunction_17 : decode cX6_draftFunction 17 = .ok (.aload_n 0, 1) := by decide +kernel
theorem dX6_draftFunction_18 : decode cX6_draftFunction 18 = .ok (.getfield 12, 3) := by decide +kernel
theorem dX6_draftFunction_21 : decode cX6_draftFunction 21 = .ok (.bipush 56, 2) := by decide +kernel
theorem dX6_draftFunction_23 : decode cX6_draftFunction 23 = .ok (.iconst 2, 1) := by decide +kernel
theorem dX6_draftFunction_24 : decode cX6_draftFunction 24 = .ok (.iconst 0, 1) := by decide +kernel
theorem dX6_draftFunction_25 : decode cX6_draftFunction 25 = .ok (.invokevirtual 48, 3) := by decide +kernel
theorem dX6_draftFunction_28 : decode cX6_draftFunction 28 = .ok (.aload_n 0, 1) := by decide +kernel
theorem dX6_draftFunction_29 : decode cX6_draftFunction 29 = .ok (.getfield 12, 3) := by decide +kernel
theorem dX6_draftFunction_32 : decode cX6_draftFunction 32 = .ok (.iload_n 1, 1) := by decide +kernel
theorem dX6_draftFunction_33 : decode cX6_draftFunction 33 = .ok (.invokevirtual 70, 3) := by decide +kernel
theorem dX6_draftFunction_36 : decode cX6_draftFunction 36 = .ok (.istore_n 3, 1) := by decide +kernel
theorem dX6_draftFunction_37 : decode cX6_draftFunction 37 = .ok (.iconst 0, 1) := by decide +kernel
theorem dX6_draftFunction_38 : decode cX6_draftFunction 38 = .ok (.istore 4, 2) := by decide +kernel
theorem dX6_draftFunction_40 : decode cX6_draftFunction 40 = .ok (.iconst 0, 1) := by decide +kernel
theorem dX6_draftFunction_41 : decode cX6_draftFunction 41 = .ok (.istore 5, 2) := by decide +kernel
theorem dX6_draftFunction_43 : decode cX6_draftFunction 43 = .ok (.iload 5, 2) := by decide +kernel
theorem dX6_draftFunction_45 : decode cX6_draftFunction 45 = .ok (.iload_n 3, 1) := by decide +kernel
theorem dX6_draftFunction_46 : decode cX6_draftFunction 46 = .ok (.if_icmp .ge 83, 3) := by decide +kernel
theorem dX6_draftFunction_49 : decode cX6_draftFunction 49 = .ok (.aload_n 0, 1) := by decide +kernel
theorem dX6_draftFunction_50 : decode cX6_draftFunction 50 = .ok (.getfield 12, 3) := by decide +kernel
theorem dX6_draftFunction_53 : decode cX6_draftFunction 53 = .ok (.iload_n 1, 1) := by decide +kernel
theorem dX6_draftFunction_54 : decode cX6_draftFunction 54 = .ok (.iload 5, 2) := by decide +kernel
theorem dX6_draftFunction_56 : decode cX6_draftFunction 56 = .ok (.invokevirtual 127, 3) := by decide +kernel
theorem dX6_draftFunction_59 : decode cX6_draftFunction 59 = .ok (.istore 6, 2) := by decide +kernel
theorem dX6_draftFunction_61 : decode cX6_draftFunction 61 = .ok (.aload_n 0, 1) := by decide +kernel
theorem dX6_draftFunction_62 : decode cX6_draftFunction 62 = .ok (.getfield 12, 3) := by decide +kernel
theorem dX6_draftFunction_65 : decode cX6_draftFunction 65 = .ok (.iload_n 1, 1) := by decide +kernel
theorem dX6_draftFunction_66 : decode cX6_draftFunction 66 = .ok (.iload 5, 2) := by decide +kernel
theorem dX6_draftFunction_68 : decode cX6_draftFunction 68 = .ok (.invokevirtual 130, 3) := by decide +kernel
theorem dX6_draftFunction_71 : decode cX6_draftFunction 71 = .ok (.istore 7, 2) := by decide +kernel
theorem dX6_draftFunction_73 : decode cX6_draftFunction 73 = .ok (.iload 6, 2) := by decide +kernel
theorem dX6_draftFunction_75 : decode cX6_draftFunction 75 = .ok (.iconst 1, 1) := by decide +kernel
theorem dX6_draftFunction_76 : decode cX6_draftFunction 76 = .ok (.if_icmp .ne 34, 3) := by decide +kernel
theorem dX6_draftFunction_79 : decode cX6_draftFunction 79 = .ok (.iload 7, 2) := by decide +kernel
theorem dX6_draftFunction_81 : decode cX6_draftFunction 81 = .ok (.iload_n 2, 1) := by decide +kernel
theorem dX6_draftFunction_82 : decode cX6_draftFunction 82 = .ok (.if_icmp .ne 28, 3) := by decide +kernel
theorem dX6_draftFunction_85 : decode cX6_draftFunction 85 = .ok (.aload_n 0, 1) := by decide +kernel
theorem dX6_draftFunction_86 : decode cX6_draftFunction 86 = .ok (.getfield 12, 3) := by decide +kernel
theorem dX6_draftFunction_89 : decode cX6_draftFunction 89 = .ok (.bipush 56, 2) := by decide +kernel
theorem dX6_draftFunction_91 : decode cX6_draftFunction 91 = .ok (.iconst 0, 1) := by decide +kernel
theorem dX6_draftFunction_92 : decode cX6_draftFunction 92 = .ok (.aload_n 0, 1) := by decide +kernel
theorem dX6_draftFunction_93 : decode cX6_draftFunction 93 = .ok (.getfield 21, 3) := by decide +kernel
theorem dX6_draftFunction_96 : decode cX6_draftFunction 96 = .ok (.iload 5, 2) := by decide +kernel
theorem dX6_draftFunction_98 : decode cX6_draftFunction 98 = .ok (.invokevirtual 133, 3) := by decide +kernel
theorem dX6_draftFunction_101 : decode cX6_draftFunction 101 = .ok (.invokevirtual 48, 3) := by decide +kernel
theorem dX6_draftFunction_104 : decode cX6_draftFunction 104 = .ok (.iinc 4 1, 3) := by decide +kernel
theorem dX6_draftFunction_107 : decode cX6_draftFunction 107 = .ok (.goto 16, 3) := by decide +kernel
theorem dX6_draftFunction_110 : decode cX6_draftFunction 110 = .ok (.aload_n 0, 1) := by decide +kernel
theorem dX6_draftFunction_111 : decode cX6_draftFunction 111 = .ok (.getfield 12, 3) := by decide +kernel
theorem dX6_draftFunction_114 : decode cX6_draftFunction 114 = .ok (.bipush 56, 2) := by decide +kernel
theorem dX6_draftFunction_116 : decode cX6_draftFunction 116 = .ok (.iload 6, 2) := by decide +kernel
theorem dX6_draftFunction_118 : decode cX6_draftFunction 118 = .ok (.iload 7, 2) := by decide +kernel
theorem dX6_draftFunction_120 : decode cX6_draftFunction 120 = .ok (.invokevirtual 48, 3) := by decide +kernel
theorem dX6_draftFunction_123 : decode cX6_draftFunction 123 = .ok (.iinc 5 1, 3) := by decide +kernel
theorem dX6_draftFunction_126 : decode cX6_draftFunction 126 = .ok (.goto (-83), 3) := by decide +kernel
theorem dX6_draftFunction_129 : decode cX6_draftFunction 129 = .ok (.iload 4, 2) := by decide +kernel
theorem dX6_draftFunction_131 : decode cX6_draftFunction 131 = .ok (.ireturn, 1) := by decide +kernel
theorem dJ9_max_7cf53_0 : decode cJ9_max_7cf53 0 = .ok (.iload_n 0, 1) := by decide +kernel
theorem dJ9_max_7cf53_1 : decode cJ9_max_7cf53 1 = .ok (.iload_n 1, 1) := by decide +kernel
theorem dJ9_max_7cf53_2 : decode cJ9_max_7cf53 2 = .ok (.if_icmp .lt 7, 3) := by decide +kernel
theorem dJ9_max_7cf53_5 : decode cJ9_max_7cf53 5 = .ok (.iload_n 0, 1) := by decide +kernel
theorem dJ9_max_7cf53_6 : decode cJ9_max_7cf53 6 = .ok (.goto 4, 3) := by decide +kernel
theorem dJ9_max_7cf53_9 : decode cJ9_max_7cf53 9 = .ok (.iload_n 1, 1) := by decide +kernel
theorem dJ9_max_7cf53_10 : decode cJ9_max_7cf53 10 = .ok (.ireturn, 1) := by decide +kernel
theorem dJ9_min_7cf53_0 : decode cJ9_min_7cf53 0 = .ok (.iload_n 0, 1) := by decide +kernel
theorem dJ9_min_7cf53_1 : decode cJ9_min_7cf53 1 = .ok (.iload_n 1, 1) := by decide +kernel
theorem dJ9_min_7cf53_2 : decode cJ9_min_7cf53 2 = .ok (.if_icmp .gt 7, 3) := by decide +kernel
theorem dJ9_min_7cf53_5 : decode cJ9_min_7cf53 5 = .ok (.iload_n 0, 1) := by decide +kernel
theorem dJ9_min_7cf53_6 : decode cJ9_min_7cf53 6 = .ok (.goto 4, 3) := by decide +kernel
theorem dJ9_min_7cf53_9 : decode cJ9_min_7cf53 9 = .ok (.iload_n 1, 1) := by decide +kernel
theorem dJ9_min_7cf53_10 : decode cJ9_min_7cf53 10 = .ok (.ireturn, 1) := by decide +kernel
theorem dL_cell_0 : decode cL_cell 0 = .ok (.iload_n 1, 1) := by decide +kernel
theorem dL_cell_1 : decode cL_cell 1 = .ok (.aload_n 0, 1) := by decide +kernel
theorem dL_cell_2 : decode cL_cell 2 = .ok (.arraylength, 1) := by decide +kernel
theorem dL_cell_3 : decode cL_cell 3 = .ok (.if_icmp .ge 9, 3) := by decide +kernel
theorem dL_cell_6 : decode cL_cell 6 = .ok (.aload_n 0, 1) := by decide +kernel
theorem dL_cell_7 : decode cL_cell 7 = .ok (.iload_n 1, 1) := by decide +kernel
theorem dL_cell_8 : decode cL_cell 8 = .ok (.iaload, 1) := by decide +kernel
theorem dL_cell_9 : decode cL_cell 9 = .ok (.goto 12, 3) := by decide +kernel
theorem dL_cell_12 : decode cL_cell 12 = .ok (.ldc 7, 2) := by decide +kernel
theorem dL_cell_14 : decode cL_cell 14 = .ok (.iload_n 1, 1) := by decide +kernel
theorem dL_cell_15 : decode cL_cell 15 = .ok (.iconst 1, 1) := by decide +kernel
theorem dL_cell_16 : decode cL_cell 16 = .ok (.iadd, 1) := by decide +kernel
theorem dL_cell_17 : decode cL_cell 17 = .ok (.imul, 1) := by decide +kernel
theorem dL_cell_18 : decode cL_cell 18 = .ok (.ldc 8, 2) := by decide +kernel
theorem dL_cell_20 : decode cL_cell 20 = .ok (.iadd, 1) := by decide +kernel
theorem dL_cell_21 : decode cL_cell 21 = .ok (.ireturn, 1) := by decide +kernel
theorem dL_low_0 : decode cL_low 0 = .ok (.iload_n 0, 1) := by decide +kernel
theorem dL_low_1 : decode cL_low 1 = .ok (.ldc 9, 2) := by decide +kernel
theorem dL_low_3 : decode cL_low 3 = .ok (.iand, 1) := by decide +kernel
theorem dL_low_4 : decode cL_low 4 = .ok (.iload_n 1, 1) := by decide +kernel
theorem dL_low_5 : decode cL_low 5 = .ok (.irem, 1) := by decide +kernel
theorem dL_low_6 : decode cL_low 6 = .ok (.ireturn, 1) := by decide +kernel
theorem dL_scan_0 : decode cL_scan 0 = .ok (.iconst 1, 1) := by decide +kernel
theorem dL_scan_1 : decode cL_scan 1 = .ok (.istore 4, 2) := by decide +kernel
theorem dL_scan_3 : decode cL_scan 3 = .ok (.aload_n 3, 1) := by decide +kernel
theorem dL_scan_4 : decode cL_scan 4 = .ok (.iconst 0, 1) := by decide +kernel
theorem dL_scan_5 : decode cL_scan 5 = .ok (.iconst (-1), 1) := by decide +kernel
theorem dL_scan_6 : decode cL_scan 6 = .ok (.iastore, 1) := by decide +kernel
theorem dL_scan_7 : decode cL_scan 7 = .ok (.iconst 0, 1) := by decide +kernel
theorem dL_scan_8 : decode cL_scan 8 = .ok (.istore 5, 2) := by decide +kernel
theorem dL_scan_10 : decode cL_scan 10 = .ok (.iload 5, 2) := by decide +kernel
theorem dL_scan_12 : decode cL_scan 12 = .ok (.aload_n 1, 1) := by decide +kernel
theorem dL_scan_13 : decode cL_scan 13 = .ok (.iconst 0, 1) := by decide +kernel
theorem dL_scan_14 : decode cL_scan 14 = .ok (.iaload, 1) := by decide +kernel
theorem dL_scan_15 : decode cL_scan 15 = .ok (.if_icmp .ge 67, 3) := by decide +kernel
theorem dL_scan_18 : decode cL_scan 18 = .ok (.aload_n 2, 1) := by decide +kernel
theorem dL_scan_19 : decode cL_scan 19 = .ok (.iload 5, 2) := by decide +kernel
theorem dL_scan_21 : decode cL_scan 21 = .ok (.aload_n 3, 1) := by decide +kernel
theorem dL_scan_22 : decode cL_scan 22 = .ok (.iinc 4 (-1), 3) := by decide +kernel
theorem dL_scan_25 : decode cL_scan 25 = .ok (.iload 4, 2) := by decide +kernel
theorem dL_scan_27 : decode cL_scan 27 = .ok (.iaload, 1) := by decide +kernel
theorem dL_scan_28 : decode cL_scan 28 = .ok (.iastore, 1) := by decide +kernel
theorem dL_scan_29 : decode cL_scan 29 = .ok (.aload_n 0, 1) := by decide +kernel
theorem dL_scan_30 : decode cL_scan 30 = .ok (.iload 5, 2) := by decide +kernel
theorem dL_scan_32 : decode cL_scan 32 = .ok (.iaload, 1) := by decide +kernel
theorem dL_scan_33 : decode cL_scan 33 = .ok (.iconst 3, 1) := by decide +kernel
theorem dL_scan_34 : decode cL_scan 34 = .ok (.if_icmp .ne 25, 3) := by decide +kernel
theorem dL_scan_37 : decode cL_scan 37 = .ok (.aload_n 3, 1) := by decide +kernel
theorem dL_scan_38 : decode cL_scan 38 = .ok (.iload 4, 2) := by decide +kernel
theorem dL_scan_40 : decode cL_scan 40 = .ok (.iinc 4 1, 3) := by decide +kernel
theorem dL_scan_43 : decode cL_scan 43 = .ok (.aload_n 2, 1) := by decide +kernel
theorem dL_scan_44 : decode cL_scan 44 = .ok (.iload 5, 2) := by decide +kernel
theorem dL_scan_46 : decode cL_scan 46 = .ok (.iaload, 1) := by decide +kernel
theorem dL_scan_47 : decode cL_scan 47 = .ok (.iastore, 1) := by decide +kernel
theorem dL_scan_48 : decode cL_scan 48 = .ok (.aload_n 3, 1) := by decide +kernel
theorem dL_scan_49 : decode cL_scan 49 = .ok (.iload 4, 2) := by decide +kernel
theorem dL_scan_51 : decode cL_scan 51 = .ok (.iinc 4 1, 3) := by decide +kernel
theorem dL_scan_54 : decode cL_scan 54 = .ok (.aload_n 2, 1) := by decide +kernel
theorem dL_scan_55 : decode cL_scan 55 = .ok (.iload 5, 2) := by decide +kernel
theorem dL_scan_57 : decode cL_scan 57 = .ok (.iaload, 1) := by decide +kernel
theorem dL_scan_58 : decode cL_scan 58 = .ok (.iastore, 1) := by decide +kernel
theorem dL_scan_59 : decode cL_scan 59 = .ok (.aload_n 0, 1) := by decide +kernel
theorem dL_scan_60 : decode cL_scan 60 = .ok (.iload 5, 2) := by decide +kernel
theorem dL_scan_62 : decode cL_scan 62 = .ok (.iaload, 1) := by decide +kernel
theorem dL_scan_63 : decode cL_scan 63 = .ok (.iconst 2, 1) := by decide +kernel
theorem dL_scan_64 : decode cL_scan 64 = .ok (.if_icmp .ne 12, 3) := by decide +kernel
theorem dL_scan_67 : decode cL_scan 67 = .ok (.aload_n 3, 1) := by decide +kernel
theorem dL_scan_68 : decode cL_scan 68 = .ok (.iload 4, 2) := by decide +kernel
theorem dL_scan_70 : decode cL_scan 70 = .ok (.iinc 4 1, 3) := by decide +kernel
theorem dL_scan_73 : decode cL_scan 73 = .ok (.iload 5, 2) := by decide +kernel
theorem dL_scan_75 : decode cL_scan 75 = .ok (.iastore, 1) := by decide +kernel
theorem dL_scan_76 : decode cL_scan 76 = .ok (.iinc 5 1, 3) := by decide +kernel
theorem dL_scan_79 : decode cL_scan 79 = .ok (.goto (-69), 3) := by decide +kernel
theorem dL_scan_82 : decode cL_scan 82 = .ok (.return_, 1) := by decide +kernel
theorem dL_end_0 : decode cL_end 0 = .ok (.iconst 1, 1) := by decide +kernel
theorem dL_end_1 : decode cL_end 1 = .ok (.istore_n 2, 1) := by decide +kernel
theorem dL_end_2 : decode cL_end 2 = .ok (.iload_n 1, 1) := by decide +kernel
theorem dL_end_3 : decode cL_end 3 = .ok (.istore_n 3, 1) := by decide +kernel
theorem dL_end_4 : decode cL_end 4 = .ok (.iload_n 2, 1) := by decide +kernel
theorem dL_end_5 : decode cL_end 5 = .ok (.ifCond .le 35, 3) := by decide +kernel
theorem dL_end_8 : decode cL_end 8 = .ok (.iload_n 2, 1) := by decide +kernel
theorem dL_end_9 : decode cL_end 9 = .ok (.aload_n 0, 1) := by decide +kernel
theorem dL_end_10 : decode cL_end 10 = .ok (.iload_n 3, 1) := by decide +kernel
theorem dL_end_11 : decode cL_end 11 = .ok (.iaload, 1) := by decide +kernel
theorem dL_end_12 : decode cL_end 12 = .ok (.iconst 3, 1) := by decide +kernel
theorem dL_end_13 : decode cL_end 13 = .ok (.if_icmp .ne 7, 3) := by decide +kernel
theorem dL_end_16 : decode cL_end 16 = .ok (.iconst 1, 1) := by decide +kernel
theorem dL_end_17 : decode cL_end 17 = .ok (.goto 15, 3) := by decide +kernel
theorem dL_end_20 : decode cL_end 20 = .ok (.aload_n 0, 1) := by decide +kernel
theorem dL_end_21 : decode cL_end 21 = .ok (.iload_n 3, 1) := by decide +kernel
theorem dL_end_22 : decode cL_end 22 = .ok (.iaload, 1) := by decide +kernel
theorem dL_end_23 : decode cL_end 23 = .ok (.iconst 2, 1) := by decide +kernel
theorem dL_end_24 : decode cL_end 24 = .ok (.if_icmp .ne 7, 3) := by decide +kernel
theorem dL_end_27 : decode cL_end 27 = .ok (.iconst 0, 1) := by decide +kernel
theorem dL_end_28 : decode cL_end 28 = .ok (.goto 4, 3) := by decide +kernel
theorem dL_end_31 : decode cL_end 31 = .ok (.iconst (-1), 1) := by decide +kernel
theorem dL_end_32 : decode cL_end 32 = .ok (.iadd, 1) := by decide +kernel
theorem dL_end_33 : decode cL_end 33 = .ok (.istore_n 2, 1) := by decide +kernel
theorem dL_end_34 : decode cL_end 34 = .ok (.iinc 3 1, 3) := by decide +kernel
theorem dL_end_37 : decode cL_end 37 = .ok (.goto (-33), 3) := by decide +kernel
theorem dL_end_40 : decode cL_end 40 = .ok (.iload_n 3, 1) := by decide +kernel
theorem dL_end_41 : decode cL_end 41 = .ok (.ireturn, 1) := by decide +kernel
theorem dL_deep_0 : decode cL_deep 0 = .ok (.iconst 0, 1) := by decide +kernel
theorem dL_deep_1 : decode cL_deep 1 = .ok (.istore_n 2, 1) := by decide +kernel
theorem dL_deep_2 : decode cL_deep 2 = .ok (.aload_n 0, 1) := by decide +kernel
theorem dL_deep_3 : decode cL_deep 3 = .ok (.iload_n 1, 1) := by decide +kernel
theorem dL_deep_4 : decode cL_deep 4 = .ok (.iaload, 1) := by decide +kernel
theorem dL_deep_5 : decode cL_deep 5 = .ok (.istore_n 3, 1) := by decide +kernel
theorem dL_deep_6 : decode cL_deep 6 = .ok (.iload_n 3, 1) := by decide +kernel
theorem dL_deep_7 : decode cL_deep 7 = .ok (.ifCond .lt 13, 3) := by decide +kernel
theorem dL_deep_10 : decode cL_deep 10 = .ok (.iinc 2 1, 3) := by decide +kernel
theorem dL_deep_13 : decode cL_deep 13 = .ok (.aload_n 0, 1) := by decide +kernel
theorem dL_deep_14 : decode cL_deep 14 = .ok (.iload_n 3, 1) := by decide +kernel
theorem dL_deep_15 : decode cL_deep 15 = .ok (.iaload, 1) := by decide +kernel
theorem dL_deep_16 : decode cL_deep 16 = .ok (.istore_n 3, 1) := by decide +kernel
theorem dL_deep_17 : decode cL_deep 17 = .ok (.goto (-11), 3) := by decide +kernel
theorem dL_deep_20 : decode cL_deep 20 = .ok (.iload_n 2, 1) := by decide +kernel
theorem dL_deep_21 : decode cL_deep 21 = .ok (.ireturn, 1) := by decide +kernel
theorem dL_count_0 : decode cL_count 0 = .ok (.iconst 0, 1) := by decide +kernel
theorem dL_count_1 : decode cL_count 1 = .ok (.istore_n 3, 1) := by decide +kernel
theorem dL_count_2 : decode cL_count 2 = .ok (.aload_n 1, 1) := by decide +kernel
theorem dL_count_3 : decode cL_count 3 = .ok (.iload_n 2, 1) := by decide +kernel
theorem dL_count_4 : decode cL_count 4 = .ok (.iaload, 1) := by decide +kernel
theorem dL_count_5 : decode cL_count 5 = .ok (.istore 4, 2) := by decide +kernel
theorem dL_count_7 : decode cL_count 7 = .ok (.iload 4, 2) := by decide +kernel
theorem dL_count_9 : decode cL_count 9 = .ok (.aload_n 0, 1) := by decide +kernel
theorem dL_count_10 : decode cL_count 10 = .ok (.iload_n 2, 1) := by decide +kernel
theorem dL_count_11 : decode cL_count 11 = .ok (.iaload, 1) := by decide +kernel
theorem dL_count_12 : decode cL_count 12 = .ok (.if_icmp .eq 15, 3) := by decide +kernel
theorem dL_count_15 : decode cL_count 15 = .ok (.iinc 3 1, 3) := by decide +kernel
theorem dL_count_18 : decode cL_count 18 = .ok (.aload_n 1, 1) := by decide +kernel
theorem dL_count_19 : decode cL_count 19 = .ok (.iload 4, 2) := by decide +kernel
theorem dL_count_21 : decode cL_count 21 = .ok (.iaload, 1) := by decide +kernel
theorem dL_count_22 : decode cL_count 22 = .ok (.istore 4, 2) := by decide +kernel
theorem dL_count_24 : decode cL_count 24 = .ok (.goto (-17), 3) := by decide +kernel
theorem dL_count_27 : decode cL_count 27 = .ok (.iload_n 3, 1) := by decide +kernel
theorem dL_count_28 : decode cL_count 28 = .ok (.ireturn, 1) := by decide +kernel
theorem dL_next_0 : decode cL_next 0 = .ok (.iconst 0, 1) := by decide +kernel
theorem dL_next_1 : decode cL_next 1 = .ok (.istore 4, 2) := by decide +kernel
theorem dL_next_3 : decode cL_next 3 = .ok (.iload 4, 2) := by decide +kernel
theorem dL_next_5 : decode cL_next 5 = .ok (.aload_n 2, 1) := by decide +kernel
theorem dL_next_6 : decode cL_next 6 = .ok (.iconst 0, 1) := by decide +kernel
theorem dL_next_7 : decode cL_next 7 = .ok (.iaload, 1) := by decide +kernel
theorem dL_next_8 : decode cL_next 8 = .ok (.if_icmp .ge 111, 3) := by decide +kernel
theorem dL_next_11 : decode cL_next 11 = .ok (.aload_n 1, 1) := by decide +kernel
theorem dL_next_12 : decode cL_next 12 = .ok (.iload 4, 2) := by decide +kernel
theorem dL_next_14 : decode cL_next 14 = .ok (.iaload, 1) := by decide +kernel
theorem dL_next_15 : decode cL_next 15 = .ok (.iconst 3, 1) := by decide +kernel
theorem dL_next_16 : decode cL_next 16 = .ok (.if_icmp .ne 97, 3) := by decide +kernel
theorem dL_next_19 : decode cL_next 19 = .ok (.aload_n 1, 1) := by decide +kernel
theorem dL_next_20 : decode cL_next 20 = .ok (.iload 4, 2) := by decide +kernel
theorem dL_next_22 : decode cL_next 22 = .ok (.iconst 1, 1) := by decide +kernel
theorem dL_next_23 : decode cL_next 23 = .ok (.iadd, 1) := by decide +kernel
theorem dL_next_24 : decode cL_next 24 = .ok (.iaload, 1) := by decide +kernel
theorem dL_next_25 : decode cL_next 25 = .ok (.iconst 2, 1) := by decide +kernel
theorem dL_next_26 : decode cL_next 26 = .ok (.if_icmp .ne 87, 3) := by decide +kernel
theorem dL_next_29 : decode cL_next 29 = .ok (.iload_n 0, 1) := by decide +kernel
theorem dL_next_30 : decode cL_next 30 = .ok (.iconst 2, 1) := by decide +kernel
theorem dL_next_31 : decode cL_next 31 = .ok (.if_icmp .ne 13, 3) := by decide +kernel
theorem dL_next_34 : decode cL_next 34 = .ok (.aload_n 3, 1) := by decide +kernel
theorem dL_next_35 : decode cL_next 35 = .ok (.iload 4, 2) := by decide +kernel
theorem dL_next_37 : decode cL_next 37 = .ok (.iaload, 1) := by decide +kernel
theorem dL_next_38 : decode cL_next 38 = .ok (.ifCond .lt 6, 3) := by decide +kernel
theorem dL_next_41 : decode cL_next 41 = .ok (.goto 72, 3) := by decide +kernel
theorem dL_next_44 : decode cL_next 44 = .ok (.iconst 1, 1) := by decide +kernel
theorem dL_next_45 : decode cL_next 45 = .ok (.istore 5, 2) := by decide +kernel
theorem dL_next_47 : decode cL_next 47 = .ok (.iload 4, 2) := by decide +kernel
theorem dL_next_49 : decode cL_next 49 = .ok (.iconst 1, 1) := by decide +kernel
theorem dL_next_50 : decode cL_next 50 = .ok (.iadd, 1) := by decide +kernel
theorem dL_next_51 : decode cL_next 51 = .ok (.istore 6, 2) := by decide +kernel
theorem dL_next_53 : decode cL_next 53 = .ok (.iload_n 0, 1) := by decide +kernel
theorem dL_next_54 : decode cL_next 54 = .ok (.iconst 1, 1) := by decide +kernel
theorem dL_next_55 : decode cL_next 55 = .ok (.if_icmp .ne 50, 3) := by decide +kernel
theorem dL_next_58 : decode cL_next 58 = .ok (.iload 6, 2) := by decide +kernel
theorem dL_next_60 : decode cL_next 60 = .ok (.aload_n 1, 1) := by decide +kernel
theorem dL_next_61 : decode cL_next 61 = .ok (.iload 4, 2) := by decide +kernel
theorem dL_next_63 : decode cL_next 63 = .ok (.invokestatic 10, 3) := by decide +kernel
theorem dL_next_66 : decode cL_next 66 = .ok (.if_icmp .ge 39, 3) := by decide +kernel
theorem dL_next_69 : decode cL_next 69 = .ok (.iload 5, 2) := by decide +kernel
theorem dL_next_71 : decode cL_next 71 = .ok (.ifCond .eq 25, 3) := by decide +kernel
theorem dL_next_74 : decode cL_next 74 = .ok (.aload_n 1, 1) := by decide +kernel
theorem dL_next_75 : decode cL_next 75 = .ok (.iload 6, 2) := by decide +kernel
theorem dL_next_77 : decode cL_next 77 = .ok (.iaload, 1) := by decide +kernel
theorem dL_next_78 : decode cL_next 78 = .ok (.iconst 3, 1) := by decide +kernel
theorem dL_next_79 : decode cL_next 79 = .ok (.if_icmp .ne 13, 3) := by decide +kernel
theorem dL_next_82 : decode cL_next 82 = .ok (.aload_n 1, 1) := by decide +kernel
theorem dL_next_83 : decode cL_next 83 = .ok (.iload 6, 2) := by decide +kernel
theorem dL_next_85 : decode cL_next 85 = .ok (.iconst 1, 1) := by decide +kernel
theorem dL_next_86 : decode cL_next 86 = .ok (.iadd, 1) := by decide +kernel
theorem dL_next_87 : decode cL_next 87 = .ok (.iaload, 1) := by decide +kernel
theorem dL_next_88 : decode cL_next 88 = .ok (.iconst 2, 1) := by decide +kernel
theorem dL_next_89 : decode cL_next 89 = .ok (.if_icmp .eq 7, 3) := by decide +kernel
theorem dL_next_92 : decode cL_next 92 = .ok (.iconst 1, 1) := by decide +kernel
theorem dL_next_93 : decode cL_next 93 = .ok (.goto 4, 3) := by decide +kernel
theorem dL_next_96 : decode cL_next 96 = .ok (.iconst 0, 1) := by decide +kernel
theorem dL_next_97 : decode cL_next 97 = .ok (.istore 5, 2) := by decide +kernel
theorem dL_next_99 : decode cL_next 99 = .ok (.iinc 6 1, 3) := by decide +kernel
theorem dL_next_102 : decode cL_next 102 = .ok (.goto (-49), 3) := by decide +kernel
theorem dL_next_105 : decode cL_next 105 = .ok (.iload 5, 2) := by decide +kernel
theorem dL_next_107 : decode cL_next 107 = .ok (.ifCond .eq 6, 3) := by decide +kernel
theorem dL_next_110 : decode cL_next 110 = .ok (.iload 4, 2) := by decide +kernel
theorem dL_next_112 : decode cL_next 112 = .ok (.ireturn, 1) := by decide +kernel
theorem dL_next_113 : decode cL_next 113 = .ok (.iinc 4 1, 3) := by decide +kernel
theorem dL_next_116 : decode cL_next 116 = .ok (.goto (-113), 3) := by decide +kernel
theorem dL_next_119 : decode cL_next 119 = .ok (.bipush (-6), 2) := by decide +kernel
theorem dL_next_121 : decode cL_next 121 = .ok (.ireturn, 1) := by decide +kernel
theorem dL_size_0 : decode cL_size 0 = .ok (.aload_n 1, 1) := by decide +kernel
theorem dL_size_1 : decode cL_size 1 = .ok (.iload_n 0, 1) := by decide +kernel
theorem dL_size_2 : decode cL_size 2 = .ok (.iconst 1, 1) := by decide +kernel
theorem dL_size_3 : decode cL_size 3 = .ok (.iadd, 1) := by decide +kernel
theorem dL_size_4 : decode cL_size 4 = .ok (.invokestatic 10, 3) := by decide +kernel
theorem dL_size_7 : decode cL_size 7 = .ok (.istore 4, 2) := by decide +kernel
theorem dL_size_9 : decode cL_size 9 = .ok (.aload_n 1, 1) := by decide +kernel
theorem dL_size_10 : decode cL_size 10 = .ok (.iload 4, 2) := by decide +kernel
theorem dL_size_12 : decode cL_size 12 = .ok (.invokestatic 10, 3) := by decide +kernel
theorem dL_size_15 : decode cL_size 15 = .ok (.istore 5, 2) := by decide +kernel
theorem dL_size_17 : decode cL_size 17 = .ok (.iconst 0, 1) := by decide +kernel
theorem dL_size_18 : decode cL_size 18 = .ok (.istore 6, 2) := by decide +kernel
theorem dL_size_20 : decode cL_size 20 = .ok (.iload_n 0, 1) := by decide +kernel
theorem dL_size_21 : decode cL_size 21 = .ok (.iconst 2, 1) := by decide +kernel
theorem dL_size_22 : decode cL_size 22 = .ok (.iadd, 1) := by decide +kernel
theorem dL_size_23 : decode cL_size 23 = .ok (.istore 7, 2) := by decide +kernel
theorem dL_size_25 : decode cL_size 25 = .ok (.iload 7, 2) := by decide +kernel
theorem dL_size_27 : decode cL_size 27 = .ok (.iload 4, 2) := by decide +kernel
theorem dL_size_29 : decode cL_size 29 = .ok (.if_icmp .ge 36, 3) := by decide +kernel
theorem dL_size_32 : decode cL_size 32 = .ok (.iload 6, 2) := by decide +kernel
theorem dL_size_34 : decode cL_size 34 = .ok (.aload_n 1, 1) := by decide +kernel
theorem dL_size_35 : decode cL_size 35 = .ok (.iload 7, 2) := by decide +kernel
theorem dL_size_37 : decode cL_size 37 = .ok (.iaload, 1) := by decide +kernel
theorem dL_size_38 : decode cL_size 38 = .ok (.ifCond .ne 17, 3) := by decide +kernel
theorem dL_size_41 : decode cL_size 41 = .ok (.aload_n 2, 1) := by decide +kernel
theorem dL_size_42 : decode cL_size 42 = .ok (.iload 7, 2) := by decide +kernel
theorem dL_size_44 : decode cL_size 44 = .ok (.iaload, 1) := by decide +kernel
theorem dL_size_45 : decode cL_size 45 = .ok (.iload_n 0, 1) := by decide +kernel
theorem dL_size_46 : decode cL_size 46 = .ok (.iconst 1, 1) := by decide +kernel
theorem dL_size_47 : decode cL_size 47 = .ok (.iadd, 1) := by decide +kernel
