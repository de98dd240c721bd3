theorem dX10_init_0 : decode cX10_init 0 = .ok (.aload_n 0, 1) := by decide +kernel
theorem dX10_init_1 : decode cX10_init 1 = .ok (.invokespecial 1, 3) := by decide +kernel
theorem dX10_init_4 : decode cX10_init 4 = .ok (.aload_n 0, 1) := by decide +kernel
theorem dX10_init_5 : decode cX10_init 5 = .ok (.sipush 300, 3) := by decide +kernel
theorem dX10_init_8 : decode cX10_init 8 = .ok (.newarray .byte, 2) := by decide +kernel
theorem dX10_init_10 : decode cX10_init 10 = .ok (.putfield 7, 3) := by decide +kernel
theorem dX10_init_13 : decode cX10_init 13 = .ok (.aload_n 0, 1) := by decide +kernel
theorem dX10_init_14 : decode cX10_init 14 = .ok (.iconst 2, 1) := by decide +kernel
theorem dX10_init_15 : decode cX10_init 15 = .ok (.newarray .int, 2) := by decide +kernel
theorem dX10_init_17 : decode cX10_init 17 = .ok (.putfield 13, 3) := by decide +kernel
theorem dX10_init_20 : decode cX10_init 20 = .ok (.aload_n 0, 1) := by decide +kernel
theorem dX10_init_21 : decode cX10_init 21 = .ok (.iconst 2, 1) := by decide +kernel
theorem dX10_init_22 : decode cX10_init 22 = .ok (.newarray .int, 2) := by decide +kernel
theorem dX10_init_24 : decode cX10_init 24 = .ok (.putfield 17, 3) := by decide +kernel
theorem dX10_init_27 : decode cX10_init 27 = .ok (.aload_n 0, 1) := by decide +kernel
theorem dX10_init_28 : decode cX10_init 28 = .ok (.bipush 12, 2) := by decide +kernel
theorem dX10_init_30 : decode cX10_init 30 = .ok (.newarray .int, 2) := by decide +kernel
theorem dX10_init_32 : decode cX10_init 32 = .ok (.putfield 20, 3) := by decide +kernel
theorem dX10_init_35 : decode cX10_init 35 = .ok (.aload_n 0, 1) := by decide +kernel
theorem dX10_init_36 : decode cX10_init 36 = .ok (.bipush 12, 2) := by decide +kernel
theorem dX10_init_38 : decode cX10_init 38 = .ok (.newarray .int, 2) := by decide +kernel
theorem dX10_init_40 : decode cX10_init 40 = .ok (.putfield 23, 3) := by decide +kernel
theorem dX10_init_43 : decode cX10_init 43 = .ok (.aload_n 0, 1) := by decide +kernel
theorem dX10_init_44 : decode cX10_init 44 = .ok (.bipush 12, 2) := by decide +kernel
theorem dX10_init_46 : decode cX10_init 46 = .ok (.newarray .int, 2) := by decide +kernel
theorem dX10_init_48 : decode cX10_init 48 = .ok (.putfield 26, 3) := by decide +kernel
theorem dX10_init_51 : decode cX10_init 51 = .ok (.aload_n 0, 1) := by decide +kernel
theorem dX10_init_52 : decode cX10_init 52 = .ok (.bipush 12, 2) := by decide +kernel
theorem dX10_init_54 : decode cX10_init 54 = .ok (.newarray .int, 2) := by decide +kernel
theorem dX10_init_56 : decode cX10_init 56 = .ok (.putfield 29, 3) := by decide +kernel
theorem dX10_init_59 : decode cX10_init 59 = .ok (.aload_n 0, 1) := by decide +kernel
theorem dX10_init_60 : decode cX10_init 60 = .ok (.bipush 24, 2) := by decide +kernel
theorem dX10_init_62 : decode cX10_init 62 = .ok (.newarray .int, 2) := by decide +kernel
theorem dX10_init_64 : decode cX10_init 64 = .ok (.putfield 32, 3) := by decide +kernel
theorem dX10_init_67 : decode cX10_init 67 = .ok (.aload_n 0, 1) := by decide +kernel
theorem dX10_init_68 : decode cX10_init 68 = .ok (.bipush 24, 2) := by decide +kernel
theorem dX10_init_70 : decode cX10_init 70 = .ok (.newarray .int, 2) := by decide +kernel
theorem dX10_init_72 : decode cX10_init 72 = .ok (.putfield 35, 3) := by decide +kernel
theorem dX10_init_75 : decode cX10_init 75 = .ok (.aload_n 0, 1) := by decide +kernel
theorem dX10_init_76 : decode cX10_init 76 = .ok (.bipush 84, 2) := by decide +kernel
theorem dX10_init_78 : decode cX10_init 78 = .ok (.newarray .int, 2) := by decide +kernel
theorem dX10_init_80 : decode cX10_init 80 = .ok (.putfield 38, 3) := by decide +kernel
theorem dX10_init_83 : decode cX10_init 83 = .ok (.aload_n 0, 1) := by decide +kernel
theorem dX10_init_84 : decode cX10_init 84 = .ok (.iconst 2, 1) := by decide +kernel
theorem dX10_init_85 : decode cX10_init 85 = .ok (.newarray .boolean, 2) := by decide +kernel
theorem dX10_init_87 : decode cX10_init 87 = .ok (.putfield 41, 3) := by decide +kernel
theorem dX10_init_90 : decode cX10_init 90 = .ok (.aload_n 0, 1) := by decide +kernel
theorem dX10_init_91 : decode cX10_init 91 = .ok (.bipush 16, 2) := by decide +kernel
theorem dX10_init_93 : decode cX10_init 93 = .ok (.newarray .int, 2) := by decide +kernel
theorem dX10_init_95 : decode cX10_init 95 = .ok (.putfield 45, 3) := by decide +kernel
theorem dX10_init_98 : decode cX10_init 98 = .ok (.aload_n 0, 1) := by decide +kernel
theorem dX10_init_99 : decode cX10_init 99 = .ok (.iconst 4, 1) := by decide +kernel
theorem dX10_init_100 : decode cX10_init 100 = .ok (.newarray .int, 2) := by decide +kernel
theorem dX10_init_102 : decode cX10_init 102 = .ok (.putfield 48, 3) := by decide +kernel
theorem dX10_init_105 : decode cX10_init 105 = .ok (.aload_n 0, 1) := by decide +kernel
theorem dX10_init_106 : decode cX10_init 106 = .ok (.iconst 4, 1) := by decide +kernel
theorem dX10_init_107 : decode cX10_init 107 = .ok (.newarray .int, 2) := by decide +kernel
theorem dX10_init_109 : decode cX10_init 109 = .ok (.putfield 51, 3) := by decide +kernel
theorem dX10_init_112 : decode cX10_init 112 = .ok (.aload_n 0, 1) := by decide +kernel
theorem dX10_init_113 : decode cX10_init 113 = .ok (.bipush 8, 2) := by decide +kernel
theorem dX10_init_115 : decode cX10_init 115 = .ok (.newarray .int, 2) := by decide +kernel
theorem dX10_init_117 : decode cX10_init 117 = .ok (.putfield 54, 3) := by decide +kernel
theorem dX10_init_120 : decode cX10_init 120 = .ok (.aload_n 0, 1) := by decide +kernel
theorem dX10_init_121 : decode cX10_init 121 = .ok (.bipush 8, 2) := by decide +kernel
theorem dX10_init_123 : decode cX10_init 123 = .ok (.newarray .int, 2) := by decide +kernel
theorem dX10_init_125 : decode cX10_init 125 = .ok (.putfield 57, 3) := by decide +kernel
theorem dX10_init_128 : decode cX10_init 128 = .ok (.aload_n 0, 1) := by decide +kernel
theorem dX10_init_129 : decode cX10_init 129 = .ok (.bipush 24, 2) := by decide +kernel
theorem dX10_init_131 : decode cX10_init 131 = .ok (.newarray .int, 2) := by decide +kernel
theorem dX10_init_133 : decode cX10_init 133 = .ok (.putfield 60, 3) := by decide +kernel
theorem dX10_init_136 : decode cX10_init 136 = .ok (.aload_n 0, 1) := by decide +kernel
theorem dX10_init_137 : decode cX10_init 137 = .ok (.getfield 17, 3) := by decide +kernel
theorem dX10_init_140 : decode cX10_init 140 = .ok (.iconst 0, 1) := by decide +kernel
theorem dX10_init_141 : decode cX10_init 141 = .ok (.iconst 1, 1) := by decide +kernel
theorem dX10_init_142 : decode cX10_init 142 = .ok (.iastore, 1) := by decide +kernel
theorem dX10_init_143 : decode cX10_init 143 = .ok (.return_, 1) := by decide +kernel
theorem dX10_in_0 : decode cX10_in 0 = .ok (.iload_n 0, 1) := by decide +kernel
theorem dX10_in_1 : decode cX10_in 1 = .ok (.iload_n 1, 1) := by decide +kernel
theorem dX10_in_2 : decode cX10_in 2 = .ok (.if_icmp .lt 12, 3) := by decide +kernel
theorem dX10_in_5 : decode cX10_in 5 = .ok (.iload_n 0, 1) := by decide +kernel
theorem dX10_in_6 : decode cX10_in 6 = .ok (.iload_n 2, 1) := by decide +kernel
theorem dX10_in_7 : decode cX10_in 7 = .ok (.if_icmp .gt 7, 3) := by decide +kernel
theorem dX10_in_10 : decode cX10_in 10 = .ok (.iconst 1, 1) := by decide +kernel
theorem dX10_in_11 : decode cX10_in 11 = .ok (.goto 4, 3) := by decide +kernel
theorem dX10_in_14 : decode cX10_in 14 = .ok (.iconst 0, 1) := by decide +kernel
theorem dX10_in_15 : decode cX10_in 15 = .ok (.ireturn, 1) := by decide +kernel
theorem dX10_type_0 : decode cX10_type 0 = .ok (.iload_n 3, 1) := by decide +kernel
theorem dX10_type_1 : decode cX10_type 1 = .ok (.iconst 1, 1) := by decide +kernel
theorem dX10_type_2 : decode cX10_type 2 = .ok (.bipush 8, 2) := by decide +kernel
theorem dX10_type_4 : decode cX10_type 4 = .ok (.invokestatic 63, 3) := by decide +kernel
theorem dX10_type_7 : decode cX10_type 7 = .ok (.ifCond .ne 5, 3) := by decide +kernel
theorem dX10_type_10 : decode cX10_type 10 = .ok (.iconst (-1), 1) := by decide +kernel
theorem dX10_type_11 : decode cX10_type 11 = .ok (.ireturn, 1) := by decide +kernel
theorem dX10_type_12 : decode cX10_type 12 = .ok (.aload_n 0, 1) := by decide +kernel
theorem dX10_type_13 : decode cX10_type 13 = .ok (.getfield 67, 3) := by decide +kernel
theorem dX10_type_16 : decode cX10_type 16 = .ok (.iload_n 3, 1) := by decide +kernel
theorem dX10_type_17 : decode cX10_type 17 = .ok (.iadd, 1) := by decide +kernel
theorem dX10_type_18 : decode cX10_type 18 = .ok (.sipush 300, 3) := by decide +kernel
theorem dX10_type_21 : decode cX10_type 21 = .ok (.if_icmp .le 6, 3) := by decide +kernel
theorem dX10_type_24 : decode cX10_type 24 = .ok (.bipush (-3), 2) := by decide +kernel
theorem dX10_type_26 : decode cX10_type 26 = .ok (.ireturn, 1) := by decide +kernel
theorem dX10_type_27 : decode cX10_type 27 = .ok (.iload_n 3, 1) := by decide +kernel
theorem dX10_type_28 : decode cX10_type 28 = .ok (.iconst 1, 1) := by decide +kernel
theorem dX10_type_29 : decode cX10_type 29 = .ok (.isub, 1) := by decide +kernel
theorem dX10_type_30 : decode cX10_type 30 = .ok (.istore 4, 2) := by decide +kernel
theorem dX10_type_32 : decode cX10_type 32 = .ok (.iload 4, 2) := by decide +kernel
theorem dX10_type_34 : decode cX10_type 34 = .ok (.ifCond .lt 41, 3) := by decide +kernel
theorem dX10_type_37 : decode cX10_type 37 = .ok (.aload_n 0, 1) := by decide +kernel
theorem dX10_type_38 : decode cX10_type 38 = .ok (.getfield 7, 3) := by decide +kernel
theorem dX10_type_41 : decode cX10_type 41 = .ok (.aload_n 0, 1) := by decide +kernel
theorem dX10_type_42 : decode cX10_type 42 = .ok (.getfield 67, 3) := by decide +kernel
theorem dX10_type_45 : decode cX10_type 45 = .ok (.lload_n 1, 1) := by decide +kernel
theorem dX10_type_46 : decode cX10_type 46 = .ok (.bipush 8, 2) := by decide +kernel
theorem dX10_type_48 : decode cX10_type 48 = .ok (.iload 4, 2) := by decide +kernel
theorem dX10_type_50 : decode cX10_type 50 = .ok (.imul, 1) := by decide +kernel
theorem dX10_type_51 : decode cX10_type 51 = .ok (.lshr, 1) := by decide +kernel
theorem dX10_type_52 : decode cX10_type 52 = .ok (.ldc2_w 71, 3) := by decide +kernel
theorem dX10_type_55 : decode cX10_type 55 = .ok (.land, 1) := by decide +kernel
theorem dX10_type_56 : decode cX10_type 56 = .ok (.l2i, 1) := by decide +kernel
theorem dX10_type_57 : decode cX10_type 57 = .ok (.i2b, 1) := by decide +kernel
theorem dX10_type_58 : decode cX10_type 58 = .ok (.bastore, 1) := by decide +kernel
theorem dX10_type_59 : decode cX10_type 59 = .ok (.aload_n 0, 1) := by decide +kernel
theorem dX10_type_60 : decode cX10_type 60 = .ok (.dup, 1) := by decide +kernel
theorem dX10_type_61 : decode cX10_type 61 = .ok (.getfield 67, 3) := by decide +kernel
theorem dX10_type_64 : decode cX10_type 64 = .ok (.iconst 1, 1) := by decide +kernel
theorem dX10_type_65 : decode cX10_type 65 = .ok (.iadd, 1) := by decide +kernel
theorem dX10_type_66 : decode cX10_type 66 = .ok (.putfield 67, 3) := by decide +kernel
theorem dX10_type_69 : decode cX10_type 69 = .ok (.iinc 4 (-1), 3) := by decide +kernel
theorem dX10_type_72 : decode cX10_type 72 = .ok (.goto (-40), 3) := by decide +kernel
theorem dX10_type_75 : decode cX10_type 75 = .ok (.aload_n 0, 1) := by decide +kernel
theorem dX10_type_76 : decode cX10_type 76 = .ok (.getfield 67, 3) := by decide +kernel
theorem dX10_type_79 : decode cX10_type 79 = .ok (.ireturn, 1) := by decide +kernel
theorem dX10_clear_0 : decode cX10_clear 0 = .ok (.aload_n 0, 1) := by decide +kernel
theorem dX10_clear_1 : decode cX10_clear 1 = .ok (.getfield 67, 3) := by decide +kernel
theorem dX10_clear_4 : decode cX10_clear 4 = .ok (.istore_n 1, 1) := by decide +kernel
theorem dX10_clear_5 : decode cX10_clear 5 = .ok (.aload_n 0, 1) := by decide +kernel
theorem dX10_clear_6 : decode cX10_clear 6 = .ok (.iconst 0, 1) := by decide +kernel
theorem dX10_clear_7 : decode cX10_clear 7 = .ok (.putfield 67, 3) := by decide +kernel
theorem dX10_clear_10 : decode cX10_clear 10 = .ok (.iload_n 1, 1) := by decide +kernel
theorem dX10_clear_11 : decode cX10_clear 11 = .ok (.ireturn, 1) := by decide +kernel
theorem dX10_here_0 : decode cX10_here 0 = .ok (.aload_n 0, 1) := by decide +kernel
theorem dX10_here_1 : decode cX10_here 1 = .ok (.getfield 73, 3) := by decide +kernel
theorem dX10_here_4 : decode cX10_here 4 = .ok (.aload_n 0, 1) := by decide +kernel
theorem dX10_here_5 : decode cX10_here 5 = .ok (.getfield 67, 3) := by decide +kernel
theorem dX10_here_8 : decode cX10_here 8 = .ok (.if_icmp .ge 19, 3) := by decide +kernel
theorem dX10_here_11 : decode cX10_here 11 = .ok (.aload_n 0, 1) := by decide +kernel
theorem dX10_here_12 : decode cX10_here 12 = .ok (.getfield 7, 3) := by decide +kernel
theorem dX10_here_15 : decode cX10_here 15 = .ok (.aload_n 0, 1) := by decide +kernel
theorem dX10_here_16 : decode cX10_here 16 = .ok (.getfield 73, 3) := by decide +kernel
theorem dX10_here_19 : decode cX10_here 19 = .ok (.baload, 1) := by decide +kernel
theorem dX10_here_20 : decode cX10_here 20 = .ok (.sipush 255, 3) := by decide +kernel
theorem dX10_here_23 : decode cX10_here 23 = .ok (.iand, 1) := by decide +kernel
theorem dX10_here_24 : decode cX10_here 24 = .ok (.goto 4, 3) := by decide +kernel
theorem dX10_here_27 : decode cX10_here 27 = .ok (.iconst (-1), 1) := by decide +kernel
theorem dX10_here_28 : decode cX10_here 28 = .ok (.ireturn, 1) := by decide +kernel
theorem dX10_next_0 : decode cX10_next 0 = .ok (.aload_n 0, 1) := by decide +kernel
theorem dX10_next_1 : decode cX10_next 1 = .ok (.invokevirtual 76, 3) := by decide +kernel
theorem dX10_next_4 : decode cX10_next 4 = .ok (.bipush 32, 2) := by decide +kernel
theorem dX10_next_6 : decode cX10_next 6 = .ok (.if_icmp .ne 16, 3) := by decide +kernel
theorem dX10_next_9 : decode cX10_next 9 = .ok (.aload_n 0, 1) := by decide +kernel
theorem dX10_next_10 : decode cX10_next 10 = .ok (.dup, 1) := by decide +kernel
theorem dX10_next_11 : decode cX10_next 11 = .ok (.getfield 73, 3) := by decide +kernel
theorem dX10_next_14 : decode cX10_next 14 = .ok (.iconst 1, 1) := by decide +kernel
theorem dX10_next_15 : decode cX10_next 15 = .ok (.iadd, 1) := by decide +kernel
theorem dX10_next_16 : decode cX10_next 16 = .ok (.putfield 73, 3) := by decide +kernel
theorem dX10_next_19 : decode cX10_next 19 = .ok (.goto (-19), 3) := by decide +kernel
theorem dX10_next_22 : decode cX10_next 22 = .ok (.aload_n 0, 1) := by decide +kernel
theorem dX10_next_23 : decode cX10_next 23 = .ok (.aload_n 0, 1) := by decide +kernel
theorem dX10_next_24 : decode cX10_next 24 = .ok (.getfield 73, 3) := by decide +kernel
theorem dX10_next_27 : decode cX10_next 27 = .ok (.putfield 80, 3) := by decide +kernel
theorem dX10_next_30 : decode cX10_next 30 = .ok (.aload_n 0, 1) := by decide +kernel
theorem dX10_next_31 : decode cX10_next 31 = .ok (.iconst 0, 1) := by decide +kernel
theorem dX10_next_32 : decode cX10_next 32 = .ok (.putfield 83, 3) := by decide +kernel
theorem dX10_next_35 : decode cX10_next 35 = .ok (.aload_n 0, 1) := by decide +kernel
theorem dX10_next_36 : decode cX10_next 36 = .ok (.invokevirtual 76, 3) := by decide +kernel
theorem dX10_next_39 : decode cX10_next 39 = .ok (.istore_n 1, 1) := by decide +kernel
theorem dX10_next_40 : decode cX10_next 40 = .ok (.iload_n 1, 1) := by decide +kernel
theorem dX10_next_41 : decode cX10_next 41 = .ok (.ifCond .ge 11, 3) := by decide +kernel
theorem dX10_next_44 : decode cX10_next 44 = .ok (.aload_n 0, 1) := by decide +kernel
theorem dX10_next_45 : decode cX10_next 45 = .ok (.iconst 3, 1) := by decide +kernel
theorem dX10_next_46 : decode cX10_next 46 = .ok (.putfield 86, 3) := by decide +kernel
theorem dX10_next_49 : decode cX10_next 49 = .ok (.goto 271, 3) := by decide +kernel
theorem dX10_next_52 : decode cX10_next 52 = .ok (.iload_n 1, 1) := by decide +kernel
theorem dX10_next_53 : decode cX10_next 53 = .ok (.bipush 97, 2) := by decide +kernel
theorem dX10_next_55 : decode cX10_next 55 = .ok (.bipush 122, 2) := by decide +kernel
theorem dX10_next_57 : decode cX10_next 57 = .ok (.invokestatic 63, 3) := by decide +kernel
theorem dX10_next_60 : decode cX10_next 60 = .ok (.ifCond .eq 120, 3) := by decide +kernel
theorem dX10_next_63 : decode cX10_next 63 = .ok (.iconst 0, 1) := by decide +kernel
theorem dX10_next_64 : decode cX10_next 64 = .ok (.istore_n 2, 1) := by decide +kernel
theorem dX10_next_65 : decode cX10_next 65 = .ok (.aload_n 0, 1) := by decide +kernel
theorem dX10_next_66 : decode cX10_next 66 = .ok (.invokevirtual 76, 3) := by decide +kernel
theorem dX10_next_69 : decode cX10_next 69 = .ok (.bipush 97, 2) := by decide +kernel
theorem dX10_next_71 : decode cX10_next 71 = .ok (.bipush 122, 2) := by decide +kernel
theorem dX10_next_73 : decode cX10_next 73 = .ok (.invokestatic 63, 3) := by decide +kernel
theorem dX10_next_76 : decode cX10_next 76 = .ok (.ifCond .eq 46, 3) := by decide +kernel
theorem dX10_next_79 : decode cX10_next 79 = .ok (.aload_n 0, 1) := by decide +kernel
theorem dX10_next_80 : decode cX10_next 80 = .ok (.getfield 73, 3) := by decide +kernel
theorem dX10_next_83 : decode cX10_next 83 = .ok (.aload_n 0, 1) := by decide +kernel
theorem dX10_next_84 : decode cX10_next 84 = .ok (.getfield 80, 3) := by decide +kernel
theorem dX10_next_87 : decode cX10_next 87 = .ok (.isub, 1) := by decide +kernel
theorem dX10_next_88 : decode cX10_next 88 = .ok (.iconst 5, 1) := by decide +kernel
theorem dX10_next_89 : decode cX10_next 89 = .ok (.if_icmp .ge 18, 3) := by decide +kernel
theorem dX10_next_92 : decode cX10_next 92 = .ok (.bipush 27, 2) := by decide +kernel
theorem dX10_next_94 : decode cX10_next 94 = .ok (.iload_n 2, 1) := by decide +kernel
theorem dX10_next_95 : decode cX10_next 95 = .ok (.imul, 1) := by decide +kernel
theorem dX10_next_96 : decode cX10_next 96 = .ok (.aload_n 0, 1) := by decide +kernel
theorem dX10_next_97 : decode cX10_next 97 = .ok (.invokevirtual 76, 3) := by decide +kernel
theorem dX10_next_100 : decode cX10_next 100 = .ok (.iadd, 1) := by decide +kernel
theorem dX10_next_101 : decode cX10_next 101 = .ok (.bipush 96, 2) := by decide +kernel
theorem dX10_next_103 : decode cX10_next 103 = .ok (.isub, 1) := by decide +kernel
theorem dX10_next_104 : decode cX10_next 104 = .ok (.goto 4, 3) := by decide +kernel
theorem dX10_next_107 : decode cX10_next 107 = .ok (.iconst 0, 1) := by decide +kernel
theorem dX10_next_108 : decode cX10_next 108 = .ok (.istore_n 2, 1) := by decide +kernel
theorem dX10_next_109 : decode cX10_next 109 = .ok (.aload_n 0, 1) := by decide +kernel
theorem dX10_next_110 : decode cX10_next 110 = .ok (.dup, 1) := by decide +kernel
theorem dX10_next_111 : decode cX10_next 111 = .ok (.getfield 73, 3) := by decide +kernel
theorem dX10_next_114 : decode cX10_next 114 = .ok (.iconst 1, 1) := by decide +kernel
theorem dX10_next_115 : decode cX10_next 115 = .ok (.iadd, 1) := by decide +kernel
theorem dX10_next_116 : decode cX10_next 116 = .ok (.putfield 73, 3) := by decide +kernel
theorem dX10_next_119 : decode cX10_next 119 = .ok (.goto (-54), 3) := by decide +kernel
theorem dX10_next_122 : decode cX10_next 122 = .ok (.aload_n 0, 1) := by decide +kernel
theorem dX10_next_123 : decode cX10_next 123 = .ok (.getfield 73, 3) := by decide +kernel
theorem dX10_next_126 : decode cX10_next 126 = .ok (.aload_n 0, 1) := by decide +kernel
theorem dX10_next_127 : decode cX10_next 127 = .ok (.getfield 80, 3) := by decide +kernel
theorem dX10_next_130 : decode cX10_next 130 = .ok (.isub, 1) := by decide +kernel
theorem dX10_next_131 : decode cX10_next 131 = .ok (.iconst 5, 1) := by decide +kernel
theorem dX10_next_132 : decode cX10_next 132 = .ok (.if_icmp .le 7, 3) := by decide +kernel
theorem dX10_next_135 : decode cX10_next 135 = .ok (.iconst 0, 1) := by decide +kernel
theorem dX10_next_136 : decode cX10_next 136 = .ok (.goto 4, 3) := by decide +kernel
theorem dX10_next_139 : decode cX10_next 139 = .ok (.iload_n 2, 1) := by decide +kernel
theorem dX10_next_140 : decode cX10_next 140 = .ok (.istore_n 2, 1) := by decide +kernel
theorem dX10_next_141 : decode cX10_next 141 = .ok (.aload_n 0, 1) := by decide +kernel
theorem dX10_next_142 : decode cX10_next 142 = .ok (.iload_n 2, 1) := by decide +kernel
theorem dX10_next_143 : decode cX10_next 143 = .ok (.ldc 89, 2) := by decide +kernel
theorem dX10_next_145 : decode cX10_next 145 = .ok (.if_icmp .ne 7, 3) := by decide +kernel
theorem dX10_next_148 : decode cX10_next 148 = .ok (.iconst 0, 1) := by decide +kernel
theorem dX10_next_149 : decode cX10_next 149 = .ok (.goto 25, 3) := by decide +kernel
theorem dX10_next_152 : decode cX10_next 152 = .ok (.iload_n 2, 1) := by decide +kernel
theorem dX10_next_153 : decode cX10_next 153 = .ok (.ldc 90, 2) := by decide +kernel
theorem dX10_next_155 : decode cX10_next 155 = .ok (.if_icmp .ne 7, 3) := by decide +kernel
theorem dX10_next_158 : decode cX10_next 158 = .ok (.iconst 1, 1) := by decide +kernel
theorem dX10_next_159 : decode cX10_next 159 = .ok (.goto 15, 3) := by decide +kernel
theorem dX10_next_162 : decode cX10_next 162 = .ok (.iload_n 2, 1) := by decide +kernel
theorem dX10_next_163 : decode cX10_next 163 = .ok (.ldc 91, 2) := by decide +kernel
theorem dX10_next_165 : decode cX10_next 165 = .ok (.if_icmp .ne 7, 3) := by decide +kernel
theorem dX10_next_168 : decode cX10_next 168 = .ok (.iconst 2, 1) := by decide +kernel
theorem dX10_next_169 : decode cX10_next 169 = .ok (.goto 5, 3) := by decide +kernel
theorem dX10_next_172 : decode cX10_next 172 = .ok (.bipush 6, 2) := by decide +kernel
theorem dX10_next_174 : decode cX10_next 174 = .ok (.putfield 86, 3) := by decide +kernel
theorem dX10_next_177 : decode cX10_next 177 = .ok (.goto 143, 3) := by decide +kernel
theorem dX10_next_180 : decode cX10_next 180 = .ok (.iload_n 1, 1) := by decide +kernel
theorem dX10_next_181 : decode cX10_next 181 = .ok (.bipush 48, 2) := by decide +kernel
theorem dX10_next_183 : decode cX10_next 183 = .ok (.bipush 57, 2) := by decide +kernel
theorem dX10_next_185 : decode cX10_next 185 = .ok (.invokestatic 63, 3) := by decide +kernel
theorem dX10_next_188 : decode cX10_next 188 = .ok (.ifCond .eq 106, 3) := by decide +kernel
theorem dX10_next_191 : decode cX10_next 191 = .ok (.aload_n 0, 1) := by decide +kernel
theorem dX10_next_192 : decode cX10_next 192 = .ok (.invokevirtual 76, 3) := by decide +kernel
theorem dX10_next_195 : decode cX10_next 195 = .ok (.bipush 48, 2) := by decide +kernel
theorem dX10_next_197 : decode cX10_next 197 = .ok (.bipush 57, 2) := by decide +kernel
theorem dX10_next_199 : decode cX10_next 199 = .ok (.invokestatic 63, 3) := by decide +kernel
theorem dX10_next_202 : decode cX10_next 202 = .ok (.ifCond .eq 51, 3) := by decide +kernel
theorem dX10_next_205 : decode cX10_next 205 = .ok (.aload_n 0, 1) := by decide +kernel
theorem dX10_next_206 : decode cX10_next 206 = .ok (.aload_n 0, 1) := by decide +kernel
theorem dX10_next_207 : decode cX10_next 207 = .ok (.getfield 83, 3) := by decide +kernel
theorem dX10_next_210 : decode cX10_next 210 = .ok (.bipush 99, 2) := by decide +kernel
theorem dX10_next_212 : decode cX10_next 212 = .ok (.if_icmp .le 10, 3) := by decide +kernel
theorem dX10_next_215 : decode cX10_next 215 = .ok (.aload_n 0, 1) := by decide +kernel
theorem dX10_next_216 : decode cX10_next 216 = .ok (.getfield 83, 3) := by decide +kernel
theorem dX10_next_219 : decode cX10_next 219 = .ok (.goto 18, 3) := by decide +kernel
theorem dX10_next_222 : decode cX10_next 222 = .ok (.bipush 10, 2) := by decide +kernel
theorem dX10_next_224 : decode cX10_next 224 = .ok (.aload_n 0, 1) := by decide +kernel
theorem dX10_next_225 : decode cX10_next 225 = .ok (.getfield 83, 3) := by decide +kernel
theorem dX10_next_228 : decode cX10_next 228 = .ok (.imul, 1) := by decide +kernel
theorem dX10_next_229 : decode cX10_next 229 = .ok (.aload_n 0, 1) := by decide +kernel
theorem dX10_next_230 : decode cX10_next 230 = .ok (.invokevirtual 76, 3) := by decide +kernel
theorem dX10_next_233 : decode cX10_next 233 = .ok (.iadd, 1) := by decide +kernel
theorem dX10_next_234 : decode cX10_next 234 = .ok (.bipush 48, 2) := by decide +kernel
theorem dX10_next_236 : decode cX10_next 236 = .ok (.isub, 1) := by decide +kernel
theorem dX10_next_237 : decode cX10_next 237 = .ok (.putfield 83, 3) := by decide +kernel
theorem dX10_next_240 : decode cX10_next 240 = .ok (.aload_n 0, 1) := by decide +kernel
theorem dX10_next_241 : decode cX10_next 241 = .ok (.dup, 1) := by decide +kernel
theorem dX10_next_242 : decode cX10_next 242 = .ok (.getfield 73, 3) := by decide +kernel
theorem dX10_next_245 : decode cX10_next 245 = .ok (.iconst 1, 1) := by decide +kernel
theorem dX10_next_246 : decode cX10_next 246 = .ok (.iadd, 1) := by decide +kernel
theorem dX10_next_247 : decode cX10_next 247 = .ok (.putfield 73, 3) := by decide +kernel
theorem dX10_next_250 : decode cX10_next 250 = .ok (.goto (-59), 3) := by decide +kernel
theorem dX10_next_253 : decode cX10_next 253 = .ok (.aload_n 0, 1) := by decide +kernel
theorem dX10_next_254 : decode cX10_next 254 = .ok (.aload_n 0, 1) := by decide +kernel
theorem dX10_next_255 : decode cX10_next 255 = .ok (.getfield 83, 3) := by decide +kernel
theorem dX10_next_258 : decode cX10_next 258 = .ok (.bipush 99, 2) := by decide +kernel
theorem dX10_next_260 : decode cX10_next 260 = .ok (.if_icmp .gt 22, 3) := by decide +kernel
theorem dX10_next_263 : decode cX10_next 263 = .ok (.iload_n 1, 1) := by decide +kernel
theorem dX10_next_264 : decode cX10_next 264 = .ok (.bipush 48, 2) := by decide +kernel
theorem dX10_next_266 : decode cX10_next 266 = .ok (.if_icmp .ne 21, 3) := by decide +kernel
theorem dX10_next_269 : decode cX10_next 269 = .ok (.aload_n 0, 1) := by decide +kernel
theorem dX10_next_270 : decode cX10_next 270 = .ok (.getfield 73, 3) := by decide +kernel
theorem dX10_next_273 : decode cX10_next 273 = .ok (.aload_n 0, 1) := by decide +kernel
theorem dX10_next_274 : decode cX10_next 274 = .ok (.getfield 80, 3) := by decide +kernel
theorem dX10_next_277 : decode cX10_next 277 = .ok (.isub, 1) := by decide +kernel
theorem dX10_next_278 : decode cX10_next 278 = .ok (.iconst 1, 1) := by decide +kernel
theorem dX10_next_279 : decode cX10_next 279 = .ok (.if_icmp .le 8, 3) := by decide +kernel
theorem dX10_next_282 : decode cX10_next 282 = .ok (.bipush 6, 2) := by decide +kernel
theorem dX10_next_284 : decode cX10_next 284 = .ok (.goto 4, 3) := by decide +kernel
theorem dX10_next_287 : decode cX10_next 287 = .ok (.iconst 4, 1) := by decide +kernel
theorem dX10_next_288 : decode cX10_next 288 = .ok (.putfield 86, 3) := by decide +kernel
theorem dX10_next_291 : decode cX10_next 291 = .ok (.goto 29, 3) := by decide +kernel
theorem dX10_next_294 : decode cX10_next 294 = .ok (.aload_n 0, 1) := by decide +kernel
theorem dX10_next_295 : decode cX10_next 295 = .ok (.dup, 1) := by decide +kernel
theorem dX10_next_296 : decode cX10_next 296 = .ok (.getfield 73, 3) := by decide +kernel
theorem dX10_next_299 : decode cX10_next 299 = .ok (.iconst 1, 1) := by decide +kernel
theorem dX10_next_300 : decode cX10_next 300 = .ok (.iadd, 1) := by decide +kernel
theorem dX10_next_301 : decode cX10_next 301 = .ok (.putfield 73, 3) := by decide +kernel
theorem dX10_next_304 : decode cX10_next 304 = .ok (.aload_n 0, 1) := by decide +kernel
theorem dX10_next_305 : decode cX10_next 305 = .ok (.iload_n 1, 1) := by decide +kernel
theorem dX10_next_306 : decode cX10_next 306 = .ok (.bipush 59, 2) := by decide +kernel
theorem dX10_next_308 : decode cX10_next 308 = .ok (.if_icmp .ne 7, 3) := by decide +kernel
theorem dX10_next_311 : decode cX10_next 311 = .ok (.iconst 5, 1) := by decide +kernel
theorem dX10_next_312 : decode cX10_next 312 = .ok (.goto 5, 3) := by decide +kernel
theorem dX10_next_315 : decode cX10_next 315 = .ok (.bipush 6, 2) := by decide +kernel
theorem dX10_next_317 : decode cX10_next 317 = .ok (.putfield 86, 3) := by decide +kernel
theorem dX10_next_320 : decode cX10_next 320 = .ok (.return_, 1) := by decide +kernel
theorem dX10_want_0 : decode cX10_want 0 = .ok (.aload_n 0, 1) := by decide +kernel
theorem dX10_want_1 : decode cX10_want 1 = .ok (.getfield 83, 3) := by decide +kernel
theorem dX10_want_4 : decode cX10_want 4 = .ok (.istore_n 2, 1) := by decide +kernel
theorem dX10_want_5 : decode cX10_want 5 = .ok (.aload_n 0, 1) := by decide +kernel
theorem dX10_want_6 : decode cX10_want 6 = .ok (.getfield 92, 3) := by decide +kernel
theorem dX10_want_9 : decode cX10_want 9 = .ok (.bipush (-9), 2) := by decide +kernel
theorem dX10_want_11 : decode cX10_want 11 = .ok (.if_icmp .ne 22, 3) := by decide +kernel
theorem dX10_want_14 : decode cX10_want 14 = .ok (.iload_n 1, 1) := by decide +kernel
theorem dX10_want_15 : decode cX10_want 15 = .ok (.ifCond .eq 10, 3) := by decide +kernel
theorem dX10_want_18 : decode cX10_want 18 = .ok (.aload_n 0, 1) := by decide +kernel
theorem dX10_want_19 : decode cX10_want 19 = .ok (.invokevirtual 95, 3) := by decide +kernel
theorem dX10_want_22 : decode cX10_want 22 = .ok (.goto 11, 3) := by decide +kernel
theorem dX10_want_25 : decode cX10_want 25 = .ok (.aload_n 0, 1) := by decide +kernel
theorem dX10_want_26 : decode cX10_want 26 = .ok (.aload_n 0, 1) := by decide +kernel
theorem dX10_want_27 : decode cX10_want 27 = .ok (.getfield 80, 3) := by decide +kernel
theorem dX10_want_30 : decode cX10_want 30 = .ok (.putfield 92, 3) := by decide +kernel
theorem dX10_want_33 : decode cX10_want 33 = .ok (.iload_n 2, 1) := by decide +kernel
theorem dX10_want_34 : decode cX10_want 34 = .ok (.ireturn, 1) := by decide +kernel
theorem dX10_number_0 : decode cX10_number 0 = .ok (.aload_n 0, 1) := by decide +kernel
theorem dX10_number_1 : decode cX10_number 1 = .ok (.aload_n 0, 1) := by decide +kernel
theorem dX10_number_2 : decode cX10_number 2 = .ok (.getfield 86, 3) := by decide +kernel
theorem dX10_number_5 : decode cX10_number 5 = .ok (.iconst 4, 1) := by decide +kernel
theorem dX10_number_6 : decode cX10_number 6 = .ok (.if_icmp .ne 19, 3) := by decide +kernel
theorem dX10_number_9 : decode cX10_number 9 = .ok (.aload_n 0, 1) := by decide +kernel
theorem dX10_number_10 : decode cX10_number 10 = .ok (.getfield 83, 3) := by decide +kernel
theorem dX10_number_13 : decode cX10_number 13 = .ok (.iload_n 1, 1) := by decide +kernel
theorem dX10_number_14 : decode cX10_number 14 = .ok (.iload_n 2, 1) := by decide +kernel
theorem dX10_number_15 : decode cX10_number 15 = .ok (.invokestatic 63, 3) := by decide +kernel
theorem dX10_number_18 : decode cX10_number 18 = .ok (.ifCond .eq 7, 3) := by decide +kernel
theorem dX10_number_21 : decode cX10_number 21 = .ok (.iconst 1, 1) := by decide +kernel
theorem dX10_number_22 : decode cX10_number 22 = .ok (.goto 4, 3) := by decide +kernel
theorem dX10_number_25 : decode cX10_number 25 = .ok (.iconst 0, 1) := by decide +kernel
theorem dX10_number_26 : decode cX10_number 26 = .ok (.invokevirtual 98, 3) := by decide +kernel
theorem dX10_number_29 : decode cX10_number 29 = .ok (.ireturn, 1) := by decide +kernel
theorem dX10_readLeap_0 : decode cX10_readLeap 0 = .ok (.aload_n 0, 1) := by decide +kernel
theorem dX10_readLeap_1 : decode cX10_readLeap 1 = .ok (.aload_n 0, 1) := by decide +kernel
theorem dX10_readLeap_2 : decode cX10_readLeap 2 = .ok (.getfield 86, 3) := by decide +kernel
theorem dX10_readLeap_5 : decode cX10_readLeap 5 = .ok (.iconst 4, 1) := by decide +kernel
theorem dX10_readLeap_6 : decode cX10_readLeap 6 = .ok (.if_icmp .ne 36, 3) := by decide +kernel
theorem dX10_readLeap_9 : decode cX10_readLeap 9 = .ok (.aload_n 0, 1) := by decide +kernel
theorem dX10_readLeap_10 : decode cX10_readLeap 10 = .ok (.getfield 83, 3) := by decide +kernel
theorem dX10_readLeap_13 : decode cX10_readLeap 13 = .ok (.aload_n 0, 1) := by decide +kernel
theorem dX10_readLeap_14 : decode cX10_readLeap 14 = .ok (.getfield 13, 3) := by decide +kernel
theorem dX10_readLeap_17 : decode cX10_readLeap 17 = .ok (.iconst 1, 1) := by decide +kernel
theorem dX10_readLeap_18 : decode cX10_readLeap 18 = .ok (.iaload, 1) := by decide +kernel
theorem dX10_readLeap_19 : decode cX10_readLeap 19 = .ok (.if_icmp .ge 23, 3) := by decide +kernel
theorem dX10_readLeap_22 : decode cX10_readLeap 22 = .ok (.aload_n 0, 1) := by decide +kernel
theorem dX10_readLeap_23 : decode cX10_readLeap 23 = .ok (.getfield 29, 3) := by decide +kernel
theorem dX10_readLeap_26 : decode cX10_readLeap 26 = .ok (.bipush 6, 2) := by decide +kernel
theorem dX10_readLeap_28 : decode cX10_readLeap 28 = .ok (.aload_n 0, 1) := by decide +kernel
theorem dX10_readLeap_29 : decode cX10_readLeap 29 = .ok (.getfield 83, 3) := by decide +kernel
theorem dX10_readLeap_32 : decode cX10_readLeap 32 = .ok (.iadd, 1) := by decide +kernel
theorem dX10_readLeap_33 : decode cX10_readLeap 33 = .ok (.iaload, 1) := by decide +kernel
theorem dX10_readLeap_34 : decode cX10_readLeap 34 = .ok (.iconst 2, 1) := by decide +kernel
theorem dX10_readLeap_35 : decode cX10_readLeap 35 = .ok (.if_icmp .ge 7, 3) := by decide +kernel
theorem dX10_readLeap_38 : decode cX10_readLeap 38 = .ok (.iconst 1, 1) := by decide +kernel
theorem dX10_readLeap_39 : decode cX10_readLeap 39 = .ok (.goto 4, 3) := by decide +kernel
theorem dX10_readLeap_42 : decode cX10_readLeap 42 = .ok (.iconst 0, 1) := by decide +kernel
theorem dX10_readLeap_43 : decode cX10_readLeap 43 = .ok (.invokevirtual 98, 3) := by decide +kernel
theorem dX10_readLeap_46 : decode cX10_readLeap 46 = .ok (.istore_n 1, 1) := by decide +kernel
theorem dX10_readLeap_47 : decode cX10_readLeap 47 = .ok (.aload_n 0, 1) := by decide +kernel
theorem dX10_readLeap_48 : decode cX10_readLeap 48 = .ok (.iconst 0, 1) := by decide +kernel
theorem dX10_readLeap_49 : decode cX10_readLeap 49 = .ok (.bipush 95, 2) := by decide +kernel
theorem dX10_readLeap_51 : decode cX10_readLeap 51 = .ok (.invokevirtual 102, 3) := by decide +kernel
theorem dX10_readLeap_54 : decode cX10_readLeap 54 = .ok (.istore_n 2, 1) := by decide +kernel
theorem dX10_readLeap_55 : decode cX10_readLeap 55 = .ok (.aload_n 0, 1) := by decide +kernel
theorem dX10_readLeap_56 : decode cX10_readLeap 56 = .ok (.iconst 1, 1) := by decide +kernel
theorem dX10_readLeap_57 : decode cX10_readLeap 57 = .ok (.bipush 47, 2) := by decide +kernel
theorem dX10_readLeap_59 : decode cX10_readLeap 59 = .ok (.invokevirtual 102, 3) := by decide +kernel
theorem dX10_readLeap_62 : decode cX10_readLeap 62 = .ok (.istore_n 3, 1) := by decide +kernel
theorem dX10_readLeap_63 : decode cX10_readLeap 63 = .ok (.aload_n 0, 1) := by decide +kernel
theorem dX10_readLeap_64 : decode cX10_readLeap 64 = .ok (.getfield 92, 3) := by decide +kernel
theorem dX10_readLeap_67 : decode cX10_readLeap 67 = .ok (.bipush (-9), 2) := by decide +kernel
theorem dX10_readLeap_69 : decode cX10_readLeap 69 = .ok (.if_icmp .ne 50, 3) := by decide +kernel
theorem dX10_readLeap_72 : decode cX10_readLeap 72 = .ok (.iconst 2, 1) := by decide +kernel
theorem dX10_readLeap_73 : decode cX10_readLeap 73 = .ok (.bipush 6, 2) := by decide +kernel
theorem dX10_readLeap_75 : decode cX10_readLeap 75 = .ok (.iload_n 1, 1) := by decide +kernel
theorem dX10_readLeap_76 : decode cX10_readLeap 76 = .ok (.iadd, 1) := by decide +kernel
theorem dX10_readLeap_77 : decode cX10_readLeap 77 = .ok (.imul, 1) := by decide +kernel
theorem dX10_readLeap_78 : decode cX10_readLeap 78 = .ok (.aload_n 0, 1) := by decide +kernel
theorem dX10_readLeap_79 : decode cX10_readLeap 79 = .ok (.getfield 29, 3) := by decide +kernel
theorem dX10_readLeap_82 : decode cX10_readLeap 82 = .ok (.bipush 6, 2) := by decide +kernel
theorem dX10_readLeap_84 : decode cX10_readLeap 84 = .ok (.iload_n 1, 1) := by decide +kernel
theorem dX10_readLeap_85 : decode cX10_readLeap 85 = .ok (.iadd, 1) := by decide +kernel
theorem dX10_readLeap_86 : decode cX10_readLeap 86 = .ok (.iaload, 1) := by decide +kernel
theorem dX10_readLeap_87 : decode cX10_readLeap 87 = .ok (.iadd, 1) := by decide +kernel
theorem dX10_readLeap_88 : decode cX10_readLeap 88 = .ok (.istore 4, 2) := by decide +kernel
theorem dX10_readLeap_90 : decode cX10_readLeap 90 = .ok (.aload_n 0, 1) := by decide +kernel
theorem dX10_readLeap_91 : decode cX10_readLeap 91 = .ok (.getfield 32, 3) := by decide +kernel
theorem dX10_readLeap_94 : decode cX10_readLeap 94 = .ok (.iload 4, 2) := by decide +kernel
theorem dX10_readLeap_96 : decode cX10_readLeap 96 = .ok (.iload_n 2, 1) := by decide +kernel
theorem dX10_readLeap_97 : decode cX10_readLeap 97 = .ok (.iastore, 1) := by decide +kernel
theorem dX10_readLeap_98 : decode cX10_readLeap 98 = .ok (.aload_n 0, 1) := by decide +kernel
theorem dX10_readLeap_99 : decode cX10_readLeap 99 = .ok (.getfield 35, 3) := by decide +kernel
theorem dX10_readLeap_102 : decode cX10_readLeap 102 = .ok (.iload 4, 2) := by decide +kernel
theorem dX10_readLeap_104 : decode cX10_readLeap 104 = .ok (.iload_n 3, 1) := by decide +kernel
theorem dX10_readLeap_105 : decode cX10_readLeap 105 = .ok (.iastore, 1) := by decide +kernel
theorem dX10_readLeap_106 : decode cX10_readLeap 106 = .ok (.aload_n 0, 1) := by decide +kernel
theorem dX10_readLeap_107 : decode cX10_readLeap 107 = .ok (.getfield 29, 3) := by decide +kernel
theorem dX10_readLeap_110 : decode cX10_readLeap 110 = .ok (.bipush 6, 2) := by decide +kernel
theorem dX10_readLeap_112 : decode cX10_readLeap 112 = .ok (.iload_n 1, 1) := by decide +kernel
theorem dX10_readLeap_113 : decode cX10_readLeap 113 = .ok (.iadd, 1) := by decide +kernel
theorem dX10_readLeap_114 : decode cX10_readLeap 114 = .ok (.dup2, 1) := by decide +kernel
theorem dX10_readLeap_115 : decode cX10_readLeap 115 = .ok (.iaload, 1) := by decide +kernel
theorem dX10_readLeap_116 : decode cX10_readLeap 116 = .ok (.iconst 1, 1) := by decide +kernel
theorem dX10_readLeap_117 : decode cX10_readLeap 117 = .ok (.iadd, 1) := by decide +kernel
theorem dX10_readLeap_118 : decode cX10_readLeap 118 = .ok (.iastore, 1) := by decide +kernel
theorem dX10_readLeap_119 : decode cX10_readLeap 119 = .ok (.return_, 1) := by decide +kernel
theorem dX10_readItem_0 : decode cX10_readItem 0 = .ok (.aload_n 0, 1) := by decide +kernel
theorem dX10_readItem_1 : decode cX10_readItem 1 = .ok (.getfield 86, 3) := by decide +kernel
theorem dX10_readItem_4 : decode cX10_readItem 4 = .ok (.istore_n 1, 1) := by decide +kernel
theorem dX10_readItem_5 : decode cX10_readItem 5 = .ok (.aload_n 0, 1) := by decide +kernel
theorem dX10_readItem_6 : decode cX10_readItem 6 = .ok (.iload_n 1, 1) := by decide +kernel
theorem dX10_readItem_7 : decode cX10_readItem 7 = .ok (.ifCond .ne 14, 3) := by decide +kernel
theorem dX10_readItem_10 : decode cX10_readItem 10 = .ok (.aload_n 0, 1) := by decide +kernel
theorem dX10_readItem_11 : decode cX10_readItem 11 = .ok (.getfield 13, 3) := by decide +kernel
theorem dX10_readItem_14 : decode cX10_readItem 14 = .ok (.iconst 1, 1) := by decide +kernel
theorem dX10_readItem_15 : decode cX10_readItem 15 = .ok (.iaload, 1) := by decide +kernel
theorem dX10_readItem_16 : decode cX10_readItem 16 = .ok (.bipush 6, 2) := by decide +kernel
theorem dX10_readItem_18 : decode cX10_readItem 18 = .ok (.if_icmp .lt 20, 3) := by decide +kernel
theorem dX10_readItem_21 : decode cX10_readItem 21 = .ok (.iload_n 1, 1) := by decide +kernel
theorem dX10_readItem_22 : decode cX10_readItem 22 = .ok (.iconst 1, 1) := by decide +kernel
theorem dX10_readItem_23 : decode cX10_readItem 23 = .ok (.if_icmp .eq 15, 3) := by decide +kernel
theorem dX10_readItem_26 : decode cX10_readItem 26 = .ok (.iload_n 1, 1) := by decide +kernel
theorem dX10_readItem_27 : decode cX10_readItem 27 = .ok (.iconst 2, 1) := by decide +kernel
theorem dX10_readItem_28 : decode cX10_readItem 28 = .ok (.if_icmp .ne 14, 3) := by decide +kernel
theorem dX10_readItem_31 : decode cX10_readItem 31 = .ok (.aload_n 0, 1) := by decide +kernel
theorem dX10_readItem_32 : decode cX10_readItem 32 = .ok (.getfield 106, 3) := by decide +kernel
theorem dX10_readItem_35 : decode cX10_readItem 35 = .ok (.ifCond .ne 7, 3) := by decide +kernel
theorem dX10_readItem_38 : decode cX10_readItem 38 = .ok (.iconst 1, 1) := by decide +kernel
theorem dX10_readItem_39 : decode cX10_readItem 39 = .ok (.goto 4, 3) := by decide +kernel
theorem dX10_readItem_42 : decode cX10_readItem 42 = .ok (.iconst 0, 1) := by decide +kernel
theorem dX10_readItem_43 : decode cX10_readItem 43 = .ok (.invokevirtual 98, 3) := by decide +kernel
theorem dX10_readItem_46 : decode cX10_readItem 46 = .ok (.pop, 1) := by decide +kernel
theorem dX10_readItem_47 : decode cX10_readItem 47 = .ok (.aload_n 0, 1) := by decide +kernel
theorem dX10_readItem_48 : decode cX10_readItem 48 = .ok (.getfield 92, 3) := by decide +kernel
theorem dX10_readItem_51 : decode cX10_readItem 51 = .ok (.bipush (-9), 2) := by decide +kernel
theorem dX10_readItem_53 : decode cX10_readItem 53 = .ok (.if_icmp .eq 4, 3) := by decide +kernel
theorem dX10_readItem_56 : decode cX10_readItem 56 = .ok (.return_, 1) := by decide +kernel
theorem dX10_readItem_57 : decode cX10_readItem 57 = .ok (.iload_n 1, 1) := by decide +kernel
theorem dX10_readItem_58 : decode cX10_readItem 58 = .ok (.ifCond .ne 72, 3) := by decide +kernel
theorem dX10_readItem_61 : decode cX10_readItem 61 = .ok (.bipush 6, 2) := by decide +kernel
theorem dX10_readItem_63 : decode cX10_readItem 63 = .ok (.aload_n 0, 1) := by decide +kernel
theorem dX10_readItem_64 : decode cX10_readItem 64 = .ok (.getfield 13, 3) := by decide +kernel
theorem dX10_readItem_67 : decode cX10_readItem 67 = .ok (.iconst 1, 1) := by decide +kernel
theorem dX10_readItem_68 : decode cX10_readItem 68 = .ok (.iaload, 1) := by decide +kernel
theorem dX10_readItem_69 : decode cX10_readItem 69 = .ok (.iadd, 1) := by decide +kernel
theorem dX10_readItem_70 : decode cX10_readItem 70 = .ok (.istore_n 2, 1) := by decide +kernel
theorem dX10_readItem_71 : decode cX10_readItem 71 = .ok (.aload_n 0, 1) := by decide +kernel
theorem dX10_readItem_72 : decode cX10_readItem 72 = .ok (.getfield 20, 3) := by decide +kernel
theorem dX10_readItem_75 : decode cX10_readItem 75 = .ok (.iload_n 2, 1) := by decide +kernel
theorem dX10_readItem_76 : decode cX10_readItem 76 = .ok (.aload_n 0, 1) := by decide +kernel
theorem dX10_readItem_77 : decode cX10_readItem 77 = .ok (.iconst 0, 1) := by decide +kernel
theorem dX10_readItem_78 : decode cX10_readItem 78 = .ok (.bipush 47, 2) := by decide +kernel
theorem dX10_readItem_80 : decode cX10_readItem 80 = .ok (.invokevirtual 102, 3) := by decide +kernel
theorem dX10_readItem_83 : decode cX10_readItem 83 = .ok (.iastore, 1) := by decide +kernel
theorem dX10_readItem_84 : decode cX10_readItem 84 = .ok (.aload_n 0, 1) := by decide +kernel
theorem dX10_readItem_85 : decode cX10_readItem 85 = .ok (.getfield 23, 3) := by decide +kernel
theorem dX10_readItem_88 : decode cX10_readItem 88 = .ok (.iload_n 2, 1) := by decide +kernel
theorem dX10_readItem_89 : decode cX10_readItem 89 = .ok (.aload_n 0, 1) := by decide +kernel
theorem dX10_readItem_90 : decode cX10_readItem 90 = .ok (.iconst 1, 1) := by decide +kernel
theorem dX10_readItem_91 : decode cX10_readItem 91 = .ok (.bipush 9, 2) := by decide +kernel
theorem dX10_readItem_93 : decode cX10_readItem 93 = .ok (.invokevirtual 102, 3) := by decide +kernel
theorem dX10_readItem_96 : decode cX10_readItem 96 = .ok (.iastore, 1) := by decide +kernel
theorem dX10_readItem_97 : decode cX10_readItem 97 = .ok (.aload_n 0, 1) := by decide +kernel
theorem dX10_readItem_98 : decode cX10_readItem 98 = .ok (.getfield 26, 3) := by decide +kernel
theorem dX10_readItem_101 : decode cX10_readItem 101 = .ok (.iload_n 2, 1) := by decide +kernel
theorem dX10_readItem_102 : decode cX10_readItem 102 = .ok (.aload_n 0, 1) := by decide +kernel
theorem dX10_readItem_103 : decode cX10_readItem 103 = .ok (.iconst 1, 1) := by decide +kernel
theorem dX10_readItem_104 : decode cX10_readItem 104 = .ok (.bipush 9, 2) := by decide +kernel
theorem dX10_readItem_106 : decode cX10_readItem 106 = .ok (.invokevirtual 102, 3) := by decide +kernel
theorem dX10_readItem_109 : decode cX10_readItem 109 = .ok (.iastore, 1) := by decide +kernel
theorem dX10_readItem_110 : decode cX10_readItem 110 = .ok (.aload_n 0, 1) := by decide +kernel
theorem dX10_readItem_111 : decode cX10_readItem 111 = .ok (.getfield 29, 3) := by decide +kernel
theorem dX10_readItem_114 : decode cX10_readItem 114 = .ok (.iload_n 2, 1) := by decide +kernel
theorem dX10_readItem_115 : decode cX10_readItem 115 = .ok (.iconst 0, 1) := by decide +kernel
theorem dX10_readItem_116 : decode cX10_readItem 116 = .ok (.iastore, 1) := by decide +kernel
theorem dX10_readItem_117 : decode cX10_readItem 117 = .ok (.aload_n 0, 1) := by decide +kernel
theorem dX10_readItem_118 : decode cX10_readItem 118 = .ok (.getfield 13, 3) := by decide +kernel
theorem dX10_readItem_121 : decode cX10_readItem 121 = .ok (.iconst 1, 1) := by decide +kernel
theorem dX10_readItem_122 : decode cX10_readItem 122 = .ok (.dup2, 1) := by decide +kernel
theorem dX10_readItem_123 : decode cX10_readItem 123 = .ok (.iaload, 1) := by decide +kernel
theorem dX10_readItem_124 : decode cX10_readItem 124 = .ok (.iconst 1, 1) := by decide +kernel
theorem dX10_readItem_125 : decode cX10_readItem 125 = .ok (.iadd, 1) := by decide +kernel
theorem dX10_readItem_126 : decode cX10_readItem 126 = .ok (.iastore, 1) := by decide +kernel
theorem dX10_readItem_127 : decode cX10_readItem 127 = .ok (.goto 33, 3) := by decide +kernel
theorem dX10_readItem_130 : decode cX10_readItem 130 = .ok (.iload_n 1, 1) := by decide +kernel
theorem dX10_readItem_131 : decode cX10_readItem 131 = .ok (.iconst 1, 1) := by decide +kernel
theorem dX10_readItem_132 : decode cX10_readItem 132 = .ok (.if_icmp .ne 10, 3) := by decide +kernel
theorem dX10_readItem_135 : decode cX10_readItem 135 = .ok (.aload_n 0, 1) := by decide +kernel
theorem dX10_readItem_136 : decode cX10_readItem 136 = .ok (.invokevirtual 110, 3) := by decide +kernel
theorem dX10_readItem_139 : decode cX10_readItem 139 = .ok (.goto 21, 3) := by decide +kernel
theorem dX10_readItem_142 : decode cX10_readItem 142 = .ok (.aload_n 0, 1) := by decide +kernel
theorem dX10_readItem_143 : decode cX10_readItem 143 = .ok (.getfield 17, 3) := by decide +kernel
theorem dX10_readItem_146 : decode cX10_readItem 146 = .ok (.iconst 1, 1) := by decide +kernel
theorem dX10_readItem_147 : decode cX10_readItem 147 = .ok (.aload_n 0, 1) := by decide +kernel
theorem dX10_readItem_148 : decode cX10_readItem 148 = .ok (.iconst 0, 1) := by decide +kernel
theorem dX10_readItem_149 : decode cX10_readItem 149 = .ok (.bipush 9, 2) := by decide +kernel
theorem dX10_readItem_151 : decode cX10_readItem 151 = .ok (.invokevirtual 102, 3) := by decide +kernel
theorem dX10_readItem_154 : decode cX10_readItem 154 = .ok (.iastore, 1) := by decide +kernel
theorem dX10_readItem_155 : decode cX10_readItem 155 = .ok (.aload_n 0, 1) := by decide +kernel
theorem dX10_readItem_156 : decode cX10_readItem 156 = .ok (.iconst 1, 1) := by decide +kernel
theorem dX10_readItem_157 : decode cX10_readItem 157 = .ok (.putfield 106, 3) := by decide +kernel
theorem dX10_readItem_160 : decode cX10_readItem 160 = .ok (.aload_n 0, 1) := by decide +kernel
theorem dX10_readItem_161 : decode cX10_readItem 161 = .ok (.aload_n 0, 1) := by decide +kernel
theorem dX10_readItem_162 : decode cX10_readItem 162 = .ok (.getfield 86, 3) := by decide +kernel
theorem dX10_readItem_165 : decode cX10_readItem 165 = .ok (.iconst 5, 1) := by decide +kernel
theorem dX10_readItem_166 : decode cX10_readItem 166 = .ok (.if_icmp .ne 7, 3) := by decide +kernel
theorem dX10_readItem_169 : decode cX10_readItem 169 = .ok (.iconst 1, 1) := by decide +kernel
theorem dX10_readItem_170 : decode cX10_readItem 170 = .ok (.goto 4, 3) := by decide +kernel
theorem dX10_readItem_173 : decode cX10_readItem 173 = .ok (.iconst 0, 1) := by decide +kernel
theorem dX10_readItem_174 : decode cX10_readItem 174 = .ok (.invokevirtual 98, 3) := by decide +kernel
theorem dX10_readItem_177 : decode cX10_readItem 177 = .ok (.pop, 1) := by decide +kernel
theorem dX10_readItem_178 : decode cX10_readItem 178 = .ok (.return_, 1) := by decide +kernel
theorem dX10_town_0 : decode cX10_town 0 = .ok (.aload_n 0, 1) := by decide +kernel
theorem dX10_town_1 : decode cX10_town 1 = .ok (.iconst 0, 1) := by decide +kernel
theorem dX10_town_2 : decode cX10_town 2 = .ok (.putfield 73, 3) := by decide +kernel
theorem dX10_town_5 : decode cX10_town 5 = .ok (.aload_n 0, 1) := by decide +kernel
theorem dX10_town_6 : decode cX10_town 6 = .ok (.bipush (-9), 2) := by decide +kernel
theorem dX10_town_8 : decode cX10_town 8 = .ok (.putfield 92, 3) := by decide +kernel
theorem dX10_town_11 : decode cX10_town 11 = .ok (.aload_n 0, 1) := by decide +kernel
theorem dX10_town_12 : decode cX10_town 12 = .ok (.iconst 0, 1) := by decide +kernel
theorem dX10_town_13 : decode cX10_town 13 = .ok (.putfield 106, 3) := by decide +kernel
theorem dX10_town_16 : decode cX10_town 16 = .ok (.aload_n 0, 1) := by decide +kernel
theorem dX10_town_17 : decode cX10_town 17 = .ok (.getfield 13, 3) := by decide +kernel
theorem dX10_town_20 : decode cX10_town 20 = .ok (.iconst 1, 1) := by decide +kernel
theorem dX10_town_21 : decode cX10_town 21 = .ok (.iconst 0, 1) := by decide +kernel
theorem dX10_town_22 : decode cX10_town 22 = .ok (.iastore, 1) := by decide +kernel
theorem dX10_town_23 : decode cX10_town 23 = .ok (.aload_n 0, 1) := by decide +kernel
theorem dX10_town_24 : decode cX10_town 24 = .ok (.getfield 17, 3) := by decide +kernel
theorem dX10_town_27 : decode cX10_town 27 = .ok (.iconst 1, 1) := by decide +kernel
theorem dX10_town_28 : decode cX10_town 28 = .ok (.iconst 1, 1) := by decide +kernel
theorem dX10_town_29 : decode cX10_town 29 = .ok (.iastore, 1) := by decide +kernel
theorem dX10_town_30 : decode cX10_town 30 = .ok (.iconst 0, 1) := by decide +kernel
theorem dX10_town_31 : decode cX10_town 31 = .ok (.istore_n 1, 1) := by decide +kernel
theorem dX10_town_32 : decode cX10_town 32 = .ok (.aload_n 0, 1) := by decide +kernel
theorem dX10_town_33 : decode cX10_town 33 = .ok (.invokevirtual 95, 3) := by decide +kernel
theorem dX10_town_36 : decode cX10_town 36 = .ok (.aload_n 0, 1) := by decide +kernel
theorem dX10_town_37 : decode cX10_town 37 = .ok (.getfield 92, 3) := by decide +kernel
theorem dX10_town_40 : decode cX10_town 40 = .ok (.bipush (-9), 2) := by decide +kernel
theorem dX10_town_42 : decode cX10_town 42 = .ok (.if_icmp .ne 21, 3) := by decide +kernel
theorem dX10_town_45 : decode cX10_town 45 = .ok (.aload_n 0, 1) := by decide +kernel
theorem dX10_town_46 : decode cX10_town 46 = .ok (.getfield 86, 3) := by decide +kernel
theorem dX10_town_49 : decode cX10_town 49 = .ok (.iconst 3, 1) := by decide +kernel
theorem dX10_town_50 : decode cX10_town 50 = .ok (.if_icmp .eq 13, 3) := by decide +kernel
theorem dX10_town_53 : decode cX10_town 53 = .ok (.aload_n 0, 1) := by decide +kernel
theorem dX10_town_54 : decode cX10_town 54 = .ok (.invokevirtual 113, 3) := by decide +kernel
theorem dX10_town_57 : decode cX10_town 57 = .ok (.iinc 1 1, 3) := by decide +kernel
theorem dX10_town_60 : decode cX10_town 60 = .ok (.goto (-24), 3) := by decide +kernel
theorem dX10_town_63 : decode cX10_town 63 = .ok (.aload_n 0, 1) := by decide +kernel
theorem dX10_town_64 : decode cX10_town 64 = .ok (.getfield 92, 3) := by decide +kernel
theorem dX10_town_67 : decode cX10_town 67 = .ok (.bipush (-9), 2) := by decide +kernel
theorem dX10_town_69 : decode cX10_town 69 = .ok (.if_icmp .eq 11, 3) := by decide +kernel
theorem dX10_town_72 : decode cX10_town 72 = .ok (.bipush (-10), 2) := by decide +kernel
theorem dX10_town_74 : decode cX10_town 74 = .ok (.aload_n 0, 1) := by decide +kernel
theorem dX10_town_75 : decode cX10_town 75 = .ok (.getfield 92, 3) := by decide +kernel
theorem dX10_town_78 : decode cX10_town 78 = .ok (.isub, 1) := by decide +kernel
theorem dX10_town_79 : decode cX10_town 79 = .ok (.ireturn, 1) := by decide +kernel
theorem dX10_town_80 : decode cX10_town 80 = .ok (.aload_n 0, 1) := by decide +kernel
theorem dX10_town_81 : decode cX10_town 81 = .ok (.getfield 13, 3) := by decide +kernel
theorem dX10_town_84 : decode cX10_town 84 = .ok (.iconst 0, 1) := by decide +kernel
theorem dX10_town_85 : decode cX10_town 85 = .ok (.aload_n 0, 1) := by decide +kernel
theorem dX10_town_86 : decode cX10_town 86 = .ok (.getfield 13, 3) := by decide +kernel
theorem dX10_town_89 : decode cX10_town 89 = .ok (.iconst 1, 1) := by decide +kernel
theorem dX10_town_90 : decode cX10_town 90 = .ok (.iaload, 1) := by decide +kernel
theorem dX10_town_91 : decode cX10_town 91 = .ok (.iastore, 1) := by decide +kernel
theorem dX10_town_92 : decode cX10_town 92 = .ok (.aload_n 0, 1) := by decide +kernel
theorem dX10_town_93 : decode cX10_town 93 = .ok (.getfield 17, 3) := by decide +kernel
theorem dX10_town_96 : decode cX10_town 96 = .ok (.iconst 0, 1) := by decide +kernel
theorem dX10_town_97 : decode cX10_town 97 = .ok (.aload_n 0, 1) := by decide +kernel
theorem dX10_town_98 : decode cX10_town 98 = .ok (.getfield 17, 3) := by decide +kernel
theorem dX10_town_101 : decode cX10_town 101 = .ok (.iconst 1, 1) := by decide +kernel
theorem dX10_town_102 : decode cX10_town 102 = .ok (.iaload, 1) := by decide +kernel
theorem dX10_town_103 : decode cX10_town 103 = .ok (.iastore, 1) := by decide +kernel
theorem dX10_town_104 : decode cX10_town 104 = .ok (.iconst 0, 1) := by decide +kernel
theorem dX10_town_105 : decode cX10_town 105 = .ok (.istore_n 2, 1) := by decide +kernel
theorem dX10_town_106 : decode cX10_town 106 = .ok (.iload_n 2, 1) := by decide +kernel
theorem dX10_town_107 : decode cX10_town 107 = .ok (.bipush 6, 2) := by decide +kernel
theorem dX10_town_109 : decode cX10_town 109 = .ok (.if_icmp .ge 69, 3) := by decide +kernel
theorem dX10_town_112 : decode cX10_town 112 = .ok (.aload_n 0, 1) := by decide +kernel
theorem dX10_town_113 : decode cX10_town 113 = .ok (.getfield 20, 3) := by decide +kernel
theorem dX10_town_116 : decode cX10_town 116 = .ok (.iload_n 2, 1) := by decide +kernel
theorem dX10_town_117 : decode cX10_town 117 = .ok (.aload_n 0, 1) := by decide +kernel
theorem dX10_town_118 : decode cX10_town 118 = .ok (.getfield 20, 3) := by decide +kernel
theorem dX10_town_121 : decode cX10_town 121 = .ok (.bipush 6, 2) := by decide +kernel
theorem dX10_town_123 : decode cX10_town 123 = .ok (.iload_n 2, 1) := by decide +kernel
theorem dX10_town_124 : decode cX10_town 124 = .ok (.iadd, 1) := by decide +kernel
theorem dX10_town_125 : decode cX10_town 125 = .ok (.iaload, 1) := by decide +kernel
theorem dX10_town_126 : decode cX10_town 126 = .ok (.iastore, 1) := by decide +kernel
theorem dX10_town_127 : decode cX10_town 127 = .ok (.aload_n 0, 1) := by decide +kernel
theorem dX10_town_128 : decode cX10_town 128 = .ok (.getfield 23, 3) := by decide +kernel
theorem dX10_town_131 : decode cX10_town 131 = .ok (.iload_n 2, 1) := by decide +kernel
theorem dX10_town_132 : decode cX10_town 132 = .ok (.aload_n 0, 1) := by decide +kernel
theorem dX10_town_133 : decode cX10_town 133 = .ok (.getfield 23, 3) := by decide +kernel
theorem dX10_town_136 : decode cX10_town 136 = .ok (.bipush 6, 2) := by decide +kernel
theorem dX10_town_138 : decode cX10_town 138 = .ok (.iload_n 2, 1) := by decide +kernel
theorem dX10_town_139 : decode cX10_town 139 = .ok (.iadd, 1) := by decide +kernel
theorem dX10_town_140 : decode cX10_town 140 = .ok (.iaload, 1) := by decide +kernel
theorem dX10_town_141 : decode cX10_town 141 = .ok (.iastore, 1) := by decide +kernel
theorem dX10_town_142 : decode cX10_town 142 = .ok (.aload_n 0, 1) := by decide +kernel
theorem dX10_town_143 : decode cX10_town 143 = .ok (.getfield 26, 3) := by decide +kernel
theorem dX10_town_146 : decode cX10_town 146 = .ok (.iload_n 2, 1) := by decide +kernel
theorem dX10_town_147 : decode cX10_town 147 = .ok (.aload_n 0, 1) := by decide +kernel
theorem dX10_town_148 : decode cX10_town 148 = .ok (.getfield 26, 3) := by decide +kernel
theorem dX10_town_151 : decode cX10_town 151 = .ok (.bipush 6, 2) := by decide +kernel
theorem dX10_town_153 : decode cX10_town 153 = .ok (.iload_n 2, 1) := by decide +kernel
theorem dX10_town_154 : decode cX10_town 154 = .ok (.iadd, 1) := by decide +kernel
theorem dX10_town_155 : decode cX10_town 155 = .ok (.iaload, 1) := by decide +kernel
theorem dX10_town_156 : decode cX10_town 156 = .ok (.iastore, 1) := by decide +kernel
theorem dX10_town_157 : decode cX10_town 157 = .ok (.aload_n 0, 1) := by decide +kernel
theorem dX10_town_158 : decode cX10_town 158 = .ok (.getfield 29, 3) := by decide +kernel
theorem dX10_town_161 : decode cX10_town 161 = .ok (.iload_n 2, 1) := by decide +kernel
theorem dX10_town_162 : decode cX10_town 162 = .ok (.aload_n 0, 1) := by decide +kernel
theorem dX10_town_163 : decode cX10_town 163 = .ok (.getfield 29, 3) := by decide +kernel
theorem dX10_town_166 : decode cX10_town 166 = .ok (.bipush 6, 2) := by decide +kernel
theorem dX10_town_168 : decode cX10_town 168 = .ok (.iload_n 2, 1) := by decide +kernel
theorem dX10_town_169 : decode cX10_town 169 = .ok (.iadd, 1) := by decide +kernel
theorem dX10_town_170 : decode cX10_town 170 = .ok (.iaload, 1) := by decide +kernel
theorem dX10_town_171 : decode cX10_town 171 = .ok (.iastore, 1) := by decide +kernel
theorem dX10_town_172 : decode cX10_town 172 = .ok (.iinc 2 1, 3) := by decide +kernel
theorem dX10_town_175 : decode cX10_town 175 = .ok (.goto (-69), 3) := by decide +kernel
theorem dX10_town_178 : decode cX10_town 178 = .ok (.iconst 0, 1) := by decide +kernel
theorem dX10_town_179 : decode cX10_town 179 = .ok (.istore_n 2, 1) := by decide +kernel
theorem dX10_town_180 : decode cX10_town 180 = .ok (.iload_n 2, 1) := by decide +kernel
theorem dX10_town_181 : decode cX10_town 181 = .ok (.bipush 12, 2) := by decide +kernel
theorem dX10_town_183 : decode cX10_town 183 = .ok (.if_icmp .ge 39, 3) := by decide +kernel
theorem dX10_town_186 : decode cX10_town 186 = .ok (.aload_n 0, 1) := by decide +kernel
theorem dX10_town_187 : decode cX10_town 187 = .ok (.getfield 32, 3) := by decide +kernel
theorem dX10_town_190 : decode cX10_town 190 = .ok (.iload_n 2, 1) := by decide +kernel
theorem dX10_town_191 : decode cX10_town 191 = .ok (.aload_n 0, 1) := by decide +kernel
theorem dX10_town_192 : decode cX10_town 192 = .ok (.getfield 32, 3) := by decide +kernel
theorem dX10_town_195 : decode cX10_town 195 = .ok (.bipush 12, 2) := by decide +kernel
theorem dX10_town_197 : decode cX10_town 197 = .ok (.iload_n 2, 1) := by decide +kernel
theorem dX10_town_198 : decode cX10_town 198 = .ok (.iadd, 1) := by decide +kernel
theorem dX10_town_199 : decode cX10_town 199 = .ok (.iaload, 1) := by decide +kernel
theorem dX10_town_200 : decode cX10_town 200 = .ok (.iastore, 1) := by decide +kernel
theorem dX10_town_201 : decode cX10_town 201 = .ok (.aload_n 0, 1) := by decide +kernel
theorem dX10_town_202 : decode cX10_town 202 = .ok (.getfield 35, 3) := by decide +kernel
theorem dX10_town_205 : decode cX10_town 205 = .ok (.iload_n 2, 1) := by decide +kernel
theorem dX10_town_206 : decode cX10_town 206 = .ok (.aload_n 0, 1) := by decide +kernel
theorem dX10_town_207 : decode cX10_town 207 = .ok (.getfield 35, 3) := by decide +kernel
theorem dX10_town_210 : decode cX10_town 210 = .ok (.bipush 12, 2) := by decide +kernel
theorem dX10_town_212 : decode cX10_town 212 = .ok (.iload_n 2, 1) := by decide +kernel
theorem dX10_town_213 : decode cX10_town 213 = .ok (.iadd, 1) := by decide +kernel
theorem dX10_town_214 : decode cX10_town 214 = .ok (.iaload, 1) := by decide +kernel
theorem dX10_town_215 : decode cX10_town 215 = .ok (.iastore, 1) := by decide +kernel
theorem dX10_town_216 : decode cX10_town 216 = .ok (.iinc 2 1, 3) := by decide +kernel
theorem dX10_town_219 : decode cX10_town 219 = .ok (.goto (-39), 3) := by decide +kernel
theorem dX10_town_222 : decode cX10_town 222 = .ok (.iconst 0, 1) := by decide +kernel
theorem dX10_town_223 : decode cX10_town 223 = .ok (.istore_n 2, 1) := by decide +kernel
theorem dX10_town_224 : decode cX10_town 224 = .ok (.iload_n 2, 1) := by decide +kernel
theorem dX10_town_225 : decode cX10_town 225 = .ok (.bipush 28, 2) := by decide +kernel
theorem dX10_town_227 : decode cX10_town 227 = .ok (.if_icmp .ge 16, 3) := by decide +kernel
theorem dX10_town_230 : decode cX10_town 230 = .ok (.aload_n 0, 1) := by decide +kernel
theorem dX10_town_231 : decode cX10_town 231 = .ok (.getfield 38, 3) := by decide +kernel
theorem dX10_town_234 : decode cX10_town 234 = .ok (.iload_n 2, 1) := by decide +kernel
theorem dX10_town_235 : decode cX10_town 235 = .ok (.iconst 0, 1) := by decide +kernel
theorem dX10_town_236 : decode cX10_town 236 = .ok (.iastore, 1) := by decide +kernel
theorem dX10_town_237 : decode cX10_town 237 = .ok (.iinc 2 1, 3) := by decide +kernel
theorem dX10_town_240 : decode cX10_town 240 = .ok (.goto (-16), 3) := by decide +kernel
theorem dX10_town_243 : decode cX10_town 243 = .ok (.aload_n 0, 1) := by decide +kernel
theorem dX10_town_244 : decode cX10_town 244 = .ok (.iconst 0, 1) := by decide +kernel
theorem dX10_town_245 : decode cX10_town 245 = .ok (.putfield 116, 3) := by decide +kernel
theorem dX10_town_248 : decode cX10_town 248 = .ok (.aload_n 0, 1) := by decide +kernel
theorem dX10_town_249 : decode cX10_town 249 = .ok (.iconst 0, 1) := by decide +kernel
theorem dX10_town_250 : decode cX10_town 250 = .ok (.putfield 119, 3) := by decide +kernel
theorem dX10_town_253 : decode cX10_town 253 = .ok (.aload_n 0, 1) := by decide +kernel
theorem dX10_town_254 : decode cX10_town 254 = .ok (.iconst 0, 1) := by decide +kernel
theorem dX10_town_255 : decode cX10_town 255 = .ok (.putfield 122, 3) := by decide +kernel
theorem dX10_town_258 : decode cX10_town 258 = .ok (.aload_n 0, 1) := by decide +kernel
theorem dX10_town_259 : decode cX10_town 259 = .ok (.getfield 41, 3) := by decide +kernel
theorem dX10_town_262 : decode cX10_town 262 = .ok (.iconst 0, 1) := by decide +kernel
theorem dX10_town_263 : decode cX10_town 263 = .ok (.iconst 0, 1) := by decide +kernel
theorem dX10_town_264 : decode cX10_town 264 = .ok (.bastore, 1) := by decide +kernel
theorem dX10_town_265 : decode cX10_town 265 = .ok (.aload_n 0, 1) := by decide +kernel
theorem dX10_town_266 : decode cX10_town 266 = .ok (.getfield 41, 3) := by decide +kernel
theorem dX10_town_269 : decode cX10_town 269 = .ok (.iconst 1, 1) := by decide +kernel
theorem dX10_town_270 : decode cX10_town 270 = .ok (.iconst 0, 1) := by decide +kernel
theorem dX10_town_271 : decode cX10_town 271 = .ok (.bastore, 1) := by decide +kernel
theorem dX10_town_272 : decode cX10_town 272 = .ok (.aload_n 0, 1) := by decide +kernel
theorem dX10_town_273 : decode cX10_town 273 = .ok (.iconst 0, 1) := by decide +kernel
theorem dX10_town_274 : decode cX10_town 274 = .ok (.putfield 67, 3) := by decide +kernel
theorem dX10_town_277 : decode cX10_town 277 = .ok (.iload_n 1, 1) := by decide +kernel
theorem dX10_town_278 : decode cX10_town 278 = .ok (.ireturn, 1) := by decide +kernel
theorem dX10_isHouse_0 : decode cX10_isHouse 0 = .ok (.iload_n 1, 1) := by decide +kernel
theorem dX10_isHouse_1 : decode cX10_isHouse 1 = .ok (.iconst 0, 1) := by decide +kernel
theorem dX10_isHouse_2 : decode cX10_isHouse 2 = .ok (.aload_n 0, 1) := by decide +kernel
theorem dX10_isHouse_3 : decode cX10_isHouse 3 = .ok (.getfield 13, 3) := by decide +kernel
theorem dX10_isHouse_6 : decode cX10_isHouse 6 = .ok (.iconst 0, 1) := by decide +kernel
theorem dX10_isHouse_7 : decode cX10_isHouse 7 = .ok (.iaload, 1) := by decide +kernel
theorem dX10_isHouse_8 : decode cX10_isHouse 8 = .ok (.iconst 1, 1) := by decide +kernel
theorem dX10_isHouse_9 : decode cX10_isHouse 9 = .ok (.isub, 1) := by decide +kernel
theorem dX10_isHouse_10 : decode cX10_isHouse 10 = .ok (.invokestatic 63, 3) := by decide +kernel
theorem dX10_isHouse_13 : decode cX10_isHouse 13 = .ok (.ireturn, 1) := by decide +kernel
theorem dX10_isQuarter_0 : decode cX10_isQuarter 0 = .ok (.iload_n 0, 1) := by decide +kernel
theorem dX10_isQuarter_1 : decode cX10_isQuarter 1 = .ok (.iconst 0, 1) := by decide +kernel
theorem dX10_isQuarter_2 : decode cX10_isQuarter 2 = .ok (.bipush 95, 2) := by decide +kernel
theorem dX10_isQuarter_4 : decode cX10_isQuarter 4 = .ok (.invokestatic 63, 3) := by decide +kernel
theorem dX10_isQuarter_7 : decode cX10_isQuarter 7 = .ok (.ireturn, 1) := by decide +kernel
theorem dX10_isNumber_0 : decode cX10_isNumber 0 = .ok (.iload_n 0, 1) := by decide +kernel
theorem dX10_isNumber_1 : decode cX10_isNumber 1 = .ok (.iconst 0, 1) := by decide +kernel
theorem dX10_isNumber_2 : decode cX10_isNumber 2 = .ok (.bipush 47, 2) := by decide +kernel
theorem dX10_isNumber_4 : decode cX10_isNumber 4 = .ok (.invokestatic 63, 3) := by decide +kernel
theorem dX10_isNumber_7 : decode cX10_isNumber 7 = .ok (.ireturn, 1) := by decide +kernel
theorem dX10_house_0 : decode cX10_house 0 = .ok (.aload_n 0, 1) := by decide +kernel
theorem dX10_house_1 : decode cX10_house 1 = .ok (.iload_n 1, 1) := by decide +kernel
theorem dX10_house_2 : decode cX10_house 2 = .ok (.invokevirtual 125, 3) := by decide +kernel
theorem dX10_house_5 : decode cX10_house 5 = .ok (.ifCond .ne 5, 3) := by decide +kernel
theorem dX10_house_8 : decode cX10_house 8 = .ok (.iconst (-1), 1) := by decide +kernel
theorem dX10_house_9 : decode cX10_house 9 = .ok (.ireturn, 1) := by decide +kernel
theorem dX10_house_10 : decode cX10_house 10 = .ok (.iload_n 2, 1) := by decide +kernel
theorem dX10_house_11 : decode cX10_house 11 = .ok (.tableswitch 70 0 4 #[33, 40, 47, 54, 61], 33) := by decide +kernel
theorem dX10_house_44 : decode cX10_house 44 = .ok (.aload_n 0, 1) := by decide +kernel
theorem dX10_house_45 : decode cX10_house 45 = .ok (.getfield 20, 3) := by decide +kernel
theorem dX10_house_48 : decode cX10_house 48 = .ok (.iload_n 1, 1) := by decide +kernel
theorem dX10_house_49 : decode cX10_house 49 = .ok (.iaload, 1) := by decide +kernel
theorem dX10_house_50 : decode cX10_house 50 = .ok (.ireturn, 1) := by decide +kernel
theorem dX10_house_51 : decode cX10_house 51 = .ok (.aload_n 0, 1) := by decide +kernel
theorem dX10_house_52 : decode cX10_house 52 = .ok (.getfield 23, 3) := by decide +kernel
theorem dX10_house_55 : decode cX10_house 55 = .ok (.iload_n 1, 1) := by decide +kernel
theorem dX10_house_56 : decode cX10_house 56 = .ok (.iaload, 1) := by decide +kernel
theorem dX10_house_57 : decode cX10_house 57 = .ok (.ireturn, 1) := by decide +kernel
theorem dX10_house_58 : decode cX10_house 58 = .ok (.aload_n 0, 1) := by decide +kernel
theorem dX10_house_59 : decode cX10_house 59 = .ok (.getfield 26, 3) := by decide +kernel
theorem dX10_house_62 : decode cX10_house 62 = .ok (.iload_n 1, 1) := by decide +kernel
theorem dX10_house_63 : decode cX10_house 63 = .ok (.iaload, 1) := by decide +kernel
theorem dX10_house_64 : decode cX10_house 64 = .ok (.ireturn, 1) := by decide +kernel
theorem dX10_house_65 : decode cX10_house 65 = .ok (.aload_n 0, 1) := by decide +kernel
theorem dX10_house_66 : decode cX10_house 66 = .ok (.getfield 29, 3) := by decide +kernel
theorem dX10_house_69 : decode cX10_house 69 = .ok (.iload_n 1, 1) := by decide +kernel
theorem dX10_house_70 : decode cX10_house 70 = .ok (.iaload, 1) := by decide +kernel
theorem dX10_house_71 : decode cX10_house 71 = .ok (.ireturn, 1) := by decide +kernel
theorem dX10_house_72 : decode cX10_house 72 = .ok (.aload_n 0, 1) := by decide +kernel
theorem dX10_house_73 : decode cX10_house 73 = .ok (.getfield 38, 3) := by decide +kernel
theorem dX10_house_76 : decode cX10_house 76 = .ok (.iconst 1, 1) := by decide +kernel
theorem dX10_house_77 : decode cX10_house 77 = .ok (.iload_n 1, 1) := by decide +kernel
theorem dX10_house_78 : decode cX10_house 78 = .ok (.iadd, 1) := by decide +kernel
theorem dX10_house_79 : decode cX10_house 79 = .ok (.iaload, 1) := by decide +kernel
theorem dX10_house_80 : decode cX10_house 80 = .ok (.ireturn, 1) := by decide +kernel
theorem dX10_house_81 : decode cX10_house 81 = .ok (.iconst (-1), 1) := by decide +kernel
theorem dX10_house_82 : decode cX10_house 82 = .ok (.ireturn, 1) := by decide +kernel
theorem dX10_lived_0 : decode cX10_lived 0 = .ok (.iload_n 2, 1) := by decide +kernel
theorem dX10_lived_1 : decode cX10_lived 1 = .ok (.aload_n 0, 1) := by decide +kernel
theorem dX10_lived_2 : decode cX10_lived 2 = .ok (.getfield 23, 3) := by decide +kernel
theorem dX10_lived_5 : decode cX10_lived 5 = .ok (.iload_n 1, 1) := by decide +kernel
theorem dX10_lived_6 : decode cX10_lived 6 = .ok (.iaload, 1) := by decide +kernel
theorem dX10_lived_7 : decode cX10_lived 7 = .ok (.imul, 1) := by decide +kernel
theorem dX10_lived_8 : decode cX10_lived 8 = .ok (.aload_n 0, 1) := by decide +kernel
theorem dX10_lived_9 : decode cX10_lived 9 = .ok (.getfield 26, 3) := by decide +kernel
theorem dX10_lived_12 : decode cX10_lived 12 = .ok (.iload_n 1, 1) := by decide +kernel
theorem dX10_lived_13 : decode cX10_lived 13 = .ok (.iaload, 1) := by decide +kernel
theorem dX10_lived_14 : decode cX10_lived 14 = .ok (.idiv, 1) := by decide +kernel
theorem dX10_lived_15 : decode cX10_lived 15 = .ok (.ireturn, 1) := by decide +kernel
theorem dX10_shown_0 : decode cX10_shown 0 = .ok (.aload_n 0, 1) := by decide +kernel
theorem dX10_shown_1 : decode cX10_shown 1 = .ok (.getfield 20, 3) := by decide +kernel
theorem dX10_shown_4 : decode cX10_shown 4 = .ok (.iload_n 1, 1) := by decide +kernel
theorem dX10_shown_5 : decode cX10_shown 5 = .ok (.iaload, 1) := by decide +kernel
theorem dX10_shown_6 : decode cX10_shown 6 = .ok (.aload_n 0, 1) := by decide +kernel
theorem dX10_shown_7 : decode cX10_shown 7 = .ok (.iload_n 1, 1) := by decide +kernel
theorem dX10_shown_8 : decode cX10_shown 8 = .ok (.iload_n 2, 1) := by decide +kernel
theorem dX10_shown_9 : decode cX10_shown 9 = .ok (.invokevirtual 129, 3) := by decide +kernel
theorem dX10_shown_12 : decode cX10_shown 12 = .ok (.iadd, 1) := by decide +kernel
theorem dX10_shown_13 : decode cX10_shown 13 = .ok (.aload_n 0, 1) := by decide +kernel
theorem dX10_shown_14 : decode cX10_shown 14 = .ok (.getfield 38, 3) := by decide +kernel
theorem dX10_shown_17 : decode cX10_shown 17 = .ok (.iconst 1, 1) := by decide +kernel
theorem dX10_shown_18 : decode cX10_shown 18 = .ok (.iload_n 1, 1) := by decide +kernel
theorem dX10_shown_19 : decode cX10_shown 19 = .ok (.iadd, 1) := by decide +kernel
theorem dX10_shown_20 : decode cX10_shown 20 = .ok (.iaload, 1) := by decide +kernel
theorem dX10_shown_21 : decode cX10_shown 21 = .ok (.iadd, 1) := by decide +kernel
theorem dX10_shown_22 : decode cX10_shown 22 = .ok (.istore_n 3, 1) := by decide +kernel
theorem dX10_shown_23 : decode cX10_shown 23 = .ok (.iconst 2, 1) := by decide +kernel
theorem dX10_shown_24 : decode cX10_shown 24 = .ok (.iload_n 1, 1) := by decide +kernel
theorem dX10_shown_25 : decode cX10_shown 25 = .ok (.imul, 1) := by decide +kernel
theorem dX10_shown_26 : decode cX10_shown 26 = .ok (.istore 4, 2) := by decide +kernel
theorem dX10_shown_28 : decode cX10_shown 28 = .ok (.iload 4, 2) := by decide +kernel
theorem dX10_shown_30 : decode cX10_shown 30 = .ok (.iconst 2, 1) := by decide +kernel
theorem dX10_shown_31 : decode cX10_shown 31 = .ok (.iload_n 1, 1) := by decide +kernel
theorem dX10_shown_32 : decode cX10_shown 32 = .ok (.imul, 1) := by decide +kernel
theorem dX10_shown_33 : decode cX10_shown 33 = .ok (.aload_n 0, 1) := by decide +kernel
theorem dX10_shown_34 : decode cX10_shown 34 = .ok (.getfield 29, 3) := by decide +kernel
theorem dX10_shown_37 : decode cX10_shown 37 = .ok (.iload_n 1, 1) := by decide +kernel
theorem dX10_shown_38 : decode cX10_shown 38 = .ok (.iaload, 1) := by decide +kernel
theorem dX10_shown_39 : decode cX10_shown 39 = .ok (.iadd, 1) := by decide +kernel
theorem dX10_shown_40 : decode cX10_shown 40 = .ok (.if_icmp .ge 34, 3) := by decide +kernel
theorem dX10_shown_43 : decode cX10_shown 43 = .ok (.iload_n 3, 1) := by decide +kernel
theorem dX10_shown_44 : decode cX10_shown 44 = .ok (.aload_n 0, 1) := by decide +kernel
theorem dX10_shown_45 : decode cX10_shown 45 = .ok (.getfield 32, 3) := by decide +kernel
theorem dX10_shown_48 : decode cX10_shown 48 = .ok (.iload 4, 2) := by decide +kernel
theorem dX10_shown_50 : decode cX10_shown 50 = .ok (.iaload, 1) := by decide +kernel
theorem dX10_shown_51 : decode cX10_shown 51 = .ok (.iload_n 2, 1) := by decide +kernel
theorem dX10_shown_52 : decode cX10_shown 52 = .ok (.if_icmp .gt 13, 3) := by decide +kernel
theorem dX10_shown_55 : decode cX10_shown 55 = .ok (.aload_n 0, 1) := by decide +kernel
theorem dX10_shown_56 : decode cX10_shown 56 = .ok (.getfield 35, 3) := by decide +kernel
theorem dX10_shown_59 : decode cX10_shown 59 = .ok (.iload 4, 2) := by decide +kernel
theorem dX10_shown_61 : decode cX10_shown 61 = .ok (.iaload, 1) := by decide +kernel
theorem dX10_shown_62 : decode cX10_shown 62 = .ok (.goto 4, 3) := by decide +kernel
theorem dX10_shown_65 : decode cX10_shown 65 = .ok (.iconst 0, 1) := by decide +kernel
theorem dX10_shown_66 : decode cX10_shown 66 = .ok (.iadd, 1) := by decide +kernel
theorem dX10_shown_67 : decode cX10_shown 67 = .ok (.istore_n 3, 1) := by decide +kernel
theorem dX10_shown_68 : decode cX10_shown 68 = .ok (.iinc 4 1, 3) := by decide +kernel
theorem dX10_shown_71 : decode cX10_shown 71 = .ok (.goto (-43), 3) := by decide +kernel
theorem dX10_shown_74 : decode cX10_shown 74 = .ok (.iload_n 3, 1) := by decide +kernel
theorem dX10_shown_75 : decode cX10_shown 75 = .ok (.bipush 48, 2) := by decide +kernel
theorem dX10_shown_77 : decode cX10_shown 77 = .ok (.irem, 1) := by decide +kernel
theorem dX10_shown_78 : decode cX10_shown 78 = .ok (.ireturn, 1) := by decide +kernel
theorem dX10_shows_0 : decode cX10_shows 0 = .ok (.aload_n 0, 1) := by decide +kernel
theorem dX10_shows_1 : decode cX10_shows 1 = .ok (.iload_n 1, 1) := by decide +kernel
theorem dX10_shows_2 : decode cX10_shows 2 = .ok (.invokevirtual 125, 3) := by decide +kernel
theorem dX10_shows_5 : decode cX10_shows 5 = .ok (.ifCond .eq 19, 3) := by decide +kernel
theorem dX10_shows_8 : decode cX10_shows 8 = .ok (.iload_n 2, 1) := by decide +kernel
theorem dX10_shows_9 : decode cX10_shows 9 = .ok (.invokestatic 132, 3) := by decide +kernel
theorem dX10_shows_12 : decode cX10_shows 12 = .ok (.ifCond .eq 12, 3) := by decide +kernel
theorem dX10_shows_15 : decode cX10_shows 15 = .ok (.aload_n 0, 1) := by decide +kernel
theorem dX10_shows_16 : decode cX10_shows 16 = .ok (.iload_n 1, 1) := by decide +kernel
theorem dX10_shows_17 : decode cX10_shows 17 = .ok (.iload_n 2, 1) := by decide +kernel
theorem dX10_shows_18 : decode cX10_shows 18 = .ok (.invokevirtual 135, 3) := by decide +kernel
theorem dX10_shows_21 : decode cX10_shows 21 = .ok (.goto 4, 3) := by decide +kernel
theorem dX10_shows_24 : decode cX10_shows 24 = .ok (.iconst (-1), 1) := by decide +kernel
theorem dX10_shows_25 : decode cX10_shows 25 = .ok (.ireturn, 1) := by decide +kernel
theorem dX10_firstOf_0 : decode cX10_firstOf 0 = .ok (.iload_n 3, 1) := by decide +kernel
theorem dX10_firstOf_1 : decode cX10_firstOf 1 = .ok (.istore 4, 2) := by decide +kernel
theorem dX10_firstOf_3 : decode cX10_firstOf 3 = .ok (.iload 4, 2) := by decide +kernel
theorem dX10_firstOf_5 : decode cX10_firstOf 5 = .ok (.bipush 95, 2) := by decide +kernel
theorem dX10_firstOf_7 : decode cX10_firstOf 7 = .ok (.if_icmp .gt 23, 3) := by decide +kernel
theorem dX10_firstOf_10 : decode cX10_firstOf 10 = .ok (.aload_n 0, 1) := by decide +kernel
theorem dX10_firstOf_11 : decode cX10_firstOf 11 = .ok (.iload_n 1, 1) := by decide +kernel
theorem dX10_firstOf_12 : decode cX10_firstOf 12 = .ok (.iload 4, 2) := by decide +kernel
theorem dX10_firstOf_14 : decode cX10_firstOf 14 = .ok (.invokevirtual 135, 3) := by decide +kernel
theorem dX10_firstOf_17 : decode cX10_firstOf 17 = .ok (.iload_n 2, 1) := by decide +kernel
theorem dX10_firstOf_18 : decode cX10_firstOf 18 = .ok (.if_icmp .ne 6, 3) := by decide +kernel
theorem dX10_firstOf_21 : decode cX10_firstOf 21 = .ok (.iload 4, 2) := by decide +kernel
theorem dX10_firstOf_23 : decode cX10_firstOf 23 = .ok (.ireturn, 1) := by decide +kernel
theorem dX10_firstOf_24 : decode cX10_firstOf 24 = .ok (.iinc 4 1, 3) := by decide +kernel
theorem dX10_firstOf_27 : decode cX10_firstOf 27 = .ok (.goto (-24), 3) := by decide +kernel
theorem dX10_firstOf_30 : decode cX10_firstOf 30 = .ok (.bipush (-9), 2) := by decide +kernel
theorem dX10_firstOf_32 : decode cX10_firstOf 32 = .ok (.ireturn, 1) := by decide +kernel
theorem dX10_first_0 : decode cX10_first 0 = .ok (.aload_n 0, 1) := by decide +kernel
theorem dX10_first_1 : decode cX10_first 1 = .ok (.iload_n 1, 1) := by decide +kernel
theorem dX10_first_2 : decode cX10_first 2 = .ok (.invokevirtual 125, 3) := by decide +kernel
theorem dX10_first_5 : decode cX10_first 5 = .ok (.ifCond .eq 27, 3) := by decide +kernel
theorem dX10_first_8 : decode cX10_first 8 = .ok (.iload_n 2, 1) := by decide +kernel
theorem dX10_first_9 : decode cX10_first 9 = .ok (.invokestatic 138, 3) := by decide +kernel
theorem dX10_first_12 : decode cX10_first 12 = .ok (.ifCond .eq 20, 3) := by decide +kernel
theorem dX10_first_15 : decode cX10_first 15 = .ok (.iload_n 3, 1) := by decide +kernel
theorem dX10_first_16 : decode cX10_first 16 = .ok (.invokestatic 132, 3) := by decide +kernel
theorem dX10_first_19 : decode cX10_first 19 = .ok (.ifCond .eq 13, 3) := by decide +kernel
theorem dX10_first_22 : decode cX10_first 22 = .ok (.aload_n 0, 1) := by decide +kernel
theorem dX10_first_23 : decode cX10_first 23 = .ok (.iload_n 1, 1) := by decide +kernel
theorem dX10_first_24 : decode cX10_first 24 = .ok (.iload_n 2, 1) := by decide +kernel
theorem dX10_first_25 : decode cX10_first 25 = .ok (.iload_n 3, 1) := by decide +kernel
theorem dX10_first_26 : decode cX10_first 26 = .ok (.invokevirtual 141, 3) := by decide +kernel
theorem dX10_first_29 : decode cX10_first 29 = .ok (.goto 4, 3) := by decide +kernel
theorem dX10_first_32 : decode cX10_first 32 = .ok (.iconst (-1), 1) := by decide +kernel
theorem dX10_first_33 : decode cX10_first 33 = .ok (.ireturn, 1) := by decide +kernel
theorem dX10_manyOf_0 : decode cX10_manyOf 0 = .ok (.iconst 0, 1) := by decide +kernel
theorem dX10_manyOf_1 : decode cX10_manyOf 1 = .ok (.istore_n 3, 1) := by decide +kernel
theorem dX10_manyOf_2 : decode cX10_manyOf 2 = .ok (.iconst 0, 1) := by decide +kernel
theorem dX10_manyOf_3 : decode cX10_manyOf 3 = .ok (.istore 4, 2) := by decide +kernel
theorem dX10_manyOf_5 : decode cX10_manyOf 5 = .ok (.iload 4, 2) := by decide +kernel
theorem dX10_manyOf_7 : decode cX10_manyOf 7 = .ok (.bipush 95, 2) := by decide +kernel
theorem dX10_manyOf_9 : decode cX10_manyOf 9 = .ok (.if_icmp .gt 28, 3) := by decide +kernel
theorem dX10_manyOf_12 : decode cX10_manyOf 12 = .ok (.iload_n 3, 1) := by decide +kernel
theorem dX10_manyOf_13 : decode cX10_manyOf 13 = .ok (.aload_n 0, 1) := by decide +kernel
theorem dX10_manyOf_14 : decode cX10_manyOf 14 = .ok (.iload_n 1, 1) := by decide +kernel
theorem dX10_manyOf_15 : decode cX10_manyOf 15 = .ok (.iload 4, 2) := by decide +kernel
theorem dX10_manyOf_17 : decode cX10_manyOf 17 = .ok (.invokevirtual 135, 3) := by decide +kernel
theorem dX10_manyOf_20 : decode cX10_manyOf 20 = .ok (.iload_n 2, 1) := by decide +kernel
theorem dX10_manyOf_21 : decode cX10_manyOf 21 = .ok (.if_icmp .ne 7, 3) := by decide +kernel
theorem dX10_manyOf_24 : decode cX10_manyOf 24 = .ok (.iconst 1, 1) := by decide +kernel
theorem dX10_manyOf_25 : decode cX10_manyOf 25 = .ok (.goto 4, 3) := by decide +kernel
theorem dX10_manyOf_28 : decode cX10_manyOf 28 = .ok (.iconst 0, 1) := by decide +kernel
theorem dX10_manyOf_29 : decode cX10_manyOf 29 = .ok (.iadd, 1) := by decide +kernel
theorem dX10_manyOf_30 : decode cX10_manyOf 30 = .ok (.istore_n 3, 1) := by decide +kernel
theorem dX10_manyOf_31 : decode cX10_manyOf 31 = .ok (.iinc 4 1, 3) := by decide +kernel
theorem dX10_manyOf_34 : decode cX10_manyOf 34 = .ok (.goto (-29), 3) := by decide +kernel
theorem dX10_manyOf_37 : decode cX10_manyOf 37 = .ok (.iload_n 3, 1) := by decide +kernel
theorem dX10_manyOf_38 : decode cX10_manyOf 38 = .ok (.ireturn, 1) := by decide +kernel
theorem dX10_many_0 : decode cX10_many 0 = .ok (.aload_n 0, 1) := by decide +kernel
theorem dX10_many_1 : decode cX10_many 1 = .ok (.iload_n 1, 1) := by decide +kernel
theorem dX10_many_2 : decode cX10_many 2 = .ok (.invokevirtual 125, 3) := by decide +kernel
theorem dX10_many_5 : decode cX10_many 5 = .ok (.ifCond .eq 13, 3) := by decide +kernel
theorem dX10_many_8 : decode cX10_many 8 = .ok (.iload_n 2, 1) := by decide +kernel
theorem dX10_many_9 : decode cX10_many 9 = .ok (.iconst (-1), 1) := by decide +kernel
theorem dX10_many_10 : decode cX10_many 10 = .ok (.bipush 47, 2) := by decide +kernel
theorem dX10_many_12 : decode cX10_many 12 = .ok (.invokestatic 63, 3) := by decide +kernel
theorem dX10_many_15 : decode cX10_many 15 = .ok (.ifCond .ne 5, 3) := by decide +kernel
theorem dX10_many_18 : decode cX10_many 18 = .ok (.iconst (-1), 1) := by decide +kernel
theorem dX10_many_19 : decode cX10_many 19 = .ok (.ireturn, 1) := by decide +kernel
theorem dX10_many_20 : decode cX10_many 20 = .ok (.iload_n 2, 1) := by decide +kernel
theorem dX10_many_21 : decode cX10_many 21 = .ok (.ifCond .lt 10, 3) := by decide +kernel
theorem dX10_many_24 : decode cX10_many 24 = .ok (.aload_n 0, 1) := by decide +kernel
theorem dX10_many_25 : decode cX10_many 25 = .ok (.iload_n 1, 1) := by decide +kernel
theorem dX10_many_26 : decode cX10_many 26 = .ok (.iload_n 2, 1) := by decide +kernel
theorem dX10_many_27 : decode cX10_many 27 = .ok (.invokevirtual 145, 3) := by decide +kernel
theorem dX10_many_30 : decode cX10_many 30 = .ok (.ireturn, 1) := by decide +kernel
theorem dX10_many_31 : decode cX10_many 31 = .ok (.iconst 0, 1) := by decide +kernel
theorem dX10_many_32 : decode cX10_many 32 = .ok (.istore_n 3, 1) := by decide +kernel
theorem dX10_many_33 : decode cX10_many 33 = .ok (.iconst 0, 1) := by decide +kernel
theorem dX10_many_34 : decode cX10_many 34 = .ok (.istore 4, 2) := by decide +kernel
theorem dX10_many_36 : decode cX10_many 36 = .ok (.iload 4, 2) := by decide +kernel
theorem dX10_many_38 : decode cX10_many 38 = .ok (.bipush 48, 2) := by decide +kernel
theorem dX10_many_40 : decode cX10_many 40 = .ok (.if_icmp .ge 27, 3) := by decide +kernel
theorem dX10_many_43 : decode cX10_many 43 = .ok (.iload_n 3, 1) := by decide +kernel
theorem dX10_many_44 : decode cX10_many 44 = .ok (.aload_n 0, 1) := by decide +kernel
theorem dX10_many_45 : decode cX10_many 45 = .ok (.iload_n 1, 1) := by decide +kernel
theorem dX10_many_46 : decode cX10_many 46 = .ok (.iload 4, 2) := by decide +kernel
theorem dX10_many_48 : decode cX10_many 48 = .ok (.invokevirtual 145, 3) := by decide +kernel
theorem dX10_many_51 : decode cX10_many 51 = .ok (.ifCond .ne 7, 3) := by decide +kernel
theorem dX10_many_54 : decode cX10_many 54 = .ok (.iconst 1, 1) := by decide +kernel
theorem dX10_many_55 : decode cX10_many 55 = .ok (.goto 4, 3) := by decide +kernel
theorem dX10_many_58 : decode cX10_many 58 = .ok (.iconst 0, 1) := by decide +kernel
theorem dX10_many_59 : decode cX10_many 59 = .ok (.iadd, 1) := by decide +kernel
theorem dX10_many_60 : decode cX10_many 60 = .ok (.istore_n 3, 1) := by decide +kernel
theorem dX10_many_61 : decode cX10_many 61 = .ok (.iinc 4 1, 3) := by decide +kernel
theorem dX10_many_64 : decode cX10_many 64 = .ok (.goto (-28), 3) := by decide +kernel
theorem dX10_many_67 : decode cX10_many 67 = .ok (.iload_n 3, 1) := by decide +kernel
theorem dX10_many_68 : decode cX10_many 68 = .ok (.ireturn, 1) := by decide +kernel
theorem dX10_there_0 : decode cX10_there 0 = .ok (.aload_n 0, 1) := by decide +kernel
theorem dX10_there_1 : decode cX10_there 1 = .ok (.iload_n 1, 1) := by decide +kernel
theorem dX10_there_2 : decode cX10_there 2 = .ok (.invokevirtual 125, 3) := by decide +kernel
theorem dX10_there_5 : decode cX10_there 5 = .ok (.ifCond .eq 18, 3) := by decide +kernel
theorem dX10_there_8 : decode cX10_there 8 = .ok (.aload_n 0, 1) := by decide +kernel
theorem dX10_there_9 : decode cX10_there 9 = .ok (.iload_n 3, 1) := by decide +kernel
theorem dX10_there_10 : decode cX10_there 10 = .ok (.invokevirtual 125, 3) := by decide +kernel
theorem dX10_there_13 : decode cX10_there 13 = .ok (.ifCond .eq 10, 3) := by decide +kernel
theorem dX10_there_16 : decode cX10_there 16 = .ok (.iload_n 2, 1) := by decide +kernel
theorem dX10_there_17 : decode cX10_there 17 = .ok (.invokestatic 138, 3) := by decide +kernel
theorem dX10_there_20 : decode cX10_there 20 = .ok (.ifCond .ne 5, 3) := by decide +kernel
theorem dX10_there_23 : decode cX10_there 23 = .ok (.iconst (-1), 1) := by decide +kernel
theorem dX10_there_24 : decode cX10_there 24 = .ok (.ireturn, 1) := by decide +kernel
theorem dX10_there_25 : decode cX10_there 25 = .ok (.aload_n 0, 1) := by decide +kernel
theorem dX10_there_26 : decode cX10_there 26 = .ok (.iload_n 1, 1) := by decide +kernel
theorem dX10_there_27 : decode cX10_there 27 = .ok (.iload_n 2, 1) := by decide +kernel
theorem dX10_there_28 : decode cX10_there 28 = .ok (.iconst 0, 1) := by decide +kernel
theorem dX10_there_29 : decode cX10_there 29 = .ok (.invokevirtual 141, 3) := by decide +kernel
theorem dX10_there_32 : decode cX10_there 32 = .ok (.istore 4, 2) := by decide +kernel
theorem dX10_there_34 : decode cX10_there 34 = .ok (.iload 4, 2) := by decide +kernel
theorem dX10_there_36 : decode cX10_there 36 = .ok (.bipush (-9), 2) := by decide +kernel
theorem dX10_there_38 : decode cX10_there 38 = .ok (.if_icmp .ne 8, 3) := by decide +kernel
theorem dX10_there_41 : decode cX10_there 41 = .ok (.bipush (-9), 2) := by decide +kernel
theorem dX10_there_43 : decode cX10_there 43 = .ok (.goto 10, 3) := by decide +kernel
theorem dX10_there_46 : decode cX10_there 46 = .ok (.aload_n 0, 1) := by decide +kernel
theorem dX10_there_47 : decode cX10_there 47 = .ok (.iload_n 3, 1) := by decide +kernel
theorem dX10_there_48 : decode cX10_there 48 = .ok (.iload 4, 2) := by decide +kernel
theorem dX10_there_50 : decode cX10_there 50 = .ok (.invokevirtual 135, 3) := by decide +kernel
theorem dX10_there_53 : decode cX10_there 53 = .ok (.ireturn, 1) := by decide +kernel
theorem dX10_early_0 : decode cX10_early 0 = .ok (.aload_n 0, 1) := by decide +kernel
theorem dX10_early_1 : decode cX10_early 1 = .ok (.iload_n 1, 1) := by decide +kernel
theorem dX10_early_2 : decode cX10_early 2 = .ok (.invokevirtual 125, 3) := by decide +kernel
theorem dX10_early_5 : decode cX10_early 5 = .ok (.ifCond .eq 25, 3) := by decide +kernel
theorem dX10_early_8 : decode cX10_early 8 = .ok (.aload_n 0, 1) := by decide +kernel
theorem dX10_early_9 : decode cX10_early 9 = .ok (.iload_n 2, 1) := by decide +kernel
theorem dX10_early_10 : decode cX10_early 10 = .ok (.invokevirtual 125, 3) := by decide +kernel
theorem dX10_early_13 : decode cX10_early 13 = .ok (.ifCond .eq 17, 3) := by decide +kernel
theorem dX10_early_16 : decode cX10_early 16 = .ok (.iload_n 1, 1) := by decide +kernel
theorem dX10_early_17 : decode cX10_early 17 = .ok (.iload_n 2, 1) := by decide +kernel
theorem dX10_early_18 : decode cX10_early 18 = .ok (.if_icmp .eq 12, 3) := by decide +kernel
theorem dX10_early_21 : decode cX10_early 21 = .ok (.iload_n 3, 1) := by decide +kernel
theorem dX10_early_22 : decode cX10_early 22 = .ok (.iconst 0, 1) := by decide +kernel
theorem dX10_early_23 : decode cX10_early 23 = .ok (.iconst 1, 1) := by decide +kernel
theorem dX10_early_24 : decode cX10_early 24 = .ok (.invokestatic 63, 3) := by decide +kernel
theorem dX10_early_27 : decode cX10_early 27 = .ok (.ifCond .ne 5, 3) := by decide +kernel
theorem dX10_early_30 : decode cX10_early 30 = .ok (.iconst (-1), 1) := by decide +kernel
theorem dX10_early_31 : decode cX10_early 31 = .ok (.ireturn, 1) := by decide +kernel
theorem dX10_early_32 : decode cX10_early 32 = .ok (.iconst 0, 1) := by decide +kernel
theorem dX10_early_33 : decode cX10_early 33 = .ok (.istore 4, 2) := by decide +kernel
theorem dX10_early_35 : decode cX10_early 35 = .ok (.bipush (-9), 2) := by decide +kernel
theorem dX10_early_37 : decode cX10_early 37 = .ok (.istore 5, 2) := by decide +kernel
theorem dX10_early_39 : decode cX10_early 39 = .ok (.bipush 95, 2) := by decide +kernel
theorem dX10_early_41 : decode cX10_early 41 = .ok (.aload_n 0, 1) := by decide +kernel
theorem dX10_early_42 : decode cX10_early 42 = .ok (.getfield 17, 3) := by decide +kernel
theorem dX10_early_45 : decode cX10_early 45 = .ok (.iconst 0, 1) := by decide +kernel
theorem dX10_early_46 : decode cX10_early 46 = .ok (.iaload, 1) := by decide +kernel
theorem dX10_early_47 : decode cX10_early 47 = .ok (.isub, 1) := by decide +kernel
theorem dX10_early_48 : decode cX10_early 48 = .ok (.istore 6, 2) := by decide +kernel
theorem dX10_early_50 : decode cX10_early 50 = .ok (.iload 6, 2) := by decide +kernel
theorem dX10_early_52 : decode cX10_early 52 = .ok (.ifCond .lt 69, 3) := by decide +kernel
theorem dX10_early_55 : decode cX10_early 55 = .ok (.aload_n 0, 1) := by decide +kernel
theorem dX10_early_56 : decode cX10_early 56 = .ok (.iload_n 2, 1) := by decide +kernel
theorem dX10_early_57 : decode cX10_early 57 = .ok (.iload 6, 2) := by decide +kernel
theorem dX10_early_59 : decode cX10_early 59 = .ok (.aload_n 0, 1) := by decide +kernel
theorem dX10_early_60 : decode cX10_early 60 = .ok (.getfield 17, 3) := by decide +kernel
theorem dX10_early_63 : decode cX10_early 63 = .ok (.iconst 0, 1) := by decide +kernel
theorem dX10_early_64 : decode cX10_early 64 = .ok (.iaload, 1) := by decide +kernel
theorem dX10_early_65 : decode cX10_early 65 = .ok (.iadd, 1) := by decide +kernel
theorem dX10_early_66 : decode cX10_early 66 = .ok (.invokevirtual 135, 3) := by decide +kernel
theorem dX10_early_69 : decode cX10_early 69 = .ok (.aload_n 0, 1) := by decide +kernel
theorem dX10_early_70 : decode cX10_early 70 = .ok (.iload_n 1, 1) := by decide +kernel
theorem dX10_early_71 : decode cX10_early 71 = .ok (.iload 6, 2) := by decide +kernel
theorem dX10_early_73 : decode cX10_early 73 = .ok (.invokevirtual 135, 3) := by decide +kernel
theorem dX10_early_76 : decode cX10_early 76 = .ok (.if_icmp .ge 7, 3) := by decide +kernel
theorem dX10_early_79 : decode cX10_early 79 = .ok (.iconst 1, 1) := by decide +kernel
theorem dX10_early_80 : decode cX10_early 80 = .ok (.goto 4, 3) := by decide +kernel
theorem dX10_early_83 : decode cX10_early 83 = .ok (.iconst 0, 1) := by decide +kernel
theorem dX10_early_84 : decode cX10_early 84 = .ok (.istore 7, 2) := by decide +kernel
theorem dX10_early_86 : decode cX10_early 86 = .ok (.iload 4, 2) := by decide +kernel
theorem dX10_early_88 : decode cX10_early 88 = .ok (.iload 7, 2) := by decide +kernel
theorem dX10_early_90 : decode cX10_early 90 = .ok (.ifCond .eq 7, 3) := by decide +kernel
theorem dX10_early_93 : decode cX10_early 93 = .ok (.iconst 1, 1) := by decide +kernel
theorem dX10_early_94 : decode cX10_early 94 = .ok (.goto 4, 3) := by decide +kernel
theorem dX10_early_97 : decode cX10_early 97 = .ok (.iconst 0, 1) := by decide +kernel
theorem dX10_early_98 : decode cX10_early 98 = .ok (.iadd, 1) := by decide +kernel
theorem dX10_early_99 : decode cX10_early 99 = .ok (.istore 4, 2) := by decide +kernel
theorem dX10_early_101 : decode cX10_early 101 = .ok (.iload 7, 2) := by decide +kernel
theorem dX10_early_103 : decode cX10_early 103 = .ok (.ifCond .eq 8, 3) := by decide +kernel
theorem dX10_early_106 : decode cX10_early 106 = .ok (.iload 6, 2) := by decide +kernel
theorem dX10_early_108 : decode cX10_early 108 = .ok (.goto 5, 3) := by decide +kernel
theorem dX10_early_111 : decode cX10_early 111 = .ok (.iload 5, 2) := by decide +kernel
theorem dX10_early_113 : decode cX10_early 113 = .ok (.istore 5, 2) := by decide +kernel
theorem dX10_early_115 : decode cX10_early 115 = .ok (.iinc 6 (-1), 3) := by decide +kernel
theorem dX10_early_118 : decode cX10_early 118 = .ok (.goto (-68), 3) := by decide +kernel
theorem dX10_early_121 : decode cX10_early 121 = .ok (.iload_n 3, 1) := by decide +kernel
theorem dX10_early_122 : decode cX10_early 122 = .ok (.ifCond .ne 8, 3) := by decide +kernel
theorem dX10_early_125 : decode cX10_early 125 = .ok (.iload 4, 2) := by decide +kernel
theorem dX10_early_127 : decode cX10_early 127 = .ok (.goto 5, 3) := by decide +kernel
theorem dX10_early_130 : decode cX10_early 130 = .ok (.iload 5, 2) := by decide +kernel
theorem dX10_early_132 : decode cX10_early 132 = .ok (.ireturn, 1) := by decide +kernel
theorem dX10_go_0 : decode cX10_go 0 = .ok (.iload_n 1, 1) := by decide +kernel
theorem dX10_go_1 : decode cX10_go 1 = .ok (.iconst 1, 1) := by decide +kernel
theorem dX10_go_2 : decode cX10_go 2 = .ok (.bipush 95, 2) := by decide +kernel
theorem dX10_go_4 : decode cX10_go 4 = .ok (.invokestatic 63, 3) := by decide +kernel
theorem dX10_go_7 : decode cX10_go 7 = .ok (.ifCond .ne 5, 3) := by decide +kernel
theorem dX10_go_10 : decode cX10_go 10 = .ok (.iconst (-1), 1) := by decide +kernel
theorem dX10_go_11 : decode cX10_go 11 = .ok (.ireturn, 1) := by decide +kernel
theorem dX10_go_12 : decode cX10_go 12 = .ok (.aload_n 0, 1) := by decide +kernel
theorem dX10_go_13 : decode cX10_go 13 = .ok (.getfield 38, 3) := by decide +kernel
theorem dX10_go_16 : decode cX10_go 16 = .ok (.iconst 0, 1) := by decide +kernel
theorem dX10_go_17 : decode cX10_go 17 = .ok (.iaload, 1) := by decide +kernel
theorem dX10_go_18 : decode cX10_go 18 = .ok (.iload_n 1, 1) := by decide +kernel
theorem dX10_go_19 : decode cX10_go 19 = .ok (.iadd, 1) := by decide +kernel
theorem dX10_go_20 : decode cX10_go 20 = .ok (.bipush 95, 2) := by decide +kernel
theorem dX10_go_22 : decode cX10_go 22 = .ok (.if_icmp .le 6, 3) := by decide +kernel
theorem dX10_go_25 : decode cX10_go 25 = .ok (.bipush (-2), 2) := by decide +kernel
theorem dX10_go_27 : decode cX10_go 27 = .ok (.ireturn, 1) := by decide +kernel
theorem dX10_go_28 : decode cX10_go 28 = .ok (.aload_n 0, 1) := by decide +kernel
theorem dX10_go_29 : decode cX10_go 29 = .ok (.getfield 38, 3) := by decide +kernel
theorem dX10_go_32 : decode cX10_go 32 = .ok (.iconst 0, 1) := by decide +kernel
theorem dX10_go_33 : decode cX10_go 33 = .ok (.dup2, 1) := by decide +kernel
theorem dX10_go_34 : decode cX10_go 34 = .ok (.iaload, 1) := by decide +kernel
theorem dX10_go_35 : decode cX10_go 35 = .ok (.iload_n 1, 1) := by decide +kernel
theorem dX10_go_36 : decode cX10_go 36 = .ok (.iadd, 1) := by decide +kernel
theorem dX10_go_37 : decode cX10_go 37 = .ok (.iastore, 1) := by decide +kernel
theorem dX10_go_38 : decode cX10_go 38 = .ok (.aload_n 0, 1) := by decide +kernel
theorem dX10_go_39 : decode cX10_go 39 = .ok (.getfield 38, 3) := by decide +kernel
theorem dX10_go_42 : decode cX10_go 42 = .ok (.iconst 0, 1) := by decide +kernel
theorem dX10_go_43 : decode cX10_go 43 = .ok (.iaload, 1) := by decide +kernel
theorem dX10_go_44 : decode cX10_go 44 = .ok (.ireturn, 1) := by decide +kernel
theorem dX10_turn_0 : decode cX10_turn 0 = .ok (.aload_n 0, 1) := by decide +kernel
theorem dX10_turn_1 : decode cX10_turn 1 = .ok (.iload_n 1, 1) := by decide +kernel
theorem dX10_turn_2 : decode cX10_turn 2 = .ok (.invokevirtual 125, 3) := by decide +kernel
theorem dX10_turn_5 : decode cX10_turn 5 = .ok (.ifCond .eq 13, 3) := by decide +kernel
theorem dX10_turn_8 : decode cX10_turn 8 = .ok (.iload_n 2, 1) := by decide +kernel
theorem dX10_turn_9 : decode cX10_turn 9 = .ok (.iconst 1, 1) := by decide +kernel
theorem dX10_turn_10 : decode cX10_turn 10 = .ok (.bipush 47, 2) := by decide +kernel
theorem dX10_turn_12 : decode cX10_turn 12 = .ok (.invokestatic 63, 3) := by decide +kernel
theorem dX10_turn_15 : decode cX10_turn 15 = .ok (.ifCond .ne 5, 3) := by decide +kernel
theorem dX10_turn_18 : decode cX10_turn 18 = .ok (.iconst (-1), 1) := by decide +kernel
theorem dX10_turn_19 : decode cX10_turn 19 = .ok (.ireturn, 1) := by decide +kernel
theorem dX10_turn_20 : decode cX10_turn 20 = .ok (.aload_n 0, 1) := by decide +kernel
theorem dX10_turn_21 : decode cX10_turn 21 = .ok (.getfield 38, 3) := by decide +kernel
theorem dX10_turn_24 : decode cX10_turn 24 = .ok (.bipush 7, 2) := by decide +kernel
theorem dX10_turn_26 : decode cX10_turn 26 = .ok (.iaload, 1) := by decide +kernel
theorem dX10_turn_27 : decode cX10_turn 27 = .ok (.bipush 10, 2) := by decide +kernel
theorem dX10_turn_29 : decode cX10_turn 29 = .ok (.if_icmp .ne 68, 3) := by decide +kernel
theorem dX10_turn_32 : decode cX10_turn 32 = .ok (.iconst 0, 1) := by decide +kernel
theorem dX10_turn_33 : decode cX10_turn 33 = .ok (.istore_n 3, 1) := by decide +kernel
theorem dX10_turn_34 : decode cX10_turn 34 = .ok (.iload_n 3, 1) := by decide +kernel
theorem dX10_turn_35 : decode cX10_turn 35 = .ok (.bipush 9, 2) := by decide +kernel
theorem dX10_turn_37 : decode cX10_turn 37 = .ok (.if_icmp .ge 49, 3) := by decide +kernel
theorem dX10_turn_40 : decode cX10_turn 40 = .ok (.aload_n 0, 1) := by decide +kernel
theorem dX10_turn_41 : decode cX10_turn 41 = .ok (.getfield 38, 3) := by decide +kernel
theorem dX10_turn_44 : decode cX10_turn 44 = .ok (.bipush 8, 2) := by decide +kernel
theorem dX10_turn_46 : decode cX10_turn 46 = .ok (.iload_n 3, 1) := by decide +kernel
theorem dX10_turn_47 : decode cX10_turn 47 = .ok (.iadd, 1) := by decide +kernel
theorem dX10_turn_48 : decode cX10_turn 48 = .ok (.aload_n 0, 1) := by decide +kernel
theorem dX10_turn_49 : decode cX10_turn 49 = .ok (.getfield 38, 3) := by decide +kernel
theorem dX10_turn_52 : decode cX10_turn 52 = .ok (.bipush 8, 2) := by decide +kernel
theorem dX10_turn_54 : decode cX10_turn 54 = .ok (.iload_n 3, 1) := by decide +kernel
theorem dX10_turn_55 : decode cX10_turn 55 = .ok (.iadd, 1) := by decide +kernel
theorem dX10_turn_56 : decode cX10_turn 56 = .ok (.iconst 1, 1) := by decide +kernel
theorem dX10_turn_57 : decode cX10_turn 57 = .ok (.iadd, 1) := by decide +kernel
theorem dX10_turn_58 : decode cX10_turn 58 = .ok (.iaload, 1) := by decide +kernel
theorem dX10_turn_59 : decode cX10_turn 59 = .ok (.iastore, 1) := by decide +kernel
theorem dX10_turn_60 : decode cX10_turn 60 = .ok (.aload_n 0, 1) := by decide +kernel
theorem dX10_turn_61 : decode cX10_turn 61 = .ok (.getfield 38, 3) := by decide +kernel
theorem dX10_turn_64 : decode cX10_turn 64 = .ok (.bipush 18, 2) := by decide +kernel
theorem dX10_turn_66 : decode cX10_turn 66 = .ok (.iload_n 3, 1) := by decide +kernel
theorem dX10_turn_67 : decode cX10_turn 67 = .ok (.iadd, 1) := by decide +kernel
theorem dX10_turn_68 : decode cX10_turn 68 = .ok (.aload_n 0, 1) := by decide +kernel
theorem dX10_turn_69 : decode cX10_turn 69 = .ok (.getfield 38, 3) := by decide +kernel
theorem dX10_turn_72 : decode cX10_turn 72 = .ok (.bipush 18, 2) := by decide +kernel
theorem dX10_turn_74 : decode cX10_turn 74 = .ok (.iload_n 3, 1) := by decide +kernel
theorem dX10_turn_75 : decode cX10_turn 75 = .ok (.iadd, 1) := by decide +kernel
theorem dX10_turn_76 : decode cX10_turn 76 = .ok (.iconst 1, 1) := by decide +kernel
theorem dX10_turn_77 : decode cX10_turn 77 = .ok (.iadd, 1) := by decide +kernel
theorem dX10_turn_78 : decode cX10_turn 78 = .ok (.iaload, 1) := by decide +kernel
theorem dX10_turn_79 : decode cX10_turn 79 = .ok (.iastore, 1) := by decide +kernel
theorem dX10_turn_80 : decode cX10_turn 80 = .ok (.iinc 3 1, 3) := by decide +kernel
theorem dX10_turn_83 : decode cX10_turn 83 = .ok (.goto (-49), 3) := by decide +kernel
theorem dX10_turn_86 : decode cX10_turn 86 = .ok (.aload_n 0, 1) := by decide +kernel
theorem dX10_turn_87 : decode cX10_turn 87 = .ok (.getfield 38, 3) := by decide +kernel
theorem dX10_turn_90 : decode cX10_turn 90 = .ok (.bipush 7, 2) := by decide +kernel
theorem dX10_turn_92 : decode cX10_turn 92 = .ok (.dup2, 1) := by decide +kernel
theorem dX10_turn_93 : decode cX10_turn 93 = .ok (.iaload, 1) := by decide +kernel
theorem dX10_turn_94 : decode cX10_turn 94 = .ok (.iconst 1, 1) := by decide +kernel
theorem dX10_turn_95 : decode cX10_turn 95 = .ok (.isub, 1) := by decide +kernel
theorem dX10_turn_96 : decode cX10_turn 96 = .ok (.iastore, 1) := by decide +kernel
theorem dX10_turn_97 : decode cX10_turn 97 = .ok (.aload_n 0, 1) := by decide +kernel
theorem dX10_turn_98 : decode cX10_turn 98 = .ok (.getfield 38, 3) := by decide +kernel
theorem dX10_turn_101 : decode cX10_turn 101 = .ok (.bipush 8, 2) := by decide +kernel
theorem dX10_turn_103 : decode cX10_turn 103 = .ok (.aload_n 0, 1) := by decide +kernel
theorem dX10_turn_104 : decode cX10_turn 104 = .ok (.getfield 38, 3) := by decide +kernel
theorem dX10_turn_107 : decode cX10_turn 107 = .ok (.bipush 7, 2) := by decide +kernel
theorem dX10_turn_109 : decode cX10_turn 109 = .ok (.iaload, 1) := by decide +kernel
theorem dX10_turn_110 : decode cX10_turn 110 = .ok (.iadd, 1) := by decide +kernel
theorem dX10_turn_111 : decode cX10_turn 111 = .ok (.iload_n 1, 1) := by decide +kernel
theorem dX10_turn_112 : decode cX10_turn 112 = .ok (.iastore, 1) := by decide +kernel
theorem dX10_turn_113 : decode cX10_turn 113 = .ok (.aload_n 0, 1) := by decide +kernel
theorem dX10_turn_114 : decode cX10_turn 114 = .ok (.getfield 38, 3) := by decide +kernel
theorem dX10_turn_117 : decode cX10_turn 117 = .ok (.bipush 18, 2) := by decide +kernel
theorem dX10_turn_119 : decode cX10_turn 119 = .ok (.aload_n 0, 1) := by decide +kernel
theorem dX10_turn_120 : decode cX10_turn 120 = .ok (.getfield 38, 3) := by decide +kernel
theorem dX10_turn_123 : decode cX10_turn 123 = .ok (.bipush 7, 2) := by decide +kernel
theorem dX10_turn_125 : decode cX10_turn 125 = .ok (.iaload, 1) := by decide +kernel
theorem dX10_turn_126 : decode cX10_turn 126 = .ok (.iadd, 1) := by decide +kernel
theorem dX10_turn_127 : decode cX10_turn 127 = .ok (.iload_n 2, 1) := by decide +kernel
theorem dX10_turn_128 : decode cX10_turn 128 = .ok (.iastore, 1) := by decide +kernel
theorem dX10_turn_129 : decode cX10_turn 129 = .ok (.aload_n 0, 1) := by decide +kernel
theorem dX10_turn_130 : decode cX10_turn 130 = .ok (.getfield 38, 3) := by decide +kernel
theorem dX10_turn_133 : decode cX10_turn 133 = .ok (.bipush 7, 2) := by decide +kernel
theorem dX10_turn_135 : decode cX10_turn 135 = .ok (.dup2, 1) := by decide +kernel
theorem dX10_turn_136 : decode cX10_turn 136 = .ok (.iaload, 1) := by decide +kernel
theorem dX10_turn_137 : decode cX10_turn 137 = .ok (.iconst 1, 1) := by decide +kernel
theorem dX10_turn_138 : decode cX10_turn 138 = .ok (.iadd, 1) := by decide +kernel
theorem dX10_turn_139 : decode cX10_turn 139 = .ok (.iastore, 1) := by decide +kernel
theorem dX10_turn_140 : decode cX10_turn 140 = .ok (.aload_n 0, 1) := by decide +kernel
theorem dX10_turn_141 : decode cX10_turn 141 = .ok (.getfield 38, 3) := by decide +kernel
theorem dX10_turn_144 : decode cX10_turn 144 = .ok (.iconst 1, 1) := by decide +kernel
theorem dX10_turn_145 : decode cX10_turn 145 = .ok (.iload_n 1, 1) := by decide +kernel
theorem dX10_turn_146 : decode cX10_turn 146 = .ok (.iadd, 1) := by decide +kernel
theorem dX10_turn_147 : decode cX10_turn 147 = .ok (.aload_n 0, 1) := by decide +kernel
theorem dX10_turn_148 : decode cX10_turn 148 = .ok (.getfield 38, 3) := by decide +kernel
theorem dX10_turn_151 : decode cX10_turn 151 = .ok (.iconst 1, 1) := by decide +kernel
theorem dX10_turn_152 : decode cX10_turn 152 = .ok (.iload_n 1, 1) := by decide +kernel
theorem dX10_turn_153 : decode cX10_turn 153 = .ok (.iadd, 1) := by decide +kernel
theorem dX10_turn_154 : decode cX10_turn 154 = .ok (.iaload, 1) := by decide +kernel
theorem dX10_turn_155 : decode cX10_turn 155 = .ok (.iload_n 2, 1) := by decide +kernel
theorem dX10_turn_156 : decode cX10_turn 156 = .ok (.iadd, 1) := by decide +kernel
theorem dX10_turn_157 : decode cX10_turn 157 = .ok (.bipush 48, 2) := by decide +kernel
theorem dX10_turn_159 : decode cX10_turn 159 = .ok (.irem, 1) := by decide +kernel
theorem dX10_turn_160 : decode cX10_turn 160 = .ok (.iastore, 1) := by decide +kernel
theorem dX10_turn_161 : decode cX10_turn 161 = .ok (.aload_n 0, 1) := by decide +kernel
theorem dX10_turn_162 : decode cX10_turn 162 = .ok (.iload_n 1, 1) := by decide +kernel
theorem dX10_turn_163 : decode cX10_turn 163 = .ok (.aload_n 0, 1) := by decide +kernel
theorem dX10_turn_164 : decode cX10_turn 164 = .ok (.getfield 38, 3) := by decide +kernel
theorem dX10_turn_167 : decode cX10_turn 167 = .ok (.iconst 0, 1) := by decide +kernel
theorem dX10_turn_168 : decode cX10_turn 168 = .ok (.iaload, 1) := by decide +kernel
theorem dX10_turn_169 : decode cX10_turn 169 = .ok (.invokevirtual 135, 3) := by decide +kernel
theorem dX10_turn_172 : decode cX10_turn 172 = .ok (.ireturn, 1) := by decide +kernel
theorem dX10_undo_0 : decode cX10_undo 0 = .ok (.aload_n 0, 1) := by decide +kernel
theorem dX10_undo_1 : decode cX10_undo 1 = .ok (.getfield 38, 3) := by decide +kernel
theorem dX10_undo_4 : decode cX10_undo 4 = .ok (.bipush 7, 2) := by decide +kernel
theorem dX10_undo_6 : decode cX10_undo 6 = .ok (.iaload, 1) := by decide +kernel
theorem dX10_undo_7 : decode cX10_undo 7 = .ok (.ifCond .ne 6, 3) := by decide +kernel
theorem dX10_undo_10 : decode cX10_undo 10 = .ok (.bipush (-2), 2) := by decide +kernel
theorem dX10_undo_12 : decode cX10_undo 12 = .ok (.ireturn, 1) := by decide +kernel
theorem dX10_undo_13 : decode cX10_undo 13 = .ok (.aload_n 0, 1) := by decide +kernel
theorem dX10_undo_14 : decode cX10_undo 14 = .ok (.getfield 38, 3) := by decide +kernel
theorem dX10_undo_17 : decode cX10_undo 17 = .ok (.bipush 7, 2) := by decide +kernel
theorem dX10_undo_19 : decode cX10_undo 19 = .ok (.dup2, 1) := by decide +kernel
theorem dX10_undo_20 : decode cX10_undo 20 = .ok (.iaload, 1) := by decide +kernel
theorem dX10_undo_21 : decode cX10_undo 21 = .ok (.iconst 1, 1) := by decide +kernel
theorem dX10_undo_22 : decode cX10_undo 22 = .ok (.isub, 1) := by decide +kernel
theorem dX10_undo_23 : decode cX10_undo 23 = .ok (.iastore, 1) := by decide +kernel
theorem dX10_undo_24 : decode cX10_undo 24 = .ok (.aload_n 0, 1) := by decide +kernel
theorem dX10_undo_25 : decode cX10_undo 25 = .ok (.getfield 38, 3) := by decide +kernel
theorem dX10_undo_28 : decode cX10_undo 28 = .ok (.bipush 8, 2) := by decide +kernel
theorem dX10_undo_30 : decode cX10_undo 30 = .ok (.aload_n 0, 1) := by decide +kernel
theorem dX10_undo_31 : decode cX10_undo 31 = .ok (.getfield 38, 3) := by decide +kernel
theorem dX10_undo_34 : decode cX10_undo 34 = .ok (.bipush 7, 2) := by decide +kernel
theorem dX10_undo_36 : decode cX10_undo 36 = .ok (.iaload, 1) := by decide +kernel
theorem dX10_undo_37 : decode cX10_undo 37 = .ok (.iadd, 1) := by decide +kernel
theorem dX10_undo_38 : decode cX10_undo 38 = .ok (.iaload, 1) := by decide +kernel
theorem dX10_undo_39 : decode cX10_undo 39 = .ok (.istore_n 1, 1) := by decide +kernel
theorem dX10_undo_40 : decode cX10_undo 40 = .ok (.aload_n 0, 1) := by decide +kernel
theorem dX10_undo_41 : decode cX10_undo 41 = .ok (.getfield 38, 3) := by decide +kernel
theorem dX10_undo_44 : decode cX10_undo 44 = .ok (.iconst 1, 1) := by decide +kernel
theorem dX10_undo_45 : decode cX10_undo 45 = .ok (.iload_n 1, 1) := by decide +kernel
theorem dX10_undo_46 : decode cX10_undo 46 = .ok (.iadd, 1) := by decide +kernel
theorem dX10_undo_47 : decode cX10_undo 47 = .ok (.aload_n 0, 1) := by decide +kernel
theorem dX10_undo_48 : decode cX10_undo 48 = .ok (.getfield 38, 3) := by decide +kernel
theorem dX10_undo_51 : decode cX10_undo 51 = .ok (.iconst 1, 1) := by decide +kernel
theorem dX10_undo_52 : decode cX10_undo 52 = .ok (.iload_n 1, 1) := by decide +kernel
theorem dX10_undo_53 : decode cX10_undo 53 = .ok (.iadd, 1) := by decide +kernel
theorem dX10_undo_54 : decode cX10_undo 54 = .ok (.iaload, 1) := by decide +kernel
theorem dX10_undo_55 : decode cX10_undo 55 = .ok (.bipush 48, 2) := by decide +kernel
theorem dX10_undo_57 : decode cX10_undo 57 = .ok (.iadd, 1) := by decide +kernel
theorem dX10_undo_58 : decode cX10_undo 58 = .ok (.aload_n 0, 1) := by decide +kernel
theorem dX10_undo_59 : decode cX10_undo 59 = .ok (.getfield 38, 3) := by decide +kernel
theorem dX10_undo_62 : decode cX10_undo 62 = .ok (.bipush 18, 2) := by decide +kernel
theorem dX10_undo_64 : decode cX10_undo 64 = .ok (.aload_n 0, 1) := by decide +kernel
theorem dX10_undo_65 : decode cX10_undo 65 = .ok (.getfield 38, 3) := by decide +kernel
theorem dX10_undo_68 : decode cX10_undo 68 = .ok (.bipush 7, 2) := by decide +kernel
theorem dX10_undo_70 : decode cX10_undo 70 = .ok (.iaload, 1) := by decide +kernel
theorem dX10_undo_71 : decode cX10_undo 71 = .ok (.iadd, 1) := by decide +kernel
theorem dX10_undo_72 : decode cX10_undo 72 = .ok (.iaload, 1) := by decide +kernel
theorem dX10_undo_73 : decode cX10_undo 73 = .ok (.isub, 1) := by decide +kernel
theorem dX10_undo_74 : decode cX10_undo 74 = .ok (.bipush 48, 2) := by decide +kernel
theorem dX10_undo_76 : decode cX10_undo 76 = .ok (.irem, 1) := by decide +kernel
theorem dX10_undo_77 : decode cX10_undo 77 = .ok (.iastore, 1) := by decide +kernel
theorem dX10_undo_78 : decode cX10_undo 78 = .ok (.iload_n 1, 1) := by decide +kernel
theorem dX10_undo_79 : decode cX10_undo 79 = .ok (.ireturn, 1) := by decide +kernel
theorem dX10_errand_0 : decode cX10_errand 0 = .ok (.aload_n 0, 1) := by decide +kernel
theorem dX10_errand_1 : decode cX10_errand 1 = .ok (.iload_n 1, 1) := by decide +kernel
theorem dX10_errand_2 : decode cX10_errand 2 = .ok (.invokevirtual 125, 3) := by decide +kernel
theorem dX10_errand_5 : decode cX10_errand 5 = .ok (.ifCond .eq 28, 3) := by decide +kernel
theorem dX10_errand_8 : decode cX10_errand 8 = .ok (.iload_n 2, 1) := by decide +kernel
theorem dX10_errand_9 : decode cX10_errand 9 = .ok (.invokestatic 138, 3) := by decide +kernel
theorem dX10_errand_12 : decode cX10_errand 12 = .ok (.ifCond .eq 21, 3) := by decide +kernel
theorem dX10_errand_15 : decode cX10_errand 15 = .ok (.iload_n 3, 1) := by decide +kernel
theorem dX10_errand_16 : decode cX10_errand 16 = .ok (.invokestatic 138, 3) := by decide +kernel
theorem dX10_errand_19 : decode cX10_errand 19 = .ok (.ifCond .eq 14, 3) := by decide +kernel
theorem dX10_errand_22 : decode cX10_errand 22 = .ok (.iload 4, 2) := by decide +kernel
theorem dX10_errand_24 : decode cX10_errand 24 = .ok (.iconst 0, 1) := by decide +kernel
theorem dX10_errand_25 : decode cX10_errand 25 = .ok (.bipush 9, 2) := by decide +kernel
theorem dX10_errand_27 : decode cX10_errand 27 = .ok (.invokestatic 63, 3) := by decide +kernel
theorem dX10_errand_30 : decode cX10_errand 30 = .ok (.ifCond .ne 5, 3) := by decide +kernel
theorem dX10_errand_33 : decode cX10_errand 33 = .ok (.iconst (-1), 1) := by decide +kernel
theorem dX10_errand_34 : decode cX10_errand 34 = .ok (.ireturn, 1) := by decide +kernel
theorem dX10_errand_35 : decode cX10_errand 35 = .ok (.aload_n 0, 1) := by decide +kernel
theorem dX10_errand_36 : decode cX10_errand 36 = .ok (.getfield 116, 3) := by decide +kernel
theorem dX10_errand_39 : decode cX10_errand 39 = .ok (.iconst 4, 1) := by decide +kernel
theorem dX10_errand_40 : decode cX10_errand 40 = .ok (.if_icmp .ne 6, 3) := by decide +kernel
theorem dX10_errand_43 : decode cX10_errand 43 = .ok (.bipush (-3), 2) := by decide +kernel
theorem dX10_errand_45 : decode cX10_errand 45 = .ok (.ireturn, 1) := by decide +kernel
theorem dX10_errand_46 : decode cX10_errand 46 = .ok (.aload_n 0, 1) := by decide +kernel
theorem dX10_errand_47 : decode cX10_errand 47 = .ok (.getfield 45, 3) := by decide +kernel
theorem dX10_errand_50 : decode cX10_errand 50 = .ok (.iconst 4, 1) := by decide +kernel
theorem dX10_errand_51 : decode cX10_errand 51 = .ok (.aload_n 0, 1) := by decide +kernel
theorem dX10_errand_52 : decode cX10_errand 52 = .ok (.getfield 116, 3) := by decide +kernel
theorem dX10_errand_55 : decode cX10_errand 55 = .ok (.imul, 1) := by decide +kernel
theorem dX10_errand_56 : decode cX10_errand 56 = .ok (.iload_n 1, 1) := by decide +kernel
theorem dX10_errand_57 : decode cX10_errand 57 = .ok (.iastore, 1) := by decide +kernel
theorem dX10_errand_58 : decode cX10_errand 58 = .ok (.aload_n 0, 1) := by decide +kernel
theorem dX10_errand_59 : decode cX10_errand 59 = .ok (.getfield 45, 3) := by decide +kernel
theorem dX10_errand_62 : decode cX10_errand 62 = .ok (.iconst 4, 1) := by decide +kernel
theorem dX10_errand_63 : decode cX10_errand 63 = .ok (.aload_n 0, 1) := by decide +kernel
theorem dX10_errand_64 : decode cX10_errand 64 = .ok (.getfield 116, 3) := by decide +kernel
theorem dX10_errand_67 : decode cX10_errand 67 = .ok (.imul, 1) := by decide +kernel
theorem dX10_errand_68 : decode cX10_errand 68 = .ok (.iconst 1, 1) := by decide +kernel
theorem dX10_errand_69 : decode cX10_errand 69 = .ok (.iadd, 1) := by decide +kernel
theorem dX10_errand_70 : decode cX10_errand 70 = .ok (.iload_n 2, 1) := by decide +kernel
theorem dX10_errand_71 : decode cX10_errand 71 = .ok (.iastore, 1) := by decide +kernel
theorem dX10_errand_72 : decode cX10_errand 72 = .ok (.aload_n 0, 1) := by decide +kernel
theorem dX10_errand_73 : decode cX10_errand 73 = .ok (.getfield 45, 3) := by decide +kernel
theorem dX10_errand_76 : decode cX10_errand 76 = .ok (.iconst 4, 1) := by decide +kernel
theorem dX10_errand_77 : decode cX10_errand 77 = .ok (.aload_n 0, 1) := by decide +kernel
theorem dX10_errand_78 : decode cX10_errand 78 = .ok (.getfield 116, 3) := by decide +kernel
theorem dX10_errand_81 : decode cX10_errand 81 = .ok (.imul, 1) := by decide +kernel
theorem dX10_errand_82 : decode cX10_errand 82 = .ok (.iconst 2, 1) := by decide +kernel
theorem dX10_errand_83 : decode cX10_errand 83 = .ok (.iadd, 1) := by decide +kernel
theorem dX10_errand_84 : decode cX10_errand 84 = .ok (.iload_n 3, 1) := by decide +kernel
theorem dX10_errand_85 : decode cX10_errand 85 = .ok (.iastore, 1) := by decide +kernel
theorem dX10_errand_86 : decode cX10_errand 86 = .ok (.aload_n 0, 1) := by decide +kernel
theorem dX10_errand_87 : decode cX10_errand 87 = .ok (.getfield 45, 3) := by decide +kernel
theorem dX10_errand_90 : decode cX10_errand 90 = .ok (.iconst 4, 1) := by decide +kernel
theorem dX10_errand_91 : decode cX10_errand 91 = .ok (.aload_n 0, 1) := by decide +kernel
theorem dX10_errand_92 : decode cX10_errand 92 = .ok (.getfield 116, 3) := by decide +kernel
theorem dX10_errand_95 : decode cX10_errand 95 = .ok (.imul, 1) := by decide +kernel
theorem dX10_errand_96 : decode cX10_errand 96 = .ok (.iconst 3, 1) := by decide +kernel
theorem dX10_errand_97 : decode cX10_errand 97 = .ok (.iadd, 1) := by decide +kernel
theorem dX10_errand_98 : decode cX10_errand 98 = .ok (.iload 4, 2) := by decide +kernel
theorem dX10_errand_100 : decode cX10_errand 100 = .ok (.iastore, 1) := by decide +kernel
theorem dX10_errand_101 : decode cX10_errand 101 = .ok (.aload_n 0, 1) := by decide +kernel
theorem dX10_errand_102 : decode cX10_errand 102 = .ok (.dup, 1) := by decide +kernel
theorem dX10_errand_103 : decode cX10_errand 103 = .ok (.getfield 116, 3) := by decide +kernel
theorem dX10_errand_106 : decode cX10_errand 106 = .ok (.iconst 1, 1) := by decide +kernel
theorem dX10_errand_107 : decode cX10_errand 107 = .ok (.iadd, 1) := by decide +kernel
theorem dX10_errand_108 : decode cX10_errand 108 = .ok (.putfield 116, 3) := by decide +kernel
theorem dX10_errand_111 : decode cX10_errand 111 = .ok (.aload_n 0, 1) := by decide +kernel
theorem dX10_errand_112 : decode cX10_errand 112 = .ok (.getfield 116, 3) := by decide +kernel
theorem dX10_errand_115 : decode cX10_errand 115 = .ok (.ireturn, 1) := by decide +kernel
theorem dX10_rests_0 : decode cX10_rests 0 = .ok (.aload_n 0, 1) := by decide +kernel
theorem dX10_rests_1 : decode cX10_rests 1 = .ok (.getfield 116, 3) := by decide +kernel
theorem dX10_rests_4 : decode cX10_rests 4 = .ok (.istore_n 1, 1) := by decide +kernel
theorem dX10_rests_5 : decode cX10_rests 5 = .ok (.aload_n 0, 1) := by decide +kernel
theorem dX10_rests_6 : decode cX10_rests 6 = .ok (.iconst 0, 1) := by decide +kernel
theorem dX10_rests_7 : decode cX10_rests 7 = .ok (.putfield 116, 3) := by decide +kernel
theorem dX10_rests_10 : decode cX10_rests 10 = .ok (.iload_n 1, 1) := by decide +kernel
theorem dX10_rests_11 : decode cX10_rests 11 = .ok (.ireturn, 1) := by decide +kernel
theorem dX10_isOrder_0 : decode cX10_isOrder 0 = .ok (.iload_n 1, 1) := by decide +kernel
theorem dX10_isOrder_1 : decode cX10_isOrder 1 = .ok (.istore_n 2, 1) := by decide +kernel
theorem dX10_isOrder_2 : decode cX10_isOrder 2 = .ok (.iconst 0, 1) := by decide +kernel
theorem dX10_isOrder_3 : decode cX10_isOrder 3 = .ok (.istore_n 3, 1) := by decide +kernel
theorem dX10_isOrder_4 : decode cX10_isOrder 4 = .ok (.aload_n 0, 1) := by decide +kernel
theorem dX10_isOrder_5 : decode cX10_isOrder 5 = .ok (.getfield 116, 3) := by decide +kernel
theorem dX10_isOrder_8 : decode cX10_isOrder 8 = .ok (.iconst 1, 1) := by decide +kernel
theorem dX10_isOrder_9 : decode cX10_isOrder 9 = .ok (.isub, 1) := by decide +kernel
theorem dX10_isOrder_10 : decode cX10_isOrder 10 = .ok (.istore 4, 2) := by decide +kernel
theorem dX10_isOrder_12 : decode cX10_isOrder 12 = .ok (.iload 4, 2) := by decide +kernel
theorem dX10_isOrder_14 : decode cX10_isOrder 14 = .ok (.ifCond .lt 41, 3) := by decide +kernel
theorem dX10_isOrder_17 : decode cX10_isOrder 17 = .ok (.aload_n 0, 1) := by decide +kernel
theorem dX10_isOrder_18 : decode cX10_isOrder 18 = .ok (.getfield 48, 3) := by decide +kernel
theorem dX10_isOrder_21 : decode cX10_isOrder 21 = .ok (.iload 4, 2) := by decide +kernel
theorem dX10_isOrder_23 : decode cX10_isOrder 23 = .ok (.iload_n 2, 1) := by decide +kernel
theorem dX10_isOrder_24 : decode cX10_isOrder 24 = .ok (.aload_n 0, 1) := by decide +kernel
theorem dX10_isOrder_25 : decode cX10_isOrder 25 = .ok (.getfield 116, 3) := by decide +kernel
theorem dX10_isOrder_28 : decode cX10_isOrder 28 = .ok (.irem, 1) := by decide +kernel
theorem dX10_isOrder_29 : decode cX10_isOrder 29 = .ok (.iastore, 1) := by decide +kernel
theorem dX10_isOrder_30 : decode cX10_isOrder 30 = .ok (.iload_n 2, 1) := by decide +kernel
theorem dX10_isOrder_31 : decode cX10_isOrder 31 = .ok (.aload_n 0, 1) := by decide +kernel
theorem dX10_isOrder_32 : decode cX10_isOrder 32 = .ok (.getfield 116, 3) := by decide +kernel
theorem dX10_isOrder_35 : decode cX10_isOrder 35 = .ok (.idiv, 1) := by decide +kernel
theorem dX10_isOrder_36 : decode cX10_isOrder 36 = .ok (.istore_n 2, 1) := by decide +kernel
theorem dX10_isOrder_37 : decode cX10_isOrder 37 = .ok (.iload_n 3, 1) := by decide +kernel
theorem dX10_isOrder_38 : decode cX10_isOrder 38 = .ok (.iconst 1, 1) := by decide +kernel
theorem dX10_isOrder_39 : decode cX10_isOrder 39 = .ok (.aload_n 0, 1) := by decide +kernel
theorem dX10_isOrder_40 : decode cX10_isOrder 40 = .ok (.getfield 48, 3) := by decide +kernel
theorem dX10_isOrder_43 : decode cX10_isOrder 43 = .ok (.iload 4, 2) := by decide +kernel
theorem dX10_isOrder_45 : decode cX10_isOrder 45 = .ok (.iaload, 1) := by decide +kernel
theorem dX10_isOrder_46 : decode cX10_isOrder 46 = .ok (.ishl, 1) := by decide +kernel
theorem dX10_isOrder_47 : decode cX10_isOrder 47 = .ok (.ior, 1) := by decide +kernel
theorem dX10_isOrder_48 : decode cX10_isOrder 48 = .ok (.istore_n 3, 1) := by decide +kernel
theorem dX10_isOrder_49 : decode cX10_isOrder 49 = .ok (.iinc 4 (-1), 3) := by decide +kernel
theorem dX10_isOrder_52 : decode cX10_isOrder 52 = .ok (.goto (-40), 3) := by decide +kernel
theorem dX10_isOrder_55 : decode cX10_isOrder 55 = .ok (.iload_n 3, 1) := by decide +kernel
theorem dX10_isOrder_56 : decode cX10_isOrder 56 = .ok (.iconst 1, 1) := by decide +kernel
theorem dX10_isOrder_57 : decode cX10_isOrder 57 = .ok (.aload_n 0, 1) := by decide +kernel
theorem dX10_isOrder_58 : decode cX10_isOrder 58 = .ok (.getfield 116, 3) := by decide +kernel
theorem dX10_isOrder_61 : decode cX10_isOrder 61 = .ok (.ishl, 1) := by decide +kernel
theorem dX10_isOrder_62 : decode cX10_isOrder 62 = .ok (.iconst 1, 1) := by decide +kernel
theorem dX10_isOrder_63 : decode cX10_isOrder 63 = .ok (.isub, 1) := by decide +kernel
theorem dX10_isOrder_64 : decode cX10_isOrder 64 = .ok (.if_icmp .ne 7, 3) := by decide +kernel
theorem dX10_isOrder_67 : decode cX10_isOrder 67 = .ok (.iconst 1, 1) := by decide +kernel
theorem dX10_isOrder_68 : decode cX10_isOrder 68 = .ok (.goto 4, 3) := by decide +kernel
theorem dX10_isOrder_71 : decode cX10_isOrder 71 = .ok (.iconst 0, 1) := by decide +kernel
theorem dX10_isOrder_72 : decode cX10_isOrder 72 = .ok (.ireturn, 1) := by decide +kernel
theorem dX10_endOf_0 : decode cX10_endOf 0 = .ok (.aload_n 0, 1) := by decide +kernel
theorem dX10_endOf_1 : decode cX10_endOf 1 = .ok (.getfield 38, 3) := by decide +kernel
theorem dX10_endOf_4 : decode cX10_endOf 4 = .ok (.iconst 0, 1) := by decide +kernel
theorem dX10_endOf_5 : decode cX10_endOf 5 = .ok (.iaload, 1) := by decide +kernel
theorem dX10_endOf_6 : decode cX10_endOf 6 = .ok (.istore_n 2, 1) := by decide +kernel
theorem dX10_endOf_7 : decode cX10_endOf 7 = .ok (.iload_n 1, 1) := by decide +kernel
theorem dX10_endOf_8 : decode cX10_endOf 8 = .ok (.istore_n 3, 1) := by decide +kernel
theorem dX10_endOf_9 : decode cX10_endOf 9 = .ok (.iconst 0, 1) := by decide +kernel
theorem dX10_endOf_10 : decode cX10_endOf 10 = .ok (.istore 4, 2) := by decide +kernel
theorem dX10_endOf_12 : decode cX10_endOf 12 = .ok (.iload 4, 2) := by decide +kernel
theorem dX10_endOf_14 : decode cX10_endOf 14 = .ok (.aload_n 0, 1) := by decide +kernel
theorem dX10_endOf_15 : decode cX10_endOf 15 = .ok (.getfield 116, 3) := by decide +kernel
theorem dX10_endOf_18 : decode cX10_endOf 18 = .ok (.if_icmp .ge 139, 3) := by decide +kernel
theorem dX10_endOf_21 : decode cX10_endOf 21 = .ok (.iconst 4, 1) := by decide +kernel
theorem dX10_endOf_22 : decode cX10_endOf 22 = .ok (.aload_n 0, 1) := by decide +kernel
theorem dX10_endOf_23 : decode cX10_endOf 23 = .ok (.getfield 48, 3) := by decide +kernel
theorem dX10_endOf_26 : decode cX10_endOf 26 = .ok (.iload 4, 2) := by decide +kernel
theorem dX10_endOf_28 : decode cX10_endOf 28 = .ok (.iaload, 1) := by decide +kernel
theorem dX10_endOf_29 : decode cX10_endOf 29 = .ok (.imul, 1) := by decide +kernel
theorem dX10_endOf_30 : decode cX10_endOf 30 = .ok (.istore 5, 2) := by decide +kernel
theorem dX10_endOf_32 : decode cX10_endOf 32 = .ok (.iload_n 2, 1) := by decide +kernel
theorem dX10_endOf_33 : decode cX10_endOf 33 = .ok (.aload_n 0, 1) := by decide +kernel
theorem dX10_endOf_34 : decode cX10_endOf 34 = .ok (.getfield 45, 3) := by decide +kernel
theorem dX10_endOf_37 : decode cX10_endOf 37 = .ok (.iload 5, 2) := by decide +kernel
theorem dX10_endOf_39 : decode cX10_endOf 39 = .ok (.iaload, 1) := by decide +kernel
theorem dX10_endOf_40 : decode cX10_endOf 40 = .ok (.iload_n 3, 1) := by decide +kernel
theorem dX10_endOf_41 : decode cX10_endOf 41 = .ok (.if_icmp .ne 7, 3) := by decide +kernel
theorem dX10_endOf_44 : decode cX10_endOf 44 = .ok (.iconst 0, 1) := by decide +kernel
theorem dX10_endOf_45 : decode cX10_endOf 45 = .ok (.goto 9, 3) := by decide +kernel
theorem dX10_endOf_48 : decode cX10_endOf 48 = .ok (.aload_n 0, 1) := by decide +kernel
theorem dX10_endOf_49 : decode cX10_endOf 49 = .ok (.getfield 17, 3) := by decide +kernel
theorem dX10_endOf_52 : decode cX10_endOf 52 = .ok (.iconst 0, 1) := by decide +kernel
theorem dX10_endOf_53 : decode cX10_endOf 53 = .ok (.iaload, 1) := by decide +kernel
theorem dX10_endOf_54 : decode cX10_endOf 54 = .ok (.iadd, 1) := by decide +kernel
theorem dX10_endOf_55 : decode cX10_endOf 55 = .ok (.istore_n 2, 1) := by decide +kernel
theorem dX10_endOf_56 : decode cX10_endOf 56 = .ok (.aload_n 0, 1) := by decide +kernel
theorem dX10_endOf_57 : decode cX10_endOf 57 = .ok (.getfield 45, 3) := by decide +kernel
theorem dX10_endOf_60 : decode cX10_endOf 60 = .ok (.iload 5, 2) := by decide +kernel
theorem dX10_endOf_62 : decode cX10_endOf 62 = .ok (.iaload, 1) := by decide +kernel
theorem dX10_endOf_63 : decode cX10_endOf 63 = .ok (.istore_n 3, 1) := by decide +kernel
theorem dX10_endOf_64 : decode cX10_endOf 64 = .ok (.aload_n 0, 1) := by decide +kernel
theorem dX10_endOf_65 : decode cX10_endOf 65 = .ok (.getfield 45, 3) := by decide +kernel
theorem dX10_endOf_68 : decode cX10_endOf 68 = .ok (.iload 5, 2) := by decide +kernel
theorem dX10_endOf_70 : decode cX10_endOf 70 = .ok (.iconst 2, 1) := by decide +kernel
theorem dX10_endOf_71 : decode cX10_endOf 71 = .ok (.iadd, 1) := by decide +kernel
theorem dX10_endOf_72 : decode cX10_endOf 72 = .ok (.iaload, 1) := by decide +kernel
theorem dX10_endOf_73 : decode cX10_endOf 73 = .ok (.aload_n 0, 1) := by decide +kernel
theorem dX10_endOf_74 : decode cX10_endOf 74 = .ok (.getfield 45, 3) := by decide +kernel
theorem dX10_endOf_77 : decode cX10_endOf 77 = .ok (.iload 5, 2) := by decide +kernel
theorem dX10_endOf_79 : decode cX10_endOf 79 = .ok (.iconst 1, 1) := by decide +kernel
theorem dX10_endOf_80 : decode cX10_endOf 80 = .ok (.iadd, 1) := by decide +kernel
theorem dX10_endOf_81 : decode cX10_endOf 81 = .ok (.iaload, 1) := by decide +kernel
theorem dX10_endOf_82 : decode cX10_endOf 82 = .ok (.isub, 1) := by decide +kernel
theorem dX10_endOf_83 : decode cX10_endOf 83 = .ok (.bipush 48, 2) := by decide +kernel
theorem dX10_endOf_85 : decode cX10_endOf 85 = .ok (.iadd, 1) := by decide +kernel
theorem dX10_endOf_86 : decode cX10_endOf 86 = .ok (.bipush 48, 2) := by decide +kernel
theorem dX10_endOf_88 : decode cX10_endOf 88 = .ok (.irem, 1) := by decide +kernel
theorem dX10_endOf_89 : decode cX10_endOf 89 = .ok (.istore 6, 2) := by decide +kernel
theorem dX10_endOf_91 : decode cX10_endOf 91 = .ok (.iload_n 2, 1) := by decide +kernel
theorem dX10_endOf_92 : decode cX10_endOf 92 = .ok (.bipush 95, 2) := by decide +kernel
theorem dX10_endOf_94 : decode cX10_endOf 94 = .ok (.if_icmp .gt 36, 3) := by decide +kernel
theorem dX10_endOf_97 : decode cX10_endOf 97 = .ok (.aload_n 0, 1) := by decide +kernel
theorem dX10_endOf_98 : decode cX10_endOf 98 = .ok (.iload_n 3, 1) := by decide +kernel
theorem dX10_endOf_99 : decode cX10_endOf 99 = .ok (.iload_n 2, 1) := by decide +kernel
theorem dX10_endOf_100 : decode cX10_endOf 100 = .ok (.invokevirtual 135, 3) := by decide +kernel
theorem dX10_endOf_103 : decode cX10_endOf 103 = .ok (.aload_n 0, 1) := by decide +kernel
theorem dX10_endOf_104 : decode cX10_endOf 104 = .ok (.getfield 45, 3) := by decide +kernel
theorem dX10_endOf_107 : decode cX10_endOf 107 = .ok (.iload 5, 2) := by decide +kernel
theorem dX10_endOf_109 : decode cX10_endOf 109 = .ok (.iconst 1, 1) := by decide +kernel
theorem dX10_endOf_110 : decode cX10_endOf 110 = .ok (.iadd, 1) := by decide +kernel
theorem dX10_endOf_111 : decode cX10_endOf 111 = .ok (.iaload, 1) := by decide +kernel
theorem dX10_endOf_112 : decode cX10_endOf 112 = .ok (.isub, 1) := by decide +kernel
theorem dX10_endOf_113 : decode cX10_endOf 113 = .ok (.bipush 48, 2) := by decide +kernel
theorem dX10_endOf_115 : decode cX10_endOf 115 = .ok (.iadd, 1) := by decide +kernel
theorem dX10_endOf_116 : decode cX10_endOf 116 = .ok (.bipush 48, 2) := by decide +kernel
theorem dX10_endOf_118 : decode cX10_endOf 118 = .ok (.irem, 1) := by decide +kernel
theorem dX10_endOf_119 : decode cX10_endOf 119 = .ok (.iload 6, 2) := by decide +kernel
theorem dX10_endOf_121 : decode cX10_endOf 121 = .ok (.if_icmp .le 9, 3) := by decide +kernel
theorem dX10_endOf_124 : decode cX10_endOf 124 = .ok (.iinc 2 1, 3) := by decide +kernel
theorem dX10_endOf_127 : decode cX10_endOf 127 = .ok (.goto (-36), 3) := by decide +kernel
theorem dX10_endOf_130 : decode cX10_endOf 130 = .ok (.iload_n 2, 1) := by decide +kernel
theorem dX10_endOf_131 : decode cX10_endOf 131 = .ok (.aload_n 0, 1) := by decide +kernel
theorem dX10_endOf_132 : decode cX10_endOf 132 = .ok (.getfield 45, 3) := by decide +kernel
theorem dX10_endOf_135 : decode cX10_endOf 135 = .ok (.iload 5, 2) := by decide +kernel
theorem dX10_endOf_137 : decode cX10_endOf 137 = .ok (.iconst 3, 1) := by decide +kernel
theorem dX10_endOf_138 : decode cX10_endOf 138 = .ok (.iadd, 1) := by decide +kernel
theorem dX10_endOf_139 : decode cX10_endOf 139 = .ok (.iaload, 1) := by decide +kernel
theorem dX10_endOf_140 : decode cX10_endOf 140 = .ok (.iadd, 1) := by decide +kernel
theorem dX10_endOf_141 : decode cX10_endOf 141 = .ok (.istore_n 2, 1) := by decide +kernel
theorem dX10_endOf_142 : decode cX10_endOf 142 = .ok (.iload_n 2, 1) := by decide +kernel
theorem dX10_endOf_143 : decode cX10_endOf 143 = .ok (.bipush 95, 2) := by decide +kernel
theorem dX10_endOf_145 : decode cX10_endOf 145 = .ok (.if_icmp .le 6, 3) := by decide +kernel
theorem dX10_endOf_148 : decode cX10_endOf 148 = .ok (.bipush (-9), 2) := by decide +kernel
theorem dX10_endOf_150 : decode cX10_endOf 150 = .ok (.ireturn, 1) := by decide +kernel
theorem dX10_endOf_151 : decode cX10_endOf 151 = .ok (.iinc 4 1, 3) := by decide +kernel
theorem dX10_endOf_154 : decode cX10_endOf 154 = .ok (.goto (-142), 3) := by decide +kernel
theorem dX10_endOf_157 : decode cX10_endOf 157 = .ok (.iload_n 2, 1) := by decide +kernel
theorem dX10_endOf_158 : decode cX10_endOf 158 = .ok (.ireturn, 1) := by decide +kernel
theorem dX10_soonest_0 : decode cX10_soonest 0 = .ok (.aload_n 0, 1) := by decide +kernel
theorem dX10_soonest_1 : decode cX10_soonest 1 = .ok (.iload_n 1, 1) := by decide +kernel
theorem dX10_soonest_2 : decode cX10_soonest 2 = .ok (.invokevirtual 125, 3) := by decide +kernel
theorem dX10_soonest_5 : decode cX10_soonest 5 = .ok (.ifCond .eq 8, 3) := by decide +kernel
theorem dX10_soonest_8 : decode cX10_soonest 8 = .ok (.iload_n 2, 1) := by decide +kernel
theorem dX10_soonest_9 : decode cX10_soonest 9 = .ok (.iconst (-1), 1) := by decide +kernel
theorem dX10_soonest_10 : decode cX10_soonest 10 = .ok (.if_icmp .ge 5, 3) := by decide +kernel
theorem dX10_soonest_13 : decode cX10_soonest 13 = .ok (.iconst (-1), 1) := by decide +kernel
theorem dX10_soonest_14 : decode cX10_soonest 14 = .ok (.ireturn, 1) := by decide +kernel
theorem dX10_soonest_15 : decode cX10_soonest 15 = .ok (.iconst 1, 1) := by decide +kernel
theorem dX10_soonest_16 : decode cX10_soonest 16 = .ok (.istore_n 3, 1) := by decide +kernel
theorem dX10_soonest_17 : decode cX10_soonest 17 = .ok (.iconst 0, 1) := by decide +kernel
theorem dX10_soonest_18 : decode cX10_soonest 18 = .ok (.istore 4, 2) := by decide +kernel
theorem dX10_soonest_20 : decode cX10_soonest 20 = .ok (.iload 4, 2) := by decide +kernel
theorem dX10_soonest_22 : decode cX10_soonest 22 = .ok (.aload_n 0, 1) := by decide +kernel
theorem dX10_soonest_23 : decode cX10_soonest 23 = .ok (.getfield 116, 3) := by decide +kernel
theorem dX10_soonest_26 : decode cX10_soonest 26 = .ok (.if_icmp .ge 16, 3) := by decide +kernel
theorem dX10_soonest_29 : decode cX10_soonest 29 = .ok (.iload_n 3, 1) := by decide +kernel
theorem dX10_soonest_30 : decode cX10_soonest 30 = .ok (.aload_n 0, 1) := by decide +kernel
theorem dX10_soonest_31 : decode cX10_soonest 31 = .ok (.getfield 116, 3) := by decide +kernel
theorem dX10_soonest_34 : decode cX10_soonest 34 = .ok (.imul, 1) := by decide +kernel
theorem dX10_soonest_35 : decode cX10_soonest 35 = .ok (.istore_n 3, 1) := by decide +kernel
theorem dX10_soonest_36 : decode cX10_soonest 36 = .ok (.iinc 4 1, 3) := by decide +kernel
theorem dX10_soonest_39 : decode cX10_soonest 39 = .ok (.goto (-19), 3) := by decide +kernel
theorem dX10_soonest_42 : decode cX10_soonest 42 = .ok (.bipush (-9), 2) := by decide +kernel
theorem dX10_soonest_44 : decode cX10_soonest 44 = .ok (.istore 4, 2) := by decide +kernel
theorem dX10_soonest_46 : decode cX10_soonest 46 = .ok (.iconst 0, 1) := by decide +kernel
theorem dX10_soonest_47 : decode cX10_soonest 47 = .ok (.istore 5, 2) := by decide +kernel
theorem dX10_soonest_49 : decode cX10_soonest 49 = .ok (.iload 5, 2) := by decide +kernel
theorem dX10_soonest_51 : decode cX10_soonest 51 = .ok (.iload_n 3, 1) := by decide +kernel
theorem dX10_soonest_52 : decode cX10_soonest 52 = .ok (.if_icmp .ge 87, 3) := by decide +kernel
theorem dX10_soonest_55 : decode cX10_soonest 55 = .ok (.aload_n 0, 1) := by decide +kernel
theorem dX10_soonest_56 : decode cX10_soonest 56 = .ok (.iload 5, 2) := by decide +kernel
theorem dX10_soonest_58 : decode cX10_soonest 58 = .ok (.invokevirtual 148, 3) := by decide +kernel
theorem dX10_soonest_61 : decode cX10_soonest 61 = .ok (.ifCond .eq 11, 3) := by decide +kernel
theorem dX10_soonest_64 : decode cX10_soonest 64 = .ok (.aload_n 0, 1) := by decide +kernel
theorem dX10_soonest_65 : decode cX10_soonest 65 = .ok (.iload_n 1, 1) := by decide +kernel
theorem dX10_soonest_66 : decode cX10_soonest 66 = .ok (.invokevirtual 151, 3) := by decide +kernel
theorem dX10_soonest_69 : decode cX10_soonest 69 = .ok (.goto 5, 3) := by decide +kernel
theorem dX10_soonest_72 : decode cX10_soonest 72 = .ok (.bipush (-9), 2) := by decide +kernel
theorem dX10_soonest_74 : decode cX10_soonest 74 = .ok (.istore 6, 2) := by decide +kernel
theorem dX10_soonest_76 : decode cX10_soonest 76 = .ok (.iload 6, 2) := by decide +kernel
theorem dX10_soonest_78 : decode cX10_soonest 78 = .ok (.bipush (-9), 2) := by decide +kernel
theorem dX10_soonest_80 : decode cX10_soonest 80 = .ok (.if_icmp .eq 53, 3) := by decide +kernel
theorem dX10_soonest_83 : decode cX10_soonest 83 = .ok (.iload 4, 2) := by decide +kernel
theorem dX10_soonest_85 : decode cX10_soonest 85 = .ok (.bipush (-9), 2) := by decide +kernel
theorem dX10_soonest_87 : decode cX10_soonest 87 = .ok (.if_icmp .eq 10, 3) := by decide +kernel
theorem dX10_soonest_90 : decode cX10_soonest 90 = .ok (.iload 6, 2) := by decide +kernel
theorem dX10_soonest_92 : decode cX10_soonest 92 = .ok (.iload 4, 2) := by decide +kernel
theorem dX10_soonest_94 : decode cX10_soonest 94 = .ok (.if_icmp .ge 39, 3) := by decide +kernel
theorem dX10_soonest_97 : decode cX10_soonest 97 = .ok (.iload 6, 2) := by decide +kernel
theorem dX10_soonest_99 : decode cX10_soonest 99 = .ok (.istore 4, 2) := by decide +kernel
theorem dX10_soonest_101 : decode cX10_soonest 101 = .ok (.iconst 0, 1) := by decide +kernel
theorem dX10_soonest_102 : decode cX10_soonest 102 = .ok (.istore 7, 2) := by decide +kernel
theorem dX10_soonest_104 : decode cX10_soonest 104 = .ok (.iload 7, 2) := by decide +kernel
theorem dX10_soonest_106 : decode cX10_soonest 106 = .ok (.aload_n 0, 1) := by decide +kernel
theorem dX10_soonest_107 : decode cX10_soonest 107 = .ok (.getfield 116, 3) := by decide +kernel
theorem dX10_soonest_110 : decode cX10_soonest 110 = .ok (.if_icmp .ge 23, 3) := by decide +kernel
theorem dX10_soonest_113 : decode cX10_soonest 113 = .ok (.aload_n 0, 1) := by decide +kernel
theorem dX10_soonest_114 : decode cX10_soonest 114 = .ok (.getfield 51, 3) := by decide +kernel
theorem dX10_soonest_117 : decode cX10_soonest 117 = .ok (.iload 7, 2) := by decide +kernel
theorem dX10_soonest_119 : decode cX10_soonest 119 = .ok (.aload_n 0, 1) := by decide +kernel
theorem dX10_soonest_120 : decode cX10_soonest 120 = .ok (.getfield 48, 3) := by decide +kernel
theorem dX10_soonest_123 : decode cX10_soonest 123 = .ok (.iload 7, 2) := by decide +kernel
theorem dX10_soonest_125 : decode cX10_soonest 125 = .ok (.iaload, 1) := by decide +kernel
theorem dX10_soonest_126 : decode cX10_soonest 126 = .ok (.iastore, 1) := by decide +kernel
theorem dX10_soonest_127 : decode cX10_soonest 127 = .ok (.iinc 7 1, 3) := by decide +kernel
theorem dX10_soonest_130 : decode cX10_soonest 130 = .ok (.goto (-26), 3) := by decide +kernel
theorem dX10_soonest_133 : decode cX10_soonest 133 = .ok (.iinc 5 1, 3) := by decide +kernel
theorem dX10_soonest_136 : decode cX10_soonest 136 = .ok (.goto (-87), 3) := by decide +kernel
theorem dX10_soonest_139 : decode cX10_soonest 139 = .ok (.iload 4, 2) := by decide +kernel
theorem dX10_soonest_141 : decode cX10_soonest 141 = .ok (.bipush (-9), 2) := by decide +kernel
theorem dX10_soonest_143 : decode cX10_soonest 143 = .ok (.if_icmp .eq 8, 3) := by decide +kernel
theorem dX10_soonest_146 : decode cX10_soonest 146 = .ok (.iload_n 2, 1) := by decide +kernel
theorem dX10_soonest_147 : decode cX10_soonest 147 = .ok (.iconst (-1), 1) := by decide +kernel
theorem dX10_soonest_148 : decode cX10_soonest 148 = .ok (.if_icmp .ne 8, 3) := by decide +kernel
theorem dX10_soonest_151 : decode cX10_soonest 151 = .ok (.iload 4, 2) := by decide +kernel
theorem dX10_soonest_153 : decode cX10_soonest 153 = .ok (.goto 22, 3) := by decide +kernel
theorem dX10_soonest_156 : decode cX10_soonest 156 = .ok (.iload_n 2, 1) := by decide +kernel
theorem dX10_soonest_157 : decode cX10_soonest 157 = .ok (.aload_n 0, 1) := by decide +kernel
theorem dX10_soonest_158 : decode cX10_soonest 158 = .ok (.getfield 116, 3) := by decide +kernel
theorem dX10_soonest_161 : decode cX10_soonest 161 = .ok (.if_icmp .ge 12, 3) := by decide +kernel
theorem dX10_soonest_164 : decode cX10_soonest 164 = .ok (.aload_n 0, 1) := by decide +kernel
theorem dX10_soonest_165 : decode cX10_soonest 165 = .ok (.getfield 51, 3) := by decide +kernel
theorem dX10_soonest_168 : decode cX10_soonest 168 = .ok (.iload_n 2, 1) := by decide +kernel
theorem dX10_soonest_169 : decode cX10_soonest 169 = .ok (.iaload, 1) := by decide +kernel
theorem dX10_soonest_170 : decode cX10_soonest 170 = .ok (.goto 5, 3) := by decide +kernel
theorem dX10_soonest_173 : decode cX10_soonest 173 = .ok (.bipush (-5), 2) := by decide +kernel
theorem dX10_soonest_175 : decode cX10_soonest 175 = .ok (.ireturn, 1) := by decide +kernel
theorem dX10_spread_0 : decode cX10_spread 0 = .ok (.bipush (-9), 2) := by decide +kernel
theorem dX10_spread_2 : decode cX10_spread 2 = .ok (.istore_n 2, 1) := by decide +kernel
theorem dX10_spread_3 : decode cX10_spread 3 = .ok (.bipush (-9), 2) := by decide +kernel
theorem dX10_spread_5 : decode cX10_spread 5 = .ok (.istore_n 3, 1) := by decide +kernel
theorem dX10_spread_6 : decode cX10_spread 6 = .ok (.iconst 0, 1) := by decide +kernel
theorem dX10_spread_7 : decode cX10_spread 7 = .ok (.istore 4, 2) := by decide +kernel
theorem dX10_spread_9 : decode cX10_spread 9 = .ok (.iload 4, 2) := by decide +kernel
theorem dX10_spread_11 : decode cX10_spread 11 = .ok (.aload_n 0, 1) := by decide +kernel
theorem dX10_spread_12 : decode cX10_spread 12 = .ok (.getfield 13, 3) := by decide +kernel
theorem dX10_spread_15 : decode cX10_spread 15 = .ok (.iconst 0, 1) := by decide +kernel
theorem dX10_spread_16 : decode cX10_spread 16 = .ok (.iaload, 1) := by decide +kernel
theorem dX10_spread_17 : decode cX10_spread 17 = .ok (.if_icmp .ge 61, 3) := by decide +kernel
theorem dX10_spread_20 : decode cX10_spread 20 = .ok (.aload_n 0, 1) := by decide +kernel
theorem dX10_spread_21 : decode cX10_spread 21 = .ok (.iload 4, 2) := by decide +kernel
theorem dX10_spread_23 : decode cX10_spread 23 = .ok (.iload_n 1, 1) := by decide +kernel
theorem dX10_spread_24 : decode cX10_spread 24 = .ok (.iconst 0, 1) := by decide +kernel
theorem dX10_spread_25 : decode cX10_spread 25 = .ok (.invokevirtual 141, 3) := by decide +kernel
theorem dX10_spread_28 : decode cX10_spread 28 = .ok (.istore 5, 2) := by decide +kernel
theorem dX10_spread_30 : decode cX10_spread 30 = .ok (.iload 5, 2) := by decide +kernel
theorem dX10_spread_32 : decode cX10_spread 32 = .ok (.bipush (-9), 2) := by decide +kernel
theorem dX10_spread_34 : decode cX10_spread 34 = .ok (.if_icmp .ne 6, 3) := by decide +kernel
theorem dX10_spread_37 : decode cX10_spread 37 = .ok (.bipush (-9), 2) := by decide +kernel
theorem dX10_spread_39 : decode cX10_spread 39 = .ok (.ireturn, 1) := by decide +kernel
theorem dX10_spread_40 : decode cX10_spread 40 = .ok (.iload_n 2, 1) := by decide +kernel
theorem dX10_spread_41 : decode cX10_spread 41 = .ok (.bipush (-9), 2) := by decide +kernel
theorem dX10_spread_43 : decode cX10_spread 43 = .ok (.if_icmp .eq 9, 3) := by decide +kernel
theorem dX10_spread_46 : decode cX10_spread 46 = .ok (.iload 5, 2) := by decide +kernel
theorem dX10_spread_48 : decode cX10_spread 48 = .ok (.iload_n 2, 1) := by decide +kernel
theorem dX10_spread_49 : decode cX10_spread 49 = .ok (.if_icmp .ge 8, 3) := by decide +kernel
theorem dX10_spread_52 : decode cX10_spread 52 = .ok (.iload 5, 2) := by decide +kernel
theorem dX10_spread_54 : decode cX10_spread 54 = .ok (.goto 4, 3) := by decide +kernel
theorem dX10_spread_57 : decode cX10_spread 57 = .ok (.iload_n 2, 1) := by decide +kernel
theorem dX10_spread_58 : decode cX10_spread 58 = .ok (.istore_n 2, 1) := by decide +kernel
theorem dX10_spread_59 : decode cX10_spread 59 = .ok (.iload 5, 2) := by decide +kernel
theorem dX10_spread_61 : decode cX10_spread 61 = .ok (.iload_n 3, 1) := by decide +kernel
theorem dX10_spread_62 : decode cX10_spread 62 = .ok (.if_icmp .le 8, 3) := by decide +kernel
theorem dX10_spread_65 : decode cX10_spread 65 = .ok (.iload 5, 2) := by decide +kernel
theorem dX10_spread_67 : decode cX10_spread 67 = .ok (.goto 4, 3) := by decide +kernel
theorem dX10_spread_70 : decode cX10_spread 70 = .ok (.iload_n 3, 1) := by decide +kernel
theorem dX10_spread_71 : decode cX10_spread 71 = .ok (.istore_n 3, 1) := by decide +kernel
theorem dX10_spread_72 : decode cX10_spread 72 = .ok (.iinc 4 1, 3) := by decide +kernel
theorem dX10_spread_75 : decode cX10_spread 75 = .ok (.goto (-66), 3) := by decide +kernel
theorem dX10_spread_78 : decode cX10_spread 78 = .ok (.iload_n 2, 1) := by decide +kernel
theorem dX10_spread_79 : decode cX10_spread 79 = .ok (.bipush (-9), 2) := by decide +kernel
theorem dX10_spread_81 : decode cX10_spread 81 = .ok (.if_icmp .ne 8, 3) := by decide +kernel
theorem dX10_spread_84 : decode cX10_spread 84 = .ok (.bipush (-9), 2) := by decide +kernel
theorem dX10_spread_86 : decode cX10_spread 86 = .ok (.goto 6, 3) := by decide +kernel
theorem dX10_spread_89 : decode cX10_spread 89 = .ok (.iload_n 3, 1) := by decide +kernel
theorem dX10_spread_90 : decode cX10_spread 90 = .ok (.iload_n 2, 1) := by decide +kernel
theorem dX10_spread_91 : decode cX10_spread 91 = .ok (.isub, 1) := by decide +kernel
theorem dX10_spread_92 : decode cX10_spread 92 = .ok (.ireturn, 1) := by decide +kernel
theorem dX10_party_0 : decode cX10_party 0 = .ok (.iload_n 1, 1) := by decide +kernel
theorem dX10_party_1 : decode cX10_party 1 = .ok (.iconst (-1), 1) := by decide +kernel
theorem dX10_party_2 : decode cX10_party 2 = .ok (.bipush 47, 2) := by decide +kernel
theorem dX10_party_4 : decode cX10_party 4 = .ok (.invokestatic 63, 3) := by decide +kernel
theorem dX10_party_7 : decode cX10_party 7 = .ok (.ifCond .ne 5, 3) := by decide +kernel
theorem dX10_party_10 : decode cX10_party 10 = .ok (.iconst (-1), 1) := by decide +kernel
theorem dX10_party_11 : decode cX10_party 11 = .ok (.ireturn, 1) := by decide +kernel
theorem dX10_party_12 : decode cX10_party 12 = .ok (.iload_n 1, 1) := by decide +kernel
theorem dX10_party_13 : decode cX10_party 13 = .ok (.ifCond .lt 9, 3) := by decide +kernel
theorem dX10_party_16 : decode cX10_party 16 = .ok (.aload_n 0, 1) := by decide +kernel
theorem dX10_party_17 : decode cX10_party 17 = .ok (.iload_n 1, 1) := by decide +kernel
theorem dX10_party_18 : decode cX10_party 18 = .ok (.invokevirtual 155, 3) := by decide +kernel
theorem dX10_party_21 : decode cX10_party 21 = .ok (.ireturn, 1) := by decide +kernel
theorem dX10_party_22 : decode cX10_party 22 = .ok (.bipush (-9), 2) := by decide +kernel
theorem dX10_party_24 : decode cX10_party 24 = .ok (.istore_n 2, 1) := by decide +kernel
theorem dX10_party_25 : decode cX10_party 25 = .ok (.bipush (-9), 2) := by decide +kernel
theorem dX10_party_27 : decode cX10_party 27 = .ok (.istore_n 3, 1) := by decide +kernel
theorem dX10_party_28 : decode cX10_party 28 = .ok (.iconst 0, 1) := by decide +kernel
theorem dX10_party_29 : decode cX10_party 29 = .ok (.istore 4, 2) := by decide +kernel
theorem dX10_party_31 : decode cX10_party 31 = .ok (.iload 4, 2) := by decide +kernel
theorem dX10_party_33 : decode cX10_party 33 = .ok (.bipush 48, 2) := by decide +kernel
theorem dX10_party_35 : decode cX10_party 35 = .ok (.if_icmp .ge 42, 3) := by decide +kernel
theorem dX10_party_38 : decode cX10_party 38 = .ok (.aload_n 0, 1) := by decide +kernel
theorem dX10_party_39 : decode cX10_party 39 = .ok (.iload 4, 2) := by decide +kernel
theorem dX10_party_41 : decode cX10_party 41 = .ok (.invokevirtual 155, 3) := by decide +kernel
theorem dX10_party_44 : decode cX10_party 44 = .ok (.istore 5, 2) := by decide +kernel
theorem dX10_party_46 : decode cX10_party 46 = .ok (.iload 5, 2) := by decide +kernel
theorem dX10_party_48 : decode cX10_party 48 = .ok (.bipush (-9), 2) := by decide +kernel
theorem dX10_party_50 : decode cX10_party 50 = .ok (.if_icmp .eq 21, 3) := by decide +kernel
theorem dX10_party_53 : decode cX10_party 53 = .ok (.iload_n 2, 1) := by decide +kernel
theorem dX10_party_54 : decode cX10_party 54 = .ok (.bipush (-9), 2) := by decide +kernel
theorem dX10_party_56 : decode cX10_party 56 = .ok (.if_icmp .eq 9, 3) := by decide +kernel
theorem dX10_party_59 : decode cX10_party 59 = .ok (.iload 5, 2) := by decide +kernel
theorem dX10_party_61 : decode cX10_party 61 = .ok (.iload_n 3, 1) := by decide +kernel
theorem dX10_party_62 : decode cX10_party 62 = .ok (.if_icmp .ge 9, 3) := by decide +kernel
theorem dX10_party_65 : decode cX10_party 65 = .ok (.iload 4, 2) := by decide +kernel
theorem dX10_party_67 : decode cX10_party 67 = .ok (.istore_n 2, 1) := by decide +kernel
theorem dX10_party_68 : decode cX10_party 68 = .ok (.iload 5, 2) := by decide +kernel
theorem dX10_party_70 : decode cX10_party 70 = .ok (.istore_n 3, 1) := by decide +kernel
theorem dX10_party_71 : decode cX10_party 71 = .ok (.iinc 4 1, 3) := by decide +kernel
theorem dX10_party_74 : decode cX10_party 74 = .ok (.goto (-43), 3) := by decide +kernel
theorem dX10_party_77 : decode cX10_party 77 = .ok (.iload_n 2, 1) := by decide +kernel
theorem dX10_party_78 : decode cX10_party 78 = .ok (.ireturn, 1) := by decide +kernel
theorem dX10_treaty_0 : decode cX10_treaty 0 = .ok (.aload_n 0, 1) := by decide +kernel
theorem dX10_treaty_1 : decode cX10_treaty 1 = .ok (.iload_n 1, 1) := by decide +kernel
theorem dX10_treaty_2 : decode cX10_treaty 2 = .ok (.invokevirtual 125, 3) := by decide +kernel
theorem dX10_treaty_5 : decode cX10_treaty 5 = .ok (.ifCond .eq 25, 3) := by decide +kernel
theorem dX10_treaty_8 : decode cX10_treaty 8 = .ok (.aload_n 0, 1) := by decide +kernel
theorem dX10_treaty_9 : decode cX10_treaty 9 = .ok (.iload_n 2, 1) := by decide +kernel
theorem dX10_treaty_10 : decode cX10_treaty 10 = .ok (.invokevirtual 125, 3) := by decide +kernel
theorem dX10_treaty_13 : decode cX10_treaty 13 = .ok (.ifCond .eq 17, 3) := by decide +kernel
theorem dX10_treaty_16 : decode cX10_treaty 16 = .ok (.iload_n 1, 1) := by decide +kernel
theorem dX10_treaty_17 : decode cX10_treaty 17 = .ok (.iload_n 2, 1) := by decide +kernel
theorem dX10_treaty_18 : decode cX10_treaty 18 = .ok (.if_icmp .eq 12, 3) := by decide +kernel
theorem dX10_treaty_21 : decode cX10_treaty 21 = .ok (.iload_n 3, 1) := by decide +kernel
theorem dX10_treaty_22 : decode cX10_treaty 22 = .ok (.iconst 0, 1) := by decide +kernel
theorem dX10_treaty_23 : decode cX10_treaty 23 = .ok (.iconst 1, 1) := by decide +kernel
theorem dX10_treaty_24 : decode cX10_treaty 24 = .ok (.invokestatic 63, 3) := by decide +kernel
theorem dX10_treaty_27 : decode cX10_treaty 27 = .ok (.ifCond .ne 5, 3) := by decide +kernel
theorem dX10_treaty_30 : decode cX10_treaty 30 = .ok (.iconst (-1), 1) := by decide +kernel
theorem dX10_treaty_31 : decode cX10_treaty 31 = .ok (.ireturn, 1) := by decide +kernel
theorem dX10_treaty_32 : decode cX10_treaty 32 = .ok (.iconst 0, 1) := by decide +kernel
theorem dX10_treaty_33 : decode cX10_treaty 33 = .ok (.istore 4, 2) := by decide +kernel
theorem dX10_treaty_35 : decode cX10_treaty 35 = .ok (.iconst (-1), 1) := by decide +kernel
theorem dX10_treaty_36 : decode cX10_treaty 36 = .ok (.istore 5, 2) := by decide +kernel
theorem dX10_treaty_38 : decode cX10_treaty 38 = .ok (.iconst 0, 1) := by decide +kernel
theorem dX10_treaty_39 : decode cX10_treaty 39 = .ok (.istore 6, 2) := by decide +kernel
theorem dX10_treaty_41 : decode cX10_treaty 41 = .ok (.iload 6, 2) := by decide +kernel
theorem dX10_treaty_43 : decode cX10_treaty 43 = .ok (.bipush 48, 2) := by decide +kernel
theorem dX10_treaty_45 : decode cX10_treaty 45 = .ok (.if_icmp .ge 93, 3) := by decide +kernel
theorem dX10_treaty_48 : decode cX10_treaty 48 = .ok (.iconst 0, 1) := by decide +kernel
theorem dX10_treaty_49 : decode cX10_treaty 49 = .ok (.istore 7, 2) := by decide +kernel
theorem dX10_treaty_51 : decode cX10_treaty 51 = .ok (.iconst 0, 1) := by decide +kernel
theorem dX10_treaty_52 : decode cX10_treaty 52 = .ok (.istore 8, 2) := by decide +kernel
theorem dX10_treaty_54 : decode cX10_treaty 54 = .ok (.iload 8, 2) := by decide +kernel
theorem dX10_treaty_56 : decode cX10_treaty 56 = .ok (.bipush 95, 2) := by decide +kernel
theorem dX10_treaty_58 : decode cX10_treaty 58 = .ok (.if_icmp .gt 42, 3) := by decide +kernel
theorem dX10_treaty_61 : decode cX10_treaty 61 = .ok (.iload 7, 2) := by decide +kernel
theorem dX10_treaty_63 : decode cX10_treaty 63 = .ok (.aload_n 0, 1) := by decide +kernel
theorem dX10_treaty_64 : decode cX10_treaty 64 = .ok (.iload_n 1, 1) := by decide +kernel
theorem dX10_treaty_65 : decode cX10_treaty 65 = .ok (.iload 8, 2) := by decide +kernel
theorem dX10_treaty_67 : decode cX10_treaty 67 = .ok (.invokevirtual 135, 3) := by decide +kernel
theorem dX10_treaty_70 : decode cX10_treaty 70 = .ok (.aload_n 0, 1) := by decide +kernel
theorem dX10_treaty_71 : decode cX10_treaty 71 = .ok (.iload_n 2, 1) := by decide +kernel
theorem dX10_treaty_72 : decode cX10_treaty 72 = .ok (.iload 8, 2) := by decide +kernel
theorem dX10_treaty_74 : decode cX10_treaty 74 = .ok (.invokevirtual 135, 3) := by decide +kernel
theorem dX10_treaty_77 : decode cX10_treaty 77 = .ok (.iload 6, 2) := by decide +kernel
theorem dX10_treaty_79 : decode cX10_treaty 79 = .ok (.iadd, 1) := by decide +kernel
theorem dX10_treaty_80 : decode cX10_treaty 80 = .ok (.bipush 48, 2) := by decide +kernel
theorem dX10_treaty_82 : decode cX10_treaty 82 = .ok (.irem, 1) := by decide +kernel
theorem dX10_treaty_83 : decode cX10_treaty 83 = .ok (.if_icmp .ne 7, 3) := by decide +kernel
theorem dX10_treaty_86 : decode cX10_treaty 86 = .ok (.iconst 1, 1) := by decide +kernel
theorem dX10_treaty_87 : decode cX10_treaty 87 = .ok (.goto 4, 3) := by decide +kernel
theorem dX10_treaty_90 : decode cX10_treaty 90 = .ok (.iconst 0, 1) := by decide +kernel
theorem dX10_treaty_91 : decode cX10_treaty 91 = .ok (.iadd, 1) := by decide +kernel
theorem dX10_treaty_92 : decode cX10_treaty 92 = .ok (.istore 7, 2) := by decide +kernel
theorem dX10_treaty_94 : decode cX10_treaty 94 = .ok (.iinc 8 1, 3) := by decide +kernel
theorem dX10_treaty_97 : decode cX10_treaty 97 = .ok (.goto (-43), 3) := by decide +kernel
theorem dX10_treaty_100 : decode cX10_treaty 100 = .ok (.iload 7, 2) := by decide +kernel
theorem dX10_treaty_102 : decode cX10_treaty 102 = .ok (.iload 5, 2) := by decide +kernel
theorem dX10_treaty_104 : decode cX10_treaty 104 = .ok (.if_icmp .le 8, 3) := by decide +kernel
theorem dX10_treaty_107 : decode cX10_treaty 107 = .ok (.iload 6, 2) := by decide +kernel
theorem dX10_treaty_109 : decode cX10_treaty 109 = .ok (.goto 5, 3) := by decide +kernel
theorem dX10_treaty_112 : decode cX10_treaty 112 = .ok (.iload 4, 2) := by decide +kernel
theorem dX10_treaty_114 : decode cX10_treaty 114 = .ok (.istore 4, 2) := by decide +kernel
theorem dX10_treaty_116 : decode cX10_treaty 116 = .ok (.iload 7, 2) := by decide +kernel
theorem dX10_treaty_118 : decode cX10_treaty 118 = .ok (.iload 5, 2) := by decide +kernel
theorem dX10_treaty_120 : decode cX10_treaty 120 = .ok (.if_icmp .le 8, 3) := by decide +kernel
theorem dX10_treaty_123 : decode cX10_treaty 123 = .ok (.iload 7, 2) := by decide +kernel
theorem dX10_treaty_125 : decode cX10_treaty 125 = .ok (.goto 5, 3) := by decide +kernel
theorem dX10_treaty_128 : decode cX10_treaty 128 = .ok (.iload 5, 2) := by decide +kernel
theorem dX10_treaty_130 : decode cX10_treaty 130 = .ok (.istore 5, 2) := by decide +kernel
theorem dX10_treaty_132 : decode cX10_treaty 132 = .ok (.iinc 6 1, 3) := by decide +kernel
theorem dX10_treaty_135 : decode cX10_treaty 135 = .ok (.goto (-94), 3) := by decide +kernel
theorem dX10_treaty_138 : decode cX10_treaty 138 = .ok (.iload_n 3, 1) := by decide +kernel
theorem dX10_treaty_139 : decode cX10_treaty 139 = .ok (.ifCond .ne 8, 3) := by decide +kernel
theorem dX10_treaty_142 : decode cX10_treaty 142 = .ok (.iload 4, 2) := by decide +kernel
theorem dX10_treaty_144 : decode cX10_treaty 144 = .ok (.goto 5, 3) := by decide +kernel
theorem dX10_treaty_147 : decode cX10_treaty 147 = .ok (.iload 5, 2) := by decide +kernel
theorem dX10_treaty_149 : decode cX10_treaty 149 = .ok (.ireturn, 1) := by decide +kernel
theorem dX10_saw_0 : decode cX10_saw 0 = .ok (.iload_n 1, 1) := by decide +kernel
theorem dX10_saw_1 : decode cX10_saw 1 = .ok (.invokestatic 132, 3) := by decide +kernel
theorem dX10_saw_4 : decode cX10_saw 4 = .ok (.ifCond .eq 10, 3) := by decide +kernel
theorem dX10_saw_7 : decode cX10_saw 7 = .ok (.iload_n 2, 1) := by decide +kernel
theorem dX10_saw_8 : decode cX10_saw 8 = .ok (.invokestatic 138, 3) := by decide +kernel
theorem dX10_saw_11 : decode cX10_saw 11 = .ok (.ifCond .ne 5, 3) := by decide +kernel
theorem dX10_saw_14 : decode cX10_saw 14 = .ok (.iconst (-1), 1) := by decide +kernel
theorem dX10_saw_15 : decode cX10_saw 15 = .ok (.ireturn, 1) := by decide +kernel
theorem dX10_saw_16 : decode cX10_saw 16 = .ok (.aload_n 0, 1) := by decide +kernel
theorem dX10_saw_17 : decode cX10_saw 17 = .ok (.getfield 119, 3) := by decide +kernel
theorem dX10_saw_20 : decode cX10_saw 20 = .ok (.bipush 8, 2) := by decide +kernel
theorem dX10_saw_22 : decode cX10_saw 22 = .ok (.if_icmp .ne 6, 3) := by decide +kernel
theorem dX10_saw_25 : decode cX10_saw 25 = .ok (.bipush (-3), 2) := by decide +kernel
theorem dX10_saw_27 : decode cX10_saw 27 = .ok (.ireturn, 1) := by decide +kernel
theorem dX10_saw_28 : decode cX10_saw 28 = .ok (.aload_n 0, 1) := by decide +kernel
theorem dX10_saw_29 : decode cX10_saw 29 = .ok (.getfield 54, 3) := by decide +kernel
theorem dX10_saw_32 : decode cX10_saw 32 = .ok (.aload_n 0, 1) := by decide +kernel
theorem dX10_saw_33 : decode cX10_saw 33 = .ok (.getfield 119, 3) := by decide +kernel
theorem dX10_saw_36 : decode cX10_saw 36 = .ok (.iload_n 1, 1) := by decide +kernel
theorem dX10_saw_37 : decode cX10_saw 37 = .ok (.iastore, 1) := by decide +kernel
theorem dX10_saw_38 : decode cX10_saw 38 = .ok (.aload_n 0, 1) := by decide +kernel
theorem dX10_saw_39 : decode cX10_saw 39 = .ok (.getfield 57, 3) := by decide +kernel
theorem dX10_saw_42 : decode cX10_saw 42 = .ok (.aload_n 0, 1) := by decide +kernel
theorem dX10_saw_43 : decode cX10_saw 43 = .ok (.getfield 119, 3) := by decide +kernel
theorem dX10_saw_46 : decode cX10_saw 46 = .ok (.iload_n 2, 1) := by decide +kernel
theorem dX10_saw_47 : decode cX10_saw 47 = .ok (.iastore, 1) := by decide +kernel
theorem dX10_saw_48 : decode cX10_saw 48 = .ok (.aload_n 0, 1) := by decide +kernel
theorem dX10_saw_49 : decode cX10_saw 49 = .ok (.dup, 1) := by decide +kernel
theorem dX10_saw_50 : decode cX10_saw 50 = .ok (.getfield 119, 3) := by decide +kernel
theorem dX10_saw_53 : decode cX10_saw 53 = .ok (.iconst 1, 1) := by decide +kernel
theorem dX10_saw_54 : decode cX10_saw 54 = .ok (.iadd, 1) := by decide +kernel
theorem dX10_saw_55 : decode cX10_saw 55 = .ok (.putfield 119, 3) := by decide +kernel
theorem dX10_saw_58 : decode cX10_saw 58 = .ok (.aload_n 0, 1) := by decide +kernel
theorem dX10_saw_59 : decode cX10_saw 59 = .ok (.getfield 119, 3) := by decide +kernel
theorem dX10_saw_62 : decode cX10_saw 62 = .ok (.ireturn, 1) := by decide +kernel
theorem dX10_forget_0 : decode cX10_forget 0 = .ok (.aload_n 0, 1) := by decide +kernel
theorem dX10_forget_1 : decode cX10_forget 1 = .ok (.getfield 119, 3) := by decide +kernel
theorem dX10_forget_4 : decode cX10_forget 4 = .ok (.istore_n 1, 1) := by decide +kernel
theorem dX10_forget_5 : decode cX10_forget 5 = .ok (.aload_n 0, 1) := by decide +kernel
theorem dX10_forget_6 : decode cX10_forget 6 = .ok (.iconst 0, 1) := by decide +kernel
theorem dX10_forget_7 : decode cX10_forget 7 = .ok (.putfield 119, 3) := by decide +kernel
theorem dX10_forget_10 : decode cX10_forget 10 = .ok (.iload_n 1, 1) := by decide +kernel
theorem dX10_forget_11 : decode cX10_forget 11 = .ok (.ireturn, 1) := by decide +kernel
theorem dX10_couldBe_0 : decode cX10_couldBe 0 = .ok (.iconst 1, 1) := by decide +kernel
theorem dX10_couldBe_1 : decode cX10_couldBe 1 = .ok (.istore_n 2, 1) := by decide +kernel
theorem dX10_couldBe_2 : decode cX10_couldBe 2 = .ok (.iconst 0, 1) := by decide +kernel
theorem dX10_couldBe_3 : decode cX10_couldBe 3 = .ok (.istore_n 3, 1) := by decide +kernel
theorem dX10_couldBe_4 : decode cX10_couldBe 4 = .ok (.iload_n 3, 1) := by decide +kernel
theorem dX10_couldBe_5 : decode cX10_couldBe 5 = .ok (.aload_n 0, 1) := by decide +kernel
theorem dX10_couldBe_6 : decode cX10_couldBe 6 = .ok (.getfield 119, 3) := by decide +kernel
theorem dX10_couldBe_9 : decode cX10_couldBe 9 = .ok (.if_icmp .ge 39, 3) := by decide +kernel
theorem dX10_couldBe_12 : decode cX10_couldBe 12 = .ok (.iload_n 2, 1) := by decide +kernel
theorem dX10_couldBe_13 : decode cX10_couldBe 13 = .ok (.ifCond .eq 27, 3) := by decide +kernel
theorem dX10_couldBe_16 : decode cX10_couldBe 16 = .ok (.aload_n 0, 1) := by decide +kernel
theorem dX10_couldBe_17 : decode cX10_couldBe 17 = .ok (.iload_n 1, 1) := by decide +kernel
theorem dX10_couldBe_18 : decode cX10_couldBe 18 = .ok (.aload_n 0, 1) := by decide +kernel
theorem dX10_couldBe_19 : decode cX10_couldBe 19 = .ok (.getfield 54, 3) := by decide +kernel
theorem dX10_couldBe_22 : decode cX10_couldBe 22 = .ok (.iload_n 3, 1) := by decide +kernel
theorem dX10_couldBe_23 : decode cX10_couldBe 23 = .ok (.iaload, 1) := by decide +kernel
theorem dX10_couldBe_24 : decode cX10_couldBe 24 = .ok (.invokevirtual 135, 3) := by decide +kernel
theorem dX10_couldBe_27 : decode cX10_couldBe 27 = .ok (.aload_n 0, 1) := by decide +kernel
theorem dX10_couldBe_28 : decode cX10_couldBe 28 = .ok (.getfield 57, 3) := by decide +kernel
theorem dX10_couldBe_31 : decode cX10_couldBe 31 = .ok (.iload_n 3, 1) := by decide +kernel
theorem dX10_couldBe_32 : decode cX10_couldBe 32 = .ok (.iaload, 1) := by decide +kernel
theorem dX10_couldBe_33 : decode cX10_couldBe 33 = .ok (.if_icmp .ne 7, 3) := by decide +kernel
theorem dX10_couldBe_36 : decode cX10_couldBe 36 = .ok (.iconst 1, 1) := by decide +kernel
theorem dX10_couldBe_37 : decode cX10_couldBe 37 = .ok (.goto 4, 3) := by decide +kernel
theorem dX10_couldBe_40 : decode cX10_couldBe 40 = .ok (.iconst 0, 1) := by decide +kernel
theorem dX10_couldBe_41 : decode cX10_couldBe 41 = .ok (.istore_n 2, 1) := by decide +kernel
theorem dX10_couldBe_42 : decode cX10_couldBe 42 = .ok (.iinc 3 1, 3) := by decide +kernel
theorem dX10_couldBe_45 : decode cX10_couldBe 45 = .ok (.goto (-41), 3) := by decide +kernel
theorem dX10_couldBe_48 : decode cX10_couldBe 48 = .ok (.iload_n 2, 1) := by decide +kernel
theorem dX10_couldBe_49 : decode cX10_couldBe 49 = .ok (.ireturn, 1) := by decide +kernel
theorem dX10_unlike_0 : decode cX10_unlike 0 = .ok (.iconst 0, 1) := by decide +kernel
theorem dX10_unlike_1 : decode cX10_unlike 1 = .ok (.istore_n 3, 1) := by decide +kernel
theorem dX10_unlike_2 : decode cX10_unlike 2 = .ok (.iconst 0, 1) := by decide +kernel
theorem dX10_unlike_3 : decode cX10_unlike 3 = .ok (.istore 4, 2) := by decide +kernel
theorem dX10_unlike_5 : decode cX10_unlike 5 = .ok (.iload 4, 2) := by decide +kernel
theorem dX10_unlike_7 : decode cX10_unlike 7 = .ok (.aload_n 0, 1) := by decide +kernel
theorem dX10_unlike_8 : decode cX10_unlike 8 = .ok (.getfield 13, 3) := by decide +kernel
theorem dX10_unlike_11 : decode cX10_unlike 11 = .ok (.iconst 0, 1) := by decide +kernel
theorem dX10_unlike_12 : decode cX10_unlike 12 = .ok (.iaload, 1) := by decide +kernel
theorem dX10_unlike_13 : decode cX10_unlike 13 = .ok (.if_icmp .ge 93, 3) := by decide +kernel
theorem dX10_unlike_16 : decode cX10_unlike 16 = .ok (.iload_n 1, 1) := by decide +kernel
theorem dX10_unlike_17 : decode cX10_unlike 17 = .ok (.iload 4, 2) := by decide +kernel
theorem dX10_unlike_19 : decode cX10_unlike 19 = .ok (.ishr, 1) := by decide +kernel
theorem dX10_unlike_20 : decode cX10_unlike 20 = .ok (.iconst 1, 1) := by decide +kernel
theorem dX10_unlike_21 : decode cX10_unlike 21 = .ok (.iand, 1) := by decide +kernel
theorem dX10_unlike_22 : decode cX10_unlike 22 = .ok (.iconst 1, 1) := by decide +kernel
theorem dX10_unlike_23 : decode cX10_unlike 23 = .ok (.if_icmp .ne 7, 3) := by decide +kernel
theorem dX10_unlike_26 : decode cX10_unlike 26 = .ok (.iconst 1, 1) := by decide +kernel
theorem dX10_unlike_27 : decode cX10_unlike 27 = .ok (.goto 4, 3) := by decide +kernel
theorem dX10_unlike_30 : decode cX10_unlike 30 = .ok (.iconst 0, 1) := by decide +kernel
theorem dX10_unlike_31 : decode cX10_unlike 31 = .ok (.istore 5, 2) := by decide +kernel
theorem dX10_unlike_33 : decode cX10_unlike 33 = .ok (.iconst 0, 1) := by decide +kernel
theorem dX10_unlike_34 : decode cX10_unlike 34 = .ok (.istore 6, 2) := by decide +kernel
theorem dX10_unlike_36 : decode cX10_unlike 36 = .ok (.iload 6, 2) := by decide +kernel
theorem dX10_unlike_38 : decode cX10_unlike 38 = .ok (.iload 4, 2) := by decide +kernel
theorem dX10_unlike_40 : decode cX10_unlike 40 = .ok (.if_icmp .ge 47, 3) := by decide +kernel
theorem dX10_unlike_43 : decode cX10_unlike 43 = .ok (.iload 5, 2) := by decide +kernel
theorem dX10_unlike_45 : decode cX10_unlike 45 = .ok (.ifCond .eq 33, 3) := by decide +kernel
theorem dX10_unlike_48 : decode cX10_unlike 48 = .ok (.iload_n 1, 1) := by decide +kernel
theorem dX10_unlike_49 : decode cX10_unlike 49 = .ok (.iload 6, 2) := by decide +kernel
theorem dX10_unlike_51 : decode cX10_unlike 51 = .ok (.ishr, 1) := by decide +kernel
theorem dX10_unlike_52 : decode cX10_unlike 52 = .ok (.iconst 1, 1) := by decide +kernel
theorem dX10_unlike_53 : decode cX10_unlike 53 = .ok (.iand, 1) := by decide +kernel
theorem dX10_unlike_54 : decode cX10_unlike 54 = .ok (.ifCond .eq 20, 3) := by decide +kernel
theorem dX10_unlike_57 : decode cX10_unlike 57 = .ok (.aload_n 0, 1) := by decide +kernel
theorem dX10_unlike_58 : decode cX10_unlike 58 = .ok (.iload 6, 2) := by decide +kernel
theorem dX10_unlike_60 : decode cX10_unlike 60 = .ok (.iload_n 2, 1) := by decide +kernel
theorem dX10_unlike_61 : decode cX10_unlike 61 = .ok (.invokevirtual 135, 3) := by decide +kernel
theorem dX10_unlike_64 : decode cX10_unlike 64 = .ok (.aload_n 0, 1) := by decide +kernel
theorem dX10_unlike_65 : decode cX10_unlike 65 = .ok (.iload 4, 2) := by decide +kernel
theorem dX10_unlike_67 : decode cX10_unlike 67 = .ok (.iload_n 2, 1) := by decide +kernel
theorem dX10_unlike_68 : decode cX10_unlike 68 = .ok (.invokevirtual 135, 3) := by decide +kernel
theorem dX10_unlike_71 : decode cX10_unlike 71 = .ok (.if_icmp .eq 7, 3) := by decide +kernel
theorem dX10_unlike_74 : decode cX10_unlike 74 = .ok (.iconst 1, 1) := by decide +kernel
theorem dX10_unlike_75 : decode cX10_unlike 75 = .ok (.goto 4, 3) := by decide +kernel
theorem dX10_unlike_78 : decode cX10_unlike 78 = .ok (.iconst 0, 1) := by decide +kernel
theorem dX10_unlike_79 : decode cX10_unlike 79 = .ok (.istore 5, 2) := by decide +kernel
theorem dX10_unlike_81 : decode cX10_unlike 81 = .ok (.iinc 6 1, 3) := by decide +kernel
theorem dX10_unlike_84 : decode cX10_unlike 84 = .ok (.goto (-48), 3) := by decide +kernel
theorem dX10_unlike_87 : decode cX10_unlike 87 = .ok (.iload_n 3, 1) := by decide +kernel
theorem dX10_unlike_88 : decode cX10_unlike 88 = .ok (.iload 5, 2) := by decide +kernel
theorem dX10_unlike_90 : decode cX10_unlike 90 = .ok (.ifCond .eq 7, 3) := by decide +kernel
theorem dX10_unlike_93 : decode cX10_unlike 93 = .ok (.iconst 1, 1) := by decide +kernel
theorem dX10_unlike_94 : decode cX10_unlike 94 = .ok (.goto 4, 3) := by decide +kernel
theorem dX10_unlike_97 : decode cX10_unlike 97 = .ok (.iconst 0, 1) := by decide +kernel
theorem dX10_unlike_98 : decode cX10_unlike 98 = .ok (.iadd, 1) := by decide +kernel
theorem dX10_unlike_99 : decode cX10_unlike 99 = .ok (.istore_n 3, 1) := by decide +kernel
theorem dX10_unlike_100 : decode cX10_unlike 100 = .ok (.iinc 4 1, 3) := by decide +kernel
theorem dX10_unlike_103 : decode cX10_unlike 103 = .ok (.goto (-98), 3) := by decide +kernel
theorem dX10_unlike_106 : decode cX10_unlike 106 = .ok (.iload_n 3, 1) := by decide +kernel
theorem dX10_unlike_107 : decode cX10_unlike 107 = .ok (.ireturn, 1) := by decide +kernel
theorem dX10_whose_0 : decode cX10_whose 0 = .ok (.iload_n 1, 1) := by decide +kernel
theorem dX10_whose_1 : decode cX10_whose 1 = .ok (.iconst 0, 1) := by decide +kernel
theorem dX10_whose_2 : decode cX10_whose 2 = .ok (.iconst 2, 1) := by decide +kernel
theorem dX10_whose_3 : decode cX10_whose 3 = .ok (.invokestatic 63, 3) := by decide +kernel
theorem dX10_whose_6 : decode cX10_whose 6 = .ok (.ifCond .ne 5, 3) := by decide +kernel
theorem dX10_whose_9 : decode cX10_whose 9 = .ok (.iconst (-1), 1) := by decide +kernel
theorem dX10_whose_10 : decode cX10_whose 10 = .ok (.ireturn, 1) := by decide +kernel
theorem dX10_whose_11 : decode cX10_whose 11 = .ok (.iconst 0, 1) := by decide +kernel
theorem dX10_whose_12 : decode cX10_whose 12 = .ok (.istore_n 2, 1) := by decide +kernel
theorem dX10_whose_13 : decode cX10_whose 13 = .ok (.iconst 0, 1) := by decide +kernel
theorem dX10_whose_14 : decode cX10_whose 14 = .ok (.istore_n 3, 1) := by decide +kernel
theorem dX10_whose_15 : decode cX10_whose 15 = .ok (.iload_n 3, 1) := by decide +kernel
theorem dX10_whose_16 : decode cX10_whose 16 = .ok (.aload_n 0, 1) := by decide +kernel
theorem dX10_whose_17 : decode cX10_whose 17 = .ok (.getfield 13, 3) := by decide +kernel
theorem dX10_whose_20 : decode cX10_whose 20 = .ok (.iconst 0, 1) := by decide +kernel
theorem dX10_whose_21 : decode cX10_whose 21 = .ok (.iaload, 1) := by decide +kernel
theorem dX10_whose_22 : decode cX10_whose 22 = .ok (.if_icmp .ge 27, 3) := by decide +kernel
theorem dX10_whose_25 : decode cX10_whose 25 = .ok (.iload_n 2, 1) := by decide +kernel
theorem dX10_whose_26 : decode cX10_whose 26 = .ok (.aload_n 0, 1) := by decide +kernel
theorem dX10_whose_27 : decode cX10_whose 27 = .ok (.iload_n 3, 1) := by decide +kernel
theorem dX10_whose_28 : decode cX10_whose 28 = .ok (.invokevirtual 158, 3) := by decide +kernel
theorem dX10_whose_31 : decode cX10_whose 31 = .ok (.ifCond .eq 9, 3) := by decide +kernel
theorem dX10_whose_34 : decode cX10_whose 34 = .ok (.iconst 1, 1) := by decide +kernel
theorem dX10_whose_35 : decode cX10_whose 35 = .ok (.iload_n 3, 1) := by decide +kernel
theorem dX10_whose_36 : decode cX10_whose 36 = .ok (.ishl, 1) := by decide +kernel
theorem dX10_whose_37 : decode cX10_whose 37 = .ok (.goto 4, 3) := by decide +kernel
theorem dX10_whose_40 : decode cX10_whose 40 = .ok (.iconst 0, 1) := by decide +kernel
theorem dX10_whose_41 : decode cX10_whose 41 = .ok (.ior, 1) := by decide +kernel
theorem dX10_whose_42 : decode cX10_whose 42 = .ok (.istore_n 2, 1) := by decide +kernel
theorem dX10_whose_43 : decode cX10_whose 43 = .ok (.iinc 3 1, 3) := by decide +kernel
theorem dX10_whose_46 : decode cX10_whose 46 = .ok (.goto (-31), 3) := by decide +kernel
theorem dX10_whose_49 : decode cX10_whose 49 = .ok (.iload_n 1, 1) := by decide +kernel
theorem dX10_whose_50 : decode cX10_whose 50 = .ok (.ifCond .ne 5, 3) := by decide +kernel
theorem dX10_whose_53 : decode cX10_whose 53 = .ok (.iload_n 2, 1) := by decide +kernel
theorem dX10_whose_54 : decode cX10_whose 54 = .ok (.ireturn, 1) := by decide +kernel
theorem dX10_whose_55 : decode cX10_whose 55 = .ok (.iload_n 2, 1) := by decide +kernel
theorem dX10_whose_56 : decode cX10_whose 56 = .ok (.iload_n 2, 1) := by decide +kernel
theorem dX10_whose_57 : decode cX10_whose 57 = .ok (.iconst 1, 1) := by decide +kernel
theorem dX10_whose_58 : decode cX10_whose 58 = .ok (.isub, 1) := by decide +kernel
theorem dX10_whose_59 : decode cX10_whose 59 = .ok (.iand, 1) := by decide +kernel
theorem dX10_whose_60 : decode cX10_whose 60 = .ok (.ifCond .ne 6, 3) := by decide +kernel
theorem dX10_whose_63 : decode cX10_whose 63 = .ok (.bipush (-9), 2) := by decide +kernel
theorem dX10_whose_65 : decode cX10_whose 65 = .ok (.ireturn, 1) := by decide +kernel
theorem dX10_whose_66 : decode cX10_whose 66 = .ok (.bipush (-9), 2) := by decide +kernel
theorem dX10_whose_68 : decode cX10_whose 68 = .ok (.istore_n 3, 1) := by decide +kernel
theorem dX10_whose_69 : decode cX10_whose 69 = .ok (.iconst 0, 1) := by decide +kernel
theorem dX10_whose_70 : decode cX10_whose 70 = .ok (.istore 4, 2) := by decide +kernel
theorem dX10_whose_72 : decode cX10_whose 72 = .ok (.iconst 0, 1) := by decide +kernel
theorem dX10_whose_73 : decode cX10_whose 73 = .ok (.istore 5, 2) := by decide +kernel
theorem dX10_whose_75 : decode cX10_whose 75 = .ok (.iload 5, 2) := by decide +kernel
theorem dX10_whose_77 : decode cX10_whose 77 = .ok (.bipush 95, 2) := by decide +kernel
theorem dX10_whose_79 : decode cX10_whose 79 = .ok (.if_icmp .gt 48, 3) := by decide +kernel
theorem dX10_whose_82 : decode cX10_whose 82 = .ok (.aload_n 0, 1) := by decide +kernel
theorem dX10_whose_83 : decode cX10_whose 83 = .ok (.iload_n 2, 1) := by decide +kernel
theorem dX10_whose_84 : decode cX10_whose 84 = .ok (.iload 5, 2) := by decide +kernel
theorem dX10_whose_86 : decode cX10_whose 86 = .ok (.invokevirtual 161, 3) := by decide +kernel
theorem dX10_whose_89 : decode cX10_whose 89 = .ok (.istore 6, 2) := by decide +kernel
theorem dX10_whose_91 : decode cX10_whose 91 = .ok (.iload 6, 2) := by decide +kernel
theorem dX10_whose_93 : decode cX10_whose 93 = .ok (.iload 4, 2) := by decide +kernel
theorem dX10_whose_95 : decode cX10_whose 95 = .ok (.if_icmp .le 8, 3) := by decide +kernel
theorem dX10_whose_98 : decode cX10_whose 98 = .ok (.iload 5, 2) := by decide +kernel
theorem dX10_whose_100 : decode cX10_whose 100 = .ok (.goto 4, 3) := by decide +kernel
theorem dX10_whose_103 : decode cX10_whose 103 = .ok (.iload_n 3, 1) := by decide +kernel
theorem dX10_whose_104 : decode cX10_whose 104 = .ok (.istore_n 3, 1) := by decide +kernel
theorem dX10_whose_105 : decode cX10_whose 105 = .ok (.iload 6, 2) := by decide +kernel
theorem dX10_whose_107 : decode cX10_whose 107 = .ok (.iload 4, 2) := by decide +kernel
theorem dX10_whose_109 : decode cX10_whose 109 = .ok (.if_icmp .le 8, 3) := by decide +kernel
theorem dX10_whose_112 : decode cX10_whose 112 = .ok (.iload 6, 2) := by decide +kernel
theorem dX10_whose_114 : decode cX10_whose 114 = .ok (.goto 5, 3) := by decide +kernel
theorem dX10_whose_117 : decode cX10_whose 117 = .ok (.iload 4, 2) := by decide +kernel
theorem dX10_whose_119 : decode cX10_whose 119 = .ok (.istore 4, 2) := by decide +kernel
theorem dX10_whose_121 : decode cX10_whose 121 = .ok (.iinc 5 1, 3) := by decide +kernel
theorem dX10_whose_124 : decode cX10_whose 124 = .ok (.goto (-49), 3) := by decide +kernel
theorem dX10_whose_127 : decode cX10_whose 127 = .ok (.iload_n 1, 1) := by decide +kernel
theorem dX10_whose_128 : decode cX10_whose 128 = .ok (.iconst 1, 1) := by decide +kernel
theorem dX10_whose_129 : decode cX10_whose 129 = .ok (.if_icmp .ne 7, 3) := by decide +kernel
theorem dX10_whose_132 : decode cX10_whose 132 = .ok (.iload_n 3, 1) := by decide +kernel
theorem dX10_whose_133 : decode cX10_whose 133 = .ok (.goto 5, 3) := by decide +kernel
theorem dX10_whose_136 : decode cX10_whose 136 = .ok (.iload 4, 2) := by decide +kernel
theorem dX10_whose_138 : decode cX10_whose 138 = .ok (.ireturn, 1) := by decide +kernel
theorem dX10_aged_0 : decode cX10_aged 0 = .ok (.iload_n 1, 1) := by decide +kernel
theorem dX10_aged_1 : decode cX10_aged 1 = .ok (.iconst (-1), 1) := by decide +kernel
theorem dX10_aged_2 : decode cX10_aged 2 = .ok (.if_icmp .eq 11, 3) := by decide +kernel
theorem dX10_aged_5 : decode cX10_aged 5 = .ok (.aload_n 0, 1) := by decide +kernel
theorem dX10_aged_6 : decode cX10_aged 6 = .ok (.iload_n 1, 1) := by decide +kernel
theorem dX10_aged_7 : decode cX10_aged 7 = .ok (.invokevirtual 125, 3) := by decide +kernel
theorem dX10_aged_10 : decode cX10_aged 10 = .ok (.ifCond .eq 20, 3) := by decide +kernel
theorem dX10_aged_13 : decode cX10_aged 13 = .ok (.iload_n 2, 1) := by decide +kernel
theorem dX10_aged_14 : decode cX10_aged 14 = .ok (.invokestatic 132, 3) := by decide +kernel
theorem dX10_aged_17 : decode cX10_aged 17 = .ok (.ifCond .eq 13, 3) := by decide +kernel
theorem dX10_aged_20 : decode cX10_aged 20 = .ok (.iload_n 3, 1) := by decide +kernel
theorem dX10_aged_21 : decode cX10_aged 21 = .ok (.iload_n 2, 1) := by decide +kernel
theorem dX10_aged_22 : decode cX10_aged 22 = .ok (.bipush 95, 2) := by decide +kernel
theorem dX10_aged_24 : decode cX10_aged 24 = .ok (.invokestatic 63, 3) := by decide +kernel
theorem dX10_aged_27 : decode cX10_aged 27 = .ok (.ifCond .ne 5, 3) := by decide +kernel
theorem dX10_aged_30 : decode cX10_aged 30 = .ok (.iconst (-1), 1) := by decide +kernel
theorem dX10_aged_31 : decode cX10_aged 31 = .ok (.ireturn, 1) := by decide +kernel
theorem dX10_aged_32 : decode cX10_aged 32 = .ok (.iload_n 1, 1) := by decide +kernel
theorem dX10_aged_33 : decode cX10_aged 33 = .ok (.ifCond .lt 17, 3) := by decide +kernel
theorem dX10_aged_36 : decode cX10_aged 36 = .ok (.aload_n 0, 1) := by decide +kernel
theorem dX10_aged_37 : decode cX10_aged 37 = .ok (.iload_n 1, 1) := by decide +kernel
theorem dX10_aged_38 : decode cX10_aged 38 = .ok (.iload_n 3, 1) := by decide +kernel
theorem dX10_aged_39 : decode cX10_aged 39 = .ok (.invokevirtual 129, 3) := by decide +kernel
theorem dX10_aged_42 : decode cX10_aged 42 = .ok (.aload_n 0, 1) := by decide +kernel
theorem dX10_aged_43 : decode cX10_aged 43 = .ok (.iload_n 1, 1) := by decide +kernel
theorem dX10_aged_44 : decode cX10_aged 44 = .ok (.iload_n 2, 1) := by decide +kernel
theorem dX10_aged_45 : decode cX10_aged 45 = .ok (.invokevirtual 129, 3) := by decide +kernel
theorem dX10_aged_48 : decode cX10_aged 48 = .ok (.isub, 1) := by decide +kernel
theorem dX10_aged_49 : decode cX10_aged 49 = .ok (.ireturn, 1) := by decide +kernel
theorem dX10_aged_50 : decode cX10_aged 50 = .ok (.bipush (-9), 2) := by decide +kernel
theorem dX10_aged_52 : decode cX10_aged 52 = .ok (.istore 4, 2) := by decide +kernel
theorem dX10_aged_54 : decode cX10_aged 54 = .ok (.iconst (-1), 1) := by decide +kernel
theorem dX10_aged_55 : decode cX10_aged 55 = .ok (.istore 5, 2) := by decide +kernel
theorem dX10_aged_57 : decode cX10_aged 57 = .ok (.iconst 0, 1) := by decide +kernel
theorem dX10_aged_58 : decode cX10_aged 58 = .ok (.istore 6, 2) := by decide +kernel
theorem dX10_aged_60 : decode cX10_aged 60 = .ok (.iload 6, 2) := by decide +kernel
theorem dX10_aged_62 : decode cX10_aged 62 = .ok (.aload_n 0, 1) := by decide +kernel
theorem dX10_aged_63 : decode cX10_aged 63 = .ok (.getfield 13, 3) := by decide +kernel
theorem dX10_aged_66 : decode cX10_aged 66 = .ok (.iconst 0, 1) := by decide +kernel
theorem dX10_aged_67 : decode cX10_aged 67 = .ok (.iaload, 1) := by decide +kernel
theorem dX10_aged_68 : decode cX10_aged 68 = .ok (.if_icmp .ge 58, 3) := by decide +kernel
theorem dX10_aged_71 : decode cX10_aged 71 = .ok (.aload_n 0, 1) := by decide +kernel
theorem dX10_aged_72 : decode cX10_aged 72 = .ok (.iload 6, 2) := by decide +kernel
theorem dX10_aged_74 : decode cX10_aged 74 = .ok (.iload_n 3, 1) := by decide +kernel
theorem dX10_aged_75 : decode cX10_aged 75 = .ok (.invokevirtual 129, 3) := by decide +kernel
theorem dX10_aged_78 : decode cX10_aged 78 = .ok (.aload_n 0, 1) := by decide +kernel
theorem dX10_aged_79 : decode cX10_aged 79 = .ok (.iload 6, 2) := by decide +kernel
theorem dX10_aged_81 : decode cX10_aged 81 = .ok (.iload_n 2, 1) := by decide +kernel
theorem dX10_aged_82 : decode cX10_aged 82 = .ok (.invokevirtual 129, 3) := by decide +kernel
theorem dX10_aged_85 : decode cX10_aged 85 = .ok (.isub, 1) := by decide +kernel
theorem dX10_aged_86 : decode cX10_aged 86 = .ok (.istore 7, 2) := by decide +kernel
theorem dX10_aged_88 : decode cX10_aged 88 = .ok (.iload 7, 2) := by decide +kernel
theorem dX10_aged_90 : decode cX10_aged 90 = .ok (.iload 5, 2) := by decide +kernel
theorem dX10_aged_92 : decode cX10_aged 92 = .ok (.if_icmp .le 8, 3) := by decide +kernel
theorem dX10_aged_95 : decode cX10_aged 95 = .ok (.iload 6, 2) := by decide +kernel
theorem dX10_aged_97 : decode cX10_aged 97 = .ok (.goto 5, 3) := by decide +kernel
theorem dX10_aged_100 : decode cX10_aged 100 = .ok (.iload 4, 2) := by decide +kernel
theorem dX10_aged_102 : decode cX10_aged 102 = .ok (.istore 4, 2) := by decide +kernel
theorem dX10_aged_104 : decode cX10_aged 104 = .ok (.iload 7, 2) := by decide +kernel
theorem dX10_aged_106 : decode cX10_aged 106 = .ok (.iload 5, 2) := by decide +kernel
theorem dX10_aged_108 : decode cX10_aged 108 = .ok (.if_icmp .le 8, 3) := by decide +kernel
theorem dX10_aged_111 : decode cX10_aged 111 = .ok (.iload 7, 2) := by decide +kernel
theorem dX10_aged_113 : decode cX10_aged 113 = .ok (.goto 5, 3) := by decide +kernel
theorem dX10_aged_116 : decode cX10_aged 116 = .ok (.iload 5, 2) := by decide +kernel
theorem dX10_aged_118 : decode cX10_aged 118 = .ok (.istore 5, 2) := by decide +kernel
theorem dX10_aged_120 : decode cX10_aged 120 = .ok (.iinc 6 1, 3) := by decide +kernel
theorem dX10_aged_123 : decode cX10_aged 123 = .ok (.goto (-63), 3) := by decide +kernel
theorem dX10_aged_126 : decode cX10_aged 126 = .ok (.iload 4, 2) := by decide +kernel
theorem dX10_aged_128 : decode cX10_aged 128 = .ok (.ireturn, 1) := by decide +kernel
theorem dX10_owes_0 : decode cX10_owes 0 = .ok (.aload_n 0, 1) := by decide +kernel
theorem dX10_owes_1 : decode cX10_owes 1 = .ok (.iload_n 1, 1) := by decide +kernel
theorem dX10_owes_2 : decode cX10_owes 2 = .ok (.invokevirtual 125, 3) := by decide +kernel
theorem dX10_owes_5 : decode cX10_owes 5 = .ok (.ifCond .eq 23, 3) := by decide +kernel
theorem dX10_owes_8 : decode cX10_owes 8 = .ok (.aload_n 0, 1) := by decide +kernel
theorem dX10_owes_9 : decode cX10_owes 9 = .ok (.iload_n 2, 1) := by decide +kernel
theorem dX10_owes_10 : decode cX10_owes 10 = .ok (.invokevirtual 125, 3) := by decide +kernel
theorem dX10_owes_13 : decode cX10_owes 13 = .ok (.ifCond .eq 15, 3) := by decide +kernel
theorem dX10_owes_16 : decode cX10_owes 16 = .ok (.iload_n 1, 1) := by decide +kernel
theorem dX10_owes_17 : decode cX10_owes 17 = .ok (.iload_n 2, 1) := by decide +kernel
theorem dX10_owes_18 : decode cX10_owes 18 = .ok (.if_icmp .eq 10, 3) := by decide +kernel
theorem dX10_owes_21 : decode cX10_owes 21 = .ok (.iload_n 3, 1) := by decide +kernel
theorem dX10_owes_22 : decode cX10_owes 22 = .ok (.invokestatic 138, 3) := by decide +kernel
theorem dX10_owes_25 : decode cX10_owes 25 = .ok (.ifCond .ne 5, 3) := by decide +kernel
theorem dX10_owes_28 : decode cX10_owes 28 = .ok (.iconst (-1), 1) := by decide +kernel
theorem dX10_owes_29 : decode cX10_owes 29 = .ok (.ireturn, 1) := by decide +kernel
theorem dX10_owes_30 : decode cX10_owes 30 = .ok (.aload_n 0, 1) := by decide +kernel
theorem dX10_owes_31 : decode cX10_owes 31 = .ok (.getfield 122, 3) := by decide +kernel
theorem dX10_owes_34 : decode cX10_owes 34 = .ok (.bipush 8, 2) := by decide +kernel
theorem dX10_owes_36 : decode cX10_owes 36 = .ok (.if_icmp .ne 6, 3) := by decide +kernel
theorem dX10_owes_39 : decode cX10_owes 39 = .ok (.bipush (-3), 2) := by decide +kernel
theorem dX10_owes_41 : decode cX10_owes 41 = .ok (.ireturn, 1) := by decide +kernel
theorem dX10_owes_42 : decode cX10_owes 42 = .ok (.aload_n 0, 1) := by decide +kernel
theorem dX10_owes_43 : decode cX10_owes 43 = .ok (.getfield 60, 3) := by decide +kernel
theorem dX10_owes_46 : decode cX10_owes 46 = .ok (.iconst 3, 1) := by decide +kernel
theorem dX10_owes_47 : decode cX10_owes 47 = .ok (.aload_n 0, 1) := by decide +kernel
theorem dX10_owes_48 : decode cX10_owes 48 = .ok (.getfield 122, 3) := by decide +kernel
theorem dX10_owes_51 : decode cX10_owes 51 = .ok (.imul, 1) := by decide +kernel
theorem dX10_owes_52 : decode cX10_owes 52 = .ok (.iload_n 1, 1) := by decide +kernel
theorem dX10_owes_53 : decode cX10_owes 53 = .ok (.iastore, 1) := by decide +kernel
theorem dX10_owes_54 : decode cX10_owes 54 = .ok (.aload_n 0, 1) := by decide +kernel
theorem dX10_owes_55 : decode cX10_owes 55 = .ok (.getfield 60, 3) := by decide +kernel
theorem dX10_owes_58 : decode cX10_owes 58 = .ok (.iconst 3, 1) := by decide +kernel
theorem dX10_owes_59 : decode cX10_owes 59 = .ok (.aload_n 0, 1) := by decide +kernel
theorem dX10_owes_60 : decode cX10_owes 60 = .ok (.getfield 122, 3) := by decide +kernel
theorem dX10_owes_63 : decode cX10_owes 63 = .ok (.imul, 1) := by decide +kernel
theorem dX10_owes_64 : decode cX10_owes 64 = .ok (.iconst 1, 1) := by decide +kernel
theorem dX10_owes_65 : decode cX10_owes 65 = .ok (.iadd, 1) := by decide +kernel
theorem dX10_owes_66 : decode cX10_owes 66 = .ok (.iload_n 2, 1) := by decide +kernel
theorem dX10_owes_67 : decode cX10_owes 67 = .ok (.iastore, 1) := by decide +kernel
theorem dX10_owes_68 : decode cX10_owes 68 = .ok (.aload_n 0, 1) := by decide +kernel
theorem dX10_owes_69 : decode cX10_owes 69 = .ok (.getfield 60, 3) := by decide +kernel
theorem dX10_owes_72 : decode cX10_owes 72 = .ok (.iconst 3, 1) := by decide +kernel
theorem dX10_owes_73 : decode cX10_owes 73 = .ok (.aload_n 0, 1) := by decide +kernel
theorem dX10_owes_74 : decode cX10_owes 74 = .ok (.getfield 122, 3) := by decide +kernel
theorem dX10_owes_77 : decode cX10_owes 77 = .ok (.imul, 1) := by decide +kernel
theorem dX10_owes_78 : decode cX10_owes 78 = .ok (.iconst 2, 1) := by decide +kernel
theorem dX10_owes_79 : decode cX10_owes 79 = .ok (.iadd, 1) := by decide +kernel
theorem dX10_owes_80 : decode cX10_owes 80 = .ok (.iload_n 3, 1) := by decide +kernel
theorem dX10_owes_81 : decode cX10_owes 81 = .ok (.iastore, 1) := by decide +kernel
theorem dX10_owes_82 : decode cX10_owes 82 = .ok (.aload_n 0, 1) := by decide +kernel
theorem dX10_owes_83 : decode cX10_owes 83 = .ok (.dup, 1) := by decide +kernel
theorem dX10_owes_84 : decode cX10_owes 84 = .ok (.getfield 122, 3) := by decide +kernel
theorem dX10_owes_87 : decode cX10_owes 87 = .ok (.iconst 1, 1) := by decide +kernel
theorem dX10_owes_88 : decode cX10_owes 88 = .ok (.iadd, 1) := by decide +kernel
theorem dX10_owes_89 : decode cX10_owes 89 = .ok (.putfield 122, 3) := by decide +kernel
theorem dX10_owes_92 : decode cX10_owes 92 = .ok (.aload_n 0, 1) := by decide +kernel
theorem dX10_owes_93 : decode cX10_owes 93 = .ok (.getfield 122, 3) := by decide +kernel
theorem dX10_owes_96 : decode cX10_owes 96 = .ok (.iconst 1, 1) := by decide +kernel
theorem dX10_owes_97 : decode cX10_owes 97 = .ok (.isub, 1) := by decide +kernel
theorem dX10_owes_98 : decode cX10_owes 98 = .ok (.ireturn, 1) := by decide +kernel
theorem dX10_dueOf_0 : decode cX10_dueOf 0 = .ok (.aload_n 0, 1) := by decide +kernel
theorem dX10_dueOf_1 : decode cX10_dueOf 1 = .ok (.aload_n 0, 1) := by decide +kernel
theorem dX10_dueOf_2 : decode cX10_dueOf 2 = .ok (.getfield 60, 3) := by decide +kernel
theorem dX10_dueOf_5 : decode cX10_dueOf 5 = .ok (.iconst 3, 1) := by decide +kernel
theorem dX10_dueOf_6 : decode cX10_dueOf 6 = .ok (.iload_n 1, 1) := by decide +kernel
theorem dX10_dueOf_7 : decode cX10_dueOf 7 = .ok (.imul, 1) := by decide +kernel
theorem dX10_dueOf_8 : decode cX10_dueOf 8 = .ok (.iconst 1, 1) := by decide +kernel
theorem dX10_dueOf_9 : decode cX10_dueOf 9 = .ok (.iadd, 1) := by decide +kernel
theorem dX10_dueOf_10 : decode cX10_dueOf 10 = .ok (.iaload, 1) := by decide +kernel
theorem dX10_dueOf_11 : decode cX10_dueOf 11 = .ok (.aload_n 0, 1) := by decide +kernel
theorem dX10_dueOf_12 : decode cX10_dueOf 12 = .ok (.getfield 60, 3) := by decide +kernel
theorem dX10_dueOf_15 : decode cX10_dueOf 15 = .ok (.iconst 3, 1) := by decide +kernel
theorem dX10_dueOf_16 : decode cX10_dueOf 16 = .ok (.iload_n 1, 1) := by decide +kernel
theorem dX10_dueOf_17 : decode cX10_dueOf 17 = .ok (.imul, 1) := by decide +kernel
theorem dX10_dueOf_18 : decode cX10_dueOf 18 = .ok (.iconst 2, 1) := by decide +kernel
theorem dX10_dueOf_19 : decode cX10_dueOf 19 = .ok (.iadd, 1) := by decide +kernel
theorem dX10_dueOf_20 : decode cX10_dueOf 20 = .ok (.iaload, 1) := by decide +kernel
theorem dX10_dueOf_21 : decode cX10_dueOf 21 = .ok (.iconst 0, 1) := by decide +kernel
theorem dX10_dueOf_22 : decode cX10_dueOf 22 = .ok (.invokevirtual 141, 3) := by decide +kernel
theorem dX10_dueOf_25 : decode cX10_dueOf 25 = .ok (.ireturn, 1) := by decide +kernel
theorem dX10_comesBack_0 : decode cX10_comesBack 0 = .ok (.aload_n 0, 1) := by decide +kernel
theorem dX10_comesBack_1 : decode cX10_comesBack 1 = .ok (.iload_n 1, 1) := by decide +kernel
theorem dX10_comesBack_2 : decode cX10_comesBack 2 = .ok (.invokevirtual 164, 3) := by decide +kernel
theorem dX10_comesBack_5 : decode cX10_comesBack 5 = .ok (.bipush (-9), 2) := by decide +kernel
theorem dX10_comesBack_7 : decode cX10_comesBack 7 = .ok (.if_icmp .ne 7, 3) := by decide +kernel
theorem dX10_comesBack_10 : decode cX10_comesBack 10 = .ok (.iconst 0, 1) := by decide +kernel
theorem dX10_comesBack_11 : decode cX10_comesBack 11 = .ok (.goto 6, 3) := by decide +kernel
theorem dX10_comesBack_14 : decode cX10_comesBack 14 = .ok (.iconst 1, 1) := by decide +kernel
theorem dX10_comesBack_15 : decode cX10_comesBack 15 = .ok (.iload_n 1, 1) := by decide +kernel
theorem dX10_comesBack_16 : decode cX10_comesBack 16 = .ok (.ishl, 1) := by decide +kernel
theorem dX10_comesBack_17 : decode cX10_comesBack 17 = .ok (.istore_n 2, 1) := by decide +kernel
theorem dX10_comesBack_18 : decode cX10_comesBack 18 = .ok (.iconst 0, 1) := by decide +kernel
theorem dX10_comesBack_19 : decode cX10_comesBack 19 = .ok (.istore_n 3, 1) := by decide +kernel
theorem dX10_comesBack_20 : decode cX10_comesBack 20 = .ok (.iload_n 2, 1) := by decide +kernel
theorem dX10_comesBack_21 : decode cX10_comesBack 21 = .ok (.iload_n 3, 1) := by decide +kernel
theorem dX10_comesBack_22 : decode cX10_comesBack 22 = .ok (.if_icmp .eq 115, 3) := by decide +kernel
theorem dX10_comesBack_25 : decode cX10_comesBack 25 = .ok (.iload_n 2, 1) := by decide +kernel
theorem dX10_comesBack_26 : decode cX10_comesBack 26 = .ok (.istore_n 3, 1) := by decide +kernel
theorem dX10_comesBack_27 : decode cX10_comesBack 27 = .ok (.iconst 0, 1) := by decide +kernel
theorem dX10_comesBack_28 : decode cX10_comesBack 28 = .ok (.istore 4, 2) := by decide +kernel
theorem dX10_comesBack_30 : decode cX10_comesBack 30 = .ok (.iload 4, 2) := by decide +kernel
theorem dX10_comesBack_32 : decode cX10_comesBack 32 = .ok (.aload_n 0, 1) := by decide +kernel
theorem dX10_comesBack_33 : decode cX10_comesBack 33 = .ok (.getfield 122, 3) := by decide +kernel
theorem dX10_comesBack_36 : decode cX10_comesBack 36 = .ok (.if_icmp .ge 98, 3) := by decide +kernel
theorem dX10_comesBack_39 : decode cX10_comesBack 39 = .ok (.iconst 0, 1) := by decide +kernel
theorem dX10_comesBack_40 : decode cX10_comesBack 40 = .ok (.istore 5, 2) := by decide +kernel
theorem dX10_comesBack_42 : decode cX10_comesBack 42 = .ok (.iload 5, 2) := by decide +kernel
theorem dX10_comesBack_44 : decode cX10_comesBack 44 = .ok (.aload_n 0, 1) := by decide +kernel
theorem dX10_comesBack_45 : decode cX10_comesBack 45 = .ok (.getfield 122, 3) := by decide +kernel
theorem dX10_comesBack_48 : decode cX10_comesBack 48 = .ok (.if_icmp .ge 80, 3) := by decide +kernel
theorem dX10_comesBack_51 : decode cX10_comesBack 51 = .ok (.iload_n 3, 1) := by decide +kernel
theorem dX10_comesBack_52 : decode cX10_comesBack 52 = .ok (.iload 4, 2) := by decide +kernel
theorem dX10_comesBack_54 : decode cX10_comesBack 54 = .ok (.ishr, 1) := by decide +kernel
theorem dX10_comesBack_55 : decode cX10_comesBack 55 = .ok (.iconst 1, 1) := by decide +kernel
theorem dX10_comesBack_56 : decode cX10_comesBack 56 = .ok (.iand, 1) := by decide +kernel
theorem dX10_comesBack_57 : decode cX10_comesBack 57 = .ok (.iconst 1, 1) := by decide +kernel
theorem dX10_comesBack_58 : decode cX10_comesBack 58 = .ok (.if_icmp .ne 45, 3) := by decide +kernel
theorem dX10_comesBack_61 : decode cX10_comesBack 61 = .ok (.aload_n 0, 1) := by decide +kernel
theorem dX10_comesBack_62 : decode cX10_comesBack 62 = .ok (.getfield 60, 3) := by decide +kernel
theorem dX10_comesBack_65 : decode cX10_comesBack 65 = .ok (.iconst 3, 1) := by decide +kernel
theorem dX10_comesBack_66 : decode cX10_comesBack 66 = .ok (.iload 4, 2) := by decide +kernel
theorem dX10_comesBack_68 : decode cX10_comesBack 68 = .ok (.imul, 1) := by decide +kernel
theorem dX10_comesBack_69 : decode cX10_comesBack 69 = .ok (.iconst 1, 1) := by decide +kernel
theorem dX10_comesBack_70 : decode cX10_comesBack 70 = .ok (.iadd, 1) := by decide +kernel
theorem dX10_comesBack_71 : decode cX10_comesBack 71 = .ok (.iaload, 1) := by decide +kernel
theorem dX10_comesBack_72 : decode cX10_comesBack 72 = .ok (.aload_n 0, 1) := by decide +kernel
theorem dX10_comesBack_73 : decode cX10_comesBack 73 = .ok (.getfield 60, 3) := by decide +kernel
theorem dX10_comesBack_76 : decode cX10_comesBack 76 = .ok (.iconst 3, 1) := by decide +kernel
theorem dX10_comesBack_77 : decode cX10_comesBack 77 = .ok (.iload 5, 2) := by decide +kernel
theorem dX10_comesBack_79 : decode cX10_comesBack 79 = .ok (.imul, 1) := by decide +kernel
theorem dX10_comesBack_80 : decode cX10_comesBack 80 = .ok (.iaload, 1) := by decide +kernel
theorem dX10_comesBack_81 : decode cX10_comesBack 81 = .ok (.if_icmp .ne 22, 3) := by decide +kernel
theorem dX10_comesBack_84 : decode cX10_comesBack 84 = .ok (.aload_n 0, 1) := by decide +kernel
theorem dX10_comesBack_85 : decode cX10_comesBack 85 = .ok (.iload 5, 2) := by decide +kernel
theorem dX10_comesBack_87 : decode cX10_comesBack 87 = .ok (.invokevirtual 164, 3) := by decide +kernel
theorem dX10_comesBack_90 : decode cX10_comesBack 90 = .ok (.aload_n 0, 1) := by decide +kernel
theorem dX10_comesBack_91 : decode cX10_comesBack 91 = .ok (.iload 4, 2) := by decide +kernel
theorem dX10_comesBack_93 : decode cX10_comesBack 93 = .ok (.invokevirtual 164, 3) := by decide +kernel
theorem dX10_comesBack_96 : decode cX10_comesBack 96 = .ok (.if_icmp .le 7, 3) := by decide +kernel
theorem dX10_comesBack_99 : decode cX10_comesBack 99 = .ok (.iconst 1, 1) := by decide +kernel
theorem dX10_comesBack_100 : decode cX10_comesBack 100 = .ok (.goto 4, 3) := by decide +kernel
theorem dX10_comesBack_103 : decode cX10_comesBack 103 = .ok (.iconst 0, 1) := by decide +kernel
theorem dX10_comesBack_104 : decode cX10_comesBack 104 = .ok (.istore 6, 2) := by decide +kernel
theorem dX10_comesBack_106 : decode cX10_comesBack 106 = .ok (.iload_n 2, 1) := by decide +kernel
theorem dX10_comesBack_107 : decode cX10_comesBack 107 = .ok (.iload 6, 2) := by decide +kernel
theorem dX10_comesBack_109 : decode cX10_comesBack 109 = .ok (.ifCond .eq 10, 3) := by decide +kernel
theorem dX10_comesBack_112 : decode cX10_comesBack 112 = .ok (.iconst 1, 1) := by decide +kernel
theorem dX10_comesBack_113 : decode cX10_comesBack 113 = .ok (.iload 5, 2) := by decide +kernel
theorem dX10_comesBack_115 : decode cX10_comesBack 115 = .ok (.ishl, 1) := by decide +kernel
theorem dX10_comesBack_116 : decode cX10_comesBack 116 = .ok (.goto 4, 3) := by decide +kernel
theorem dX10_comesBack_119 : decode cX10_comesBack 119 = .ok (.iconst 0, 1) := by decide +kernel
theorem dX10_comesBack_120 : decode cX10_comesBack 120 = .ok (.ior, 1) := by decide +kernel
theorem dX10_comesBack_121 : decode cX10_comesBack 121 = .ok (.istore_n 2, 1) := by decide +kernel
theorem dX10_comesBack_122 : decode cX10_comesBack 122 = .ok (.iinc 5 1, 3) := by decide +kernel
theorem dX10_comesBack_125 : decode cX10_comesBack 125 = .ok (.goto (-83), 3) := by decide +kernel
theorem dX10_comesBack_128 : decode cX10_comesBack 128 = .ok (.iinc 4 1, 3) := by decide +kernel
theorem dX10_comesBack_131 : decode cX10_comesBack 131 = .ok (.goto (-101), 3) := by decide +kernel
theorem dX10_comesBack_134 : decode cX10_comesBack 134 = .ok (.goto (-114), 3) := by decide +kernel
theorem dX10_comesBack_137 : decode cX10_comesBack 137 = .ok (.iconst 0, 1) := by decide +kernel
theorem dX10_comesBack_138 : decode cX10_comesBack 138 = .ok (.istore 4, 2) := by decide +kernel
theorem dX10_comesBack_140 : decode cX10_comesBack 140 = .ok (.iconst 0, 1) := by decide +kernel
theorem dX10_comesBack_141 : decode cX10_comesBack 141 = .ok (.istore 5, 2) := by decide +kernel
theorem dX10_comesBack_143 : decode cX10_comesBack 143 = .ok (.iload 5, 2) := by decide +kernel
theorem dX10_comesBack_145 : decode cX10_comesBack 145 = .ok (.aload_n 0, 1) := by decide +kernel
theorem dX10_comesBack_146 : decode cX10_comesBack 146 = .ok (.getfield 122, 3) := by decide +kernel
theorem dX10_comesBack_149 : decode cX10_comesBack 149 = .ok (.if_icmp .ge 59, 3) := by decide +kernel
theorem dX10_comesBack_152 : decode cX10_comesBack 152 = .ok (.iload 4, 2) := by decide +kernel
theorem dX10_comesBack_154 : decode cX10_comesBack 154 = .ok (.ifCond .ne 41, 3) := by decide +kernel
theorem dX10_comesBack_157 : decode cX10_comesBack 157 = .ok (.iload 5, 2) := by decide +kernel
theorem dX10_comesBack_159 : decode cX10_comesBack 159 = .ok (.iload_n 1, 1) := by decide +kernel
theorem dX10_comesBack_160 : decode cX10_comesBack 160 = .ok (.if_icmp .eq 39, 3) := by decide +kernel
theorem dX10_comesBack_163 : decode cX10_comesBack 163 = .ok (.iload_n 2, 1) := by decide +kernel
theorem dX10_comesBack_164 : decode cX10_comesBack 164 = .ok (.iload 5, 2) := by decide +kernel
theorem dX10_comesBack_166 : decode cX10_comesBack 166 = .ok (.ishr, 1) := by decide +kernel
theorem dX10_comesBack_167 : decode cX10_comesBack 167 = .ok (.iconst 1, 1) := by decide +kernel
theorem dX10_comesBack_168 : decode cX10_comesBack 168 = .ok (.iand, 1) := by decide +kernel
theorem dX10_comesBack_169 : decode cX10_comesBack 169 = .ok (.iconst 1, 1) := by decide +kernel
theorem dX10_comesBack_170 : decode cX10_comesBack 170 = .ok (.if_icmp .ne 29, 3) := by decide +kernel
theorem dX10_comesBack_173 : decode cX10_comesBack 173 = .ok (.aload_n 0, 1) := by decide +kernel
theorem dX10_comesBack_174 : decode cX10_comesBack 174 = .ok (.getfield 60, 3) := by decide +kernel
theorem dX10_comesBack_177 : decode cX10_comesBack 177 = .ok (.iconst 3, 1) := by decide +kernel
theorem dX10_comesBack_178 : decode cX10_comesBack 178 = .ok (.iload 5, 2) := by decide +kernel
theorem dX10_comesBack_180 : decode cX10_comesBack 180 = .ok (.imul, 1) := by decide +kernel
theorem dX10_comesBack_181 : decode cX10_comesBack 181 = .ok (.iconst 1, 1) := by decide +kernel
theorem dX10_comesBack_182 : decode cX10_comesBack 182 = .ok (.iadd, 1) := by decide +kernel
theorem dX10_comesBack_183 : decode cX10_comesBack 183 = .ok (.iaload, 1) := by decide +kernel
theorem dX10_comesBack_184 : decode cX10_comesBack 184 = .ok (.aload_n 0, 1) := by decide +kernel
theorem dX10_comesBack_185 : decode cX10_comesBack 185 = .ok (.getfield 60, 3) := by decide +kernel
theorem dX10_comesBack_188 : decode cX10_comesBack 188 = .ok (.iconst 3, 1) := by decide +kernel
theorem dX10_comesBack_189 : decode cX10_comesBack 189 = .ok (.iload_n 1, 1) := by decide +kernel
theorem dX10_comesBack_190 : decode cX10_comesBack 190 = .ok (.imul, 1) := by decide +kernel
theorem dX10_comesBack_191 : decode cX10_comesBack 191 = .ok (.iaload, 1) := by decide +kernel
theorem dX10_comesBack_192 : decode cX10_comesBack 192 = .ok (.if_icmp .ne 7, 3) := by decide +kernel
theorem dX10_comesBack_195 : decode cX10_comesBack 195 = .ok (.iconst 1, 1) := by decide +kernel
theorem dX10_comesBack_196 : decode cX10_comesBack 196 = .ok (.goto 4, 3) := by decide +kernel
theorem dX10_comesBack_199 : decode cX10_comesBack 199 = .ok (.iconst 0, 1) := by decide +kernel
theorem dX10_comesBack_200 : decode cX10_comesBack 200 = .ok (.istore 4, 2) := by decide +kernel
theorem dX10_comesBack_202 : decode cX10_comesBack 202 = .ok (.iinc 5 1, 3) := by decide +kernel
theorem dX10_comesBack_205 : decode cX10_comesBack 205 = .ok (.goto (-62), 3) := by decide +kernel
theorem dX10_comesBack_208 : decode cX10_comesBack 208 = .ok (.iload 4, 2) := by decide +kernel
theorem dX10_comesBack_210 : decode cX10_comesBack 210 = .ok (.ireturn, 1) := by decide +kernel
theorem dX10_due_0 : decode cX10_due 0 = .ok (.iload_n 1, 1) := by decide +kernel
theorem dX10_due_1 : decode cX10_due 1 = .ok (.iconst (-1), 1) := by decide +kernel
theorem dX10_due_2 : decode cX10_due 2 = .ok (.aload_n 0, 1) := by decide +kernel
theorem dX10_due_3 : decode cX10_due 3 = .ok (.getfield 122, 3) := by decide +kernel
theorem dX10_due_6 : decode cX10_due 6 = .ok (.iconst 1, 1) := by decide +kernel
theorem dX10_due_7 : decode cX10_due 7 = .ok (.isub, 1) := by decide +kernel
theorem dX10_due_8 : decode cX10_due 8 = .ok (.invokestatic 63, 3) := by decide +kernel
theorem dX10_due_11 : decode cX10_due 11 = .ok (.ifCond .ne 5, 3) := by decide +kernel
theorem dX10_due_14 : decode cX10_due 14 = .ok (.iconst (-1), 1) := by decide +kernel
theorem dX10_due_15 : decode cX10_due 15 = .ok (.ireturn, 1) := by decide +kernel
theorem dX10_due_16 : decode cX10_due 16 = .ok (.iload_n 1, 1) := by decide +kernel
theorem dX10_due_17 : decode cX10_due 17 = .ok (.ifCond .lt 9, 3) := by decide +kernel
theorem dX10_due_20 : decode cX10_due 20 = .ok (.aload_n 0, 1) := by decide +kernel
theorem dX10_due_21 : decode cX10_due 21 = .ok (.iload_n 1, 1) := by decide +kernel
theorem dX10_due_22 : decode cX10_due 22 = .ok (.invokevirtual 164, 3) := by decide +kernel
theorem dX10_due_25 : decode cX10_due 25 = .ok (.ireturn, 1) := by decide +kernel
theorem dX10_due_26 : decode cX10_due 26 = .ok (.iconst 0, 1) := by decide +kernel
theorem dX10_due_27 : decode cX10_due 27 = .ok (.istore_n 2, 1) := by decide +kernel
theorem dX10_due_28 : decode cX10_due 28 = .ok (.iconst 0, 1) := by decide +kernel
theorem dX10_due_29 : decode cX10_due 29 = .ok (.istore_n 3, 1) := by decide +kernel
theorem dX10_due_30 : decode cX10_due 30 = .ok (.iload_n 3, 1) := by decide +kernel
theorem dX10_due_31 : decode cX10_due 31 = .ok (.aload_n 0, 1) := by decide +kernel
theorem dX10_due_32 : decode cX10_due 32 = .ok (.getfield 122, 3) := by decide +kernel
theorem dX10_due_35 : decode cX10_due 35 = .ok (.if_icmp .ge 27, 3) := by decide +kernel
theorem dX10_due_38 : decode cX10_due 38 = .ok (.iload_n 2, 1) := by decide +kernel
theorem dX10_due_39 : decode cX10_due 39 = .ok (.ifCond .ne 11, 3) := by decide +kernel
theorem dX10_due_42 : decode cX10_due 42 = .ok (.aload_n 0, 1) := by decide +kernel
theorem dX10_due_43 : decode cX10_due 43 = .ok (.iload_n 3, 1) := by decide +kernel
theorem dX10_due_44 : decode cX10_due 44 = .ok (.invokevirtual 167, 3) := by decide +kernel
theorem dX10_due_47 : decode cX10_due 47 = .ok (.ifCond .eq 7, 3) := by decide +kernel
theorem dX10_due_50 : decode cX10_due 50 = .ok (.iconst 1, 1) := by decide +kernel
theorem dX10_due_51 : decode cX10_due 51 = .ok (.goto 4, 3) := by decide +kernel
theorem dX10_due_54 : decode cX10_due 54 = .ok (.iconst 0, 1) := by decide +kernel
theorem dX10_due_55 : decode cX10_due 55 = .ok (.istore_n 2, 1) := by decide +kernel
theorem dX10_due_56 : decode cX10_due 56 = .ok (.iinc 3 1, 3) := by decide +kernel
theorem dX10_due_59 : decode cX10_due 59 = .ok (.goto (-29), 3) := by decide +kernel
theorem dX10_due_62 : decode cX10_due 62 = .ok (.iload_n 2, 1) := by decide +kernel
theorem dX10_due_63 : decode cX10_due 63 = .ok (.ifCond .eq 7, 3) := by decide +kernel
theorem dX10_due_66 : decode cX10_due 66 = .ok (.iconst 1, 1) := by decide +kernel
theorem dX10_due_67 : decode cX10_due 67 = .ok (.goto 4, 3) := by decide +kernel
theorem dX10_due_70 : decode cX10_due 70 = .ok (.iconst 0, 1) := by decide +kernel
theorem dX10_due_71 : decode cX10_due 71 = .ok (.ireturn, 1) := by decide +kernel
theorem dX10_mark_0 : decode cX10_mark 0 = .ok (.iload_n 1, 1) := by decide +kernel
theorem dX10_mark_1 : decode cX10_mark 1 = .ok (.iconst 0, 1) := by decide +kernel
theorem dX10_mark_2 : decode cX10_mark 2 = .ok (.iconst 5, 1) := by decide +kernel
theorem dX10_mark_3 : decode cX10_mark 3 = .ok (.invokestatic 63, 3) := by decide +kernel
theorem dX10_mark_6 : decode cX10_mark 6 = .ok (.ifCond .eq 11, 3) := by decide +kernel
theorem dX10_mark_9 : decode cX10_mark 9 = .ok (.aload_n 0, 1) := by decide +kernel
theorem dX10_mark_10 : decode cX10_mark 10 = .ok (.iload_n 2, 1) := by decide +kernel
theorem dX10_mark_11 : decode cX10_mark 11 = .ok (.invokevirtual 125, 3) := by decide +kernel
theorem dX10_mark_14 : decode cX10_mark 14 = .ok (.ifCond .ne 6, 3) := by decide +kernel
theorem dX10_mark_17 : decode cX10_mark 17 = .ok (.ldc 170, 2) := by decide +kernel
theorem dX10_mark_19 : decode cX10_mark 19 = .ok (.ireturn, 1) := by decide +kernel
theorem dX10_mark_20 : decode cX10_mark 20 = .ok (.aload_n 0, 1) := by decide +kernel
theorem dX10_mark_21 : decode cX10_mark 21 = .ok (.iload_n 2, 1) := by decide +kernel
theorem dX10_mark_22 : decode cX10_mark 22 = .ok (.aload_n 0, 1) := by decide +kernel
theorem dX10_mark_23 : decode cX10_mark 23 = .ok (.getfield 38, 3) := by decide +kernel
theorem dX10_mark_26 : decode cX10_mark 26 = .ok (.iconst 0, 1) := by decide +kernel
theorem dX10_mark_27 : decode cX10_mark 27 = .ok (.iaload, 1) := by decide +kernel
theorem dX10_mark_28 : decode cX10_mark 28 = .ok (.invokevirtual 135, 3) := by decide +kernel
theorem dX10_mark_31 : decode cX10_mark 31 = .ok (.istore_n 3, 1) := by decide +kernel
theorem dX10_mark_32 : decode cX10_mark 32 = .ok (.iload_n 1, 1) := by decide +kernel
theorem dX10_mark_33 : decode cX10_mark 33 = .ok (.tableswitch 140 0 4 #[35, 47, 68, 89, 112], 35) := by decide +kernel
theorem dX10_mark_68 : decode cX10_mark 68 = .ok (.aload_n 0, 1) := by decide +kernel
theorem dX10_mark_69 : decode cX10_mark 69 = .ok (.dup, 1) := by decide +kernel
theorem dX10_mark_70 : decode cX10_mark 70 = .ok (.getfield 171, 3) := by decide +kernel
theorem dX10_mark_73 : decode cX10_mark 73 = .ok (.lconst 1, 1) := by decide +kernel
theorem dX10_mark_74 : decode cX10_mark 74 = .ok (.ladd, 1) := by decide +kernel
theorem dX10_mark_75 : decode cX10_mark 75 = .ok (.putfield 171, 3) := by decide +kernel
theorem dX10_mark_78 : decode cX10_mark 78 = .ok (.iload_n 3, 1) := by decide +kernel
theorem dX10_mark_79 : decode cX10_mark 79 = .ok (.ireturn, 1) := by decide +kernel
theorem dX10_mark_80 : decode cX10_mark 80 = .ok (.aload_n 0, 1) := by decide +kernel
theorem dX10_mark_81 : decode cX10_mark 81 = .ok (.dup, 1) := by decide +kernel
theorem dX10_mark_82 : decode cX10_mark 82 = .ok (.getfield 171, 3) := by decide +kernel
theorem dX10_mark_85 : decode cX10_mark 85 = .ok (.ldc2_w 175, 3) := by decide +kernel
theorem dX10_mark_88 : decode cX10_mark 88 = .ok (.ladd, 1) := by decide +kernel
theorem dX10_mark_89 : decode cX10_mark 89 = .ok (.putfield 171, 3) := by decide +kernel
theorem dX10_mark_92 : decode cX10_mark 92 = .ok (.iload_n 3, 1) := by decide +kernel
theorem dX10_mark_93 : decode cX10_mark 93 = .ok (.aload_n 0, 1) := by decide +kernel
theorem dX10_mark_94 : decode cX10_mark 94 = .ok (.getfield 29, 3) := by decide +kernel
theorem dX10_mark_97 : decode cX10_mark 97 = .ok (.iload_n 2, 1) := by decide +kernel
theorem dX10_mark_98 : decode cX10_mark 98 = .ok (.iaload, 1) := by decide +kernel
theorem dX10_mark_99 : decode cX10_mark 99 = .ok (.iadd, 1) := by decide +kernel
theorem dX10_mark_100 : decode cX10_mark 100 = .ok (.ireturn, 1) := by decide +kernel
theorem dX10_mark_101 : decode cX10_mark 101 = .ok (.aload_n 0, 1) := by decide +kernel
theorem dX10_mark_102 : decode cX10_mark 102 = .ok (.dup, 1) := by decide +kernel
theorem dX10_mark_103 : decode cX10_mark 103 = .ok (.getfield 171, 3) := by decide +kernel
theorem dX10_mark_106 : decode cX10_mark 106 = .ok (.ldc2_w 177, 3) := by decide +kernel
theorem dX10_mark_109 : decode cX10_mark 109 = .ok (.ladd, 1) := by decide +kernel
theorem dX10_mark_110 : decode cX10_mark 110 = .ok (.putfield 171, 3) := by decide +kernel
theorem dX10_mark_113 : decode cX10_mark 113 = .ok (.iload_n 3, 1) := by decide +kernel
theorem dX10_mark_114 : decode cX10_mark 114 = .ok (.aload_n 0, 1) := by decide +kernel
theorem dX10_mark_115 : decode cX10_mark 115 = .ok (.getfield 23, 3) := by decide +kernel
theorem dX10_mark_118 : decode cX10_mark 118 = .ok (.iload_n 2, 1) := by decide +kernel
theorem dX10_mark_119 : decode cX10_mark 119 = .ok (.iaload, 1) := by decide +kernel
theorem dX10_mark_120 : decode cX10_mark 120 = .ok (.isub, 1) := by decide +kernel
theorem dX10_mark_121 : decode cX10_mark 121 = .ok (.ireturn, 1) := by decide +kernel
theorem dX10_mark_122 : decode cX10_mark 122 = .ok (.aload_n 0, 1) := by decide +kernel
theorem dX10_mark_123 : decode cX10_mark 123 = .ok (.dup, 1) := by decide +kernel
theorem dX10_mark_124 : decode cX10_mark 124 = .ok (.getfield 171, 3) := by decide +kernel
theorem dX10_mark_127 : decode cX10_mark 127 = .ok (.ldc2_w 179, 3) := by decide +kernel
theorem dX10_mark_130 : decode cX10_mark 130 = .ok (.ladd, 1) := by decide +kernel
theorem dX10_mark_131 : decode cX10_mark 131 = .ok (.putfield 171, 3) := by decide +kernel
theorem dX10_mark_134 : decode cX10_mark 134 = .ok (.iconst 2, 1) := by decide +kernel
theorem dX10_mark_135 : decode cX10_mark 135 = .ok (.iload_n 3, 1) := by decide +kernel
theorem dX10_mark_136 : decode cX10_mark 136 = .ok (.aload_n 0, 1) := by decide +kernel
theorem dX10_mark_137 : decode cX10_mark 137 = .ok (.getfield 29, 3) := by decide +kernel
theorem dX10_mark_140 : decode cX10_mark 140 = .ok (.iload_n 2, 1) := by decide +kernel
theorem dX10_mark_141 : decode cX10_mark 141 = .ok (.iaload, 1) := by decide +kernel
theorem dX10_mark_142 : decode cX10_mark 142 = .ok (.iadd, 1) := by decide +kernel
theorem dX10_mark_143 : decode cX10_mark 143 = .ok (.imul, 1) := by decide +kernel
theorem dX10_mark_144 : decode cX10_mark 144 = .ok (.ireturn, 1) := by decide +kernel
theorem dX10_mark_145 : decode cX10_mark 145 = .ok (.aload_n 0, 1) := by decide +kernel
theorem dX10_mark_146 : decode cX10_mark 146 = .ok (.dup, 1) := by decide +kernel
theorem dX10_mark_147 : decode cX10_mark 147 = .ok (.getfield 171, 3) := by decide +kernel
theorem dX10_mark_150 : decode cX10_mark 150 = .ok (.ldc2_w 181, 3) := by decide +kernel
theorem dX10_mark_153 : decode cX10_mark 153 = .ok (.ladd, 1) := by decide +kernel
theorem dX10_mark_154 : decode cX10_mark 154 = .ok (.putfield 171, 3) := by decide +kernel
theorem dX10_mark_157 : decode cX10_mark 157 = .ok (.iload_n 3, 1) := by decide +kernel
theorem dX10_mark_158 : decode cX10_mark 158 = .ok (.aload_n 0, 1) := by decide +kernel
theorem dX10_mark_159 : decode cX10_mark 159 = .ok (.getfield 23, 3) := by decide +kernel
theorem dX10_mark_162 : decode cX10_mark 162 = .ok (.iload_n 2, 1) := by decide +kernel
theorem dX10_mark_163 : decode cX10_mark 163 = .ok (.iaload, 1) := by decide +kernel
theorem dX10_mark_164 : decode cX10_mark 164 = .ok (.isub, 1) := by decide +kernel
theorem dX10_mark_165 : decode cX10_mark 165 = .ok (.aload_n 0, 1) := by decide +kernel
theorem dX10_mark_166 : decode cX10_mark 166 = .ok (.getfield 26, 3) := by decide +kernel
theorem dX10_mark_169 : decode cX10_mark 169 = .ok (.iload_n 2, 1) := by decide +kernel
theorem dX10_mark_170 : decode cX10_mark 170 = .ok (.iaload, 1) := by decide +kernel
theorem dX10_mark_171 : decode cX10_mark 171 = .ok (.iadd, 1) := by decide +kernel
theorem dX10_mark_172 : decode cX10_mark 172 = .ok (.ireturn, 1) := by decide +kernel
theorem dX10_mark_173 : decode cX10_mark 173 = .ok (.aload_n 0, 1) := by decide +kernel
theorem dX10_mark_174 : decode cX10_mark 174 = .ok (.dup, 1) := by decide +kernel
theorem dX10_mark_175 : decode cX10_mark 175 = .ok (.getfield 171, 3) := by decide +kernel
theorem dX10_mark_178 : decode cX10_mark 178 = .ok (.ldc2_w 183, 3) := by decide +kernel
theorem dX10_mark_181 : decode cX10_mark 181 = .ok (.ladd, 1) := by decide +kernel
theorem dX10_mark_182 : decode cX10_mark 182 = .ok (.putfield 171, 3) := by decide +kernel
theorem dX10_mark_185 : decode cX10_mark 185 = .ok (.iload_n 3, 1) := by decide +kernel
theorem dX10_mark_186 : decode cX10_mark 186 = .ok (.aload_n 0, 1) := by decide +kernel
theorem dX10_mark_187 : decode cX10_mark 187 = .ok (.getfield 38, 3) := by decide +kernel
theorem dX10_mark_190 : decode cX10_mark 190 = .ok (.iconst 0, 1) := by decide +kernel
theorem dX10_mark_191 : decode cX10_mark 191 = .ok (.iaload, 1) := by decide +kernel
theorem dX10_mark_192 : decode cX10_mark 192 = .ok (.iadd, 1) := by decide +kernel
theorem dX10_mark_193 : decode cX10_mark 193 = .ok (.ireturn, 1) := by decide +kernel
theorem dX10_copy_0 : decode cX10_copy 0 = .ok (.iconst 0, 1) := by decide +kernel
theorem dX10_copy_1 : decode cX10_copy 1 = .ok (.istore_n 3, 1) := by decide +kernel
theorem dX10_copy_2 : decode cX10_copy 2 = .ok (.iload_n 3, 1) := by decide +kernel
theorem dX10_copy_3 : decode cX10_copy 3 = .ok (.bipush 28, 2) := by decide +kernel
theorem dX10_copy_5 : decode cX10_copy 5 = .ok (.if_icmp .ge 25, 3) := by decide +kernel
theorem dX10_copy_8 : decode cX10_copy 8 = .ok (.aload_n 0, 1) := by decide +kernel
theorem dX10_copy_9 : decode cX10_copy 9 = .ok (.getfield 38, 3) := by decide +kernel
theorem dX10_copy_12 : decode cX10_copy 12 = .ok (.iload_n 2, 1) := by decide +kernel
theorem dX10_copy_13 : decode cX10_copy 13 = .ok (.iload_n 3, 1) := by decide +kernel
theorem dX10_copy_14 : decode cX10_copy 14 = .ok (.iadd, 1) := by decide +kernel
theorem dX10_copy_15 : decode cX10_copy 15 = .ok (.aload_n 0, 1) := by decide +kernel
theorem dX10_copy_16 : decode cX10_copy 16 = .ok (.getfield 38, 3) := by decide +kernel
theorem dX10_copy_19 : decode cX10_copy 19 = .ok (.iload_n 1, 1) := by decide +kernel
theorem dX10_copy_20 : decode cX10_copy 20 = .ok (.iload_n 3, 1) := by decide +kernel
theorem dX10_copy_21 : decode cX10_copy 21 = .ok (.iadd, 1) := by decide +kernel
theorem dX10_copy_22 : decode cX10_copy 22 = .ok (.iaload, 1) := by decide +kernel
theorem dX10_copy_23 : decode cX10_copy 23 = .ok (.iastore, 1) := by decide +kernel
theorem dX10_copy_24 : decode cX10_copy 24 = .ok (.iinc 3 1, 3) := by decide +kernel
theorem dX10_copy_27 : decode cX10_copy 27 = .ok (.goto (-25), 3) := by decide +kernel
theorem dX10_copy_30 : decode cX10_copy 30 = .ok (.return_, 1) := by decide +kernel
theorem dX10_keep_0 : decode cX10_keep 0 = .ok (.iload_n 1, 1) := by decide +kernel
theorem dX10_keep_1 : decode cX10_keep 1 = .ok (.iconst 0, 1) := by decide +kernel
theorem dX10_keep_2 : decode cX10_keep 2 = .ok (.iconst 1, 1) := by decide +kernel
theorem dX10_keep_3 : decode cX10_keep 3 = .ok (.invokestatic 63, 3) := by decide +kernel
theorem dX10_keep_6 : decode cX10_keep 6 = .ok (.ifCond .ne 5, 3) := by decide +kernel
theorem dX10_keep_9 : decode cX10_keep 9 = .ok (.iconst (-1), 1) := by decide +kernel
theorem dX10_keep_10 : decode cX10_keep 10 = .ok (.ireturn, 1) := by decide +kernel
theorem dX10_keep_11 : decode cX10_keep 11 = .ok (.aload_n 0, 1) := by decide +kernel
theorem dX10_keep_12 : decode cX10_keep 12 = .ok (.iconst 0, 1) := by decide +kernel
theorem dX10_keep_13 : decode cX10_keep 13 = .ok (.bipush 28, 2) := by decide +kernel
theorem dX10_keep_15 : decode cX10_keep 15 = .ok (.iconst 1, 1) := by decide +kernel
theorem dX10_keep_16 : decode cX10_keep 16 = .ok (.iload_n 1, 1) := by decide +kernel
theorem dX10_keep_17 : decode cX10_keep 17 = .ok (.iadd, 1) := by decide +kernel
theorem dX10_keep_18 : decode cX10_keep 18 = .ok (.imul, 1) := by decide +kernel
theorem dX10_keep_19 : decode cX10_keep 19 = .ok (.invokevirtual 185, 3) := by decide +kernel
theorem dX10_keep_22 : decode cX10_keep 22 = .ok (.aload_n 0, 1) := by decide +kernel
theorem dX10_keep_23 : decode cX10_keep 23 = .ok (.getfield 41, 3) := by decide +kernel
theorem dX10_keep_26 : decode cX10_keep 26 = .ok (.iload_n 1, 1) := by decide +kernel
theorem dX10_keep_27 : decode cX10_keep 27 = .ok (.iconst 1, 1) := by decide +kernel
theorem dX10_keep_28 : decode cX10_keep 28 = .ok (.bastore, 1) := by decide +kernel
theorem dX10_keep_29 : decode cX10_keep 29 = .ok (.aload_n 0, 1) := by decide +kernel
theorem dX10_keep_30 : decode cX10_keep 30 = .ok (.getfield 38, 3) := by decide +kernel
theorem dX10_keep_33 : decode cX10_keep 33 = .ok (.iconst 0, 1) := by decide +kernel
theorem dX10_keep_34 : decode cX10_keep 34 = .ok (.iaload, 1) := by decide +kernel
theorem dX10_keep_35 : decode cX10_keep 35 = .ok (.ireturn, 1) := by decide +kernel
theorem dX10_back_0 : decode cX10_back 0 = .ok (.iload_n 1, 1) := by decide +kernel
theorem dX10_back_1 : decode cX10_back 1 = .ok (.iconst 0, 1) := by decide +kernel
theorem dX10_back_2 : decode cX10_back 2 = .ok (.iconst 1, 1) := by decide +kernel
theorem dX10_back_3 : decode cX10_back 3 = .ok (.invokestatic 63, 3) := by decide +kernel
theorem dX10_back_6 : decode cX10_back 6 = .ok (.ifCond .ne 5, 3) := by decide +kernel
theorem dX10_back_9 : decode cX10_back 9 = .ok (.iconst (-1), 1) := by decide +kernel
theorem dX10_back_10 : decode cX10_back 10 = .ok (.ireturn, 1) := by decide +kernel
theorem dX10_back_11 : decode cX10_back 11 = .ok (.aload_n 0, 1) := by decide +kernel
theorem dX10_back_12 : decode cX10_back 12 = .ok (.getfield 41, 3) := by decide +kernel
theorem dX10_back_15 : decode cX10_back 15 = .ok (.iload_n 1, 1) := by decide +kernel
theorem dX10_back_16 : decode cX10_back 16 = .ok (.baload, 1) := by decide +kernel
theorem dX10_back_17 : decode cX10_back 17 = .ok (.ifCond .ne 6, 3) := by decide +kernel
theorem dX10_back_20 : decode cX10_back 20 = .ok (.bipush (-2), 2) := by decide +kernel
theorem dX10_back_22 : decode cX10_back 22 = .ok (.ireturn, 1) := by decide +kernel
theorem dX10_back_23 : decode cX10_back 23 = .ok (.aload_n 0, 1) := by decide +kernel
theorem dX10_back_24 : decode cX10_back 24 = .ok (.bipush 28, 2) := by decide +kernel
theorem dX10_back_26 : decode cX10_back 26 = .ok (.iconst 1, 1) := by decide +kernel
theorem dX10_back_27 : decode cX10_back 27 = .ok (.iload_n 1, 1) := by decide +kernel
theorem dX10_back_28 : decode cX10_back 28 = .ok (.iadd, 1) := by decide +kernel
theorem dX10_back_29 : decode cX10_back 29 = .ok (.imul, 1) := by decide +kernel
theorem dX10_back_30 : decode cX10_back 30 = .ok (.iconst 0, 1) := by decide +kernel
theorem dX10_back_31 : decode cX10_back 31 = .ok (.invokevirtual 185, 3) := by decide +kernel
theorem dX10_back_34 : decode cX10_back 34 = .ok (.aload_n 0, 1) := by decide +kernel
theorem dX10_back_35 : decode cX10_back 35 = .ok (.getfield 38, 3) := by decide +kernel
theorem dX10_back_38 : decode cX10_back 38 = .ok (.iconst 0, 1) := by decide +kernel
theorem dX10_back_39 : decode cX10_back 39 = .ok (.iaload, 1) := by decide +kernel
theorem dX10_back_40 : decode cX10_back 40 = .ok (.ireturn, 1) := by decide +kernel
theorem dX10_count_0 : decode cX10_count 0 = .ok (.iload_n 1, 1) := by decide +kernel
theorem dX10_count_1 : decode cX10_count 1 = .ok (.tableswitch 96 0 7 #[47, 54, 61, 68, 73, 78, 83, 91], 47) := by decide +kernel
theorem dX10_count_48 : decode cX10_count 48 = .ok (.aload_n 0, 1) := by decide +kernel
theorem dX10_count_49 : decode cX10_count 49 = .ok (.getfield 13, 3) := by decide +kernel
theorem dX10_count_52 : decode cX10_count 52 = .ok (.iconst 0, 1) := by decide +kernel
theorem dX10_count_53 : decode cX10_count 53 = .ok (.iaload, 1) := by decide +kernel
theorem dX10_count_54 : decode cX10_count 54 = .ok (.ireturn, 1) := by decide +kernel
theorem dX10_count_55 : decode cX10_count 55 = .ok (.aload_n 0, 1) := by decide +kernel
theorem dX10_count_56 : decode cX10_count 56 = .ok (.getfield 17, 3) := by decide +kernel
theorem dX10_count_59 : decode cX10_count 59 = .ok (.iconst 0, 1) := by decide +kernel
theorem dX10_count_60 : decode cX10_count 60 = .ok (.iaload, 1) := by decide +kernel
theorem dX10_count_61 : decode cX10_count 61 = .ok (.ireturn, 1) := by decide +kernel
theorem dX10_count_62 : decode cX10_count 62 = .ok (.aload_n 0, 1) := by decide +kernel
theorem dX10_count_63 : decode cX10_count 63 = .ok (.getfield 38, 3) := by decide +kernel
theorem dX10_count_66 : decode cX10_count 66 = .ok (.iconst 0, 1) := by decide +kernel
theorem dX10_count_67 : decode cX10_count 67 = .ok (.iaload, 1) := by decide +kernel
theorem dX10_count_68 : decode cX10_count 68 = .ok (.ireturn, 1) := by decide +kernel
theorem dX10_count_69 : decode cX10_count 69 = .ok (.aload_n 0, 1) := by decide +kernel
theorem dX10_count_70 : decode cX10_count 70 = .ok (.getfield 116, 3) := by decide +kernel
theorem dX10_count_73 : decode cX10_count 73 = .ok (.ireturn, 1) := by decide +kernel
theorem dX10_count_74 : decode cX10_count 74 = .ok (.aload_n 0, 1) := by decide +kernel
theorem dX10_count_75 : decode cX10_count 75 = .ok (.getfield 119, 3) := by decide +kernel
theorem dX10_count_78 : decode cX10_count 78 = .ok (.ireturn, 1) := by decide +kernel
theorem dX10_count_79 : decode cX10_count 79 = .ok (.aload_n 0, 1) := by decide +kernel
theorem dX10_count_80 : decode cX10_count 80 = .ok (.getfield 122, 3) := by decide +kernel
theorem dX10_count_83 : decode cX10_count 83 = .ok (.ireturn, 1) := by decide +kernel
theorem dX10_count_84 : decode cX10_count 84 = .ok (.aload_n 0, 1) := by decide +kernel
theorem dX10_count_85 : decode cX10_count 85 = .ok (.getfield 38, 3) := by decide +kernel
theorem dX10_count_88 : decode cX10_count 88 = .ok (.bipush 7, 2) := by decide +kernel
theorem dX10_count_90 : decode cX10_count 90 = .ok (.iaload, 1) := by decide +kernel
theorem dX10_count_91 : decode cX10_count 91 = .ok (.ireturn, 1) := by decide +kernel
theorem dX10_count_92 : decode cX10_count 92 = .ok (.aload_n 0, 1) := by decide +kernel
theorem dX10_count_93 : decode cX10_count 93 = .ok (.getfield 67, 3) := by decide +kernel
theorem dX10_count_96 : decode cX10_count 96 = .ok (.ireturn, 1) := by decide +kernel
theorem dX10_count_97 : decode cX10_count 97 = .ok (.iconst (-1), 1) := by decide +kernel
theorem dX10_count_98 : decode cX10_count 98 = .ok (.ireturn, 1) := by decide +kernel
theorem dX10_trace_0 : decode cX10_trace 0 = .ok (.aload_n 0, 1) := by decide +kernel
theorem dX10_trace_1 : decode cX10_trace 1 = .ok (.getfield 171, 3) := by decide +kernel
theorem dX10_trace_4 : decode cX10_trace 4 = .ok (.lreturn, 1) := by decide +kernel
