theorem dX3_init_0 : decode cX3_init 0 = .ok (.aload_n 0, 1) := by decide +kernel
theorem dX3_init_1 : decode cX3_init 1 = .ok (.invokespecial 1, 3) := by decide +kernel
theorem dX3_init_4 : decode cX3_init 4 = .ok (.aload_n 0, 1) := by decide +kernel
theorem dX3_init_5 : decode cX3_init 5 = .ok (.sipush 601, 3) := by decide +kernel
theorem dX3_init_8 : decode cX3_init 8 = .ok (.newarray .long, 2) := by decide +kernel
theorem dX3_init_10 : decode cX3_init 10 = .ok (.putfield 7, 3) := by decide +kernel
theorem dX3_init_13 : decode cX3_init 13 = .ok (.aload_n 0, 1) := by decide +kernel
theorem dX3_init_14 : decode cX3_init 14 = .ok (.sipush 601, 3) := by decide +kernel
theorem dX3_init_17 : decode cX3_init 17 = .ok (.newarray .int, 2) := by decide +kernel
theorem dX3_init_19 : decode cX3_init 19 = .ok (.putfield 13, 3) := by decide +kernel
theorem dX3_init_22 : decode cX3_init 22 = .ok (.aload_n 0, 1) := by decide +kernel
theorem dX3_init_23 : decode cX3_init 23 = .ok (.sipush 601, 3) := by decide +kernel
theorem dX3_init_26 : decode cX3_init 26 = .ok (.newarray .int, 2) := by decide +kernel
theorem dX3_init_28 : decode cX3_init 28 = .ok (.putfield 17, 3) := by decide +kernel
theorem dX3_init_31 : decode cX3_init 31 = .ok (.aload_n 0, 1) := by decide +kernel
theorem dX3_init_32 : decode cX3_init 32 = .ok (.sipush 1300, 3) := by decide +kernel
theorem dX3_init_35 : decode cX3_init 35 = .ok (.newarray .int, 2) := by decide +kernel
theorem dX3_init_37 : decode cX3_init 37 = .ok (.putfield 20, 3) := by decide +kernel
theorem dX3_init_40 : decode cX3_init 40 = .ok (.aload_n 0, 1) := by decide +kernel
theorem dX3_init_41 : decode cX3_init 41 = .ok (.sipush 1300, 3) := by decide +kernel
theorem dX3_init_44 : decode cX3_init 44 = .ok (.newarray .int, 2) := by decide +kernel
theorem dX3_init_46 : decode cX3_init 46 = .ok (.putfield 23, 3) := by decide +kernel
theorem dX3_init_49 : decode cX3_init 49 = .ok (.aload_n 0, 1) := by decide +kernel
theorem dX3_init_50 : decode cX3_init 50 = .ok (.iconst 1, 1) := by decide +kernel
theorem dX3_init_51 : decode cX3_init 51 = .ok (.putfield 26, 3) := by decide +kernel
theorem dX3_init_54 : decode cX3_init 54 = .ok (.aload_n 0, 1) := by decide +kernel
theorem dX3_init_55 : decode cX3_init 55 = .ok (.iconst 2, 1) := by decide +kernel
theorem dX3_init_56 : decode cX3_init 56 = .ok (.putfield 30, 3) := by decide +kernel
theorem dX3_init_59 : decode cX3_init 59 = .ok (.aload_n 0, 1) := by decide +kernel
theorem dX3_init_60 : decode cX3_init 60 = .ok (.iconst 1, 1) := by decide +kernel
theorem dX3_init_61 : decode cX3_init 61 = .ok (.putfield 33, 3) := by decide +kernel
theorem dX3_init_64 : decode cX3_init 64 = .ok (.aload_n 0, 1) := by decide +kernel
theorem dX3_init_65 : decode cX3_init 65 = .ok (.iconst 4, 1) := by decide +kernel
theorem dX3_init_66 : decode cX3_init 66 = .ok (.newarray .int, 2) := by decide +kernel
theorem dX3_init_68 : decode cX3_init 68 = .ok (.putfield 36, 3) := by decide +kernel
theorem dX3_init_71 : decode cX3_init 71 = .ok (.aload_n 0, 1) := by decide +kernel
theorem dX3_init_72 : decode cX3_init 72 = .ok (.iload_n 1, 1) := by decide +kernel
theorem dX3_init_73 : decode cX3_init 73 = .ok (.iconst 1, 1) := by decide +kernel
theorem dX3_init_74 : decode cX3_init 74 = .ok (.sipush 1000, 3) := by decide +kernel
theorem dX3_init_77 : decode cX3_init 77 = .ok (.invokestatic 39, 3) := by decide +kernel
theorem dX3_init_80 : decode cX3_init 80 = .ok (.putfield 43, 3) := by decide +kernel
theorem dX3_init_83 : decode cX3_init 83 = .ok (.aload_n 0, 1) := by decide +kernel
theorem dX3_init_84 : decode cX3_init 84 = .ok (.iload_n 2, 1) := by decide +kernel
theorem dX3_init_85 : decode cX3_init 85 = .ok (.iconst 2, 1) := by decide +kernel
theorem dX3_init_86 : decode cX3_init 86 = .ok (.bipush 20, 2) := by decide +kernel
theorem dX3_init_88 : decode cX3_init 88 = .ok (.invokestatic 39, 3) := by decide +kernel
theorem dX3_init_91 : decode cX3_init 91 = .ok (.putfield 46, 3) := by decide +kernel
theorem dX3_init_94 : decode cX3_init 94 = .ok (.iload 4, 2) := by decide +kernel
theorem dX3_init_96 : decode cX3_init 96 = .ok (.iconst 1, 1) := by decide +kernel
theorem dX3_init_97 : decode cX3_init 97 = .ok (.bipush 100, 2) := by decide +kernel
theorem dX3_init_99 : decode cX3_init 99 = .ok (.invokestatic 39, 3) := by decide +kernel
theorem dX3_init_102 : decode cX3_init 102 = .ok (.istore 5, 2) := by decide +kernel
theorem dX3_init_104 : decode cX3_init 104 = .ok (.iload_n 3, 1) := by decide +kernel
theorem dX3_init_105 : decode cX3_init 105 = .ok (.iconst 1, 1) := by decide +kernel
theorem dX3_init_106 : decode cX3_init 106 = .ok (.iload 5, 2) := by decide +kernel
theorem dX3_init_108 : decode cX3_init 108 = .ok (.invokestatic 39, 3) := by decide +kernel
theorem dX3_init_111 : decode cX3_init 111 = .ok (.istore 6, 2) := by decide +kernel
theorem dX3_init_113 : decode cX3_init 113 = .ok (.aload_n 0, 1) := by decide +kernel
theorem dX3_init_114 : decode cX3_init 114 = .ok (.aload_n 0, 1) := by decide +kernel
theorem dX3_init_115 : decode cX3_init 115 = .ok (.getfield 43, 3) := by decide +kernel
theorem dX3_init_118 : decode cX3_init 118 = .ok (.iload 6, 2) := by decide +kernel
theorem dX3_init_120 : decode cX3_init 120 = .ok (.imul, 1) := by decide +kernel
theorem dX3_init_121 : decode cX3_init 121 = .ok (.iload 5, 2) := by decide +kernel
theorem dX3_init_123 : decode cX3_init 123 = .ok (.idiv, 1) := by decide +kernel
theorem dX3_init_124 : decode cX3_init 124 = .ok (.putfield 49, 3) := by decide +kernel
theorem dX3_init_127 : decode cX3_init 127 = .ok (.aload_n 0, 1) := by decide +kernel
theorem dX3_init_128 : decode cX3_init 128 = .ok (.aload_n 0, 1) := by decide +kernel
theorem dX3_init_129 : decode cX3_init 129 = .ok (.getfield 46, 3) := by decide +kernel
theorem dX3_init_132 : decode cX3_init 132 = .ok (.iload 6, 2) := by decide +kernel
theorem dX3_init_134 : decode cX3_init 134 = .ok (.imul, 1) := by decide +kernel
theorem dX3_init_135 : decode cX3_init 135 = .ok (.iload 5, 2) := by decide +kernel
theorem dX3_init_137 : decode cX3_init 137 = .ok (.idiv, 1) := by decide +kernel
theorem dX3_init_138 : decode cX3_init 138 = .ok (.putfield 52, 3) := by decide +kernel
theorem dX3_init_141 : decode cX3_init 141 = .ok (.aload_n 0, 1) := by decide +kernel
theorem dX3_init_142 : decode cX3_init 142 = .ok (.getfield 20, 3) := by decide +kernel
theorem dX3_init_145 : decode cX3_init 145 = .ok (.iconst 0, 1) := by decide +kernel
theorem dX3_init_146 : decode cX3_init 146 = .ok (.iconst 1, 1) := by decide +kernel
theorem dX3_init_147 : decode cX3_init 147 = .ok (.iastore, 1) := by decide +kernel
theorem dX3_init_148 : decode cX3_init 148 = .ok (.aload_n 0, 1) := by decide +kernel
theorem dX3_init_149 : decode cX3_init 149 = .ok (.getfield 23, 3) := by decide +kernel
theorem dX3_init_152 : decode cX3_init 152 = .ok (.iconst 0, 1) := by decide +kernel
theorem dX3_init_153 : decode cX3_init 153 = .ok (.iconst 0, 1) := by decide +kernel
theorem dX3_init_154 : decode cX3_init 154 = .ok (.iastore, 1) := by decide +kernel
theorem dX3_init_155 : decode cX3_init 155 = .ok (.return_, 1) := by decide +kernel
theorem dX3_held_0 : decode cX3_held 0 = .ok (.iload_n 0, 1) := by decide +kernel
theorem dX3_held_1 : decode cX3_held 1 = .ok (.iload_n 1, 1) := by decide +kernel
theorem dX3_held_2 : decode cX3_held 2 = .ok (.if_icmp .ge 7, 3) := by decide +kernel
theorem dX3_held_5 : decode cX3_held 5 = .ok (.iload_n 1, 1) := by decide +kernel
theorem dX3_held_6 : decode cX3_held 6 = .ok (.goto 13, 3) := by decide +kernel
theorem dX3_held_9 : decode cX3_held 9 = .ok (.iload_n 0, 1) := by decide +kernel
theorem dX3_held_10 : decode cX3_held 10 = .ok (.iload_n 2, 1) := by decide +kernel
theorem dX3_held_11 : decode cX3_held 11 = .ok (.if_icmp .le 7, 3) := by decide +kernel
theorem dX3_held_14 : decode cX3_held 14 = .ok (.iload_n 2, 1) := by decide +kernel
theorem dX3_held_15 : decode cX3_held 15 = .ok (.goto 4, 3) := by decide +kernel
theorem dX3_held_18 : decode cX3_held 18 = .ok (.iload_n 0, 1) := by decide +kernel
theorem dX3_held_19 : decode cX3_held 19 = .ok (.ireturn, 1) := by decide +kernel
theorem dX3_thrown_0 : decode cX3_thrown 0 = .ok (.aload_n 0, 1) := by decide +kernel
theorem dX3_thrown_1 : decode cX3_thrown 1 = .ok (.getfield 55, 3) := by decide +kernel
theorem dX3_thrown_4 : decode cX3_thrown 4 = .ok (.ireturn, 1) := by decide +kernel
theorem dX3_less_0 : decode cX3_less 0 = .ok (.iconst 0, 1) := by decide +kernel
theorem dX3_less_1 : decode cX3_less 1 = .ok (.istore_n 3, 1) := by decide +kernel
theorem dX3_less_2 : decode cX3_less 2 = .ok (.iconst 0, 1) := by decide +kernel
theorem dX3_less_3 : decode cX3_less 3 = .ok (.istore 4, 2) := by decide +kernel
theorem dX3_less_5 : decode cX3_less 5 = .ok (.iload 4, 2) := by decide +kernel
theorem dX3_less_7 : decode cX3_less 7 = .ok (.aload_n 0, 1) := by decide +kernel
theorem dX3_less_8 : decode cX3_less 8 = .ok (.getfield 58, 3) := by decide +kernel
theorem dX3_less_11 : decode cX3_less 11 = .ok (.if_icmp .ge 29, 3) := by decide +kernel
theorem dX3_less_14 : decode cX3_less 14 = .ok (.iload_n 3, 1) := by decide +kernel
theorem dX3_less_15 : decode cX3_less 15 = .ok (.aload_n 0, 1) := by decide +kernel
theorem dX3_less_16 : decode cX3_less 16 = .ok (.getfield 7, 3) := by decide +kernel
theorem dX3_less_19 : decode cX3_less 19 = .ok (.iload 4, 2) := by decide +kernel
theorem dX3_less_21 : decode cX3_less 21 = .ok (.laload, 1) := by decide +kernel
theorem dX3_less_22 : decode cX3_less 22 = .ok (.lload_n 1, 1) := by decide +kernel
theorem dX3_less_23 : decode cX3_less 23 = .ok (.lcmp, 1) := by decide +kernel
theorem dX3_less_24 : decode cX3_less 24 = .ok (.ifCond .ge 7, 3) := by decide +kernel
theorem dX3_less_27 : decode cX3_less 27 = .ok (.iconst 1, 1) := by decide +kernel
theorem dX3_less_28 : decode cX3_less 28 = .ok (.goto 4, 3) := by decide +kernel
theorem dX3_less_31 : decode cX3_less 31 = .ok (.iconst 0, 1) := by decide +kernel
theorem dX3_less_32 : decode cX3_less 32 = .ok (.iadd, 1) := by decide +kernel
theorem dX3_less_33 : decode cX3_less 33 = .ok (.istore_n 3, 1) := by decide +kernel
theorem dX3_less_34 : decode cX3_less 34 = .ok (.iinc 4 1, 3) := by decide +kernel
theorem dX3_less_37 : decode cX3_less 37 = .ok (.goto (-32), 3) := by decide +kernel
theorem dX3_less_40 : decode cX3_less 40 = .ok (.iload_n 3, 1) := by decide +kernel
theorem dX3_less_41 : decode cX3_less 41 = .ok (.ireturn, 1) := by decide +kernel
theorem dX3_has_0 : decode cX3_has 0 = .ok (.aload_n 0, 1) := by decide +kernel
theorem dX3_has_1 : decode cX3_has 1 = .ok (.lload_n 1, 1) := by decide +kernel
theorem dX3_has_2 : decode cX3_has 2 = .ok (.invokevirtual 61, 3) := by decide +kernel
theorem dX3_has_5 : decode cX3_has 5 = .ok (.istore_n 3, 1) := by decide +kernel
theorem dX3_has_6 : decode cX3_has 6 = .ok (.iload_n 3, 1) := by decide +kernel
theorem dX3_has_7 : decode cX3_has 7 = .ok (.aload_n 0, 1) := by decide +kernel
theorem dX3_has_8 : decode cX3_has 8 = .ok (.getfield 58, 3) := by decide +kernel
theorem dX3_has_11 : decode cX3_has 11 = .ok (.if_icmp .ge 18, 3) := by decide +kernel
theorem dX3_has_14 : decode cX3_has 14 = .ok (.aload_n 0, 1) := by decide +kernel
theorem dX3_has_15 : decode cX3_has 15 = .ok (.getfield 7, 3) := by decide +kernel
theorem dX3_has_18 : decode cX3_has 18 = .ok (.iload_n 3, 1) := by decide +kernel
theorem dX3_has_19 : decode cX3_has 19 = .ok (.laload, 1) := by decide +kernel
theorem dX3_has_20 : decode cX3_has 20 = .ok (.lload_n 1, 1) := by decide +kernel
theorem dX3_has_21 : decode cX3_has 21 = .ok (.lcmp, 1) := by decide +kernel
theorem dX3_has_22 : decode cX3_has 22 = .ok (.ifCond .ne 7, 3) := by decide +kernel
theorem dX3_has_25 : decode cX3_has 25 = .ok (.iconst 1, 1) := by decide +kernel
theorem dX3_has_26 : decode cX3_has 26 = .ok (.goto 4, 3) := by decide +kernel
theorem dX3_has_29 : decode cX3_has 29 = .ok (.iconst 0, 1) := by decide +kernel
theorem dX3_has_30 : decode cX3_has 30 = .ok (.ireturn, 1) := by decide +kernel
theorem dX3_first_0 : decode cX3_first 0 = .ok (.iconst 0, 1) := by decide +kernel
theorem dX3_first_1 : decode cX3_first 1 = .ok (.istore_n 2, 1) := by decide +kernel
theorem dX3_first_2 : decode cX3_first 2 = .ok (.iload_n 2, 1) := by decide +kernel
theorem dX3_first_3 : decode cX3_first 3 = .ok (.aload_n 0, 1) := by decide +kernel
theorem dX3_first_4 : decode cX3_first 4 = .ok (.getfield 58, 3) := by decide +kernel
theorem dX3_first_7 : decode cX3_first 7 = .ok (.if_icmp .ge 26, 3) := by decide +kernel
theorem dX3_first_10 : decode cX3_first 10 = .ok (.aload_n 0, 1) := by decide +kernel
theorem dX3_first_11 : decode cX3_first 11 = .ok (.getfield 17, 3) := by decide +kernel
theorem dX3_first_14 : decode cX3_first 14 = .ok (.iload_n 2, 1) := by decide +kernel
theorem dX3_first_15 : decode cX3_first 15 = .ok (.iaload, 1) := by decide +kernel
theorem dX3_first_16 : decode cX3_first 16 = .ok (.aload_n 0, 1) := by decide +kernel
theorem dX3_first_17 : decode cX3_first 17 = .ok (.getfield 20, 3) := by decide +kernel
theorem dX3_first_20 : decode cX3_first 20 = .ok (.iload_n 1, 1) := by decide +kernel
theorem dX3_first_21 : decode cX3_first 21 = .ok (.iaload, 1) := by decide +kernel
theorem dX3_first_22 : decode cX3_first 22 = .ok (.if_icmp .ne 5, 3) := by decide +kernel
theorem dX3_first_25 : decode cX3_first 25 = .ok (.iload_n 2, 1) := by decide +kernel
theorem dX3_first_26 : decode cX3_first 26 = .ok (.ireturn, 1) := by decide +kernel
theorem dX3_first_27 : decode cX3_first 27 = .ok (.iinc 2 1, 3) := by decide +kernel
theorem dX3_first_30 : decode cX3_first 30 = .ok (.goto (-28), 3) := by decide +kernel
theorem dX3_first_33 : decode cX3_first 33 = .ok (.iconst (-1), 1) := by decide +kernel
theorem dX3_first_34 : decode cX3_first 34 = .ok (.ireturn, 1) := by decide +kernel
theorem dX3_recordsOf_0 : decode cX3_recordsOf 0 = .ok (.iconst 0, 1) := by decide +kernel
theorem dX3_recordsOf_1 : decode cX3_recordsOf 1 = .ok (.istore_n 2, 1) := by decide +kernel
theorem dX3_recordsOf_2 : decode cX3_recordsOf 2 = .ok (.iconst 0, 1) := by decide +kernel
theorem dX3_recordsOf_3 : decode cX3_recordsOf 3 = .ok (.istore_n 3, 1) := by decide +kernel
theorem dX3_recordsOf_4 : decode cX3_recordsOf 4 = .ok (.iload_n 3, 1) := by decide +kernel
theorem dX3_recordsOf_5 : decode cX3_recordsOf 5 = .ok (.aload_n 0, 1) := by decide +kernel
theorem dX3_recordsOf_6 : decode cX3_recordsOf 6 = .ok (.getfield 58, 3) := by decide +kernel
theorem dX3_recordsOf_9 : decode cX3_recordsOf 9 = .ok (.if_icmp .ge 32, 3) := by decide +kernel
theorem dX3_recordsOf_12 : decode cX3_recordsOf 12 = .ok (.iload_n 2, 1) := by decide +kernel
theorem dX3_recordsOf_13 : decode cX3_recordsOf 13 = .ok (.aload_n 0, 1) := by decide +kernel
theorem dX3_recordsOf_14 : decode cX3_recordsOf 14 = .ok (.getfield 17, 3) := by decide +kernel
theorem dX3_recordsOf_17 : decode cX3_recordsOf 17 = .ok (.iload_n 3, 1) := by decide +kernel
theorem dX3_recordsOf_18 : decode cX3_recordsOf 18 = .ok (.iaload, 1) := by decide +kernel
theorem dX3_recordsOf_19 : decode cX3_recordsOf 19 = .ok (.aload_n 0, 1) := by decide +kernel
theorem dX3_recordsOf_20 : decode cX3_recordsOf 20 = .ok (.getfield 20, 3) := by decide +kernel
theorem dX3_recordsOf_23 : decode cX3_recordsOf 23 = .ok (.iload_n 1, 1) := by decide +kernel
theorem dX3_recordsOf_24 : decode cX3_recordsOf 24 = .ok (.iaload, 1) := by decide +kernel
theorem dX3_recordsOf_25 : decode cX3_recordsOf 25 = .ok (.if_icmp .ne 7, 3) := by decide +kernel
theorem dX3_recordsOf_28 : decode cX3_recordsOf 28 = .ok (.iconst 1, 1) := by decide +kernel
theorem dX3_recordsOf_29 : decode cX3_recordsOf 29 = .ok (.goto 4, 3) := by decide +kernel
theorem dX3_recordsOf_32 : decode cX3_recordsOf 32 = .ok (.iconst 0, 1) := by decide +kernel
theorem dX3_recordsOf_33 : decode cX3_recordsOf 33 = .ok (.iadd, 1) := by decide +kernel
theorem dX3_recordsOf_34 : decode cX3_recordsOf 34 = .ok (.istore_n 2, 1) := by decide +kernel
theorem dX3_recordsOf_35 : decode cX3_recordsOf 35 = .ok (.iinc 3 1, 3) := by decide +kernel
theorem dX3_recordsOf_38 : decode cX3_recordsOf 38 = .ok (.goto (-34), 3) := by decide +kernel
theorem dX3_recordsOf_41 : decode cX3_recordsOf 41 = .ok (.iload_n 2, 1) := by decide +kernel
theorem dX3_recordsOf_42 : decode cX3_recordsOf 42 = .ok (.ireturn, 1) := by decide +kernel
theorem dX3_lengthsOf_0 : decode cX3_lengthsOf 0 = .ok (.iconst 0, 1) := by decide +kernel
theorem dX3_lengthsOf_1 : decode cX3_lengthsOf 1 = .ok (.istore_n 2, 1) := by decide +kernel
theorem dX3_lengthsOf_2 : decode cX3_lengthsOf 2 = .ok (.iconst 0, 1) := by decide +kernel
theorem dX3_lengthsOf_3 : decode cX3_lengthsOf 3 = .ok (.istore_n 3, 1) := by decide +kernel
theorem dX3_lengthsOf_4 : decode cX3_lengthsOf 4 = .ok (.iload_n 3, 1) := by decide +kernel
theorem dX3_lengthsOf_5 : decode cX3_lengthsOf 5 = .ok (.aload_n 0, 1) := by decide +kernel
theorem dX3_lengthsOf_6 : decode cX3_lengthsOf 6 = .ok (.getfield 58, 3) := by decide +kernel
theorem dX3_lengthsOf_9 : decode cX3_lengthsOf 9 = .ok (.if_icmp .ge 37, 3) := by decide +kernel
theorem dX3_lengthsOf_12 : decode cX3_lengthsOf 12 = .ok (.iload_n 2, 1) := by decide +kernel
theorem dX3_lengthsOf_13 : decode cX3_lengthsOf 13 = .ok (.aload_n 0, 1) := by decide +kernel
theorem dX3_lengthsOf_14 : decode cX3_lengthsOf 14 = .ok (.getfield 17, 3) := by decide +kernel
theorem dX3_lengthsOf_17 : decode cX3_lengthsOf 17 = .ok (.iload_n 3, 1) := by decide +kernel
theorem dX3_lengthsOf_18 : decode cX3_lengthsOf 18 = .ok (.iaload, 1) := by decide +kernel
theorem dX3_lengthsOf_19 : decode cX3_lengthsOf 19 = .ok (.aload_n 0, 1) := by decide +kernel
theorem dX3_lengthsOf_20 : decode cX3_lengthsOf 20 = .ok (.getfield 20, 3) := by decide +kernel
theorem dX3_lengthsOf_23 : decode cX3_lengthsOf 23 = .ok (.iload_n 1, 1) := by decide +kernel
theorem dX3_lengthsOf_24 : decode cX3_lengthsOf 24 = .ok (.iaload, 1) := by decide +kernel
theorem dX3_lengthsOf_25 : decode cX3_lengthsOf 25 = .ok (.if_icmp .ne 12, 3) := by decide +kernel
theorem dX3_lengthsOf_28 : decode cX3_lengthsOf 28 = .ok (.aload_n 0, 1) := by decide +kernel
theorem dX3_lengthsOf_29 : decode cX3_lengthsOf 29 = .ok (.getfield 13, 3) := by decide +kernel
theorem dX3_lengthsOf_32 : decode cX3_lengthsOf 32 = .ok (.iload_n 3, 1) := by decide +kernel
theorem dX3_lengthsOf_33 : decode cX3_lengthsOf 33 = .ok (.iaload, 1) := by decide +kernel
theorem dX3_lengthsOf_34 : decode cX3_lengthsOf 34 = .ok (.goto 4, 3) := by decide +kernel
theorem dX3_lengthsOf_37 : decode cX3_lengthsOf 37 = .ok (.iconst 0, 1) := by decide +kernel
theorem dX3_lengthsOf_38 : decode cX3_lengthsOf 38 = .ok (.iadd, 1) := by decide +kernel
theorem dX3_lengthsOf_39 : decode cX3_lengthsOf 39 = .ok (.istore_n 2, 1) := by decide +kernel
theorem dX3_lengthsOf_40 : decode cX3_lengthsOf 40 = .ok (.iinc 3 1, 3) := by decide +kernel
theorem dX3_lengthsOf_43 : decode cX3_lengthsOf 43 = .ok (.goto (-39), 3) := by decide +kernel
theorem dX3_lengthsOf_46 : decode cX3_lengthsOf 46 = .ok (.iload_n 2, 1) := by decide +kernel
theorem dX3_lengthsOf_47 : decode cX3_lengthsOf 47 = .ok (.ireturn, 1) := by decide +kernel
theorem dX3_belongs_0 : decode cX3_belongs 0 = .ok (.iconst 0, 1) := by decide +kernel
theorem dX3_belongs_1 : decode cX3_belongs 1 = .ok (.istore_n 3, 1) := by decide +kernel
theorem dX3_belongs_2 : decode cX3_belongs 2 = .ok (.iconst 1, 1) := by decide +kernel
theorem dX3_belongs_3 : decode cX3_belongs 3 = .ok (.istore 4, 2) := by decide +kernel
theorem dX3_belongs_5 : decode cX3_belongs 5 = .ok (.iload 4, 2) := by decide +kernel
theorem dX3_belongs_7 : decode cX3_belongs 7 = .ok (.aload_n 0, 1) := by decide +kernel
theorem dX3_belongs_8 : decode cX3_belongs 8 = .ok (.getfield 26, 3) := by decide +kernel
theorem dX3_belongs_11 : decode cX3_belongs 11 = .ok (.if_icmp .ge 32, 3) := by decide +kernel
theorem dX3_belongs_14 : decode cX3_belongs 14 = .ok (.aload_n 0, 1) := by decide +kernel
theorem dX3_belongs_15 : decode cX3_belongs 15 = .ok (.getfield 7, 3) := by decide +kernel
theorem dX3_belongs_18 : decode cX3_belongs 18 = .ok (.aload_n 0, 1) := by decide +kernel
theorem dX3_belongs_19 : decode cX3_belongs 19 = .ok (.iload 4, 2) := by decide +kernel
theorem dX3_belongs_21 : decode cX3_belongs 21 = .ok (.invokevirtual 65, 3) := by decide +kernel
theorem dX3_belongs_24 : decode cX3_belongs 24 = .ok (.laload, 1) := by decide +kernel
theorem dX3_belongs_25 : decode cX3_belongs 25 = .ok (.lload_n 1, 1) := by decide +kernel
theorem dX3_belongs_26 : decode cX3_belongs 26 = .ok (.lcmp, 1) := by decide +kernel
theorem dX3_belongs_27 : decode cX3_belongs 27 = .ok (.ifCond .gt 8, 3) := by decide +kernel
theorem dX3_belongs_30 : decode cX3_belongs 30 = .ok (.iload 4, 2) := by decide +kernel
theorem dX3_belongs_32 : decode cX3_belongs 32 = .ok (.goto 4, 3) := by decide +kernel
theorem dX3_belongs_35 : decode cX3_belongs 35 = .ok (.iload_n 3, 1) := by decide +kernel
theorem dX3_belongs_36 : decode cX3_belongs 36 = .ok (.istore_n 3, 1) := by decide +kernel
theorem dX3_belongs_37 : decode cX3_belongs 37 = .ok (.iinc 4 1, 3) := by decide +kernel
theorem dX3_belongs_40 : decode cX3_belongs 40 = .ok (.goto (-35), 3) := by decide +kernel
theorem dX3_belongs_43 : decode cX3_belongs 43 = .ok (.iload_n 3, 1) := by decide +kernel
theorem dX3_belongs_44 : decode cX3_belongs 44 = .ok (.ireturn, 1) := by decide +kernel
theorem dX3_widthOf_0 : decode cX3_widthOf 0 = .ok (.iconst 0, 1) := by decide +kernel
theorem dX3_widthOf_1 : decode cX3_widthOf 1 = .ok (.istore_n 2, 1) := by decide +kernel
theorem dX3_widthOf_2 : decode cX3_widthOf 2 = .ok (.iconst 0, 1) := by decide +kernel
theorem dX3_widthOf_3 : decode cX3_widthOf 3 = .ok (.istore_n 3, 1) := by decide +kernel
theorem dX3_widthOf_4 : decode cX3_widthOf 4 = .ok (.iload_n 3, 1) := by decide +kernel
theorem dX3_widthOf_5 : decode cX3_widthOf 5 = .ok (.aload_n 0, 1) := by decide +kernel
theorem dX3_widthOf_6 : decode cX3_widthOf 6 = .ok (.getfield 26, 3) := by decide +kernel
theorem dX3_widthOf_9 : decode cX3_widthOf 9 = .ok (.if_icmp .ge 32, 3) := by decide +kernel
theorem dX3_widthOf_12 : decode cX3_widthOf 12 = .ok (.iload_n 2, 1) := by decide +kernel
theorem dX3_widthOf_13 : decode cX3_widthOf 13 = .ok (.aload_n 0, 1) := by decide +kernel
theorem dX3_widthOf_14 : decode cX3_widthOf 14 = .ok (.getfield 23, 3) := by decide +kernel
theorem dX3_widthOf_17 : decode cX3_widthOf 17 = .ok (.iload_n 3, 1) := by decide +kernel
theorem dX3_widthOf_18 : decode cX3_widthOf 18 = .ok (.iaload, 1) := by decide +kernel
theorem dX3_widthOf_19 : decode cX3_widthOf 19 = .ok (.aload_n 0, 1) := by decide +kernel
theorem dX3_widthOf_20 : decode cX3_widthOf 20 = .ok (.getfield 23, 3) := by decide +kernel
theorem dX3_widthOf_23 : decode cX3_widthOf 23 = .ok (.iload_n 1, 1) := by decide +kernel
theorem dX3_widthOf_24 : decode cX3_widthOf 24 = .ok (.iaload, 1) := by decide +kernel
theorem dX3_widthOf_25 : decode cX3_widthOf 25 = .ok (.if_icmp .ne 7, 3) := by decide +kernel
theorem dX3_widthOf_28 : decode cX3_widthOf 28 = .ok (.iconst 1, 1) := by decide +kernel
theorem dX3_widthOf_29 : decode cX3_widthOf 29 = .ok (.goto 4, 3) := by decide +kernel
theorem dX3_widthOf_32 : decode cX3_widthOf 32 = .ok (.iconst 0, 1) := by decide +kernel
theorem dX3_widthOf_33 : decode cX3_widthOf 33 = .ok (.iadd, 1) := by decide +kernel
theorem dX3_widthOf_34 : decode cX3_widthOf 34 = .ok (.istore_n 2, 1) := by decide +kernel
theorem dX3_widthOf_35 : decode cX3_widthOf 35 = .ok (.iinc 3 1, 3) := by decide +kernel
theorem dX3_widthOf_38 : decode cX3_widthOf 38 = .ok (.goto (-34), 3) := by decide +kernel
theorem dX3_widthOf_41 : decode cX3_widthOf 41 = .ok (.iload_n 2, 1) := by decide +kernel
theorem dX3_widthOf_42 : decode cX3_widthOf 42 = .ok (.ireturn, 1) := by decide +kernel
theorem dX3_insert_0 : decode cX3_insert 0 = .ok (.aload_n 0, 1) := by decide +kernel
theorem dX3_insert_1 : decode cX3_insert 1 = .ok (.lload_n 1, 1) := by decide +kernel
theorem dX3_insert_2 : decode cX3_insert 2 = .ok (.invokevirtual 61, 3) := by decide +kernel
theorem dX3_insert_5 : decode cX3_insert 5 = .ok (.istore 5, 2) := by decide +kernel
theorem dX3_insert_7 : decode cX3_insert 7 = .ok (.aload_n 0, 1) := by decide +kernel
theorem dX3_insert_8 : decode cX3_insert 8 = .ok (.getfield 58, 3) := by decide +kernel
theorem dX3_insert_11 : decode cX3_insert 11 = .ok (.istore 6, 2) := by decide +kernel
theorem dX3_insert_13 : decode cX3_insert 13 = .ok (.iload 6, 2) := by decide +kernel
theorem dX3_insert_15 : decode cX3_insert 15 = .ok (.iload 5, 2) := by decide +kernel
theorem dX3_insert_17 : decode cX3_insert 17 = .ok (.if_icmp .le 57, 3) := by decide +kernel
theorem dX3_insert_20 : decode cX3_insert 20 = .ok (.aload_n 0, 1) := by decide +kernel
theorem dX3_insert_21 : decode cX3_insert 21 = .ok (.getfield 7, 3) := by decide +kernel
theorem dX3_insert_24 : decode cX3_insert 24 = .ok (.iload 6, 2) := by decide +kernel
theorem dX3_insert_26 : decode cX3_insert 26 = .ok (.aload_n 0, 1) := by decide +kernel
theorem dX3_insert_27 : decode cX3_insert 27 = .ok (.getfield 7, 3) := by decide +kernel
theorem dX3_insert_30 : decode cX3_insert 30 = .ok (.iload 6, 2) := by decide +kernel
theorem dX3_insert_32 : decode cX3_insert 32 = .ok (.iconst 1, 1) := by decide +kernel
theorem dX3_insert_33 : decode cX3_insert 33 = .ok (.isub, 1) := by decide +kernel
theorem dX3_insert_34 : decode cX3_insert 34 = .ok (.laload, 1) := by decide +kernel
theorem dX3_insert_35 : decode cX3_insert 35 = .ok (.lastore, 1) := by decide +kernel
theorem dX3_insert_36 : decode cX3_insert 36 = .ok (.aload_n 0, 1) := by decide +kernel
theorem dX3_insert_37 : decode cX3_insert 37 = .ok (.getfield 13, 3) := by decide +kernel
theorem dX3_insert_40 : decode cX3_insert 40 = .ok (.iload 6, 2) := by decide +kernel
theorem dX3_insert_42 : decode cX3_insert 42 = .ok (.aload_n 0, 1) := by decide +kernel
theorem dX3_insert_43 : decode cX3_insert 43 = .ok (.getfield 13, 3) := by decide +kernel
theorem dX3_insert_46 : decode cX3_insert 46 = .ok (.iload 6, 2) := by decide +kernel
theorem dX3_insert_48 : decode cX3_insert 48 = .ok (.iconst 1, 1) := by decide +kernel
theorem dX3_insert_49 : decode cX3_insert 49 = .ok (.isub, 1) := by decide +kernel
theorem dX3_insert_50 : decode cX3_insert 50 = .ok (.iaload, 1) := by decide +kernel
theorem dX3_insert_51 : decode cX3_insert 51 = .ok (.iastore, 1) := by decide +kernel
theorem dX3_insert_52 : decode cX3_insert 52 = .ok (.aload_n 0, 1) := by decide +kernel
theorem dX3_insert_53 : decode cX3_insert 53 = .ok (.getfield 17, 3) := by decide +kernel
theorem dX3_insert_56 : decode cX3_insert 56 = .ok (.iload 6, 2) := by decide +kernel
theorem dX3_insert_58 : decode cX3_insert 58 = .ok (.aload_n 0, 1) := by decide +kernel
theorem dX3_insert_59 : decode cX3_insert 59 = .ok (.getfield 17, 3) := by decide +kernel
theorem dX3_insert_62 : decode cX3_insert 62 = .ok (.iload 6, 2) := by decide +kernel
theorem dX3_insert_64 : decode cX3_insert 64 = .ok (.iconst 1, 1) := by decide +kernel
theorem dX3_insert_65 : decode cX3_insert 65 = .ok (.isub, 1) := by decide +kernel
theorem dX3_insert_66 : decode cX3_insert 66 = .ok (.iaload, 1) := by decide +kernel
theorem dX3_insert_67 : decode cX3_insert 67 = .ok (.iastore, 1) := by decide +kernel
theorem dX3_insert_68 : decode cX3_insert 68 = .ok (.iinc 6 (-1), 3) := by decide +kernel
theorem dX3_insert_71 : decode cX3_insert 71 = .ok (.goto (-58), 3) := by decide +kernel
theorem dX3_insert_74 : decode cX3_insert 74 = .ok (.aload_n 0, 1) := by decide +kernel
theorem dX3_insert_75 : decode cX3_insert 75 = .ok (.getfield 7, 3) := by decide +kernel
theorem dX3_insert_78 : decode cX3_insert 78 = .ok (.iload 5, 2) := by decide +kernel
theorem dX3_insert_80 : decode cX3_insert 80 = .ok (.lload_n 1, 1) := by decide +kernel
theorem dX3_insert_81 : decode cX3_insert 81 = .ok (.lastore, 1) := by decide +kernel
theorem dX3_insert_82 : decode cX3_insert 82 = .ok (.aload_n 0, 1) := by decide +kernel
theorem dX3_insert_83 : decode cX3_insert 83 = .ok (.getfield 13, 3) := by decide +kernel
theorem dX3_insert_86 : decode cX3_insert 86 = .ok (.iload 5, 2) := by decide +kernel
theorem dX3_insert_88 : decode cX3_insert 88 = .ok (.iload_n 3, 1) := by decide +kernel
theorem dX3_insert_89 : decode cX3_insert 89 = .ok (.iastore, 1) := by decide +kernel
theorem dX3_insert_90 : decode cX3_insert 90 = .ok (.aload_n 0, 1) := by decide +kernel
theorem dX3_insert_91 : decode cX3_insert 91 = .ok (.getfield 17, 3) := by decide +kernel
theorem dX3_insert_94 : decode cX3_insert 94 = .ok (.iload 5, 2) := by decide +kernel
theorem dX3_insert_96 : decode cX3_insert 96 = .ok (.iload 4, 2) := by decide +kernel
theorem dX3_insert_98 : decode cX3_insert 98 = .ok (.iastore, 1) := by decide +kernel
theorem dX3_insert_99 : decode cX3_insert 99 = .ok (.aload_n 0, 1) := by decide +kernel
theorem dX3_insert_100 : decode cX3_insert 100 = .ok (.dup, 1) := by decide +kernel
theorem dX3_insert_101 : decode cX3_insert 101 = .ok (.getfield 58, 3) := by decide +kernel
theorem dX3_insert_104 : decode cX3_insert 104 = .ok (.iconst 1, 1) := by decide +kernel
theorem dX3_insert_105 : decode cX3_insert 105 = .ok (.iadd, 1) := by decide +kernel
theorem dX3_insert_106 : decode cX3_insert 106 = .ok (.putfield 58, 3) := by decide +kernel
theorem dX3_insert_109 : decode cX3_insert 109 = .ok (.return_, 1) := by decide +kernel
theorem dX3_open_0 : decode cX3_open 0 = .ok (.aload_n 0, 1) := by decide +kernel
theorem dX3_open_1 : decode cX3_open 1 = .ok (.getfield 26, 3) := by decide +kernel
theorem dX3_open_4 : decode cX3_open 4 = .ok (.istore 4, 2) := by decide +kernel
theorem dX3_open_6 : decode cX3_open 6 = .ok (.iload 4, 2) := by decide +kernel
theorem dX3_open_8 : decode cX3_open 8 = .ok (.iload_n 1, 1) := by decide +kernel
theorem dX3_open_9 : decode cX3_open 9 = .ok (.if_icmp .le 41, 3) := by decide +kernel
theorem dX3_open_12 : decode cX3_open 12 = .ok (.aload_n 0, 1) := by decide +kernel
theorem dX3_open_13 : decode cX3_open 13 = .ok (.getfield 20, 3) := by decide +kernel
theorem dX3_open_16 : decode cX3_open 16 = .ok (.iload 4, 2) := by decide +kernel
theorem dX3_open_18 : decode cX3_open 18 = .ok (.aload_n 0, 1) := by decide +kernel
theorem dX3_open_19 : decode cX3_open 19 = .ok (.getfield 20, 3) := by decide +kernel
theorem dX3_open_22 : decode cX3_open 22 = .ok (.iload 4, 2) := by decide +kernel
theorem dX3_open_24 : decode cX3_open 24 = .ok (.iconst 1, 1) := by decide +kernel
theorem dX3_open_25 : decode cX3_open 25 = .ok (.isub, 1) := by decide +kernel
theorem dX3_open_26 : decode cX3_open 26 = .ok (.iaload, 1) := by decide +kernel
theorem dX3_open_27 : decode cX3_open 27 = .ok (.iastore, 1) := by decide +kernel
theorem dX3_open_28 : decode cX3_open 28 = .ok (.aload_n 0, 1) := by decide +kernel
theorem dX3_open_29 : decode cX3_open 29 = .ok (.getfield 23, 3) := by decide +kernel
theorem dX3_open_32 : decode cX3_open 32 = .ok (.iload 4, 2) := by decide +kernel
theorem dX3_open_34 : decode cX3_open 34 = .ok (.aload_n 0, 1) := by decide +kernel
theorem dX3_open_35 : decode cX3_open 35 = .ok (.getfield 23, 3) := by decide +kernel
theorem dX3_open_38 : decode cX3_open 38 = .ok (.iload 4, 2) := by decide +kernel
theorem dX3_open_40 : decode cX3_open 40 = .ok (.iconst 1, 1) := by decide +kernel
theorem dX3_open_41 : decode cX3_open 41 = .ok (.isub, 1) := by decide +kernel
theorem dX3_open_42 : decode cX3_open 42 = .ok (.iaload, 1) := by decide +kernel
theorem dX3_open_43 : decode cX3_open 43 = .ok (.iastore, 1) := by decide +kernel
theorem dX3_open_44 : decode cX3_open 44 = .ok (.iinc 4 (-1), 3) := by decide +kernel
theorem dX3_open_47 : decode cX3_open 47 = .ok (.goto (-41), 3) := by decide +kernel
theorem dX3_open_50 : decode cX3_open 50 = .ok (.aload_n 0, 1) := by decide +kernel
theorem dX3_open_51 : decode cX3_open 51 = .ok (.getfield 20, 3) := by decide +kernel
theorem dX3_open_54 : decode cX3_open 54 = .ok (.iload_n 1, 1) := by decide +kernel
theorem dX3_open_55 : decode cX3_open 55 = .ok (.iload_n 2, 1) := by decide +kernel
theorem dX3_open_56 : decode cX3_open 56 = .ok (.iastore, 1) := by decide +kernel
theorem dX3_open_57 : decode cX3_open 57 = .ok (.aload_n 0, 1) := by decide +kernel
theorem dX3_open_58 : decode cX3_open 58 = .ok (.getfield 23, 3) := by decide +kernel
theorem dX3_open_61 : decode cX3_open 61 = .ok (.iload_n 1, 1) := by decide +kernel
theorem dX3_open_62 : decode cX3_open 62 = .ok (.iload_n 3, 1) := by decide +kernel
theorem dX3_open_63 : decode cX3_open 63 = .ok (.iastore, 1) := by decide +kernel
theorem dX3_open_64 : decode cX3_open 64 = .ok (.aload_n 0, 1) := by decide +kernel
theorem dX3_open_65 : decode cX3_open 65 = .ok (.dup, 1) := by decide +kernel
theorem dX3_open_66 : decode cX3_open 66 = .ok (.getfield 26, 3) := by decide +kernel
theorem dX3_open_69 : decode cX3_open 69 = .ok (.iconst 1, 1) := by decide +kernel
theorem dX3_open_70 : decode cX3_open 70 = .ok (.iadd, 1) := by decide +kernel
theorem dX3_open_71 : decode cX3_open 71 = .ok (.putfield 26, 3) := by decide +kernel
theorem dX3_open_74 : decode cX3_open 74 = .ok (.return_, 1) := by decide +kernel
theorem dX3_kept_0 : decode cX3_kept 0 = .ok (.aload_n 0, 1) := by decide +kernel
theorem dX3_kept_1 : decode cX3_kept 1 = .ok (.iload_n 1, 1) := by decide +kernel
theorem dX3_kept_2 : decode cX3_kept 2 = .ok (.invokevirtual 69, 3) := by decide +kernel
theorem dX3_kept_5 : decode cX3_kept 5 = .ok (.istore_n 2, 1) := by decide +kernel
theorem dX3_kept_6 : decode cX3_kept 6 = .ok (.iconst 0, 1) := by decide +kernel
theorem dX3_kept_7 : decode cX3_kept 7 = .ok (.istore_n 3, 1) := by decide +kernel
theorem dX3_kept_8 : decode cX3_kept 8 = .ok (.iconst 0, 1) := by decide +kernel
theorem dX3_kept_9 : decode cX3_kept 9 = .ok (.istore 4, 2) := by decide +kernel
theorem dX3_kept_11 : decode cX3_kept 11 = .ok (.aload_n 0, 1) := by decide +kernel
theorem dX3_kept_12 : decode cX3_kept 12 = .ok (.iload_n 1, 1) := by decide +kernel
theorem dX3_kept_13 : decode cX3_kept 13 = .ok (.invokevirtual 65, 3) := by decide +kernel
theorem dX3_kept_16 : decode cX3_kept 16 = .ok (.istore 5, 2) := by decide +kernel
theorem dX3_kept_18 : decode cX3_kept 18 = .ok (.aload_n 0, 1) := by decide +kernel
theorem dX3_kept_19 : decode cX3_kept 19 = .ok (.iload_n 1, 1) := by decide +kernel
theorem dX3_kept_20 : decode cX3_kept 20 = .ok (.invokevirtual 72, 3) := by decide +kernel
theorem dX3_kept_23 : decode cX3_kept 23 = .ok (.istore 6, 2) := by decide +kernel
theorem dX3_kept_25 : decode cX3_kept 25 = .ok (.iconst 1, 1) := by decide +kernel
theorem dX3_kept_26 : decode cX3_kept 26 = .ok (.istore 7, 2) := by decide +kernel
theorem dX3_kept_28 : decode cX3_kept 28 = .ok (.iconst 0, 1) := by decide +kernel
theorem dX3_kept_29 : decode cX3_kept 29 = .ok (.istore 8, 2) := by decide +kernel
theorem dX3_kept_31 : decode cX3_kept 31 = .ok (.iload 8, 2) := by decide +kernel
theorem dX3_kept_33 : decode cX3_kept 33 = .ok (.iload 6, 2) := by decide +kernel
theorem dX3_kept_35 : decode cX3_kept 35 = .ok (.if_icmp .ge 68, 3) := by decide +kernel
theorem dX3_kept_38 : decode cX3_kept 38 = .ok (.iload 7, 2) := by decide +kernel
theorem dX3_kept_40 : decode cX3_kept 40 = .ok (.ifCond .eq 63, 3) := by decide +kernel
theorem dX3_kept_43 : decode cX3_kept 43 = .ok (.iconst 2, 1) := by decide +kernel
theorem dX3_kept_44 : decode cX3_kept 44 = .ok (.iload 4, 2) := by decide +kernel
theorem dX3_kept_46 : decode cX3_kept 46 = .ok (.aload_n 0, 1) := by decide +kernel
theorem dX3_kept_47 : decode cX3_kept 47 = .ok (.getfield 13, 3) := by decide +kernel
theorem dX3_kept_50 : decode cX3_kept 50 = .ok (.iload 5, 2) := by decide +kernel
theorem dX3_kept_52 : decode cX3_kept 52 = .ok (.iload 8, 2) := by decide +kernel
theorem dX3_kept_54 : decode cX3_kept 54 = .ok (.iadd, 1) := by decide +kernel
theorem dX3_kept_55 : decode cX3_kept 55 = .ok (.iaload, 1) := by decide +kernel
theorem dX3_kept_56 : decode cX3_kept 56 = .ok (.iadd, 1) := by decide +kernel
theorem dX3_kept_57 : decode cX3_kept 57 = .ok (.imul, 1) := by decide +kernel
theorem dX3_kept_58 : decode cX3_kept 58 = .ok (.iload_n 2, 1) := by decide +kernel
theorem dX3_kept_59 : decode cX3_kept 59 = .ok (.if_icmp .gt 7, 3) := by decide +kernel
theorem dX3_kept_62 : decode cX3_kept 62 = .ok (.iconst 1, 1) := by decide +kernel
theorem dX3_kept_63 : decode cX3_kept 63 = .ok (.goto 4, 3) := by decide +kernel
theorem dX3_kept_66 : decode cX3_kept 66 = .ok (.iconst 0, 1) := by decide +kernel
theorem dX3_kept_67 : decode cX3_kept 67 = .ok (.istore 7, 2) := by decide +kernel
theorem dX3_kept_69 : decode cX3_kept 69 = .ok (.iload 4, 2) := by decide +kernel
theorem dX3_kept_71 : decode cX3_kept 71 = .ok (.aload_n 0, 1) := by decide +kernel
theorem dX3_kept_72 : decode cX3_kept 72 = .ok (.getfield 13, 3) := by decide +kernel
theorem dX3_kept_75 : decode cX3_kept 75 = .ok (.iload 5, 2) := by decide +kernel
theorem dX3_kept_77 : decode cX3_kept 77 = .ok (.iload 8, 2) := by decide +kernel
theorem dX3_kept_79 : decode cX3_kept 79 = .ok (.iadd, 1) := by decide +kernel
theorem dX3_kept_80 : decode cX3_kept 80 = .ok (.iaload, 1) := by decide +kernel
theorem dX3_kept_81 : decode cX3_kept 81 = .ok (.iadd, 1) := by decide +kernel
theorem dX3_kept_82 : decode cX3_kept 82 = .ok (.istore 4, 2) := by decide +kernel
theorem dX3_kept_84 : decode cX3_kept 84 = .ok (.iload_n 3, 1) := by decide +kernel
theorem dX3_kept_85 : decode cX3_kept 85 = .ok (.iload 7, 2) := by decide +kernel
theorem dX3_kept_87 : decode cX3_kept 87 = .ok (.ifCond .eq 7, 3) := by decide +kernel
theorem dX3_kept_90 : decode cX3_kept 90 = .ok (.iconst 1, 1) := by decide +kernel
theorem dX3_kept_91 : decode cX3_kept 91 = .ok (.goto 4, 3) := by decide +kernel
theorem dX3_kept_94 : decode cX3_kept 94 = .ok (.iconst 0, 1) := by decide +kernel
theorem dX3_kept_95 : decode cX3_kept 95 = .ok (.iadd, 1) := by decide +kernel
theorem dX3_kept_96 : decode cX3_kept 96 = .ok (.istore_n 3, 1) := by decide +kernel
theorem dX3_kept_97 : decode cX3_kept 97 = .ok (.iinc 8 1, 3) := by decide +kernel
theorem dX3_kept_100 : decode cX3_kept 100 = .ok (.goto (-69), 3) := by decide +kernel
theorem dX3_kept_103 : decode cX3_kept 103 = .ok (.iload_n 3, 1) := by decide +kernel
theorem dX3_kept_104 : decode cX3_kept 104 = .ok (.iconst 1, 1) := by decide +kernel
theorem dX3_kept_105 : decode cX3_kept 105 = .ok (.if_icmp .ge 7, 3) := by decide +kernel
theorem dX3_kept_108 : decode cX3_kept 108 = .ok (.iconst 1, 1) := by decide +kernel
theorem dX3_kept_109 : decode cX3_kept 109 = .ok (.goto 17, 3) := by decide +kernel
theorem dX3_kept_112 : decode cX3_kept 112 = .ok (.iload_n 3, 1) := by decide +kernel
theorem dX3_kept_113 : decode cX3_kept 113 = .ok (.iload 6, 2) := by decide +kernel
theorem dX3_kept_115 : decode cX3_kept 115 = .ok (.if_icmp .ne 10, 3) := by decide +kernel
theorem dX3_kept_118 : decode cX3_kept 118 = .ok (.iload 6, 2) := by decide +kernel
theorem dX3_kept_120 : decode cX3_kept 120 = .ok (.iconst 1, 1) := by decide +kernel
theorem dX3_kept_121 : decode cX3_kept 121 = .ok (.isub, 1) := by decide +kernel
theorem dX3_kept_122 : decode cX3_kept 122 = .ok (.goto 4, 3) := by decide +kernel
theorem dX3_kept_125 : decode cX3_kept 125 = .ok (.iload_n 3, 1) := by decide +kernel
theorem dX3_kept_126 : decode cX3_kept 126 = .ok (.ireturn, 1) := by decide +kernel
theorem dX3_splitInterval_0 : decode cX3_splitInterval 0 = .ok (.aload_n 0, 1) := by decide +kernel
theorem dX3_splitInterval_1 : decode cX3_splitInterval 1 = .ok (.iload_n 1, 1) := by decide +kernel
theorem dX3_splitInterval_2 : decode cX3_splitInterval 2 = .ok (.invokevirtual 65, 3) := by decide +kernel
theorem dX3_splitInterval_5 : decode cX3_splitInterval 5 = .ok (.aload_n 0, 1) := by decide +kernel
theorem dX3_splitInterval_6 : decode cX3_splitInterval 6 = .ok (.iload_n 1, 1) := by decide +kernel
theorem dX3_splitInterval_7 : decode cX3_splitInterval 7 = .ok (.invokevirtual 75, 3) := by decide +kernel
theorem dX3_splitInterval_10 : decode cX3_splitInterval 10 = .ok (.iadd, 1) := by decide +kernel
theorem dX3_splitInterval_11 : decode cX3_splitInterval 11 = .ok (.istore_n 3, 1) := by decide +kernel
theorem dX3_splitInterval_12 : decode cX3_splitInterval 12 = .ok (.aload_n 0, 1) := by decide +kernel
theorem dX3_splitInterval_13 : decode cX3_splitInterval 13 = .ok (.getfield 20, 3) := by decide +kernel
theorem dX3_splitInterval_16 : decode cX3_splitInterval 16 = .ok (.iload_n 1, 1) := by decide +kernel
theorem dX3_splitInterval_17 : decode cX3_splitInterval 17 = .ok (.iaload, 1) := by decide +kernel
theorem dX3_splitInterval_18 : decode cX3_splitInterval 18 = .ok (.istore 4, 2) := by decide +kernel
theorem dX3_splitInterval_20 : decode cX3_splitInterval 20 = .ok (.aload_n 0, 1) := by decide +kernel
theorem dX3_splitInterval_21 : decode cX3_splitInterval 21 = .ok (.iload_n 1, 1) := by decide +kernel
theorem dX3_splitInterval_22 : decode cX3_splitInterval 22 = .ok (.iconst 1, 1) := by decide +kernel
theorem dX3_splitInterval_23 : decode cX3_splitInterval 23 = .ok (.iadd, 1) := by decide +kernel
theorem dX3_splitInterval_24 : decode cX3_splitInterval 24 = .ok (.iload_n 2, 1) := by decide +kernel
theorem dX3_splitInterval_25 : decode cX3_splitInterval 25 = .ok (.aload_n 0, 1) := by decide +kernel
theorem dX3_splitInterval_26 : decode cX3_splitInterval 26 = .ok (.getfield 23, 3) := by decide +kernel
theorem dX3_splitInterval_29 : decode cX3_splitInterval 29 = .ok (.iload_n 1, 1) := by decide +kernel
theorem dX3_splitInterval_30 : decode cX3_splitInterval 30 = .ok (.iaload, 1) := by decide +kernel
theorem dX3_splitInterval_31 : decode cX3_splitInterval 31 = .ok (.invokevirtual 78, 3) := by decide +kernel
theorem dX3_splitInterval_34 : decode cX3_splitInterval 34 = .ok (.iload_n 3, 1) := by decide +kernel
theorem dX3_splitInterval_35 : decode cX3_splitInterval 35 = .ok (.istore 5, 2) := by decide +kernel
theorem dX3_splitInterval_37 : decode cX3_splitInterval 37 = .ok (.iload 5, 2) := by decide +kernel
theorem dX3_splitInterval_39 : decode cX3_splitInterval 39 = .ok (.aload_n 0, 1) := by decide +kernel
theorem dX3_splitInterval_40 : decode cX3_splitInterval 40 = .ok (.getfield 58, 3) := by decide +kernel
theorem dX3_splitInterval_43 : decode cX3_splitInterval 43 = .ok (.if_icmp .ge 39, 3) := by decide +kernel
theorem dX3_splitInterval_46 : decode cX3_splitInterval 46 = .ok (.aload_n 0, 1) := by decide +kernel
theorem dX3_splitInterval_47 : decode cX3_splitInterval 47 = .ok (.getfield 17, 3) := by decide +kernel
theorem dX3_splitInterval_50 : decode cX3_splitInterval 50 = .ok (.iload 5, 2) := by decide +kernel
theorem dX3_splitInterval_52 : decode cX3_splitInterval 52 = .ok (.aload_n 0, 1) := by decide +kernel
theorem dX3_splitInterval_53 : decode cX3_splitInterval 53 = .ok (.getfield 17, 3) := by decide +kernel
theorem dX3_splitInterval_56 : decode cX3_splitInterval 56 = .ok (.iload 5, 2) := by decide +kernel
theorem dX3_splitInterval_58 : decode cX3_splitInterval 58 = .ok (.iaload, 1) := by decide +kernel
theorem dX3_splitInterval_59 : decode cX3_splitInterval 59 = .ok (.iload 4, 2) := by decide +kernel
theorem dX3_splitInterval_61 : decode cX3_splitInterval 61 = .ok (.if_icmp .ne 7, 3) := by decide +kernel
theorem dX3_splitInterval_64 : decode cX3_splitInterval 64 = .ok (.iload_n 2, 1) := by decide +kernel
theorem dX3_splitInterval_65 : decode cX3_splitInterval 65 = .ok (.goto 10, 3) := by decide +kernel
theorem dX3_splitInterval_68 : decode cX3_splitInterval 68 = .ok (.aload_n 0, 1) := by decide +kernel
theorem dX3_splitInterval_69 : decode cX3_splitInterval 69 = .ok (.getfield 17, 3) := by decide +kernel
theorem dX3_splitInterval_72 : decode cX3_splitInterval 72 = .ok (.iload 5, 2) := by decide +kernel
theorem dX3_splitInterval_74 : decode cX3_splitInterval 74 = .ok (.iaload, 1) := by decide +kernel
theorem dX3_splitInterval_75 : decode cX3_splitInterval 75 = .ok (.iastore, 1) := by decide +kernel
theorem dX3_splitInterval_76 : decode cX3_splitInterval 76 = .ok (.iinc 5 1, 3) := by decide +kernel
theorem dX3_splitInterval_79 : decode cX3_splitInterval 79 = .ok (.goto (-42), 3) := by decide +kernel
theorem dX3_splitInterval_82 : decode cX3_splitInterval 82 = .ok (.aload_n 0, 1) := by decide +kernel
theorem dX3_splitInterval_83 : decode cX3_splitInterval 83 = .ok (.getfield 36, 3) := by decide +kernel
theorem dX3_splitInterval_86 : decode cX3_splitInterval 86 = .ok (.iconst 0, 1) := by decide +kernel
theorem dX3_splitInterval_87 : decode cX3_splitInterval 87 = .ok (.dup2, 1) := by decide +kernel
theorem dX3_splitInterval_88 : decode cX3_splitInterval 88 = .ok (.iaload, 1) := by decide +kernel
theorem dX3_splitInterval_89 : decode cX3_splitInterval 89 = .ok (.iconst 1, 1) := by decide +kernel
theorem dX3_splitInterval_90 : decode cX3_splitInterval 90 = .ok (.iadd, 1) := by decide +kernel
theorem dX3_splitInterval_91 : decode cX3_splitInterval 91 = .ok (.iastore, 1) := by decide +kernel
theorem dX3_splitInterval_92 : decode cX3_splitInterval 92 = .ok (.return_, 1) := by decide +kernel
theorem dX3_splitArea_0 : decode cX3_splitArea 0 = .ok (.aload_n 0, 1) := by decide +kernel
theorem dX3_splitArea_1 : decode cX3_splitArea 1 = .ok (.iload_n 1, 1) := by decide +kernel
theorem dX3_splitArea_2 : decode cX3_splitArea 2 = .ok (.invokevirtual 82, 3) := by decide +kernel
theorem dX3_splitArea_5 : decode cX3_splitArea 5 = .ok (.istore_n 2, 1) := by decide +kernel
theorem dX3_splitArea_6 : decode cX3_splitArea 6 = .ok (.aload_n 0, 1) := by decide +kernel
theorem dX3_splitArea_7 : decode cX3_splitArea 7 = .ok (.getfield 23, 3) := by decide +kernel
theorem dX3_splitArea_10 : decode cX3_splitArea 10 = .ok (.iload_n 1, 1) := by decide +kernel
theorem dX3_splitArea_11 : decode cX3_splitArea 11 = .ok (.iaload, 1) := by decide +kernel
theorem dX3_splitArea_12 : decode cX3_splitArea 12 = .ok (.istore_n 3, 1) := by decide +kernel
theorem dX3_splitArea_13 : decode cX3_splitArea 13 = .ok (.iconst 0, 1) := by decide +kernel
theorem dX3_splitArea_14 : decode cX3_splitArea 14 = .ok (.istore 4, 2) := by decide +kernel
theorem dX3_splitArea_16 : decode cX3_splitArea 16 = .ok (.aload_n 0, 1) := by decide +kernel
theorem dX3_splitArea_17 : decode cX3_splitArea 17 = .ok (.dup, 1) := by decide +kernel
theorem dX3_splitArea_18 : decode cX3_splitArea 18 = .ok (.getfield 33, 3) := by decide +kernel
theorem dX3_splitArea_21 : decode cX3_splitArea 21 = .ok (.iconst 1, 1) := by decide +kernel
theorem dX3_splitArea_22 : decode cX3_splitArea 22 = .ok (.iadd, 1) := by decide +kernel
theorem dX3_splitArea_23 : decode cX3_splitArea 23 = .ok (.putfield 33, 3) := by decide +kernel
theorem dX3_splitArea_26 : decode cX3_splitArea 26 = .ok (.iconst 0, 1) := by decide +kernel
theorem dX3_splitArea_27 : decode cX3_splitArea 27 = .ok (.istore 5, 2) := by decide +kernel
theorem dX3_splitArea_29 : decode cX3_splitArea 29 = .ok (.iload 5, 2) := by decide +kernel
theorem dX3_splitArea_31 : decode cX3_splitArea 31 = .ok (.aload_n 0, 1) := by decide +kernel
theorem dX3_splitArea_32 : decode cX3_splitArea 32 = .ok (.getfield 26, 3) := by decide +kernel
theorem dX3_splitArea_35 : decode cX3_splitArea 35 = .ok (.if_icmp .ge 54, 3) := by decide +kernel
theorem dX3_splitArea_38 : decode cX3_splitArea 38 = .ok (.aload_n 0, 1) := by decide +kernel
theorem dX3_splitArea_39 : decode cX3_splitArea 39 = .ok (.getfield 23, 3) := by decide +kernel
theorem dX3_splitArea_42 : decode cX3_splitArea 42 = .ok (.iload 5, 2) := by decide +kernel
theorem dX3_splitArea_44 : decode cX3_splitArea 44 = .ok (.iaload, 1) := by decide +kernel
theorem dX3_splitArea_45 : decode cX3_splitArea 45 = .ok (.iload_n 3, 1) := by decide +kernel
theorem dX3_splitArea_46 : decode cX3_splitArea 46 = .ok (.if_icmp .eq 6, 3) := by decide +kernel
theorem dX3_splitArea_49 : decode cX3_splitArea 49 = .ok (.goto 34, 3) := by decide +kernel
theorem dX3_splitArea_52 : decode cX3_splitArea 52 = .ok (.iinc 4 1, 3) := by decide +kernel
theorem dX3_splitArea_55 : decode cX3_splitArea 55 = .ok (.aload_n 0, 1) := by decide +kernel
theorem dX3_splitArea_56 : decode cX3_splitArea 56 = .ok (.getfield 23, 3) := by decide +kernel
theorem dX3_splitArea_59 : decode cX3_splitArea 59 = .ok (.iload 5, 2) := by decide +kernel
theorem dX3_splitArea_61 : decode cX3_splitArea 61 = .ok (.iload 4, 2) := by decide +kernel
theorem dX3_splitArea_63 : decode cX3_splitArea 63 = .ok (.iload_n 2, 1) := by decide +kernel
theorem dX3_splitArea_64 : decode cX3_splitArea 64 = .ok (.aload_n 0, 1) := by decide +kernel
theorem dX3_splitArea_65 : decode cX3_splitArea 65 = .ok (.getfield 46, 3) := by decide +kernel
theorem dX3_splitArea_68 : decode cX3_splitArea 68 = .ok (.iconst 2, 1) := by decide +kernel
theorem dX3_splitArea_69 : decode cX3_splitArea 69 = .ok (.idiv, 1) := by decide +kernel
theorem dX3_splitArea_70 : decode cX3_splitArea 70 = .ok (.isub, 1) := by decide +kernel
theorem dX3_splitArea_71 : decode cX3_splitArea 71 = .ok (.if_icmp .le 10, 3) := by decide +kernel
theorem dX3_splitArea_74 : decode cX3_splitArea 74 = .ok (.aload_n 0, 1) := by decide +kernel
theorem dX3_splitArea_75 : decode cX3_splitArea 75 = .ok (.getfield 33, 3) := by decide +kernel
theorem dX3_splitArea_78 : decode cX3_splitArea 78 = .ok (.goto 4, 3) := by decide +kernel
theorem dX3_splitArea_81 : decode cX3_splitArea 81 = .ok (.iload_n 3, 1) := by decide +kernel
theorem dX3_splitArea_82 : decode cX3_splitArea 82 = .ok (.iastore, 1) := by decide +kernel
theorem dX3_splitArea_83 : decode cX3_splitArea 83 = .ok (.iinc 5 1, 3) := by decide +kernel
theorem dX3_splitArea_86 : decode cX3_splitArea 86 = .ok (.goto (-57), 3) := by decide +kernel
theorem dX3_splitArea_89 : decode cX3_splitArea 89 = .ok (.aload_n 0, 1) := by decide +kernel
theorem dX3_splitArea_90 : decode cX3_splitArea 90 = .ok (.getfield 36, 3) := by decide +kernel
theorem dX3_splitArea_93 : decode cX3_splitArea 93 = .ok (.iconst 1, 1) := by decide +kernel
theorem dX3_splitArea_94 : decode cX3_splitArea 94 = .ok (.dup2, 1) := by decide +kernel
theorem dX3_splitArea_95 : decode cX3_splitArea 95 = .ok (.iaload, 1) := by decide +kernel
theorem dX3_splitArea_96 : decode cX3_splitArea 96 = .ok (.iconst 1, 1) := by decide +kernel
theorem dX3_splitArea_97 : decode cX3_splitArea 97 = .ok (.iadd, 1) := by decide +kernel
theorem dX3_splitArea_98 : decode cX3_splitArea 98 = .ok (.iastore, 1) := by decide +kernel
theorem dX3_splitArea_99 : decode cX3_splitArea 99 = .ok (.return_, 1) := by decide +kernel
theorem dX3_isCut_0 : decode cX3_isCut 0 = .ok (.aload_n 0, 1) := by decide +kernel
theorem dX3_isCut_1 : decode cX3_isCut 1 = .ok (.getfield 85, 3) := by decide +kernel
theorem dX3_isCut_4 : decode cX3_isCut 4 = .ok (.ifCond .ne 5, 3) := by decide +kernel
theorem dX3_isCut_7 : decode cX3_isCut 7 = .ok (.iconst 0, 1) := by decide +kernel
theorem dX3_isCut_8 : decode cX3_isCut 8 = .ok (.ireturn, 1) := by decide +kernel
theorem dX3_isCut_9 : decode cX3_isCut 9 = .ok (.aload_n 0, 1) := by decide +kernel
theorem dX3_isCut_10 : decode cX3_isCut 10 = .ok (.iconst 1, 1) := by decide +kernel
theorem dX3_isCut_11 : decode cX3_isCut 11 = .ok (.putfield 88, 3) := by decide +kernel
theorem dX3_isCut_14 : decode cX3_isCut 14 = .ok (.aload_n 0, 1) := by decide +kernel
theorem dX3_isCut_15 : decode cX3_isCut 15 = .ok (.iload_n 1, 1) := by decide +kernel
theorem dX3_isCut_16 : decode cX3_isCut 16 = .ok (.putfield 92, 3) := by decide +kernel
theorem dX3_isCut_19 : decode cX3_isCut 19 = .ok (.aload_n 0, 1) := by decide +kernel
theorem dX3_isCut_20 : decode cX3_isCut 20 = .ok (.iload_n 2, 1) := by decide +kernel
theorem dX3_isCut_21 : decode cX3_isCut 21 = .ok (.putfield 95, 3) := by decide +kernel
theorem dX3_isCut_24 : decode cX3_isCut 24 = .ok (.aload_n 0, 1) := by decide +kernel
theorem dX3_isCut_25 : decode cX3_isCut 25 = .ok (.aload_n 0, 1) := by decide +kernel
theorem dX3_isCut_26 : decode cX3_isCut 26 = .ok (.getfield 85, 3) := by decide +kernel
theorem dX3_isCut_29 : decode cX3_isCut 29 = .ok (.iconst 4, 1) := by decide +kernel
theorem dX3_isCut_30 : decode cX3_isCut 30 = .ok (.if_icmp .ne 7, 3) := by decide +kernel
theorem dX3_isCut_33 : decode cX3_isCut 33 = .ok (.iconst 1, 1) := by decide +kernel
theorem dX3_isCut_34 : decode cX3_isCut 34 = .ok (.goto 4, 3) := by decide +kernel
theorem dX3_isCut_37 : decode cX3_isCut 37 = .ok (.iconst 0, 1) := by decide +kernel
theorem dX3_isCut_38 : decode cX3_isCut 38 = .ok (.putfield 98, 3) := by decide +kernel
theorem dX3_isCut_41 : decode cX3_isCut 41 = .ok (.aload_n 0, 1) := by decide +kernel
theorem dX3_isCut_42 : decode cX3_isCut 42 = .ok (.dup, 1) := by decide +kernel
theorem dX3_isCut_43 : decode cX3_isCut 43 = .ok (.getfield 30, 3) := by decide +kernel
theorem dX3_isCut_46 : decode cX3_isCut 46 = .ok (.aload_n 0, 1) := by decide +kernel
theorem dX3_isCut_47 : decode cX3_isCut 47 = .ok (.getfield 85, 3) := by decide +kernel
theorem dX3_isCut_50 : decode cX3_isCut 50 = .ok (.iconst 2, 1) := by decide +kernel
theorem dX3_isCut_51 : decode cX3_isCut 51 = .ok (.if_icmp .le 12, 3) := by decide +kernel
theorem dX3_isCut_54 : decode cX3_isCut 54 = .ok (.iload_n 1, 1) := by decide +kernel
theorem dX3_isCut_55 : decode cX3_isCut 55 = .ok (.iconst 3, 1) := by decide +kernel
theorem dX3_isCut_56 : decode cX3_isCut 56 = .ok (.if_icmp .ge 7, 3) := by decide +kernel
theorem dX3_isCut_59 : decode cX3_isCut 59 = .ok (.iconst 1, 1) := by decide +kernel
theorem dX3_isCut_60 : decode cX3_isCut 60 = .ok (.goto 4, 3) := by decide +kernel
theorem dX3_isCut_63 : decode cX3_isCut 63 = .ok (.iconst 0, 1) := by decide +kernel
theorem dX3_isCut_64 : decode cX3_isCut 64 = .ok (.iadd, 1) := by decide +kernel
theorem dX3_isCut_65 : decode cX3_isCut 65 = .ok (.putfield 30, 3) := by decide +kernel
theorem dX3_isCut_68 : decode cX3_isCut 68 = .ok (.aload_n 0, 1) := by decide +kernel
theorem dX3_isCut_69 : decode cX3_isCut 69 = .ok (.iconst 0, 1) := by decide +kernel
theorem dX3_isCut_70 : decode cX3_isCut 70 = .ok (.putfield 85, 3) := by decide +kernel
theorem dX3_isCut_73 : decode cX3_isCut 73 = .ok (.iconst 1, 1) := by decide +kernel
theorem dX3_isCut_74 : decode cX3_isCut 74 = .ok (.ireturn, 1) := by decide +kernel
theorem dX3_put_0 : decode cX3_put 0 = .ok (.aload_n 0, 1) := by decide +kernel
theorem dX3_put_1 : decode cX3_put 1 = .ok (.iconst 0, 1) := by decide +kernel
theorem dX3_put_2 : decode cX3_put 2 = .ok (.putfield 55, 3) := by decide +kernel
theorem dX3_put_5 : decode cX3_put 5 = .ok (.aload_n 0, 1) := by decide +kernel
theorem dX3_put_6 : decode cX3_put 6 = .ok (.getfield 88, 3) := by decide +kernel
theorem dX3_put_9 : decode cX3_put 9 = .ok (.ifCond .eq 6, 3) := by decide +kernel
theorem dX3_put_12 : decode cX3_put 12 = .ok (.bipush (-5), 2) := by decide +kernel
theorem dX3_put_14 : decode cX3_put 14 = .ok (.ireturn, 1) := by decide +kernel
theorem dX3_put_15 : decode cX3_put 15 = .ok (.aload_n 0, 1) := by decide +kernel
theorem dX3_put_16 : decode cX3_put 16 = .ok (.lload_n 1, 1) := by decide +kernel
theorem dX3_put_17 : decode cX3_put 17 = .ok (.invokevirtual 101, 3) := by decide +kernel
theorem dX3_put_20 : decode cX3_put 20 = .ok (.ifCond .eq 5, 3) := by decide +kernel
theorem dX3_put_23 : decode cX3_put 23 = .ok (.iconst 0, 1) := by decide +kernel
theorem dX3_put_24 : decode cX3_put 24 = .ok (.ireturn, 1) := by decide +kernel
theorem dX3_put_25 : decode cX3_put 25 = .ok (.iload_n 3, 1) := by decide +kernel
theorem dX3_put_26 : decode cX3_put 26 = .ok (.iconst 1, 1) := by decide +kernel
theorem dX3_put_27 : decode cX3_put 27 = .ok (.if_icmp .lt 21, 3) := by decide +kernel
theorem dX3_put_30 : decode cX3_put 30 = .ok (.iload_n 3, 1) := by decide +kernel
theorem dX3_put_31 : decode cX3_put 31 = .ok (.aload_n 0, 1) := by decide +kernel
theorem dX3_put_32 : decode cX3_put 32 = .ok (.getfield 43, 3) := by decide +kernel
theorem dX3_put_35 : decode cX3_put 35 = .ok (.if_icmp .gt 13, 3) := by decide +kernel
theorem dX3_put_38 : decode cX3_put 38 = .ok (.aload_n 0, 1) := by decide +kernel
theorem dX3_put_39 : decode cX3_put 39 = .ok (.getfield 58, 3) := by decide +kernel
theorem dX3_put_42 : decode cX3_put 42 = .ok (.sipush 600, 3) := by decide +kernel
theorem dX3_put_45 : decode cX3_put 45 = .ok (.if_icmp .ne 5, 3) := by decide +kernel
theorem dX3_put_48 : decode cX3_put 48 = .ok (.iconst (-1), 1) := by decide +kernel
theorem dX3_put_49 : decode cX3_put 49 = .ok (.ireturn, 1) := by decide +kernel
theorem dX3_put_50 : decode cX3_put 50 = .ok (.aload_n 0, 1) := by decide +kernel
theorem dX3_put_51 : decode cX3_put 51 = .ok (.lload_n 1, 1) := by decide +kernel
theorem dX3_put_52 : decode cX3_put 52 = .ok (.invokevirtual 105, 3) := by decide +kernel
theorem dX3_put_55 : decode cX3_put 55 = .ok (.istore 4, 2) := by decide +kernel
theorem dX3_put_57 : decode cX3_put 57 = .ok (.aload_n 0, 1) := by decide +kernel
theorem dX3_put_58 : decode cX3_put 58 = .ok (.iload 4, 2) := by decide +kernel
theorem dX3_put_60 : decode cX3_put 60 = .ok (.invokevirtual 69, 3) := by decide +kernel
theorem dX3_put_63 : decode cX3_put 63 = .ok (.iload_n 3, 1) := by decide +kernel
theorem dX3_put_64 : decode cX3_put 64 = .ok (.iadd, 1) := by decide +kernel
theorem dX3_put_65 : decode cX3_put 65 = .ok (.aload_n 0, 1) := by decide +kernel
theorem dX3_put_66 : decode cX3_put 66 = .ok (.getfield 43, 3) := by decide +kernel
theorem dX3_put_69 : decode cX3_put 69 = .ok (.if_icmp .gt 18, 3) := by decide +kernel
theorem dX3_put_72 : decode cX3_put 72 = .ok (.aload_n 0, 1) := by decide +kernel
theorem dX3_put_73 : decode cX3_put 73 = .ok (.lload_n 1, 1) := by decide +kernel
theorem dX3_put_74 : decode cX3_put 74 = .ok (.iload_n 3, 1) := by decide +kernel
theorem dX3_put_75 : decode cX3_put 75 = .ok (.aload_n 0, 1) := by decide +kernel
theorem dX3_put_76 : decode cX3_put 76 = .ok (.getfield 20, 3) := by decide +kernel
theorem dX3_put_79 : decode cX3_put 79 = .ok (.iload 4, 2) := by decide +kernel
theorem dX3_put_81 : decode cX3_put 81 = .ok (.iaload, 1) := by decide +kernel
theorem dX3_put_82 : decode cX3_put 82 = .ok (.invokevirtual 108, 3) := by decide +kernel
theorem dX3_put_85 : decode cX3_put 85 = .ok (.iconst 1, 1) := by decide +kernel
theorem dX3_put_86 : decode cX3_put 86 = .ok (.ireturn, 1) := by decide +kernel
theorem dX3_put_87 : decode cX3_put 87 = .ok (.aload_n 0, 1) := by decide +kernel
theorem dX3_put_88 : decode cX3_put 88 = .ok (.iload 4, 2) := by decide +kernel
theorem dX3_put_90 : decode cX3_put 90 = .ok (.invokevirtual 72, 3) := by decide +kernel
theorem dX3_put_93 : decode cX3_put 93 = .ok (.iconst 1, 1) := by decide +kernel
theorem dX3_put_94 : decode cX3_put 94 = .ok (.if_icmp .ne 7, 3) := by decide +kernel
theorem dX3_put_97 : decode cX3_put 97 = .ok (.iconst 1, 1) := by decide +kernel
theorem dX3_put_98 : decode cX3_put 98 = .ok (.goto 4, 3) := by decide +kernel
theorem dX3_put_101 : decode cX3_put 101 = .ok (.iconst 0, 1) := by decide +kernel
theorem dX3_put_102 : decode cX3_put 102 = .ok (.istore 5, 2) := by decide +kernel
theorem dX3_put_104 : decode cX3_put 104 = .ok (.aload_n 0, 1) := by decide +kernel
theorem dX3_put_105 : decode cX3_put 105 = .ok (.iload 4, 2) := by decide +kernel
theorem dX3_put_107 : decode cX3_put 107 = .ok (.invokevirtual 82, 3) := by decide +kernel
theorem dX3_put_110 : decode cX3_put 110 = .ok (.aload_n 0, 1) := by decide +kernel
theorem dX3_put_111 : decode cX3_put 111 = .ok (.getfield 46, 3) := by decide +kernel
theorem dX3_put_114 : decode cX3_put 114 = .ok (.if_icmp .ge 7, 3) := by decide +kernel
theorem dX3_put_117 : decode cX3_put 117 = .ok (.iconst 1, 1) := by decide +kernel
theorem dX3_put_118 : decode cX3_put 118 = .ok (.goto 4, 3) := by decide +kernel
theorem dX3_put_121 : decode cX3_put 121 = .ok (.iconst 0, 1) := by decide +kernel
theorem dX3_put_122 : decode cX3_put 122 = .ok (.istore 6, 2) := by decide +kernel
theorem dX3_put_124 : decode cX3_put 124 = .ok (.aload_n 0, 1) := by decide +kernel
theorem dX3_put_125 : decode cX3_put 125 = .ok (.iload 6, 2) := by decide +kernel
theorem dX3_put_127 : decode cX3_put 127 = .ok (.ifCond .ne 7, 3) := by decide +kernel
theorem dX3_put_130 : decode cX3_put 130 = .ok (.iconst 3, 1) := by decide +kernel
theorem dX3_put_131 : decode cX3_put 131 = .ok (.goto 13, 3) := by decide +kernel
theorem dX3_put_134 : decode cX3_put 134 = .ok (.iload 5, 2) := by decide +kernel
theorem dX3_put_136 : decode cX3_put 136 = .ok (.ifCond .eq 7, 3) := by decide +kernel
theorem dX3_put_139 : decode cX3_put 139 = .ok (.iconst 2, 1) := by decide +kernel
theorem dX3_put_140 : decode cX3_put 140 = .ok (.goto 4, 3) := by decide +kernel
theorem dX3_put_143 : decode cX3_put 143 = .ok (.iconst 1, 1) := by decide +kernel
theorem dX3_put_144 : decode cX3_put 144 = .ok (.iload 4, 2) := by decide +kernel
theorem dX3_put_146 : decode cX3_put 146 = .ok (.invokevirtual 112, 3) := by decide +kernel
theorem dX3_put_149 : decode cX3_put 149 = .ok (.ifCond .eq 6, 3) := by decide +kernel
theorem dX3_put_152 : decode cX3_put 152 = .ok (.bipush (-5), 2) := by decide +kernel
theorem dX3_put_154 : decode cX3_put 154 = .ok (.ireturn, 1) := by decide +kernel
theorem dX3_put_155 : decode cX3_put 155 = .ok (.iload 6, 2) := by decide +kernel
theorem dX3_put_157 : decode cX3_put 157 = .ok (.ifCond .ne 12, 3) := by decide +kernel
theorem dX3_put_160 : decode cX3_put 160 = .ok (.aload_n 0, 1) := by decide +kernel
theorem dX3_put_161 : decode cX3_put 161 = .ok (.iload 4, 2) := by decide +kernel
theorem dX3_put_163 : decode cX3_put 163 = .ok (.invokevirtual 116, 3) := by decide +kernel
theorem dX3_put_166 : decode cX3_put 166 = .ok (.goto 112, 3) := by decide +kernel
theorem dX3_put_169 : decode cX3_put 169 = .ok (.iload 5, 2) := by decide +kernel
theorem dX3_put_171 : decode cX3_put 171 = .ok (.ifCond .eq 87, 3) := by decide +kernel
theorem dX3_put_174 : decode cX3_put 174 = .ok (.lload_n 1, 1) := by decide +kernel
theorem dX3_put_175 : decode cX3_put 175 = .ok (.aload_n 0, 1) := by decide +kernel
theorem dX3_put_176 : decode cX3_put 176 = .ok (.getfield 7, 3) := by decide +kernel
theorem dX3_put_179 : decode cX3_put 179 = .ok (.aload_n 0, 1) := by decide +kernel
theorem dX3_put_180 : decode cX3_put 180 = .ok (.iload 4, 2) := by decide +kernel
theorem dX3_put_182 : decode cX3_put 182 = .ok (.invokevirtual 65, 3) := by decide +kernel
theorem dX3_put_185 : decode cX3_put 185 = .ok (.laload, 1) := by decide +kernel
theorem dX3_put_186 : decode cX3_put 186 = .ok (.lcmp, 1) := by decide +kernel
theorem dX3_put_187 : decode cX3_put 187 = .ok (.ifCond .le 7, 3) := by decide +kernel
theorem dX3_put_190 : decode cX3_put 190 = .ok (.iconst 1, 1) := by decide +kernel
theorem dX3_put_191 : decode cX3_put 191 = .ok (.goto 4, 3) := by decide +kernel
theorem dX3_put_194 : decode cX3_put 194 = .ok (.iconst 0, 1) := by decide +kernel
theorem dX3_put_195 : decode cX3_put 195 = .ok (.istore 7, 2) := by decide +kernel
theorem dX3_put_197 : decode cX3_put 197 = .ok (.aload_n 0, 1) := by decide +kernel
theorem dX3_put_198 : decode cX3_put 198 = .ok (.iload 7, 2) := by decide +kernel
theorem dX3_put_200 : decode cX3_put 200 = .ok (.ifCond .eq 10, 3) := by decide +kernel
theorem dX3_put_203 : decode cX3_put 203 = .ok (.iload 4, 2) := by decide +kernel
theorem dX3_put_205 : decode cX3_put 205 = .ok (.iconst 1, 1) := by decide +kernel
theorem dX3_put_206 : decode cX3_put 206 = .ok (.iadd, 1) := by decide +kernel
theorem dX3_put_207 : decode cX3_put 207 = .ok (.goto 5, 3) := by decide +kernel
theorem dX3_put_210 : decode cX3_put 210 = .ok (.iload 4, 2) := by decide +kernel
theorem dX3_put_212 : decode cX3_put 212 = .ok (.aload_n 0, 1) := by decide +kernel
theorem dX3_put_213 : decode cX3_put 213 = .ok (.getfield 30, 3) := by decide +kernel
theorem dX3_put_216 : decode cX3_put 216 = .ok (.aload_n 0, 1) := by decide +kernel
theorem dX3_put_217 : decode cX3_put 217 = .ok (.getfield 23, 3) := by decide +kernel
theorem dX3_put_220 : decode cX3_put 220 = .ok (.iload 4, 2) := by decide +kernel
theorem dX3_put_222 : decode cX3_put 222 = .ok (.iaload, 1) := by decide +kernel
theorem dX3_put_223 : decode cX3_put 223 = .ok (.invokevirtual 78, 3) := by decide +kernel
theorem dX3_put_226 : decode cX3_put 226 = .ok (.aload_n 0, 1) := by decide +kernel
theorem dX3_put_227 : decode cX3_put 227 = .ok (.lload_n 1, 1) := by decide +kernel
theorem dX3_put_228 : decode cX3_put 228 = .ok (.iload_n 3, 1) := by decide +kernel
theorem dX3_put_229 : decode cX3_put 229 = .ok (.aload_n 0, 1) := by decide +kernel
theorem dX3_put_230 : decode cX3_put 230 = .ok (.getfield 30, 3) := by decide +kernel
theorem dX3_put_233 : decode cX3_put 233 = .ok (.invokevirtual 108, 3) := by decide +kernel
theorem dX3_put_236 : decode cX3_put 236 = .ok (.aload_n 0, 1) := by decide +kernel
theorem dX3_put_237 : decode cX3_put 237 = .ok (.dup, 1) := by decide +kernel
theorem dX3_put_238 : decode cX3_put 238 = .ok (.getfield 30, 3) := by decide +kernel
theorem dX3_put_241 : decode cX3_put 241 = .ok (.iconst 1, 1) := by decide +kernel
theorem dX3_put_242 : decode cX3_put 242 = .ok (.iadd, 1) := by decide +kernel
theorem dX3_put_243 : decode cX3_put 243 = .ok (.putfield 30, 3) := by decide +kernel
theorem dX3_put_246 : decode cX3_put 246 = .ok (.aload_n 0, 1) := by decide +kernel
theorem dX3_put_247 : decode cX3_put 247 = .ok (.getfield 36, 3) := by decide +kernel
theorem dX3_put_250 : decode cX3_put 250 = .ok (.iconst 0, 1) := by decide +kernel
theorem dX3_put_251 : decode cX3_put 251 = .ok (.dup2, 1) := by decide +kernel
theorem dX3_put_252 : decode cX3_put 252 = .ok (.iaload, 1) := by decide +kernel
theorem dX3_put_253 : decode cX3_put 253 = .ok (.iconst 1, 1) := by decide +kernel
theorem dX3_put_254 : decode cX3_put 254 = .ok (.iadd, 1) := by decide +kernel
theorem dX3_put_255 : decode cX3_put 255 = .ok (.iastore, 1) := by decide +kernel
theorem dX3_put_256 : decode cX3_put 256 = .ok (.iconst 1, 1) := by decide +kernel
theorem dX3_put_257 : decode cX3_put 257 = .ok (.ireturn, 1) := by decide +kernel
theorem dX3_put_258 : decode cX3_put 258 = .ok (.aload_n 0, 1) := by decide +kernel
theorem dX3_put_259 : decode cX3_put 259 = .ok (.iload 4, 2) := by decide +kernel
theorem dX3_put_261 : decode cX3_put 261 = .ok (.aload_n 0, 1) := by decide +kernel
theorem dX3_put_262 : decode cX3_put 262 = .ok (.getfield 30, 3) := by decide +kernel
theorem dX3_put_265 : decode cX3_put 265 = .ok (.invokevirtual 120, 3) := by decide +kernel
theorem dX3_put_268 : decode cX3_put 268 = .ok (.aload_n 0, 1) := by decide +kernel
theorem dX3_put_269 : decode cX3_put 269 = .ok (.dup, 1) := by decide +kernel
theorem dX3_put_270 : decode cX3_put 270 = .ok (.getfield 30, 3) := by decide +kernel
theorem dX3_put_273 : decode cX3_put 273 = .ok (.iconst 1, 1) := by decide +kernel
theorem dX3_put_274 : decode cX3_put 274 = .ok (.iadd, 1) := by decide +kernel
theorem dX3_put_275 : decode cX3_put 275 = .ok (.putfield 30, 3) := by decide +kernel
theorem dX3_put_278 : decode cX3_put 278 = .ok (.goto (-228), 3) := by decide +kernel
theorem dX3_cut_0 : decode cX3_cut 0 = .ok (.aload_n 0, 1) := by decide +kernel
theorem dX3_cut_1 : decode cX3_cut 1 = .ok (.iconst 0, 1) := by decide +kernel
theorem dX3_cut_2 : decode cX3_cut 2 = .ok (.putfield 55, 3) := by decide +kernel
theorem dX3_cut_5 : decode cX3_cut 5 = .ok (.aload_n 0, 1) := by decide +kernel
theorem dX3_cut_6 : decode cX3_cut 6 = .ok (.getfield 88, 3) := by decide +kernel
theorem dX3_cut_9 : decode cX3_cut 9 = .ok (.ifCond .eq 6, 3) := by decide +kernel
theorem dX3_cut_12 : decode cX3_cut 12 = .ok (.bipush (-5), 2) := by decide +kernel
theorem dX3_cut_14 : decode cX3_cut 14 = .ok (.ireturn, 1) := by decide +kernel
theorem dX3_cut_15 : decode cX3_cut 15 = .ok (.iload_n 1, 1) := by decide +kernel
theorem dX3_cut_16 : decode cX3_cut 16 = .ok (.ifCond .lt 8, 3) := by decide +kernel
theorem dX3_cut_19 : decode cX3_cut 19 = .ok (.iload_n 1, 1) := by decide +kernel
theorem dX3_cut_20 : decode cX3_cut 20 = .ok (.iconst 4, 1) := by decide +kernel
theorem dX3_cut_21 : decode cX3_cut 21 = .ok (.if_icmp .le 5, 3) := by decide +kernel
theorem dX3_cut_24 : decode cX3_cut 24 = .ok (.iconst (-1), 1) := by decide +kernel
theorem dX3_cut_25 : decode cX3_cut 25 = .ok (.ireturn, 1) := by decide +kernel
theorem dX3_cut_26 : decode cX3_cut 26 = .ok (.aload_n 0, 1) := by decide +kernel
theorem dX3_cut_27 : decode cX3_cut 27 = .ok (.getfield 85, 3) := by decide +kernel
theorem dX3_cut_30 : decode cX3_cut 30 = .ok (.istore_n 2, 1) := by decide +kernel
theorem dX3_cut_31 : decode cX3_cut 31 = .ok (.aload_n 0, 1) := by decide +kernel
theorem dX3_cut_32 : decode cX3_cut 32 = .ok (.iload_n 1, 1) := by decide +kernel
theorem dX3_cut_33 : decode cX3_cut 33 = .ok (.putfield 85, 3) := by decide +kernel
theorem dX3_cut_36 : decode cX3_cut 36 = .ok (.iload_n 2, 1) := by decide +kernel
theorem dX3_cut_37 : decode cX3_cut 37 = .ok (.ireturn, 1) := by decide +kernel
theorem dX3_open__0 : decode cX3_open_ 0 = .ok (.aload_n 0, 1) := by decide +kernel
theorem dX3_open__1 : decode cX3_open_ 1 = .ok (.iconst 0, 1) := by decide +kernel
theorem dX3_open__2 : decode cX3_open_ 2 = .ok (.putfield 55, 3) := by decide +kernel
theorem dX3_open__5 : decode cX3_open_ 5 = .ok (.aload_n 0, 1) := by decide +kernel
theorem dX3_open__6 : decode cX3_open_ 6 = .ok (.getfield 88, 3) := by decide +kernel
theorem dX3_open__9 : decode cX3_open_ 9 = .ok (.ifCond .ne 5, 3) := by decide +kernel
theorem dX3_open__12 : decode cX3_open_ 12 = .ok (.iconst 0, 1) := by decide +kernel
theorem dX3_open__13 : decode cX3_open_ 13 = .ok (.ireturn, 1) := by decide +kernel
theorem dX3_open__14 : decode cX3_open_ 14 = .ok (.aload_n 0, 1) := by decide +kernel
theorem dX3_open__15 : decode cX3_open_ 15 = .ok (.iconst 0, 1) := by decide +kernel
theorem dX3_open__16 : decode cX3_open_ 16 = .ok (.putfield 88, 3) := by decide +kernel
theorem dX3_open__19 : decode cX3_open_ 19 = .ok (.aload_n 0, 1) := by decide +kernel
theorem dX3_open__20 : decode cX3_open_ 20 = .ok (.getfield 98, 3) := by decide +kernel
theorem dX3_open__23 : decode cX3_open_ 23 = .ok (.ifCond .ne 15, 3) := by decide +kernel
theorem dX3_open__26 : decode cX3_open_ 26 = .ok (.aload_n 0, 1) := by decide +kernel
theorem dX3_open__27 : decode cX3_open_ 27 = .ok (.getfield 36, 3) := by decide +kernel
theorem dX3_open__30 : decode cX3_open_ 30 = .ok (.iconst 2, 1) := by decide +kernel
theorem dX3_open__31 : decode cX3_open_ 31 = .ok (.dup2, 1) := by decide +kernel
theorem dX3_open__32 : decode cX3_open_ 32 = .ok (.iaload, 1) := by decide +kernel
theorem dX3_open__33 : decode cX3_open_ 33 = .ok (.iconst 1, 1) := by decide +kernel
theorem dX3_open__34 : decode cX3_open_ 34 = .ok (.iadd, 1) := by decide +kernel
theorem dX3_open__35 : decode cX3_open_ 35 = .ok (.iastore, 1) := by decide +kernel
theorem dX3_open__36 : decode cX3_open_ 36 = .ok (.iconst 1, 1) := by decide +kernel
theorem dX3_open__37 : decode cX3_open_ 37 = .ok (.ireturn, 1) := by decide +kernel
theorem dX3_open__38 : decode cX3_open_ 38 = .ok (.aload_n 0, 1) := by decide +kernel
theorem dX3_open__39 : decode cX3_open_ 39 = .ok (.getfield 92, 3) := by decide +kernel
theorem dX3_open__42 : decode cX3_open_ 42 = .ok (.iconst 1, 1) := by decide +kernel
theorem dX3_open__43 : decode cX3_open_ 43 = .ok (.if_icmp .ne 20, 3) := by decide +kernel
theorem dX3_open__46 : decode cX3_open_ 46 = .ok (.aload_n 0, 1) := by decide +kernel
theorem dX3_open__47 : decode cX3_open_ 47 = .ok (.aload_n 0, 1) := by decide +kernel
theorem dX3_open__48 : decode cX3_open_ 48 = .ok (.getfield 95, 3) := by decide +kernel
theorem dX3_open__51 : decode cX3_open_ 51 = .ok (.aload_n 0, 1) := by decide +kernel
theorem dX3_open__52 : decode cX3_open_ 52 = .ok (.getfield 30, 3) := by decide +kernel
theorem dX3_open__55 : decode cX3_open_ 55 = .ok (.iconst 1, 1) := by decide +kernel
theorem dX3_open__56 : decode cX3_open_ 56 = .ok (.isub, 1) := by decide +kernel
theorem dX3_open__57 : decode cX3_open_ 57 = .ok (.invokevirtual 120, 3) := by decide +kernel
theorem dX3_open__60 : decode cX3_open_ 60 = .ok (.goto 32, 3) := by decide +kernel
theorem dX3_open__63 : decode cX3_open_ 63 = .ok (.aload_n 0, 1) := by decide +kernel
theorem dX3_open__64 : decode cX3_open_ 64 = .ok (.getfield 92, 3) := by decide +kernel
theorem dX3_open__67 : decode cX3_open_ 67 = .ok (.iconst 2, 1) := by decide +kernel
theorem dX3_open__68 : decode cX3_open_ 68 = .ok (.if_icmp .ne 16, 3) := by decide +kernel
theorem dX3_open__71 : decode cX3_open_ 71 = .ok (.aload_n 0, 1) := by decide +kernel
theorem dX3_open__72 : decode cX3_open_ 72 = .ok (.getfield 36, 3) := by decide +kernel
theorem dX3_open__75 : decode cX3_open_ 75 = .ok (.iconst 0, 1) := by decide +kernel
theorem dX3_open__76 : decode cX3_open_ 76 = .ok (.dup2, 1) := by decide +kernel
theorem dX3_open__77 : decode cX3_open_ 77 = .ok (.iaload, 1) := by decide +kernel
theorem dX3_open__78 : decode cX3_open_ 78 = .ok (.iconst 1, 1) := by decide +kernel
theorem dX3_open__79 : decode cX3_open_ 79 = .ok (.iadd, 1) := by decide +kernel
theorem dX3_open__80 : decode cX3_open_ 80 = .ok (.iastore, 1) := by decide +kernel
theorem dX3_open__81 : decode cX3_open_ 81 = .ok (.goto 11, 3) := by decide +kernel
theorem dX3_open__84 : decode cX3_open_ 84 = .ok (.aload_n 0, 1) := by decide +kernel
theorem dX3_open__85 : decode cX3_open_ 85 = .ok (.aload_n 0, 1) := by decide +kernel
theorem dX3_open__86 : decode cX3_open_ 86 = .ok (.getfield 95, 3) := by decide +kernel
theorem dX3_open__89 : decode cX3_open_ 89 = .ok (.invokevirtual 116, 3) := by decide +kernel
theorem dX3_open__92 : decode cX3_open_ 92 = .ok (.aload_n 0, 1) := by decide +kernel
theorem dX3_open__93 : decode cX3_open_ 93 = .ok (.getfield 36, 3) := by decide +kernel
theorem dX3_open__96 : decode cX3_open_ 96 = .ok (.iconst 3, 1) := by decide +kernel
theorem dX3_open__97 : decode cX3_open_ 97 = .ok (.dup2, 1) := by decide +kernel
theorem dX3_open__98 : decode cX3_open_ 98 = .ok (.iaload, 1) := by decide +kernel
theorem dX3_open__99 : decode cX3_open_ 99 = .ok (.iconst 1, 1) := by decide +kernel
theorem dX3_open__100 : decode cX3_open_ 100 = .ok (.iadd, 1) := by decide +kernel
theorem dX3_open__101 : decode cX3_open_ 101 = .ok (.iastore, 1) := by decide +kernel
theorem dX3_open__102 : decode cX3_open_ 102 = .ok (.iconst 2, 1) := by decide +kernel
theorem dX3_open__103 : decode cX3_open_ 103 = .ok (.ireturn, 1) := by decide +kernel
theorem dX3_remove_0 : decode cX3_remove 0 = .ok (.aload_n 0, 1) := by decide +kernel
theorem dX3_remove_1 : decode cX3_remove 1 = .ok (.iconst 0, 1) := by decide +kernel
theorem dX3_remove_2 : decode cX3_remove 2 = .ok (.putfield 55, 3) := by decide +kernel
theorem dX3_remove_5 : decode cX3_remove 5 = .ok (.aload_n 0, 1) := by decide +kernel
theorem dX3_remove_6 : decode cX3_remove 6 = .ok (.getfield 88, 3) := by decide +kernel
theorem dX3_remove_9 : decode cX3_remove 9 = .ok (.ifCond .eq 6, 3) := by decide +kernel
theorem dX3_remove_12 : decode cX3_remove 12 = .ok (.bipush (-5), 2) := by decide +kernel
theorem dX3_remove_14 : decode cX3_remove 14 = .ok (.ireturn, 1) := by decide +kernel
theorem dX3_remove_15 : decode cX3_remove 15 = .ok (.aload_n 0, 1) := by decide +kernel
theorem dX3_remove_16 : decode cX3_remove 16 = .ok (.lload_n 1, 1) := by decide +kernel
theorem dX3_remove_17 : decode cX3_remove 17 = .ok (.invokevirtual 101, 3) := by decide +kernel
theorem dX3_remove_20 : decode cX3_remove 20 = .ok (.ifCond .ne 5, 3) := by decide +kernel
theorem dX3_remove_23 : decode cX3_remove 23 = .ok (.iconst 0, 1) := by decide +kernel
theorem dX3_remove_24 : decode cX3_remove 24 = .ok (.ireturn, 1) := by decide +kernel
theorem dX3_remove_25 : decode cX3_remove 25 = .ok (.aload_n 0, 1) := by decide +kernel
theorem dX3_remove_26 : decode cX3_remove 26 = .ok (.lload_n 1, 1) := by decide +kernel
theorem dX3_remove_27 : decode cX3_remove 27 = .ok (.invokevirtual 61, 3) := by decide +kernel
theorem dX3_remove_30 : decode cX3_remove 30 = .ok (.istore_n 3, 1) := by decide +kernel
theorem dX3_remove_31 : decode cX3_remove 31 = .ok (.aload_n 0, 1) := by decide +kernel
theorem dX3_remove_32 : decode cX3_remove 32 = .ok (.getfield 17, 3) := by decide +kernel
theorem dX3_remove_35 : decode cX3_remove 35 = .ok (.iload_n 3, 1) := by decide +kernel
theorem dX3_remove_36 : decode cX3_remove 36 = .ok (.iaload, 1) := by decide +kernel
theorem dX3_remove_37 : decode cX3_remove 37 = .ok (.istore 4, 2) := by decide +kernel
theorem dX3_remove_39 : decode cX3_remove 39 = .ok (.aload_n 0, 1) := by decide +kernel
theorem dX3_remove_40 : decode cX3_remove 40 = .ok (.dup, 1) := by decide +kernel
theorem dX3_remove_41 : decode cX3_remove 41 = .ok (.getfield 58, 3) := by decide +kernel
theorem dX3_remove_44 : decode cX3_remove 44 = .ok (.iconst 1, 1) := by decide +kernel
theorem dX3_remove_45 : decode cX3_remove 45 = .ok (.isub, 1) := by decide +kernel
theorem dX3_remove_46 : decode cX3_remove 46 = .ok (.putfield 58, 3) := by decide +kernel
theorem dX3_remove_49 : decode cX3_remove 49 = .ok (.iload_n 3, 1) := by decide +kernel
theorem dX3_remove_50 : decode cX3_remove 50 = .ok (.istore 5, 2) := by decide +kernel
theorem dX3_remove_52 : decode cX3_remove 52 = .ok (.iload 5, 2) := by decide +kernel
theorem dX3_remove_54 : decode cX3_remove 54 = .ok (.aload_n 0, 1) := by decide +kernel
theorem dX3_remove_55 : decode cX3_remove 55 = .ok (.getfield 58, 3) := by decide +kernel
theorem dX3_remove_58 : decode cX3_remove 58 = .ok (.if_icmp .ge 57, 3) := by decide +kernel
theorem dX3_remove_61 : decode cX3_remove 61 = .ok (.aload_n 0, 1) := by decide +kernel
theorem dX3_remove_62 : decode cX3_remove 62 = .ok (.getfield 7, 3) := by decide +kernel
theorem dX3_remove_65 : decode cX3_remove 65 = .ok (.iload 5, 2) := by decide +kernel
theorem dX3_remove_67 : decode cX3_remove 67 = .ok (.aload_n 0, 1) := by decide +kernel
theorem dX3_remove_68 : decode cX3_remove 68 = .ok (.getfield 7, 3) := by decide +kernel
theorem dX3_remove_71 : decode cX3_remove 71 = .ok (.iload 5, 2) := by decide +kernel
theorem dX3_remove_73 : decode cX3_remove 73 = .ok (.iconst 1, 1) := by decide +kernel
theorem dX3_remove_74 : decode cX3_remove 74 = .ok (.iadd, 1) := by decide +kernel
theorem dX3_remove_75 : decode cX3_remove 75 = .ok (.laload, 1) := by decide +kernel
theorem dX3_remove_76 : decode cX3_remove 76 = .ok (.lastore, 1) := by decide +kernel
theorem dX3_remove_77 : decode cX3_remove 77 = .ok (.aload_n 0, 1) := by decide +kernel
theorem dX3_remove_78 : decode cX3_remove 78 = .ok (.getfield 13, 3) := by decide +kernel
theorem dX3_remove_81 : decode cX3_remove 81 = .ok (.iload 5, 2) := by decide +kernel
theorem dX3_remove_83 : decode cX3_remove 83 = .ok (.aload_n 0, 1) := by decide +kernel
theorem dX3_remove_84 : decode cX3_remove 84 = .ok (.getfield 13, 3) := by decide +kernel
theorem dX3_remove_87 : decode cX3_remove 87 = .ok (.iload 5, 2) := by decide +kernel
theorem dX3_remove_89 : decode cX3_remove 89 = .ok (.iconst 1, 1) := by decide +kernel
theorem dX3_remove_90 : decode cX3_remove 90 = .ok (.iadd, 1) := by decide +kernel
theorem dX3_remove_91 : decode cX3_remove 91 = .ok (.iaload, 1) := by decide +kernel
theorem dX3_remove_92 : decode cX3_remove 92 = .ok (.iastore, 1) := by decide +kernel
theorem dX3_remove_93 : decode cX3_remove 93 = .ok (.aload_n 0, 1) := by decide +kernel
theorem dX3_remove_94 : decode cX3_remove 94 = .ok (.getfield 17, 3) := by decide +kernel
theorem dX3_remove_97 : decode cX3_remove 97 = .ok (.iload 5, 2) := by decide +kernel
theorem dX3_remove_99 : decode cX3_remove 99 = .ok (.aload_n 0, 1) := by decide +kernel
theorem dX3_remove_100 : decode cX3_remove 100 = .ok (.getfield 17, 3) := by decide +kernel
theorem dX3_remove_103 : decode cX3_remove 103 = .ok (.iload 5, 2) := by decide +kernel
theorem dX3_remove_105 : decode cX3_remove 105 = .ok (.iconst 1, 1) := by decide +kernel
theorem dX3_remove_106 : decode cX3_remove 106 = .ok (.iadd, 1) := by decide +kernel
theorem dX3_remove_107 : decode cX3_remove 107 = .ok (.iaload, 1) := by decide +kernel
theorem dX3_remove_108 : decode cX3_remove 108 = .ok (.iastore, 1) := by decide +kernel
theorem dX3_remove_109 : decode cX3_remove 109 = .ok (.iinc 5 1, 3) := by decide +kernel
theorem dX3_remove_112 : decode cX3_remove 112 = .ok (.goto (-60), 3) := by decide +kernel
theorem dX3_remove_115 : decode cX3_remove 115 = .ok (.iconst 0, 1) := by decide +kernel
theorem dX3_remove_116 : decode cX3_remove 116 = .ok (.istore 5, 2) := by decide +kernel
theorem dX3_remove_118 : decode cX3_remove 118 = .ok (.aload_n 0, 1) := by decide +kernel
theorem dX3_remove_119 : decode cX3_remove 119 = .ok (.getfield 20, 3) := by decide +kernel
theorem dX3_remove_122 : decode cX3_remove 122 = .ok (.iload 5, 2) := by decide +kernel
theorem dX3_remove_124 : decode cX3_remove 124 = .ok (.iaload, 1) := by decide +kernel
theorem dX3_remove_125 : decode cX3_remove 125 = .ok (.iload 4, 2) := by decide +kernel
theorem dX3_remove_127 : decode cX3_remove 127 = .ok (.if_icmp .eq 9, 3) := by decide +kernel
theorem dX3_remove_130 : decode cX3_remove 130 = .ok (.iinc 5 1, 3) := by decide +kernel
theorem dX3_remove_133 : decode cX3_remove 133 = .ok (.goto (-15), 3) := by decide +kernel
theorem dX3_remove_136 : decode cX3_remove 136 = .ok (.aload_n 0, 1) := by decide +kernel
theorem dX3_remove_137 : decode cX3_remove 137 = .ok (.iload 5, 2) := by decide +kernel
theorem dX3_remove_139 : decode cX3_remove 139 = .ok (.invokevirtual 72, 3) := by decide +kernel
theorem dX3_remove_142 : decode cX3_remove 142 = .ok (.ifCond .gt 11, 3) := by decide +kernel
theorem dX3_remove_145 : decode cX3_remove 145 = .ok (.aload_n 0, 1) := by decide +kernel
theorem dX3_remove_146 : decode cX3_remove 146 = .ok (.getfield 26, 3) := by decide +kernel
theorem dX3_remove_149 : decode cX3_remove 149 = .ok (.iconst 1, 1) := by decide +kernel
theorem dX3_remove_150 : decode cX3_remove 150 = .ok (.if_icmp .ne 5, 3) := by decide +kernel
theorem dX3_remove_153 : decode cX3_remove 153 = .ok (.iconst 1, 1) := by decide +kernel
theorem dX3_remove_154 : decode cX3_remove 154 = .ok (.ireturn, 1) := by decide +kernel
theorem dX3_remove_155 : decode cX3_remove 155 = .ok (.aload_n 0, 1) := by decide +kernel
theorem dX3_remove_156 : decode cX3_remove 156 = .ok (.dup, 1) := by decide +kernel
theorem dX3_remove_157 : decode cX3_remove 157 = .ok (.getfield 26, 3) := by decide +kernel
theorem dX3_remove_160 : decode cX3_remove 160 = .ok (.iconst 1, 1) := by decide +kernel
theorem dX3_remove_161 : decode cX3_remove 161 = .ok (.isub, 1) := by decide +kernel
theorem dX3_remove_162 : decode cX3_remove 162 = .ok (.putfield 26, 3) := by decide +kernel
theorem dX3_remove_165 : decode cX3_remove 165 = .ok (.iload 5, 2) := by decide +kernel
theorem dX3_remove_167 : decode cX3_remove 167 = .ok (.istore 6, 2) := by decide +kernel
theorem dX3_remove_169 : decode cX3_remove 169 = .ok (.iload 6, 2) := by decide +kernel
theorem dX3_remove_171 : decode cX3_remove 171 = .ok (.aload_n 0, 1) := by decide +kernel
theorem dX3_remove_172 : decode cX3_remove 172 = .ok (.getfield 26, 3) := by decide +kernel
theorem dX3_remove_175 : decode cX3_remove 175 = .ok (.if_icmp .ge 41, 3) := by decide +kernel
theorem dX3_remove_178 : decode cX3_remove 178 = .ok (.aload_n 0, 1) := by decide +kernel
theorem dX3_remove_179 : decode cX3_remove 179 = .ok (.getfield 20, 3) := by decide +kernel
theorem dX3_remove_182 : decode cX3_remove 182 = .ok (.iload 6, 2) := by decide +kernel
theorem dX3_remove_184 : decode cX3_remove 184 = .ok (.aload_n 0, 1) := by decide +kernel
theorem dX3_remove_185 : decode cX3_remove 185 = .ok (.getfield 20, 3) := by decide +kernel
theorem dX3_remove_188 : decode cX3_remove 188 = .ok (.iload 6, 2) := by decide +kernel
theorem dX3_remove_190 : decode cX3_remove 190 = .ok (.iconst 1, 1) := by decide +kernel
theorem dX3_remove_191 : decode cX3_remove 191 = .ok (.iadd, 1) := by decide +kernel
theorem dX3_remove_192 : decode cX3_remove 192 = .ok (.iaload, 1) := by decide +kernel
theorem dX3_remove_193 : decode cX3_remove 193 = .ok (.iastore, 1) := by decide +kernel
theorem dX3_remove_194 : decode cX3_remove 194 = .ok (.aload_n 0, 1) := by decide +kernel
theorem dX3_remove_195 : decode cX3_remove 195 = .ok (.getfield 23, 3) := by decide +kernel
theorem dX3_remove_198 : decode cX3_remove 198 = .ok (.iload 6, 2) := by decide +kernel
theorem dX3_remove_200 : decode cX3_remove 200 = .ok (.aload_n 0, 1) := by decide +kernel
theorem dX3_remove_201 : decode cX3_remove 201 = .ok (.getfield 23, 3) := by decide +kernel
theorem dX3_remove_204 : decode cX3_remove 204 = .ok (.iload 6, 2) := by decide +kernel
theorem dX3_remove_206 : decode cX3_remove 206 = .ok (.iconst 1, 1) := by decide +kernel
theorem dX3_remove_207 : decode cX3_remove 207 = .ok (.iadd, 1) := by decide +kernel
theorem dX3_remove_208 : decode cX3_remove 208 = .ok (.iaload, 1) := by decide +kernel
theorem dX3_remove_209 : decode cX3_remove 209 = .ok (.iastore, 1) := by decide +kernel
theorem dX3_remove_210 : decode cX3_remove 210 = .ok (.iinc 6 1, 3) := by decide +kernel
theorem dX3_remove_213 : decode cX3_remove 213 = .ok (.goto (-44), 3) := by decide +kernel
theorem dX3_remove_216 : decode cX3_remove 216 = .ok (.iconst 1, 1) := by decide +kernel
theorem dX3_remove_217 : decode cX3_remove 217 = .ok (.ireturn, 1) := by decide +kernel
theorem dX3_reorganise_0 : decode cX3_reorganise 0 = .ok (.aload_n 0, 1) := by decide +kernel
theorem dX3_reorganise_1 : decode cX3_reorganise 1 = .ok (.iconst 0, 1) := by decide +kernel
theorem dX3_reorganise_2 : decode cX3_reorganise 2 = .ok (.putfield 55, 3) := by decide +kernel
theorem dX3_reorganise_5 : decode cX3_reorganise 5 = .ok (.aload_n 0, 1) := by decide +kernel
theorem dX3_reorganise_6 : decode cX3_reorganise 6 = .ok (.getfield 88, 3) := by decide +kernel
theorem dX3_reorganise_9 : decode cX3_reorganise 9 = .ok (.ifCond .eq 6, 3) := by decide +kernel
theorem dX3_reorganise_12 : decode cX3_reorganise 12 = .ok (.bipush (-5), 2) := by decide +kernel
theorem dX3_reorganise_14 : decode cX3_reorganise 14 = .ok (.ireturn, 1) := by decide +kernel
theorem dX3_reorganise_15 : decode cX3_reorganise 15 = .ok (.aload_n 0, 1) := by decide +kernel
theorem dX3_reorganise_16 : decode cX3_reorganise 16 = .ok (.iconst 0, 1) := by decide +kernel
theorem dX3_reorganise_17 : decode cX3_reorganise 17 = .ok (.putfield 26, 3) := by decide +kernel
theorem dX3_reorganise_20 : decode cX3_reorganise 20 = .ok (.iconst 0, 1) := by decide +kernel
theorem dX3_reorganise_21 : decode cX3_reorganise 21 = .ok (.istore_n 1, 1) := by decide +kernel
theorem dX3_reorganise_22 : decode cX3_reorganise 22 = .ok (.iconst 0, 1) := by decide +kernel
theorem dX3_reorganise_23 : decode cX3_reorganise 23 = .ok (.istore_n 2, 1) := by decide +kernel
theorem dX3_reorganise_24 : decode cX3_reorganise 24 = .ok (.aload_n 0, 1) := by decide +kernel
theorem dX3_reorganise_25 : decode cX3_reorganise 25 = .ok (.getfield 52, 3) := by decide +kernel
theorem dX3_reorganise_28 : decode cX3_reorganise 28 = .ok (.iconst 1, 1) := by decide +kernel
theorem dX3_reorganise_29 : decode cX3_reorganise 29 = .ok (.if_icmp .ge 7, 3) := by decide +kernel
theorem dX3_reorganise_32 : decode cX3_reorganise 32 = .ok (.iconst 1, 1) := by decide +kernel
theorem dX3_reorganise_33 : decode cX3_reorganise 33 = .ok (.goto 7, 3) := by decide +kernel
theorem dX3_reorganise_36 : decode cX3_reorganise 36 = .ok (.aload_n 0, 1) := by decide +kernel
theorem dX3_reorganise_37 : decode cX3_reorganise 37 = .ok (.getfield 52, 3) := by decide +kernel
theorem dX3_reorganise_40 : decode cX3_reorganise 40 = .ok (.istore_n 3, 1) := by decide +kernel
theorem dX3_reorganise_41 : decode cX3_reorganise 41 = .ok (.iconst 0, 1) := by decide +kernel
theorem dX3_reorganise_42 : decode cX3_reorganise 42 = .ok (.istore 4, 2) := by decide +kernel
theorem dX3_reorganise_44 : decode cX3_reorganise 44 = .ok (.iload 4, 2) := by decide +kernel
theorem dX3_reorganise_46 : decode cX3_reorganise 46 = .ok (.aload_n 0, 1) := by decide +kernel
theorem dX3_reorganise_47 : decode cX3_reorganise 47 = .ok (.getfield 58, 3) := by decide +kernel
theorem dX3_reorganise_50 : decode cX3_reorganise 50 = .ok (.if_icmp .lt 10, 3) := by decide +kernel
theorem dX3_reorganise_53 : decode cX3_reorganise 53 = .ok (.aload_n 0, 1) := by decide +kernel
theorem dX3_reorganise_54 : decode cX3_reorganise 54 = .ok (.getfield 26, 3) := by decide +kernel
theorem dX3_reorganise_57 : decode cX3_reorganise 57 = .ok (.ifCond .ne 164, 3) := by decide +kernel
theorem dX3_reorganise_60 : decode cX3_reorganise 60 = .ok (.aload_n 0, 1) := by decide +kernel
theorem dX3_reorganise_61 : decode cX3_reorganise 61 = .ok (.getfield 26, 3) := by decide +kernel
theorem dX3_reorganise_64 : decode cX3_reorganise 64 = .ok (.ifCond .eq 23, 3) := by decide +kernel
theorem dX3_reorganise_67 : decode cX3_reorganise 67 = .ok (.iload_n 2, 1) := by decide +kernel
theorem dX3_reorganise_68 : decode cX3_reorganise 68 = .ok (.ifCond .le 23, 3) := by decide +kernel
theorem dX3_reorganise_71 : decode cX3_reorganise 71 = .ok (.iload_n 1, 1) := by decide +kernel
theorem dX3_reorganise_72 : decode cX3_reorganise 72 = .ok (.aload_n 0, 1) := by decide +kernel
theorem dX3_reorganise_73 : decode cX3_reorganise 73 = .ok (.getfield 13, 3) := by decide +kernel
theorem dX3_reorganise_76 : decode cX3_reorganise 76 = .ok (.iload 4, 2) := by decide +kernel
theorem dX3_reorganise_78 : decode cX3_reorganise 78 = .ok (.iaload, 1) := by decide +kernel
theorem dX3_reorganise_79 : decode cX3_reorganise 79 = .ok (.iadd, 1) := by decide +kernel
theorem dX3_reorganise_80 : decode cX3_reorganise 80 = .ok (.aload_n 0, 1) := by decide +kernel
theorem dX3_reorganise_81 : decode cX3_reorganise 81 = .ok (.getfield 49, 3) := by decide +kernel
theorem dX3_reorganise_84 : decode cX3_reorganise 84 = .ok (.if_icmp .le 7, 3) := by decide +kernel
theorem dX3_reorganise_87 : decode cX3_reorganise 87 = .ok (.iconst 1, 1) := by decide +kernel
theorem dX3_reorganise_88 : decode cX3_reorganise 88 = .ok (.goto 4, 3) := by decide +kernel
theorem dX3_reorganise_91 : decode cX3_reorganise 91 = .ok (.iconst 0, 1) := by decide +kernel
theorem dX3_reorganise_92 : decode cX3_reorganise 92 = .ok (.istore 5, 2) := by decide +kernel
theorem dX3_reorganise_94 : decode cX3_reorganise 94 = .ok (.iload 5, 2) := by decide +kernel
theorem dX3_reorganise_96 : decode cX3_reorganise 96 = .ok (.ifCond .eq 76, 3) := by decide +kernel
theorem dX3_reorganise_99 : decode cX3_reorganise 99 = .ok (.aload_n 0, 1) := by decide +kernel
theorem dX3_reorganise_100 : decode cX3_reorganise 100 = .ok (.dup, 1) := by decide +kernel
theorem dX3_reorganise_101 : decode cX3_reorganise 101 = .ok (.getfield 33, 3) := by decide +kernel
theorem dX3_reorganise_104 : decode cX3_reorganise 104 = .ok (.aload_n 0, 1) := by decide +kernel
theorem dX3_reorganise_105 : decode cX3_reorganise 105 = .ok (.getfield 26, 3) := by decide +kernel
theorem dX3_reorganise_108 : decode cX3_reorganise 108 = .ok (.iload_n 3, 1) := by decide +kernel
theorem dX3_reorganise_109 : decode cX3_reorganise 109 = .ok (.irem, 1) := by decide +kernel
theorem dX3_reorganise_110 : decode cX3_reorganise 110 = .ok (.ifCond .ne 7, 3) := by decide +kernel
theorem dX3_reorganise_113 : decode cX3_reorganise 113 = .ok (.iconst 1, 1) := by decide +kernel
theorem dX3_reorganise_114 : decode cX3_reorganise 114 = .ok (.goto 4, 3) := by decide +kernel
theorem dX3_reorganise_117 : decode cX3_reorganise 117 = .ok (.iconst 0, 1) := by decide +kernel
theorem dX3_reorganise_118 : decode cX3_reorganise 118 = .ok (.iadd, 1) := by decide +kernel
theorem dX3_reorganise_119 : decode cX3_reorganise 119 = .ok (.putfield 33, 3) := by decide +kernel
theorem dX3_reorganise_122 : decode cX3_reorganise 122 = .ok (.aload_n 0, 1) := by decide +kernel
theorem dX3_reorganise_123 : decode cX3_reorganise 123 = .ok (.getfield 20, 3) := by decide +kernel
theorem dX3_reorganise_126 : decode cX3_reorganise 126 = .ok (.aload_n 0, 1) := by decide +kernel
theorem dX3_reorganise_127 : decode cX3_reorganise 127 = .ok (.getfield 26, 3) := by decide +kernel
theorem dX3_reorganise_130 : decode cX3_reorganise 130 = .ok (.aload_n 0, 1) := by decide +kernel
theorem dX3_reorganise_131 : decode cX3_reorganise 131 = .ok (.getfield 30, 3) := by decide +kernel
theorem dX3_reorganise_134 : decode cX3_reorganise 134 = .ok (.iastore, 1) := by decide +kernel
theorem dX3_reorganise_135 : decode cX3_reorganise 135 = .ok (.aload_n 0, 1) := by decide +kernel
theorem dX3_reorganise_136 : decode cX3_reorganise 136 = .ok (.getfield 23, 3) := by decide +kernel
theorem dX3_reorganise_139 : decode cX3_reorganise 139 = .ok (.aload_n 0, 1) := by decide +kernel
theorem dX3_reorganise_140 : decode cX3_reorganise 140 = .ok (.getfield 26, 3) := by decide +kernel
theorem dX3_reorganise_143 : decode cX3_reorganise 143 = .ok (.aload_n 0, 1) := by decide +kernel
theorem dX3_reorganise_144 : decode cX3_reorganise 144 = .ok (.getfield 33, 3) := by decide +kernel
theorem dX3_reorganise_147 : decode cX3_reorganise 147 = .ok (.iastore, 1) := by decide +kernel
theorem dX3_reorganise_148 : decode cX3_reorganise 148 = .ok (.aload_n 0, 1) := by decide +kernel
theorem dX3_reorganise_149 : decode cX3_reorganise 149 = .ok (.dup, 1) := by decide +kernel
theorem dX3_reorganise_150 : decode cX3_reorganise 150 = .ok (.getfield 26, 3) := by decide +kernel
theorem dX3_reorganise_153 : decode cX3_reorganise 153 = .ok (.iconst 1, 1) := by decide +kernel
theorem dX3_reorganise_154 : decode cX3_reorganise 154 = .ok (.iadd, 1) := by decide +kernel
theorem dX3_reorganise_155 : decode cX3_reorganise 155 = .ok (.putfield 26, 3) := by decide +kernel
theorem dX3_reorganise_158 : decode cX3_reorganise 158 = .ok (.aload_n 0, 1) := by decide +kernel
theorem dX3_reorganise_159 : decode cX3_reorganise 159 = .ok (.dup, 1) := by decide +kernel
theorem dX3_reorganise_160 : decode cX3_reorganise 160 = .ok (.getfield 30, 3) := by decide +kernel
theorem dX3_reorganise_163 : decode cX3_reorganise 163 = .ok (.iconst 1, 1) := by decide +kernel
theorem dX3_reorganise_164 : decode cX3_reorganise 164 = .ok (.iadd, 1) := by decide +kernel
theorem dX3_reorganise_165 : decode cX3_reorganise 165 = .ok (.putfield 30, 3) := by decide +kernel
theorem dX3_reorganise_168 : decode cX3_reorganise 168 = .ok (.iconst 0, 1) := by decide +kernel
theorem dX3_reorganise_169 : decode cX3_reorganise 169 = .ok (.istore_n 1, 1) := by decide +kernel
theorem dX3_reorganise_170 : decode cX3_reorganise 170 = .ok (.iconst 0, 1) := by decide +kernel
theorem dX3_reorganise_171 : decode cX3_reorganise 171 = .ok (.istore_n 2, 1) := by decide +kernel
theorem dX3_reorganise_172 : decode cX3_reorganise 172 = .ok (.iload 4, 2) := by decide +kernel
theorem dX3_reorganise_174 : decode cX3_reorganise 174 = .ok (.aload_n 0, 1) := by decide +kernel
theorem dX3_reorganise_175 : decode cX3_reorganise 175 = .ok (.getfield 58, 3) := by decide +kernel
theorem dX3_reorganise_178 : decode cX3_reorganise 178 = .ok (.if_icmp .lt 6, 3) := by decide +kernel
theorem dX3_reorganise_181 : decode cX3_reorganise 181 = .ok (.goto 34, 3) := by decide +kernel
theorem dX3_reorganise_184 : decode cX3_reorganise 184 = .ok (.aload_n 0, 1) := by decide +kernel
theorem dX3_reorganise_185 : decode cX3_reorganise 185 = .ok (.getfield 17, 3) := by decide +kernel
theorem dX3_reorganise_188 : decode cX3_reorganise 188 = .ok (.iload 4, 2) := by decide +kernel
theorem dX3_reorganise_190 : decode cX3_reorganise 190 = .ok (.aload_n 0, 1) := by decide +kernel
theorem dX3_reorganise_191 : decode cX3_reorganise 191 = .ok (.getfield 20, 3) := by decide +kernel
theorem dX3_reorganise_194 : decode cX3_reorganise 194 = .ok (.aload_n 0, 1) := by decide +kernel
theorem dX3_reorganise_195 : decode cX3_reorganise 195 = .ok (.getfield 26, 3) := by decide +kernel
theorem dX3_reorganise_198 : decode cX3_reorganise 198 = .ok (.iconst 1, 1) := by decide +kernel
theorem dX3_reorganise_199 : decode cX3_reorganise 199 = .ok (.isub, 1) := by decide +kernel
theorem dX3_reorganise_200 : decode cX3_reorganise 200 = .ok (.iaload, 1) := by decide +kernel
theorem dX3_reorganise_201 : decode cX3_reorganise 201 = .ok (.iastore, 1) := by decide +kernel
theorem dX3_reorganise_202 : decode cX3_reorganise 202 = .ok (.iload_n 1, 1) := by decide +kernel
theorem dX3_reorganise_203 : decode cX3_reorganise 203 = .ok (.aload_n 0, 1) := by decide +kernel
theorem dX3_reorganise_204 : decode cX3_reorganise 204 = .ok (.getfield 13, 3) := by decide +kernel
theorem dX3_reorganise_207 : decode cX3_reorganise 207 = .ok (.iload 4, 2) := by decide +kernel
theorem dX3_reorganise_209 : decode cX3_reorganise 209 = .ok (.iaload, 1) := by decide +kernel
theorem dX3_reorganise_210 : decode cX3_reorganise 210 = .ok (.iadd, 1) := by decide +kernel
theorem dX3_reorganise_211 : decode cX3_reorganise 211 = .ok (.istore_n 1, 1) := by decide +kernel
theorem dX3_reorganise_212 : decode cX3_reorganise 212 = .ok (.iinc 2 1, 3) := by decide +kernel
theorem dX3_reorganise_215 : decode cX3_reorganise 215 = .ok (.iinc 4 1, 3) := by decide +kernel
theorem dX3_reorganise_218 : decode cX3_reorganise 218 = .ok (.goto (-174), 3) := by decide +kernel
theorem dX3_reorganise_221 : decode cX3_reorganise 221 = .ok (.aload_n 0, 1) := by decide +kernel
theorem dX3_reorganise_222 : decode cX3_reorganise 222 = .ok (.getfield 26, 3) := by decide +kernel
theorem dX3_reorganise_225 : decode cX3_reorganise 225 = .ok (.ireturn, 1) := by decide +kernel
theorem dX3_find_0 : decode cX3_find 0 = .ok (.aload_n 0, 1) := by decide +kernel
theorem dX3_find_1 : decode cX3_find 1 = .ok (.iconst 0, 1) := by decide +kernel
theorem dX3_find_2 : decode cX3_find 2 = .ok (.putfield 55, 3) := by decide +kernel
theorem dX3_find_5 : decode cX3_find 5 = .ok (.aload_n 0, 1) := by decide +kernel
theorem dX3_find_6 : decode cX3_find 6 = .ok (.lload_n 1, 1) := by decide +kernel
theorem dX3_find_7 : decode cX3_find 7 = .ok (.invokevirtual 101, 3) := by decide +kernel
theorem dX3_find_10 : decode cX3_find 10 = .ok (.ifCond .eq 16, 3) := by decide +kernel
theorem dX3_find_13 : decode cX3_find 13 = .ok (.aload_n 0, 1) := by decide +kernel
theorem dX3_find_14 : decode cX3_find 14 = .ok (.getfield 17, 3) := by decide +kernel
theorem dX3_find_17 : decode cX3_find 17 = .ok (.aload_n 0, 1) := by decide +kernel
theorem dX3_find_18 : decode cX3_find 18 = .ok (.lload_n 1, 1) := by decide +kernel
theorem dX3_find_19 : decode cX3_find 19 = .ok (.invokevirtual 61, 3) := by decide +kernel
theorem dX3_find_22 : decode cX3_find 22 = .ok (.iaload, 1) := by decide +kernel
theorem dX3_find_23 : decode cX3_find 23 = .ok (.goto 4, 3) := by decide +kernel
theorem dX3_find_26 : decode cX3_find 26 = .ok (.iconst (-1), 1) := by decide +kernel
theorem dX3_find_27 : decode cX3_find 27 = .ok (.ireturn, 1) := by decide +kernel
theorem dX3_next_0 : decode cX3_next 0 = .ok (.aload_n 0, 1) := by decide +kernel
theorem dX3_next_1 : decode cX3_next 1 = .ok (.iconst 0, 1) := by decide +kernel
theorem dX3_next_2 : decode cX3_next 2 = .ok (.putfield 55, 3) := by decide +kernel
theorem dX3_next_5 : decode cX3_next 5 = .ok (.aload_n 0, 1) := by decide +kernel
theorem dX3_next_6 : decode cX3_next 6 = .ok (.lload_n 1, 1) := by decide +kernel
theorem dX3_next_7 : decode cX3_next 7 = .ok (.invokevirtual 61, 3) := by decide +kernel
theorem dX3_next_10 : decode cX3_next 10 = .ok (.aload_n 0, 1) := by decide +kernel
theorem dX3_next_11 : decode cX3_next 11 = .ok (.lload_n 1, 1) := by decide +kernel
theorem dX3_next_12 : decode cX3_next 12 = .ok (.invokevirtual 101, 3) := by decide +kernel
theorem dX3_next_15 : decode cX3_next 15 = .ok (.ifCond .eq 7, 3) := by decide +kernel
theorem dX3_next_18 : decode cX3_next 18 = .ok (.iconst 1, 1) := by decide +kernel
theorem dX3_next_19 : decode cX3_next 19 = .ok (.goto 4, 3) := by decide +kernel
theorem dX3_next_22 : decode cX3_next 22 = .ok (.iconst 0, 1) := by decide +kernel
theorem dX3_next_23 : decode cX3_next 23 = .ok (.iadd, 1) := by decide +kernel
theorem dX3_next_24 : decode cX3_next 24 = .ok (.istore_n 3, 1) := by decide +kernel
theorem dX3_next_25 : decode cX3_next 25 = .ok (.iload_n 3, 1) := by decide +kernel
theorem dX3_next_26 : decode cX3_next 26 = .ok (.aload_n 0, 1) := by decide +kernel
theorem dX3_next_27 : decode cX3_next 27 = .ok (.getfield 58, 3) := by decide +kernel
theorem dX3_next_30 : decode cX3_next 30 = .ok (.if_icmp .ge 7, 3) := by decide +kernel
theorem dX3_next_33 : decode cX3_next 33 = .ok (.iload_n 3, 1) := by decide +kernel
theorem dX3_next_34 : decode cX3_next 34 = .ok (.goto 4, 3) := by decide +kernel
theorem dX3_next_37 : decode cX3_next 37 = .ok (.iconst (-1), 1) := by decide +kernel
theorem dX3_next_38 : decode cX3_next 38 = .ok (.ireturn, 1) := by decide +kernel
theorem dX3_areaOf_0 : decode cX3_areaOf 0 = .ok (.iconst 0, 1) := by decide +kernel
theorem dX3_areaOf_1 : decode cX3_areaOf 1 = .ok (.istore_n 2, 1) := by decide +kernel
theorem dX3_areaOf_2 : decode cX3_areaOf 2 = .ok (.iconst 1, 1) := by decide +kernel
theorem dX3_areaOf_3 : decode cX3_areaOf 3 = .ok (.istore_n 3, 1) := by decide +kernel
theorem dX3_areaOf_4 : decode cX3_areaOf 4 = .ok (.iload_n 3, 1) := by decide +kernel
theorem dX3_areaOf_5 : decode cX3_areaOf 5 = .ok (.iload_n 1, 1) := by decide +kernel
theorem dX3_areaOf_6 : decode cX3_areaOf 6 = .ok (.if_icmp .gt 34, 3) := by decide +kernel
theorem dX3_areaOf_9 : decode cX3_areaOf 9 = .ok (.iload_n 2, 1) := by decide +kernel
theorem dX3_areaOf_10 : decode cX3_areaOf 10 = .ok (.aload_n 0, 1) := by decide +kernel
theorem dX3_areaOf_11 : decode cX3_areaOf 11 = .ok (.getfield 23, 3) := by decide +kernel
theorem dX3_areaOf_14 : decode cX3_areaOf 14 = .ok (.iload_n 3, 1) := by decide +kernel
theorem dX3_areaOf_15 : decode cX3_areaOf 15 = .ok (.iaload, 1) := by decide +kernel
theorem dX3_areaOf_16 : decode cX3_areaOf 16 = .ok (.aload_n 0, 1) := by decide +kernel
theorem dX3_areaOf_17 : decode cX3_areaOf 17 = .ok (.getfield 23, 3) := by decide +kernel
theorem dX3_areaOf_20 : decode cX3_areaOf 20 = .ok (.iload_n 3, 1) := by decide +kernel
theorem dX3_areaOf_21 : decode cX3_areaOf 21 = .ok (.iconst 1, 1) := by decide +kernel
theorem dX3_areaOf_22 : decode cX3_areaOf 22 = .ok (.isub, 1) := by decide +kernel
theorem dX3_areaOf_23 : decode cX3_areaOf 23 = .ok (.iaload, 1) := by decide +kernel
theorem dX3_areaOf_24 : decode cX3_areaOf 24 = .ok (.if_icmp .eq 7, 3) := by decide +kernel
theorem dX3_areaOf_27 : decode cX3_areaOf 27 = .ok (.iconst 1, 1) := by decide +kernel
theorem dX3_areaOf_28 : decode cX3_areaOf 28 = .ok (.goto 4, 3) := by decide +kernel
theorem dX3_areaOf_31 : decode cX3_areaOf 31 = .ok (.iconst 0, 1) := by decide +kernel
theorem dX3_areaOf_32 : decode cX3_areaOf 32 = .ok (.iadd, 1) := by decide +kernel
theorem dX3_areaOf_33 : decode cX3_areaOf 33 = .ok (.istore_n 2, 1) := by decide +kernel
theorem dX3_areaOf_34 : decode cX3_areaOf 34 = .ok (.iinc 3 1, 3) := by decide +kernel
theorem dX3_areaOf_37 : decode cX3_areaOf 37 = .ok (.goto (-33), 3) := by decide +kernel
theorem dX3_areaOf_40 : decode cX3_areaOf 40 = .ok (.iload_n 2, 1) := by decide +kernel
theorem dX3_areaOf_41 : decode cX3_areaOf 41 = .ok (.ireturn, 1) := by decide +kernel
theorem dX3_interval_0 : decode cX3_interval 0 = .ok (.aload_n 0, 1) := by decide +kernel
theorem dX3_interval_1 : decode cX3_interval 1 = .ok (.iconst 0, 1) := by decide +kernel
theorem dX3_interval_2 : decode cX3_interval 2 = .ok (.putfield 55, 3) := by decide +kernel
theorem dX3_interval_5 : decode cX3_interval 5 = .ok (.iload_n 1, 1) := by decide +kernel
theorem dX3_interval_6 : decode cX3_interval 6 = .ok (.ifCond .lt 11, 3) := by decide +kernel
theorem dX3_interval_9 : decode cX3_interval 9 = .ok (.iload_n 1, 1) := by decide +kernel
theorem dX3_interval_10 : decode cX3_interval 10 = .ok (.aload_n 0, 1) := by decide +kernel
theorem dX3_interval_11 : decode cX3_interval 11 = .ok (.getfield 26, 3) := by decide +kernel
theorem dX3_interval_14 : decode cX3_interval 14 = .ok (.if_icmp .lt 5, 3) := by decide +kernel
theorem dX3_interval_17 : decode cX3_interval 17 = .ok (.iconst (-1), 1) := by decide +kernel
theorem dX3_interval_18 : decode cX3_interval 18 = .ok (.ireturn, 1) := by decide +kernel
theorem dX3_interval_19 : decode cX3_interval 19 = .ok (.iload_n 2, 1) := by decide +kernel
theorem dX3_interval_20 : decode cX3_interval 20 = .ok (.tableswitch 57 0 3 #[32, 39, 45, 51], 32) := by decide +kernel
theorem dX3_interval_52 : decode cX3_interval 52 = .ok (.aload_n 0, 1) := by decide +kernel
theorem dX3_interval_53 : decode cX3_interval 53 = .ok (.getfield 20, 3) := by decide +kernel
theorem dX3_interval_56 : decode cX3_interval 56 = .ok (.iload_n 1, 1) := by decide +kernel
theorem dX3_interval_57 : decode cX3_interval 57 = .ok (.iaload, 1) := by decide +kernel
theorem dX3_interval_58 : decode cX3_interval 58 = .ok (.ireturn, 1) := by decide +kernel
theorem dX3_interval_59 : decode cX3_interval 59 = .ok (.aload_n 0, 1) := by decide +kernel
theorem dX3_interval_60 : decode cX3_interval 60 = .ok (.iload_n 1, 1) := by decide +kernel
theorem dX3_interval_61 : decode cX3_interval 61 = .ok (.invokevirtual 72, 3) := by decide +kernel
theorem dX3_interval_64 : decode cX3_interval 64 = .ok (.ireturn, 1) := by decide +kernel
theorem dX3_interval_65 : decode cX3_interval 65 = .ok (.aload_n 0, 1) := by decide +kernel
theorem dX3_interval_66 : decode cX3_interval 66 = .ok (.iload_n 1, 1) := by decide +kernel
theorem dX3_interval_67 : decode cX3_interval 67 = .ok (.invokevirtual 69, 3) := by decide +kernel
theorem dX3_interval_70 : decode cX3_interval 70 = .ok (.ireturn, 1) := by decide +kernel
theorem dX3_interval_71 : decode cX3_interval 71 = .ok (.aload_n 0, 1) := by decide +kernel
theorem dX3_interval_72 : decode cX3_interval 72 = .ok (.iload_n 1, 1) := by decide +kernel
theorem dX3_interval_73 : decode cX3_interval 73 = .ok (.invokevirtual 124, 3) := by decide +kernel
theorem dX3_interval_76 : decode cX3_interval 76 = .ok (.ireturn, 1) := by decide +kernel
theorem dX3_interval_77 : decode cX3_interval 77 = .ok (.iconst (-1), 1) := by decide +kernel
theorem dX3_interval_78 : decode cX3_interval 78 = .ok (.ireturn, 1) := by decide +kernel
theorem dX3_split_0 : decode cX3_split 0 = .ok (.aload_n 0, 1) := by decide +kernel
theorem dX3_split_1 : decode cX3_split 1 = .ok (.iconst 0, 1) := by decide +kernel
theorem dX3_split_2 : decode cX3_split 2 = .ok (.putfield 55, 3) := by decide +kernel
theorem dX3_split_5 : decode cX3_split 5 = .ok (.iload_n 1, 1) := by decide +kernel
theorem dX3_split_6 : decode cX3_split 6 = .ok (.ifCond .lt 17, 3) := by decide +kernel
theorem dX3_split_9 : decode cX3_split 9 = .ok (.iload_n 1, 1) := by decide +kernel
theorem dX3_split_10 : decode cX3_split 10 = .ok (.iconst 4, 1) := by decide +kernel
theorem dX3_split_11 : decode cX3_split 11 = .ok (.if_icmp .ge 12, 3) := by decide +kernel
theorem dX3_split_14 : decode cX3_split 14 = .ok (.aload_n 0, 1) := by decide +kernel
theorem dX3_split_15 : decode cX3_split 15 = .ok (.getfield 36, 3) := by decide +kernel
theorem dX3_split_18 : decode cX3_split 18 = .ok (.iload_n 1, 1) := by decide +kernel
theorem dX3_split_19 : decode cX3_split 19 = .ok (.iaload, 1) := by decide +kernel
theorem dX3_split_20 : decode cX3_split 20 = .ok (.goto 4, 3) := by decide +kernel
theorem dX3_split_23 : decode cX3_split 23 = .ok (.iconst (-1), 1) := by decide +kernel
theorem dX3_split_24 : decode cX3_split 24 = .ok (.ireturn, 1) := by decide +kernel
theorem dX3_index_0 : decode cX3_index 0 = .ok (.iload_n 2, 1) := by decide +kernel
theorem dX3_index_1 : decode cX3_index 1 = .ok (.ifCond .lt 38, 3) := by decide +kernel
theorem dX3_index_4 : decode cX3_index 4 = .ok (.iload_n 1, 1) := by decide +kernel
theorem dX3_index_5 : decode cX3_index 5 = .ok (.ifCond .ne 11, 3) := by decide +kernel
theorem dX3_index_8 : decode cX3_index 8 = .ok (.iload_n 2, 1) := by decide +kernel
theorem dX3_index_9 : decode cX3_index 9 = .ok (.aload_n 0, 1) := by decide +kernel
theorem dX3_index_10 : decode cX3_index 10 = .ok (.getfield 26, 3) := by decide +kernel
theorem dX3_index_13 : decode cX3_index 13 = .ok (.if_icmp .lt 22, 3) := by decide +kernel
theorem dX3_index_16 : decode cX3_index 16 = .ok (.iload_n 1, 1) := by decide +kernel
theorem dX3_index_17 : decode cX3_index 17 = .ok (.iconst 1, 1) := by decide +kernel
theorem dX3_index_18 : decode cX3_index 18 = .ok (.if_icmp .ne 21, 3) := by decide +kernel
theorem dX3_index_21 : decode cX3_index 21 = .ok (.iload_n 2, 1) := by decide +kernel
theorem dX3_index_22 : decode cX3_index 22 = .ok (.aload_n 0, 1) := by decide +kernel
theorem dX3_index_23 : decode cX3_index 23 = .ok (.aload_n 0, 1) := by decide +kernel
theorem dX3_index_24 : decode cX3_index 24 = .ok (.getfield 26, 3) := by decide +kernel
theorem dX3_index_27 : decode cX3_index 27 = .ok (.iconst 1, 1) := by decide +kernel
theorem dX3_index_28 : decode cX3_index 28 = .ok (.isub, 1) := by decide +kernel
theorem dX3_index_29 : decode cX3_index 29 = .ok (.invokevirtual 124, 3) := by decide +kernel
theorem dX3_index_32 : decode cX3_index 32 = .ok (.if_icmp .gt 7, 3) := by decide +kernel
theorem dX3_index_35 : decode cX3_index 35 = .ok (.iconst 1, 1) := by decide +kernel
theorem dX3_index_36 : decode cX3_index 36 = .ok (.goto 4, 3) := by decide +kernel
theorem dX3_index_39 : decode cX3_index 39 = .ok (.iconst 0, 1) := by decide +kernel
theorem dX3_index_40 : decode cX3_index 40 = .ok (.istore_n 3, 1) := by decide +kernel
theorem dX3_index_41 : decode cX3_index 41 = .ok (.aload_n 0, 1) := by decide +kernel
theorem dX3_index_42 : decode cX3_index 42 = .ok (.iload_n 3, 1) := by decide +kernel
theorem dX3_index_43 : decode cX3_index 43 = .ok (.ifCond .eq 7, 3) := by decide +kernel
theorem dX3_index_46 : decode cX3_index 46 = .ok (.iconst 0, 1) := by decide +kernel
theorem dX3_index_47 : decode cX3_index 47 = .ok (.goto 4, 3) := by decide +kernel
theorem dX3_index_50 : decode cX3_index 50 = .ok (.iconst 1, 1) := by decide +kernel
theorem dX3_index_51 : decode cX3_index 51 = .ok (.putfield 55, 3) := by decide +kernel
theorem dX3_index_54 : decode cX3_index 54 = .ok (.iload_n 3, 1) := by decide +kernel
theorem dX3_index_55 : decode cX3_index 55 = .ok (.ifCond .ne 5, 3) := by decide +kernel
theorem dX3_index_58 : decode cX3_index 58 = .ok (.iconst 0, 1) := by decide +kernel
theorem dX3_index_59 : decode cX3_index 59 = .ok (.ireturn, 1) := by decide +kernel
theorem dX3_index_60 : decode cX3_index 60 = .ok (.iload_n 2, 1) := by decide +kernel
theorem dX3_index_61 : decode cX3_index 61 = .ok (.istore 4, 2) := by decide +kernel
theorem dX3_index_63 : decode cX3_index 63 = .ok (.iload_n 1, 1) := by decide +kernel
theorem dX3_index_64 : decode cX3_index 64 = .ok (.iconst 1, 1) := by decide +kernel
theorem dX3_index_65 : decode cX3_index 65 = .ok (.if_icmp .ne 22, 3) := by decide +kernel
theorem dX3_index_68 : decode cX3_index 68 = .ok (.iconst 0, 1) := by decide +kernel
theorem dX3_index_69 : decode cX3_index 69 = .ok (.istore 4, 2) := by decide +kernel
theorem dX3_index_71 : decode cX3_index 71 = .ok (.aload_n 0, 1) := by decide +kernel
theorem dX3_index_72 : decode cX3_index 72 = .ok (.iload 4, 2) := by decide +kernel
theorem dX3_index_74 : decode cX3_index 74 = .ok (.invokevirtual 124, 3) := by decide +kernel
theorem dX3_index_77 : decode cX3_index 77 = .ok (.iload_n 2, 1) := by decide +kernel
theorem dX3_index_78 : decode cX3_index 78 = .ok (.if_icmp .ge 9, 3) := by decide +kernel
theorem dX3_index_81 : decode cX3_index 81 = .ok (.iinc 4 1, 3) := by decide +kernel
theorem dX3_index_84 : decode cX3_index 84 = .ok (.goto (-13), 3) := by decide +kernel
theorem dX3_index_87 : decode cX3_index 87 = .ok (.aload_n 0, 1) := by decide +kernel
theorem dX3_index_88 : decode cX3_index 88 = .ok (.iload 4, 2) := by decide +kernel
theorem dX3_index_90 : decode cX3_index 90 = .ok (.invokevirtual 65, 3) := by decide +kernel
theorem dX3_index_93 : decode cX3_index 93 = .ok (.istore 5, 2) := by decide +kernel
theorem dX3_index_95 : decode cX3_index 95 = .ok (.iload 5, 2) := by decide +kernel
theorem dX3_index_97 : decode cX3_index 97 = .ok (.iconst (-1), 1) := by decide +kernel
theorem dX3_index_98 : decode cX3_index 98 = .ok (.if_icmp .ne 7, 3) := by decide +kernel
theorem dX3_index_101 : decode cX3_index 101 = .ok (.iconst 0, 1) := by decide +kernel
theorem dX3_index_102 : decode cX3_index 102 = .ok (.goto 11, 3) := by decide +kernel
theorem dX3_index_105 : decode cX3_index 105 = .ok (.aload_n 0, 1) := by decide +kernel
theorem dX3_index_106 : decode cX3_index 106 = .ok (.getfield 7, 3) := by decide +kernel
theorem dX3_index_109 : decode cX3_index 109 = .ok (.iload 5, 2) := by decide +kernel
theorem dX3_index_111 : decode cX3_index 111 = .ok (.laload, 1) := by decide +kernel
theorem dX3_index_112 : decode cX3_index 112 = .ok (.l2i, 1) := by decide +kernel
theorem dX3_index_113 : decode cX3_index 113 = .ok (.ireturn, 1) := by decide +kernel
theorem dX3_verify_0 : decode cX3_verify 0 = .ok (.aload_n 0, 1) := by decide +kernel
theorem dX3_verify_1 : decode cX3_verify 1 = .ok (.iconst 0, 1) := by decide +kernel
theorem dX3_verify_2 : decode cX3_verify 2 = .ok (.putfield 55, 3) := by decide +kernel
theorem dX3_verify_5 : decode cX3_verify 5 = .ok (.iconst 0, 1) := by decide +kernel
theorem dX3_verify_6 : decode cX3_verify 6 = .ok (.ireturn, 1) := by decide +kernel
theorem dX3_order_0 : decode cX3_order 0 = .ok (.aload_n 0, 1) := by decide +kernel
theorem dX3_order_1 : decode cX3_order 1 = .ok (.iconst 0, 1) := by decide +kernel
theorem dX3_order_2 : decode cX3_order 2 = .ok (.putfield 55, 3) := by decide +kernel
theorem dX3_order_5 : decode cX3_order 5 = .ok (.iload_n 1, 1) := by decide +kernel
theorem dX3_order_6 : decode cX3_order 6 = .ok (.ifCond .lt 20, 3) := by decide +kernel
theorem dX3_order_9 : decode cX3_order 9 = .ok (.iload_n 1, 1) := by decide +kernel
theorem dX3_order_10 : decode cX3_order 10 = .ok (.aload_n 0, 1) := by decide +kernel
theorem dX3_order_11 : decode cX3_order 11 = .ok (.getfield 58, 3) := by decide +kernel
theorem dX3_order_14 : decode cX3_order 14 = .ok (.if_icmp .ge 12, 3) := by decide +kernel
theorem dX3_order_17 : decode cX3_order 17 = .ok (.aload_n 0, 1) := by decide +kernel
theorem dX3_order_18 : decode cX3_order 18 = .ok (.getfield 7, 3) := by decide +kernel
theorem dX3_order_21 : decode cX3_order 21 = .ok (.iload_n 1, 1) := by decide +kernel
theorem dX3_order_22 : decode cX3_order 22 = .ok (.laload, 1) := by decide +kernel
theorem dX3_order_23 : decode cX3_order 23 = .ok (.goto 4, 3) := by decide +kernel
theorem dX3_order_26 : decode cX3_order 26 = .ok (.lconst 0, 1) := by decide +kernel
theorem dX3_order_27 : decode cX3_order 27 = .ok (.lreturn, 1) := by decide +kernel
theorem dX3_count_0 : decode cX3_count 0 = .ok (.aload_n 0, 1) := by decide +kernel
theorem dX3_count_1 : decode cX3_count 1 = .ok (.iconst 0, 1) := by decide +kernel
theorem dX3_count_2 : decode cX3_count 2 = .ok (.putfield 55, 3) := by decide +kernel
theorem dX3_count_5 : decode cX3_count 5 = .ok (.iconst 0, 1) := by decide +kernel
theorem dX3_count_6 : decode cX3_count 6 = .ok (.istore_n 2, 1) := by decide +kernel
theorem dX3_count_7 : decode cX3_count 7 = .ok (.iconst 0, 1) := by decide +kernel
theorem dX3_count_8 : decode cX3_count 8 = .ok (.istore_n 3, 1) := by decide +kernel
theorem dX3_count_9 : decode cX3_count 9 = .ok (.iload_n 3, 1) := by decide +kernel
theorem dX3_count_10 : decode cX3_count 10 = .ok (.aload_n 0, 1) := by decide +kernel
theorem dX3_count_11 : decode cX3_count 11 = .ok (.getfield 58, 3) := by decide +kernel
theorem dX3_count_14 : decode cX3_count 14 = .ok (.if_icmp .ge 18, 3) := by decide +kernel
theorem dX3_count_17 : decode cX3_count 17 = .ok (.iload_n 2, 1) := by decide +kernel
theorem dX3_count_18 : decode cX3_count 18 = .ok (.aload_n 0, 1) := by decide +kernel
theorem dX3_count_19 : decode cX3_count 19 = .ok (.getfield 13, 3) := by decide +kernel
theorem dX3_count_22 : decode cX3_count 22 = .ok (.iload_n 3, 1) := by decide +kernel
theorem dX3_count_23 : decode cX3_count 23 = .ok (.iaload, 1) := by decide +kernel
theorem dX3_count_24 : decode cX3_count 24 = .ok (.iadd, 1) := by decide +kernel
theorem dX3_count_25 : decode cX3_count 25 = .ok (.istore_n 2, 1) := by decide +kernel
theorem dX3_count_26 : decode cX3_count 26 = .ok (.iinc 3 1, 3) := by decide +kernel
theorem dX3_count_29 : decode cX3_count 29 = .ok (.goto (-20), 3) := by decide +kernel
theorem dX3_count_32 : decode cX3_count 32 = .ok (.iload_n 1, 1) := by decide +kernel
theorem dX3_count_33 : decode cX3_count 33 = .ok (.tableswitch 82 0 5 #[39, 44, 49, 62, 75, 80], 39) := by decide +kernel
theorem dX3_count_72 : decode cX3_count 72 = .ok (.aload_n 0, 1) := by decide +kernel
theorem dX3_count_73 : decode cX3_count 73 = .ok (.getfield 58, 3) := by decide +kernel
theorem dX3_count_76 : decode cX3_count 76 = .ok (.ireturn, 1) := by decide +kernel
theorem dX3_count_77 : decode cX3_count 77 = .ok (.aload_n 0, 1) := by decide +kernel
theorem dX3_count_78 : decode cX3_count 78 = .ok (.getfield 26, 3) := by decide +kernel
theorem dX3_count_81 : decode cX3_count 81 = .ok (.ireturn, 1) := by decide +kernel
theorem dX3_count_82 : decode cX3_count 82 = .ok (.aload_n 0, 1) := by decide +kernel
theorem dX3_count_83 : decode cX3_count 83 = .ok (.aload_n 0, 1) := by decide +kernel
theorem dX3_count_84 : decode cX3_count 84 = .ok (.getfield 26, 3) := by decide +kernel
theorem dX3_count_87 : decode cX3_count 87 = .ok (.iconst 1, 1) := by decide +kernel
theorem dX3_count_88 : decode cX3_count 88 = .ok (.isub, 1) := by decide +kernel
theorem dX3_count_89 : decode cX3_count 89 = .ok (.invokevirtual 124, 3) := by decide +kernel
theorem dX3_count_92 : decode cX3_count 92 = .ok (.iconst 1, 1) := by decide +kernel
theorem dX3_count_93 : decode cX3_count 93 = .ok (.iadd, 1) := by decide +kernel
theorem dX3_count_94 : decode cX3_count 94 = .ok (.ireturn, 1) := by decide +kernel
theorem dX3_count_95 : decode cX3_count 95 = .ok (.aload_n 0, 1) := by decide +kernel
theorem dX3_count_96 : decode cX3_count 96 = .ok (.getfield 88, 3) := by decide +kernel
theorem dX3_count_99 : decode cX3_count 99 = .ok (.ifCond .eq 7, 3) := by decide +kernel
theorem dX3_count_102 : decode cX3_count 102 = .ok (.iconst 1, 1) := by decide +kernel
theorem dX3_count_103 : decode cX3_count 103 = .ok (.goto 4, 3) := by decide +kernel
theorem dX3_count_106 : decode cX3_count 106 = .ok (.iconst 0, 1) := by decide +kernel
theorem dX3_count_107 : decode cX3_count 107 = .ok (.ireturn, 1) := by decide +kernel
theorem dX3_count_108 : decode cX3_count 108 = .ok (.aload_n 0, 1) := by decide +kernel
theorem dX3_count_109 : decode cX3_count 109 = .ok (.getfield 30, 3) := by decide +kernel
theorem dX3_count_112 : decode cX3_count 112 = .ok (.ireturn, 1) := by decide +kernel
theorem dX3_count_113 : decode cX3_count 113 = .ok (.iload_n 2, 1) := by decide +kernel
theorem dX3_count_114 : decode cX3_count 114 = .ok (.ireturn, 1) := by decide +kernel
theorem dX3_count_115 : decode cX3_count 115 = .ok (.iconst (-1), 1) := by decide +kernel
theorem dX3_count_116 : decode cX3_count 116 = .ok (.ireturn, 1) := by decide +kernel
