theorem dX10_first_92 : decode cX10_first 92 = .ok (.iload_n 2, 1) := by decide +kernel
theorem dX10_first_93 : decode cX10_first 93 = .ok (.ireturn, 1) := by decide +kernel
theorem dX10_nextHeard_0 : decode cX10_nextHeard 0 = .ok (.aload_n 0, 1) := by decide +kernel
theorem dX10_nextHeard_1 : decode cX10_nextHeard 1 = .ok (.iload_n 1, 1) := by decide +kernel
theorem dX10_nextHeard_2 : decode cX10_nextHeard 2 = .ok (.iload_n 2, 1) := by decide +kernel
theorem dX10_nextHeard_3 : decode cX10_nextHeard 3 = .ok (.invokevirtual 159, 3) := by decide +kernel
theorem dX10_nextHeard_6 : decode cX10_nextHeard 6 = .ok (.ifCond .ne 5, 3) := by decide +kernel
theorem dX10_nextHeard_9 : decode cX10_nextHeard 9 = .ok (.iconst (-1), 1) := by decide +kernel
theorem dX10_nextHeard_10 : decode cX10_nextHeard 10 = .ok (.ireturn, 1) := by decide +kernel
theorem dX10_nextHeard_11 : decode cX10_nextHeard 11 = .ok (.aload_n 0, 1) := by decide +kernel
theorem dX10_nextHeard_12 : decode cX10_nextHeard 12 = .ok (.invokevirtual 238, 3) := by decide +kernel
theorem dX10_nextHeard_15 : decode cX10_nextHeard 15 = .ok (.iconst 1, 1) := by decide +kernel
theorem dX10_nextHeard_16 : decode cX10_nextHeard 16 = .ok (.istore_n 3, 1) := by decide +kernel
theorem dX10_nextHeard_17 : decode cX10_nextHeard 17 = .ok (.iload_n 3, 1) := by decide +kernel
theorem dX10_nextHeard_18 : decode cX10_nextHeard 18 = .ok (.bipush 99, 2) := by decide +kernel
theorem dX10_nextHeard_20 : decode cX10_nextHeard 20 = .ok (.if_icmp .gt 44, 3) := by decide +kernel
theorem dX10_nextHeard_23 : decode cX10_nextHeard 23 = .ok (.aload_n 0, 1) := by decide +kernel
theorem dX10_nextHeard_24 : decode cX10_nextHeard 24 = .ok (.getfield 35, 3) := by decide +kernel
theorem dX10_nextHeard_27 : decode cX10_nextHeard 27 = .ok (.aload_n 0, 1) := by decide +kernel
theorem dX10_nextHeard_28 : decode cX10_nextHeard 28 = .ok (.getfield 55, 3) := by decide +kernel
theorem dX10_nextHeard_31 : decode cX10_nextHeard 31 = .ok (.iconst 1, 1) := by decide +kernel
theorem dX10_nextHeard_32 : decode cX10_nextHeard 32 = .ok (.invokevirtual 227, 3) := by decide +kernel
theorem dX10_nextHeard_35 : decode cX10_nextHeard 35 = .ok (.aload_n 0, 1) := by decide +kernel
theorem dX10_nextHeard_36 : decode cX10_nextHeard 36 = .ok (.getfield 55, 3) := by decide +kernel
theorem dX10_nextHeard_39 : decode cX10_nextHeard 39 = .ok (.iload_n 1, 1) := by decide +kernel
theorem dX10_nextHeard_40 : decode cX10_nextHeard 40 = .ok (.iload_n 2, 1) := by decide +kernel
theorem dX10_nextHeard_41 : decode cX10_nextHeard 41 = .ok (.invokevirtual 163, 3) := by decide +kernel
theorem dX10_nextHeard_44 : decode cX10_nextHeard 44 = .ok (.aload_n 0, 1) := by decide +kernel
theorem dX10_nextHeard_45 : decode cX10_nextHeard 45 = .ok (.getfield 51, 3) := by decide +kernel
theorem dX10_nextHeard_48 : decode cX10_nextHeard 48 = .ok (.iload_n 1, 1) := by decide +kernel
theorem dX10_nextHeard_49 : decode cX10_nextHeard 49 = .ok (.iload_n 2, 1) := by decide +kernel
theorem dX10_nextHeard_50 : decode cX10_nextHeard 50 = .ok (.invokevirtual 163, 3) := by decide +kernel
theorem dX10_nextHeard_53 : decode cX10_nextHeard 53 = .ok (.if_icmp .le 5, 3) := by decide +kernel
theorem dX10_nextHeard_56 : decode cX10_nextHeard 56 = .ok (.iload_n 3, 1) := by decide +kernel
theorem dX10_nextHeard_57 : decode cX10_nextHeard 57 = .ok (.ireturn, 1) := by decide +kernel
theorem dX10_nextHeard_58 : decode cX10_nextHeard 58 = .ok (.iinc 3 1, 3) := by decide +kernel
theorem dX10_nextHeard_61 : decode cX10_nextHeard 61 = .ok (.goto (-44), 3) := by decide +kernel
theorem dX10_nextHeard_64 : decode cX10_nextHeard 64 = .ok (.bipush (-2), 2) := by decide +kernel
theorem dX10_nextHeard_66 : decode cX10_nextHeard 66 = .ok (.ireturn, 1) := by decide +kernel
theorem dX10_chance_0 : decode cX10_chance 0 = .ok (.iload_n 1, 1) := by decide +kernel
theorem dX10_chance_1 : decode cX10_chance 1 = .ok (.ifCond .lt 23, 3) := by decide +kernel
theorem dX10_chance_4 : decode cX10_chance 4 = .ok (.iload_n 2, 1) := by decide +kernel
theorem dX10_chance_5 : decode cX10_chance 5 = .ok (.iconst 1, 1) := by decide +kernel
theorem dX10_chance_6 : decode cX10_chance 6 = .ok (.bipush 99, 2) := by decide +kernel
theorem dX10_chance_8 : decode cX10_chance 8 = .ok (.invokestatic 167, 3) := by decide +kernel
theorem dX10_chance_11 : decode cX10_chance 11 = .ok (.ifCond .eq 13, 3) := by decide +kernel
theorem dX10_chance_14 : decode cX10_chance 14 = .ok (.aload_n 0, 1) := by decide +kernel
theorem dX10_chance_15 : decode cX10_chance 15 = .ok (.iload_n 3, 1) := by decide +kernel
theorem dX10_chance_16 : decode cX10_chance 16 = .ok (.iload 4, 2) := by decide +kernel
theorem dX10_chance_18 : decode cX10_chance 18 = .ok (.invokevirtual 159, 3) := by decide +kernel
theorem dX10_chance_21 : decode cX10_chance 21 = .ok (.ifCond .ne 5, 3) := by decide +kernel
theorem dX10_chance_24 : decode cX10_chance 24 = .ok (.iconst (-1), 1) := by decide +kernel
theorem dX10_chance_25 : decode cX10_chance 25 = .ok (.ireturn, 1) := by decide +kernel
theorem dX10_chance_26 : decode cX10_chance 26 = .ok (.aload_n 0, 1) := by decide +kernel
theorem dX10_chance_27 : decode cX10_chance 27 = .ok (.getfield 35, 3) := by decide +kernel
theorem dX10_chance_30 : decode cX10_chance 30 = .ok (.invokevirtual 224, 3) := by decide +kernel
theorem dX10_chance_33 : decode cX10_chance 33 = .ok (.iload_n 1, 1) := by decide +kernel
theorem dX10_chance_34 : decode cX10_chance 34 = .ok (.istore 5, 2) := by decide +kernel
theorem dX10_chance_36 : decode cX10_chance 36 = .ok (.iconst 0, 1) := by decide +kernel
theorem dX10_chance_37 : decode cX10_chance 37 = .ok (.istore 6, 2) := by decide +kernel
theorem dX10_chance_39 : decode cX10_chance 39 = .ok (.iconst 0, 1) := by decide +kernel
theorem dX10_chance_40 : decode cX10_chance 40 = .ok (.istore 7, 2) := by decide +kernel
theorem dX10_chance_42 : decode cX10_chance 42 = .ok (.iload 7, 2) := by decide +kernel
theorem dX10_chance_44 : decode cX10_chance 44 = .ok (.bipush 10, 2) := by decide +kernel
theorem dX10_chance_46 : decode cX10_chance 46 = .ok (.if_icmp .ge 66, 3) := by decide +kernel
theorem dX10_chance_49 : decode cX10_chance 49 = .ok (.aload_n 0, 1) := by decide +kernel
theorem dX10_chance_50 : decode cX10_chance 50 = .ok (.getfield 55, 3) := by decide +kernel
theorem dX10_chance_53 : decode cX10_chance 53 = .ok (.aload_n 0, 1) := by decide +kernel
theorem dX10_chance_54 : decode cX10_chance 54 = .ok (.getfield 51, 3) := by decide +kernel
theorem dX10_chance_57 : decode cX10_chance 57 = .ok (.invokevirtual 235, 3) := by decide +kernel
theorem dX10_chance_60 : decode cX10_chance 60 = .ok (.aload_n 0, 1) := by decide +kernel
theorem dX10_chance_61 : decode cX10_chance 61 = .ok (.getfield 55, 3) := by decide +kernel
theorem dX10_chance_64 : decode cX10_chance 64 = .ok (.iload 5, 2) := by decide +kernel
theorem dX10_chance_66 : decode cX10_chance 66 = .ok (.putfield 244, 3) := by decide +kernel
theorem dX10_chance_69 : decode cX10_chance 69 = .ok (.aload_n 0, 1) := by decide +kernel
theorem dX10_chance_70 : decode cX10_chance 70 = .ok (.getfield 35, 3) := by decide +kernel
theorem dX10_chance_73 : decode cX10_chance 73 = .ok (.aload_n 0, 1) := by decide +kernel
theorem dX10_chance_74 : decode cX10_chance 74 = .ok (.getfield 55, 3) := by decide +kernel
theorem dX10_chance_77 : decode cX10_chance 77 = .ok (.iload_n 2, 1) := by decide +kernel
theorem dX10_chance_78 : decode cX10_chance 78 = .ok (.invokevirtual 227, 3) := by decide +kernel
theorem dX10_chance_81 : decode cX10_chance 81 = .ok (.aload_n 0, 1) := by decide +kernel
theorem dX10_chance_82 : decode cX10_chance 82 = .ok (.getfield 55, 3) := by decide +kernel
theorem dX10_chance_85 : decode cX10_chance 85 = .ok (.getfield 244, 3) := by decide +kernel
theorem dX10_chance_88 : decode cX10_chance 88 = .ok (.istore 5, 2) := by decide +kernel
theorem dX10_chance_90 : decode cX10_chance 90 = .ok (.aload_n 0, 1) := by decide +kernel
theorem dX10_chance_91 : decode cX10_chance 91 = .ok (.getfield 55, 3) := by decide +kernel
theorem dX10_chance_94 : decode cX10_chance 94 = .ok (.iload_n 3, 1) := by decide +kernel
theorem dX10_chance_95 : decode cX10_chance 95 = .ok (.iload 4, 2) := by decide +kernel
theorem dX10_chance_97 : decode cX10_chance 97 = .ok (.invokevirtual 247, 3) := by decide +kernel
theorem dX10_chance_100 : decode cX10_chance 100 = .ok (.ifCond .eq 6, 3) := by decide +kernel
theorem dX10_chance_103 : decode cX10_chance 103 = .ok (.iinc 6 1, 3) := by decide +kernel
theorem dX10_chance_106 : decode cX10_chance 106 = .ok (.iinc 7 1, 3) := by decide +kernel
theorem dX10_chance_109 : decode cX10_chance 109 = .ok (.goto (-67), 3) := by decide +kernel
theorem dX10_chance_112 : decode cX10_chance 112 = .ok (.iload 6, 2) := by decide +kernel
theorem dX10_chance_114 : decode cX10_chance 114 = .ok (.ireturn, 1) := by decide +kernel
theorem dX10_tried_0 : decode cX10_tried 0 = .ok (.iload_n 1, 1) := by decide +kernel
theorem dX10_tried_1 : decode cX10_tried 1 = .ok (.iconst 0, 1) := by decide +kernel
theorem dX10_tried_2 : decode cX10_tried 2 = .ok (.iconst 4, 1) := by decide +kernel
theorem dX10_tried_3 : decode cX10_tried 3 = .ok (.invokestatic 167, 3) := by decide +kernel
theorem dX10_tried_6 : decode cX10_tried 6 = .ok (.ifCond .eq 13, 3) := by decide +kernel
theorem dX10_tried_9 : decode cX10_tried 9 = .ok (.iload_n 3, 1) := by decide +kernel
theorem dX10_tried_10 : decode cX10_tried 10 = .ok (.iconst 0, 1) := by decide +kernel
theorem dX10_tried_11 : decode cX10_tried 11 = .ok (.bipush 99, 2) := by decide +kernel
theorem dX10_tried_13 : decode cX10_tried 13 = .ok (.invokestatic 167, 3) := by decide +kernel
theorem dX10_tried_16 : decode cX10_tried 16 = .ok (.ifCond .ne 5, 3) := by decide +kernel
theorem dX10_tried_19 : decode cX10_tried 19 = .ok (.iconst (-1), 1) := by decide +kernel
theorem dX10_tried_20 : decode cX10_tried 20 = .ok (.ireturn, 1) := by decide +kernel
theorem dX10_tried_21 : decode cX10_tried 21 = .ok (.iload_n 1, 1) := by decide +kernel
theorem dX10_tried_22 : decode cX10_tried 22 = .ok (.iconst 2, 1) := by decide +kernel
theorem dX10_tried_23 : decode cX10_tried 23 = .ok (.if_icmp .ne 14, 3) := by decide +kernel
theorem dX10_tried_26 : decode cX10_tried 26 = .ok (.aload_n 0, 1) := by decide +kernel
theorem dX10_tried_27 : decode cX10_tried 27 = .ok (.iload_n 2, 1) := by decide +kernel
theorem dX10_tried_28 : decode cX10_tried 28 = .ok (.invokevirtual 121, 3) := by decide +kernel
theorem dX10_tried_31 : decode cX10_tried 31 = .ok (.ifCond .ne 12, 3) := by decide +kernel
theorem dX10_tried_34 : decode cX10_tried 34 = .ok (.goto 7, 3) := by decide +kernel
theorem dX10_tried_37 : decode cX10_tried 37 = .ok (.iload_n 2, 1) := by decide +kernel
theorem dX10_tried_38 : decode cX10_tried 38 = .ok (.ifCond .eq 5, 3) := by decide +kernel
theorem dX10_tried_41 : decode cX10_tried 41 = .ok (.iconst (-1), 1) := by decide +kernel
theorem dX10_tried_42 : decode cX10_tried 42 = .ok (.ireturn, 1) := by decide +kernel
theorem dX10_tried_43 : decode cX10_tried 43 = .ok (.aload_n 0, 1) := by decide +kernel
theorem dX10_tried_44 : decode cX10_tried 44 = .ok (.invokevirtual 238, 3) := by decide +kernel
theorem dX10_tried_47 : decode cX10_tried 47 = .ok (.iload_n 1, 1) := by decide +kernel
theorem dX10_tried_48 : decode cX10_tried 48 = .ok (.tableswitch 82 0 3 #[32, 43, 54, 65], 32) := by decide +kernel
theorem dX10_tried_80 : decode cX10_tried 80 = .ok (.aload_n 0, 1) := by decide +kernel
theorem dX10_tried_81 : decode cX10_tried 81 = .ok (.getfield 35, 3) := by decide +kernel
theorem dX10_tried_84 : decode cX10_tried 84 = .ok (.iconst 0, 1) := by decide +kernel
theorem dX10_tried_85 : decode cX10_tried 85 = .ok (.putfield 250, 3) := by decide +kernel
theorem dX10_tried_88 : decode cX10_tried 88 = .ok (.goto 50, 3) := by decide +kernel
theorem dX10_tried_91 : decode cX10_tried 91 = .ok (.aload_n 0, 1) := by decide +kernel
theorem dX10_tried_92 : decode cX10_tried 92 = .ok (.getfield 35, 3) := by decide +kernel
theorem dX10_tried_95 : decode cX10_tried 95 = .ok (.iconst 0, 1) := by decide +kernel
theorem dX10_tried_96 : decode cX10_tried 96 = .ok (.putfield 253, 3) := by decide +kernel
theorem dX10_tried_99 : decode cX10_tried 99 = .ok (.goto 39, 3) := by decide +kernel
theorem dX10_tried_102 : decode cX10_tried 102 = .ok (.aload_n 0, 1) := by decide +kernel
theorem dX10_tried_103 : decode cX10_tried 103 = .ok (.getfield 35, 3) := by decide +kernel
theorem dX10_tried_106 : decode cX10_tried 106 = .ok (.iload_n 2, 1) := by decide +kernel
theorem dX10_tried_107 : decode cX10_tried 107 = .ok (.putfield 256, 3) := by decide +kernel
theorem dX10_tried_110 : decode cX10_tried 110 = .ok (.goto 28, 3) := by decide +kernel
theorem dX10_tried_113 : decode cX10_tried 113 = .ok (.aload_n 0, 1) := by decide +kernel
theorem dX10_tried_114 : decode cX10_tried 114 = .ok (.getfield 55, 3) := by decide +kernel
theorem dX10_tried_117 : decode cX10_tried 117 = .ok (.aload_n 0, 1) := by decide +kernel
theorem dX10_tried_118 : decode cX10_tried 118 = .ok (.getfield 16, 3) := by decide +kernel
theorem dX10_tried_121 : decode cX10_tried 121 = .ok (.getfield 118, 3) := by decide +kernel
theorem dX10_tried_124 : decode cX10_tried 124 = .ok (.invokevirtual 259, 3) := by decide +kernel
theorem dX10_tried_127 : decode cX10_tried 127 = .ok (.goto 11, 3) := by decide +kernel
theorem dX10_tried_130 : decode cX10_tried 130 = .ok (.aload_n 0, 1) := by decide +kernel
theorem dX10_tried_131 : decode cX10_tried 131 = .ok (.getfield 35, 3) := by decide +kernel
theorem dX10_tried_134 : decode cX10_tried 134 = .ok (.iconst 0, 1) := by decide +kernel
theorem dX10_tried_135 : decode cX10_tried 135 = .ok (.putfield 262, 3) := by decide +kernel
theorem dX10_tried_138 : decode cX10_tried 138 = .ok (.aload_n 0, 1) := by decide +kernel
theorem dX10_tried_139 : decode cX10_tried 139 = .ok (.getfield 35, 3) := by decide +kernel
theorem dX10_tried_142 : decode cX10_tried 142 = .ok (.aload_n 0, 1) := by decide +kernel
theorem dX10_tried_143 : decode cX10_tried 143 = .ok (.getfield 55, 3) := by decide +kernel
theorem dX10_tried_146 : decode cX10_tried 146 = .ok (.iload_n 3, 1) := by decide +kernel
theorem dX10_tried_147 : decode cX10_tried 147 = .ok (.invokevirtual 227, 3) := by decide +kernel
theorem dX10_tried_150 : decode cX10_tried 150 = .ok (.aload_n 0, 1) := by decide +kernel
theorem dX10_tried_151 : decode cX10_tried 151 = .ok (.getfield 55, 3) := by decide +kernel
theorem dX10_tried_154 : decode cX10_tried 154 = .ok (.invokevirtual 198, 3) := by decide +kernel
theorem dX10_tried_157 : decode cX10_tried 157 = .ok (.aload_n 0, 1) := by decide +kernel
theorem dX10_tried_158 : decode cX10_tried 158 = .ok (.getfield 51, 3) := by decide +kernel
theorem dX10_tried_161 : decode cX10_tried 161 = .ok (.invokevirtual 198, 3) := by decide +kernel
theorem dX10_tried_164 : decode cX10_tried 164 = .ok (.isub, 1) := by decide +kernel
theorem dX10_tried_165 : decode cX10_tried 165 = .ok (.ireturn, 1) := by decide +kernel
theorem dX10_code_0 : decode cX10_code 0 = .ok (.aload_n 0, 1) := by decide +kernel
theorem dX10_code_1 : decode cX10_code 1 = .ok (.iload_n 1, 1) := by decide +kernel
theorem dX10_code_2 : decode cX10_code 2 = .ok (.iload_n 2, 1) := by decide +kernel
theorem dX10_code_3 : decode cX10_code 3 = .ok (.invokevirtual 159, 3) := by decide +kernel
theorem dX10_code_6 : decode cX10_code 6 = .ok (.ifCond .ne 5, 3) := by decide +kernel
theorem dX10_code_9 : decode cX10_code 9 = .ok (.iconst (-1), 1) := by decide +kernel
theorem dX10_code_10 : decode cX10_code 10 = .ok (.ireturn, 1) := by decide +kernel
theorem dX10_code_11 : decode cX10_code 11 = .ok (.aload_n 0, 1) := by decide +kernel
theorem dX10_code_12 : decode cX10_code 12 = .ok (.getfield 55, 3) := by decide +kernel
theorem dX10_code_15 : decode cX10_code 15 = .ok (.aload_n 0, 1) := by decide +kernel
theorem dX10_code_16 : decode cX10_code 16 = .ok (.getfield 51, 3) := by decide +kernel
theorem dX10_code_19 : decode cX10_code 19 = .ok (.invokevirtual 235, 3) := by decide +kernel
theorem dX10_code_22 : decode cX10_code 22 = .ok (.aload_n 0, 1) := by decide +kernel
theorem dX10_code_23 : decode cX10_code 23 = .ok (.getfield 51, 3) := by decide +kernel
theorem dX10_code_26 : decode cX10_code 26 = .ok (.iload_n 1, 1) := by decide +kernel
theorem dX10_code_27 : decode cX10_code 27 = .ok (.invokevirtual 148, 3) := by decide +kernel
theorem dX10_code_30 : decode cX10_code 30 = .ok (.istore_n 3, 1) := by decide +kernel
theorem dX10_code_31 : decode cX10_code 31 = .ok (.iload_n 3, 1) := by decide +kernel
theorem dX10_code_32 : decode cX10_code 32 = .ok (.iconst 1, 1) := by decide +kernel
theorem dX10_code_33 : decode cX10_code 33 = .ok (.iload_n 2, 1) := by decide +kernel
theorem dX10_code_34 : decode cX10_code 34 = .ok (.ishl, 1) := by decide +kernel
theorem dX10_code_35 : decode cX10_code 35 = .ok (.ior, 1) := by decide +kernel
theorem dX10_code_36 : decode cX10_code 36 = .ok (.istore 4, 2) := by decide +kernel
theorem dX10_code_38 : decode cX10_code 38 = .ok (.iconst 0, 1) := by decide +kernel
theorem dX10_code_39 : decode cX10_code 39 = .ok (.istore 5, 2) := by decide +kernel
theorem dX10_code_41 : decode cX10_code 41 = .ok (.iload 5, 2) := by decide +kernel
theorem dX10_code_43 : decode cX10_code 43 = .ok (.bipush 20, 2) := by decide +kernel
theorem dX10_code_45 : decode cX10_code 45 = .ok (.if_icmp .gt 39, 3) := by decide +kernel
theorem dX10_code_48 : decode cX10_code 48 = .ok (.aload_n 0, 1) := by decide +kernel
theorem dX10_code_49 : decode cX10_code 49 = .ok (.getfield 55, 3) := by decide +kernel
theorem dX10_code_52 : decode cX10_code 52 = .ok (.iload_n 1, 1) := by decide +kernel
theorem dX10_code_53 : decode cX10_code 53 = .ok (.invokevirtual 148, 3) := by decide +kernel
theorem dX10_code_56 : decode cX10_code 56 = .ok (.iload 4, 2) := by decide +kernel
theorem dX10_code_58 : decode cX10_code 58 = .ok (.if_icmp .ne 6, 3) := by decide +kernel
theorem dX10_code_61 : decode cX10_code 61 = .ok (.iload 5, 2) := by decide +kernel
theorem dX10_code_63 : decode cX10_code 63 = .ok (.ireturn, 1) := by decide +kernel
theorem dX10_code_64 : decode cX10_code 64 = .ok (.aload_n 0, 1) := by decide +kernel
theorem dX10_code_65 : decode cX10_code 65 = .ok (.getfield 35, 3) := by decide +kernel
theorem dX10_code_68 : decode cX10_code 68 = .ok (.aload_n 0, 1) := by decide +kernel
theorem dX10_code_69 : decode cX10_code 69 = .ok (.getfield 55, 3) := by decide +kernel
theorem dX10_code_72 : decode cX10_code 72 = .ok (.iload_n 1, 1) := by decide +kernel
theorem dX10_code_73 : decode cX10_code 73 = .ok (.iconst 1, 1) := by decide +kernel
theorem dX10_code_74 : decode cX10_code 74 = .ok (.invokevirtual 219, 3) := by decide +kernel
theorem dX10_code_77 : decode cX10_code 77 = .ok (.pop, 1) := by decide +kernel
theorem dX10_code_78 : decode cX10_code 78 = .ok (.iinc 5 1, 3) := by decide +kernel
theorem dX10_code_81 : decode cX10_code 81 = .ok (.goto (-40), 3) := by decide +kernel
theorem dX10_code_84 : decode cX10_code 84 = .ok (.bipush (-2), 2) := by decide +kernel
theorem dX10_code_86 : decode cX10_code 86 = .ok (.ireturn, 1) := by decide +kernel
theorem dX10_secret_0 : decode cX10_secret 0 = .ok (.aload_n 0, 1) := by decide +kernel
theorem dX10_secret_1 : decode cX10_secret 1 = .ok (.iload_n 1, 1) := by decide +kernel
theorem dX10_secret_2 : decode cX10_secret 2 = .ok (.iload_n 2, 1) := by decide +kernel
theorem dX10_secret_3 : decode cX10_secret 3 = .ok (.invokevirtual 159, 3) := by decide +kernel
theorem dX10_secret_6 : decode cX10_secret 6 = .ok (.ifCond .eq 12, 3) := by decide +kernel
theorem dX10_secret_9 : decode cX10_secret 9 = .ok (.iload_n 3, 1) := by decide +kernel
theorem dX10_secret_10 : decode cX10_secret 10 = .ok (.iconst 0, 1) := by decide +kernel
theorem dX10_secret_11 : decode cX10_secret 11 = .ok (.iconst 2, 1) := by decide +kernel
theorem dX10_secret_12 : decode cX10_secret 12 = .ok (.invokestatic 167, 3) := by decide +kernel
theorem dX10_secret_15 : decode cX10_secret 15 = .ok (.ifCond .ne 5, 3) := by decide +kernel
theorem dX10_secret_18 : decode cX10_secret 18 = .ok (.iconst (-1), 1) := by decide +kernel
theorem dX10_secret_19 : decode cX10_secret 19 = .ok (.ireturn, 1) := by decide +kernel
theorem dX10_secret_20 : decode cX10_secret 20 = .ok (.aload_n 0, 1) := by decide +kernel
theorem dX10_secret_21 : decode cX10_secret 21 = .ok (.getfield 55, 3) := by decide +kernel
theorem dX10_secret_24 : decode cX10_secret 24 = .ok (.aload_n 0, 1) := by decide +kernel
theorem dX10_secret_25 : decode cX10_secret 25 = .ok (.getfield 51, 3) := by decide +kernel
theorem dX10_secret_28 : decode cX10_secret 28 = .ok (.invokevirtual 235, 3) := by decide +kernel
theorem dX10_secret_31 : decode cX10_secret 31 = .ok (.aload_n 0, 1) := by decide +kernel
theorem dX10_secret_32 : decode cX10_secret 32 = .ok (.getfield 44, 3) := by decide +kernel
theorem dX10_secret_35 : decode cX10_secret 35 = .ok (.aload_n 0, 1) := by decide +kernel
theorem dX10_secret_36 : decode cX10_secret 36 = .ok (.getfield 55, 3) := by decide +kernel
theorem dX10_secret_39 : decode cX10_secret 39 = .ok (.iload_n 1, 1) := by decide +kernel
theorem dX10_secret_40 : decode cX10_secret 40 = .ok (.iload_n 2, 1) := by decide +kernel
theorem dX10_secret_41 : decode cX10_secret 41 = .ok (.invokevirtual 264, 3) := by decide +kernel
theorem dX10_secret_44 : decode cX10_secret 44 = .ok (.ifCond .ne 6, 3) := by decide +kernel
theorem dX10_secret_47 : decode cX10_secret 47 = .ok (.bipush (-2), 2) := by decide +kernel
theorem dX10_secret_49 : decode cX10_secret 49 = .ok (.ireturn, 1) := by decide +kernel
theorem dX10_secret_50 : decode cX10_secret 50 = .ok (.iload_n 3, 1) := by decide +kernel
theorem dX10_secret_51 : decode cX10_secret 51 = .ok (.lookupswitch 45 #[(0, 25), (1, 35)], 25) := by decide +kernel
theorem dX10_secret_76 : decode cX10_secret 76 = .ok (.aload_n 0, 1) := by decide +kernel
theorem dX10_secret_77 : decode cX10_secret 77 = .ok (.getfield 44, 3) := by decide +kernel
theorem dX10_secret_80 : decode cX10_secret 80 = .ok (.getfield 268, 3) := by decide +kernel
theorem dX10_secret_83 : decode cX10_secret 83 = .ok (.iconst 0, 1) := by decide +kernel
theorem dX10_secret_84 : decode cX10_secret 84 = .ok (.iaload, 1) := by decide +kernel
theorem dX10_secret_85 : decode cX10_secret 85 = .ok (.ireturn, 1) := by decide +kernel
theorem dX10_secret_86 : decode cX10_secret 86 = .ok (.aload_n 0, 1) := by decide +kernel
theorem dX10_secret_87 : decode cX10_secret 87 = .ok (.getfield 44, 3) := by decide +kernel
theorem dX10_secret_90 : decode cX10_secret 90 = .ok (.getfield 268, 3) := by decide +kernel
theorem dX10_secret_93 : decode cX10_secret 93 = .ok (.iconst 1, 1) := by decide +kernel
theorem dX10_secret_94 : decode cX10_secret 94 = .ok (.iaload, 1) := by decide +kernel
theorem dX10_secret_95 : decode cX10_secret 95 = .ok (.ireturn, 1) := by decide +kernel
theorem dX10_secret_96 : decode cX10_secret 96 = .ok (.aload_n 0, 1) := by decide +kernel
theorem dX10_secret_97 : decode cX10_secret 97 = .ok (.getfield 44, 3) := by decide +kernel
theorem dX10_secret_100 : decode cX10_secret 100 = .ok (.getfield 271, 3) := by decide +kernel
theorem dX10_secret_103 : decode cX10_secret 103 = .ok (.ireturn, 1) := by decide +kernel
theorem dX10_spread_0 : decode cX10_spread 0 = .ok (.iload_n 1, 1) := by decide +kernel
theorem dX10_spread_1 : decode cX10_spread 1 = .ok (.iconst 0, 1) := by decide +kernel
theorem dX10_spread_2 : decode cX10_spread 2 = .ok (.iconst 4, 1) := by decide +kernel
theorem dX10_spread_3 : decode cX10_spread 3 = .ok (.invokestatic 167, 3) := by decide +kernel
theorem dX10_spread_6 : decode cX10_spread 6 = .ok (.ifCond .ne 5, 3) := by decide +kernel
theorem dX10_spread_9 : decode cX10_spread 9 = .ok (.iconst (-1), 1) := by decide +kernel
theorem dX10_spread_10 : decode cX10_spread 10 = .ok (.ireturn, 1) := by decide +kernel
theorem dX10_spread_11 : decode cX10_spread 11 = .ok (.iload_n 1, 1) := by decide +kernel
theorem dX10_spread_12 : decode cX10_spread 12 = .ok (.iconst 4, 1) := by decide +kernel
theorem dX10_spread_13 : decode cX10_spread 13 = .ok (.if_icmp .ge 17, 3) := by decide +kernel
theorem dX10_spread_16 : decode cX10_spread 16 = .ok (.iload_n 1, 1) := by decide +kernel
theorem dX10_spread_17 : decode cX10_spread 17 = .ok (.aload_n 0, 1) := by decide +kernel
theorem dX10_spread_18 : decode cX10_spread 18 = .ok (.getfield 16, 3) := by decide +kernel
theorem dX10_spread_21 : decode cX10_spread 21 = .ok (.getfield 118, 3) := by decide +kernel
theorem dX10_spread_24 : decode cX10_spread 24 = .ok (.if_icmp .lt 6, 3) := by decide +kernel
theorem dX10_spread_27 : decode cX10_spread 27 = .ok (.bipush (-2), 2) := by decide +kernel
theorem dX10_spread_29 : decode cX10_spread 29 = .ok (.ireturn, 1) := by decide +kernel
theorem dX10_spread_30 : decode cX10_spread 30 = .ok (.aload_n 0, 1) := by decide +kernel
theorem dX10_spread_31 : decode cX10_spread 31 = .ok (.getfield 55, 3) := by decide +kernel
theorem dX10_spread_34 : decode cX10_spread 34 = .ok (.aload_n 0, 1) := by decide +kernel
theorem dX10_spread_35 : decode cX10_spread 35 = .ok (.getfield 51, 3) := by decide +kernel
theorem dX10_spread_38 : decode cX10_spread 38 = .ok (.invokevirtual 235, 3) := by decide +kernel
theorem dX10_spread_41 : decode cX10_spread 41 = .ok (.aload_n 0, 1) := by decide +kernel
theorem dX10_spread_42 : decode cX10_spread 42 = .ok (.getfield 44, 3) := by decide +kernel
theorem dX10_spread_45 : decode cX10_spread 45 = .ok (.aload_n 0, 1) := by decide +kernel
theorem dX10_spread_46 : decode cX10_spread 46 = .ok (.getfield 55, 3) := by decide +kernel
theorem dX10_spread_49 : decode cX10_spread 49 = .ok (.invokevirtual 274, 3) := by decide +kernel
theorem dX10_spread_52 : decode cX10_spread 52 = .ok (.ifCond .ne 6, 3) := by decide +kernel
theorem dX10_spread_55 : decode cX10_spread 55 = .ok (.bipush (-2), 2) := by decide +kernel
theorem dX10_spread_57 : decode cX10_spread 57 = .ok (.ireturn, 1) := by decide +kernel
theorem dX10_spread_58 : decode cX10_spread 58 = .ok (.iload_n 1, 1) := by decide +kernel
theorem dX10_spread_59 : decode cX10_spread 59 = .ok (.iconst 4, 1) := by decide +kernel
theorem dX10_spread_60 : decode cX10_spread 60 = .ok (.if_icmp .ne 13, 3) := by decide +kernel
theorem dX10_spread_63 : decode cX10_spread 63 = .ok (.aload_n 0, 1) := by decide +kernel
theorem dX10_spread_64 : decode cX10_spread 64 = .ok (.getfield 44, 3) := by decide +kernel
theorem dX10_spread_67 : decode cX10_spread 67 = .ok (.getfield 271, 3) := by decide +kernel
theorem dX10_spread_70 : decode cX10_spread 70 = .ok (.goto 12, 3) := by decide +kernel
theorem dX10_spread_73 : decode cX10_spread 73 = .ok (.aload_n 0, 1) := by decide +kernel
theorem dX10_spread_74 : decode cX10_spread 74 = .ok (.getfield 44, 3) := by decide +kernel
theorem dX10_spread_77 : decode cX10_spread 77 = .ok (.getfield 268, 3) := by decide +kernel
theorem dX10_spread_80 : decode cX10_spread 80 = .ok (.iload_n 1, 1) := by decide +kernel
theorem dX10_spread_81 : decode cX10_spread 81 = .ok (.iaload, 1) := by decide +kernel
theorem dX10_spread_82 : decode cX10_spread 82 = .ok (.ireturn, 1) := by decide +kernel
theorem dX10_hide_0 : decode cX10_hide 0 = .ok (.aload_n 0, 1) := by decide +kernel
theorem dX10_hide_1 : decode cX10_hide 1 = .ok (.iload_n 1, 1) := by decide +kernel
theorem dX10_hide_2 : decode cX10_hide 2 = .ok (.invokevirtual 121, 3) := by decide +kernel
theorem dX10_hide_5 : decode cX10_hide 5 = .ok (.ifCond .ne 5, 3) := by decide +kernel
theorem dX10_hide_8 : decode cX10_hide 8 = .ok (.iconst (-1), 1) := by decide +kernel
theorem dX10_hide_9 : decode cX10_hide 9 = .ok (.ireturn, 1) := by decide +kernel
theorem dX10_hide_10 : decode cX10_hide 10 = .ok (.aload_n 0, 1) := by decide +kernel
theorem dX10_hide_11 : decode cX10_hide 11 = .ok (.getfield 55, 3) := by decide +kernel
theorem dX10_hide_14 : decode cX10_hide 14 = .ok (.aload_n 0, 1) := by decide +kernel
theorem dX10_hide_15 : decode cX10_hide 15 = .ok (.getfield 51, 3) := by decide +kernel
theorem dX10_hide_18 : decode cX10_hide 18 = .ok (.invokevirtual 235, 3) := by decide +kernel
theorem dX10_hide_21 : decode cX10_hide 21 = .ok (.aload_n 0, 1) := by decide +kernel
theorem dX10_hide_22 : decode cX10_hide 22 = .ok (.getfield 44, 3) := by decide +kernel
theorem dX10_hide_25 : decode cX10_hide 25 = .ok (.aload_n 0, 1) := by decide +kernel
theorem dX10_hide_26 : decode cX10_hide 26 = .ok (.getfield 55, 3) := by decide +kernel
theorem dX10_hide_29 : decode cX10_hide 29 = .ok (.iload_n 1, 1) := by decide +kernel
theorem dX10_hide_30 : decode cX10_hide 30 = .ok (.invokevirtual 277, 3) := by decide +kernel
theorem dX10_hide_33 : decode cX10_hide 33 = .ok (.ireturn, 1) := by decide +kernel
theorem dX10_lure_0 : decode cX10_lure 0 = .ok (.aload_n 0, 1) := by decide +kernel
theorem dX10_lure_1 : decode cX10_lure 1 = .ok (.iload_n 1, 1) := by decide +kernel
theorem dX10_lure_2 : decode cX10_lure 2 = .ok (.iload_n 2, 1) := by decide +kernel
theorem dX10_lure_3 : decode cX10_lure 3 = .ok (.invokevirtual 159, 3) := by decide +kernel
theorem dX10_lure_6 : decode cX10_lure 6 = .ok (.ifCond .ne 5, 3) := by decide +kernel
theorem dX10_lure_9 : decode cX10_lure 9 = .ok (.iconst (-1), 1) := by decide +kernel
theorem dX10_lure_10 : decode cX10_lure 10 = .ok (.ireturn, 1) := by decide +kernel
theorem dX10_lure_11 : decode cX10_lure 11 = .ok (.aload_n 0, 1) := by decide +kernel
theorem dX10_lure_12 : decode cX10_lure 12 = .ok (.getfield 55, 3) := by decide +kernel
theorem dX10_lure_15 : decode cX10_lure 15 = .ok (.aload_n 0, 1) := by decide +kernel
theorem dX10_lure_16 : decode cX10_lure 16 = .ok (.getfield 51, 3) := by decide +kernel
theorem dX10_lure_19 : decode cX10_lure 19 = .ok (.invokevirtual 235, 3) := by decide +kernel
theorem dX10_lure_22 : decode cX10_lure 22 = .ok (.aload_n 0, 1) := by decide +kernel
theorem dX10_lure_23 : decode cX10_lure 23 = .ok (.getfield 44, 3) := by decide +kernel
theorem dX10_lure_26 : decode cX10_lure 26 = .ok (.aload_n 0, 1) := by decide +kernel
theorem dX10_lure_27 : decode cX10_lure 27 = .ok (.getfield 55, 3) := by decide +kernel
theorem dX10_lure_30 : decode cX10_lure 30 = .ok (.iload_n 1, 1) := by decide +kernel
theorem dX10_lure_31 : decode cX10_lure 31 = .ok (.iload_n 2, 1) := by decide +kernel
theorem dX10_lure_32 : decode cX10_lure 32 = .ok (.invokevirtual 280, 3) := by decide +kernel
theorem dX10_lure_35 : decode cX10_lure 35 = .ok (.ireturn, 1) := by decide +kernel
theorem dX10_busiest_0 : decode cX10_busiest 0 = .ok (.iload_n 1, 1) := by decide +kernel
theorem dX10_busiest_1 : decode cX10_busiest 1 = .ok (.iconst 0, 1) := by decide +kernel
theorem dX10_busiest_2 : decode cX10_busiest 2 = .ok (.bipush 9, 2) := by decide +kernel
theorem dX10_busiest_4 : decode cX10_busiest 4 = .ok (.invokestatic 167, 3) := by decide +kernel
theorem dX10_busiest_7 : decode cX10_busiest 7 = .ok (.ifCond .eq 12, 3) := by decide +kernel
theorem dX10_busiest_10 : decode cX10_busiest 10 = .ok (.iload_n 2, 1) := by decide +kernel
theorem dX10_busiest_11 : decode cX10_busiest 11 = .ok (.iconst 0, 1) := by decide +kernel
theorem dX10_busiest_12 : decode cX10_busiest 12 = .ok (.iconst 1, 1) := by decide +kernel
theorem dX10_busiest_13 : decode cX10_busiest 13 = .ok (.invokestatic 167, 3) := by decide +kernel
theorem dX10_busiest_16 : decode cX10_busiest 16 = .ok (.ifCond .ne 5, 3) := by decide +kernel
theorem dX10_busiest_19 : decode cX10_busiest 19 = .ok (.iconst (-1), 1) := by decide +kernel
theorem dX10_busiest_20 : decode cX10_busiest 20 = .ok (.ireturn, 1) := by decide +kernel
theorem dX10_busiest_21 : decode cX10_busiest 21 = .ok (.aload_n 0, 1) := by decide +kernel
theorem dX10_busiest_22 : decode cX10_busiest 22 = .ok (.getfield 16, 3) := by decide +kernel
theorem dX10_busiest_25 : decode cX10_busiest 25 = .ok (.getfield 283, 3) := by decide +kernel
theorem dX10_busiest_28 : decode cX10_busiest 28 = .ok (.iconst 0, 1) := by decide +kernel
theorem dX10_busiest_29 : decode cX10_busiest 29 = .ok (.iaload, 1) := by decide +kernel
theorem dX10_busiest_30 : decode cX10_busiest 30 = .ok (.iload_n 1, 1) := by decide +kernel
theorem dX10_busiest_31 : decode cX10_busiest 31 = .ok (.iadd, 1) := by decide +kernel
theorem dX10_busiest_32 : decode cX10_busiest 32 = .ok (.istore_n 3, 1) := by decide +kernel
theorem dX10_busiest_33 : decode cX10_busiest 33 = .ok (.iconst (-1), 1) := by decide +kernel
theorem dX10_busiest_34 : decode cX10_busiest 34 = .ok (.istore 4, 2) := by decide +kernel
theorem dX10_busiest_36 : decode cX10_busiest 36 = .ok (.iconst 0, 1) := by decide +kernel
theorem dX10_busiest_37 : decode cX10_busiest 37 = .ok (.istore 5, 2) := by decide +kernel
theorem dX10_busiest_39 : decode cX10_busiest 39 = .ok (.iconst 0, 1) := by decide +kernel
theorem dX10_busiest_40 : decode cX10_busiest 40 = .ok (.istore 6, 2) := by decide +kernel
theorem dX10_busiest_42 : decode cX10_busiest 42 = .ok (.iload 6, 2) := by decide +kernel
theorem dX10_busiest_44 : decode cX10_busiest 44 = .ok (.bipush 99, 2) := by decide +kernel
theorem dX10_busiest_46 : decode cX10_busiest 46 = .ok (.if_icmp .gt 43, 3) := by decide +kernel
theorem dX10_busiest_49 : decode cX10_busiest 49 = .ok (.aload_n 0, 1) := by decide +kernel
theorem dX10_busiest_50 : decode cX10_busiest 50 = .ok (.getfield 51, 3) := by decide +kernel
theorem dX10_busiest_53 : decode cX10_busiest 53 = .ok (.iload 6, 2) := by decide +kernel
theorem dX10_busiest_55 : decode cX10_busiest 55 = .ok (.iload_n 3, 1) := by decide +kernel
theorem dX10_busiest_56 : decode cX10_busiest 56 = .ok (.aload_n 0, 1) := by decide +kernel
theorem dX10_busiest_57 : decode cX10_busiest 57 = .ok (.getfield 16, 3) := by decide +kernel
theorem dX10_busiest_60 : decode cX10_busiest 60 = .ok (.getfield 118, 3) := by decide +kernel
theorem dX10_busiest_63 : decode cX10_busiest 63 = .ok (.invokevirtual 286, 3) := by decide +kernel
theorem dX10_busiest_66 : decode cX10_busiest 66 = .ok (.istore 7, 2) := by decide +kernel
theorem dX10_busiest_68 : decode cX10_busiest 68 = .ok (.iload 7, 2) := by decide +kernel
theorem dX10_busiest_70 : decode cX10_busiest 70 = .ok (.iload 4, 2) := by decide +kernel
theorem dX10_busiest_72 : decode cX10_busiest 72 = .ok (.if_icmp .le 11, 3) := by decide +kernel
theorem dX10_busiest_75 : decode cX10_busiest 75 = .ok (.iload 7, 2) := by decide +kernel
theorem dX10_busiest_77 : decode cX10_busiest 77 = .ok (.istore 4, 2) := by decide +kernel
theorem dX10_busiest_79 : decode cX10_busiest 79 = .ok (.iload 6, 2) := by decide +kernel
theorem dX10_busiest_81 : decode cX10_busiest 81 = .ok (.istore 5, 2) := by decide +kernel
theorem dX10_busiest_83 : decode cX10_busiest 83 = .ok (.iinc 6 1, 3) := by decide +kernel
theorem dX10_busiest_86 : decode cX10_busiest 86 = .ok (.goto (-44), 3) := by decide +kernel
theorem dX10_busiest_89 : decode cX10_busiest 89 = .ok (.iload_n 2, 1) := by decide +kernel
theorem dX10_busiest_90 : decode cX10_busiest 90 = .ok (.ifCond .ne 8, 3) := by decide +kernel
theorem dX10_busiest_93 : decode cX10_busiest 93 = .ok (.iload 5, 2) := by decide +kernel
theorem dX10_busiest_95 : decode cX10_busiest 95 = .ok (.goto 5, 3) := by decide +kernel
theorem dX10_busiest_98 : decode cX10_busiest 98 = .ok (.iload 4, 2) := by decide +kernel
theorem dX10_busiest_100 : decode cX10_busiest 100 = .ok (.ireturn, 1) := by decide +kernel
theorem dX10_passed_0 : decode cX10_passed 0 = .ok (.aload_n 0, 1) := by decide +kernel
theorem dX10_passed_1 : decode cX10_passed 1 = .ok (.iload_n 1, 1) := by decide +kernel
theorem dX10_passed_2 : decode cX10_passed 2 = .ok (.invokevirtual 121, 3) := by decide +kernel
theorem dX10_passed_5 : decode cX10_passed 5 = .ok (.ifCond .eq 13, 3) := by decide +kernel
theorem dX10_passed_8 : decode cX10_passed 8 = .ok (.iload_n 2, 1) := by decide +kernel
theorem dX10_passed_9 : decode cX10_passed 9 = .ok (.iconst 0, 1) := by decide +kernel
theorem dX10_passed_10 : decode cX10_passed 10 = .ok (.bipush 6, 2) := by decide +kernel
theorem dX10_passed_12 : decode cX10_passed 12 = .ok (.invokestatic 167, 3) := by decide +kernel
theorem dX10_passed_15 : decode cX10_passed 15 = .ok (.ifCond .ne 5, 3) := by decide +kernel
theorem dX10_passed_18 : decode cX10_passed 18 = .ok (.iconst (-1), 1) := by decide +kernel
theorem dX10_passed_19 : decode cX10_passed 19 = .ok (.ireturn, 1) := by decide +kernel
theorem dX10_passed_20 : decode cX10_passed 20 = .ok (.iconst 0, 1) := by decide +kernel
theorem dX10_passed_21 : decode cX10_passed 21 = .ok (.istore_n 3, 1) := by decide +kernel
theorem dX10_passed_22 : decode cX10_passed 22 = .ok (.iload_n 3, 1) := by decide +kernel
theorem dX10_passed_23 : decode cX10_passed 23 = .ok (.aload_n 0, 1) := by decide +kernel
theorem dX10_passed_24 : decode cX10_passed 24 = .ok (.getfield 16, 3) := by decide +kernel
theorem dX10_passed_27 : decode cX10_passed 27 = .ok (.getfield 118, 3) := by decide +kernel
theorem dX10_passed_30 : decode cX10_passed 30 = .ok (.if_icmp .ge 27, 3) := by decide +kernel
theorem dX10_passed_33 : decode cX10_passed 33 = .ok (.aload_n 0, 1) := by decide +kernel
theorem dX10_passed_34 : decode cX10_passed 34 = .ok (.getfield 75, 3) := by decide +kernel
theorem dX10_passed_37 : decode cX10_passed 37 = .ok (.iload_n 3, 1) := by decide +kernel
theorem dX10_passed_38 : decode cX10_passed 38 = .ok (.aload_n 0, 1) := by decide +kernel
theorem dX10_passed_39 : decode cX10_passed 39 = .ok (.getfield 35, 3) := by decide +kernel
theorem dX10_passed_42 : decode cX10_passed 42 = .ok (.aload_n 0, 1) := by decide +kernel
theorem dX10_passed_43 : decode cX10_passed 43 = .ok (.getfield 51, 3) := by decide +kernel
theorem dX10_passed_46 : decode cX10_passed 46 = .ok (.iload_n 3, 1) := by decide +kernel
theorem dX10_passed_47 : decode cX10_passed 47 = .ok (.invokevirtual 142, 3) := by decide +kernel
theorem dX10_passed_50 : decode cX10_passed 50 = .ok (.iastore, 1) := by decide +kernel
theorem dX10_passed_51 : decode cX10_passed 51 = .ok (.iinc 3 1, 3) := by decide +kernel
theorem dX10_passed_54 : decode cX10_passed 54 = .ok (.goto (-32), 3) := by decide +kernel
theorem dX10_passed_57 : decode cX10_passed 57 = .ok (.aload_n 0, 1) := by decide +kernel
theorem dX10_passed_58 : decode cX10_passed 58 = .ok (.iload_n 1, 1) := by decide +kernel
theorem dX10_passed_59 : decode cX10_passed 59 = .ok (.iload_n 2, 1) := by decide +kernel
theorem dX10_passed_60 : decode cX10_passed 60 = .ok (.invokevirtual 290, 3) := by decide +kernel
theorem dX10_passed_63 : decode cX10_passed 63 = .ok (.ireturn, 1) := by decide +kernel
theorem dX10_gossip_0 : decode cX10_gossip 0 = .ok (.aload_n 0, 1) := by decide +kernel
theorem dX10_gossip_1 : decode cX10_gossip 1 = .ok (.iload_n 1, 1) := by decide +kernel
theorem dX10_gossip_2 : decode cX10_gossip 2 = .ok (.invokevirtual 121, 3) := by decide +kernel
theorem dX10_gossip_5 : decode cX10_gossip 5 = .ok (.ifCond .eq 13, 3) := by decide +kernel
theorem dX10_gossip_8 : decode cX10_gossip 8 = .ok (.iload_n 2, 1) := by decide +kernel
theorem dX10_gossip_9 : decode cX10_gossip 9 = .ok (.iconst 0, 1) := by decide +kernel
theorem dX10_gossip_10 : decode cX10_gossip 10 = .ok (.bipush 6, 2) := by decide +kernel
theorem dX10_gossip_12 : decode cX10_gossip 12 = .ok (.invokestatic 167, 3) := by decide +kernel
theorem dX10_gossip_15 : decode cX10_gossip 15 = .ok (.ifCond .ne 5, 3) := by decide +kernel
theorem dX10_gossip_18 : decode cX10_gossip 18 = .ok (.iconst (-1), 1) := by decide +kernel
theorem dX10_gossip_19 : decode cX10_gossip 19 = .ok (.ireturn, 1) := by decide +kernel
theorem dX10_gossip_20 : decode cX10_gossip 20 = .ok (.iconst 0, 1) := by decide +kernel
theorem dX10_gossip_21 : decode cX10_gossip 21 = .ok (.istore_n 3, 1) := by decide +kernel
theorem dX10_gossip_22 : decode cX10_gossip 22 = .ok (.iload_n 3, 1) := by decide +kernel
theorem dX10_gossip_23 : decode cX10_gossip 23 = .ok (.aload_n 0, 1) := by decide +kernel
theorem dX10_gossip_24 : decode cX10_gossip 24 = .ok (.getfield 16, 3) := by decide +kernel
theorem dX10_gossip_27 : decode cX10_gossip 27 = .ok (.getfield 118, 3) := by decide +kernel
theorem dX10_gossip_30 : decode cX10_gossip 30 = .ok (.if_icmp .ge 24, 3) := by decide +kernel
theorem dX10_gossip_33 : decode cX10_gossip 33 = .ok (.aload_n 0, 1) := by decide +kernel
theorem dX10_gossip_34 : decode cX10_gossip 34 = .ok (.getfield 75, 3) := by decide +kernel
theorem dX10_gossip_37 : decode cX10_gossip 37 = .ok (.iload_n 3, 1) := by decide +kernel
theorem dX10_gossip_38 : decode cX10_gossip 38 = .ok (.aload_n 0, 1) := by decide +kernel
theorem dX10_gossip_39 : decode cX10_gossip 39 = .ok (.getfield 51, 3) := by decide +kernel
theorem dX10_gossip_42 : decode cX10_gossip 42 = .ok (.getfield 145, 3) := by decide +kernel
theorem dX10_gossip_45 : decode cX10_gossip 45 = .ok (.iload_n 3, 1) := by decide +kernel
theorem dX10_gossip_46 : decode cX10_gossip 46 = .ok (.iaload, 1) := by decide +kernel
theorem dX10_gossip_47 : decode cX10_gossip 47 = .ok (.iastore, 1) := by decide +kernel
theorem dX10_gossip_48 : decode cX10_gossip 48 = .ok (.iinc 3 1, 3) := by decide +kernel
theorem dX10_gossip_51 : decode cX10_gossip 51 = .ok (.goto (-29), 3) := by decide +kernel
theorem dX10_gossip_54 : decode cX10_gossip 54 = .ok (.aload_n 0, 1) := by decide +kernel
theorem dX10_gossip_55 : decode cX10_gossip 55 = .ok (.iload_n 1, 1) := by decide +kernel
theorem dX10_gossip_56 : decode cX10_gossip 56 = .ok (.iload_n 2, 1) := by decide +kernel
theorem dX10_gossip_57 : decode cX10_gossip 57 = .ok (.invokevirtual 290, 3) := by decide +kernel
theorem dX10_gossip_60 : decode cX10_gossip 60 = .ok (.ireturn, 1) := by decide +kernel
theorem dX10_reachedFrom_0 : decode cX10_reachedFrom 0 = .ok (.iconst 1, 1) := by decide +kernel
theorem dX10_reachedFrom_1 : decode cX10_reachedFrom 1 = .ok (.iload_n 1, 1) := by decide +kernel
theorem dX10_reachedFrom_2 : decode cX10_reachedFrom 2 = .ok (.ishl, 1) := by decide +kernel
theorem dX10_reachedFrom_3 : decode cX10_reachedFrom 3 = .ok (.istore_n 3, 1) := by decide +kernel
theorem dX10_reachedFrom_4 : decode cX10_reachedFrom 4 = .ok (.iconst 0, 1) := by decide +kernel
theorem dX10_reachedFrom_5 : decode cX10_reachedFrom 5 = .ok (.istore 4, 2) := by decide +kernel
theorem dX10_reachedFrom_7 : decode cX10_reachedFrom 7 = .ok (.iload 4, 2) := by decide +kernel
theorem dX10_reachedFrom_9 : decode cX10_reachedFrom 9 = .ok (.iload_n 2, 1) := by decide +kernel
theorem dX10_reachedFrom_10 : decode cX10_reachedFrom 10 = .ok (.if_icmp .ge 58, 3) := by decide +kernel
theorem dX10_reachedFrom_13 : decode cX10_reachedFrom 13 = .ok (.iload_n 3, 1) := by decide +kernel
theorem dX10_reachedFrom_14 : decode cX10_reachedFrom 14 = .ok (.istore 5, 2) := by decide +kernel
theorem dX10_reachedFrom_16 : decode cX10_reachedFrom 16 = .ok (.iconst 0, 1) := by decide +kernel
theorem dX10_reachedFrom_17 : decode cX10_reachedFrom 17 = .ok (.istore 6, 2) := by decide +kernel
theorem dX10_reachedFrom_19 : decode cX10_reachedFrom 19 = .ok (.iload 6, 2) := by decide +kernel
theorem dX10_reachedFrom_21 : decode cX10_reachedFrom 21 = .ok (.aload_n 0, 1) := by decide +kernel
theorem dX10_reachedFrom_22 : decode cX10_reachedFrom 22 = .ok (.getfield 16, 3) := by decide +kernel
theorem dX10_reachedFrom_25 : decode cX10_reachedFrom 25 = .ok (.getfield 118, 3) := by decide +kernel
theorem dX10_reachedFrom_28 : decode cX10_reachedFrom 28 = .ok (.if_icmp .ge 31, 3) := by decide +kernel
theorem dX10_reachedFrom_31 : decode cX10_reachedFrom 31 = .ok (.iload_n 3, 1) := by decide +kernel
theorem dX10_reachedFrom_32 : decode cX10_reachedFrom 32 = .ok (.iload 6, 2) := by decide +kernel
theorem dX10_reachedFrom_34 : decode cX10_reachedFrom 34 = .ok (.ishr, 1) := by decide +kernel
theorem dX10_reachedFrom_35 : decode cX10_reachedFrom 35 = .ok (.iconst 1, 1) := by decide +kernel
theorem dX10_reachedFrom_36 : decode cX10_reachedFrom 36 = .ok (.iand, 1) := by decide +kernel
theorem dX10_reachedFrom_37 : decode cX10_reachedFrom 37 = .ok (.iconst 1, 1) := by decide +kernel
theorem dX10_reachedFrom_38 : decode cX10_reachedFrom 38 = .ok (.if_icmp .ne 15, 3) := by decide +kernel
theorem dX10_reachedFrom_41 : decode cX10_reachedFrom 41 = .ok (.iload 5, 2) := by decide +kernel
theorem dX10_reachedFrom_43 : decode cX10_reachedFrom 43 = .ok (.aload_n 0, 1) := by decide +kernel
theorem dX10_reachedFrom_44 : decode cX10_reachedFrom 44 = .ok (.getfield 75, 3) := by decide +kernel
theorem dX10_reachedFrom_47 : decode cX10_reachedFrom 47 = .ok (.iload 6, 2) := by decide +kernel
theorem dX10_reachedFrom_49 : decode cX10_reachedFrom 49 = .ok (.iaload, 1) := by decide +kernel
theorem dX10_reachedFrom_50 : decode cX10_reachedFrom 50 = .ok (.ior, 1) := by decide +kernel
theorem dX10_reachedFrom_51 : decode cX10_reachedFrom 51 = .ok (.istore 5, 2) := by decide +kernel
theorem dX10_reachedFrom_53 : decode cX10_reachedFrom 53 = .ok (.iinc 6 1, 3) := by decide +kernel
theorem dX10_reachedFrom_56 : decode cX10_reachedFrom 56 = .ok (.goto (-37), 3) := by decide +kernel
theorem dX10_reachedFrom_59 : decode cX10_reachedFrom 59 = .ok (.iload 5, 2) := by decide +kernel
theorem dX10_reachedFrom_61 : decode cX10_reachedFrom 61 = .ok (.istore_n 3, 1) := by decide +kernel
theorem dX10_reachedFrom_62 : decode cX10_reachedFrom 62 = .ok (.iinc 4 1, 3) := by decide +kernel
theorem dX10_reachedFrom_65 : decode cX10_reachedFrom 65 = .ok (.goto (-58), 3) := by decide +kernel
theorem dX10_reachedFrom_68 : decode cX10_reachedFrom 68 = .ok (.iload_n 3, 1) := by decide +kernel
theorem dX10_reachedFrom_69 : decode cX10_reachedFrom 69 = .ok (.ireturn, 1) := by decide +kernel
theorem dX10_warn_0 : decode cX10_warn 0 = .ok (.iconst 0, 1) := by decide +kernel
theorem dX10_warn_1 : decode cX10_warn 1 = .ok (.istore_n 1, 1) := by decide +kernel
theorem dX10_warn_2 : decode cX10_warn 2 = .ok (.iload_n 1, 1) := by decide +kernel
theorem dX10_warn_3 : decode cX10_warn 3 = .ok (.aload_n 0, 1) := by decide +kernel
theorem dX10_warn_4 : decode cX10_warn 4 = .ok (.getfield 16, 3) := by decide +kernel
theorem dX10_warn_7 : decode cX10_warn 7 = .ok (.getfield 118, 3) := by decide +kernel
theorem dX10_warn_10 : decode cX10_warn 10 = .ok (.if_icmp .ge 31, 3) := by decide +kernel
theorem dX10_warn_13 : decode cX10_warn 13 = .ok (.aload_n 0, 1) := by decide +kernel
theorem dX10_warn_14 : decode cX10_warn 14 = .ok (.getfield 75, 3) := by decide +kernel
theorem dX10_warn_17 : decode cX10_warn 17 = .ok (.iload_n 1, 1) := by decide +kernel
theorem dX10_warn_18 : decode cX10_warn 18 = .ok (.aload_n 0, 1) := by decide +kernel
theorem dX10_warn_19 : decode cX10_warn 19 = .ok (.getfield 35, 3) := by decide +kernel
theorem dX10_warn_22 : decode cX10_warn 22 = .ok (.aload_n 0, 1) := by decide +kernel
theorem dX10_warn_23 : decode cX10_warn 23 = .ok (.getfield 51, 3) := by decide +kernel
theorem dX10_warn_26 : decode cX10_warn 26 = .ok (.iload_n 1, 1) := by decide +kernel
theorem dX10_warn_27 : decode cX10_warn 27 = .ok (.invokevirtual 138, 3) := by decide +kernel
theorem dX10_warn_30 : decode cX10_warn 30 = .ok (.iconst 1, 1) := by decide +kernel
theorem dX10_warn_31 : decode cX10_warn 31 = .ok (.iload_n 1, 1) := by decide +kernel
theorem dX10_warn_32 : decode cX10_warn 32 = .ok (.ishl, 1) := by decide +kernel
theorem dX10_warn_33 : decode cX10_warn 33 = .ok (.ior, 1) := by decide +kernel
theorem dX10_warn_34 : decode cX10_warn 34 = .ok (.iastore, 1) := by decide +kernel
theorem dX10_warn_35 : decode cX10_warn 35 = .ok (.iinc 1 1, 3) := by decide +kernel
theorem dX10_warn_38 : decode cX10_warn 38 = .ok (.goto (-36), 3) := by decide +kernel
theorem dX10_warn_41 : decode cX10_warn 41 = .ok (.iconst 1, 1) := by decide +kernel
theorem dX10_warn_42 : decode cX10_warn 42 = .ok (.aload_n 0, 1) := by decide +kernel
theorem dX10_warn_43 : decode cX10_warn 43 = .ok (.getfield 16, 3) := by decide +kernel
theorem dX10_warn_46 : decode cX10_warn 46 = .ok (.getfield 118, 3) := by decide +kernel
theorem dX10_warn_49 : decode cX10_warn 49 = .ok (.ishl, 1) := by decide +kernel
theorem dX10_warn_50 : decode cX10_warn 50 = .ok (.iconst 1, 1) := by decide +kernel
theorem dX10_warn_51 : decode cX10_warn 51 = .ok (.isub, 1) := by decide +kernel
theorem dX10_warn_52 : decode cX10_warn 52 = .ok (.istore_n 1, 1) := by decide +kernel
theorem dX10_warn_53 : decode cX10_warn 53 = .ok (.iload_n 1, 1) := by decide +kernel
theorem dX10_warn_54 : decode cX10_warn 54 = .ok (.istore_n 2, 1) := by decide +kernel
theorem dX10_warn_55 : decode cX10_warn 55 = .ok (.iconst 0, 1) := by decide +kernel
theorem dX10_warn_56 : decode cX10_warn 56 = .ok (.istore_n 3, 1) := by decide +kernel
theorem dX10_warn_57 : decode cX10_warn 57 = .ok (.iload_n 3, 1) := by decide +kernel
theorem dX10_warn_58 : decode cX10_warn 58 = .ok (.iload_n 1, 1) := by decide +kernel
theorem dX10_warn_59 : decode cX10_warn 59 = .ok (.if_icmp .ge 30, 3) := by decide +kernel
theorem dX10_warn_62 : decode cX10_warn 62 = .ok (.iload_n 3, 1) := by decide +kernel
theorem dX10_warn_63 : decode cX10_warn 63 = .ok (.invokestatic 293, 3) := by decide +kernel
theorem dX10_warn_66 : decode cX10_warn 66 = .ok (.iload_n 2, 1) := by decide +kernel
theorem dX10_warn_67 : decode cX10_warn 67 = .ok (.invokestatic 293, 3) := by decide +kernel
theorem dX10_warn_70 : decode cX10_warn 70 = .ok (.if_icmp .ge 13, 3) := by decide +kernel
theorem dX10_warn_73 : decode cX10_warn 73 = .ok (.aload_n 0, 1) := by decide +kernel
theorem dX10_warn_74 : decode cX10_warn 74 = .ok (.iload_n 3, 1) := by decide +kernel
theorem dX10_warn_75 : decode cX10_warn 75 = .ok (.invokevirtual 298, 3) := by decide +kernel
theorem dX10_warn_78 : decode cX10_warn 78 = .ok (.ifCond .eq 5, 3) := by decide +kernel
theorem dX10_warn_81 : decode cX10_warn 81 = .ok (.iload_n 3, 1) := by decide +kernel
theorem dX10_warn_82 : decode cX10_warn 82 = .ok (.istore_n 2, 1) := by decide +kernel
theorem dX10_warn_83 : decode cX10_warn 83 = .ok (.iinc 3 1, 3) := by decide +kernel
theorem dX10_warn_86 : decode cX10_warn 86 = .ok (.goto (-29), 3) := by decide +kernel
theorem dX10_warn_89 : decode cX10_warn 89 = .ok (.iload_n 2, 1) := by decide +kernel
theorem dX10_warn_90 : decode cX10_warn 90 = .ok (.ireturn, 1) := by decide +kernel
theorem dX10_warnsAll_0 : decode cX10_warnsAll 0 = .ok (.iconst 0, 1) := by decide +kernel
theorem dX10_warnsAll_1 : decode cX10_warnsAll 1 = .ok (.istore_n 2, 1) := by decide +kernel
theorem dX10_warnsAll_2 : decode cX10_warnsAll 2 = .ok (.iload_n 2, 1) := by decide +kernel
theorem dX10_warnsAll_3 : decode cX10_warnsAll 3 = .ok (.aload_n 0, 1) := by decide +kernel
theorem dX10_warnsAll_4 : decode cX10_warnsAll 4 = .ok (.getfield 16, 3) := by decide +kernel
theorem dX10_warnsAll_7 : decode cX10_warnsAll 7 = .ok (.getfield 118, 3) := by decide +kernel
theorem dX10_warnsAll_10 : decode cX10_warnsAll 10 = .ok (.if_icmp .ge 22, 3) := by decide +kernel
theorem dX10_warnsAll_13 : decode cX10_warnsAll 13 = .ok (.aload_n 0, 1) := by decide +kernel
theorem dX10_warnsAll_14 : decode cX10_warnsAll 14 = .ok (.getfield 75, 3) := by decide +kernel
theorem dX10_warnsAll_17 : decode cX10_warnsAll 17 = .ok (.iload_n 2, 1) := by decide +kernel
theorem dX10_warnsAll_18 : decode cX10_warnsAll 18 = .ok (.iaload, 1) := by decide +kernel
theorem dX10_warnsAll_19 : decode cX10_warnsAll 19 = .ok (.iload_n 1, 1) := by decide +kernel
theorem dX10_warnsAll_20 : decode cX10_warnsAll 20 = .ok (.iand, 1) := by decide +kernel
theorem dX10_warnsAll_21 : decode cX10_warnsAll 21 = .ok (.ifCond .ne 5, 3) := by decide +kernel
theorem dX10_warnsAll_24 : decode cX10_warnsAll 24 = .ok (.iconst 0, 1) := by decide +kernel
theorem dX10_warnsAll_25 : decode cX10_warnsAll 25 = .ok (.ireturn, 1) := by decide +kernel
theorem dX10_warnsAll_26 : decode cX10_warnsAll 26 = .ok (.iinc 2 1, 3) := by decide +kernel
theorem dX10_warnsAll_29 : decode cX10_warnsAll 29 = .ok (.goto (-27), 3) := by decide +kernel
theorem dX10_warnsAll_32 : decode cX10_warnsAll 32 = .ok (.iconst 1, 1) := by decide +kernel
theorem dX10_warnsAll_33 : decode cX10_warnsAll 33 = .ok (.ireturn, 1) := by decide +kernel
theorem dX10_alone_0 : decode cX10_alone 0 = .ok (.iconst 0, 1) := by decide +kernel
theorem dX10_alone_1 : decode cX10_alone 1 = .ok (.istore_n 1, 1) := by decide +kernel
theorem dX10_alone_2 : decode cX10_alone 2 = .ok (.iconst 0, 1) := by decide +kernel
theorem dX10_alone_3 : decode cX10_alone 3 = .ok (.istore_n 2, 1) := by decide +kernel
theorem dX10_alone_4 : decode cX10_alone 4 = .ok (.iload_n 2, 1) := by decide +kernel
theorem dX10_alone_5 : decode cX10_alone 5 = .ok (.aload_n 0, 1) := by decide +kernel
theorem dX10_alone_6 : decode cX10_alone 6 = .ok (.getfield 16, 3) := by decide +kernel
theorem dX10_alone_9 : decode cX10_alone 9 = .ok (.getfield 118, 3) := by decide +kernel
theorem dX10_alone_12 : decode cX10_alone 12 = .ok (.if_icmp .ge 45, 3) := by decide +kernel
theorem dX10_alone_15 : decode cX10_alone 15 = .ok (.aload_n 0, 1) := by decide +kernel
theorem dX10_alone_16 : decode cX10_alone 16 = .ok (.getfield 35, 3) := by decide +kernel
theorem dX10_alone_19 : decode cX10_alone 19 = .ok (.aload_n 0, 1) := by decide +kernel
theorem dX10_alone_20 : decode cX10_alone 20 = .ok (.getfield 51, 3) := by decide +kernel
theorem dX10_alone_23 : decode cX10_alone 23 = .ok (.iload_n 2, 1) := by decide +kernel
theorem dX10_alone_24 : decode cX10_alone 24 = .ok (.invokevirtual 138, 3) := by decide +kernel
theorem dX10_alone_27 : decode cX10_alone 27 = .ok (.ifCond .ne 24, 3) := by decide +kernel
theorem dX10_alone_30 : decode cX10_alone 30 = .ok (.aload_n 0, 1) := by decide +kernel
theorem dX10_alone_31 : decode cX10_alone 31 = .ok (.getfield 35, 3) := by decide +kernel
theorem dX10_alone_34 : decode cX10_alone 34 = .ok (.aload_n 0, 1) := by decide +kernel
theorem dX10_alone_35 : decode cX10_alone 35 = .ok (.getfield 51, 3) := by decide +kernel
theorem dX10_alone_38 : decode cX10_alone 38 = .ok (.iload_n 2, 1) := by decide +kernel
theorem dX10_alone_39 : decode cX10_alone 39 = .ok (.invokevirtual 142, 3) := by decide +kernel
theorem dX10_alone_42 : decode cX10_alone 42 = .ok (.ifCond .ne 9, 3) := by decide +kernel
theorem dX10_alone_45 : decode cX10_alone 45 = .ok (.iload_n 1, 1) := by decide +kernel
theorem dX10_alone_46 : decode cX10_alone 46 = .ok (.iconst 1, 1) := by decide +kernel
theorem dX10_alone_47 : decode cX10_alone 47 = .ok (.iload_n 2, 1) := by decide +kernel
theorem dX10_alone_48 : decode cX10_alone 48 = .ok (.ishl, 1) := by decide +kernel
theorem dX10_alone_49 : decode cX10_alone 49 = .ok (.ior, 1) := by decide +kernel
theorem dX10_alone_50 : decode cX10_alone 50 = .ok (.istore_n 1, 1) := by decide +kernel
theorem dX10_alone_51 : decode cX10_alone 51 = .ok (.iinc 2 1, 3) := by decide +kernel
theorem dX10_alone_54 : decode cX10_alone 54 = .ok (.goto (-50), 3) := by decide +kernel
theorem dX10_alone_57 : decode cX10_alone 57 = .ok (.iload_n 1, 1) := by decide +kernel
theorem dX10_alone_58 : decode cX10_alone 58 = .ok (.ireturn, 1) := by decide +kernel
theorem dX10_before_0 : decode cX10_before 0 = .ok (.aload_n 0, 1) := by decide +kernel
theorem dX10_before_1 : decode cX10_before 1 = .ok (.iload_n 1, 1) := by decide +kernel
theorem dX10_before_2 : decode cX10_before 2 = .ok (.iload_n 2, 1) := by decide +kernel
theorem dX10_before_3 : decode cX10_before 3 = .ok (.invokevirtual 159, 3) := by decide +kernel
theorem dX10_before_6 : decode cX10_before 6 = .ok (.ifCond .eq 12, 3) := by decide +kernel
theorem dX10_before_9 : decode cX10_before 9 = .ok (.iload_n 3, 1) := by decide +kernel
theorem dX10_before_10 : decode cX10_before 10 = .ok (.iconst 0, 1) := by decide +kernel
theorem dX10_before_11 : decode cX10_before 11 = .ok (.iconst 1, 1) := by decide +kernel
theorem dX10_before_12 : decode cX10_before 12 = .ok (.invokestatic 167, 3) := by decide +kernel
theorem dX10_before_15 : decode cX10_before 15 = .ok (.ifCond .ne 7, 3) := by decide +kernel
theorem dX10_before_18 : decode cX10_before 18 = .ok (.ldc_w 301, 3) := by decide +kernel
theorem dX10_before_21 : decode cX10_before 21 = .ok (.ireturn, 1) := by decide +kernel
theorem dX10_before_22 : decode cX10_before 22 = .ok (.iconst 0, 1) := by decide +kernel
theorem dX10_before_23 : decode cX10_before 23 = .ok (.istore 4, 2) := by decide +kernel
theorem dX10_before_25 : decode cX10_before 25 = .ok (.aload_n 0, 1) := by decide +kernel
theorem dX10_before_26 : decode cX10_before 26 = .ok (.getfield 16, 3) := by decide +kernel
theorem dX10_before_29 : decode cX10_before 29 = .ok (.iload_n 1, 1) := by decide +kernel
theorem dX10_before_30 : decode cX10_before 30 = .ok (.iload_n 2, 1) := by decide +kernel
theorem dX10_before_31 : decode cX10_before 31 = .ok (.iconst 0, 1) := by decide +kernel
theorem dX10_before_32 : decode cX10_before 32 = .ok (.invokevirtual 302, 3) := by decide +kernel
theorem dX10_before_35 : decode cX10_before 35 = .ok (.istore 5, 2) := by decide +kernel
theorem dX10_before_37 : decode cX10_before 37 = .ok (.iconst 2, 1) := by decide +kernel
theorem dX10_before_38 : decode cX10_before 38 = .ok (.istore 6, 2) := by decide +kernel
theorem dX10_before_40 : decode cX10_before 40 = .ok (.iload 6, 2) := by decide +kernel
theorem dX10_before_42 : decode cX10_before 42 = .ok (.bipush 19, 2) := by decide +kernel
theorem dX10_before_44 : decode cX10_before 44 = .ok (.if_icmp .gt 58, 3) := by decide +kernel
theorem dX10_before_47 : decode cX10_before 47 = .ok (.iload 6, 2) := by decide +kernel
theorem dX10_before_49 : decode cX10_before 49 = .ok (.iconst 2, 1) := by decide +kernel
theorem dX10_before_50 : decode cX10_before 50 = .ok (.irem, 1) := by decide +kernel
theorem dX10_before_51 : decode cX10_before 51 = .ok (.ifCond .ne 11, 3) := by decide +kernel
theorem dX10_before_54 : decode cX10_before 54 = .ok (.iload 6, 2) := by decide +kernel
theorem dX10_before_56 : decode cX10_before 56 = .ok (.iconst 2, 1) := by decide +kernel
theorem dX10_before_57 : decode cX10_before 57 = .ok (.idiv, 1) := by decide +kernel
theorem dX10_before_58 : decode cX10_before 58 = .ok (.ineg, 1) := by decide +kernel
theorem dX10_before_59 : decode cX10_before 59 = .ok (.goto 7, 3) := by decide +kernel
theorem dX10_before_62 : decode cX10_before 62 = .ok (.iload 6, 2) := by decide +kernel
theorem dX10_before_64 : decode cX10_before 64 = .ok (.iconst 2, 1) := by decide +kernel
theorem dX10_before_65 : decode cX10_before 65 = .ok (.idiv, 1) := by decide +kernel
theorem dX10_before_66 : decode cX10_before 66 = .ok (.istore 7, 2) := by decide +kernel
theorem dX10_before_68 : decode cX10_before 68 = .ok (.aload_n 0, 1) := by decide +kernel
theorem dX10_before_69 : decode cX10_before 69 = .ok (.getfield 16, 3) := by decide +kernel
theorem dX10_before_72 : decode cX10_before 72 = .ok (.iload_n 1, 1) := by decide +kernel
theorem dX10_before_73 : decode cX10_before 73 = .ok (.iload_n 2, 1) := by decide +kernel
theorem dX10_before_74 : decode cX10_before 74 = .ok (.iload 7, 2) := by decide +kernel
theorem dX10_before_76 : decode cX10_before 76 = .ok (.invokevirtual 302, 3) := by decide +kernel
theorem dX10_before_79 : decode cX10_before 79 = .ok (.istore 8, 2) := by decide +kernel
theorem dX10_before_81 : decode cX10_before 81 = .ok (.iload 8, 2) := by decide +kernel
theorem dX10_before_83 : decode cX10_before 83 = .ok (.iload 5, 2) := by decide +kernel
theorem dX10_before_85 : decode cX10_before 85 = .ok (.if_icmp .le 11, 3) := by decide +kernel
theorem dX10_before_88 : decode cX10_before 88 = .ok (.iload 8, 2) := by decide +kernel
theorem dX10_before_90 : decode cX10_before 90 = .ok (.istore 5, 2) := by decide +kernel
theorem dX10_before_92 : decode cX10_before 92 = .ok (.iload 7, 2) := by decide +kernel
theorem dX10_before_94 : decode cX10_before 94 = .ok (.istore 4, 2) := by decide +kernel
theorem dX10_before_96 : decode cX10_before 96 = .ok (.iinc 6 1, 3) := by decide +kernel
theorem dX10_before_99 : decode cX10_before 99 = .ok (.goto (-59), 3) := by decide +kernel
theorem dX10_before_102 : decode cX10_before 102 = .ok (.iload_n 3, 1) := by decide +kernel
theorem dX10_before_103 : decode cX10_before 103 = .ok (.ifCond .ne 8, 3) := by decide +kernel
theorem dX10_before_106 : decode cX10_before 106 = .ok (.iload 4, 2) := by decide +kernel
theorem dX10_before_108 : decode cX10_before 108 = .ok (.goto 5, 3) := by decide +kernel
theorem dX10_before_111 : decode cX10_before 111 = .ok (.iload 5, 2) := by decide +kernel
theorem dX10_before_113 : decode cX10_before 113 = .ok (.ireturn, 1) := by decide +kernel
theorem dX10_loudest_0 : decode cX10_loudest 0 = .ok (.bipush (-2), 2) := by decide +kernel
theorem dX10_loudest_2 : decode cX10_loudest 2 = .ok (.istore_n 1, 1) := by decide +kernel
theorem dX10_loudest_3 : decode cX10_loudest 3 = .ok (.iconst 0, 1) := by decide +kernel
theorem dX10_loudest_4 : decode cX10_loudest 4 = .ok (.istore_n 2, 1) := by decide +kernel
theorem dX10_loudest_5 : decode cX10_loudest 5 = .ok (.iconst 0, 1) := by decide +kernel
theorem dX10_loudest_6 : decode cX10_loudest 6 = .ok (.istore_n 3, 1) := by decide +kernel
theorem dX10_loudest_7 : decode cX10_loudest 7 = .ok (.iload_n 3, 1) := by decide +kernel
theorem dX10_loudest_8 : decode cX10_loudest 8 = .ok (.aload_n 0, 1) := by decide +kernel
theorem dX10_loudest_9 : decode cX10_loudest 9 = .ok (.getfield 16, 3) := by decide +kernel
theorem dX10_loudest_12 : decode cX10_loudest 12 = .ok (.getfield 118, 3) := by decide +kernel
theorem dX10_loudest_15 : decode cX10_loudest 15 = .ok (.if_icmp .ge 30, 3) := by decide +kernel
theorem dX10_loudest_18 : decode cX10_loudest 18 = .ok (.aload_n 0, 1) := by decide +kernel
theorem dX10_loudest_19 : decode cX10_loudest 19 = .ok (.getfield 16, 3) := by decide +kernel
theorem dX10_loudest_22 : decode cX10_loudest 22 = .ok (.iload_n 3, 1) := by decide +kernel
theorem dX10_loudest_23 : decode cX10_loudest 23 = .ok (.invokevirtual 305, 3) := by decide +kernel
theorem dX10_loudest_26 : decode cX10_loudest 26 = .ok (.istore 4, 2) := by decide +kernel
theorem dX10_loudest_28 : decode cX10_loudest 28 = .ok (.iload 4, 2) := by decide +kernel
theorem dX10_loudest_30 : decode cX10_loudest 30 = .ok (.iload_n 2, 1) := by decide +kernel
theorem dX10_loudest_31 : decode cX10_loudest 31 = .ok (.if_icmp .le 8, 3) := by decide +kernel
theorem dX10_loudest_34 : decode cX10_loudest 34 = .ok (.iload 4, 2) := by decide +kernel
theorem dX10_loudest_36 : decode cX10_loudest 36 = .ok (.istore_n 2, 1) := by decide +kernel
theorem dX10_loudest_37 : decode cX10_loudest 37 = .ok (.iload_n 3, 1) := by decide +kernel
theorem dX10_loudest_38 : decode cX10_loudest 38 = .ok (.istore_n 1, 1) := by decide +kernel
theorem dX10_loudest_39 : decode cX10_loudest 39 = .ok (.iinc 3 1, 3) := by decide +kernel
theorem dX10_loudest_42 : decode cX10_loudest 42 = .ok (.goto (-35), 3) := by decide +kernel
theorem dX10_loudest_45 : decode cX10_loudest 45 = .ok (.iload_n 1, 1) := by decide +kernel
theorem dX10_loudest_46 : decode cX10_loudest 46 = .ok (.ireturn, 1) := by decide +kernel
theorem dX10_rests_0 : decode cX10_rests 0 = .ok (.aload_n 0, 1) := by decide +kernel
theorem dX10_rests_1 : decode cX10_rests 1 = .ok (.iload_n 1, 1) := by decide +kernel
theorem dX10_rests_2 : decode cX10_rests 2 = .ok (.invokevirtual 121, 3) := by decide +kernel
theorem dX10_rests_5 : decode cX10_rests 5 = .ok (.ifCond .ne 5, 3) := by decide +kernel
theorem dX10_rests_8 : decode cX10_rests 8 = .ok (.iconst (-1), 1) := by decide +kernel
theorem dX10_rests_9 : decode cX10_rests 9 = .ok (.ireturn, 1) := by decide +kernel
theorem dX10_rests_10 : decode cX10_rests 10 = .ok (.iconst 0, 1) := by decide +kernel
theorem dX10_rests_11 : decode cX10_rests 11 = .ok (.istore_n 2, 1) := by decide +kernel
theorem dX10_rests_12 : decode cX10_rests 12 = .ok (.iconst 0, 1) := by decide +kernel
theorem dX10_rests_13 : decode cX10_rests 13 = .ok (.istore_n 3, 1) := by decide +kernel
theorem dX10_rests_14 : decode cX10_rests 14 = .ok (.iload_n 3, 1) := by decide +kernel
theorem dX10_rests_15 : decode cX10_rests 15 = .ok (.iconst 3, 1) := by decide +kernel
theorem dX10_rests_16 : decode cX10_rests 16 = .ok (.if_icmp .gt 38, 3) := by decide +kernel
theorem dX10_rests_19 : decode cX10_rests 19 = .ok (.iconst 0, 1) := by decide +kernel
theorem dX10_rests_20 : decode cX10_rests 20 = .ok (.istore 4, 2) := by decide +kernel
theorem dX10_rests_22 : decode cX10_rests 22 = .ok (.iload 4, 2) := by decide +kernel
theorem dX10_rests_24 : decode cX10_rests 24 = .ok (.iconst 3, 1) := by decide +kernel
theorem dX10_rests_25 : decode cX10_rests 25 = .ok (.if_icmp .gt 23, 3) := by decide +kernel
theorem dX10_rests_28 : decode cX10_rests 28 = .ok (.aload_n 0, 1) := by decide +kernel
theorem dX10_rests_29 : decode cX10_rests 29 = .ok (.iload_n 1, 1) := by decide +kernel
theorem dX10_rests_30 : decode cX10_rests 30 = .ok (.iload_n 3, 1) := by decide +kernel
theorem dX10_rests_31 : decode cX10_rests 31 = .ok (.iload 4, 2) := by decide +kernel
theorem dX10_rests_33 : decode cX10_rests 33 = .ok (.invokevirtual 308, 3) := by decide +kernel
theorem dX10_rests_36 : decode cX10_rests 36 = .ok (.ifCond .eq 6, 3) := by decide +kernel
theorem dX10_rests_39 : decode cX10_rests 39 = .ok (.iinc 2 1, 3) := by decide +kernel
theorem dX10_rests_42 : decode cX10_rests 42 = .ok (.iinc 4 1, 3) := by decide +kernel
theorem dX10_rests_45 : decode cX10_rests 45 = .ok (.goto (-23), 3) := by decide +kernel
theorem dX10_rests_48 : decode cX10_rests 48 = .ok (.iinc 3 1, 3) := by decide +kernel
theorem dX10_rests_51 : decode cX10_rests 51 = .ok (.goto (-37), 3) := by decide +kernel
theorem dX10_rests_54 : decode cX10_rests 54 = .ok (.iload_n 2, 1) := by decide +kernel
theorem dX10_rests_55 : decode cX10_rests 55 = .ok (.ireturn, 1) := by decide +kernel
theorem dX10_rest_0 : decode cX10_rest 0 = .ok (.aload_n 0, 1) := by decide +kernel
theorem dX10_rest_1 : decode cX10_rest 1 = .ok (.iload_n 1, 1) := by decide +kernel
theorem dX10_rest_2 : decode cX10_rest 2 = .ok (.invokevirtual 121, 3) := by decide +kernel
theorem dX10_rest_5 : decode cX10_rest 5 = .ok (.ifCond .eq 7, 3) := by decide +kernel
theorem dX10_rest_8 : decode cX10_rest 8 = .ok (.iload_n 2, 1) := by decide +kernel
theorem dX10_rest_9 : decode cX10_rest 9 = .ok (.ifCond .ge 5, 3) := by decide +kernel
theorem dX10_rest_12 : decode cX10_rest 12 = .ok (.iconst (-1), 1) := by decide +kernel
theorem dX10_rest_13 : decode cX10_rest 13 = .ok (.ireturn, 1) := by decide +kernel
theorem dX10_rest_14 : decode cX10_rest 14 = .ok (.iload_n 2, 1) := by decide +kernel
theorem dX10_rest_15 : decode cX10_rest 15 = .ok (.istore_n 3, 1) := by decide +kernel
theorem dX10_rest_16 : decode cX10_rest 16 = .ok (.iconst 0, 1) := by decide +kernel
theorem dX10_rest_17 : decode cX10_rest 17 = .ok (.istore 4, 2) := by decide +kernel
theorem dX10_rest_19 : decode cX10_rest 19 = .ok (.iload 4, 2) := by decide +kernel
theorem dX10_rest_21 : decode cX10_rest 21 = .ok (.iconst 3, 1) := by decide +kernel
theorem dX10_rest_22 : decode cX10_rest 22 = .ok (.if_icmp .gt 52, 3) := by decide +kernel
theorem dX10_rest_25 : decode cX10_rest 25 = .ok (.iconst 0, 1) := by decide +kernel
theorem dX10_rest_26 : decode cX10_rest 26 = .ok (.istore 5, 2) := by decide +kernel
theorem dX10_rest_28 : decode cX10_rest 28 = .ok (.iload 5, 2) := by decide +kernel
theorem dX10_rest_30 : decode cX10_rest 30 = .ok (.iconst 3, 1) := by decide +kernel
theorem dX10_rest_31 : decode cX10_rest 31 = .ok (.if_icmp .gt 37, 3) := by decide +kernel
theorem dX10_rest_34 : decode cX10_rest 34 = .ok (.aload_n 0, 1) := by decide +kernel
theorem dX10_rest_35 : decode cX10_rest 35 = .ok (.iload_n 1, 1) := by decide +kernel
theorem dX10_rest_36 : decode cX10_rest 36 = .ok (.iload 4, 2) := by decide +kernel
theorem dX10_rest_38 : decode cX10_rest 38 = .ok (.iload 5, 2) := by decide +kernel
theorem dX10_rest_40 : decode cX10_rest 40 = .ok (.invokevirtual 308, 3) := by decide +kernel
theorem dX10_rest_43 : decode cX10_rest 43 = .ok (.ifCond .eq 19, 3) := by decide +kernel
theorem dX10_rest_46 : decode cX10_rest 46 = .ok (.iload_n 3, 1) := by decide +kernel
theorem dX10_rest_47 : decode cX10_rest 47 = .ok (.ifCond .ne 12, 3) := by decide +kernel
theorem dX10_rest_50 : decode cX10_rest 50 = .ok (.bipush 10, 2) := by decide +kernel
theorem dX10_rest_52 : decode cX10_rest 52 = .ok (.iload 4, 2) := by decide +kernel
theorem dX10_rest_54 : decode cX10_rest 54 = .ok (.imul, 1) := by decide +kernel
theorem dX10_rest_55 : decode cX10_rest 55 = .ok (.iload 5, 2) := by decide +kernel
theorem dX10_rest_57 : decode cX10_rest 57 = .ok (.iadd, 1) := by decide +kernel
theorem dX10_rest_58 : decode cX10_rest 58 = .ok (.ireturn, 1) := by decide +kernel
theorem dX10_rest_59 : decode cX10_rest 59 = .ok (.iinc 3 (-1), 3) := by decide +kernel
theorem dX10_rest_62 : decode cX10_rest 62 = .ok (.iinc 5 1, 3) := by decide +kernel
theorem dX10_rest_65 : decode cX10_rest 65 = .ok (.goto (-37), 3) := by decide +kernel
theorem dX10_rest_68 : decode cX10_rest 68 = .ok (.iinc 4 1, 3) := by decide +kernel
theorem dX10_rest_71 : decode cX10_rest 71 = .ok (.goto (-52), 3) := by decide +kernel
theorem dX10_rest_74 : decode cX10_rest 74 = .ok (.bipush (-2), 2) := by decide +kernel
theorem dX10_rest_76 : decode cX10_rest 76 = .ok (.ireturn, 1) := by decide +kernel
theorem dX10_isRest_0 : decode cX10_isRest 0 = .ok (.iconst 0, 1) := by decide +kernel
theorem dX10_isRest_1 : decode cX10_isRest 1 = .ok (.istore 4, 2) := by decide +kernel
theorem dX10_isRest_3 : decode cX10_isRest 3 = .ok (.iload 4, 2) := by decide +kernel
theorem dX10_isRest_5 : decode cX10_isRest 5 = .ok (.iconst 3, 1) := by decide +kernel
theorem dX10_isRest_6 : decode cX10_isRest 6 = .ok (.if_icmp .gt 47, 3) := by decide +kernel
theorem dX10_isRest_9 : decode cX10_isRest 9 = .ok (.aload_n 0, 1) := by decide +kernel
theorem dX10_isRest_10 : decode cX10_isRest 10 = .ok (.iload_n 1, 1) := by decide +kernel
theorem dX10_isRest_11 : decode cX10_isRest 11 = .ok (.iload 4, 2) := by decide +kernel
theorem dX10_isRest_13 : decode cX10_isRest 13 = .ok (.iload_n 3, 1) := by decide +kernel
theorem dX10_isRest_14 : decode cX10_isRest 14 = .ok (.invokevirtual 311, 3) := by decide +kernel
theorem dX10_isRest_17 : decode cX10_isRest 17 = .ok (.aload_n 0, 1) := by decide +kernel
theorem dX10_isRest_18 : decode cX10_isRest 18 = .ok (.iload_n 1, 1) := by decide +kernel
theorem dX10_isRest_19 : decode cX10_isRest 19 = .ok (.iload_n 2, 1) := by decide +kernel
theorem dX10_isRest_20 : decode cX10_isRest 20 = .ok (.iload_n 3, 1) := by decide +kernel
theorem dX10_isRest_21 : decode cX10_isRest 21 = .ok (.invokevirtual 311, 3) := by decide +kernel
theorem dX10_isRest_24 : decode cX10_isRest 24 = .ok (.if_icmp .gt 21, 3) := by decide +kernel
theorem dX10_isRest_27 : decode cX10_isRest 27 = .ok (.aload_n 0, 1) := by decide +kernel
theorem dX10_isRest_28 : decode cX10_isRest 28 = .ok (.iload_n 1, 1) := by decide +kernel
theorem dX10_isRest_29 : decode cX10_isRest 29 = .ok (.iload_n 2, 1) := by decide +kernel
theorem dX10_isRest_30 : decode cX10_isRest 30 = .ok (.iload 4, 2) := by decide +kernel
theorem dX10_isRest_32 : decode cX10_isRest 32 = .ok (.invokevirtual 314, 3) := by decide +kernel
theorem dX10_isRest_35 : decode cX10_isRest 35 = .ok (.aload_n 0, 1) := by decide +kernel
theorem dX10_isRest_36 : decode cX10_isRest 36 = .ok (.iload_n 1, 1) := by decide +kernel
theorem dX10_isRest_37 : decode cX10_isRest 37 = .ok (.iload_n 2, 1) := by decide +kernel
theorem dX10_isRest_38 : decode cX10_isRest 38 = .ok (.iload_n 3, 1) := by decide +kernel
theorem dX10_isRest_39 : decode cX10_isRest 39 = .ok (.invokevirtual 314, 3) := by decide +kernel
theorem dX10_isRest_42 : decode cX10_isRest 42 = .ok (.if_icmp .le 5, 3) := by decide +kernel
theorem dX10_isRest_45 : decode cX10_isRest 45 = .ok (.iconst 0, 1) := by decide +kernel
theorem dX10_isRest_46 : decode cX10_isRest 46 = .ok (.ireturn, 1) := by decide +kernel
theorem dX10_isRest_47 : decode cX10_isRest 47 = .ok (.iinc 4 1, 3) := by decide +kernel
theorem dX10_isRest_50 : decode cX10_isRest 50 = .ok (.goto (-47), 3) := by decide +kernel
theorem dX10_isRest_53 : decode cX10_isRest 53 = .ok (.iconst 1, 1) := by decide +kernel
theorem dX10_isRest_54 : decode cX10_isRest 54 = .ok (.ireturn, 1) := by decide +kernel
theorem dX10_burglarHas_0 : decode cX10_burglarHas 0 = .ok (.iload_n 2, 1) := by decide +kernel
theorem dX10_burglarHas_1 : decode cX10_burglarHas 1 = .ok (.iload_n 3, 1) := by decide +kernel
theorem dX10_burglarHas_2 : decode cX10_burglarHas 2 = .ok (.if_icmp .ne 7, 3) := by decide +kernel
theorem dX10_burglarHas_5 : decode cX10_burglarHas 5 = .ok (.iconst 0, 1) := by decide +kernel
theorem dX10_burglarHas_6 : decode cX10_burglarHas 6 = .ok (.goto 5, 3) := by decide +kernel
theorem dX10_burglarHas_9 : decode cX10_burglarHas 9 = .ok (.bipush 6, 2) := by decide +kernel
theorem dX10_burglarHas_11 : decode cX10_burglarHas 11 = .ok (.istore 4, 2) := by decide +kernel
theorem dX10_burglarHas_13 : decode cX10_burglarHas 13 = .ok (.aload_n 0, 1) := by decide +kernel
theorem dX10_burglarHas_14 : decode cX10_burglarHas 14 = .ok (.getfield 16, 3) := by decide +kernel
theorem dX10_burglarHas_17 : decode cX10_burglarHas 17 = .ok (.iload_n 1, 1) := by decide +kernel
theorem dX10_burglarHas_18 : decode cX10_burglarHas 18 = .ok (.aload_n 0, 1) := by decide +kernel
theorem dX10_burglarHas_19 : decode cX10_burglarHas 19 = .ok (.getfield 51, 3) := by decide +kernel
theorem dX10_burglarHas_22 : decode cX10_burglarHas 22 = .ok (.getfield 195, 3) := by decide +kernel
theorem dX10_burglarHas_25 : decode cX10_burglarHas 25 = .ok (.iload_n 2, 1) := by decide +kernel
theorem dX10_burglarHas_26 : decode cX10_burglarHas 26 = .ok (.iadd, 1) := by decide +kernel
theorem dX10_burglarHas_27 : decode cX10_burglarHas 27 = .ok (.invokevirtual 171, 3) := by decide +kernel
theorem dX10_burglarHas_30 : decode cX10_burglarHas 30 = .ok (.ifCond .eq 10, 3) := by decide +kernel
theorem dX10_burglarHas_33 : decode cX10_burglarHas 33 = .ok (.iload 4, 2) := by decide +kernel
theorem dX10_burglarHas_35 : decode cX10_burglarHas 35 = .ok (.iconst 2, 1) := by decide +kernel
theorem dX10_burglarHas_36 : decode cX10_burglarHas 36 = .ok (.iadd, 1) := by decide +kernel
theorem dX10_burglarHas_37 : decode cX10_burglarHas 37 = .ok (.goto 5, 3) := by decide +kernel
theorem dX10_burglarHas_40 : decode cX10_burglarHas 40 = .ok (.iload 4, 2) := by decide +kernel
theorem dX10_burglarHas_42 : decode cX10_burglarHas 42 = .ok (.ireturn, 1) := by decide +kernel
theorem dX10_houseHas_0 : decode cX10_houseHas 0 = .ok (.iload_n 2, 1) := by decide +kernel
theorem dX10_houseHas_1 : decode cX10_houseHas 1 = .ok (.iload_n 3, 1) := by decide +kernel
theorem dX10_houseHas_2 : decode cX10_houseHas 2 = .ok (.if_icmp .ne 7, 3) := by decide +kernel
theorem dX10_houseHas_5 : decode cX10_houseHas 5 = .ok (.iconst 5, 1) := by decide +kernel
theorem dX10_houseHas_6 : decode cX10_houseHas 6 = .ok (.goto 4, 3) := by decide +kernel
theorem dX10_houseHas_9 : decode cX10_houseHas 9 = .ok (.iconst 0, 1) := by decide +kernel
theorem dX10_houseHas_10 : decode cX10_houseHas 10 = .ok (.istore 4, 2) := by decide +kernel
theorem dX10_houseHas_12 : decode cX10_houseHas 12 = .ok (.aload_n 0, 1) := by decide +kernel
theorem dX10_houseHas_13 : decode cX10_houseHas 13 = .ok (.getfield 16, 3) := by decide +kernel
theorem dX10_houseHas_16 : decode cX10_houseHas 16 = .ok (.iload_n 1, 1) := by decide +kernel
theorem dX10_houseHas_17 : decode cX10_houseHas 17 = .ok (.aload_n 0, 1) := by decide +kernel
theorem dX10_houseHas_18 : decode cX10_houseHas 18 = .ok (.getfield 51, 3) := by decide +kernel
theorem dX10_houseHas_21 : decode cX10_houseHas 21 = .ok (.getfield 195, 3) := by decide +kernel
theorem dX10_houseHas_24 : decode cX10_houseHas 24 = .ok (.iload_n 3, 1) := by decide +kernel
theorem dX10_houseHas_25 : decode cX10_houseHas 25 = .ok (.iadd, 1) := by decide +kernel
theorem dX10_houseHas_26 : decode cX10_houseHas 26 = .ok (.invokevirtual 171, 3) := by decide +kernel
theorem dX10_houseHas_29 : decode cX10_houseHas 29 = .ok (.ifCond .eq 11, 3) := by decide +kernel
theorem dX10_houseHas_32 : decode cX10_houseHas 32 = .ok (.iload 4, 2) := by decide +kernel
theorem dX10_houseHas_34 : decode cX10_houseHas 34 = .ok (.bipush 6, 2) := by decide +kernel
theorem dX10_houseHas_36 : decode cX10_houseHas 36 = .ok (.isub, 1) := by decide +kernel
theorem dX10_houseHas_37 : decode cX10_houseHas 37 = .ok (.goto 5, 3) := by decide +kernel
theorem dX10_houseHas_40 : decode cX10_houseHas 40 = .ok (.iload 4, 2) := by decide +kernel
theorem dX10_houseHas_42 : decode cX10_houseHas 42 = .ok (.ireturn, 1) := by decide +kernel
theorem dX10_note_0 : decode cX10_note 0 = .ok (.iload_n 1, 1) := by decide +kernel
theorem dX10_note_1 : decode cX10_note 1 = .ok (.iconst 0, 1) := by decide +kernel
theorem dX10_note_2 : decode cX10_note 2 = .ok (.bipush 99, 2) := by decide +kernel
theorem dX10_note_4 : decode cX10_note 4 = .ok (.invokestatic 167, 3) := by decide +kernel
theorem dX10_note_7 : decode cX10_note 7 = .ok (.ifCond .eq 13, 3) := by decide +kernel
theorem dX10_note_10 : decode cX10_note 10 = .ok (.iload_n 2, 1) := by decide +kernel
theorem dX10_note_11 : decode cX10_note 11 = .ok (.iconst 0, 1) := by decide +kernel
theorem dX10_note_12 : decode cX10_note 12 = .ok (.bipush 9, 2) := by decide +kernel
theorem dX10_note_14 : decode cX10_note 14 = .ok (.invokestatic 167, 3) := by decide +kernel
theorem dX10_note_17 : decode cX10_note 17 = .ok (.ifCond .ne 5, 3) := by decide +kernel
theorem dX10_note_20 : decode cX10_note 20 = .ok (.iconst (-1), 1) := by decide +kernel
theorem dX10_note_21 : decode cX10_note 21 = .ok (.ireturn, 1) := by decide +kernel
theorem dX10_note_22 : decode cX10_note 22 = .ok (.aload_n 0, 1) := by decide +kernel
theorem dX10_note_23 : decode cX10_note 23 = .ok (.getfield 71, 3) := by decide +kernel
theorem dX10_note_26 : decode cX10_note 26 = .ok (.iconst 0, 1) := by decide +kernel
theorem dX10_note_27 : decode cX10_note 27 = .ok (.iload_n 1, 1) := by decide +kernel
theorem dX10_note_28 : decode cX10_note 28 = .ok (.iload_n 2, 1) := by decide +kernel
theorem dX10_note_29 : decode cX10_note 29 = .ok (.iconst 0, 1) := by decide +kernel
theorem dX10_note_30 : decode cX10_note 30 = .ok (.iload_n 3, 1) := by decide +kernel
theorem dX10_note_31 : decode cX10_note 31 = .ok (.invokevirtual 317, 3) := by decide +kernel
theorem dX10_note_34 : decode cX10_note 34 = .ok (.ireturn, 1) := by decide +kernel
theorem dX10_see_0 : decode cX10_see 0 = .ok (.iload_n 1, 1) := by decide +kernel
theorem dX10_see_1 : decode cX10_see 1 = .ok (.iconst 1, 1) := by decide +kernel
theorem dX10_see_2 : decode cX10_see 2 = .ok (.bipush 60, 2) := by decide +kernel
theorem dX10_see_4 : decode cX10_see 4 = .ok (.invokestatic 167, 3) := by decide +kernel
theorem dX10_see_7 : decode cX10_see 7 = .ok (.ifCond .eq 12, 3) := by decide +kernel
theorem dX10_see_10 : decode cX10_see 10 = .ok (.aload_n 0, 1) := by decide +kernel
theorem dX10_see_11 : decode cX10_see 11 = .ok (.iload_n 2, 1) := by decide +kernel
theorem dX10_see_12 : decode cX10_see 12 = .ok (.iload_n 3, 1) := by decide +kernel
theorem dX10_see_13 : decode cX10_see 13 = .ok (.invokevirtual 159, 3) := by decide +kernel
theorem dX10_see_16 : decode cX10_see 16 = .ok (.ifCond .ne 5, 3) := by decide +kernel
theorem dX10_see_19 : decode cX10_see 19 = .ok (.iconst (-1), 1) := by decide +kernel
theorem dX10_see_20 : decode cX10_see 20 = .ok (.ireturn, 1) := by decide +kernel
theorem dX10_see_21 : decode cX10_see 21 = .ok (.aload_n 0, 1) := by decide +kernel
theorem dX10_see_22 : decode cX10_see 22 = .ok (.getfield 71, 3) := by decide +kernel
theorem dX10_see_25 : decode cX10_see 25 = .ok (.iconst 1, 1) := by decide +kernel
theorem dX10_see_26 : decode cX10_see 26 = .ok (.iload_n 1, 1) := by decide +kernel
theorem dX10_see_27 : decode cX10_see 27 = .ok (.iload_n 2, 1) := by decide +kernel
theorem dX10_see_28 : decode cX10_see 28 = .ok (.iload_n 3, 1) := by decide +kernel
theorem dX10_see_29 : decode cX10_see 29 = .ok (.iload 4, 2) := by decide +kernel
theorem dX10_see_31 : decode cX10_see 31 = .ok (.invokevirtual 317, 3) := by decide +kernel
theorem dX10_see_34 : decode cX10_see 34 = .ok (.ireturn, 1) := by decide +kernel
theorem dX10_strike_0 : decode cX10_strike 0 = .ok (.iload_n 1, 1) := by decide +kernel
theorem dX10_strike_1 : decode cX10_strike 1 = .ok (.iconst 0, 1) := by decide +kernel
theorem dX10_strike_2 : decode cX10_strike 2 = .ok (.aload_n 0, 1) := by decide +kernel
theorem dX10_strike_3 : decode cX10_strike 3 = .ok (.getfield 71, 3) := by decide +kernel
theorem dX10_strike_6 : decode cX10_strike 6 = .ok (.getfield 208, 3) := by decide +kernel
theorem dX10_strike_9 : decode cX10_strike 9 = .ok (.iconst 1, 1) := by decide +kernel
theorem dX10_strike_10 : decode cX10_strike 10 = .ok (.isub, 1) := by decide +kernel
theorem dX10_strike_11 : decode cX10_strike 11 = .ok (.invokestatic 167, 3) := by decide +kernel
theorem dX10_strike_14 : decode cX10_strike 14 = .ok (.ifCond .ne 5, 3) := by decide +kernel
theorem dX10_strike_17 : decode cX10_strike 17 = .ok (.iconst (-1), 1) := by decide +kernel
theorem dX10_strike_18 : decode cX10_strike 18 = .ok (.ireturn, 1) := by decide +kernel
theorem dX10_strike_19 : decode cX10_strike 19 = .ok (.aload_n 0, 1) := by decide +kernel
theorem dX10_strike_20 : decode cX10_strike 20 = .ok (.getfield 71, 3) := by decide +kernel
theorem dX10_strike_23 : decode cX10_strike 23 = .ok (.iconst 2, 1) := by decide +kernel
theorem dX10_strike_24 : decode cX10_strike 24 = .ok (.iload_n 1, 1) := by decide +kernel
theorem dX10_strike_25 : decode cX10_strike 25 = .ok (.iconst 0, 1) := by decide +kernel
theorem dX10_strike_26 : decode cX10_strike 26 = .ok (.iconst 0, 1) := by decide +kernel
theorem dX10_strike_27 : decode cX10_strike 27 = .ok (.iconst 1, 1) := by decide +kernel
theorem dX10_strike_28 : decode cX10_strike 28 = .ok (.invokevirtual 317, 3) := by decide +kernel
theorem dX10_strike_31 : decode cX10_strike 31 = .ok (.ireturn, 1) := by decide +kernel
theorem dX10_known_0 : decode cX10_known 0 = .ok (.iload_n 1, 1) := by decide +kernel
theorem dX10_known_1 : decode cX10_known 1 = .ok (.iconst (-1), 1) := by decide +kernel
theorem dX10_known_2 : decode cX10_known 2 = .ok (.aload_n 0, 1) := by decide +kernel
theorem dX10_known_3 : decode cX10_known 3 = .ok (.getfield 71, 3) := by decide +kernel
theorem dX10_known_6 : decode cX10_known 6 = .ok (.getfield 208, 3) := by decide +kernel
theorem dX10_known_9 : decode cX10_known 9 = .ok (.invokestatic 167, 3) := by decide +kernel
theorem dX10_known_12 : decode cX10_known 12 = .ok (.ifCond .ne 5, 3) := by decide +kernel
theorem dX10_known_15 : decode cX10_known 15 = .ok (.iconst 0, 1) := by decide +kernel
theorem dX10_known_16 : decode cX10_known 16 = .ok (.ireturn, 1) := by decide +kernel
theorem dX10_known_17 : decode cX10_known 17 = .ok (.aload_n 0, 1) := by decide +kernel
theorem dX10_known_18 : decode cX10_known 18 = .ok (.getfield 71, 3) := by decide +kernel
theorem dX10_known_21 : decode cX10_known 21 = .ok (.iload_n 1, 1) := by decide +kernel
theorem dX10_known_22 : decode cX10_known 22 = .ok (.putfield 321, 3) := by decide +kernel
theorem dX10_known_25 : decode cX10_known 25 = .ok (.iconst 1, 1) := by decide +kernel
theorem dX10_known_26 : decode cX10_known 26 = .ok (.ireturn, 1) := by decide +kernel
theorem dX10_whose_0 : decode cX10_whose 0 = .ok (.aload_n 0, 1) := by decide +kernel
theorem dX10_whose_1 : decode cX10_whose 1 = .ok (.getfield 71, 3) := by decide +kernel
theorem dX10_whose_4 : decode cX10_whose 4 = .ok (.invokevirtual 324, 3) := by decide +kernel
theorem dX10_whose_7 : decode cX10_whose 7 = .ok (.iconst 0, 1) := by decide +kernel
theorem dX10_whose_8 : decode cX10_whose 8 = .ok (.istore_n 1, 1) := by decide +kernel
theorem dX10_whose_9 : decode cX10_whose 9 = .ok (.iconst 0, 1) := by decide +kernel
theorem dX10_whose_10 : decode cX10_whose 10 = .ok (.istore_n 2, 1) := by decide +kernel
theorem dX10_whose_11 : decode cX10_whose 11 = .ok (.iload_n 2, 1) := by decide +kernel
theorem dX10_whose_12 : decode cX10_whose 12 = .ok (.aload_n 0, 1) := by decide +kernel
theorem dX10_whose_13 : decode cX10_whose 13 = .ok (.getfield 16, 3) := by decide +kernel
theorem dX10_whose_16 : decode cX10_whose 16 = .ok (.getfield 118, 3) := by decide +kernel
theorem dX10_whose_19 : decode cX10_whose 19 = .ok (.if_icmp .ge 30, 3) := by decide +kernel
theorem dX10_whose_22 : decode cX10_whose 22 = .ok (.aload_n 0, 1) := by decide +kernel
theorem dX10_whose_23 : decode cX10_whose 23 = .ok (.getfield 71, 3) := by decide +kernel
theorem dX10_whose_26 : decode cX10_whose 26 = .ok (.aload_n 0, 1) := by decide +kernel
theorem dX10_whose_27 : decode cX10_whose 27 = .ok (.getfield 16, 3) := by decide +kernel
theorem dX10_whose_30 : decode cX10_whose 30 = .ok (.iload_n 2, 1) := by decide +kernel
theorem dX10_whose_31 : decode cX10_whose 31 = .ok (.invokevirtual 327, 3) := by decide +kernel
theorem dX10_whose_34 : decode cX10_whose 34 = .ok (.ifCond .eq 9, 3) := by decide +kernel
theorem dX10_whose_37 : decode cX10_whose 37 = .ok (.iload_n 1, 1) := by decide +kernel
theorem dX10_whose_38 : decode cX10_whose 38 = .ok (.iconst 1, 1) := by decide +kernel
theorem dX10_whose_39 : decode cX10_whose 39 = .ok (.iload_n 2, 1) := by decide +kernel
theorem dX10_whose_40 : decode cX10_whose 40 = .ok (.ishl, 1) := by decide +kernel
theorem dX10_whose_41 : decode cX10_whose 41 = .ok (.ior, 1) := by decide +kernel
theorem dX10_whose_42 : decode cX10_whose 42 = .ok (.istore_n 1, 1) := by decide +kernel
theorem dX10_whose_43 : decode cX10_whose 43 = .ok (.iinc 2 1, 3) := by decide +kernel
theorem dX10_whose_46 : decode cX10_whose 46 = .ok (.goto (-35), 3) := by decide +kernel
theorem dX10_whose_49 : decode cX10_whose 49 = .ok (.iload_n 1, 1) := by decide +kernel
theorem dX10_whose_50 : decode cX10_whose 50 = .ok (.ireturn, 1) := by decide +kernel
theorem dX10_ask_0 : decode cX10_ask 0 = .ok (.iload_n 1, 1) := by decide +kernel
theorem dX10_ask_1 : decode cX10_ask 1 = .ok (.iconst 0, 1) := by decide +kernel
theorem dX10_ask_2 : decode cX10_ask 2 = .ok (.iconst 1, 1) := by decide +kernel
theorem dX10_ask_3 : decode cX10_ask 3 = .ok (.invokestatic 167, 3) := by decide +kernel
theorem dX10_ask_6 : decode cX10_ask 6 = .ok (.ifCond .ne 5, 3) := by decide +kernel
theorem dX10_ask_9 : decode cX10_ask 9 = .ok (.iconst (-1), 1) := by decide +kernel
theorem dX10_ask_10 : decode cX10_ask 10 = .ok (.ireturn, 1) := by decide +kernel
theorem dX10_ask_11 : decode cX10_ask 11 = .ok (.aload_n 0, 1) := by decide +kernel
theorem dX10_ask_12 : decode cX10_ask 12 = .ok (.invokevirtual 331, 3) := by decide +kernel
theorem dX10_ask_15 : decode cX10_ask 15 = .ok (.istore_n 2, 1) := by decide +kernel
theorem dX10_ask_16 : decode cX10_ask 16 = .ok (.iconst 0, 1) := by decide +kernel
theorem dX10_ask_17 : decode cX10_ask 17 = .ok (.istore_n 3, 1) := by decide +kernel
theorem dX10_ask_18 : decode cX10_ask 18 = .ok (.aload_n 0, 1) := by decide +kernel
theorem dX10_ask_19 : decode cX10_ask 19 = .ok (.getfield 16, 3) := by decide +kernel
theorem dX10_ask_22 : decode cX10_ask 22 = .ok (.iload_n 2, 1) := by decide +kernel
theorem dX10_ask_23 : decode cX10_ask 23 = .ok (.iconst 0, 1) := by decide +kernel
theorem dX10_ask_24 : decode cX10_ask 24 = .ok (.invokevirtual 334, 3) := by decide +kernel
theorem dX10_ask_27 : decode cX10_ask 27 = .ok (.istore 4, 2) := by decide +kernel
theorem dX10_ask_29 : decode cX10_ask 29 = .ok (.iconst 1, 1) := by decide +kernel
theorem dX10_ask_30 : decode cX10_ask 30 = .ok (.istore 5, 2) := by decide +kernel
theorem dX10_ask_32 : decode cX10_ask 32 = .ok (.iload 5, 2) := by decide +kernel
theorem dX10_ask_34 : decode cX10_ask 34 = .ok (.bipush 23, 2) := by decide +kernel
theorem dX10_ask_36 : decode cX10_ask 36 = .ok (.if_icmp .gt 35, 3) := by decide +kernel
theorem dX10_ask_39 : decode cX10_ask 39 = .ok (.aload_n 0, 1) := by decide +kernel
theorem dX10_ask_40 : decode cX10_ask 40 = .ok (.getfield 16, 3) := by decide +kernel
theorem dX10_ask_43 : decode cX10_ask 43 = .ok (.iload_n 2, 1) := by decide +kernel
theorem dX10_ask_44 : decode cX10_ask 44 = .ok (.iload 5, 2) := by decide +kernel
theorem dX10_ask_46 : decode cX10_ask 46 = .ok (.invokevirtual 334, 3) := by decide +kernel
theorem dX10_ask_49 : decode cX10_ask 49 = .ok (.istore 6, 2) := by decide +kernel
theorem dX10_ask_51 : decode cX10_ask 51 = .ok (.iload 6, 2) := by decide +kernel
theorem dX10_ask_53 : decode cX10_ask 53 = .ok (.iload 4, 2) := by decide +kernel
theorem dX10_ask_55 : decode cX10_ask 55 = .ok (.if_icmp .ge 10, 3) := by decide +kernel
theorem dX10_ask_58 : decode cX10_ask 58 = .ok (.iload 6, 2) := by decide +kernel
theorem dX10_ask_60 : decode cX10_ask 60 = .ok (.istore 4, 2) := by decide +kernel
theorem dX10_ask_62 : decode cX10_ask 62 = .ok (.iload 5, 2) := by decide +kernel
theorem dX10_ask_64 : decode cX10_ask 64 = .ok (.istore_n 3, 1) := by decide +kernel
theorem dX10_ask_65 : decode cX10_ask 65 = .ok (.iinc 5 1, 3) := by decide +kernel
theorem dX10_ask_68 : decode cX10_ask 68 = .ok (.goto (-36), 3) := by decide +kernel
theorem dX10_ask_71 : decode cX10_ask 71 = .ok (.iload_n 1, 1) := by decide +kernel
theorem dX10_ask_72 : decode cX10_ask 72 = .ok (.ifCond .ne 7, 3) := by decide +kernel
theorem dX10_ask_75 : decode cX10_ask 75 = .ok (.iload_n 3, 1) := by decide +kernel
theorem dX10_ask_76 : decode cX10_ask 76 = .ok (.goto 5, 3) := by decide +kernel
theorem dX10_ask_79 : decode cX10_ask 79 = .ok (.iload 4, 2) := by decide +kernel
theorem dX10_ask_81 : decode cX10_ask 81 = .ok (.ireturn, 1) := by decide +kernel
theorem dX10_nears_0 : decode cX10_nears 0 = .ok (.aload_n 0, 1) := by decide +kernel
theorem dX10_nears_1 : decode cX10_nears 1 = .ok (.getfield 71, 3) := by decide +kernel
theorem dX10_nears_4 : decode cX10_nears 4 = .ok (.invokevirtual 324, 3) := by decide +kernel
theorem dX10_nears_7 : decode cX10_nears 7 = .ok (.aload_n 0, 1) := by decide +kernel
theorem dX10_nears_8 : decode cX10_nears 8 = .ok (.getfield 71, 3) := by decide +kernel
theorem dX10_nears_11 : decode cX10_nears 11 = .ok (.invokevirtual 337, 3) := by decide +kernel
theorem dX10_nears_14 : decode cX10_nears 14 = .ok (.istore_n 1, 1) := by decide +kernel
theorem dX10_nears_15 : decode cX10_nears 15 = .ok (.iconst 0, 1) := by decide +kernel
theorem dX10_nears_16 : decode cX10_nears 16 = .ok (.istore_n 2, 1) := by decide +kernel
theorem dX10_nears_17 : decode cX10_nears 17 = .ok (.aload_n 0, 1) := by decide +kernel
theorem dX10_nears_18 : decode cX10_nears 18 = .ok (.getfield 35, 3) := by decide +kernel
theorem dX10_nears_21 : decode cX10_nears 21 = .ok (.invokevirtual 78, 3) := by decide +kernel
theorem dX10_nears_24 : decode cX10_nears 24 = .ok (.iconst 0, 1) := by decide +kernel
theorem dX10_nears_25 : decode cX10_nears 25 = .ok (.istore_n 3, 1) := by decide +kernel
theorem dX10_nears_26 : decode cX10_nears 26 = .ok (.iload_n 3, 1) := by decide +kernel
theorem dX10_nears_27 : decode cX10_nears 27 = .ok (.bipush 9, 2) := by decide +kernel
theorem dX10_nears_29 : decode cX10_nears 29 = .ok (.if_icmp .gt 89, 3) := by decide +kernel
theorem dX10_nears_32 : decode cX10_nears 32 = .ok (.aload_n 0, 1) := by decide +kernel
theorem dX10_nears_33 : decode cX10_nears 33 = .ok (.getfield 35, 3) := by decide +kernel
theorem dX10_nears_36 : decode cX10_nears 36 = .ok (.iload_n 3, 1) := by decide +kernel
theorem dX10_nears_37 : decode cX10_nears 37 = .ok (.putfield 340, 3) := by decide +kernel
theorem dX10_nears_40 : decode cX10_nears 40 = .ok (.aload_n 0, 1) := by decide +kernel
theorem dX10_nears_41 : decode cX10_nears 41 = .ok (.getfield 55, 3) := by decide +kernel
theorem dX10_nears_44 : decode cX10_nears 44 = .ok (.aload_n 0, 1) := by decide +kernel
theorem dX10_nears_45 : decode cX10_nears 45 = .ok (.getfield 16, 3) := by decide +kernel
theorem dX10_nears_48 : decode cX10_nears 48 = .ok (.invokevirtual 81, 3) := by decide +kernel
theorem dX10_nears_51 : decode cX10_nears 51 = .ok (.iconst 1, 1) := by decide +kernel
theorem dX10_nears_52 : decode cX10_nears 52 = .ok (.istore 4, 2) := by decide +kernel
theorem dX10_nears_54 : decode cX10_nears 54 = .ok (.iconst 1, 1) := by decide +kernel
theorem dX10_nears_55 : decode cX10_nears 55 = .ok (.istore 5, 2) := by decide +kernel
theorem dX10_nears_57 : decode cX10_nears 57 = .ok (.iload 5, 2) := by decide +kernel
theorem dX10_nears_59 : decode cX10_nears 59 = .ok (.iload_n 1, 1) := by decide +kernel
theorem dX10_nears_60 : decode cX10_nears 60 = .ok (.if_icmp .gt 41, 3) := by decide +kernel
theorem dX10_nears_63 : decode cX10_nears 63 = .ok (.iload 4, 2) := by decide +kernel
theorem dX10_nears_65 : decode cX10_nears 65 = .ok (.ifCond .eq 36, 3) := by decide +kernel
theorem dX10_nears_68 : decode cX10_nears 68 = .ok (.aload_n 0, 1) := by decide +kernel
theorem dX10_nears_69 : decode cX10_nears 69 = .ok (.getfield 35, 3) := by decide +kernel
theorem dX10_nears_72 : decode cX10_nears 72 = .ok (.aload_n 0, 1) := by decide +kernel
theorem dX10_nears_73 : decode cX10_nears 73 = .ok (.getfield 55, 3) := by decide +kernel
theorem dX10_nears_76 : decode cX10_nears 76 = .ok (.iconst 1, 1) := by decide +kernel
theorem dX10_nears_77 : decode cX10_nears 77 = .ok (.invokevirtual 227, 3) := by decide +kernel
theorem dX10_nears_80 : decode cX10_nears 80 = .ok (.aload_n 0, 1) := by decide +kernel
theorem dX10_nears_81 : decode cX10_nears 81 = .ok (.getfield 71, 3) := by decide +kernel
theorem dX10_nears_84 : decode cX10_nears 84 = .ok (.aload_n 0, 1) := by decide +kernel
theorem dX10_nears_85 : decode cX10_nears 85 = .ok (.getfield 55, 3) := by decide +kernel
theorem dX10_nears_88 : decode cX10_nears 88 = .ok (.iload 5, 2) := by decide +kernel
theorem dX10_nears_90 : decode cX10_nears 90 = .ok (.invokevirtual 343, 3) := by decide +kernel
theorem dX10_nears_93 : decode cX10_nears 93 = .ok (.istore 4, 2) := by decide +kernel
theorem dX10_nears_95 : decode cX10_nears 95 = .ok (.iinc 5 1, 3) := by decide +kernel
theorem dX10_nears_98 : decode cX10_nears 98 = .ok (.goto (-41), 3) := by decide +kernel
theorem dX10_nears_101 : decode cX10_nears 101 = .ok (.iload 4, 2) := by decide +kernel
theorem dX10_nears_103 : decode cX10_nears 103 = .ok (.ifCond .eq 9, 3) := by decide +kernel
theorem dX10_nears_106 : decode cX10_nears 106 = .ok (.iload_n 2, 1) := by decide +kernel
theorem dX10_nears_107 : decode cX10_nears 107 = .ok (.iconst 1, 1) := by decide +kernel
theorem dX10_nears_108 : decode cX10_nears 108 = .ok (.iload_n 3, 1) := by decide +kernel
theorem dX10_nears_109 : decode cX10_nears 109 = .ok (.ishl, 1) := by decide +kernel
theorem dX10_nears_110 : decode cX10_nears 110 = .ok (.ior, 1) := by decide +kernel
theorem dX10_nears_111 : decode cX10_nears 111 = .ok (.istore_n 2, 1) := by decide +kernel
theorem dX10_nears_112 : decode cX10_nears 112 = .ok (.iinc 3 1, 3) := by decide +kernel
theorem dX10_nears_115 : decode cX10_nears 115 = .ok (.goto (-89), 3) := by decide +kernel
theorem dX10_nears_118 : decode cX10_nears 118 = .ok (.aload_n 0, 1) := by decide +kernel
theorem dX10_nears_119 : decode cX10_nears 119 = .ok (.getfield 35, 3) := by decide +kernel
theorem dX10_nears_122 : decode cX10_nears 122 = .ok (.invokevirtual 78, 3) := by decide +kernel
theorem dX10_nears_125 : decode cX10_nears 125 = .ok (.iload_n 2, 1) := by decide +kernel
theorem dX10_nears_126 : decode cX10_nears 126 = .ok (.ireturn, 1) := by decide +kernel
theorem dX11_init_0 : decode cX11_init 0 = .ok (.aload_n 0, 1) := by decide +kernel
theorem dX11_init_1 : decode cX11_init 1 = .ok (.invokespecial 1, 3) := by decide +kernel
theorem dX11_init_4 : decode cX11_init 4 = .ok (.aload_n 0, 1) := by decide +kernel
theorem dX11_init_5 : decode cX11_init 5 = .ok (.sipush 700, 3) := by decide +kernel
theorem dX11_init_8 : decode cX11_init 8 = .ok (.newarray .int, 2) := by decide +kernel
theorem dX11_init_10 : decode cX11_init 10 = .ok (.putfield 7, 3) := by decide +kernel
theorem dX11_init_13 : decode cX11_init 13 = .ok (.aload_n 0, 1) := by decide +kernel
theorem dX11_init_14 : decode cX11_init 14 = .ok (.bipush 107, 2) := by decide +kernel
theorem dX11_init_16 : decode cX11_init 16 = .ok (.newarray .int, 2) := by decide +kernel
theorem dX11_init_18 : decode cX11_init 18 = .ok (.dup, 1) := by decide +kernel
theorem dX11_init_19 : decode cX11_init 19 = .ok (.iconst 0, 1) := by decide +kernel
theorem dX11_init_20 : decode cX11_init 20 = .ok (.bipush 104, 2) := by decide +kernel
theorem dX11_init_22 : decode cX11_init 22 = .ok (.iastore, 1) := by decide +kernel
theorem dX11_init_23 : decode cX11_init 23 = .ok (.dup, 1) := by decide +kernel
theorem dX11_init_24 : decode cX11_init 24 = .ok (.iconst 1, 1) := by decide +kernel
theorem dX11_init_25 : decode cX11_init 25 = .ok (.bipush 111, 2) := by decide +kernel
theorem dX11_init_27 : decode cX11_init 27 = .ok (.iastore, 1) := by decide +kernel
theorem dX11_init_28 : decode cX11_init 28 = .ok (.dup, 1) := by decide +kernel
theorem dX11_init_29 : decode cX11_init 29 = .ok (.iconst 2, 1) := by decide +kernel
theorem dX11_init_30 : decode cX11_init 30 = .ok (.bipush 117, 2) := by decide +kernel
theorem dX11_init_32 : decode cX11_init 32 = .ok (.iastore, 1) := by decide +kernel
theorem dX11_init_33 : decode cX11_init 33 = .ok (.dup, 1) := by decide +kernel
theorem dX11_init_34 : decode cX11_init 34 = .ok (.iconst 3, 1) := by decide +kernel
theorem dX11_init_35 : decode cX11_init 35 = .ok (.bipush 115, 2) := by decide +kernel
theorem dX11_init_37 : decode cX11_init 37 = .ok (.iastore, 1) := by decide +kernel
theorem dX11_init_38 : decode cX11_init 38 = .ok (.dup, 1) := by decide +kernel
theorem dX11_init_39 : decode cX11_init 39 = .ok (.iconst 4, 1) := by decide +kernel
theorem dX11_init_40 : decode cX11_init 40 = .ok (.bipush 101, 2) := by decide +kernel
theorem dX11_init_42 : decode cX11_init 42 = .ok (.iastore, 1) := by decide +kernel
theorem dX11_init_43 : decode cX11_init 43 = .ok (.dup, 1) := by decide +kernel
theorem dX11_init_44 : decode cX11_init 44 = .ok (.iconst 5, 1) := by decide +kernel
theorem dX11_init_45 : decode cX11_init 45 = .ok (.bipush 32, 2) := by decide +kernel
theorem dX11_init_47 : decode cX11_init 47 = .ok (.iastore, 1) := by decide +kernel
theorem dX11_init_48 : decode cX11_init 48 = .ok (.dup, 1) := by decide +kernel
theorem dX11_init_49 : decode cX11_init 49 = .ok (.bipush 6, 2) := by decide +kernel
theorem dX11_init_51 : decode cX11_init 51 = .ok (.bipush 116, 2) := by decide +kernel
theorem dX11_init_53 : decode cX11_init 53 = .ok (.iastore, 1) := by decide +kernel
theorem dX11_init_54 : decode cX11_init 54 = .ok (.dup, 1) := by decide +kernel
theorem dX11_init_55 : decode cX11_init 55 = .ok (.bipush 7, 2) := by decide +kernel
theorem dX11_init_57 : decode cX11_init 57 = .ok (.bipush 117, 2) := by decide +kernel
theorem dX11_init_59 : decode cX11_init 59 = .ok (.iastore, 1) := by decide +kernel
theorem dX11_init_60 : decode cX11_init 60 = .ok (.dup, 1) := by decide +kernel
theorem dX11_init_61 : decode cX11_init 61 = .ok (.bipush 8, 2) := by decide +kernel
theorem dX11_init_63 : decode cX11_init 63 = .ok (.bipush 114, 2) := by decide +kernel
theorem dX11_init_65 : decode cX11_init 65 = .ok (.iastore, 1) := by decide +kernel
theorem dX11_init_66 : decode cX11_init 66 = .ok (.dup, 1) := by decide +kernel
theorem dX11_init_67 : decode cX11_init 67 = .ok (.bipush 9, 2) := by decide +kernel
theorem dX11_init_69 : decode cX11_init 69 = .ok (.bipush 110, 2) := by decide +kernel
theorem dX11_init_71 : decode cX11_init 71 = .ok (.iastore, 1) := by decide +kernel
theorem dX11_init_72 : decode cX11_init 72 = .ok (.dup, 1) := by decide +kernel
theorem dX11_init_73 : decode cX11_init 73 = .ok (.bipush 10, 2) := by decide +kernel
theorem dX11_init_75 : decode cX11_init 75 = .ok (.bipush 32, 2) := by decide +kernel
theorem dX11_init_77 : decode cX11_init 77 = .ok (.iastore, 1) := by decide +kernel
theorem dX11_init_78 : decode cX11_init 78 = .ok (.dup, 1) := by decide +kernel
theorem dX11_init_79 : decode cX11_init 79 = .ok (.bipush 11, 2) := by decide +kernel
theorem dX11_init_81 : decode cX11_init 81 = .ok (.bipush 115, 2) := by decide +kernel
theorem dX11_init_83 : decode cX11_init 83 = .ok (.iastore, 1) := by decide +kernel
theorem dX11_init_84 : decode cX11_init 84 = .ok (.dup, 1) := by decide +kernel
theorem dX11_init_85 : decode cX11_init 85 = .ok (.bipush 12, 2) := by decide +kernel
theorem dX11_init_87 : decode cX11_init 87 = .ok (.bipush 111, 2) := by decide +kernel
theorem dX11_init_89 : decode cX11_init 89 = .ok (.iastore, 1) := by decide +kernel
theorem dX11_init_90 : decode cX11_init 90 = .ok (.dup, 1) := by decide +kernel
theorem dX11_init_91 : decode cX11_init 91 = .ok (.bipush 13, 2) := by decide +kernel
theorem dX11_init_93 : decode cX11_init 93 = .ok (.bipush 117, 2) := by decide +kernel
theorem dX11_init_95 : decode cX11_init 95 = .ok (.iastore, 1) := by decide +kernel
theorem dX11_init_96 : decode cX11_init 96 = .ok (.dup, 1) := by decide +kernel
theorem dX11_init_97 : decode cX11_init 97 = .ok (.bipush 14, 2) := by decide +kernel
theorem dX11_init_99 : decode cX11_init 99 = .ok (.bipush 110, 2) := by decide +kernel
theorem dX11_init_101 : decode cX11_init 101 = .ok (.iastore, 1) := by decide +kernel
theorem dX11_init_102 : decode cX11_init 102 = .ok (.dup, 1) := by decide +kernel
theorem dX11_init_103 : decode cX11_init 103 = .ok (.bipush 15, 2) := by decide +kernel
theorem dX11_init_105 : decode cX11_init 105 = .ok (.bipush 100, 2) := by decide +kernel
theorem dX11_init_107 : decode cX11_init 107 = .ok (.iastore, 1) := by decide +kernel
theorem dX11_init_108 : decode cX11_init 108 = .ok (.dup, 1) := by decide +kernel
theorem dX11_init_109 : decode cX11_init 109 = .ok (.bipush 16, 2) := by decide +kernel
theorem dX11_init_111 : decode cX11_init 111 = .ok (.bipush 32, 2) := by decide +kernel
theorem dX11_init_113 : decode cX11_init 113 = .ok (.iastore, 1) := by decide +kernel
theorem dX11_init_114 : decode cX11_init 114 = .ok (.dup, 1) := by decide +kernel
theorem dX11_init_115 : decode cX11_init 115 = .ok (.bipush 17, 2) := by decide +kernel
theorem dX11_init_117 : decode cX11_init 117 = .ok (.bipush 110, 2) := by decide +kernel
theorem dX11_init_119 : decode cX11_init 119 = .ok (.iastore, 1) := by decide +kernel
theorem dX11_init_120 : decode cX11_init 120 = .ok (.dup, 1) := by decide +kernel
theorem dX11_init_121 : decode cX11_init 121 = .ok (.bipush 18, 2) := by decide +kernel
theorem dX11_init_123 : decode cX11_init 123 = .ok (.bipush 101, 2) := by decide +kernel
theorem dX11_init_125 : decode cX11_init 125 = .ok (.iastore, 1) := by decide +kernel
theorem dX11_init_126 : decode cX11_init 126 = .ok (.dup, 1) := by decide +kernel
theorem dX11_init_127 : decode cX11_init 127 = .ok (.bipush 19, 2) := by decide +kernel
theorem dX11_init_129 : decode cX11_init 129 = .ok (.bipush 97, 2) := by decide +kernel
theorem dX11_init_131 : decode cX11_init 131 = .ok (.iastore, 1) := by decide +kernel
theorem dX11_init_132 : decode cX11_init 132 = .ok (.dup, 1) := by decide +kernel
theorem dX11_init_133 : decode cX11_init 133 = .ok (.bipush 20, 2) := by decide +kernel
theorem dX11_init_135 : decode cX11_init 135 = .ok (.bipush 114, 2) := by decide +kernel
theorem dX11_init_137 : decode cX11_init 137 = .ok (.iastore, 1) := by decide +kernel
theorem dX11_init_138 : decode cX11_init 138 = .ok (.dup, 1) := by decide +kernel
theorem dX11_init_139 : decode cX11_init 139 = .ok (.bipush 21, 2) := by decide +kernel
theorem dX11_init_141 : decode cX11_init 141 = .ok (.bipush 32, 2) := by decide +kernel
theorem dX11_init_143 : decode cX11_init 143 = .ok (.iastore, 1) := by decide +kernel
theorem dX11_init_144 : decode cX11_init 144 = .ok (.dup, 1) := by decide +kernel
theorem dX11_init_145 : decode cX11_init 145 = .ok (.bipush 22, 2) := by decide +kernel
theorem dX11_init_147 : decode cX11_init 147 = .ok (.bipush 111, 2) := by decide +kernel
theorem dX11_init_149 : decode cX11_init 149 = .ok (.iastore, 1) := by decide +kernel
theorem dX11_init_150 : decode cX11_init 150 = .ok (.dup, 1) := by decide +kernel
theorem dX11_init_151 : decode cX11_init 151 = .ok (.bipush 23, 2) := by decide +kernel
theorem dX11_init_153 : decode cX11_init 153 = .ok (.bipush 102, 2) := by decide +kernel
theorem dX11_init_155 : decode cX11_init 155 = .ok (.iastore, 1) := by decide +kernel
theorem dX11_init_156 : decode cX11_init 156 = .ok (.dup, 1) := by decide +kernel
theorem dX11_init_157 : decode cX11_init 157 = .ok (.bipush 24, 2) := by decide +kernel
theorem dX11_init_159 : decode cX11_init 159 = .ok (.bipush 116, 2) := by decide +kernel
theorem dX11_init_161 : decode cX11_init 161 = .ok (.iastore, 1) := by decide +kernel
theorem dX11_init_162 : decode cX11_init 162 = .ok (.dup, 1) := by decide +kernel
theorem dX11_init_163 : decode cX11_init 163 = .ok (.bipush 25, 2) := by decide +kernel
theorem dX11_init_165 : decode cX11_init 165 = .ok (.bipush 101, 2) := by decide +kernel
theorem dX11_init_167 : decode cX11_init 167 = .ok (.iastore, 1) := by decide +kernel
theorem dX11_init_168 : decode cX11_init 168 = .ok (.dup, 1) := by decide +kernel
theorem dX11_init_169 : decode cX11_init 169 = .ok (.bipush 26, 2) := by decide +kernel
theorem dX11_init_171 : decode cX11_init 171 = .ok (.bipush 110, 2) := by decide +kernel
theorem dX11_init_173 : decode cX11_init 173 = .ok (.iastore, 1) := by decide +kernel
theorem dX11_init_174 : decode cX11_init 174 = .ok (.dup, 1) := by decide +kernel
theorem dX11_init_175 : decode cX11_init 175 = .ok (.bipush 27, 2) := by decide +kernel
theorem dX11_init_177 : decode cX11_init 177 = .ok (.bipush 32, 2) := by decide +kernel
theorem dX11_init_179 : decode cX11_init 179 = .ok (.iastore, 1) := by decide +kernel
theorem dX11_init_180 : decode cX11_init 180 = .ok (.dup, 1) := by decide +kernel
theorem dX11_init_181 : decode cX11_init 181 = .ok (.bipush 28, 2) := by decide +kernel
theorem dX11_init_183 : decode cX11_init 183 = .ok (.bipush 102, 2) := by decide +kernel
theorem dX11_init_185 : decode cX11_init 185 = .ok (.iastore, 1) := by decide +kernel
theorem dX11_init_186 : decode cX11_init 186 = .ok (.dup, 1) := by decide +kernel
theorem dX11_init_187 : decode cX11_init 187 = .ok (.bipush 29, 2) := by decide +kernel
theorem dX11_init_189 : decode cX11_init 189 = .ok (.bipush 97, 2) := by decide +kernel
theorem dX11_init_191 : decode cX11_init 191 = .ok (.iastore, 1) := by decide +kernel
theorem dX11_init_192 : decode cX11_init 192 = .ok (.dup, 1) := by decide +kernel
theorem dX11_init_193 : decode cX11_init 193 = .ok (.bipush 30, 2) := by decide +kernel
theorem dX11_init_195 : decode cX11_init 195 = .ok (.bipush 100, 2) := by decide +kernel
theorem dX11_init_197 : decode cX11_init 197 = .ok (.iastore, 1) := by decide +kernel
theorem dX11_init_198 : decode cX11_init 198 = .ok (.dup, 1) := by decide +kernel
theorem dX11_init_199 : decode cX11_init 199 = .ok (.bipush 31, 2) := by decide +kernel
theorem dX11_init_201 : decode cX11_init 201 = .ok (.bipush 101, 2) := by decide +kernel
theorem dX11_init_203 : decode cX11_init 203 = .ok (.iastore, 1) := by decide +kernel
theorem dX11_init_204 : decode cX11_init 204 = .ok (.dup, 1) := by decide +kernel
theorem dX11_init_205 : decode cX11_init 205 = .ok (.bipush 32, 2) := by decide +kernel
theorem dX11_init_207 : decode cX11_init 207 = .ok (.bipush 32, 2) := by decide +kernel
theorem dX11_init_209 : decode cX11_init 209 = .ok (.iastore, 1) := by decide +kernel
theorem dX11_init_210 : decode cX11_init 210 = .ok (.dup, 1) := by decide +kernel
theorem dX11_init_211 : decode cX11_init 211 = .ok (.bipush 33, 2) := by decide +kernel
theorem dX11_init_213 : decode cX11_init 213 = .ok (.bipush 115, 2) := by decide +kernel
theorem dX11_init_215 : decode cX11_init 215 = .ok (.iastore, 1) := by decide +kernel
theorem dX11_init_216 : decode cX11_init 216 = .ok (.dup, 1) := by decide +kernel
theorem dX11_init_217 : decode cX11_init 217 = .ok (.bipush 34, 2) := by decide +kernel
theorem dX11_init_219 : decode cX11_init 219 = .ok (.bipush 101, 2) := by decide +kernel
theorem dX11_init_221 : decode cX11_init 221 = .ok (.iastore, 1) := by decide +kernel
theorem dX11_init_222 : decode cX11_init 222 = .ok (.dup, 1) := by decide +kernel
theorem dX11_init_223 : decode cX11_init 223 = .ok (.bipush 35, 2) := by decide +kernel
theorem dX11_init_225 : decode cX11_init 225 = .ok (.bipush 101, 2) := by decide +kernel
theorem dX11_init_227 : decode cX11_init 227 = .ok (.iastore, 1) := by decide +kernel
theorem dX11_init_228 : decode cX11_init 228 = .ok (.dup, 1) := by decide +kernel
theorem dX11_init_229 : decode cX11_init 229 = .ok (.bipush 36, 2) := by decide +kernel
theorem dX11_init_231 : decode cX11_init 231 = .ok (.bipush 100, 2) := by decide +kernel
theorem dX11_init_233 : decode cX11_init 233 = .ok (.iastore, 1) := by decide +kernel
theorem dX11_init_234 : decode cX11_init 234 = .ok (.dup, 1) := by decide +kernel
theorem dX11_init_235 : decode cX11_init 235 = .ok (.bipush 37, 2) := by decide +kernel
theorem dX11_init_237 : decode cX11_init 237 = .ok (.bipush 32, 2) := by decide +kernel
theorem dX11_init_239 : decode cX11_init 239 = .ok (.iastore, 1) := by decide +kernel
theorem dX11_init_240 : decode cX11_init 240 = .ok (.dup, 1) := by decide +kernel
theorem dX11_init_241 : decode cX11_init 241 = .ok (.bipush 38, 2) := by decide +kernel
theorem dX11_init_243 : decode cX11_init 243 = .ok (.bipush 108, 2) := by decide +kernel
theorem dX11_init_245 : decode cX11_init 245 = .ok (.iastore, 1) := by decide +kernel
theorem dX11_init_246 : decode cX11_init 246 = .ok (.dup, 1) := by decide +kernel
theorem dX11_init_247 : decode cX11_init 247 = .ok (.bipush 39, 2) := by decide +kernel
theorem dX11_init_249 : decode cX11_init 249 = .ok (.bipush 97, 2) := by decide +kernel
theorem dX11_init_251 : decode cX11_init 251 = .ok (.iastore, 1) := by decide +kernel
theorem dX11_init_252 : decode cX11_init 252 = .ok (.dup, 1) := by decide +kernel
theorem dX11_init_253 : decode cX11_init 253 = .ok (.bipush 40, 2) := by decide +kernel
theorem dX11_init_255 : decode cX11_init 255 = .ok (.bipush 119, 2) := by decide +kernel
theorem dX11_init_257 : decode cX11_init 257 = .ok (.iastore, 1) := by decide +kernel
theorem dX11_init_258 : decode cX11_init 258 = .ok (.dup, 1) := by decide +kernel
theorem dX11_init_259 : decode cX11_init 259 = .ok (.bipush 41, 2) := by decide +kernel
theorem dX11_init_261 : decode cX11_init 261 = .ok (.bipush 32, 2) := by decide +kernel
theorem dX11_init_263 : decode cX11_init 263 = .ok (.iastore, 1) := by decide +kernel
theorem dX11_init_264 : decode cX11_init 264 = .ok (.dup, 1) := by decide +kernel
theorem dX11_init_265 : decode cX11_init 265 = .ok (.bipush 42, 2) := by decide +kernel
theorem dX11_init_267 : decode cX11_init 267 = .ok (.bipush 114, 2) := by decide +kernel
theorem dX11_init_269 : decode cX11_init 269 = .ok (.iastore, 1) := by decide +kernel
theorem dX11_init_270 : decode cX11_init 270 = .ok (.dup, 1) := by decide +kernel
theorem dX11_init_271 : decode cX11_init 271 = .ok (.bipush 43, 2) := by decide +kernel
theorem dX11_init_273 : decode cX11_init 273 = .ok (.bipush 101, 2) := by decide +kernel
theorem dX11_init_275 : decode cX11_init 275 = .ok (.iastore, 1) := by decide +kernel
theorem dX11_init_276 : decode cX11_init 276 = .ok (.dup, 1) := by decide +kernel
theorem dX11_init_277 : decode cX11_init 277 = .ok (.bipush 44, 2) := by decide +kernel
theorem dX11_init_279 : decode cX11_init 279 = .ok (.bipush 97, 2) := by decide +kernel
theorem dX11_init_281 : decode cX11_init 281 = .ok (.iastore, 1) := by decide +kernel
theorem dX11_init_282 : decode cX11_init 282 = .ok (.dup, 1) := by decide +kernel
theorem dX11_init_283 : decode cX11_init 283 = .ok (.bipush 45, 2) := by decide +kernel
theorem dX11_init_285 : decode cX11_init 285 = .ok (.bipush 99, 2) := by decide +kernel
theorem dX11_init_287 : decode cX11_init 287 = .ok (.iastore, 1) := by decide +kernel
theorem dX11_init_288 : decode cX11_init 288 = .ok (.dup, 1) := by decide +kernel
theorem dX11_init_289 : decode cX11_init 289 = .ok (.bipush 46, 2) := by decide +kernel
theorem dX11_init_291 : decode cX11_init 291 = .ok (.bipush 104, 2) := by decide +kernel
theorem dX11_init_293 : decode cX11_init 293 = .ok (.iastore, 1) := by decide +kernel
theorem dX11_init_294 : decode cX11_init 294 = .ok (.dup, 1) := by decide +kernel
theorem dX11_init_295 : decode cX11_init 295 = .ok (.bipush 47, 2) := by decide +kernel
theorem dX11_init_297 : decode cX11_init 297 = .ok (.bipush 32, 2) := by decide +kernel
theorem dX11_init_299 : decode cX11_init 299 = .ok (.iastore, 1) := by decide +kernel
theorem dX11_init_300 : decode cX11_init 300 = .ok (.dup, 1) := by decide +kernel
theorem dX11_init_301 : decode cX11_init 301 = .ok (.bipush 48, 2) := by decide +kernel
theorem dX11_init_303 : decode cX11_init 303 = .ok (.bipush 108, 2) := by decide +kernel
theorem dX11_init_305 : decode cX11_init 305 = .ok (.iastore, 1) := by decide +kernel
theorem dX11_init_306 : decode cX11_init 306 = .ok (.dup, 1) := by decide +kernel
theorem dX11_init_307 : decode cX11_init 307 = .ok (.bipush 49, 2) := by decide +kernel
theorem dX11_init_309 : decode cX11_init 309 = .ok (.bipush 101, 2) := by decide +kernel
theorem dX11_init_311 : decode cX11_init 311 = .ok (.iastore, 1) := by decide +kernel
theorem dX11_init_312 : decode cX11_init 312 = .ok (.dup, 1) := by decide +kernel
theorem dX11_init_313 : decode cX11_init 313 = .ok (.bipush 50, 2) := by decide +kernel
theorem dX11_init_315 : decode cX11_init 315 = .ok (.bipush 97, 2) := by decide +kernel
theorem dX11_init_317 : decode cX11_init 317 = .ok (.iastore, 1) := by decide +kernel
theorem dX11_init_318 : decode cX11_init 318 = .ok (.dup, 1) := by decide +kernel
theorem dX11_init_319 : decode cX11_init 319 = .ok (.bipush 51, 2) := by decide +kernel
theorem dX11_init_321 : decode cX11_init 321 = .ok (.bipush 114, 2) := by decide +kernel
theorem dX11_init_323 : decode cX11_init 323 = .ok (.iastore, 1) := by decide +kernel
theorem dX11_init_324 : decode cX11_init 324 = .ok (.dup, 1) := by decide +kernel
theorem dX11_init_325 : decode cX11_init 325 = .ok (.bipush 52, 2) := by decide +kernel
theorem dX11_init_327 : decode cX11_init 327 = .ok (.bipush 110, 2) := by decide +kernel
theorem dX11_init_329 : decode cX11_init 329 = .ok (.iastore, 1) := by decide +kernel
theorem dX11_init_330 : decode cX11_init 330 = .ok (.dup, 1) := by decide +kernel
theorem dX11_init_331 : decode cX11_init 331 = .ok (.bipush 53, 2) := by decide +kernel
theorem dX11_init_333 : decode cX11_init 333 = .ok (.bipush 32, 2) := by decide +kernel
theorem dX11_init_335 : decode cX11_init 335 = .ok (.iastore, 1) := by decide +kernel
theorem dX11_init_336 : decode cX11_init 336 = .ok (.dup, 1) := by decide +kernel
theorem dX11_init_337 : decode cX11_init 337 = .ok (.bipush 54, 2) := by decide +kernel
theorem dX11_init_339 : decode cX11_init 339 = .ok (.bipush 100, 2) := by decide +kernel
theorem dX11_init_341 : decode cX11_init 341 = .ok (.iastore, 1) := by decide +kernel
theorem dX11_init_342 : decode cX11_init 342 = .ok (.dup, 1) := by decide +kernel
theorem dX11_init_343 : decode cX11_init 343 = .ok (.bipush 55, 2) := by decide +kernel
theorem dX11_init_345 : decode cX11_init 345 = .ok (.bipush 114, 2) := by decide +kernel
theorem dX11_init_347 : decode cX11_init 347 = .ok (.iastore, 1) := by decide +kernel
theorem dX11_init_348 : decode cX11_init 348 = .ok (.dup, 1) := by decide +kernel
theorem dX11_init_349 : decode cX11_init 349 = .ok (.bipush 56, 2) := by decide +kernel
theorem dX11_init_351 : decode cX11_init 351 = .ok (.bipush 105, 2) := by decide +kernel
theorem dX11_init_353 : decode cX11_init 353 = .ok (.iastore, 1) := by decide +kernel
theorem dX11_init_354 : decode cX11_init 354 = .ok (.dup, 1) := by decide +kernel
theorem dX11_init_355 : decode cX11_init 355 = .ok (.bipush 57, 2) := by decide +kernel
theorem dX11_init_357 : decode cX11_init 357 = .ok (.bipush 102, 2) := by decide +kernel
theorem dX11_init_359 : decode cX11_init 359 = .ok (.iastore, 1) := by decide +kernel
theorem dX11_init_360 : decode cX11_init 360 = .ok (.dup, 1) := by decide +kernel
theorem dX11_init_361 : decode cX11_init 361 = .ok (.bipush 58, 2) := by decide +kernel
theorem dX11_init_363 : decode cX11_init 363 = .ok (.bipush 116, 2) := by decide +kernel
theorem dX11_init_365 : decode cX11_init 365 = .ok (.iastore, 1) := by decide +kernel
theorem dX11_init_366 : decode cX11_init 366 = .ok (.dup, 1) := by decide +kernel
theorem dX11_init_367 : decode cX11_init 367 = .ok (.bipush 59, 2) := by decide +kernel
theorem dX11_init_369 : decode cX11_init 369 = .ok (.bipush 32, 2) := by decide +kernel
theorem dX11_init_371 : decode cX11_init 371 = .ok (.iastore, 1) := by decide +kernel
theorem dX11_init_372 : decode cX11_init 372 = .ok (.dup, 1) := by decide +kernel
theorem dX11_init_373 : decode cX11_init 373 = .ok (.bipush 60, 2) := by decide +kernel
theorem dX11_init_375 : decode cX11_init 375 = .ok (.bipush 97, 2) := by decide +kernel
theorem dX11_init_377 : decode cX11_init 377 = .ok (.iastore, 1) := by decide +kernel
theorem dX11_init_378 : decode cX11_init 378 = .ok (.dup, 1) := by decide +kernel
theorem dX11_init_379 : decode cX11_init 379 = .ok (.bipush 61, 2) := by decide +kernel
theorem dX11_init_381 : decode cX11_init 381 = .ok (.bipush 110, 2) := by decide +kernel
theorem dX11_init_383 : decode cX11_init 383 = .ok (.iastore, 1) := by decide +kernel
theorem dX11_init_384 : decode cX11_init 384 = .ok (.dup, 1) := by decide +kernel
theorem dX11_init_385 : decode cX11_init 385 = .ok (.bipush 62, 2) := by decide +kernel
theorem dX11_init_387 : decode cX11_init 387 = .ok (.bipush 100, 2) := by decide +kernel
theorem dX11_init_389 : decode cX11_init 389 = .ok (.iastore, 1) := by decide +kernel
theorem dX11_init_390 : decode cX11_init 390 = .ok (.dup, 1) := by decide +kernel
theorem dX11_init_391 : decode cX11_init 391 = .ok (.bipush 63, 2) := by decide +kernel
theorem dX11_init_393 : decode cX11_init 393 = .ok (.bipush 32, 2) := by decide +kernel
theorem dX11_init_395 : decode cX11_init 395 = .ok (.iastore, 1) := by decide +kernel
theorem dX11_init_396 : decode cX11_init 396 = .ok (.dup, 1) := by decide +kernel
theorem dX11_init_397 : decode cX11_init 397 = .ok (.bipush 64, 2) := by decide +kernel
theorem dX11_init_399 : decode cX11_init 399 = .ok (.bipush 111, 2) := by decide +kernel
theorem dX11_init_401 : decode cX11_init 401 = .ok (.iastore, 1) := by decide +kernel
theorem dX11_init_402 : decode cX11_init 402 = .ok (.dup, 1) := by decide +kernel
theorem dX11_init_403 : decode cX11_init 403 = .ok (.bipush 65, 2) := by decide +kernel
theorem dX11_init_405 : decode cX11_init 405 = .ok (.bipush 114, 2) := by decide +kernel
theorem dX11_init_407 : decode cX11_init 407 = .ok (.iastore, 1) := by decide +kernel
theorem dX11_init_408 : decode cX11_init 408 = .ok (.dup, 1) := by decide +kernel
theorem dX11_init_409 : decode cX11_init 409 = .ok (.bipush 66, 2) := by decide +kernel
theorem dX11_init_411 : decode cX11_init 411 = .ok (.bipush 32, 2) := by decide +kernel
theorem dX11_init_413 : decode cX11_init 413 = .ok (.iastore, 1) := by decide +kernel
theorem dX11_init_414 : decode cX11_init 414 = .ok (.dup, 1) := by decide +kernel
theorem dX11_init_415 : decode cX11_init 415 = .ok (.bipush 67, 2) := by decide +kernel
theorem dX11_init_417 : decode cX11_init 417 = .ok (.bipush 110, 2) := by decide +kernel
theorem dX11_init_419 : decode cX11_init 419 = .ok (.iastore, 1) := by decide +kernel
theorem dX11_init_420 : decode cX11_init 420 = .ok (.dup, 1) := by decide +kernel
theorem dX11_init_421 : decode cX11_init 421 = .ok (.bipush 68, 2) := by decide +kernel
theorem dX11_init_423 : decode cX11_init 423 = .ok (.bipush 111, 2) := by decide +kernel
theorem dX11_init_425 : decode cX11_init 425 = .ok (.iastore, 1) := by decide +kernel
theorem dX11_init_426 : decode cX11_init 426 = .ok (.dup, 1) := by decide +kernel
theorem dX11_init_427 : decode cX11_init 427 = .ok (.bipush 69, 2) := by decide +kernel
theorem dX11_init_429 : decode cX11_init 429 = .ok (.bipush 116, 2) := by decide +kernel
theorem dX11_init_431 : decode cX11_init 431 = .ok (.iastore, 1) := by decide +kernel
theorem dX11_init_432 : decode cX11_init 432 = .ok (.dup, 1) := by decide +kernel
theorem dX11_init_433 : decode cX11_init 433 = .ok (.bipush 70, 2) := by decide +kernel
theorem dX11_init_435 : decode cX11_init 435 = .ok (.bipush 32, 2) := by decide +kernel
theorem dX11_init_437 : decode cX11_init 437 = .ok (.iastore, 1) := by decide +kernel
theorem dX11_init_438 : decode cX11_init 438 = .ok (.dup, 1) := by decide +kernel
theorem dX11_init_439 : decode cX11_init 439 = .ok (.bipush 71, 2) := by decide +kernel
theorem dX11_init_441 : decode cX11_init 441 = .ok (.bipush 100, 2) := by decide +kernel
theorem dX11_init_443 : decode cX11_init 443 = .ok (.iastore, 1) := by decide +kernel
theorem dX11_init_444 : decode cX11_init 444 = .ok (.dup, 1) := by decide +kernel
theorem dX11_init_445 : decode cX11_init 445 = .ok (.bipush 72, 2) := by decide +kernel
theorem dX11_init_447 : decode cX11_init 447 = .ok (.bipush 105, 2) := by decide +kernel
theorem dX11_init_449 : decode cX11_init 449 = .ok (.iastore, 1) := by decide +kernel
theorem dX11_init_450 : decode cX11_init 450 = .ok (.dup, 1) := by decide +kernel
theorem dX11_init_451 : decode cX11_init 451 = .ok (.bipush 73, 2) := by decide +kernel
theorem dX11_init_453 : decode cX11_init 453 = .ok (.bipush 97, 2) := by decide +kernel
theorem dX11_init_455 : decode cX11_init 455 = .ok (.iastore, 1) := by decide +kernel
theorem dX11_init_456 : decode cX11_init 456 = .ok (.dup, 1) := by decide +kernel
theorem dX11_init_457 : decode cX11_init 457 = .ok (.bipush 74, 2) := by decide +kernel
theorem dX11_init_459 : decode cX11_init 459 = .ok (.bipush 108, 2) := by decide +kernel
theorem dX11_init_461 : decode cX11_init 461 = .ok (.iastore, 1) := by decide +kernel
theorem dX11_init_462 : decode cX11_init 462 = .ok (.dup, 1) := by decide +kernel
theorem dX11_init_463 : decode cX11_init 463 = .ok (.bipush 75, 2) := by decide +kernel
theorem dX11_init_465 : decode cX11_init 465 = .ok (.bipush 32, 2) := by decide +kernel
theorem dX11_init_467 : decode cX11_init 467 = .ok (.iastore, 1) := by decide +kernel
theorem dX11_init_468 : decode cX11_init 468 = .ok (.dup, 1) := by decide +kernel
theorem dX11_init_469 : decode cX11_init 469 = .ok (.bipush 76, 2) := by decide +kernel
theorem dX11_init_471 : decode cX11_init 471 = .ok (.bipush 103, 2) := by decide +kernel
theorem dX11_init_473 : decode cX11_init 473 = .ok (.iastore, 1) := by decide +kernel
theorem dX11_init_474 : decode cX11_init 474 = .ok (.dup, 1) := by decide +kernel
theorem dX11_init_475 : decode cX11_init 475 = .ok (.bipush 77, 2) := by decide +kernel
theorem dX11_init_477 : decode cX11_init 477 = .ok (.bipush 97, 2) := by decide +kernel
theorem dX11_init_479 : decode cX11_init 479 = .ok (.iastore, 1) := by decide +kernel
theorem dX11_init_480 : decode cX11_init 480 = .ok (.dup, 1) := by decide +kernel
theorem dX11_init_481 : decode cX11_init 481 = .ok (.bipush 78, 2) := by decide +kernel
theorem dX11_init_483 : decode cX11_init 483 = .ok (.bipush 105, 2) := by decide +kernel
theorem dX11_init_485 : decode cX11_init 485 = .ok (.iastore, 1) := by decide +kernel
theorem dX11_init_486 : decode cX11_init 486 = .ok (.dup, 1) := by decide +kernel
theorem dX11_init_487 : decode cX11_init 487 = .ok (.bipush 79, 2) := by decide +kernel
theorem dX11_init_489 : decode cX11_init 489 = .ok (.bipush 110, 2) := by decide +kernel
theorem dX11_init_491 : decode cX11_init 491 = .ok (.iastore, 1) := by decide +kernel
theorem dX11_init_492 : decode cX11_init 492 = .ok (.dup, 1) := by decide +kernel
theorem dX11_init_493 : decode cX11_init 493 = .ok (.bipush 80, 2) := by decide +kernel
theorem dX11_init_495 : decode cX11_init 495 = .ok (.bipush 32, 2) := by decide +kernel
theorem dX11_init_497 : decode cX11_init 497 = .ok (.iastore, 1) := by decide +kernel
theorem dX11_init_498 : decode cX11_init 498 = .ok (.dup, 1) := by decide +kernel
theorem dX11_init_499 : decode cX11_init 499 = .ok (.bipush 81, 2) := by decide +kernel
theorem dX11_init_501 : decode cX11_init 501 = .ok (.bipush 102, 2) := by decide +kernel
theorem dX11_init_503 : decode cX11_init 503 = .ok (.iastore, 1) := by decide +kernel
theorem dX11_init_504 : decode cX11_init 504 = .ok (.dup, 1) := by decide +kernel
theorem dX11_init_505 : decode cX11_init 505 = .ok (.bipush 82, 2) := by decide +kernel
theorem dX11_init_507 : decode cX11_init 507 = .ok (.bipush 97, 2) := by decide +kernel
theorem dX11_init_509 : decode cX11_init 509 = .ok (.iastore, 1) := by decide +kernel
theorem dX11_init_510 : decode cX11_init 510 = .ok (.dup, 1) := by decide +kernel
theorem dX11_init_511 : decode cX11_init 511 = .ok (.bipush 83, 2) := by decide +kernel
theorem dX11_init_513 : decode cX11_init 513 = .ok (.bipush 114, 2) := by decide +kernel
theorem dX11_init_515 : decode cX11_init 515 = .ok (.iastore, 1) := by decide +kernel
theorem dX11_init_516 : decode cX11_init 516 = .ok (.dup, 1) := by decide +kernel
theorem dX11_init_517 : decode cX11_init 517 = .ok (.bipush 84, 2) := by decide +kernel
theorem dX11_init_519 : decode cX11_init 519 = .ok (.bipush 32, 2) := by decide +kernel
theorem dX11_init_521 : decode cX11_init 521 = .ok (.iastore, 1) := by decide +kernel
theorem dX11_init_522 : decode cX11_init 522 = .ok (.dup, 1) := by decide +kernel
theorem dX11_init_523 : decode cX11_init 523 = .ok (.bipush 85, 2) := by decide +kernel
theorem dX11_init_525 : decode cX11_init 525 = .ok (.bipush 107, 2) := by decide +kernel
theorem dX11_init_527 : decode cX11_init 527 = .ok (.iastore, 1) := by decide +kernel
theorem dX11_init_528 : decode cX11_init 528 = .ok (.dup, 1) := by decide +kernel
theorem dX11_init_529 : decode cX11_init 529 = .ok (.bipush 86, 2) := by decide +kernel
theorem dX11_init_531 : decode cX11_init 531 = .ok (.bipush 105, 2) := by decide +kernel
theorem dX11_init_533 : decode cX11_init 533 = .ok (.iastore, 1) := by decide +kernel
theorem dX11_init_534 : decode cX11_init 534 = .ok (.dup, 1) := by decide +kernel
theorem dX11_init_535 : decode cX11_init 535 = .ok (.bipush 87, 2) := by decide +kernel
theorem dX11_init_537 : decode cX11_init 537 = .ok (.bipush 110, 2) := by decide +kernel
theorem dX11_init_539 : decode cX11_init 539 = .ok (.iastore, 1) := by decide +kernel
theorem dX11_init_540 : decode cX11_init 540 = .ok (.dup, 1) := by decide +kernel
theorem dX11_init_541 : decode cX11_init 541 = .ok (.bipush 88, 2) := by decide +kernel
theorem dX11_init_543 : decode cX11_init 543 = .ok (.bipush 100, 2) := by decide +kernel
theorem dX11_init_545 : decode cX11_init 545 = .ok (.iastore, 1) := by decide +kernel
theorem dX11_init_546 : decode cX11_init 546 = .ok (.dup, 1) := by decide +kernel
theorem dX11_init_547 : decode cX11_init 547 = .ok (.bipush 89, 2) := by decide +kernel
theorem dX11_init_549 : decode cX11_init 549 = .ok (.bipush 32, 2) := by decide +kernel
theorem dX11_init_551 : decode cX11_init 551 = .ok (.iastore, 1) := by decide +kernel
theorem dX11_init_552 : decode cX11_init 552 = .ok (.dup, 1) := by decide +kernel
theorem dX11_init_553 : decode cX11_init 553 = .ok (.bipush 90, 2) := by decide +kernel
theorem dX11_init_555 : decode cX11_init 555 = .ok (.bipush 104, 2) := by decide +kernel
theorem dX11_init_557 : decode cX11_init 557 = .ok (.iastore, 1) := by decide +kernel
theorem dX11_init_558 : decode cX11_init 558 = .ok (.dup, 1) := by decide +kernel
theorem dX11_init_559 : decode cX11_init 559 = .ok (.bipush 91, 2) := by decide +kernel
theorem dX11_init_561 : decode cX11_init 561 = .ok (.bipush 101, 2) := by decide +kernel
theorem dX11_init_563 : decode cX11_init 563 = .ok (.iastore, 1) := by decide +kernel
theorem dX11_init_564 : decode cX11_init 564 = .ok (.dup, 1) := by decide +kernel
theorem dX11_init_565 : decode cX11_init 565 = .ok (.bipush 92, 2) := by decide +kernel
theorem dX11_init_567 : decode cX11_init 567 = .ok (.bipush 97, 2) := by decide +kernel
theorem dX11_init_569 : decode cX11_init 569 = .ok (.iastore, 1) := by decide +kernel
theorem dX11_init_570 : decode cX11_init 570 = .ok (.dup, 1) := by decide +kernel
theorem dX11_init_571 : decode cX11_init 571 = .ok (.bipush 93, 2) := by decide +kernel
theorem dX11_init_573 : decode cX11_init 573 = .ok (.bipush 114, 2) := by decide +kernel
theorem dX11_init_575 : decode cX11_init 575 = .ok (.iastore, 1) := by decide +kernel
theorem dX11_init_576 : decode cX11_init 576 = .ok (.dup, 1) := by decide +kernel
theorem dX11_init_577 : decode cX11_init 577 = .ok (.bipush 94, 2) := by decide +kernel
theorem dX11_init_579 : decode cX11_init 579 = .ok (.bipush 100, 2) := by decide +kernel
theorem dX11_init_581 : decode cX11_init 581 = .ok (.iastore, 1) := by decide +kernel
theorem dX11_init_582 : decode cX11_init 582 = .ok (.dup, 1) := by decide +kernel
theorem dX11_init_583 : decode cX11_init 583 = .ok (.bipush 95, 2) := by decide +kernel
theorem dX11_init_585 : decode cX11_init 585 = .ok (.bipush 32, 2) := by decide +kernel
theorem dX11_init_587 : decode cX11_init 587 = .ok (.iastore, 1) := by decide +kernel
theorem dX11_init_588 : decode cX11_init 588 = .ok (.dup, 1) := by decide +kernel
theorem dX11_init_589 : decode cX11_init 589 = .ok (.bipush 96, 2) := by decide +kernel
theorem dX11_init_591 : decode cX11_init 591 = .ok (.bipush 107, 2) := by decide +kernel
theorem dX11_init_593 : decode cX11_init 593 = .ok (.iastore, 1) := by decide +kernel
theorem dX11_init_594 : decode cX11_init 594 = .ok (.dup, 1) := by decide +kernel
theorem dX11_init_595 : decode cX11_init 595 = .ok (.bipush 97, 2) := by decide +kernel
theorem dX11_init_597 : decode cX11_init 597 = .ok (.bipush 110, 2) := by decide +kernel
theorem dX11_init_599 : decode cX11_init 599 = .ok (.iastore, 1) := by decide +kernel
theorem dX11_init_600 : decode cX11_init 600 = .ok (.dup, 1) := by decide +kernel
theorem dX11_init_601 : decode cX11_init 601 = .ok (.bipush 98, 2) := by decide +kernel
theorem dX11_init_603 : decode cX11_init 603 = .ok (.bipush 111, 2) := by decide +kernel
theorem dX11_init_605 : decode cX11_init 605 = .ok (.iastore, 1) := by decide +kernel
theorem dX11_init_606 : decode cX11_init 606 = .ok (.dup, 1) := by decide +kernel
theorem dX11_init_607 : decode cX11_init 607 = .ok (.bipush 99, 2) := by decide +kernel
theorem dX11_init_609 : decode cX11_init 609 = .ok (.bipush 119, 2) := by decide +kernel
theorem dX11_init_611 : decode cX11_init 611 = .ok (.iastore, 1) := by decide +kernel
theorem dX11_init_612 : decode cX11_init 612 = .ok (.dup, 1) := by decide +kernel
theorem dX11_init_613 : decode cX11_init 613 = .ok (.bipush 100, 2) := by decide +kernel
theorem dX11_init_615 : decode cX11_init 615 = .ok (.bipush 115, 2) := by decide +kernel
theorem dX11_init_617 : decode cX11_init 617 = .ok (.iastore, 1) := by decide +kernel
theorem dX11_init_618 : decode cX11_init 618 = .ok (.dup, 1) := by decide +kernel
theorem dX11_init_619 : decode cX11_init 619 = .ok (.bipush 101, 2) := by decide +kernel
theorem dX11_init_621 : decode cX11_init 621 = .ok (.bipush 32, 2) := by decide +kernel
theorem dX11_init_623 : decode cX11_init 623 = .ok (.iastore, 1) := by decide +kernel
theorem dX11_init_624 : decode cX11_init 624 = .ok (.dup, 1) := by decide +kernel
theorem dX11_init_625 : decode cX11_init 625 = .ok (.bipush 102, 2) := by decide +kernel
theorem dX11_init_627 : decode cX11_init 627 = .ok (.bipush 104, 2) := by decide +kernel
theorem dX11_init_629 : decode cX11_init 629 = .ok (.iastore, 1) := by decide +kernel
theorem dX11_init_630 : decode cX11_init 630 = .ok (.dup, 1) := by decide +kernel
theorem dX11_init_631 : decode cX11_init 631 = .ok (.bipush 103, 2) := by decide +kernel
theorem dX11_init_633 : decode cX11_init 633 = .ok (.bipush 111, 2) := by decide +kernel
theorem dX11_init_635 : decode cX11_init 635 = .ok (.iastore, 1) := by decide +kernel
theorem dX11_init_636 : decode cX11_init 636 = .ok (.dup, 1) := by decide +kernel
theorem dX11_init_637 : decode cX11_init 637 = .ok (.bipush 104, 2) := by decide +kernel
theorem dX11_init_639 : decode cX11_init 639 = .ok (.bipush 117, 2) := by decide +kernel
theorem dX11_init_641 : decode cX11_init 641 = .ok (.iastore, 1) := by decide +kernel
theorem dX11_init_642 : decode cX11_init 642 = .ok (.dup, 1) := by decide +kernel
theorem dX11_init_643 : decode cX11_init 643 = .ok (.bipush 105, 2) := by decide +kernel
theorem dX11_init_645 : decode cX11_init 645 = .ok (.bipush 114, 2) := by decide +kernel
theorem dX11_init_647 : decode cX11_init 647 = .ok (.iastore, 1) := by decide +kernel
theorem dX11_init_648 : decode cX11_init 648 = .ok (.dup, 1) := by decide +kernel
theorem dX11_init_649 : decode cX11_init 649 = .ok (.bipush 106, 2) := by decide +kernel
theorem dX11_init_651 : decode cX11_init 651 = .ok (.bipush 32, 2) := by decide +kernel
theorem dX11_init_653 : decode cX11_init 653 = .ok (.iastore, 1) := by decide +kernel
theorem dX11_init_654 : decode cX11_init 654 = .ok (.putfield 13, 3) := by decide +kernel
theorem dX11_init_657 : decode cX11_init 657 = .ok (.aload_n 0, 1) := by decide +kernel
theorem dX11_init_658 : decode cX11_init 658 = .ok (.iconst (-1), 1) := by decide +kernel
theorem dX11_init_659 : decode cX11_init 659 = .ok (.putfield 16, 3) := by decide +kernel
theorem dX11_init_662 : decode cX11_init 662 = .ok (.aload_n 0, 1) := by decide +kernel
theorem dX11_init_663 : decode cX11_init 663 = .ok (.iconst 4, 1) := by decide +kernel
theorem dX11_init_664 : decode cX11_init 664 = .ok (.newarray .boolean, 2) := by decide +kernel
theorem dX11_init_666 : decode cX11_init 666 = .ok (.putfield 20, 3) := by decide +kernel
theorem dX11_init_669 : decode cX11_init 669 = .ok (.aload_n 0, 1) := by decide +kernel
theorem dX11_init_670 : decode cX11_init 670 = .ok (.bipush 8, 2) := by decide +kernel
theorem dX11_init_672 : decode cX11_init 672 = .ok (.newarray .int, 2) := by decide +kernel
theorem dX11_init_674 : decode cX11_init 674 = .ok (.putfield 24, 3) := by decide +kernel
theorem dX11_init_677 : decode cX11_init 677 = .ok (.aload_n 0, 1) := by decide +kernel
theorem dX11_init_678 : decode cX11_init 678 = .ok (.bipush 12, 2) := by decide +kernel
theorem dX11_init_680 : decode cX11_init 680 = .ok (.newarray .int, 2) := by decide +kernel
theorem dX11_init_682 : decode cX11_init 682 = .ok (.putfield 27, 3) := by decide +kernel
theorem dX11_init_685 : decode cX11_init 685 = .ok (.aload_n 0, 1) := by decide +kernel
theorem dX11_init_686 : decode cX11_init 686 = .ok (.bipush 12, 2) := by decide +kernel
theorem dX11_init_688 : decode cX11_init 688 = .ok (.newarray .int, 2) := by decide +kernel
theorem dX11_init_690 : decode cX11_init 690 = .ok (.putfield 30, 3) := by decide +kernel
theorem dX11_init_693 : decode cX11_init 693 = .ok (.aload_n 0, 1) := by decide +kernel
theorem dX11_init_694 : decode cX11_init 694 = .ok (.bipush 12, 2) := by decide +kernel
theorem dX11_init_696 : decode cX11_init 696 = .ok (.newarray .int, 2) := by decide +kernel
theorem dX11_init_698 : decode cX11_init 698 = .ok (.putfield 33, 3) := by decide +kernel
theorem dX11_init_701 : decode cX11_init 701 = .ok (.aload_n 0, 1) := by decide +kernel
theorem dX11_init_702 : decode cX11_init 702 = .ok (.bipush 20, 2) := by decide +kernel
theorem dX11_init_704 : decode cX11_init 704 = .ok (.newarray .int, 2) := by decide +kernel
theorem dX11_init_706 : decode cX11_init 706 = .ok (.putfield 36, 3) := by decide +kernel
theorem dX11_init_709 : decode cX11_init 709 = .ok (.aload_n 0, 1) := by decide +kernel
theorem dX11_init_710 : decode cX11_init 710 = .ok (.bipush 20, 2) := by decide +kernel
theorem dX11_init_712 : decode cX11_init 712 = .ok (.newarray .int, 2) := by decide +kernel
theorem dX11_init_714 : decode cX11_init 714 = .ok (.putfield 39, 3) := by decide +kernel
theorem dX11_init_717 : decode cX11_init 717 = .ok (.aload_n 0, 1) := by decide +kernel
theorem dX11_init_718 : decode cX11_init 718 = .ok (.bipush 20, 2) := by decide +kernel
theorem dX11_init_720 : decode cX11_init 720 = .ok (.newarray .int, 2) := by decide +kernel
theorem dX11_init_722 : decode cX11_init 722 = .ok (.putfield 42, 3) := by decide +kernel
theorem dX11_init_725 : decode cX11_init 725 = .ok (.aload_n 0, 1) := by decide +kernel
theorem dX11_init_726 : decode cX11_init 726 = .ok (.bipush 24, 2) := by decide +kernel
theorem dX11_init_728 : decode cX11_init 728 = .ok (.newarray .int, 2) := by decide +kernel
theorem dX11_init_730 : decode cX11_init 730 = .ok (.putfield 45, 3) := by decide +kernel
theorem dX11_init_733 : decode cX11_init 733 = .ok (.aload_n 0, 1) := by decide +kernel
theorem dX11_init_734 : decode cX11_init 734 = .ok (.bipush 24, 2) := by decide +kernel
theorem dX11_init_736 : decode cX11_init 736 = .ok (.newarray .int, 2) := by decide +kernel
theorem dX11_init_738 : decode cX11_init 738 = .ok (.putfield 48, 3) := by decide +kernel
theorem dX11_init_741 : decode cX11_init 741 = .ok (.aload_n 0, 1) := by decide +kernel
theorem dX11_init_742 : decode cX11_init 742 = .ok (.bipush 24, 2) := by decide +kernel
theorem dX11_init_744 : decode cX11_init 744 = .ok (.newarray .int, 2) := by decide +kernel
theorem dX11_init_746 : decode cX11_init 746 = .ok (.putfield 51, 3) := by decide +kernel
theorem dX11_init_749 : decode cX11_init 749 = .ok (.aload_n 0, 1) := by decide +kernel
theorem dX11_init_750 : decode cX11_init 750 = .ok (.bipush 6, 2) := by decide +kernel
theorem dX11_init_752 : decode cX11_init 752 = .ok (.newarray .boolean, 2) := by decide +kernel
theorem dX11_init_754 : decode cX11_init 754 = .ok (.putfield 54, 3) := by decide +kernel
theorem dX11_init_757 : decode cX11_init 757 = .ok (.aload_n 0, 1) := by decide +kernel
theorem dX11_init_758 : decode cX11_init 758 = .ok (.bipush 6, 2) := by decide +kernel
theorem dX11_init_760 : decode cX11_init 760 = .ok (.newarray .int, 2) := by decide +kernel
theorem dX11_init_762 : decode cX11_init 762 = .ok (.putfield 57, 3) := by decide +kernel
theorem dX11_init_765 : decode cX11_init 765 = .ok (.aload_n 0, 1) := by decide +kernel
theorem dX11_init_766 : decode cX11_init 766 = .ok (.bipush 6, 2) := by decide +kernel
theorem dX11_init_768 : decode cX11_init 768 = .ok (.newarray .int, 2) := by decide +kernel
theorem dX11_init_770 : decode cX11_init 770 = .ok (.putfield 60, 3) := by decide +kernel
theorem dX11_init_773 : decode cX11_init 773 = .ok (.aload_n 0, 1) := by decide +kernel
theorem dX11_init_774 : decode cX11_init 774 = .ok (.sipush 128, 3) := by decide +kernel
theorem dX11_init_777 : decode cX11_init 777 = .ok (.newarray .int, 2) := by decide +kernel
theorem dX11_init_779 : decode cX11_init 779 = .ok (.putfield 63, 3) := by decide +kernel
theorem dX11_init_782 : decode cX11_init 782 = .ok (.aload_n 0, 1) := by decide +kernel
theorem dX11_init_783 : decode cX11_init 783 = .ok (.sipush 128, 3) := by decide +kernel
theorem dX11_init_786 : decode cX11_init 786 = .ok (.newarray .int, 2) := by decide +kernel
theorem dX11_init_788 : decode cX11_init 788 = .ok (.putfield 66, 3) := by decide +kernel
theorem dX11_init_791 : decode cX11_init 791 = .ok (.aload_n 0, 1) := by decide +kernel
theorem dX11_init_792 : decode cX11_init 792 = .ok (.sipush 128, 3) := by decide +kernel
theorem dX11_init_795 : decode cX11_init 795 = .ok (.newarray .int, 2) := by decide +kernel
theorem dX11_init_797 : decode cX11_init 797 = .ok (.putfield 69, 3) := by decide +kernel
theorem dX11_init_800 : decode cX11_init 800 = .ok (.aload_n 0, 1) := by decide +kernel
theorem dX11_init_801 : decode cX11_init 801 = .ok (.bipush 96, 2) := by decide +kernel
theorem dX11_init_803 : decode cX11_init 803 = .ok (.newarray .int, 2) := by decide +kernel
theorem dX11_init_805 : decode cX11_init 805 = .ok (.putfield 72, 3) := by decide +kernel
theorem dX11_init_808 : decode cX11_init 808 = .ok (.aload_n 0, 1) := by decide +kernel
theorem dX11_init_809 : decode cX11_init 809 = .ok (.bipush 96, 2) := by decide +kernel
theorem dX11_init_811 : decode cX11_init 811 = .ok (.newarray .int, 2) := by decide +kernel
theorem dX11_init_813 : decode cX11_init 813 = .ok (.putfield 75, 3) := by decide +kernel
theorem dX11_init_816 : decode cX11_init 816 = .ok (.aload_n 0, 1) := by decide +kernel
theorem dX11_init_817 : decode cX11_init 817 = .ok (.bipush 7, 2) := by decide +kernel
theorem dX11_init_819 : decode cX11_init 819 = .ok (.newarray .long, 2) := by decide +kernel
theorem dX11_init_821 : decode cX11_init 821 = .ok (.putfield 78, 3) := by decide +kernel
theorem dX11_init_824 : decode cX11_init 824 = .ok (.aload_n 0, 1) := by decide +kernel
theorem dX11_init_825 : decode cX11_init 825 = .ok (.bipush 64, 2) := by decide +kernel
theorem dX11_init_827 : decode cX11_init 827 = .ok (.newarray .long, 2) := by decide +kernel
theorem dX11_init_829 : decode cX11_init 829 = .ok (.putfield 82, 3) := by decide +kernel
theorem dX11_init_832 : decode cX11_init 832 = .ok (.aload_n 0, 1) := by decide +kernel
theorem dX11_init_833 : decode cX11_init 833 = .ok (.bipush 12, 2) := by decide +kernel
theorem dX11_init_835 : decode cX11_init 835 = .ok (.newarray .int, 2) := by decide +kernel
theorem dX11_init_837 : decode cX11_init 837 = .ok (.putfield 85, 3) := by decide +kernel
theorem dX11_init_840 : decode cX11_init 840 = .ok (.aload_n 0, 1) := by decide +kernel
theorem dX11_init_841 : decode cX11_init 841 = .ok (.bipush 12, 2) := by decide +kernel
theorem dX11_init_843 : decode cX11_init 843 = .ok (.newarray .int, 2) := by decide +kernel
theorem dX11_init_845 : decode cX11_init 845 = .ok (.putfield 88, 3) := by decide +kernel
theorem dX11_init_848 : decode cX11_init 848 = .ok (.aload_n 0, 1) := by decide +kernel
theorem dX11_init_849 : decode cX11_init 849 = .ok (.bipush 12, 2) := by decide +kernel
theorem dX11_init_851 : decode cX11_init 851 = .ok (.newarray .int, 2) := by decide +kernel
theorem dX11_init_853 : decode cX11_init 853 = .ok (.putfield 91, 3) := by decide +kernel
theorem dX11_init_856 : decode cX11_init 856 = .ok (.aload_n 0, 1) := by decide +kernel
theorem dX11_init_857 : decode cX11_init 857 = .ok (.bipush 72, 2) := by decide +kernel
theorem dX11_init_859 : decode cX11_init 859 = .ok (.newarray .int, 2) := by decide +kernel
theorem dX11_init_861 : decode cX11_init 861 = .ok (.putfield 94, 3) := by decide +kernel
theorem dX11_init_864 : decode cX11_init 864 = .ok (.aload_n 0, 1) := by decide +kernel
theorem dX11_init_865 : decode cX11_init 865 = .ok (.bipush 72, 2) := by decide +kernel
theorem dX11_init_867 : decode cX11_init 867 = .ok (.newarray .boolean, 2) := by decide +kernel
theorem dX11_init_869 : decode cX11_init 869 = .ok (.putfield 97, 3) := by decide +kernel
theorem dX11_init_872 : decode cX11_init 872 = .ok (.aload_n 0, 1) := by decide +kernel
theorem dX11_init_873 : decode cX11_init 873 = .ok (.iconst 2, 1) := by decide +kernel
theorem dX11_init_874 : decode cX11_init 874 = .ok (.newarray .int, 2) := by decide +kernel
theorem dX11_init_876 : decode cX11_init 876 = .ok (.putfield 100, 3) := by decide +kernel
theorem dX11_init_879 : decode cX11_init 879 = .ok (.aload_n 0, 1) := by decide +kernel
theorem dX11_init_880 : decode cX11_init 880 = .ok (.iconst (-1), 1) := by decide +kernel
theorem dX11_init_881 : decode cX11_init 881 = .ok (.putfield 103, 3) := by decide +kernel
theorem dX11_init_884 : decode cX11_init 884 = .ok (.aload_n 0, 1) := by decide +kernel
theorem dX11_init_885 : decode cX11_init 885 = .ok (.bipush 96, 2) := by decide +kernel
theorem dX11_init_887 : decode cX11_init 887 = .ok (.newarray .int, 2) := by decide +kernel
theorem dX11_init_889 : decode cX11_init 889 = .ok (.putfield 106, 3) := by decide +kernel
theorem dX11_init_892 : decode cX11_init 892 = .ok (.aload_n 0, 1) := by decide +kernel
theorem dX11_init_893 : decode cX11_init 893 = .ok (.bipush 24, 2) := by decide +kernel
theorem dX11_init_895 : decode cX11_init 895 = .ok (.newarray .boolean, 2) := by decide +kernel
theorem dX11_init_897 : decode cX11_init 897 = .ok (.putfield 109, 3) := by decide +kernel
theorem dX11_init_900 : decode cX11_init 900 = .ok (.aload_n 0, 1) := by decide +kernel
theorem dX11_init_901 : decode cX11_init 901 = .ok (.sipush 1800, 3) := by decide +kernel
theorem dX11_init_904 : decode cX11_init 904 = .ok (.newarray .int, 2) := by decide +kernel
theorem dX11_init_906 : decode cX11_init 906 = .ok (.putfield 112, 3) := by decide +kernel
theorem dX11_init_909 : decode cX11_init 909 = .ok (.aload_n 0, 1) := by decide +kernel
theorem dX11_init_910 : decode cX11_init 910 = .ok (.bipush 90, 2) := by decide +kernel
theorem dX11_init_912 : decode cX11_init 912 = .ok (.newarray .int, 2) := by decide +kernel
theorem dX11_init_914 : decode cX11_init 914 = .ok (.putfield 115, 3) := by decide +kernel
theorem dX11_init_917 : decode cX11_init 917 = .ok (.aload_n 0, 1) := by decide +kernel
theorem dX11_init_918 : decode cX11_init 918 = .ok (.invokevirtual 118, 3) := by decide +kernel
theorem dX11_init_921 : decode cX11_init 921 = .ok (.aload_n 0, 1) := by decide +kernel
theorem dX11_init_922 : decode cX11_init 922 = .ok (.invokevirtual 121, 3) := by decide +kernel
theorem dX11_init_925 : decode cX11_init 925 = .ok (.return_, 1) := by decide +kernel
theorem dX11_thrown_0 : decode cX11_thrown 0 = .ok (.aload_n 0, 1) := by decide +kernel
theorem dX11_thrown_1 : decode cX11_thrown 1 = .ok (.getfield 124, 3) := by decide +kernel
theorem dX11_thrown_4 : decode cX11_thrown 4 = .ok (.ireturn, 1) := by decide +kernel
theorem dX11_feed_0 : decode cX11_feed 0 = .ok (.aload_n 0, 1) := by decide +kernel
theorem dX11_feed_1 : decode cX11_feed 1 = .ok (.iconst 0, 1) := by decide +kernel
theorem dX11_feed_2 : decode cX11_feed 2 = .ok (.putfield 124, 3) := by decide +kernel
theorem dX11_feed_5 : decode cX11_feed 5 = .ok (.aload_n 0, 1) := by decide +kernel
theorem dX11_feed_6 : decode cX11_feed 6 = .ok (.getfield 127, 3) := by decide +kernel
theorem dX11_feed_9 : decode cX11_feed 9 = .ok (.bipush 20, 2) := by decide +kernel
theorem dX11_feed_11 : decode cX11_feed 11 = .ok (.iadd, 1) := by decide +kernel
theorem dX11_feed_12 : decode cX11_feed 12 = .ok (.sipush 700, 3) := by decide +kernel
theorem dX11_feed_15 : decode cX11_feed 15 = .ok (.if_icmp .le 5, 3) := by decide +kernel
theorem dX11_feed_18 : decode cX11_feed 18 = .ok (.iconst (-1), 1) := by decide +kernel
theorem dX11_feed_19 : decode cX11_feed 19 = .ok (.ireturn, 1) := by decide +kernel
theorem dX11_feed_20 : decode cX11_feed 20 = .ok (.iconst 0, 1) := by decide +kernel
theorem dX11_feed_21 : decode cX11_feed 21 = .ok (.istore 6, 2) := by decide +kernel
theorem dX11_feed_23 : decode cX11_feed 23 = .ok (.iload 6, 2) := by decide +kernel
theorem dX11_feed_25 : decode cX11_feed 25 = .ok (.bipush 20, 2) := by decide +kernel
theorem dX11_feed_27 : decode cX11_feed 27 = .ok (.if_icmp .ge 86, 3) := by decide +kernel
theorem dX11_feed_30 : decode cX11_feed 30 = .ok (.iload 6, 2) := by decide +kernel
theorem dX11_feed_32 : decode cX11_feed 32 = .ok (.iconst 4, 1) := by decide +kernel
theorem dX11_feed_33 : decode cX11_feed 33 = .ok (.if_icmp .ge 7, 3) := by decide +kernel
theorem dX11_feed_36 : decode cX11_feed 36 = .ok (.iload_n 1, 1) := by decide +kernel
theorem dX11_feed_37 : decode cX11_feed 37 = .ok (.goto 39, 3) := by decide +kernel
theorem dX11_feed_40 : decode cX11_feed 40 = .ok (.iload 6, 2) := by decide +kernel
theorem dX11_feed_42 : decode cX11_feed 42 = .ok (.bipush 8, 2) := by decide +kernel
theorem dX11_feed_44 : decode cX11_feed 44 = .ok (.if_icmp .ge 7, 3) := by decide +kernel
theorem dX11_feed_47 : decode cX11_feed 47 = .ok (.iload_n 2, 1) := by decide +kernel
theorem dX11_feed_48 : decode cX11_feed 48 = .ok (.goto 28, 3) := by decide +kernel
theorem dX11_feed_51 : decode cX11_feed 51 = .ok (.iload 6, 2) := by decide +kernel
theorem dX11_feed_53 : decode cX11_feed 53 = .ok (.bipush 12, 2) := by decide +kernel
theorem dX11_feed_55 : decode cX11_feed 55 = .ok (.if_icmp .ge 7, 3) := by decide +kernel
theorem dX11_feed_58 : decode cX11_feed 58 = .ok (.iload_n 3, 1) := by decide +kernel
theorem dX11_feed_59 : decode cX11_feed 59 = .ok (.goto 17, 3) := by decide +kernel
theorem dX11_feed_62 : decode cX11_feed 62 = .ok (.iload 6, 2) := by decide +kernel
theorem dX11_feed_64 : decode cX11_feed 64 = .ok (.bipush 16, 2) := by decide +kernel
theorem dX11_feed_66 : decode cX11_feed 66 = .ok (.if_icmp .ge 8, 3) := by decide +kernel
theorem dX11_feed_69 : decode cX11_feed 69 = .ok (.iload 4, 2) := by decide +kernel
theorem dX11_feed_71 : decode cX11_feed 71 = .ok (.goto 5, 3) := by decide +kernel
theorem dX11_feed_74 : decode cX11_feed 74 = .ok (.iload 5, 2) := by decide +kernel
theorem dX11_feed_76 : decode cX11_feed 76 = .ok (.istore 7, 2) := by decide +kernel
theorem dX11_feed_78 : decode cX11_feed 78 = .ok (.aload_n 0, 1) := by decide +kernel
theorem dX11_feed_79 : decode cX11_feed 79 = .ok (.getfield 7, 3) := by decide +kernel
theorem dX11_feed_82 : decode cX11_feed 82 = .ok (.aload_n 0, 1) := by decide +kernel
theorem dX11_feed_83 : decode cX11_feed 83 = .ok (.getfield 127, 3) := by decide +kernel
theorem dX11_feed_86 : decode cX11_feed 86 = .ok (.iload 6, 2) := by decide +kernel
theorem dX11_feed_88 : decode cX11_feed 88 = .ok (.iadd, 1) := by decide +kernel
theorem dX11_feed_89 : decode cX11_feed 89 = .ok (.iload 7, 2) := by decide +kernel
theorem dX11_feed_91 : decode cX11_feed 91 = .ok (.bipush 24, 2) := by decide +kernel
theorem dX11_feed_93 : decode cX11_feed 93 = .ok (.bipush 8, 2) := by decide +kernel
theorem dX11_feed_95 : decode cX11_feed 95 = .ok (.iload 6, 2) := by decide +kernel
theorem dX11_feed_97 : decode cX11_feed 97 = .ok (.iconst 4, 1) := by decide +kernel
theorem dX11_feed_98 : decode cX11_feed 98 = .ok (.irem, 1) := by decide +kernel
theorem dX11_feed_99 : decode cX11_feed 99 = .ok (.imul, 1) := by decide +kernel
theorem dX11_feed_100 : decode cX11_feed 100 = .ok (.isub, 1) := by decide +kernel
theorem dX11_feed_101 : decode cX11_feed 101 = .ok (.ishr, 1) := by decide +kernel
theorem dX11_feed_102 : decode cX11_feed 102 = .ok (.sipush 255, 3) := by decide +kernel
theorem dX11_feed_105 : decode cX11_feed 105 = .ok (.iand, 1) := by decide +kernel
theorem dX11_feed_106 : decode cX11_feed 106 = .ok (.iastore, 1) := by decide +kernel
theorem dX11_feed_107 : decode cX11_feed 107 = .ok (.iinc 6 1, 3) := by decide +kernel
theorem dX11_feed_110 : decode cX11_feed 110 = .ok (.goto (-87), 3) := by decide +kernel
theorem dX11_feed_113 : decode cX11_feed 113 = .ok (.aload_n 0, 1) := by decide +kernel
theorem dX11_feed_114 : decode cX11_feed 114 = .ok (.dup, 1) := by decide +kernel
theorem dX11_feed_115 : decode cX11_feed 115 = .ok (.getfield 127, 3) := by decide +kernel
theorem dX11_feed_118 : decode cX11_feed 118 = .ok (.bipush 20, 2) := by decide +kernel
theorem dX11_feed_120 : decode cX11_feed 120 = .ok (.iadd, 1) := by decide +kernel
theorem dX11_feed_121 : decode cX11_feed 121 = .ok (.putfield 127, 3) := by decide +kernel
theorem dX11_feed_124 : decode cX11_feed 124 = .ok (.aload_n 0, 1) := by decide +kernel
theorem dX11_feed_125 : decode cX11_feed 125 = .ok (.getfield 127, 3) := by decide +kernel
theorem dX11_feed_128 : decode cX11_feed 128 = .ok (.ireturn, 1) := by decide +kernel
theorem dX11_isIn_0 : decode cX11_isIn 0 = .ok (.iload_n 0, 1) := by decide +kernel
theorem dX11_isIn_1 : decode cX11_isIn 1 = .ok (.iload_n 1, 1) := by decide +kernel
theorem dX11_isIn_2 : decode cX11_isIn 2 = .ok (.if_icmp .lt 12, 3) := by decide +kernel
theorem dX11_isIn_5 : decode cX11_isIn 5 = .ok (.iload_n 0, 1) := by decide +kernel
theorem dX11_isIn_6 : decode cX11_isIn 6 = .ok (.iload_n 2, 1) := by decide +kernel
theorem dX11_isIn_7 : decode cX11_isIn 7 = .ok (.if_icmp .gt 7, 3) := by decide +kernel
theorem dX11_isIn_10 : decode cX11_isIn 10 = .ok (.iconst 1, 1) := by decide +kernel
theorem dX11_isIn_11 : decode cX11_isIn 11 = .ok (.goto 4, 3) := by decide +kernel
theorem dX11_isIn_14 : decode cX11_isIn 14 = .ok (.iconst 0, 1) := by decide +kernel
theorem dX11_isIn_15 : decode cX11_isIn 15 = .ok (.ireturn, 1) := by decide +kernel
theorem dX11_isOf_0 : decode cX11_isOf 0 = .ok (.iload_n 0, 1) := by decide +kernel
theorem dX11_isOf_1 : decode cX11_isOf 1 = .ok (.iload_n 1, 1) := by decide +kernel
theorem dX11_isOf_2 : decode cX11_isOf 2 = .ok (.ishr, 1) := by decide +kernel
theorem dX11_isOf_3 : decode cX11_isOf 3 = .ok (.iconst 1, 1) := by decide +kernel
theorem dX11_isOf_4 : decode cX11_isOf 4 = .ok (.iand, 1) := by decide +kernel
theorem dX11_isOf_5 : decode cX11_isOf 5 = .ok (.iconst 1, 1) := by decide +kernel
theorem dX11_isOf_6 : decode cX11_isOf 6 = .ok (.if_icmp .ne 7, 3) := by decide +kernel
theorem dX11_isOf_9 : decode cX11_isOf 9 = .ok (.iconst 1, 1) := by decide +kernel
theorem dX11_isOf_10 : decode cX11_isOf 10 = .ok (.goto 4, 3) := by decide +kernel
theorem dX11_isOf_13 : decode cX11_isOf 13 = .ok (.iconst 0, 1) := by decide +kernel
theorem dX11_isOf_14 : decode cX11_isOf 14 = .ok (.ireturn, 1) := by decide +kernel
theorem dX11_wrong_0 : decode cX11_wrong 0 = .ok (.aload_n 0, 1) := by decide +kernel
theorem dX11_wrong_1 : decode cX11_wrong 1 = .ok (.iload_n 1, 1) := by decide +kernel
theorem dX11_wrong_2 : decode cX11_wrong 2 = .ok (.putfield 130, 3) := by decide +kernel
theorem dX11_wrong_5 : decode cX11_wrong 5 = .ok (.aload_n 0, 1) := by decide +kernel
theorem dX11_wrong_6 : decode cX11_wrong 6 = .ok (.aload_n 0, 1) := by decide +kernel
theorem dX11_wrong_7 : decode cX11_wrong 7 = .ok (.getfield 133, 3) := by decide +kernel
theorem dX11_wrong_10 : decode cX11_wrong 10 = .ok (.putfield 16, 3) := by decide +kernel
theorem dX11_wrong_13 : decode cX11_wrong 13 = .ok (.iconst 0, 1) := by decide +kernel
theorem dX11_wrong_14 : decode cX11_wrong 14 = .ok (.ireturn, 1) := by decide +kernel
theorem dX11_wordAt_0 : decode cX11_wordAt 0 = .ok (.iconst 0, 1) := by decide +kernel
theorem dX11_wordAt_1 : decode cX11_wordAt 1 = .ok (.istore_n 3, 1) := by decide +kernel
theorem dX11_wordAt_2 : decode cX11_wordAt 2 = .ok (.iconst 0, 1) := by decide +kernel
theorem dX11_wordAt_3 : decode cX11_wordAt 3 = .ok (.istore 4, 2) := by decide +kernel
theorem dX11_wordAt_5 : decode cX11_wordAt 5 = .ok (.iload 4, 2) := by decide +kernel
theorem dX11_wordAt_7 : decode cX11_wordAt 7 = .ok (.aload_n 0, 1) := by decide +kernel
theorem dX11_wordAt_8 : decode cX11_wordAt 8 = .ok (.getfield 13, 3) := by decide +kernel
theorem dX11_wordAt_11 : decode cX11_wordAt 11 = .ok (.arraylength, 1) := by decide +kernel
theorem dX11_wordAt_12 : decode cX11_wordAt 12 = .ok (.if_icmp .ge 114, 3) := by decide +kernel
theorem dX11_wordAt_15 : decode cX11_wordAt 15 = .ok (.iconst 0, 1) := by decide +kernel
theorem dX11_wordAt_16 : decode cX11_wordAt 16 = .ok (.istore 5, 2) := by decide +kernel
theorem dX11_wordAt_18 : decode cX11_wordAt 18 = .ok (.aload_n 0, 1) := by decide +kernel
theorem dX11_wordAt_19 : decode cX11_wordAt 19 = .ok (.getfield 13, 3) := by decide +kernel
theorem dX11_wordAt_22 : decode cX11_wordAt 22 = .ok (.iload 4, 2) := by decide +kernel
theorem dX11_wordAt_24 : decode cX11_wordAt 24 = .ok (.iload 5, 2) := by decide +kernel
theorem dX11_wordAt_26 : decode cX11_wordAt 26 = .ok (.iadd, 1) := by decide +kernel
theorem dX11_wordAt_27 : decode cX11_wordAt 27 = .ok (.iaload, 1) := by decide +kernel
theorem dX11_wordAt_28 : decode cX11_wordAt 28 = .ok (.bipush 32, 2) := by decide +kernel
theorem dX11_wordAt_30 : decode cX11_wordAt 30 = .ok (.if_icmp .eq 9, 3) := by decide +kernel
theorem dX11_wordAt_33 : decode cX11_wordAt 33 = .ok (.iinc 5 1, 3) := by decide +kernel
theorem dX11_wordAt_36 : decode cX11_wordAt 36 = .ok (.goto (-18), 3) := by decide +kernel
theorem dX11_wordAt_39 : decode cX11_wordAt 39 = .ok (.iload 5, 2) := by decide +kernel
theorem dX11_wordAt_41 : decode cX11_wordAt 41 = .ok (.iload_n 2, 1) := by decide +kernel
theorem dX11_wordAt_42 : decode cX11_wordAt 42 = .ok (.iload_n 1, 1) := by decide +kernel
theorem dX11_wordAt_43 : decode cX11_wordAt 43 = .ok (.isub, 1) := by decide +kernel
theorem dX11_wordAt_44 : decode cX11_wordAt 44 = .ok (.if_icmp .ne 7, 3) := by decide +kernel
theorem dX11_wordAt_47 : decode cX11_wordAt 47 = .ok (.iconst 1, 1) := by decide +kernel
theorem dX11_wordAt_48 : decode cX11_wordAt 48 = .ok (.goto 4, 3) := by decide +kernel
theorem dX11_wordAt_51 : decode cX11_wordAt 51 = .ok (.iconst 0, 1) := by decide +kernel
theorem dX11_wordAt_52 : decode cX11_wordAt 52 = .ok (.istore 6, 2) := by decide +kernel
theorem dX11_wordAt_54 : decode cX11_wordAt 54 = .ok (.iconst 0, 1) := by decide +kernel
theorem dX11_wordAt_55 : decode cX11_wordAt 55 = .ok (.istore 7, 2) := by decide +kernel
theorem dX11_wordAt_57 : decode cX11_wordAt 57 = .ok (.iload 7, 2) := by decide +kernel
theorem dX11_wordAt_59 : decode cX11_wordAt 59 = .ok (.iload 5, 2) := by decide +kernel
theorem dX11_wordAt_61 : decode cX11_wordAt 61 = .ok (.if_icmp .ge 43, 3) := by decide +kernel
theorem dX11_wordAt_64 : decode cX11_wordAt 64 = .ok (.iload 6, 2) := by decide +kernel
theorem dX11_wordAt_66 : decode cX11_wordAt 66 = .ok (.ifCond .eq 38, 3) := by decide +kernel
theorem dX11_wordAt_69 : decode cX11_wordAt 69 = .ok (.aload_n 0, 1) := by decide +kernel
theorem dX11_wordAt_70 : decode cX11_wordAt 70 = .ok (.getfield 13, 3) := by decide +kernel
theorem dX11_wordAt_73 : decode cX11_wordAt 73 = .ok (.iload 4, 2) := by decide +kernel
theorem dX11_wordAt_75 : decode cX11_wordAt 75 = .ok (.iload 7, 2) := by decide +kernel
theorem dX11_wordAt_77 : decode cX11_wordAt 77 = .ok (.iadd, 1) := by decide +kernel
theorem dX11_wordAt_78 : decode cX11_wordAt 78 = .ok (.iaload, 1) := by decide +kernel
theorem dX11_wordAt_79 : decode cX11_wordAt 79 = .ok (.aload_n 0, 1) := by decide +kernel
theorem dX11_wordAt_80 : decode cX11_wordAt 80 = .ok (.getfield 7, 3) := by decide +kernel
theorem dX11_wordAt_83 : decode cX11_wordAt 83 = .ok (.iload_n 1, 1) := by decide +kernel
theorem dX11_wordAt_84 : decode cX11_wordAt 84 = .ok (.iload 7, 2) := by decide +kernel
theorem dX11_wordAt_86 : decode cX11_wordAt 86 = .ok (.iadd, 1) := by decide +kernel
theorem dX11_wordAt_87 : decode cX11_wordAt 87 = .ok (.iaload, 1) := by decide +kernel
theorem dX11_wordAt_88 : decode cX11_wordAt 88 = .ok (.if_icmp .ne 7, 3) := by decide +kernel
theorem dX11_wordAt_91 : decode cX11_wordAt 91 = .ok (.iconst 1, 1) := by decide +kernel
theorem dX11_wordAt_92 : decode cX11_wordAt 92 = .ok (.goto 4, 3) := by decide +kernel
theorem dX11_wordAt_95 : decode cX11_wordAt 95 = .ok (.iconst 0, 1) := by decide +kernel
theorem dX11_wordAt_96 : decode cX11_wordAt 96 = .ok (.istore 6, 2) := by decide +kernel
theorem dX11_wordAt_98 : decode cX11_wordAt 98 = .ok (.iinc 7 1, 3) := by decide +kernel
theorem dX11_wordAt_101 : decode cX11_wordAt 101 = .ok (.goto (-44), 3) := by decide +kernel
theorem dX11_wordAt_104 : decode cX11_wordAt 104 = .ok (.iload 6, 2) := by decide +kernel
theorem dX11_wordAt_106 : decode cX11_wordAt 106 = .ok (.ifCond .eq 5, 3) := by decide +kernel
theorem dX11_wordAt_109 : decode cX11_wordAt 109 = .ok (.iload_n 3, 1) := by decide +kernel
theorem dX11_wordAt_110 : decode cX11_wordAt 110 = .ok (.ireturn, 1) := by decide +kernel
theorem dX11_wordAt_111 : decode cX11_wordAt 111 = .ok (.iload 4, 2) := by decide +kernel
theorem dX11_wordAt_113 : decode cX11_wordAt 113 = .ok (.iload 5, 2) := by decide +kernel
theorem dX11_wordAt_115 : decode cX11_wordAt 115 = .ok (.iconst 1, 1) := by decide +kernel
theorem dX11_wordAt_116 : decode cX11_wordAt 116 = .ok (.iadd, 1) := by decide +kernel
theorem dX11_wordAt_117 : decode cX11_wordAt 117 = .ok (.iadd, 1) := by decide +kernel
theorem dX11_wordAt_118 : decode cX11_wordAt 118 = .ok (.istore 4, 2) := by decide +kernel
theorem dX11_wordAt_120 : decode cX11_wordAt 120 = .ok (.iinc 3 1, 3) := by decide +kernel
theorem dX11_wordAt_123 : decode cX11_wordAt 123 = .ok (.goto (-118), 3) := by decide +kernel
theorem dX11_wordAt_126 : decode cX11_wordAt 126 = .ok (.iconst (-1), 1) := by decide +kernel
theorem dX11_wordAt_127 : decode cX11_wordAt 127 = .ok (.ireturn, 1) := by decide +kernel
theorem dX11_isSmall_0 : decode cX11_isSmall 0 = .ok (.iload_n 1, 1) := by decide +kernel
theorem dX11_isSmall_1 : decode cX11_isSmall 1 = .ok (.aload_n 0, 1) := by decide +kernel
theorem dX11_isSmall_2 : decode cX11_isSmall 2 = .ok (.getfield 136, 3) := by decide +kernel
theorem dX11_isSmall_5 : decode cX11_isSmall 5 = .ok (.if_icmp .ge 29, 3) := by decide +kernel
theorem dX11_isSmall_8 : decode cX11_isSmall 8 = .ok (.aload_n 0, 1) := by decide +kernel
theorem dX11_isSmall_9 : decode cX11_isSmall 9 = .ok (.getfield 7, 3) := by decide +kernel
theorem dX11_isSmall_12 : decode cX11_isSmall 12 = .ok (.iload_n 1, 1) := by decide +kernel
theorem dX11_isSmall_13 : decode cX11_isSmall 13 = .ok (.iaload, 1) := by decide +kernel
theorem dX11_isSmall_14 : decode cX11_isSmall 14 = .ok (.bipush 97, 2) := by decide +kernel
theorem dX11_isSmall_16 : decode cX11_isSmall 16 = .ok (.if_icmp .lt 18, 3) := by decide +kernel
theorem dX11_isSmall_19 : decode cX11_isSmall 19 = .ok (.aload_n 0, 1) := by decide +kernel
theorem dX11_isSmall_20 : decode cX11_isSmall 20 = .ok (.getfield 7, 3) := by decide +kernel
theorem dX11_isSmall_23 : decode cX11_isSmall 23 = .ok (.iload_n 1, 1) := by decide +kernel
theorem dX11_isSmall_24 : decode cX11_isSmall 24 = .ok (.iaload, 1) := by decide +kernel
theorem dX11_isSmall_25 : decode cX11_isSmall 25 = .ok (.bipush 122, 2) := by decide +kernel
theorem dX11_isSmall_27 : decode cX11_isSmall 27 = .ok (.if_icmp .gt 7, 3) := by decide +kernel
theorem dX11_isSmall_30 : decode cX11_isSmall 30 = .ok (.iconst 1, 1) := by decide +kernel
theorem dX11_isSmall_31 : decode cX11_isSmall 31 = .ok (.goto 4, 3) := by decide +kernel
theorem dX11_isSmall_34 : decode cX11_isSmall 34 = .ok (.iconst 0, 1) := by decide +kernel
theorem dX11_isSmall_35 : decode cX11_isSmall 35 = .ok (.ireturn, 1) := by decide +kernel
theorem dX11_isDigit_0 : decode cX11_isDigit 0 = .ok (.iload_n 1, 1) := by decide +kernel
theorem dX11_isDigit_1 : decode cX11_isDigit 1 = .ok (.aload_n 0, 1) := by decide +kernel
theorem dX11_isDigit_2 : decode cX11_isDigit 2 = .ok (.getfield 136, 3) := by decide +kernel
theorem dX11_isDigit_5 : decode cX11_isDigit 5 = .ok (.if_icmp .ge 29, 3) := by decide +kernel
theorem dX11_isDigit_8 : decode cX11_isDigit 8 = .ok (.aload_n 0, 1) := by decide +kernel
theorem dX11_isDigit_9 : decode cX11_isDigit 9 = .ok (.getfield 7, 3) := by decide +kernel
theorem dX11_isDigit_12 : decode cX11_isDigit 12 = .ok (.iload_n 1, 1) := by decide +kernel
theorem dX11_isDigit_13 : decode cX11_isDigit 13 = .ok (.iaload, 1) := by decide +kernel
theorem dX11_isDigit_14 : decode cX11_isDigit 14 = .ok (.bipush 48, 2) := by decide +kernel
theorem dX11_isDigit_16 : decode cX11_isDigit 16 = .ok (.if_icmp .lt 18, 3) := by decide +kernel
theorem dX11_isDigit_19 : decode cX11_isDigit 19 = .ok (.aload_n 0, 1) := by decide +kernel
theorem dX11_isDigit_20 : decode cX11_isDigit 20 = .ok (.getfield 7, 3) := by decide +kernel
theorem dX11_isDigit_23 : decode cX11_isDigit 23 = .ok (.iload_n 1, 1) := by decide +kernel
theorem dX11_isDigit_24 : decode cX11_isDigit 24 = .ok (.iaload, 1) := by decide +kernel
theorem dX11_isDigit_25 : decode cX11_isDigit 25 = .ok (.bipush 57, 2) := by decide +kernel
theorem dX11_isDigit_27 : decode cX11_isDigit 27 = .ok (.if_icmp .gt 7, 3) := by decide +kernel
theorem dX11_isDigit_30 : decode cX11_isDigit 30 = .ok (.iconst 1, 1) := by decide +kernel
theorem dX11_isDigit_31 : decode cX11_isDigit 31 = .ok (.goto 4, 3) := by decide +kernel
theorem dX11_isDigit_34 : decode cX11_isDigit 34 = .ok (.iconst 0, 1) := by decide +kernel
theorem dX11_isDigit_35 : decode cX11_isDigit 35 = .ok (.ireturn, 1) := by decide +kernel
theorem dX11_token_0 : decode cX11_token 0 = .ok (.aload_n 0, 1) := by decide +kernel
theorem dX11_token_1 : decode cX11_token 1 = .ok (.getfield 139, 3) := by decide +kernel
theorem dX11_token_4 : decode cX11_token 4 = .ok (.aload_n 0, 1) := by decide +kernel
theorem dX11_token_5 : decode cX11_token 5 = .ok (.getfield 136, 3) := by decide +kernel
theorem dX11_token_8 : decode cX11_token 8 = .ok (.if_icmp .ge 44, 3) := by decide +kernel
theorem dX11_token_11 : decode cX11_token 11 = .ok (.aload_n 0, 1) := by decide +kernel
theorem dX11_token_12 : decode cX11_token 12 = .ok (.getfield 7, 3) := by decide +kernel
theorem dX11_token_15 : decode cX11_token 15 = .ok (.aload_n 0, 1) := by decide +kernel
theorem dX11_token_16 : decode cX11_token 16 = .ok (.getfield 139, 3) := by decide +kernel
theorem dX11_token_19 : decode cX11_token 19 = .ok (.iaload, 1) := by decide +kernel
theorem dX11_token_20 : decode cX11_token 20 = .ok (.bipush 10, 2) := by decide +kernel
theorem dX11_token_22 : decode cX11_token 22 = .ok (.if_icmp .eq 17, 3) := by decide +kernel
theorem dX11_token_25 : decode cX11_token 25 = .ok (.aload_n 0, 1) := by decide +kernel
theorem dX11_token_26 : decode cX11_token 26 = .ok (.getfield 7, 3) := by decide +kernel
theorem dX11_token_29 : decode cX11_token 29 = .ok (.aload_n 0, 1) := by decide +kernel
theorem dX11_token_30 : decode cX11_token 30 = .ok (.getfield 139, 3) := by decide +kernel
theorem dX11_token_33 : decode cX11_token 33 = .ok (.iaload, 1) := by decide +kernel
theorem dX11_token_34 : decode cX11_token 34 = .ok (.bipush 32, 2) := by decide +kernel
theorem dX11_token_36 : decode cX11_token 36 = .ok (.if_icmp .ne 16, 3) := by decide +kernel
theorem dX11_token_39 : decode cX11_token 39 = .ok (.aload_n 0, 1) := by decide +kernel
theorem dX11_token_40 : decode cX11_token 40 = .ok (.dup, 1) := by decide +kernel
theorem dX11_token_41 : decode cX11_token 41 = .ok (.getfield 139, 3) := by decide +kernel
theorem dX11_token_44 : decode cX11_token 44 = .ok (.iconst 1, 1) := by decide +kernel
theorem dX11_token_45 : decode cX11_token 45 = .ok (.iadd, 1) := by decide +kernel
theorem dX11_token_46 : decode cX11_token 46 = .ok (.putfield 139, 3) := by decide +kernel
theorem dX11_token_49 : decode cX11_token 49 = .ok (.goto (-49), 3) := by decide +kernel
theorem dX11_token_52 : decode cX11_token 52 = .ok (.aload_n 0, 1) := by decide +kernel
theorem dX11_token_53 : decode cX11_token 53 = .ok (.aload_n 0, 1) := by decide +kernel
theorem dX11_token_54 : decode cX11_token 54 = .ok (.getfield 139, 3) := by decide +kernel
theorem dX11_token_57 : decode cX11_token 57 = .ok (.putfield 133, 3) := by decide +kernel
theorem dX11_token_60 : decode cX11_token 60 = .ok (.aload_n 0, 1) := by decide +kernel
theorem dX11_token_61 : decode cX11_token 61 = .ok (.getfield 139, 3) := by decide +kernel
theorem dX11_token_64 : decode cX11_token 64 = .ok (.aload_n 0, 1) := by decide +kernel
theorem dX11_token_65 : decode cX11_token 65 = .ok (.getfield 136, 3) := by decide +kernel
theorem dX11_token_68 : decode cX11_token 68 = .ok (.if_icmp .ne 11, 3) := by decide +kernel
theorem dX11_token_71 : decode cX11_token 71 = .ok (.aload_n 0, 1) := by decide +kernel
theorem dX11_token_72 : decode cX11_token 72 = .ok (.iconst 0, 1) := by decide +kernel
theorem dX11_token_73 : decode cX11_token 73 = .ok (.putfield 142, 3) := by decide +kernel
theorem dX11_token_76 : decode cX11_token 76 = .ok (.goto 205, 3) := by decide +kernel
theorem dX11_token_79 : decode cX11_token 79 = .ok (.aload_n 0, 1) := by decide +kernel
theorem dX11_token_80 : decode cX11_token 80 = .ok (.aload_n 0, 1) := by decide +kernel
theorem dX11_token_81 : decode cX11_token 81 = .ok (.getfield 139, 3) := by decide +kernel
theorem dX11_token_84 : decode cX11_token 84 = .ok (.invokevirtual 145, 3) := by decide +kernel
theorem dX11_token_87 : decode cX11_token 87 = .ok (.ifCond .eq 105, 3) := by decide +kernel
theorem dX11_token_90 : decode cX11_token 90 = .ok (.aload_n 0, 1) := by decide +kernel
theorem dX11_token_91 : decode cX11_token 91 = .ok (.aload_n 0, 1) := by decide +kernel
theorem dX11_token_92 : decode cX11_token 92 = .ok (.getfield 139, 3) := by decide +kernel
theorem dX11_token_95 : decode cX11_token 95 = .ok (.invokevirtual 145, 3) := by decide +kernel
theorem dX11_token_98 : decode cX11_token 98 = .ok (.ifCond .eq 16, 3) := by decide +kernel
theorem dX11_token_101 : decode cX11_token 101 = .ok (.aload_n 0, 1) := by decide +kernel
theorem dX11_token_102 : decode cX11_token 102 = .ok (.dup, 1) := by decide +kernel
theorem dX11_token_103 : decode cX11_token 103 = .ok (.getfield 139, 3) := by decide +kernel
theorem dX11_token_106 : decode cX11_token 106 = .ok (.iconst 1, 1) := by decide +kernel
theorem dX11_token_107 : decode cX11_token 107 = .ok (.iadd, 1) := by decide +kernel
theorem dX11_token_108 : decode cX11_token 108 = .ok (.putfield 139, 3) := by decide +kernel
theorem dX11_token_111 : decode cX11_token 111 = .ok (.goto (-21), 3) := by decide +kernel
theorem dX11_token_114 : decode cX11_token 114 = .ok (.aload_n 0, 1) := by decide +kernel
theorem dX11_token_115 : decode cX11_token 115 = .ok (.aload_n 0, 1) := by decide +kernel
theorem dX11_token_116 : decode cX11_token 116 = .ok (.aload_n 0, 1) := by decide +kernel
theorem dX11_token_117 : decode cX11_token 117 = .ok (.getfield 133, 3) := by decide +kernel
theorem dX11_token_120 : decode cX11_token 120 = .ok (.aload_n 0, 1) := by decide +kernel
theorem dX11_token_121 : decode cX11_token 121 = .ok (.getfield 139, 3) := by decide +kernel
theorem dX11_token_124 : decode cX11_token 124 = .ok (.invokevirtual 149, 3) := by decide +kernel
theorem dX11_token_127 : decode cX11_token 127 = .ok (.putfield 153, 3) := by decide +kernel
theorem dX11_token_130 : decode cX11_token 130 = .ok (.aload_n 0, 1) := by decide +kernel
theorem dX11_token_131 : decode cX11_token 131 = .ok (.aload_n 0, 1) := by decide +kernel
theorem dX11_token_132 : decode cX11_token 132 = .ok (.getfield 153, 3) := by decide +kernel
theorem dX11_token_135 : decode cX11_token 135 = .ok (.ifCond .lt 7, 3) := by decide +kernel
theorem dX11_token_138 : decode cX11_token 138 = .ok (.iconst 1, 1) := by decide +kernel
theorem dX11_token_139 : decode cX11_token 139 = .ok (.goto 23, 3) := by decide +kernel
theorem dX11_token_142 : decode cX11_token 142 = .ok (.aload_n 0, 1) := by decide +kernel
theorem dX11_token_143 : decode cX11_token 143 = .ok (.getfield 139, 3) := by decide +kernel
theorem dX11_token_146 : decode cX11_token 146 = .ok (.aload_n 0, 1) := by decide +kernel
theorem dX11_token_147 : decode cX11_token 147 = .ok (.getfield 133, 3) := by decide +kernel
theorem dX11_token_150 : decode cX11_token 150 = .ok (.isub, 1) := by decide +kernel
theorem dX11_token_151 : decode cX11_token 151 = .ok (.bipush 6, 2) := by decide +kernel
theorem dX11_token_153 : decode cX11_token 153 = .ok (.if_icmp .le 8, 3) := by decide +kernel
theorem dX11_token_156 : decode cX11_token 156 = .ok (.bipush 6, 2) := by decide +kernel
theorem dX11_token_158 : decode cX11_token 158 = .ok (.goto 4, 3) := by decide +kernel
theorem dX11_token_161 : decode cX11_token 161 = .ok (.iconst 2, 1) := by decide +kernel
theorem dX11_token_162 : decode cX11_token 162 = .ok (.putfield 142, 3) := by decide +kernel
theorem dX11_token_165 : decode cX11_token 165 = .ok (.aload_n 0, 1) := by decide +kernel
theorem dX11_token_166 : decode cX11_token 166 = .ok (.getfield 142, 3) := by decide +kernel
theorem dX11_token_169 : decode cX11_token 169 = .ok (.iconst 2, 1) := by decide +kernel
theorem dX11_token_170 : decode cX11_token 170 = .ok (.if_icmp .ne 111, 3) := by decide +kernel
theorem dX11_token_173 : decode cX11_token 173 = .ok (.aload_n 0, 1) := by decide +kernel
theorem dX11_token_174 : decode cX11_token 174 = .ok (.aload_n 0, 1) := by decide +kernel
theorem dX11_token_175 : decode cX11_token 175 = .ok (.aload_n 0, 1) := by decide +kernel
theorem dX11_token_176 : decode cX11_token 176 = .ok (.getfield 133, 3) := by decide +kernel
theorem dX11_token_179 : decode cX11_token 179 = .ok (.aload_n 0, 1) := by decide +kernel
theorem dX11_token_180 : decode cX11_token 180 = .ok (.getfield 139, 3) := by decide +kernel
theorem dX11_token_183 : decode cX11_token 183 = .ok (.invokevirtual 156, 3) := by decide +kernel
theorem dX11_token_186 : decode cX11_token 186 = .ok (.putfield 153, 3) := by decide +kernel
theorem dX11_token_189 : decode cX11_token 189 = .ok (.goto 92, 3) := by decide +kernel
theorem dX11_token_192 : decode cX11_token 192 = .ok (.aload_n 0, 1) := by decide +kernel
theorem dX11_token_193 : decode cX11_token 193 = .ok (.aload_n 0, 1) := by decide +kernel
theorem dX11_token_194 : decode cX11_token 194 = .ok (.getfield 139, 3) := by decide +kernel
theorem dX11_token_197 : decode cX11_token 197 = .ok (.invokevirtual 159, 3) := by decide +kernel
theorem dX11_token_200 : decode cX11_token 200 = .ok (.ifCond .eq 77, 3) := by decide +kernel
theorem dX11_token_203 : decode cX11_token 203 = .ok (.aload_n 0, 1) := by decide +kernel
theorem dX11_token_204 : decode cX11_token 204 = .ok (.iconst 3, 1) := by decide +kernel
theorem dX11_token_205 : decode cX11_token 205 = .ok (.putfield 142, 3) := by decide +kernel
theorem dX11_token_208 : decode cX11_token 208 = .ok (.aload_n 0, 1) := by decide +kernel
theorem dX11_token_209 : decode cX11_token 209 = .ok (.iconst 0, 1) := by decide +kernel
theorem dX11_token_210 : decode cX11_token 210 = .ok (.putfield 153, 3) := by decide +kernel
theorem dX11_token_213 : decode cX11_token 213 = .ok (.aload_n 0, 1) := by decide +kernel
theorem dX11_token_214 : decode cX11_token 214 = .ok (.aload_n 0, 1) := by decide +kernel
theorem dX11_token_215 : decode cX11_token 215 = .ok (.getfield 139, 3) := by decide +kernel
theorem dX11_token_218 : decode cX11_token 218 = .ok (.invokevirtual 159, 3) := by decide +kernel
theorem dX11_token_221 : decode cX11_token 221 = .ok (.ifCond .eq 60, 3) := by decide +kernel
theorem dX11_token_224 : decode cX11_token 224 = .ok (.aload_n 0, 1) := by decide +kernel
theorem dX11_token_225 : decode cX11_token 225 = .ok (.aload_n 0, 1) := by decide +kernel
theorem dX11_token_226 : decode cX11_token 226 = .ok (.getfield 153, 3) := by decide +kernel
theorem dX11_token_229 : decode cX11_token 229 = .ok (.ldc 162, 2) := by decide +kernel
theorem dX11_token_231 : decode cX11_token 231 = .ok (.if_icmp .le 10, 3) := by decide +kernel
theorem dX11_token_234 : decode cX11_token 234 = .ok (.aload_n 0, 1) := by decide +kernel
theorem dX11_token_235 : decode cX11_token 235 = .ok (.getfield 153, 3) := by decide +kernel
theorem dX11_token_238 : decode cX11_token 238 = .ok (.goto 23, 3) := by decide +kernel
theorem dX11_token_241 : decode cX11_token 241 = .ok (.bipush 10, 2) := by decide +kernel
theorem dX11_token_243 : decode cX11_token 243 = .ok (.aload_n 0, 1) := by decide +kernel
theorem dX11_token_244 : decode cX11_token 244 = .ok (.getfield 153, 3) := by decide +kernel
theorem dX11_token_247 : decode cX11_token 247 = .ok (.imul, 1) := by decide +kernel
theorem dX11_token_248 : decode cX11_token 248 = .ok (.aload_n 0, 1) := by decide +kernel
theorem dX11_token_249 : decode cX11_token 249 = .ok (.getfield 7, 3) := by decide +kernel
theorem dX11_token_252 : decode cX11_token 252 = .ok (.aload_n 0, 1) := by decide +kernel
theorem dX11_token_253 : decode cX11_token 253 = .ok (.getfield 139, 3) := by decide +kernel
theorem dX11_token_256 : decode cX11_token 256 = .ok (.iaload, 1) := by decide +kernel
theorem dX11_token_257 : decode cX11_token 257 = .ok (.iadd, 1) := by decide +kernel
theorem dX11_token_258 : decode cX11_token 258 = .ok (.bipush 48, 2) := by decide +kernel
theorem dX11_token_260 : decode cX11_token 260 = .ok (.isub, 1) := by decide +kernel
theorem dX11_token_261 : decode cX11_token 261 = .ok (.putfield 153, 3) := by decide +kernel
theorem dX11_token_264 : decode cX11_token 264 = .ok (.aload_n 0, 1) := by decide +kernel
theorem dX11_token_265 : decode cX11_token 265 = .ok (.dup, 1) := by decide +kernel
theorem dX11_token_266 : decode cX11_token 266 = .ok (.getfield 139, 3) := by decide +kernel
theorem dX11_token_269 : decode cX11_token 269 = .ok (.iconst 1, 1) := by decide +kernel
theorem dX11_token_270 : decode cX11_token 270 = .ok (.iadd, 1) := by decide +kernel
theorem dX11_token_271 : decode cX11_token 271 = .ok (.putfield 139, 3) := by decide +kernel
theorem dX11_token_274 : decode cX11_token 274 = .ok (.goto (-61), 3) := by decide +kernel
theorem dX11_token_277 : decode cX11_token 277 = .ok (.aload_n 0, 1) := by decide +kernel
theorem dX11_token_278 : decode cX11_token 278 = .ok (.invokevirtual 163, 3) := by decide +kernel
theorem dX11_token_281 : decode cX11_token 281 = .ok (.return_, 1) := by decide +kernel
theorem dX11_signToken_0 : decode cX11_signToken 0 = .ok (.aload_n 0, 1) := by decide +kernel
theorem dX11_signToken_1 : decode cX11_signToken 1 = .ok (.aload_n 0, 1) := by decide +kernel
theorem dX11_signToken_2 : decode cX11_signToken 2 = .ok (.getfield 7, 3) := by decide +kernel
theorem dX11_signToken_5 : decode cX11_signToken 5 = .ok (.aload_n 0, 1) := by decide +kernel
theorem dX11_signToken_6 : decode cX11_signToken 6 = .ok (.getfield 139, 3) := by decide +kernel
theorem dX11_signToken_9 : decode cX11_signToken 9 = .ok (.iaload, 1) := by decide +kernel
theorem dX11_signToken_10 : decode cX11_signToken 10 = .ok (.putfield 153, 3) := by decide +kernel
theorem dX11_signToken_13 : decode cX11_signToken 13 = .ok (.aload_n 0, 1) := by decide +kernel
theorem dX11_signToken_14 : decode cX11_signToken 14 = .ok (.dup, 1) := by decide +kernel
theorem dX11_signToken_15 : decode cX11_signToken 15 = .ok (.getfield 139, 3) := by decide +kernel
theorem dX11_signToken_18 : decode cX11_signToken 18 = .ok (.iconst 1, 1) := by decide +kernel
theorem dX11_signToken_19 : decode cX11_signToken 19 = .ok (.iadd, 1) := by decide +kernel
theorem dX11_signToken_20 : decode cX11_signToken 20 = .ok (.putfield 139, 3) := by decide +kernel
theorem dX11_signToken_23 : decode cX11_signToken 23 = .ok (.aload_n 0, 1) := by decide +kernel
theorem dX11_signToken_24 : decode cX11_signToken 24 = .ok (.getfield 153, 3) := by decide +kernel
theorem dX11_signToken_27 : decode cX11_signToken 27 = .ok (.bipush 60, 2) := by decide +kernel
theorem dX11_signToken_29 : decode cX11_signToken 29 = .ok (.if_icmp .eq 21, 3) := by decide +kernel
theorem dX11_signToken_32 : decode cX11_signToken 32 = .ok (.aload_n 0, 1) := by decide +kernel
theorem dX11_signToken_33 : decode cX11_signToken 33 = .ok (.getfield 153, 3) := by decide +kernel
theorem dX11_signToken_36 : decode cX11_signToken 36 = .ok (.bipush 62, 2) := by decide +kernel
theorem dX11_signToken_38 : decode cX11_signToken 38 = .ok (.if_icmp .eq 12, 3) := by decide +kernel
theorem dX11_signToken_41 : decode cX11_signToken 41 = .ok (.aload_n 0, 1) := by decide +kernel
theorem dX11_signToken_42 : decode cX11_signToken 42 = .ok (.getfield 153, 3) := by decide +kernel
theorem dX11_signToken_45 : decode cX11_signToken 45 = .ok (.bipush 61, 2) := by decide +kernel
theorem dX11_signToken_47 : decode cX11_signToken 47 = .ok (.if_icmp .ne 151, 3) := by decide +kernel
theorem dX11_signToken_50 : decode cX11_signToken 50 = .ok (.aload_n 0, 1) := by decide +kernel
theorem dX11_signToken_51 : decode cX11_signToken 51 = .ok (.getfield 139, 3) := by decide +kernel
theorem dX11_signToken_54 : decode cX11_signToken 54 = .ok (.aload_n 0, 1) := by decide +kernel
theorem dX11_signToken_55 : decode cX11_signToken 55 = .ok (.getfield 136, 3) := by decide +kernel
theorem dX11_signToken_58 : decode cX11_signToken 58 = .ok (.if_icmp .ge 15, 3) := by decide +kernel
theorem dX11_signToken_61 : decode cX11_signToken 61 = .ok (.aload_n 0, 1) := by decide +kernel
theorem dX11_signToken_62 : decode cX11_signToken 62 = .ok (.getfield 7, 3) := by decide +kernel
theorem dX11_signToken_65 : decode cX11_signToken 65 = .ok (.aload_n 0, 1) := by decide +kernel
theorem dX11_signToken_66 : decode cX11_signToken 66 = .ok (.getfield 139, 3) := by decide +kernel
theorem dX11_signToken_69 : decode cX11_signToken 69 = .ok (.iaload, 1) := by decide +kernel
theorem dX11_signToken_70 : decode cX11_signToken 70 = .ok (.goto 4, 3) := by decide +kernel
theorem dX11_signToken_73 : decode cX11_signToken 73 = .ok (.iconst 0, 1) := by decide +kernel
theorem dX11_signToken_74 : decode cX11_signToken 74 = .ok (.istore_n 1, 1) := by decide +kernel
theorem dX11_signToken_75 : decode cX11_signToken 75 = .ok (.aload_n 0, 1) := by decide +kernel
theorem dX11_signToken_76 : decode cX11_signToken 76 = .ok (.getfield 153, 3) := by decide +kernel
theorem dX11_signToken_79 : decode cX11_signToken 79 = .ok (.bipush 61, 2) := by decide +kernel
theorem dX11_signToken_81 : decode cX11_signToken 81 = .ok (.if_icmp .eq 13, 3) := by decide +kernel
theorem dX11_signToken_84 : decode cX11_signToken 84 = .ok (.iload_n 1, 1) := by decide +kernel
theorem dX11_signToken_85 : decode cX11_signToken 85 = .ok (.bipush 61, 2) := by decide +kernel
theorem dX11_signToken_87 : decode cX11_signToken 87 = .ok (.if_icmp .ne 7, 3) := by decide +kernel
theorem dX11_signToken_90 : decode cX11_signToken 90 = .ok (.iconst 1, 1) := by decide +kernel
theorem dX11_signToken_91 : decode cX11_signToken 91 = .ok (.goto 4, 3) := by decide +kernel
theorem dX11_signToken_94 : decode cX11_signToken 94 = .ok (.iconst 0, 1) := by decide +kernel
theorem dX11_signToken_95 : decode cX11_signToken 95 = .ok (.istore_n 2, 1) := by decide +kernel
theorem dX11_signToken_96 : decode cX11_signToken 96 = .ok (.aload_n 0, 1) := by decide +kernel
theorem dX11_signToken_97 : decode cX11_signToken 97 = .ok (.getfield 153, 3) := by decide +kernel
theorem dX11_signToken_100 : decode cX11_signToken 100 = .ok (.bipush 60, 2) := by decide +kernel
theorem dX11_signToken_102 : decode cX11_signToken 102 = .ok (.if_icmp .ne 13, 3) := by decide +kernel
theorem dX11_signToken_105 : decode cX11_signToken 105 = .ok (.iload_n 1, 1) := by decide +kernel
theorem dX11_signToken_106 : decode cX11_signToken 106 = .ok (.bipush 62, 2) := by decide +kernel
theorem dX11_signToken_108 : decode cX11_signToken 108 = .ok (.if_icmp .ne 7, 3) := by decide +kernel
theorem dX11_signToken_111 : decode cX11_signToken 111 = .ok (.iconst 1, 1) := by decide +kernel
theorem dX11_signToken_112 : decode cX11_signToken 112 = .ok (.goto 4, 3) := by decide +kernel
theorem dX11_signToken_115 : decode cX11_signToken 115 = .ok (.iconst 0, 1) := by decide +kernel
theorem dX11_signToken_116 : decode cX11_signToken 116 = .ok (.istore_n 3, 1) := by decide +kernel
theorem dX11_signToken_117 : decode cX11_signToken 117 = .ok (.iload_n 2, 1) := by decide +kernel
theorem dX11_signToken_118 : decode cX11_signToken 118 = .ok (.ifCond .ne 7, 3) := by decide +kernel
theorem dX11_signToken_121 : decode cX11_signToken 121 = .ok (.iload_n 3, 1) := by decide +kernel
theorem dX11_signToken_122 : decode cX11_signToken 122 = .ok (.ifCond .eq 13, 3) := by decide +kernel
theorem dX11_signToken_125 : decode cX11_signToken 125 = .ok (.aload_n 0, 1) := by decide +kernel
theorem dX11_signToken_126 : decode cX11_signToken 126 = .ok (.dup, 1) := by decide +kernel
theorem dX11_signToken_127 : decode cX11_signToken 127 = .ok (.getfield 139, 3) := by decide +kernel
theorem dX11_signToken_130 : decode cX11_signToken 130 = .ok (.iconst 1, 1) := by decide +kernel
theorem dX11_signToken_131 : decode cX11_signToken 131 = .ok (.iadd, 1) := by decide +kernel
theorem dX11_signToken_132 : decode cX11_signToken 132 = .ok (.putfield 139, 3) := by decide +kernel
theorem dX11_signToken_135 : decode cX11_signToken 135 = .ok (.aload_n 0, 1) := by decide +kernel
theorem dX11_signToken_136 : decode cX11_signToken 136 = .ok (.iconst 5, 1) := by decide +kernel
theorem dX11_signToken_137 : decode cX11_signToken 137 = .ok (.putfield 142, 3) := by decide +kernel
theorem dX11_signToken_140 : decode cX11_signToken 140 = .ok (.aload_n 0, 1) := by decide +kernel
theorem dX11_signToken_141 : decode cX11_signToken 141 = .ok (.aload_n 0, 1) := by decide +kernel
theorem dX11_signToken_142 : decode cX11_signToken 142 = .ok (.getfield 153, 3) := by decide +kernel
theorem dX11_signToken_145 : decode cX11_signToken 145 = .ok (.bipush 61, 2) := by decide +kernel
theorem dX11_signToken_147 : decode cX11_signToken 147 = .ok (.if_icmp .ne 7, 3) := by decide +kernel
theorem dX11_signToken_150 : decode cX11_signToken 150 = .ok (.iconst 2, 1) := by decide +kernel
theorem dX11_signToken_151 : decode cX11_signToken 151 = .ok (.goto 41, 3) := by decide +kernel
theorem dX11_signToken_154 : decode cX11_signToken 154 = .ok (.aload_n 0, 1) := by decide +kernel
theorem dX11_signToken_155 : decode cX11_signToken 155 = .ok (.getfield 153, 3) := by decide +kernel
theorem dX11_signToken_158 : decode cX11_signToken 158 = .ok (.bipush 60, 2) := by decide +kernel
theorem dX11_signToken_160 : decode cX11_signToken 160 = .ok (.if_icmp .ne 23, 3) := by decide +kernel
theorem dX11_signToken_163 : decode cX11_signToken 163 = .ok (.iload_n 2, 1) := by decide +kernel
theorem dX11_signToken_164 : decode cX11_signToken 164 = .ok (.ifCond .eq 7, 3) := by decide +kernel
theorem dX11_signToken_167 : decode cX11_signToken 167 = .ok (.iconst 1, 1) := by decide +kernel
theorem dX11_signToken_168 : decode cX11_signToken 168 = .ok (.goto 24, 3) := by decide +kernel
theorem dX11_signToken_171 : decode cX11_signToken 171 = .ok (.iload_n 3, 1) := by decide +kernel
theorem dX11_signToken_172 : decode cX11_signToken 172 = .ok (.ifCond .eq 7, 3) := by decide +kernel
theorem dX11_signToken_175 : decode cX11_signToken 175 = .ok (.iconst 3, 1) := by decide +kernel
theorem dX11_signToken_176 : decode cX11_signToken 176 = .ok (.goto 16, 3) := by decide +kernel
theorem dX11_signToken_179 : decode cX11_signToken 179 = .ok (.iconst 0, 1) := by decide +kernel
theorem dX11_signToken_180 : decode cX11_signToken 180 = .ok (.goto 12, 3) := by decide +kernel
theorem dX11_signToken_183 : decode cX11_signToken 183 = .ok (.iload_n 2, 1) := by decide +kernel
theorem dX11_signToken_184 : decode cX11_signToken 184 = .ok (.ifCond .eq 7, 3) := by decide +kernel
theorem dX11_signToken_187 : decode cX11_signToken 187 = .ok (.iconst 4, 1) := by decide +kernel
theorem dX11_signToken_188 : decode cX11_signToken 188 = .ok (.goto 4, 3) := by decide +kernel
theorem dX11_signToken_191 : decode cX11_signToken 191 = .ok (.iconst 5, 1) := by decide +kernel
theorem dX11_signToken_192 : decode cX11_signToken 192 = .ok (.putfield 153, 3) := by decide +kernel
theorem dX11_signToken_195 : decode cX11_signToken 195 = .ok (.goto 95, 3) := by decide +kernel
theorem dX11_signToken_198 : decode cX11_signToken 198 = .ok (.aload_n 0, 1) := by decide +kernel
theorem dX11_signToken_199 : decode cX11_signToken 199 = .ok (.getfield 153, 3) := by decide +kernel
theorem dX11_signToken_202 : decode cX11_signToken 202 = .ok (.bipush 59, 2) := by decide +kernel
theorem dX11_signToken_204 : decode cX11_signToken 204 = .ok (.if_icmp .eq 66, 3) := by decide +kernel
theorem dX11_signToken_207 : decode cX11_signToken 207 = .ok (.aload_n 0, 1) := by decide +kernel
theorem dX11_signToken_208 : decode cX11_signToken 208 = .ok (.getfield 153, 3) := by decide +kernel
theorem dX11_signToken_211 : decode cX11_signToken 211 = .ok (.bipush 40, 2) := by decide +kernel
theorem dX11_signToken_213 : decode cX11_signToken 213 = .ok (.if_icmp .eq 57, 3) := by decide +kernel
theorem dX11_signToken_216 : decode cX11_signToken 216 = .ok (.aload_n 0, 1) := by decide +kernel
theorem dX11_signToken_217 : decode cX11_signToken 217 = .ok (.getfield 153, 3) := by decide +kernel
theorem dX11_signToken_220 : decode cX11_signToken 220 = .ok (.bipush 41, 2) := by decide +kernel
theorem dX11_signToken_222 : decode cX11_signToken 222 = .ok (.if_icmp .eq 48, 3) := by decide +kernel
theorem dX11_signToken_225 : decode cX11_signToken 225 = .ok (.aload_n 0, 1) := by decide +kernel
theorem dX11_signToken_226 : decode cX11_signToken 226 = .ok (.getfield 153, 3) := by decide +kernel
theorem dX11_signToken_229 : decode cX11_signToken 229 = .ok (.bipush 43, 2) := by decide +kernel
theorem dX11_signToken_231 : decode cX11_signToken 231 = .ok (.if_icmp .eq 39, 3) := by decide +kernel
theorem dX11_signToken_234 : decode cX11_signToken 234 = .ok (.aload_n 0, 1) := by decide +kernel
theorem dX11_signToken_235 : decode cX11_signToken 235 = .ok (.getfield 153, 3) := by decide +kernel
theorem dX11_signToken_238 : decode cX11_signToken 238 = .ok (.bipush 45, 2) := by decide +kernel
theorem dX11_signToken_240 : decode cX11_signToken 240 = .ok (.if_icmp .eq 30, 3) := by decide +kernel
theorem dX11_signToken_243 : decode cX11_signToken 243 = .ok (.aload_n 0, 1) := by decide +kernel
theorem dX11_signToken_244 : decode cX11_signToken 244 = .ok (.getfield 153, 3) := by decide +kernel
theorem dX11_signToken_247 : decode cX11_signToken 247 = .ok (.bipush 42, 2) := by decide +kernel
theorem dX11_signToken_249 : decode cX11_signToken 249 = .ok (.if_icmp .eq 21, 3) := by decide +kernel
theorem dX11_signToken_252 : decode cX11_signToken 252 = .ok (.aload_n 0, 1) := by decide +kernel
theorem dX11_signToken_253 : decode cX11_signToken 253 = .ok (.getfield 153, 3) := by decide +kernel
theorem dX11_signToken_256 : decode cX11_signToken 256 = .ok (.bipush 47, 2) := by decide +kernel
theorem dX11_signToken_258 : decode cX11_signToken 258 = .ok (.if_icmp .eq 12, 3) := by decide +kernel
theorem dX11_signToken_261 : decode cX11_signToken 261 = .ok (.aload_n 0, 1) := by decide +kernel
theorem dX11_signToken_262 : decode cX11_signToken 262 = .ok (.getfield 153, 3) := by decide +kernel
theorem dX11_signToken_265 : decode cX11_signToken 265 = .ok (.bipush 37, 2) := by decide +kernel
theorem dX11_signToken_267 : decode cX11_signToken 267 = .ok (.if_icmp .ne 7, 3) := by decide +kernel
theorem dX11_signToken_270 : decode cX11_signToken 270 = .ok (.iconst 1, 1) := by decide +kernel
theorem dX11_signToken_271 : decode cX11_signToken 271 = .ok (.goto 4, 3) := by decide +kernel
theorem dX11_signToken_274 : decode cX11_signToken 274 = .ok (.iconst 0, 1) := by decide +kernel
theorem dX11_signToken_275 : decode cX11_signToken 275 = .ok (.istore_n 1, 1) := by decide +kernel
theorem dX11_signToken_276 : decode cX11_signToken 276 = .ok (.aload_n 0, 1) := by decide +kernel
theorem dX11_signToken_277 : decode cX11_signToken 277 = .ok (.iload_n 1, 1) := by decide +kernel
theorem dX11_signToken_278 : decode cX11_signToken 278 = .ok (.ifCond .eq 7, 3) := by decide +kernel
theorem dX11_signToken_281 : decode cX11_signToken 281 = .ok (.iconst 4, 1) := by decide +kernel
theorem dX11_signToken_282 : decode cX11_signToken 282 = .ok (.goto 5, 3) := by decide +kernel
theorem dX11_signToken_285 : decode cX11_signToken 285 = .ok (.bipush 6, 2) := by decide +kernel
theorem dX11_signToken_287 : decode cX11_signToken 287 = .ok (.putfield 142, 3) := by decide +kernel
theorem dX11_signToken_290 : decode cX11_signToken 290 = .ok (.return_, 1) := by decide +kernel
theorem dX11_packed_0 : decode cX11_packed 0 = .ok (.iconst 0, 1) := by decide +kernel
theorem dX11_packed_1 : decode cX11_packed 1 = .ok (.istore_n 3, 1) := by decide +kernel
theorem dX11_packed_2 : decode cX11_packed 2 = .ok (.iload_n 1, 1) := by decide +kernel
theorem dX11_packed_3 : decode cX11_packed 3 = .ok (.istore 4, 2) := by decide +kernel
theorem dX11_packed_5 : decode cX11_packed 5 = .ok (.iload 4, 2) := by decide +kernel
theorem dX11_packed_7 : decode cX11_packed 7 = .ok (.iload_n 1, 1) := by decide +kernel
theorem dX11_packed_8 : decode cX11_packed 8 = .ok (.bipush 6, 2) := by decide +kernel
theorem dX11_packed_10 : decode cX11_packed 10 = .ok (.iadd, 1) := by decide +kernel
theorem dX11_packed_11 : decode cX11_packed 11 = .ok (.if_icmp .ge 34, 3) := by decide +kernel
theorem dX11_packed_14 : decode cX11_packed 14 = .ok (.iload_n 3, 1) := by decide +kernel
theorem dX11_packed_15 : decode cX11_packed 15 = .ok (.iconst 5, 1) := by decide +kernel
theorem dX11_packed_16 : decode cX11_packed 16 = .ok (.ishl, 1) := by decide +kernel
theorem dX11_packed_17 : decode cX11_packed 17 = .ok (.iload 4, 2) := by decide +kernel
theorem dX11_packed_19 : decode cX11_packed 19 = .ok (.iload_n 2, 1) := by decide +kernel
theorem dX11_packed_20 : decode cX11_packed 20 = .ok (.if_icmp .ge 16, 3) := by decide +kernel
theorem dX11_packed_23 : decode cX11_packed 23 = .ok (.aload_n 0, 1) := by decide +kernel
theorem dX11_packed_24 : decode cX11_packed 24 = .ok (.getfield 7, 3) := by decide +kernel
theorem dX11_packed_27 : decode cX11_packed 27 = .ok (.iload 4, 2) := by decide +kernel
theorem dX11_packed_29 : decode cX11_packed 29 = .ok (.iaload, 1) := by decide +kernel
theorem dX11_packed_30 : decode cX11_packed 30 = .ok (.bipush 96, 2) := by decide +kernel
theorem dX11_packed_32 : decode cX11_packed 32 = .ok (.isub, 1) := by decide +kernel
theorem dX11_packed_33 : decode cX11_packed 33 = .ok (.goto 4, 3) := by decide +kernel
theorem dX11_packed_36 : decode cX11_packed 36 = .ok (.iconst 0, 1) := by decide +kernel
theorem dX11_packed_37 : decode cX11_packed 37 = .ok (.ior, 1) := by decide +kernel
theorem dX11_packed_38 : decode cX11_packed 38 = .ok (.istore_n 3, 1) := by decide +kernel
theorem dX11_packed_39 : decode cX11_packed 39 = .ok (.iinc 4 1, 3) := by decide +kernel
theorem dX11_packed_42 : decode cX11_packed 42 = .ok (.goto (-37), 3) := by decide +kernel
theorem dX11_packed_45 : decode cX11_packed 45 = .ok (.iload_n 3, 1) := by decide +kernel
theorem dX11_packed_46 : decode cX11_packed 46 = .ok (.ireturn, 1) := by decide +kernel
theorem dX11_isKey_0 : decode cX11_isKey 0 = .ok (.aload_n 0, 1) := by decide +kernel
theorem dX11_isKey_1 : decode cX11_isKey 1 = .ok (.getfield 142, 3) := by decide +kernel
theorem dX11_isKey_4 : decode cX11_isKey 4 = .ok (.iconst 1, 1) := by decide +kernel
theorem dX11_isKey_5 : decode cX11_isKey 5 = .ok (.if_icmp .ne 15, 3) := by decide +kernel
theorem dX11_isKey_8 : decode cX11_isKey 8 = .ok (.aload_n 0, 1) := by decide +kernel
theorem dX11_isKey_9 : decode cX11_isKey 9 = .ok (.getfield 153, 3) := by decide +kernel
theorem dX11_isKey_12 : decode cX11_isKey 12 = .ok (.iload_n 1, 1) := by decide +kernel
theorem dX11_isKey_13 : decode cX11_isKey 13 = .ok (.if_icmp .ne 7, 3) := by decide +kernel
theorem dX11_isKey_16 : decode cX11_isKey 16 = .ok (.iconst 1, 1) := by decide +kernel
theorem dX11_isKey_17 : decode cX11_isKey 17 = .ok (.goto 4, 3) := by decide +kernel
theorem dX11_isKey_20 : decode cX11_isKey 20 = .ok (.iconst 0, 1) := by decide +kernel
theorem dX11_isKey_21 : decode cX11_isKey 21 = .ok (.ireturn, 1) := by decide +kernel
theorem dX11_isSign_0 : decode cX11_isSign 0 = .ok (.aload_n 0, 1) := by decide +kernel
theorem dX11_isSign_1 : decode cX11_isSign 1 = .ok (.getfield 142, 3) := by decide +kernel
theorem dX11_isSign_4 : decode cX11_isSign 4 = .ok (.iconst 4, 1) := by decide +kernel
theorem dX11_isSign_5 : decode cX11_isSign 5 = .ok (.if_icmp .ne 15, 3) := by decide +kernel
theorem dX11_isSign_8 : decode cX11_isSign 8 = .ok (.aload_n 0, 1) := by decide +kernel
theorem dX11_isSign_9 : decode cX11_isSign 9 = .ok (.getfield 153, 3) := by decide +kernel
theorem dX11_isSign_12 : decode cX11_isSign 12 = .ok (.iload_n 1, 1) := by decide +kernel
theorem dX11_isSign_13 : decode cX11_isSign 13 = .ok (.if_icmp .ne 7, 3) := by decide +kernel
theorem dX11_isSign_16 : decode cX11_isSign 16 = .ok (.iconst 1, 1) := by decide +kernel
theorem dX11_isSign_17 : decode cX11_isSign 17 = .ok (.goto 4, 3) := by decide +kernel
theorem dX11_isSign_20 : decode cX11_isSign 20 = .ok (.iconst 0, 1) := by decide +kernel
theorem dX11_isSign_21 : decode cX11_isSign 21 = .ok (.ireturn, 1) := by decide +kernel
theorem dX11_number_0 : decode cX11_number 0 = .ok (.aload_n 0, 1) := by decide +kernel
theorem dX11_number_1 : decode cX11_number 1 = .ok (.getfield 142, 3) := by decide +kernel
theorem dX11_number_4 : decode cX11_number 4 = .ok (.iconst 3, 1) := by decide +kernel
theorem dX11_number_5 : decode cX11_number 5 = .ok (.if_icmp .eq 9, 3) := by decide +kernel
theorem dX11_number_8 : decode cX11_number 8 = .ok (.aload_n 0, 1) := by decide +kernel
theorem dX11_number_9 : decode cX11_number 9 = .ok (.iconst 1, 1) := by decide +kernel
theorem dX11_number_10 : decode cX11_number 10 = .ok (.invokevirtual 166, 3) := by decide +kernel
theorem dX11_number_13 : decode cX11_number 13 = .ok (.ireturn, 1) := by decide +kernel
theorem dX11_number_14 : decode cX11_number 14 = .ok (.aload_n 0, 1) := by decide +kernel
theorem dX11_number_15 : decode cX11_number 15 = .ok (.getfield 153, 3) := by decide +kernel
theorem dX11_number_18 : decode cX11_number 18 = .ok (.iload_n 1, 1) := by decide +kernel
theorem dX11_number_19 : decode cX11_number 19 = .ok (.iload_n 2, 1) := by decide +kernel
theorem dX11_number_20 : decode cX11_number 20 = .ok (.invokestatic 169, 3) := by decide +kernel
theorem dX11_number_23 : decode cX11_number 23 = .ok (.ifCond .ne 9, 3) := by decide +kernel
theorem dX11_number_26 : decode cX11_number 26 = .ok (.aload_n 0, 1) := by decide +kernel
theorem dX11_number_27 : decode cX11_number 27 = .ok (.iconst 2, 1) := by decide +kernel
theorem dX11_number_28 : decode cX11_number 28 = .ok (.invokevirtual 166, 3) := by decide +kernel
theorem dX11_number_31 : decode cX11_number 31 = .ok (.ireturn, 1) := by decide +kernel
theorem dX11_number_32 : decode cX11_number 32 = .ok (.aload_n 0, 1) := by decide +kernel
theorem dX11_number_33 : decode cX11_number 33 = .ok (.aload_n 0, 1) := by decide +kernel
theorem dX11_number_34 : decode cX11_number 34 = .ok (.getfield 153, 3) := by decide +kernel
theorem dX11_number_37 : decode cX11_number 37 = .ok (.putfield 173, 3) := by decide +kernel
theorem dX11_number_40 : decode cX11_number 40 = .ok (.aload_n 0, 1) := by decide +kernel
theorem dX11_number_41 : decode cX11_number 41 = .ok (.invokevirtual 176, 3) := by decide +kernel
theorem dX11_number_44 : decode cX11_number 44 = .ok (.iconst 1, 1) := by decide +kernel
theorem dX11_number_45 : decode cX11_number 45 = .ok (.ireturn, 1) := by decide +kernel
theorem dX11_plain_0 : decode cX11_plain 0 = .ok (.aload_n 0, 1) := by decide +kernel
theorem dX11_plain_1 : decode cX11_plain 1 = .ok (.iconst 0, 1) := by decide +kernel
theorem dX11_plain_2 : decode cX11_plain 2 = .ok (.putfield 186, 3) := by decide +kernel
theorem dX11_plain_5 : decode cX11_plain 5 = .ok (.aload_n 0, 1) := by decide +kernel
theorem dX11_plain_6 : decode cX11_plain 6 = .ok (.iconst 0, 1) := by decide +kernel
theorem dX11_plain_7 : decode cX11_plain 7 = .ok (.putfield 189, 3) := by decide +kernel
theorem dX11_plain_10 : decode cX11_plain 10 = .ok (.aload_n 0, 1) := by decide +kernel
theorem dX11_plain_11 : decode cX11_plain 11 = .ok (.iconst 0, 1) := by decide +kernel
theorem dX11_plain_12 : decode cX11_plain 12 = .ok (.putfield 192, 3) := by decide +kernel
theorem dX11_plain_15 : decode cX11_plain 15 = .ok (.aload_n 0, 1) := by decide +kernel
theorem dX11_plain_16 : decode cX11_plain 16 = .ok (.iconst 0, 1) := by decide +kernel
theorem dX11_plain_17 : decode cX11_plain 17 = .ok (.putfield 195, 3) := by decide +kernel
theorem dX11_plain_20 : decode cX11_plain 20 = .ok (.aload_n 0, 1) := by decide +kernel
theorem dX11_plain_21 : decode cX11_plain 21 = .ok (.iconst 0, 1) := by decide +kernel
theorem dX11_plain_22 : decode cX11_plain 22 = .ok (.putfield 198, 3) := by decide +kernel
theorem dX11_plain_25 : decode cX11_plain 25 = .ok (.iconst 0, 1) := by decide +kernel
theorem dX11_plain_26 : decode cX11_plain 26 = .ok (.istore_n 1, 1) := by decide +kernel
theorem dX11_plain_27 : decode cX11_plain 27 = .ok (.iload_n 1, 1) := by decide +kernel
theorem dX11_plain_28 : decode cX11_plain 28 = .ok (.iconst 4, 1) := by decide +kernel
theorem dX11_plain_29 : decode cX11_plain 29 = .ok (.if_icmp .ge 42, 3) := by decide +kernel
theorem dX11_plain_32 : decode cX11_plain 32 = .ok (.aload_n 0, 1) := by decide +kernel
theorem dX11_plain_33 : decode cX11_plain 33 = .ok (.getfield 20, 3) := by decide +kernel
theorem dX11_plain_36 : decode cX11_plain 36 = .ok (.iload_n 1, 1) := by decide +kernel
theorem dX11_plain_37 : decode cX11_plain 37 = .ok (.iconst 0, 1) := by decide +kernel
theorem dX11_plain_38 : decode cX11_plain 38 = .ok (.bastore, 1) := by decide +kernel
theorem dX11_plain_39 : decode cX11_plain 39 = .ok (.aload_n 0, 1) := by decide +kernel
theorem dX11_plain_40 : decode cX11_plain 40 = .ok (.getfield 24, 3) := by decide +kernel
theorem dX11_plain_43 : decode cX11_plain 43 = .ok (.iconst 4, 1) := by decide +kernel
theorem dX11_plain_44 : decode cX11_plain 44 = .ok (.iload_n 1, 1) := by decide +kernel
theorem dX11_plain_45 : decode cX11_plain 45 = .ok (.iadd, 1) := by decide +kernel
theorem dX11_plain_46 : decode cX11_plain 46 = .ok (.iload_n 1, 1) := by decide +kernel
theorem dX11_plain_47 : decode cX11_plain 47 = .ok (.ifCond .ne 7, 3) := by decide +kernel
theorem dX11_plain_50 : decode cX11_plain 50 = .ok (.iconst 3, 1) := by decide +kernel
theorem dX11_plain_51 : decode cX11_plain 51 = .ok (.goto 13, 3) := by decide +kernel
theorem dX11_plain_54 : decode cX11_plain 54 = .ok (.iload_n 1, 1) := by decide +kernel
theorem dX11_plain_55 : decode cX11_plain 55 = .ok (.iconst 1, 1) := by decide +kernel
theorem dX11_plain_56 : decode cX11_plain 56 = .ok (.if_icmp .ne 7, 3) := by decide +kernel
theorem dX11_plain_59 : decode cX11_plain 59 = .ok (.iconst 2, 1) := by decide +kernel
theorem dX11_plain_60 : decode cX11_plain 60 = .ok (.goto 4, 3) := by decide +kernel
theorem dX11_plain_63 : decode cX11_plain 63 = .ok (.iconst 0, 1) := by decide +kernel
theorem dX11_plain_64 : decode cX11_plain 64 = .ok (.iastore, 1) := by decide +kernel
theorem dX11_plain_65 : decode cX11_plain 65 = .ok (.iinc 1 1, 3) := by decide +kernel
theorem dX11_plain_68 : decode cX11_plain 68 = .ok (.goto (-41), 3) := by decide +kernel
theorem dX11_plain_71 : decode cX11_plain 71 = .ok (.iconst 3, 1) := by decide +kernel
theorem dX11_plain_72 : decode cX11_plain 72 = .ok (.istore_n 1, 1) := by decide +kernel
theorem dX11_plain_73 : decode cX11_plain 73 = .ok (.iload_n 1, 1) := by decide +kernel
theorem dX11_plain_74 : decode cX11_plain 74 = .ok (.bipush 6, 2) := by decide +kernel
theorem dX11_plain_76 : decode cX11_plain 76 = .ok (.if_icmp .ge 16, 3) := by decide +kernel
theorem dX11_plain_79 : decode cX11_plain 79 = .ok (.aload_n 0, 1) := by decide +kernel
theorem dX11_plain_80 : decode cX11_plain 80 = .ok (.getfield 54, 3) := by decide +kernel
theorem dX11_plain_83 : decode cX11_plain 83 = .ok (.iload_n 1, 1) := by decide +kernel
theorem dX11_plain_84 : decode cX11_plain 84 = .ok (.iconst 0, 1) := by decide +kernel
theorem dX11_plain_85 : decode cX11_plain 85 = .ok (.bastore, 1) := by decide +kernel
theorem dX11_plain_86 : decode cX11_plain 86 = .ok (.iinc 1 1, 3) := by decide +kernel
theorem dX11_plain_89 : decode cX11_plain 89 = .ok (.goto (-16), 3) := by decide +kernel
theorem dX11_plain_92 : decode cX11_plain 92 = .ok (.return_, 1) := by decide +kernel
theorem dX11_copies_0 : decode cX11_copies 0 = .ok (.iconst 0, 1) := by decide +kernel
theorem dX11_copies_1 : decode cX11_copies 1 = .ok (.istore_n 2, 1) := by decide +kernel
theorem dX11_copies_2 : decode cX11_copies 2 = .ok (.iload_n 2, 1) := by decide +kernel
theorem dX11_copies_3 : decode cX11_copies 3 = .ok (.iload_n 1, 1) := by decide +kernel
theorem dX11_copies_4 : decode cX11_copies 4 = .ok (.if_icmp .ge 17, 3) := by decide +kernel
theorem dX11_copies_7 : decode cX11_copies 7 = .ok (.aload_n 0, 1) := by decide +kernel
theorem dX11_copies_8 : decode cX11_copies 8 = .ok (.iload_n 2, 1) := by decide +kernel
theorem dX11_copies_9 : decode cX11_copies 9 = .ok (.aload_n 0, 1) := by decide +kernel
theorem dX11_copies_10 : decode cX11_copies 10 = .ok (.iload_n 1, 1) := by decide +kernel
theorem dX11_copies_11 : decode cX11_copies 11 = .ok (.iload_n 2, 1) := by decide +kernel
theorem dX11_copies_12 : decode cX11_copies 12 = .ok (.iadd, 1) := by decide +kernel
theorem dX11_copies_13 : decode cX11_copies 13 = .ok (.iaload, 1) := by decide +kernel
theorem dX11_copies_14 : decode cX11_copies 14 = .ok (.iastore, 1) := by decide +kernel
theorem dX11_copies_15 : decode cX11_copies 15 = .ok (.iinc 2 1, 3) := by decide +kernel
theorem dX11_copies_18 : decode cX11_copies 18 = .ok (.goto (-16), 3) := by decide +kernel
theorem dX11_copies_21 : decode cX11_copies 21 = .ok (.return_, 1) := by decide +kernel
theorem dX11_keepText_0 : decode cX11_keepText 0 = .ok (.aload_n 0, 1) := by decide +kernel
theorem dX11_keepText_1 : decode cX11_keepText 1 = .ok (.aload_n 0, 1) := by decide +kernel
theorem dX11_keepText_2 : decode cX11_keepText 2 = .ok (.getfield 186, 3) := by decide +kernel
theorem dX11_keepText_5 : decode cX11_keepText 5 = .ok (.putfield 201, 3) := by decide +kernel
theorem dX11_keepText_8 : decode cX11_keepText 8 = .ok (.aload_n 0, 1) := by decide +kernel
theorem dX11_keepText_9 : decode cX11_keepText 9 = .ok (.aload_n 0, 1) := by decide +kernel
theorem dX11_keepText_10 : decode cX11_keepText 10 = .ok (.getfield 189, 3) := by decide +kernel
theorem dX11_keepText_13 : decode cX11_keepText 13 = .ok (.putfield 204, 3) := by decide +kernel
theorem dX11_keepText_16 : decode cX11_keepText 16 = .ok (.aload_n 0, 1) := by decide +kernel
theorem dX11_keepText_17 : decode cX11_keepText 17 = .ok (.aload_n 0, 1) := by decide +kernel
theorem dX11_keepText_18 : decode cX11_keepText 18 = .ok (.getfield 192, 3) := by decide +kernel
theorem dX11_keepText_21 : decode cX11_keepText 21 = .ok (.putfield 207, 3) := by decide +kernel
theorem dX11_keepText_24 : decode cX11_keepText 24 = .ok (.aload_n 0, 1) := by decide +kernel
theorem dX11_keepText_25 : decode cX11_keepText 25 = .ok (.aload_n 0, 1) := by decide +kernel
theorem dX11_keepText_26 : decode cX11_keepText 26 = .ok (.getfield 195, 3) := by decide +kernel
theorem dX11_keepText_29 : decode cX11_keepText 29 = .ok (.putfield 210, 3) := by decide +kernel
theorem dX11_keepText_32 : decode cX11_keepText 32 = .ok (.aload_n 0, 1) := by decide +kernel
theorem dX11_keepText_33 : decode cX11_keepText 33 = .ok (.getfield 24, 3) := by decide +kernel
theorem dX11_keepText_36 : decode cX11_keepText 36 = .ok (.iconst 4, 1) := by decide +kernel
theorem dX11_keepText_37 : decode cX11_keepText 37 = .ok (.invokestatic 213, 3) := by decide +kernel
theorem dX11_keepText_40 : decode cX11_keepText 40 = .ok (.aload_n 0, 1) := by decide +kernel
theorem dX11_keepText_41 : decode cX11_keepText 41 = .ok (.getfield 27, 3) := by decide +kernel
theorem dX11_keepText_44 : decode cX11_keepText 44 = .ok (.bipush 6, 2) := by decide +kernel
theorem dX11_keepText_46 : decode cX11_keepText 46 = .ok (.invokestatic 213, 3) := by decide +kernel
theorem dX11_keepText_49 : decode cX11_keepText 49 = .ok (.aload_n 0, 1) := by decide +kernel
theorem dX11_keepText_50 : decode cX11_keepText 50 = .ok (.getfield 30, 3) := by decide +kernel
theorem dX11_keepText_53 : decode cX11_keepText 53 = .ok (.bipush 6, 2) := by decide +kernel
theorem dX11_keepText_55 : decode cX11_keepText 55 = .ok (.invokestatic 213, 3) := by decide +kernel
theorem dX11_keepText_58 : decode cX11_keepText 58 = .ok (.aload_n 0, 1) := by decide +kernel
theorem dX11_keepText_59 : decode cX11_keepText 59 = .ok (.getfield 33, 3) := by decide +kernel
theorem dX11_keepText_62 : decode cX11_keepText 62 = .ok (.bipush 6, 2) := by decide +kernel
theorem dX11_keepText_64 : decode cX11_keepText 64 = .ok (.invokestatic 213, 3) := by decide +kernel
theorem dX11_keepText_67 : decode cX11_keepText 67 = .ok (.aload_n 0, 1) := by decide +kernel
theorem dX11_keepText_68 : decode cX11_keepText 68 = .ok (.getfield 36, 3) := by decide +kernel
theorem dX11_keepText_71 : decode cX11_keepText 71 = .ok (.bipush 10, 2) := by decide +kernel
theorem dX11_keepText_73 : decode cX11_keepText 73 = .ok (.invokestatic 213, 3) := by decide +kernel
theorem dX11_keepText_76 : decode cX11_keepText 76 = .ok (.aload_n 0, 1) := by decide +kernel
theorem dX11_keepText_77 : decode cX11_keepText 77 = .ok (.getfield 39, 3) := by decide +kernel
theorem dX11_keepText_80 : decode cX11_keepText 80 = .ok (.bipush 10, 2) := by decide +kernel
theorem dX11_keepText_82 : decode cX11_keepText 82 = .ok (.invokestatic 213, 3) := by decide +kernel
theorem dX11_keepText_85 : decode cX11_keepText 85 = .ok (.aload_n 0, 1) := by decide +kernel
theorem dX11_keepText_86 : decode cX11_keepText 86 = .ok (.getfield 42, 3) := by decide +kernel
theorem dX11_keepText_89 : decode cX11_keepText 89 = .ok (.bipush 10, 2) := by decide +kernel
theorem dX11_keepText_91 : decode cX11_keepText 91 = .ok (.invokestatic 213, 3) := by decide +kernel
theorem dX11_keepText_94 : decode cX11_keepText 94 = .ok (.aload_n 0, 1) := by decide +kernel
theorem dX11_keepText_95 : decode cX11_keepText 95 = .ok (.getfield 45, 3) := by decide +kernel
theorem dX11_keepText_98 : decode cX11_keepText 98 = .ok (.bipush 12, 2) := by decide +kernel
theorem dX11_keepText_100 : decode cX11_keepText 100 = .ok (.invokestatic 213, 3) := by decide +kernel
theorem dX11_keepText_103 : decode cX11_keepText 103 = .ok (.aload_n 0, 1) := by decide +kernel
theorem dX11_keepText_104 : decode cX11_keepText 104 = .ok (.getfield 48, 3) := by decide +kernel
theorem dX11_keepText_107 : decode cX11_keepText 107 = .ok (.bipush 12, 2) := by decide +kernel
theorem dX11_keepText_109 : decode cX11_keepText 109 = .ok (.invokestatic 213, 3) := by decide +kernel
theorem dX11_keepText_112 : decode cX11_keepText 112 = .ok (.aload_n 0, 1) := by decide +kernel
theorem dX11_keepText_113 : decode cX11_keepText 113 = .ok (.getfield 51, 3) := by decide +kernel
theorem dX11_keepText_116 : decode cX11_keepText 116 = .ok (.bipush 12, 2) := by decide +kernel
theorem dX11_keepText_118 : decode cX11_keepText 118 = .ok (.invokestatic 213, 3) := by decide +kernel
theorem dX11_keepText_121 : decode cX11_keepText 121 = .ok (.iconst 0, 1) := by decide +kernel
theorem dX11_keepText_122 : decode cX11_keepText 122 = .ok (.istore_n 1, 1) := by decide +kernel
theorem dX11_keepText_123 : decode cX11_keepText 123 = .ok (.iload_n 1, 1) := by decide +kernel
theorem dX11_keepText_124 : decode cX11_keepText 124 = .ok (.iconst 3, 1) := by decide +kernel
theorem dX11_keepText_125 : decode cX11_keepText 125 = .ok (.if_icmp .ge 23, 3) := by decide +kernel
theorem dX11_keepText_128 : decode cX11_keepText 128 = .ok (.aload_n 0, 1) := by decide +kernel
theorem dX11_keepText_129 : decode cX11_keepText 129 = .ok (.getfield 54, 3) := by decide +kernel
theorem dX11_keepText_132 : decode cX11_keepText 132 = .ok (.iload_n 1, 1) := by decide +kernel
theorem dX11_keepText_133 : decode cX11_keepText 133 = .ok (.aload_n 0, 1) := by decide +kernel
theorem dX11_keepText_134 : decode cX11_keepText 134 = .ok (.getfield 54, 3) := by decide +kernel
theorem dX11_keepText_137 : decode cX11_keepText 137 = .ok (.iconst 3, 1) := by decide +kernel
theorem dX11_keepText_138 : decode cX11_keepText 138 = .ok (.iload_n 1, 1) := by decide +kernel
theorem dX11_keepText_139 : decode cX11_keepText 139 = .ok (.iadd, 1) := by decide +kernel
theorem dX11_keepText_140 : decode cX11_keepText 140 = .ok (.baload, 1) := by decide +kernel
theorem dX11_keepText_141 : decode cX11_keepText 141 = .ok (.bastore, 1) := by decide +kernel
theorem dX11_keepText_142 : decode cX11_keepText 142 = .ok (.iinc 1 1, 3) := by decide +kernel
theorem dX11_keepText_145 : decode cX11_keepText 145 = .ok (.goto (-22), 3) := by decide +kernel
theorem dX11_keepText_148 : decode cX11_keepText 148 = .ok (.aload_n 0, 1) := by decide +kernel
theorem dX11_keepText_149 : decode cX11_keepText 149 = .ok (.getfield 57, 3) := by decide +kernel
theorem dX11_keepText_152 : decode cX11_keepText 152 = .ok (.iconst 3, 1) := by decide +kernel
theorem dX11_keepText_153 : decode cX11_keepText 153 = .ok (.invokestatic 213, 3) := by decide +kernel
theorem dX11_keepText_156 : decode cX11_keepText 156 = .ok (.aload_n 0, 1) := by decide +kernel
theorem dX11_keepText_157 : decode cX11_keepText 157 = .ok (.getfield 60, 3) := by decide +kernel
theorem dX11_keepText_160 : decode cX11_keepText 160 = .ok (.iconst 3, 1) := by decide +kernel
theorem dX11_keepText_161 : decode cX11_keepText 161 = .ok (.invokestatic 213, 3) := by decide +kernel
theorem dX11_keepText_164 : decode cX11_keepText 164 = .ok (.aload_n 0, 1) := by decide +kernel
theorem dX11_keepText_165 : decode cX11_keepText 165 = .ok (.getfield 63, 3) := by decide +kernel
theorem dX11_keepText_168 : decode cX11_keepText 168 = .ok (.bipush 64, 2) := by decide +kernel
theorem dX11_keepText_170 : decode cX11_keepText 170 = .ok (.invokestatic 213, 3) := by decide +kernel
theorem dX11_keepText_173 : decode cX11_keepText 173 = .ok (.aload_n 0, 1) := by decide +kernel
theorem dX11_keepText_174 : decode cX11_keepText 174 = .ok (.getfield 66, 3) := by decide +kernel
theorem dX11_keepText_177 : decode cX11_keepText 177 = .ok (.bipush 64, 2) := by decide +kernel
theorem dX11_keepText_179 : decode cX11_keepText 179 = .ok (.invokestatic 213, 3) := by decide +kernel
theorem dX11_keepText_182 : decode cX11_keepText 182 = .ok (.aload_n 0, 1) := by decide +kernel
theorem dX11_keepText_183 : decode cX11_keepText 183 = .ok (.getfield 69, 3) := by decide +kernel
theorem dX11_keepText_186 : decode cX11_keepText 186 = .ok (.bipush 64, 2) := by decide +kernel
theorem dX11_keepText_188 : decode cX11_keepText 188 = .ok (.invokestatic 213, 3) := by decide +kernel
theorem dX11_keepText_191 : decode cX11_keepText 191 = .ok (.aload_n 0, 1) := by decide +kernel
theorem dX11_keepText_192 : decode cX11_keepText 192 = .ok (.invokevirtual 217, 3) := by decide +kernel
theorem dX11_keepText_195 : decode cX11_keepText 195 = .ok (.return_, 1) := by decide +kernel
theorem dX11_find_0 : decode cX11_find 0 = .ok (.iconst 0, 1) := by decide +kernel
theorem dX11_find_1 : decode cX11_find 1 = .ok (.istore 4, 2) := by decide +kernel
theorem dX11_find_3 : decode cX11_find 3 = .ok (.iload 4, 2) := by decide +kernel
theorem dX11_find_5 : decode cX11_find 5 = .ok (.iload_n 2, 1) := by decide +kernel
theorem dX11_find_6 : decode cX11_find 6 = .ok (.if_icmp .ge 22, 3) := by decide +kernel
theorem dX11_find_9 : decode cX11_find 9 = .ok (.aload_n 0, 1) := by decide +kernel
theorem dX11_find_10 : decode cX11_find 10 = .ok (.iload_n 1, 1) := by decide +kernel
theorem dX11_find_11 : decode cX11_find 11 = .ok (.iload 4, 2) := by decide +kernel
theorem dX11_find_13 : decode cX11_find 13 = .ok (.iadd, 1) := by decide +kernel
theorem dX11_find_14 : decode cX11_find 14 = .ok (.iaload, 1) := by decide +kernel
theorem dX11_find_15 : decode cX11_find 15 = .ok (.iload_n 3, 1) := by decide +kernel
theorem dX11_find_16 : decode cX11_find 16 = .ok (.if_icmp .ne 6, 3) := by decide +kernel
theorem dX11_find_19 : decode cX11_find 19 = .ok (.iload 4, 2) := by decide +kernel
theorem dX11_find_21 : decode cX11_find 21 = .ok (.ireturn, 1) := by decide +kernel
theorem dX11_find_22 : decode cX11_find 22 = .ok (.iinc 4 1, 3) := by decide +kernel
theorem dX11_find_25 : decode cX11_find 25 = .ok (.goto (-22), 3) := by decide +kernel
theorem dX11_find_28 : decode cX11_find 28 = .ok (.iconst (-1), 1) := by decide +kernel
theorem dX11_find_29 : decode cX11_find 29 = .ok (.ireturn, 1) := by decide +kernel
theorem dX11_houseThere_0 : decode cX11_houseThere 0 = .ok (.aload_n 0, 1) := by decide +kernel
theorem dX11_houseThere_1 : decode cX11_houseThere 1 = .ok (.getfield 142, 3) := by decide +kernel
theorem dX11_houseThere_4 : decode cX11_houseThere 4 = .ok (.iconst 2, 1) := by decide +kernel
theorem dX11_houseThere_5 : decode cX11_houseThere 5 = .ok (.if_icmp .eq 9, 3) := by decide +kernel
theorem dX11_houseThere_8 : decode cX11_houseThere 8 = .ok (.aload_n 0, 1) := by decide +kernel
theorem dX11_houseThere_9 : decode cX11_houseThere 9 = .ok (.iconst 1, 1) := by decide +kernel
theorem dX11_houseThere_10 : decode cX11_houseThere 10 = .ok (.invokevirtual 166, 3) := by decide +kernel
theorem dX11_houseThere_13 : decode cX11_houseThere 13 = .ok (.ireturn, 1) := by decide +kernel
theorem dX11_houseThere_14 : decode cX11_houseThere 14 = .ok (.aload_n 0, 1) := by decide +kernel
theorem dX11_houseThere_15 : decode cX11_houseThere 15 = .ok (.getfield 27, 3) := by decide +kernel
theorem dX11_houseThere_18 : decode cX11_houseThere 18 = .ok (.bipush 6, 2) := by decide +kernel
theorem dX11_houseThere_20 : decode cX11_houseThere 20 = .ok (.aload_n 0, 1) := by decide +kernel
theorem dX11_houseThere_21 : decode cX11_houseThere 21 = .ok (.getfield 186, 3) := by decide +kernel
theorem dX11_houseThere_24 : decode cX11_houseThere 24 = .ok (.aload_n 0, 1) := by decide +kernel
theorem dX11_houseThere_25 : decode cX11_houseThere 25 = .ok (.getfield 153, 3) := by decide +kernel
theorem dX11_houseThere_28 : decode cX11_houseThere 28 = .ok (.invokestatic 220, 3) := by decide +kernel
theorem dX11_houseThere_31 : decode cX11_houseThere 31 = .ok (.istore_n 1, 1) := by decide +kernel
theorem dX11_houseThere_32 : decode cX11_houseThere 32 = .ok (.iload_n 1, 1) := by decide +kernel
theorem dX11_houseThere_33 : decode cX11_houseThere 33 = .ok (.ifCond .ge 9, 3) := by decide +kernel
theorem dX11_houseThere_36 : decode cX11_houseThere 36 = .ok (.aload_n 0, 1) := by decide +kernel
theorem dX11_houseThere_37 : decode cX11_houseThere 37 = .ok (.iconst 4, 1) := by decide +kernel
theorem dX11_houseThere_38 : decode cX11_houseThere 38 = .ok (.invokevirtual 166, 3) := by decide +kernel
theorem dX11_houseThere_41 : decode cX11_houseThere 41 = .ok (.ireturn, 1) := by decide +kernel
theorem dX11_houseThere_42 : decode cX11_houseThere 42 = .ok (.aload_n 0, 1) := by decide +kernel
theorem dX11_houseThere_43 : decode cX11_houseThere 43 = .ok (.invokevirtual 176, 3) := by decide +kernel
theorem dX11_houseThere_46 : decode cX11_houseThere 46 = .ok (.aload_n 0, 1) := by decide +kernel
theorem dX11_houseThere_47 : decode cX11_houseThere 47 = .ok (.iload_n 1, 1) := by decide +kernel
theorem dX11_houseThere_48 : decode cX11_houseThere 48 = .ok (.putfield 173, 3) := by decide +kernel
theorem dX11_houseThere_51 : decode cX11_houseThere 51 = .ok (.iconst 1, 1) := by decide +kernel
theorem dX11_houseThere_52 : decode cX11_houseThere 52 = .ok (.ireturn, 1) := by decide +kernel
theorem dX11_houseLine_0 : decode cX11_houseLine 0 = .ok (.aload_n 0, 1) := by decide +kernel
theorem dX11_houseLine_1 : decode cX11_houseLine 1 = .ok (.getfield 186, 3) := by decide +kernel
theorem dX11_houseLine_4 : decode cX11_houseLine 4 = .ok (.bipush 6, 2) := by decide +kernel
theorem dX11_houseLine_6 : decode cX11_houseLine 6 = .ok (.if_icmp .ne 9, 3) := by decide +kernel
theorem dX11_houseLine_9 : decode cX11_houseLine 9 = .ok (.aload_n 0, 1) := by decide +kernel
theorem dX11_houseLine_10 : decode cX11_houseLine 10 = .ok (.iconst 2, 1) := by decide +kernel
theorem dX11_houseLine_11 : decode cX11_houseLine 11 = .ok (.invokevirtual 166, 3) := by decide +kernel
theorem dX11_houseLine_14 : decode cX11_houseLine 14 = .ok (.ireturn, 1) := by decide +kernel
theorem dX11_houseLine_15 : decode cX11_houseLine 15 = .ok (.aload_n 0, 1) := by decide +kernel
theorem dX11_houseLine_16 : decode cX11_houseLine 16 = .ok (.invokevirtual 176, 3) := by decide +kernel
theorem dX11_houseLine_19 : decode cX11_houseLine 19 = .ok (.aload_n 0, 1) := by decide +kernel
theorem dX11_houseLine_20 : decode cX11_houseLine 20 = .ok (.getfield 142, 3) := by decide +kernel
theorem dX11_houseLine_23 : decode cX11_houseLine 23 = .ok (.iconst 2, 1) := by decide +kernel
theorem dX11_houseLine_24 : decode cX11_houseLine 24 = .ok (.if_icmp .eq 9, 3) := by decide +kernel
theorem dX11_houseLine_27 : decode cX11_houseLine 27 = .ok (.aload_n 0, 1) := by decide +kernel
theorem dX11_houseLine_28 : decode cX11_houseLine 28 = .ok (.iconst 1, 1) := by decide +kernel
theorem dX11_houseLine_29 : decode cX11_houseLine 29 = .ok (.invokevirtual 166, 3) := by decide +kernel
theorem dX11_houseLine_32 : decode cX11_houseLine 32 = .ok (.ireturn, 1) := by decide +kernel
theorem dX11_houseLine_33 : decode cX11_houseLine 33 = .ok (.aload_n 0, 1) := by decide +kernel
theorem dX11_houseLine_34 : decode cX11_houseLine 34 = .ok (.getfield 27, 3) := by decide +kernel
theorem dX11_houseLine_37 : decode cX11_houseLine 37 = .ok (.bipush 6, 2) := by decide +kernel
theorem dX11_houseLine_39 : decode cX11_houseLine 39 = .ok (.aload_n 0, 1) := by decide +kernel
theorem dX11_houseLine_40 : decode cX11_houseLine 40 = .ok (.getfield 186, 3) := by decide +kernel
theorem dX11_houseLine_43 : decode cX11_houseLine 43 = .ok (.aload_n 0, 1) := by decide +kernel
theorem dX11_houseLine_44 : decode cX11_houseLine 44 = .ok (.getfield 153, 3) := by decide +kernel
theorem dX11_houseLine_47 : decode cX11_houseLine 47 = .ok (.invokestatic 220, 3) := by decide +kernel
theorem dX11_houseLine_50 : decode cX11_houseLine 50 = .ok (.ifCond .lt 9, 3) := by decide +kernel
theorem dX11_houseLine_53 : decode cX11_houseLine 53 = .ok (.aload_n 0, 1) := by decide +kernel
theorem dX11_houseLine_54 : decode cX11_houseLine 54 = .ok (.iconst 3, 1) := by decide +kernel
theorem dX11_houseLine_55 : decode cX11_houseLine 55 = .ok (.invokevirtual 166, 3) := by decide +kernel
theorem dX11_houseLine_58 : decode cX11_houseLine 58 = .ok (.ireturn, 1) := by decide +kernel
theorem dX11_houseLine_59 : decode cX11_houseLine 59 = .ok (.aload_n 0, 1) := by decide +kernel
theorem dX11_houseLine_60 : decode cX11_houseLine 60 = .ok (.getfield 27, 3) := by decide +kernel
theorem dX11_houseLine_63 : decode cX11_houseLine 63 = .ok (.bipush 6, 2) := by decide +kernel
theorem dX11_houseLine_65 : decode cX11_houseLine 65 = .ok (.aload_n 0, 1) := by decide +kernel
theorem dX11_houseLine_66 : decode cX11_houseLine 66 = .ok (.getfield 186, 3) := by decide +kernel
theorem dX11_houseLine_69 : decode cX11_houseLine 69 = .ok (.iadd, 1) := by decide +kernel
theorem dX11_houseLine_70 : decode cX11_houseLine 70 = .ok (.aload_n 0, 1) := by decide +kernel
theorem dX11_houseLine_71 : decode cX11_houseLine 71 = .ok (.getfield 153, 3) := by decide +kernel
theorem dX11_houseLine_74 : decode cX11_houseLine 74 = .ok (.iastore, 1) := by decide +kernel
theorem dX11_houseLine_75 : decode cX11_houseLine 75 = .ok (.aload_n 0, 1) := by decide +kernel
theorem dX11_houseLine_76 : decode cX11_houseLine 76 = .ok (.invokevirtual 176, 3) := by decide +kernel
theorem dX11_houseLine_79 : decode cX11_houseLine 79 = .ok (.aload_n 0, 1) := by decide +kernel
theorem dX11_houseLine_80 : decode cX11_houseLine 80 = .ok (.iconst 0, 1) := by decide +kernel
theorem dX11_houseLine_81 : decode cX11_houseLine 81 = .ok (.bipush 99, 2) := by decide +kernel
theorem dX11_houseLine_83 : decode cX11_houseLine 83 = .ok (.invokevirtual 182, 3) := by decide +kernel
theorem dX11_houseLine_86 : decode cX11_houseLine 86 = .ok (.ifCond .ne 5, 3) := by decide +kernel
theorem dX11_houseLine_89 : decode cX11_houseLine 89 = .ok (.iconst 0, 1) := by decide +kernel
theorem dX11_houseLine_90 : decode cX11_houseLine 90 = .ok (.ireturn, 1) := by decide +kernel
theorem dX11_houseLine_91 : decode cX11_houseLine 91 = .ok (.aload_n 0, 1) := by decide +kernel
theorem dX11_houseLine_92 : decode cX11_houseLine 92 = .ok (.getfield 30, 3) := by decide +kernel
theorem dX11_houseLine_95 : decode cX11_houseLine 95 = .ok (.bipush 6, 2) := by decide +kernel
theorem dX11_houseLine_97 : decode cX11_houseLine 97 = .ok (.aload_n 0, 1) := by decide +kernel
theorem dX11_houseLine_98 : decode cX11_houseLine 98 = .ok (.getfield 186, 3) := by decide +kernel
theorem dX11_houseLine_101 : decode cX11_houseLine 101 = .ok (.iadd, 1) := by decide +kernel
theorem dX11_houseLine_102 : decode cX11_houseLine 102 = .ok (.aload_n 0, 1) := by decide +kernel
theorem dX11_houseLine_103 : decode cX11_houseLine 103 = .ok (.getfield 173, 3) := by decide +kernel
theorem dX11_houseLine_106 : decode cX11_houseLine 106 = .ok (.iastore, 1) := by decide +kernel
theorem dX11_houseLine_107 : decode cX11_houseLine 107 = .ok (.aload_n 0, 1) := by decide +kernel
theorem dX11_houseLine_108 : decode cX11_houseLine 108 = .ok (.iconst 0, 1) := by decide +kernel
theorem dX11_houseLine_109 : decode cX11_houseLine 109 = .ok (.bipush 9, 2) := by decide +kernel
theorem dX11_houseLine_111 : decode cX11_houseLine 111 = .ok (.invokevirtual 182, 3) := by decide +kernel
theorem dX11_houseLine_114 : decode cX11_houseLine 114 = .ok (.ifCond .ne 5, 3) := by decide +kernel
theorem dX11_houseLine_117 : decode cX11_houseLine 117 = .ok (.iconst 0, 1) := by decide +kernel
theorem dX11_houseLine_118 : decode cX11_houseLine 118 = .ok (.ireturn, 1) := by decide +kernel
theorem dX11_houseLine_119 : decode cX11_houseLine 119 = .ok (.aload_n 0, 1) := by decide +kernel
theorem dX11_houseLine_120 : decode cX11_houseLine 120 = .ok (.getfield 33, 3) := by decide +kernel
theorem dX11_houseLine_123 : decode cX11_houseLine 123 = .ok (.bipush 6, 2) := by decide +kernel
theorem dX11_houseLine_125 : decode cX11_houseLine 125 = .ok (.aload_n 0, 1) := by decide +kernel
theorem dX11_houseLine_126 : decode cX11_houseLine 126 = .ok (.getfield 186, 3) := by decide +kernel
theorem dX11_houseLine_129 : decode cX11_houseLine 129 = .ok (.iadd, 1) := by decide +kernel
theorem dX11_houseLine_130 : decode cX11_houseLine 130 = .ok (.aload_n 0, 1) := by decide +kernel
theorem dX11_houseLine_131 : decode cX11_houseLine 131 = .ok (.getfield 173, 3) := by decide +kernel
theorem dX11_houseLine_134 : decode cX11_houseLine 134 = .ok (.iastore, 1) := by decide +kernel
theorem dX11_houseLine_135 : decode cX11_houseLine 135 = .ok (.aload_n 0, 1) := by decide +kernel
theorem dX11_houseLine_136 : decode cX11_houseLine 136 = .ok (.dup, 1) := by decide +kernel
theorem dX11_houseLine_137 : decode cX11_houseLine 137 = .ok (.getfield 186, 3) := by decide +kernel
theorem dX11_houseLine_140 : decode cX11_houseLine 140 = .ok (.iconst 1, 1) := by decide +kernel
theorem dX11_houseLine_141 : decode cX11_houseLine 141 = .ok (.iadd, 1) := by decide +kernel
theorem dX11_houseLine_142 : decode cX11_houseLine 142 = .ok (.putfield 186, 3) := by decide +kernel
theorem dX11_houseLine_145 : decode cX11_houseLine 145 = .ok (.iconst 1, 1) := by decide +kernel
theorem dX11_houseLine_146 : decode cX11_houseLine 146 = .ok (.ireturn, 1) := by decide +kernel
theorem dX11_turnLine_0 : decode cX11_turnLine 0 = .ok (.aload_n 0, 1) := by decide +kernel
theorem dX11_turnLine_1 : decode cX11_turnLine 1 = .ok (.getfield 189, 3) := by decide +kernel
theorem dX11_turnLine_4 : decode cX11_turnLine 4 = .ok (.bipush 10, 2) := by decide +kernel
theorem dX11_turnLine_6 : decode cX11_turnLine 6 = .ok (.if_icmp .ne 9, 3) := by decide +kernel
theorem dX11_turnLine_9 : decode cX11_turnLine 9 = .ok (.aload_n 0, 1) := by decide +kernel
theorem dX11_turnLine_10 : decode cX11_turnLine 10 = .ok (.iconst 2, 1) := by decide +kernel
theorem dX11_turnLine_11 : decode cX11_turnLine 11 = .ok (.invokevirtual 166, 3) := by decide +kernel
theorem dX11_turnLine_14 : decode cX11_turnLine 14 = .ok (.ireturn, 1) := by decide +kernel
theorem dX11_turnLine_15 : decode cX11_turnLine 15 = .ok (.aload_n 0, 1) := by decide +kernel
theorem dX11_turnLine_16 : decode cX11_turnLine 16 = .ok (.invokevirtual 176, 3) := by decide +kernel
theorem dX11_turnLine_19 : decode cX11_turnLine 19 = .ok (.aload_n 0, 1) := by decide +kernel
theorem dX11_turnLine_20 : decode cX11_turnLine 20 = .ok (.invokevirtual 224, 3) := by decide +kernel
theorem dX11_turnLine_23 : decode cX11_turnLine 23 = .ok (.ifCond .ne 5, 3) := by decide +kernel
theorem dX11_turnLine_26 : decode cX11_turnLine 26 = .ok (.iconst 0, 1) := by decide +kernel
theorem dX11_turnLine_27 : decode cX11_turnLine 27 = .ok (.ireturn, 1) := by decide +kernel
theorem dX11_turnLine_28 : decode cX11_turnLine 28 = .ok (.bipush 10, 2) := by decide +kernel
theorem dX11_turnLine_30 : decode cX11_turnLine 30 = .ok (.aload_n 0, 1) := by decide +kernel
theorem dX11_turnLine_31 : decode cX11_turnLine 31 = .ok (.getfield 189, 3) := by decide +kernel
theorem dX11_turnLine_34 : decode cX11_turnLine 34 = .ok (.iadd, 1) := by decide +kernel
theorem dX11_turnLine_35 : decode cX11_turnLine 35 = .ok (.istore_n 1, 1) := by decide +kernel
theorem dX11_turnLine_36 : decode cX11_turnLine 36 = .ok (.aload_n 0, 1) := by decide +kernel
theorem dX11_turnLine_37 : decode cX11_turnLine 37 = .ok (.getfield 36, 3) := by decide +kernel
theorem dX11_turnLine_40 : decode cX11_turnLine 40 = .ok (.iload_n 1, 1) := by decide +kernel
theorem dX11_turnLine_41 : decode cX11_turnLine 41 = .ok (.aload_n 0, 1) := by decide +kernel
theorem dX11_turnLine_42 : decode cX11_turnLine 42 = .ok (.getfield 173, 3) := by decide +kernel
theorem dX11_turnLine_45 : decode cX11_turnLine 45 = .ok (.iastore, 1) := by decide +kernel
theorem dX11_turnLine_46 : decode cX11_turnLine 46 = .ok (.aload_n 0, 1) := by decide +kernel
theorem dX11_turnLine_47 : decode cX11_turnLine 47 = .ok (.iconst 0, 1) := by decide +kernel
theorem dX11_turnLine_48 : decode cX11_turnLine 48 = .ok (.bipush 99, 2) := by decide +kernel
theorem dX11_turnLine_50 : decode cX11_turnLine 50 = .ok (.invokevirtual 182, 3) := by decide +kernel
theorem dX11_turnLine_53 : decode cX11_turnLine 53 = .ok (.ifCond .ne 5, 3) := by decide +kernel
theorem dX11_turnLine_56 : decode cX11_turnLine 56 = .ok (.iconst 0, 1) := by decide +kernel
theorem dX11_turnLine_57 : decode cX11_turnLine 57 = .ok (.ireturn, 1) := by decide +kernel
theorem dX11_turnLine_58 : decode cX11_turnLine 58 = .ok (.aload_n 0, 1) := by decide +kernel
theorem dX11_turnLine_59 : decode cX11_turnLine 59 = .ok (.getfield 39, 3) := by decide +kernel
theorem dX11_turnLine_62 : decode cX11_turnLine 62 = .ok (.iload_n 1, 1) := by decide +kernel
theorem dX11_turnLine_63 : decode cX11_turnLine 63 = .ok (.aload_n 0, 1) := by decide +kernel
theorem dX11_turnLine_64 : decode cX11_turnLine 64 = .ok (.getfield 173, 3) := by decide +kernel
theorem dX11_turnLine_67 : decode cX11_turnLine 67 = .ok (.iastore, 1) := by decide +kernel
theorem dX11_turnLine_68 : decode cX11_turnLine 68 = .ok (.aload_n 0, 1) := by decide +kernel
theorem dX11_turnLine_69 : decode cX11_turnLine 69 = .ok (.iconst 0, 1) := by decide +kernel
theorem dX11_turnLine_70 : decode cX11_turnLine 70 = .ok (.bipush 99, 2) := by decide +kernel
theorem dX11_turnLine_72 : decode cX11_turnLine 72 = .ok (.invokevirtual 182, 3) := by decide +kernel
theorem dX11_turnLine_75 : decode cX11_turnLine 75 = .ok (.ifCond .ne 5, 3) := by decide +kernel
theorem dX11_turnLine_78 : decode cX11_turnLine 78 = .ok (.iconst 0, 1) := by decide +kernel
theorem dX11_turnLine_79 : decode cX11_turnLine 79 = .ok (.ireturn, 1) := by decide +kernel
theorem dX11_turnLine_80 : decode cX11_turnLine 80 = .ok (.aload_n 0, 1) := by decide +kernel
theorem dX11_turnLine_81 : decode cX11_turnLine 81 = .ok (.getfield 42, 3) := by decide +kernel
theorem dX11_turnLine_84 : decode cX11_turnLine 84 = .ok (.iload_n 1, 1) := by decide +kernel
theorem dX11_turnLine_85 : decode cX11_turnLine 85 = .ok (.aload_n 0, 1) := by decide +kernel
theorem dX11_turnLine_86 : decode cX11_turnLine 86 = .ok (.getfield 173, 3) := by decide +kernel
theorem dX11_turnLine_89 : decode cX11_turnLine 89 = .ok (.iastore, 1) := by decide +kernel
theorem dX11_turnLine_90 : decode cX11_turnLine 90 = .ok (.aload_n 0, 1) := by decide +kernel
theorem dX11_turnLine_91 : decode cX11_turnLine 91 = .ok (.dup, 1) := by decide +kernel
theorem dX11_turnLine_92 : decode cX11_turnLine 92 = .ok (.getfield 189, 3) := by decide +kernel
theorem dX11_turnLine_95 : decode cX11_turnLine 95 = .ok (.iconst 1, 1) := by decide +kernel
theorem dX11_turnLine_96 : decode cX11_turnLine 96 = .ok (.iadd, 1) := by decide +kernel
theorem dX11_turnLine_97 : decode cX11_turnLine 97 = .ok (.putfield 189, 3) := by decide +kernel
theorem dX11_turnLine_100 : decode cX11_turnLine 100 = .ok (.iconst 1, 1) := by decide +kernel
theorem dX11_turnLine_101 : decode cX11_turnLine 101 = .ok (.ireturn, 1) := by decide +kernel
theorem dX11_soundLine_0 : decode cX11_soundLine 0 = .ok (.aload_n 0, 1) := by decide +kernel
theorem dX11_soundLine_1 : decode cX11_soundLine 1 = .ok (.getfield 192, 3) := by decide +kernel
theorem dX11_soundLine_4 : decode cX11_soundLine 4 = .ok (.bipush 12, 2) := by decide +kernel
theorem dX11_soundLine_6 : decode cX11_soundLine 6 = .ok (.if_icmp .ne 9, 3) := by decide +kernel
theorem dX11_soundLine_9 : decode cX11_soundLine 9 = .ok (.aload_n 0, 1) := by decide +kernel
theorem dX11_soundLine_10 : decode cX11_soundLine 10 = .ok (.iconst 2, 1) := by decide +kernel
theorem dX11_soundLine_11 : decode cX11_soundLine 11 = .ok (.invokevirtual 166, 3) := by decide +kernel
theorem dX11_soundLine_14 : decode cX11_soundLine 14 = .ok (.ireturn, 1) := by decide +kernel
theorem dX11_soundLine_15 : decode cX11_soundLine 15 = .ok (.aload_n 0, 1) := by decide +kernel
theorem dX11_soundLine_16 : decode cX11_soundLine 16 = .ok (.invokevirtual 176, 3) := by decide +kernel
theorem dX11_soundLine_19 : decode cX11_soundLine 19 = .ok (.aload_n 0, 1) := by decide +kernel
theorem dX11_soundLine_20 : decode cX11_soundLine 20 = .ok (.invokevirtual 224, 3) := by decide +kernel
theorem dX11_soundLine_23 : decode cX11_soundLine 23 = .ok (.ifCond .ne 5, 3) := by decide +kernel
theorem dX11_soundLine_26 : decode cX11_soundLine 26 = .ok (.iconst 0, 1) := by decide +kernel
theorem dX11_soundLine_27 : decode cX11_soundLine 27 = .ok (.ireturn, 1) := by decide +kernel
theorem dX11_soundLine_28 : decode cX11_soundLine 28 = .ok (.bipush 12, 2) := by decide +kernel
theorem dX11_soundLine_30 : decode cX11_soundLine 30 = .ok (.aload_n 0, 1) := by decide +kernel
theorem dX11_soundLine_31 : decode cX11_soundLine 31 = .ok (.getfield 192, 3) := by decide +kernel
theorem dX11_soundLine_34 : decode cX11_soundLine 34 = .ok (.iadd, 1) := by decide +kernel
theorem dX11_soundLine_35 : decode cX11_soundLine 35 = .ok (.istore_n 1, 1) := by decide +kernel
theorem dX11_soundLine_36 : decode cX11_soundLine 36 = .ok (.aload_n 0, 1) := by decide +kernel
theorem dX11_soundLine_37 : decode cX11_soundLine 37 = .ok (.getfield 45, 3) := by decide +kernel
theorem dX11_soundLine_40 : decode cX11_soundLine 40 = .ok (.iload_n 1, 1) := by decide +kernel
theorem dX11_soundLine_41 : decode cX11_soundLine 41 = .ok (.aload_n 0, 1) := by decide +kernel
theorem dX11_soundLine_42 : decode cX11_soundLine 42 = .ok (.getfield 173, 3) := by decide +kernel
theorem dX11_soundLine_45 : decode cX11_soundLine 45 = .ok (.iastore, 1) := by decide +kernel
theorem dX11_soundLine_46 : decode cX11_soundLine 46 = .ok (.aload_n 0, 1) := by decide +kernel
theorem dX11_soundLine_47 : decode cX11_soundLine 47 = .ok (.getfield 133, 3) := by decide +kernel
theorem dX11_soundLine_50 : decode cX11_soundLine 50 = .ok (.istore_n 2, 1) := by decide +kernel
theorem dX11_soundLine_51 : decode cX11_soundLine 51 = .ok (.aload_n 0, 1) := by decide +kernel
theorem dX11_soundLine_52 : decode cX11_soundLine 52 = .ok (.iconst 0, 1) := by decide +kernel
theorem dX11_soundLine_53 : decode cX11_soundLine 53 = .ok (.bipush 99, 2) := by decide +kernel
theorem dX11_soundLine_55 : decode cX11_soundLine 55 = .ok (.invokevirtual 182, 3) := by decide +kernel
theorem dX11_soundLine_58 : decode cX11_soundLine 58 = .ok (.ifCond .ne 5, 3) := by decide +kernel
theorem dX11_soundLine_61 : decode cX11_soundLine 61 = .ok (.iconst 0, 1) := by decide +kernel
theorem dX11_soundLine_62 : decode cX11_soundLine 62 = .ok (.ireturn, 1) := by decide +kernel
theorem dX11_soundLine_63 : decode cX11_soundLine 63 = .ok (.aload_n 0, 1) := by decide +kernel
theorem dX11_soundLine_64 : decode cX11_soundLine 64 = .ok (.getfield 48, 3) := by decide +kernel
theorem dX11_soundLine_67 : decode cX11_soundLine 67 = .ok (.iload_n 1, 1) := by decide +kernel
theorem dX11_soundLine_68 : decode cX11_soundLine 68 = .ok (.aload_n 0, 1) := by decide +kernel
theorem dX11_soundLine_69 : decode cX11_soundLine 69 = .ok (.getfield 173, 3) := by decide +kernel
theorem dX11_soundLine_72 : decode cX11_soundLine 72 = .ok (.iastore, 1) := by decide +kernel
theorem dX11_soundLine_73 : decode cX11_soundLine 73 = .ok (.bipush 12, 2) := by decide +kernel
theorem dX11_soundLine_75 : decode cX11_soundLine 75 = .ok (.istore_n 3, 1) := by decide +kernel
theorem dX11_soundLine_76 : decode cX11_soundLine 76 = .ok (.iload_n 3, 1) := by decide +kernel
theorem dX11_soundLine_77 : decode cX11_soundLine 77 = .ok (.iload_n 1, 1) := by decide +kernel
theorem dX11_soundLine_78 : decode cX11_soundLine 78 = .ok (.if_icmp .ge 51, 3) := by decide +kernel
theorem dX11_soundLine_81 : decode cX11_soundLine 81 = .ok (.aload_n 0, 1) := by decide +kernel
theorem dX11_soundLine_82 : decode cX11_soundLine 82 = .ok (.getfield 45, 3) := by decide +kernel
theorem dX11_soundLine_85 : decode cX11_soundLine 85 = .ok (.iload_n 3, 1) := by decide +kernel
theorem dX11_soundLine_86 : decode cX11_soundLine 86 = .ok (.iaload, 1) := by decide +kernel
theorem dX11_soundLine_87 : decode cX11_soundLine 87 = .ok (.aload_n 0, 1) := by decide +kernel
theorem dX11_soundLine_88 : decode cX11_soundLine 88 = .ok (.getfield 45, 3) := by decide +kernel
theorem dX11_soundLine_91 : decode cX11_soundLine 91 = .ok (.iload_n 1, 1) := by decide +kernel
theorem dX11_soundLine_92 : decode cX11_soundLine 92 = .ok (.iaload, 1) := by decide +kernel
theorem dX11_soundLine_93 : decode cX11_soundLine 93 = .ok (.if_icmp .ne 30, 3) := by decide +kernel
theorem dX11_soundLine_96 : decode cX11_soundLine 96 = .ok (.aload_n 0, 1) := by decide +kernel
theorem dX11_soundLine_97 : decode cX11_soundLine 97 = .ok (.getfield 48, 3) := by decide +kernel
theorem dX11_soundLine_100 : decode cX11_soundLine 100 = .ok (.iload_n 3, 1) := by decide +kernel
theorem dX11_soundLine_101 : decode cX11_soundLine 101 = .ok (.iaload, 1) := by decide +kernel
theorem dX11_soundLine_102 : decode cX11_soundLine 102 = .ok (.aload_n 0, 1) := by decide +kernel
theorem dX11_soundLine_103 : decode cX11_soundLine 103 = .ok (.getfield 173, 3) := by decide +kernel
theorem dX11_soundLine_106 : decode cX11_soundLine 106 = .ok (.if_icmp .eq 6, 3) := by decide +kernel
theorem dX11_soundLine_109 : decode cX11_soundLine 109 = .ok (.goto 14, 3) := by decide +kernel
theorem dX11_soundLine_112 : decode cX11_soundLine 112 = .ok (.aload_n 0, 1) := by decide +kernel
theorem dX11_soundLine_113 : decode cX11_soundLine 113 = .ok (.iload_n 2, 1) := by decide +kernel
theorem dX11_soundLine_114 : decode cX11_soundLine 114 = .ok (.putfield 133, 3) := by decide +kernel
theorem dX11_soundLine_117 : decode cX11_soundLine 117 = .ok (.aload_n 0, 1) := by decide +kernel
theorem dX11_soundLine_118 : decode cX11_soundLine 118 = .ok (.iconst 3, 1) := by decide +kernel
theorem dX11_soundLine_119 : decode cX11_soundLine 119 = .ok (.invokevirtual 166, 3) := by decide +kernel
theorem dX11_soundLine_122 : decode cX11_soundLine 122 = .ok (.ireturn, 1) := by decide +kernel
theorem dX11_soundLine_123 : decode cX11_soundLine 123 = .ok (.iinc 3 1, 3) := by decide +kernel
theorem dX11_soundLine_126 : decode cX11_soundLine 126 = .ok (.goto (-50), 3) := by decide +kernel
theorem dX11_soundLine_129 : decode cX11_soundLine 129 = .ok (.aload_n 0, 1) := by decide +kernel
theorem dX11_soundLine_130 : decode cX11_soundLine 130 = .ok (.iconst 1, 1) := by decide +kernel
theorem dX11_soundLine_131 : decode cX11_soundLine 131 = .ok (.bipush 9, 2) := by decide +kernel
theorem dX11_soundLine_133 : decode cX11_soundLine 133 = .ok (.invokevirtual 182, 3) := by decide +kernel
theorem dX11_soundLine_136 : decode cX11_soundLine 136 = .ok (.ifCond .ne 5, 3) := by decide +kernel
theorem dX11_soundLine_139 : decode cX11_soundLine 139 = .ok (.iconst 0, 1) := by decide +kernel
theorem dX11_soundLine_140 : decode cX11_soundLine 140 = .ok (.ireturn, 1) := by decide +kernel
theorem dX11_soundLine_141 : decode cX11_soundLine 141 = .ok (.aload_n 0, 1) := by decide +kernel
theorem dX11_soundLine_142 : decode cX11_soundLine 142 = .ok (.getfield 51, 3) := by decide +kernel
theorem dX11_soundLine_145 : decode cX11_soundLine 145 = .ok (.iload_n 1, 1) := by decide +kernel
theorem dX11_soundLine_146 : decode cX11_soundLine 146 = .ok (.aload_n 0, 1) := by decide +kernel
theorem dX11_soundLine_147 : decode cX11_soundLine 147 = .ok (.getfield 173, 3) := by decide +kernel
theorem dX11_soundLine_150 : decode cX11_soundLine 150 = .ok (.iastore, 1) := by decide +kernel
theorem dX11_soundLine_151 : decode cX11_soundLine 151 = .ok (.aload_n 0, 1) := by decide +kernel
theorem dX11_soundLine_152 : decode cX11_soundLine 152 = .ok (.dup, 1) := by decide +kernel
theorem dX11_soundLine_153 : decode cX11_soundLine 153 = .ok (.getfield 192, 3) := by decide +kernel
theorem dX11_soundLine_156 : decode cX11_soundLine 156 = .ok (.iconst 1, 1) := by decide +kernel
theorem dX11_soundLine_157 : decode cX11_soundLine 157 = .ok (.iadd, 1) := by decide +kernel
theorem dX11_soundLine_158 : decode cX11_soundLine 158 = .ok (.putfield 192, 3) := by decide +kernel
theorem dX11_soundLine_161 : decode cX11_soundLine 161 = .ok (.iconst 1, 1) := by decide +kernel
theorem dX11_soundLine_162 : decode cX11_soundLine 162 = .ok (.ireturn, 1) := by decide +kernel
theorem dX11_onceLine_0 : decode cX11_onceLine 0 = .ok (.aload_n 0, 1) := by decide +kernel
theorem dX11_onceLine_1 : decode cX11_onceLine 1 = .ok (.getfield 20, 3) := by decide +kernel
theorem dX11_onceLine_4 : decode cX11_onceLine 4 = .ok (.iload_n 1, 1) := by decide +kernel
theorem dX11_onceLine_5 : decode cX11_onceLine 5 = .ok (.baload, 1) := by decide +kernel
theorem dX11_onceLine_6 : decode cX11_onceLine 6 = .ok (.ifCond .eq 9, 3) := by decide +kernel
theorem dX11_onceLine_9 : decode cX11_onceLine 9 = .ok (.aload_n 0, 1) := by decide +kernel
theorem dX11_onceLine_10 : decode cX11_onceLine 10 = .ok (.iconst 3, 1) := by decide +kernel
theorem dX11_onceLine_11 : decode cX11_onceLine 11 = .ok (.invokevirtual 166, 3) := by decide +kernel
theorem dX11_onceLine_14 : decode cX11_onceLine 14 = .ok (.ireturn, 1) := by decide +kernel
theorem dX11_onceLine_15 : decode cX11_onceLine 15 = .ok (.aload_n 0, 1) := by decide +kernel
theorem dX11_onceLine_16 : decode cX11_onceLine 16 = .ok (.getfield 20, 3) := by decide +kernel
theorem dX11_onceLine_19 : decode cX11_onceLine 19 = .ok (.iload_n 1, 1) := by decide +kernel
theorem dX11_onceLine_20 : decode cX11_onceLine 20 = .ok (.iconst 1, 1) := by decide +kernel
theorem dX11_onceLine_21 : decode cX11_onceLine 21 = .ok (.bastore, 1) := by decide +kernel
theorem dX11_onceLine_22 : decode cX11_onceLine 22 = .ok (.aload_n 0, 1) := by decide +kernel
theorem dX11_onceLine_23 : decode cX11_onceLine 23 = .ok (.invokevirtual 176, 3) := by decide +kernel
theorem dX11_onceLine_26 : decode cX11_onceLine 26 = .ok (.aload_n 0, 1) := by decide +kernel
theorem dX11_onceLine_27 : decode cX11_onceLine 27 = .ok (.iload_n 2, 1) := by decide +kernel
theorem dX11_onceLine_28 : decode cX11_onceLine 28 = .ok (.iload_n 3, 1) := by decide +kernel
theorem dX11_onceLine_29 : decode cX11_onceLine 29 = .ok (.invokevirtual 182, 3) := by decide +kernel
theorem dX11_onceLine_32 : decode cX11_onceLine 32 = .ok (.ifCond .ne 5, 3) := by decide +kernel
theorem dX11_onceLine_35 : decode cX11_onceLine 35 = .ok (.iconst 0, 1) := by decide +kernel
theorem dX11_onceLine_36 : decode cX11_onceLine 36 = .ok (.ireturn, 1) := by decide +kernel
theorem dX11_onceLine_37 : decode cX11_onceLine 37 = .ok (.aload_n 0, 1) := by decide +kernel
theorem dX11_onceLine_38 : decode cX11_onceLine 38 = .ok (.getfield 24, 3) := by decide +kernel
theorem dX11_onceLine_41 : decode cX11_onceLine 41 = .ok (.iconst 4, 1) := by decide +kernel
theorem dX11_onceLine_42 : decode cX11_onceLine 42 = .ok (.iload_n 1, 1) := by decide +kernel
theorem dX11_onceLine_43 : decode cX11_onceLine 43 = .ok (.iadd, 1) := by decide +kernel
theorem dX11_onceLine_44 : decode cX11_onceLine 44 = .ok (.aload_n 0, 1) := by decide +kernel
theorem dX11_onceLine_45 : decode cX11_onceLine 45 = .ok (.getfield 173, 3) := by decide +kernel
theorem dX11_onceLine_48 : decode cX11_onceLine 48 = .ok (.iastore, 1) := by decide +kernel
theorem dX11_onceLine_49 : decode cX11_onceLine 49 = .ok (.iconst 1, 1) := by decide +kernel
theorem dX11_onceLine_50 : decode cX11_onceLine 50 = .ok (.ireturn, 1) := by decide +kernel
theorem dX11_lineRead_0 : decode cX11_lineRead 0 = .ok (.aload_n 0, 1) := by decide +kernel
theorem dX11_lineRead_1 : decode cX11_lineRead 1 = .ok (.getfield 142, 3) := by decide +kernel
theorem dX11_lineRead_4 : decode cX11_lineRead 4 = .ok (.iconst 1, 1) := by decide +kernel
theorem dX11_lineRead_5 : decode cX11_lineRead 5 = .ok (.if_icmp .ne 12, 3) := by decide +kernel
theorem dX11_lineRead_8 : decode cX11_lineRead 8 = .ok (.aload_n 0, 1) := by decide +kernel
theorem dX11_lineRead_9 : decode cX11_lineRead 9 = .ok (.getfield 153, 3) := by decide +kernel
theorem dX11_lineRead_12 : decode cX11_lineRead 12 = .ok (.bipush 7, 2) := by decide +kernel
theorem dX11_lineRead_14 : decode cX11_lineRead 14 = .ok (.if_icmp .le 9, 3) := by decide +kernel
theorem dX11_lineRead_17 : decode cX11_lineRead 17 = .ok (.aload_n 0, 1) := by decide +kernel
theorem dX11_lineRead_18 : decode cX11_lineRead 18 = .ok (.iconst 1, 1) := by decide +kernel
theorem dX11_lineRead_19 : decode cX11_lineRead 19 = .ok (.invokevirtual 166, 3) := by decide +kernel
theorem dX11_lineRead_22 : decode cX11_lineRead 22 = .ok (.ireturn, 1) := by decide +kernel
theorem dX11_lineRead_23 : decode cX11_lineRead 23 = .ok (.aload_n 0, 1) := by decide +kernel
theorem dX11_lineRead_24 : decode cX11_lineRead 24 = .ok (.getfield 153, 3) := by decide +kernel
theorem dX11_lineRead_27 : decode cX11_lineRead 27 = .ok (.tableswitch 113 0 6 #[41, 49, 57, 65, 77, 89, 101], 41) := by decide +kernel
theorem dX11_lineRead_68 : decode cX11_lineRead 68 = .ok (.aload_n 0, 1) := by decide +kernel
theorem dX11_lineRead_69 : decode cX11_lineRead 69 = .ok (.invokevirtual 228, 3) := by decide +kernel
theorem dX11_lineRead_72 : decode cX11_lineRead 72 = .ok (.istore_n 1, 1) := by decide +kernel
theorem dX11_lineRead_73 : decode cX11_lineRead 73 = .ok (.goto 164, 3) := by decide +kernel
theorem dX11_lineRead_76 : decode cX11_lineRead 76 = .ok (.aload_n 0, 1) := by decide +kernel
theorem dX11_lineRead_77 : decode cX11_lineRead 77 = .ok (.invokevirtual 231, 3) := by decide +kernel
theorem dX11_lineRead_80 : decode cX11_lineRead 80 = .ok (.istore_n 1, 1) := by decide +kernel
theorem dX11_lineRead_81 : decode cX11_lineRead 81 = .ok (.goto 156, 3) := by decide +kernel
theorem dX11_lineRead_84 : decode cX11_lineRead 84 = .ok (.aload_n 0, 1) := by decide +kernel
theorem dX11_lineRead_85 : decode cX11_lineRead 85 = .ok (.invokevirtual 234, 3) := by decide +kernel
theorem dX11_lineRead_88 : decode cX11_lineRead 88 = .ok (.istore_n 1, 1) := by decide +kernel
theorem dX11_lineRead_89 : decode cX11_lineRead 89 = .ok (.goto 148, 3) := by decide +kernel
theorem dX11_lineRead_92 : decode cX11_lineRead 92 = .ok (.aload_n 0, 1) := by decide +kernel
theorem dX11_lineRead_93 : decode cX11_lineRead 93 = .ok (.iconst 0, 1) := by decide +kernel
theorem dX11_lineRead_94 : decode cX11_lineRead 94 = .ok (.iconst 0, 1) := by decide +kernel
theorem dX11_lineRead_95 : decode cX11_lineRead 95 = .ok (.bipush 20, 2) := by decide +kernel
theorem dX11_lineRead_97 : decode cX11_lineRead 97 = .ok (.invokevirtual 237, 3) := by decide +kernel
theorem dX11_lineRead_100 : decode cX11_lineRead 100 = .ok (.istore_n 1, 1) := by decide +kernel
theorem dX11_lineRead_101 : decode cX11_lineRead 101 = .ok (.goto 136, 3) := by decide +kernel
theorem dX11_lineRead_104 : decode cX11_lineRead 104 = .ok (.aload_n 0, 1) := by decide +kernel
theorem dX11_lineRead_105 : decode cX11_lineRead 105 = .ok (.iconst 1, 1) := by decide +kernel
theorem dX11_lineRead_106 : decode cX11_lineRead 106 = .ok (.iconst 1, 1) := by decide +kernel
theorem dX11_lineRead_107 : decode cX11_lineRead 107 = .ok (.bipush 9, 2) := by decide +kernel
theorem dX11_lineRead_109 : decode cX11_lineRead 109 = .ok (.invokevirtual 237, 3) := by decide +kernel
theorem dX11_lineRead_112 : decode cX11_lineRead 112 = .ok (.istore_n 1, 1) := by decide +kernel
theorem dX11_lineRead_113 : decode cX11_lineRead 113 = .ok (.goto 124, 3) := by decide +kernel
theorem dX11_lineRead_116 : decode cX11_lineRead 116 = .ok (.aload_n 0, 1) := by decide +kernel
theorem dX11_lineRead_117 : decode cX11_lineRead 117 = .ok (.iconst 2, 1) := by decide +kernel
theorem dX11_lineRead_118 : decode cX11_lineRead 118 = .ok (.iconst 0, 1) := by decide +kernel
theorem dX11_lineRead_119 : decode cX11_lineRead 119 = .ok (.bipush 100, 2) := by decide +kernel
theorem dX11_lineRead_121 : decode cX11_lineRead 121 = .ok (.invokevirtual 237, 3) := by decide +kernel
theorem dX11_lineRead_124 : decode cX11_lineRead 124 = .ok (.istore_n 1, 1) := by decide +kernel
theorem dX11_lineRead_125 : decode cX11_lineRead 125 = .ok (.goto 112, 3) := by decide +kernel
theorem dX11_lineRead_128 : decode cX11_lineRead 128 = .ok (.aload_n 0, 1) := by decide +kernel
theorem dX11_lineRead_129 : decode cX11_lineRead 129 = .ok (.iconst 3, 1) := by decide +kernel
theorem dX11_lineRead_130 : decode cX11_lineRead 130 = .ok (.iconst 0, 1) := by decide +kernel
theorem dX11_lineRead_131 : decode cX11_lineRead 131 = .ok (.ldc 162, 2) := by decide +kernel
theorem dX11_lineRead_133 : decode cX11_lineRead 133 = .ok (.invokevirtual 237, 3) := by decide +kernel
theorem dX11_lineRead_136 : decode cX11_lineRead 136 = .ok (.istore_n 1, 1) := by decide +kernel
theorem dX11_lineRead_137 : decode cX11_lineRead 137 = .ok (.goto 100, 3) := by decide +kernel
theorem dX11_lineRead_140 : decode cX11_lineRead 140 = .ok (.aload_n 0, 1) := by decide +kernel
theorem dX11_lineRead_141 : decode cX11_lineRead 141 = .ok (.invokevirtual 176, 3) := by decide +kernel
theorem dX11_lineRead_144 : decode cX11_lineRead 144 = .ok (.aload_n 0, 1) := by decide +kernel
theorem dX11_lineRead_145 : decode cX11_lineRead 145 = .ok (.getfield 142, 3) := by decide +kernel
theorem dX11_lineRead_148 : decode cX11_lineRead 148 = .ok (.iconst 1, 1) := by decide +kernel
theorem dX11_lineRead_149 : decode cX11_lineRead 149 = .ok (.if_icmp .ne 21, 3) := by decide +kernel
theorem dX11_lineRead_152 : decode cX11_lineRead 152 = .ok (.aload_n 0, 1) := by decide +kernel
theorem dX11_lineRead_153 : decode cX11_lineRead 153 = .ok (.getfield 153, 3) := by decide +kernel
theorem dX11_lineRead_156 : decode cX11_lineRead 156 = .ok (.bipush 8, 2) := by decide +kernel
theorem dX11_lineRead_158 : decode cX11_lineRead 158 = .ok (.if_icmp .lt 12, 3) := by decide +kernel
theorem dX11_lineRead_161 : decode cX11_lineRead 161 = .ok (.aload_n 0, 1) := by decide +kernel
theorem dX11_lineRead_162 : decode cX11_lineRead 162 = .ok (.getfield 153, 3) := by decide +kernel
theorem dX11_lineRead_165 : decode cX11_lineRead 165 = .ok (.bipush 10, 2) := by decide +kernel
theorem dX11_lineRead_167 : decode cX11_lineRead 167 = .ok (.if_icmp .le 9, 3) := by decide +kernel
theorem dX11_lineRead_170 : decode cX11_lineRead 170 = .ok (.aload_n 0, 1) := by decide +kernel
theorem dX11_lineRead_171 : decode cX11_lineRead 171 = .ok (.iconst 1, 1) := by decide +kernel
theorem dX11_lineRead_172 : decode cX11_lineRead 172 = .ok (.invokevirtual 166, 3) := by decide +kernel
theorem dX11_lineRead_175 : decode cX11_lineRead 175 = .ok (.ireturn, 1) := by decide +kernel
theorem dX11_lineRead_176 : decode cX11_lineRead 176 = .ok (.iconst 3, 1) := by decide +kernel
theorem dX11_lineRead_177 : decode cX11_lineRead 177 = .ok (.aload_n 0, 1) := by decide +kernel
theorem dX11_lineRead_178 : decode cX11_lineRead 178 = .ok (.getfield 153, 3) := by decide +kernel
theorem dX11_lineRead_181 : decode cX11_lineRead 181 = .ok (.iadd, 1) := by decide +kernel
theorem dX11_lineRead_182 : decode cX11_lineRead 182 = .ok (.bipush 8, 2) := by decide +kernel
theorem dX11_lineRead_184 : decode cX11_lineRead 184 = .ok (.isub, 1) := by decide +kernel
theorem dX11_lineRead_185 : decode cX11_lineRead 185 = .ok (.istore_n 2, 1) := by decide +kernel
theorem dX11_lineRead_186 : decode cX11_lineRead 186 = .ok (.aload_n 0, 1) := by decide +kernel
theorem dX11_lineRead_187 : decode cX11_lineRead 187 = .ok (.getfield 54, 3) := by decide +kernel
theorem dX11_lineRead_190 : decode cX11_lineRead 190 = .ok (.iload_n 2, 1) := by decide +kernel
theorem dX11_lineRead_191 : decode cX11_lineRead 191 = .ok (.baload, 1) := by decide +kernel
theorem dX11_lineRead_192 : decode cX11_lineRead 192 = .ok (.ifCond .eq 9, 3) := by decide +kernel
theorem dX11_lineRead_195 : decode cX11_lineRead 195 = .ok (.aload_n 0, 1) := by decide +kernel
theorem dX11_lineRead_196 : decode cX11_lineRead 196 = .ok (.iconst 3, 1) := by decide +kernel
theorem dX11_lineRead_197 : decode cX11_lineRead 197 = .ok (.invokevirtual 166, 3) := by decide +kernel
theorem dX11_lineRead_200 : decode cX11_lineRead 200 = .ok (.ireturn, 1) := by decide +kernel
theorem dX11_lineRead_201 : decode cX11_lineRead 201 = .ok (.aload_n 0, 1) := by decide +kernel
theorem dX11_lineRead_202 : decode cX11_lineRead 202 = .ok (.getfield 54, 3) := by decide +kernel
theorem dX11_lineRead_205 : decode cX11_lineRead 205 = .ok (.iload_n 2, 1) := by decide +kernel
theorem dX11_lineRead_206 : decode cX11_lineRead 206 = .ok (.iconst 1, 1) := by decide +kernel
theorem dX11_lineRead_207 : decode cX11_lineRead 207 = .ok (.bastore, 1) := by decide +kernel
theorem dX11_lineRead_208 : decode cX11_lineRead 208 = .ok (.aload_n 0, 1) := by decide +kernel
theorem dX11_lineRead_209 : decode cX11_lineRead 209 = .ok (.invokevirtual 176, 3) := by decide +kernel
theorem dX11_lineRead_212 : decode cX11_lineRead 212 = .ok (.aload_n 0, 1) := by decide +kernel
theorem dX11_lineRead_213 : decode cX11_lineRead 213 = .ok (.getfield 57, 3) := by decide +kernel
theorem dX11_lineRead_216 : decode cX11_lineRead 216 = .ok (.iload_n 2, 1) := by decide +kernel
theorem dX11_lineRead_217 : decode cX11_lineRead 217 = .ok (.aload_n 0, 1) := by decide +kernel
theorem dX11_lineRead_218 : decode cX11_lineRead 218 = .ok (.getfield 195, 3) := by decide +kernel
theorem dX11_lineRead_221 : decode cX11_lineRead 221 = .ok (.iastore, 1) := by decide +kernel
theorem dX11_lineRead_222 : decode cX11_lineRead 222 = .ok (.aload_n 0, 1) := by decide +kernel
theorem dX11_lineRead_223 : decode cX11_lineRead 223 = .ok (.invokevirtual 240, 3) := by decide +kernel
theorem dX11_lineRead_226 : decode cX11_lineRead 226 = .ok (.istore_n 1, 1) := by decide +kernel
theorem dX11_lineRead_227 : decode cX11_lineRead 227 = .ok (.aload_n 0, 1) := by decide +kernel
theorem dX11_lineRead_228 : decode cX11_lineRead 228 = .ok (.getfield 60, 3) := by decide +kernel
theorem dX11_lineRead_231 : decode cX11_lineRead 231 = .ok (.iload_n 2, 1) := by decide +kernel
theorem dX11_lineRead_232 : decode cX11_lineRead 232 = .ok (.aload_n 0, 1) := by decide +kernel
theorem dX11_lineRead_233 : decode cX11_lineRead 233 = .ok (.getfield 195, 3) := by decide +kernel
theorem dX11_lineRead_236 : decode cX11_lineRead 236 = .ok (.iastore, 1) := by decide +kernel
theorem dX11_lineRead_237 : decode cX11_lineRead 237 = .ok (.iload_n 1, 1) := by decide +kernel
theorem dX11_lineRead_238 : decode cX11_lineRead 238 = .ok (.ifCond .ne 5, 3) := by decide +kernel
theorem dX11_lineRead_241 : decode cX11_lineRead 241 = .ok (.iconst 0, 1) := by decide +kernel
theorem dX11_lineRead_242 : decode cX11_lineRead 242 = .ok (.ireturn, 1) := by decide +kernel
theorem dX11_lineRead_243 : decode cX11_lineRead 243 = .ok (.aload_n 0, 1) := by decide +kernel
theorem dX11_lineRead_244 : decode cX11_lineRead 244 = .ok (.bipush 59, 2) := by decide +kernel
theorem dX11_lineRead_246 : decode cX11_lineRead 246 = .ok (.invokevirtual 179, 3) := by decide +kernel
theorem dX11_lineRead_249 : decode cX11_lineRead 249 = .ok (.ifCond .ne 9, 3) := by decide +kernel
theorem dX11_lineRead_252 : decode cX11_lineRead 252 = .ok (.aload_n 0, 1) := by decide +kernel
theorem dX11_lineRead_253 : decode cX11_lineRead 253 = .ok (.iconst 1, 1) := by decide +kernel
theorem dX11_lineRead_254 : decode cX11_lineRead 254 = .ok (.invokevirtual 166, 3) := by decide +kernel
theorem dX11_lineRead_257 : decode cX11_lineRead 257 = .ok (.ireturn, 1) := by decide +kernel
theorem dX11_lineRead_258 : decode cX11_lineRead 258 = .ok (.aload_n 0, 1) := by decide +kernel
theorem dX11_lineRead_259 : decode cX11_lineRead 259 = .ok (.invokevirtual 176, 3) := by decide +kernel
theorem dX11_lineRead_262 : decode cX11_lineRead 262 = .ok (.iconst 1, 1) := by decide +kernel
theorem dX11_lineRead_263 : decode cX11_lineRead 263 = .ok (.ireturn, 1) := by decide +kernel
theorem dX11_text_0 : decode cX11_text 0 = .ok (.aload_n 0, 1) := by decide +kernel
theorem dX11_text_1 : decode cX11_text 1 = .ok (.iconst 0, 1) := by decide +kernel
theorem dX11_text_2 : decode cX11_text 2 = .ok (.putfield 124, 3) := by decide +kernel
theorem dX11_text_5 : decode cX11_text 5 = .ok (.iload_n 1, 1) := by decide +kernel
theorem dX11_text_6 : decode cX11_text 6 = .ok (.ifCond .lt 11, 3) := by decide +kernel
theorem dX11_text_9 : decode cX11_text 9 = .ok (.iload_n 1, 1) := by decide +kernel
theorem dX11_text_10 : decode cX11_text 10 = .ok (.aload_n 0, 1) := by decide +kernel
theorem dX11_text_11 : decode cX11_text 11 = .ok (.getfield 127, 3) := by decide +kernel
theorem dX11_text_14 : decode cX11_text 14 = .ok (.if_icmp .le 6, 3) := by decide +kernel
theorem dX11_text_17 : decode cX11_text 17 = .ok (.bipush (-2), 2) := by decide +kernel
theorem dX11_text_19 : decode cX11_text 19 = .ok (.ireturn, 1) := by decide +kernel
theorem dX11_text_20 : decode cX11_text 20 = .ok (.aload_n 0, 1) := by decide +kernel
theorem dX11_text_21 : decode cX11_text 21 = .ok (.iload_n 1, 1) := by decide +kernel
theorem dX11_text_22 : decode cX11_text 22 = .ok (.putfield 136, 3) := by decide +kernel
theorem dX11_text_25 : decode cX11_text 25 = .ok (.aload_n 0, 1) := by decide +kernel
theorem dX11_text_26 : decode cX11_text 26 = .ok (.iconst 0, 1) := by decide +kernel
theorem dX11_text_27 : decode cX11_text 27 = .ok (.putfield 127, 3) := by decide +kernel
theorem dX11_text_30 : decode cX11_text 30 = .ok (.aload_n 0, 1) := by decide +kernel
theorem dX11_text_31 : decode cX11_text 31 = .ok (.iconst 0, 1) := by decide +kernel
theorem dX11_text_32 : decode cX11_text 32 = .ok (.putfield 130, 3) := by decide +kernel
theorem dX11_text_35 : decode cX11_text 35 = .ok (.aload_n 0, 1) := by decide +kernel
theorem dX11_text_36 : decode cX11_text 36 = .ok (.iconst (-1), 1) := by decide +kernel
theorem dX11_text_37 : decode cX11_text 37 = .ok (.putfield 16, 3) := by decide +kernel
theorem dX11_text_40 : decode cX11_text 40 = .ok (.aload_n 0, 1) := by decide +kernel
theorem dX11_text_41 : decode cX11_text 41 = .ok (.iconst 0, 1) := by decide +kernel
theorem dX11_text_42 : decode cX11_text 42 = .ok (.putfield 139, 3) := by decide +kernel
theorem dX11_text_45 : decode cX11_text 45 = .ok (.aload_n 0, 1) := by decide +kernel
theorem dX11_text_46 : decode cX11_text 46 = .ok (.invokevirtual 118, 3) := by decide +kernel
theorem dX11_text_49 : decode cX11_text 49 = .ok (.aload_n 0, 1) := by decide +kernel
theorem dX11_text_50 : decode cX11_text 50 = .ok (.invokevirtual 176, 3) := by decide +kernel
theorem dX11_text_53 : decode cX11_text 53 = .ok (.iconst 0, 1) := by decide +kernel
theorem dX11_text_54 : decode cX11_text 54 = .ok (.istore_n 2, 1) := by decide +kernel
theorem dX11_text_55 : decode cX11_text 55 = .ok (.aload_n 0, 1) := by decide +kernel
theorem dX11_text_56 : decode cX11_text 56 = .ok (.getfield 142, 3) := by decide +kernel
theorem dX11_text_59 : decode cX11_text 59 = .ok (.ifCond .eq 18, 3) := by decide +kernel
theorem dX11_text_62 : decode cX11_text 62 = .ok (.aload_n 0, 1) := by decide +kernel
theorem dX11_text_63 : decode cX11_text 63 = .ok (.invokevirtual 243, 3) := by decide +kernel
theorem dX11_text_66 : decode cX11_text 66 = .ok (.ifCond .ne 5, 3) := by decide +kernel
theorem dX11_text_69 : decode cX11_text 69 = .ok (.iconst (-1), 1) := by decide +kernel
theorem dX11_text_70 : decode cX11_text 70 = .ok (.ireturn, 1) := by decide +kernel
theorem dX11_text_71 : decode cX11_text 71 = .ok (.iinc 2 1, 3) := by decide +kernel
theorem dX11_text_74 : decode cX11_text 74 = .ok (.goto (-19), 3) := by decide +kernel
theorem dX11_text_77 : decode cX11_text 77 = .ok (.aload_n 0, 1) := by decide +kernel
theorem dX11_text_78 : decode cX11_text 78 = .ok (.invokevirtual 121, 3) := by decide +kernel
theorem dX11_text_81 : decode cX11_text 81 = .ok (.iload_n 2, 1) := by decide +kernel
theorem dX11_text_82 : decode cX11_text 82 = .ok (.ireturn, 1) := by decide +kernel
theorem dX11_fault_0 : decode cX11_fault 0 = .ok (.aload_n 0, 1) := by decide +kernel
theorem dX11_fault_1 : decode cX11_fault 1 = .ok (.iconst 0, 1) := by decide +kernel
theorem dX11_fault_2 : decode cX11_fault 2 = .ok (.putfield 124, 3) := by decide +kernel
theorem dX11_fault_5 : decode cX11_fault 5 = .ok (.iload_n 1, 1) := by decide +kernel
theorem dX11_fault_6 : decode cX11_fault 6 = .ok (.ifCond .ne 10, 3) := by decide +kernel
theorem dX11_fault_9 : decode cX11_fault 9 = .ok (.aload_n 0, 1) := by decide +kernel
theorem dX11_fault_10 : decode cX11_fault 10 = .ok (.getfield 130, 3) := by decide +kernel
theorem dX11_fault_13 : decode cX11_fault 13 = .ok (.goto 16, 3) := by decide +kernel
theorem dX11_fault_16 : decode cX11_fault 16 = .ok (.iload_n 1, 1) := by decide +kernel
theorem dX11_fault_17 : decode cX11_fault 17 = .ok (.iconst 1, 1) := by decide +kernel
theorem dX11_fault_18 : decode cX11_fault 18 = .ok (.if_icmp .ne 10, 3) := by decide +kernel
theorem dX11_fault_21 : decode cX11_fault 21 = .ok (.aload_n 0, 1) := by decide +kernel
theorem dX11_fault_22 : decode cX11_fault 22 = .ok (.getfield 16, 3) := by decide +kernel
theorem dX11_fault_25 : decode cX11_fault 25 = .ok (.goto 4, 3) := by decide +kernel
theorem dX11_fault_28 : decode cX11_fault 28 = .ok (.iconst (-1), 1) := by decide +kernel
theorem dX11_fault_29 : decode cX11_fault 29 = .ok (.ireturn, 1) := by decide +kernel
theorem dX11_named_0 : decode cX11_named 0 = .ok (.aload_n 0, 1) := by decide +kernel
theorem dX11_named_1 : decode cX11_named 1 = .ok (.iconst 0, 1) := by decide +kernel
theorem dX11_named_2 : decode cX11_named 2 = .ok (.putfield 124, 3) := by decide +kernel
theorem dX11_named_5 : decode cX11_named 5 = .ok (.aload_n 0, 1) := by decide +kernel
theorem dX11_named_6 : decode cX11_named 6 = .ok (.getfield 27, 3) := by decide +kernel
theorem dX11_named_9 : decode cX11_named 9 = .ok (.iconst 0, 1) := by decide +kernel
theorem dX11_named_10 : decode cX11_named 10 = .ok (.aload_n 0, 1) := by decide +kernel
theorem dX11_named_11 : decode cX11_named 11 = .ok (.getfield 201, 3) := by decide +kernel
theorem dX11_named_14 : decode cX11_named 14 = .ok (.iload_n 1, 1) := by decide +kernel
theorem dX11_named_15 : decode cX11_named 15 = .ok (.invokestatic 220, 3) := by decide +kernel
theorem dX11_named_18 : decode cX11_named 18 = .ok (.ireturn, 1) := by decide +kernel
theorem dX11_rank_0 : decode cX11_rank 0 = .ok (.iload_n 0, 1) := by decide +kernel
theorem dX11_rank_1 : decode cX11_rank 1 = .ok (.bipush 13, 2) := by decide +kernel
theorem dX11_rank_3 : decode cX11_rank 3 = .ok (.if_icmp .lt 8, 3) := by decide +kernel
theorem dX11_rank_6 : decode cX11_rank 6 = .ok (.bipush 6, 2) := by decide +kernel
theorem dX11_rank_8 : decode cX11_rank 8 = .ok (.goto 50, 3) := by decide +kernel
theorem dX11_rank_11 : decode cX11_rank 11 = .ok (.iload_n 0, 1) := by decide +kernel
theorem dX11_rank_12 : decode cX11_rank 12 = .ok (.bipush 11, 2) := by decide +kernel
theorem dX11_rank_14 : decode cX11_rank 14 = .ok (.if_icmp .lt 7, 3) := by decide +kernel
theorem dX11_rank_17 : decode cX11_rank 17 = .ok (.iconst 5, 1) := by decide +kernel
theorem dX11_rank_18 : decode cX11_rank 18 = .ok (.goto 40, 3) := by decide +kernel
theorem dX11_rank_21 : decode cX11_rank 21 = .ok (.iload_n 0, 1) := by decide +kernel
theorem dX11_rank_22 : decode cX11_rank 22 = .ok (.iconst 5, 1) := by decide +kernel
theorem dX11_rank_23 : decode cX11_rank 23 = .ok (.if_icmp .lt 7, 3) := by decide +kernel
theorem dX11_rank_26 : decode cX11_rank 26 = .ok (.iconst 4, 1) := by decide +kernel
theorem dX11_rank_27 : decode cX11_rank 27 = .ok (.goto 31, 3) := by decide +kernel
theorem dX11_rank_30 : decode cX11_rank 30 = .ok (.iload_n 0, 1) := by decide +kernel
theorem dX11_rank_31 : decode cX11_rank 31 = .ok (.iconst 2, 1) := by decide +kernel
theorem dX11_rank_32 : decode cX11_rank 32 = .ok (.if_icmp .ne 7, 3) := by decide +kernel
theorem dX11_rank_35 : decode cX11_rank 35 = .ok (.iconst 3, 1) := by decide +kernel
theorem dX11_rank_36 : decode cX11_rank 36 = .ok (.goto 22, 3) := by decide +kernel
theorem dX11_rank_39 : decode cX11_rank 39 = .ok (.iload_n 0, 1) := by decide +kernel
theorem dX11_rank_40 : decode cX11_rank 40 = .ok (.iconst 3, 1) := by decide +kernel
theorem dX11_rank_41 : decode cX11_rank 41 = .ok (.if_icmp .ne 7, 3) := by decide +kernel
theorem dX11_rank_44 : decode cX11_rank 44 = .ok (.iconst 2, 1) := by decide +kernel
theorem dX11_rank_45 : decode cX11_rank 45 = .ok (.goto 13, 3) := by decide +kernel
theorem dX11_rank_48 : decode cX11_rank 48 = .ok (.iload_n 0, 1) := by decide +kernel
theorem dX11_rank_49 : decode cX11_rank 49 = .ok (.iconst 4, 1) := by decide +kernel
theorem dX11_rank_50 : decode cX11_rank 50 = .ok (.if_icmp .ne 7, 3) := by decide +kernel
theorem dX11_rank_53 : decode cX11_rank 53 = .ok (.iconst 1, 1) := by decide +kernel
theorem dX11_rank_54 : decode cX11_rank 54 = .ok (.goto 4, 3) := by decide +kernel
theorem dX11_rank_57 : decode cX11_rank 57 = .ok (.iconst 0, 1) := by decide +kernel
theorem dX11_rank_58 : decode cX11_rank 58 = .ok (.ireturn, 1) := by decide +kernel
theorem dX11_grown_0 : decode cX11_grown 0 = .ok (.aload_n 0, 1) := by decide +kernel
theorem dX11_grown_1 : decode cX11_grown 1 = .ok (.getfield 63, 3) := by decide +kernel
theorem dX11_grown_4 : decode cX11_grown 4 = .ok (.bipush 64, 2) := by decide +kernel
theorem dX11_grown_6 : decode cX11_grown 6 = .ok (.aload_n 0, 1) := by decide +kernel
theorem dX11_grown_7 : decode cX11_grown 7 = .ok (.getfield 195, 3) := by decide +kernel
theorem dX11_grown_10 : decode cX11_grown 10 = .ok (.iadd, 1) := by decide +kernel
theorem dX11_grown_11 : decode cX11_grown 11 = .ok (.iload_n 1, 1) := by decide +kernel
theorem dX11_grown_12 : decode cX11_grown 12 = .ok (.iastore, 1) := by decide +kernel
theorem dX11_grown_13 : decode cX11_grown 13 = .ok (.aload_n 0, 1) := by decide +kernel
theorem dX11_grown_14 : decode cX11_grown 14 = .ok (.getfield 66, 3) := by decide +kernel
theorem dX11_grown_17 : decode cX11_grown 17 = .ok (.bipush 64, 2) := by decide +kernel
theorem dX11_grown_19 : decode cX11_grown 19 = .ok (.aload_n 0, 1) := by decide +kernel
theorem dX11_grown_20 : decode cX11_grown 20 = .ok (.getfield 195, 3) := by decide +kernel
theorem dX11_grown_23 : decode cX11_grown 23 = .ok (.iadd, 1) := by decide +kernel
theorem dX11_grown_24 : decode cX11_grown 24 = .ok (.iload_n 2, 1) := by decide +kernel
theorem dX11_grown_25 : decode cX11_grown 25 = .ok (.iastore, 1) := by decide +kernel
theorem dX11_grown_26 : decode cX11_grown 26 = .ok (.aload_n 0, 1) := by decide +kernel
theorem dX11_grown_27 : decode cX11_grown 27 = .ok (.getfield 69, 3) := by decide +kernel
theorem dX11_grown_30 : decode cX11_grown 30 = .ok (.bipush 64, 2) := by decide +kernel
theorem dX11_grown_32 : decode cX11_grown 32 = .ok (.aload_n 0, 1) := by decide +kernel
theorem dX11_grown_33 : decode cX11_grown 33 = .ok (.getfield 195, 3) := by decide +kernel
theorem dX11_grown_36 : decode cX11_grown 36 = .ok (.iadd, 1) := by decide +kernel
theorem dX11_grown_37 : decode cX11_grown 37 = .ok (.iload_n 3, 1) := by decide +kernel
theorem dX11_grown_38 : decode cX11_grown 38 = .ok (.iastore, 1) := by decide +kernel
theorem dX11_grown_39 : decode cX11_grown 39 = .ok (.aload_n 0, 1) := by decide +kernel
theorem dX11_grown_40 : decode cX11_grown 40 = .ok (.getfield 75, 3) := by decide +kernel
theorem dX11_grown_43 : decode cX11_grown 43 = .ok (.aload_n 0, 1) := by decide +kernel
theorem dX11_grown_44 : decode cX11_grown 44 = .ok (.getfield 246, 3) := by decide +kernel
theorem dX11_grown_47 : decode cX11_grown 47 = .ok (.aload_n 0, 1) := by decide +kernel
theorem dX11_grown_48 : decode cX11_grown 48 = .ok (.getfield 195, 3) := by decide +kernel
theorem dX11_grown_51 : decode cX11_grown 51 = .ok (.iastore, 1) := by decide +kernel
theorem dX11_grown_52 : decode cX11_grown 52 = .ok (.aload_n 0, 1) := by decide +kernel
theorem dX11_grown_53 : decode cX11_grown 53 = .ok (.dup, 1) := by decide +kernel
theorem dX11_grown_54 : decode cX11_grown 54 = .ok (.getfield 246, 3) := by decide +kernel
theorem dX11_grown_57 : decode cX11_grown 57 = .ok (.iconst 1, 1) := by decide +kernel
theorem dX11_grown_58 : decode cX11_grown 58 = .ok (.iadd, 1) := by decide +kernel
theorem dX11_grown_59 : decode cX11_grown 59 = .ok (.putfield 246, 3) := by decide +kernel
theorem dX11_grown_62 : decode cX11_grown 62 = .ok (.aload_n 0, 1) := by decide +kernel
theorem dX11_grown_63 : decode cX11_grown 63 = .ok (.dup, 1) := by decide +kernel
theorem dX11_grown_64 : decode cX11_grown 64 = .ok (.getfield 195, 3) := by decide +kernel
theorem dX11_grown_67 : decode cX11_grown 67 = .ok (.iconst 1, 1) := by decide +kernel
theorem dX11_grown_68 : decode cX11_grown 68 = .ok (.iadd, 1) := by decide +kernel
theorem dX11_grown_69 : decode cX11_grown 69 = .ok (.putfield 195, 3) := by decide +kernel
theorem dX11_grown_72 : decode cX11_grown 72 = .ok (.return_, 1) := by decide +kernel
theorem dX11_dropHeld_0 : decode cX11_dropHeld 0 = .ok (.aload_n 0, 1) := by decide +kernel
theorem dX11_dropHeld_1 : decode cX11_dropHeld 1 = .ok (.dup, 1) := by decide +kernel
theorem dX11_dropHeld_2 : decode cX11_dropHeld 2 = .ok (.getfield 246, 3) := by decide +kernel
theorem dX11_dropHeld_5 : decode cX11_dropHeld 5 = .ok (.iconst 1, 1) := by decide +kernel
theorem dX11_dropHeld_6 : decode cX11_dropHeld 6 = .ok (.isub, 1) := by decide +kernel
theorem dX11_dropHeld_7 : decode cX11_dropHeld 7 = .ok (.putfield 246, 3) := by decide +kernel
theorem dX11_dropHeld_10 : decode cX11_dropHeld 10 = .ok (.aload_n 0, 1) := by decide +kernel
theorem dX11_dropHeld_11 : decode cX11_dropHeld 11 = .ok (.getfield 75, 3) := by decide +kernel
theorem dX11_dropHeld_14 : decode cX11_dropHeld 14 = .ok (.aload_n 0, 1) := by decide +kernel
theorem dX11_dropHeld_15 : decode cX11_dropHeld 15 = .ok (.getfield 246, 3) := by decide +kernel
theorem dX11_dropHeld_18 : decode cX11_dropHeld 18 = .ok (.iaload, 1) := by decide +kernel
theorem dX11_dropHeld_19 : decode cX11_dropHeld 19 = .ok (.ireturn, 1) := by decide +kernel
theorem dX11_bind_0 : decode cX11_bind 0 = .ok (.aload_n 0, 1) := by decide +kernel
theorem dX11_bind_1 : decode cX11_bind 1 = .ok (.getfield 249, 3) := by decide +kernel
theorem dX11_bind_4 : decode cX11_bind 4 = .ok (.ifCond .le 72, 3) := by decide +kernel
theorem dX11_bind_7 : decode cX11_bind 7 = .ok (.aload_n 0, 1) := by decide +kernel
theorem dX11_bind_8 : decode cX11_bind 8 = .ok (.getfield 72, 3) := by decide +kernel
theorem dX11_bind_11 : decode cX11_bind 11 = .ok (.aload_n 0, 1) := by decide +kernel
theorem dX11_bind_12 : decode cX11_bind 12 = .ok (.getfield 249, 3) := by decide +kernel
theorem dX11_bind_15 : decode cX11_bind 15 = .ok (.iconst 1, 1) := by decide +kernel
theorem dX11_bind_16 : decode cX11_bind 16 = .ok (.isub, 1) := by decide +kernel
theorem dX11_bind_17 : decode cX11_bind 17 = .ok (.iaload, 1) := by decide +kernel
theorem dX11_bind_18 : decode cX11_bind 18 = .ok (.invokestatic 252, 3) := by decide +kernel
theorem dX11_bind_21 : decode cX11_bind 21 = .ok (.iload_n 1, 1) := by decide +kernel
theorem dX11_bind_22 : decode cX11_bind 22 = .ok (.if_icmp .lt 54, 3) := by decide +kernel
theorem dX11_bind_25 : decode cX11_bind 25 = .ok (.aload_n 0, 1) := by decide +kernel
theorem dX11_bind_26 : decode cX11_bind 26 = .ok (.dup, 1) := by decide +kernel
theorem dX11_bind_27 : decode cX11_bind 27 = .ok (.getfield 249, 3) := by decide +kernel
theorem dX11_bind_30 : decode cX11_bind 30 = .ok (.iconst 1, 1) := by decide +kernel
theorem dX11_bind_31 : decode cX11_bind 31 = .ok (.isub, 1) := by decide +kernel
theorem dX11_bind_32 : decode cX11_bind 32 = .ok (.putfield 249, 3) := by decide +kernel
theorem dX11_bind_35 : decode cX11_bind 35 = .ok (.aload_n 0, 1) := by decide +kernel
theorem dX11_bind_36 : decode cX11_bind 36 = .ok (.getfield 72, 3) := by decide +kernel
theorem dX11_bind_39 : decode cX11_bind 39 = .ok (.aload_n 0, 1) := by decide +kernel
theorem dX11_bind_40 : decode cX11_bind 40 = .ok (.getfield 249, 3) := by decide +kernel
theorem dX11_bind_43 : decode cX11_bind 43 = .ok (.iaload, 1) := by decide +kernel
theorem dX11_bind_44 : decode cX11_bind 44 = .ok (.istore_n 2, 1) := by decide +kernel
theorem dX11_bind_45 : decode cX11_bind 45 = .ok (.iload_n 2, 1) := by decide +kernel
theorem dX11_bind_46 : decode cX11_bind 46 = .ok (.iconst 2, 1) := by decide +kernel
theorem dX11_bind_47 : decode cX11_bind 47 = .ok (.if_icmp .ne 7, 3) := by decide +kernel
theorem dX11_bind_50 : decode cX11_bind 50 = .ok (.iconst (-1), 1) := by decide +kernel
theorem dX11_bind_51 : decode cX11_bind 51 = .ok (.goto 7, 3) := by decide +kernel
theorem dX11_bind_54 : decode cX11_bind 54 = .ok (.aload_n 0, 1) := by decide +kernel
theorem dX11_bind_55 : decode cX11_bind 55 = .ok (.invokevirtual 256, 3) := by decide +kernel
theorem dX11_bind_58 : decode cX11_bind 58 = .ok (.istore_n 3, 1) := by decide +kernel
theorem dX11_bind_59 : decode cX11_bind 59 = .ok (.aload_n 0, 1) := by decide +kernel
theorem dX11_bind_60 : decode cX11_bind 60 = .ok (.invokevirtual 256, 3) := by decide +kernel
theorem dX11_bind_63 : decode cX11_bind 63 = .ok (.istore 4, 2) := by decide +kernel
theorem dX11_bind_65 : decode cX11_bind 65 = .ok (.aload_n 0, 1) := by decide +kernel
theorem dX11_bind_66 : decode cX11_bind 66 = .ok (.iload_n 2, 1) := by decide +kernel
theorem dX11_bind_67 : decode cX11_bind 67 = .ok (.iload 4, 2) := by decide +kernel
theorem dX11_bind_69 : decode cX11_bind 69 = .ok (.iload_n 3, 1) := by decide +kernel
theorem dX11_bind_70 : decode cX11_bind 70 = .ok (.invokevirtual 260, 3) := by decide +kernel
theorem dX11_bind_73 : decode cX11_bind 73 = .ok (.goto (-73), 3) := by decide +kernel
theorem dX11_bind_76 : decode cX11_bind 76 = .ok (.return_, 1) := by decide +kernel
theorem dX11_isCounted_0 : decode cX11_isCounted 0 = .ok (.aload_n 0, 1) := by decide +kernel
theorem dX11_isCounted_1 : decode cX11_isCounted 1 = .ok (.getfield 198, 3) := by decide +kernel
theorem dX11_isCounted_4 : decode cX11_isCounted 4 = .ok (.bipush 64, 2) := by decide +kernel
theorem dX11_isCounted_6 : decode cX11_isCounted 6 = .ok (.if_icmp .ne 9, 3) := by decide +kernel
theorem dX11_isCounted_9 : decode cX11_isCounted 9 = .ok (.aload_n 0, 1) := by decide +kernel
theorem dX11_isCounted_10 : decode cX11_isCounted 10 = .ok (.iconst 2, 1) := by decide +kernel
theorem dX11_isCounted_11 : decode cX11_isCounted 11 = .ok (.invokevirtual 166, 3) := by decide +kernel
theorem dX11_isCounted_14 : decode cX11_isCounted 14 = .ok (.ireturn, 1) := by decide +kernel
theorem dX11_isCounted_15 : decode cX11_isCounted 15 = .ok (.aload_n 0, 1) := by decide +kernel
theorem dX11_isCounted_16 : decode cX11_isCounted 16 = .ok (.dup, 1) := by decide +kernel
theorem dX11_isCounted_17 : decode cX11_isCounted 17 = .ok (.getfield 198, 3) := by decide +kernel
theorem dX11_isCounted_20 : decode cX11_isCounted 20 = .ok (.iconst 1, 1) := by decide +kernel
theorem dX11_isCounted_21 : decode cX11_isCounted 21 = .ok (.iadd, 1) := by decide +kernel
theorem dX11_isCounted_22 : decode cX11_isCounted 22 = .ok (.putfield 198, 3) := by decide +kernel
theorem dX11_isCounted_25 : decode cX11_isCounted 25 = .ok (.iconst 1, 1) := by decide +kernel
theorem dX11_isCounted_26 : decode cX11_isCounted 26 = .ok (.ireturn, 1) := by decide +kernel
theorem dX11_waitsFor_0 : decode cX11_waitsFor 0 = .ok (.aload_n 0, 1) := by decide +kernel
theorem dX11_waitsFor_1 : decode cX11_waitsFor 1 = .ok (.getfield 72, 3) := by decide +kernel
theorem dX11_waitsFor_4 : decode cX11_waitsFor 4 = .ok (.aload_n 0, 1) := by decide +kernel
theorem dX11_waitsFor_5 : decode cX11_waitsFor 5 = .ok (.getfield 249, 3) := by decide +kernel
theorem dX11_waitsFor_8 : decode cX11_waitsFor 8 = .ok (.iload_n 1, 1) := by decide +kernel
theorem dX11_waitsFor_9 : decode cX11_waitsFor 9 = .ok (.iastore, 1) := by decide +kernel
theorem dX11_waitsFor_10 : decode cX11_waitsFor 10 = .ok (.aload_n 0, 1) := by decide +kernel
theorem dX11_waitsFor_11 : decode cX11_waitsFor 11 = .ok (.dup, 1) := by decide +kernel
theorem dX11_waitsFor_12 : decode cX11_waitsFor 12 = .ok (.getfield 249, 3) := by decide +kernel
theorem dX11_waitsFor_15 : decode cX11_waitsFor 15 = .ok (.iconst 1, 1) := by decide +kernel
theorem dX11_waitsFor_16 : decode cX11_waitsFor 16 = .ok (.iadd, 1) := by decide +kernel
theorem dX11_waitsFor_17 : decode cX11_waitsFor 17 = .ok (.putfield 249, 3) := by decide +kernel
theorem dX11_waitsFor_20 : decode cX11_waitsFor 20 = .ok (.return_, 1) := by decide +kernel
theorem dX11_nameMet_0 : decode cX11_nameMet 0 = .ok (.aload_n 0, 1) := by decide +kernel
theorem dX11_nameMet_1 : decode cX11_nameMet 1 = .ok (.getfield 142, 3) := by decide +kernel
theorem dX11_nameMet_4 : decode cX11_nameMet 4 = .ok (.iconst 1, 1) := by decide +kernel
theorem dX11_nameMet_5 : decode cX11_nameMet 5 = .ok (.if_icmp .ne 22, 3) := by decide +kernel
theorem dX11_nameMet_8 : decode cX11_nameMet 8 = .ok (.aload_n 0, 1) := by decide +kernel
theorem dX11_nameMet_9 : decode cX11_nameMet 9 = .ok (.getfield 153, 3) := by decide +kernel
theorem dX11_nameMet_12 : decode cX11_nameMet 12 = .ok (.bipush 14, 2) := by decide +kernel
theorem dX11_nameMet_14 : decode cX11_nameMet 14 = .ok (.if_icmp .lt 13, 3) := by decide +kernel
theorem dX11_nameMet_17 : decode cX11_nameMet 17 = .ok (.aload_n 0, 1) := by decide +kernel
theorem dX11_nameMet_18 : decode cX11_nameMet 18 = .ok (.getfield 153, 3) := by decide +kernel
theorem dX11_nameMet_21 : decode cX11_nameMet 21 = .ok (.bipush 14, 2) := by decide +kernel
theorem dX11_nameMet_23 : decode cX11_nameMet 23 = .ok (.isub, 1) := by decide +kernel
theorem dX11_nameMet_24 : decode cX11_nameMet 24 = .ok (.goto 4, 3) := by decide +kernel
theorem dX11_nameMet_27 : decode cX11_nameMet 27 = .ok (.iconst (-1), 1) := by decide +kernel
theorem dX11_nameMet_28 : decode cX11_nameMet 28 = .ok (.ireturn, 1) := by decide +kernel
theorem dX11_leafRead_0 : decode cX11_leafRead 0 = .ok (.aload_n 0, 1) := by decide +kernel
theorem dX11_leafRead_1 : decode cX11_leafRead 1 = .ok (.bipush 40, 2) := by decide +kernel
theorem dX11_leafRead_3 : decode cX11_leafRead 3 = .ok (.invokevirtual 179, 3) := by decide +kernel
theorem dX11_leafRead_6 : decode cX11_leafRead 6 = .ok (.ifCond .eq 44, 3) := by decide +kernel
theorem dX11_leafRead_9 : decode cX11_leafRead 9 = .ok (.aload_n 0, 1) := by decide +kernel
theorem dX11_leafRead_10 : decode cX11_leafRead 10 = .ok (.getfield 264, 3) := by decide +kernel
theorem dX11_leafRead_13 : decode cX11_leafRead 13 = .ok (.bipush 8, 2) := by decide +kernel
theorem dX11_leafRead_15 : decode cX11_leafRead 15 = .ok (.if_icmp .ne 9, 3) := by decide +kernel
theorem dX11_leafRead_18 : decode cX11_leafRead 18 = .ok (.aload_n 0, 1) := by decide +kernel
theorem dX11_leafRead_19 : decode cX11_leafRead 19 = .ok (.iconst 2, 1) := by decide +kernel
theorem dX11_leafRead_20 : decode cX11_leafRead 20 = .ok (.invokevirtual 166, 3) := by decide +kernel
theorem dX11_leafRead_23 : decode cX11_leafRead 23 = .ok (.ireturn, 1) := by decide +kernel
theorem dX11_leafRead_24 : decode cX11_leafRead 24 = .ok (.aload_n 0, 1) := by decide +kernel
theorem dX11_leafRead_25 : decode cX11_leafRead 25 = .ok (.dup, 1) := by decide +kernel
theorem dX11_leafRead_26 : decode cX11_leafRead 26 = .ok (.getfield 264, 3) := by decide +kernel
theorem dX11_leafRead_29 : decode cX11_leafRead 29 = .ok (.iconst 1, 1) := by decide +kernel
theorem dX11_leafRead_30 : decode cX11_leafRead 30 = .ok (.iadd, 1) := by decide +kernel
theorem dX11_leafRead_31 : decode cX11_leafRead 31 = .ok (.putfield 264, 3) := by decide +kernel
theorem dX11_leafRead_34 : decode cX11_leafRead 34 = .ok (.aload_n 0, 1) := by decide +kernel
theorem dX11_leafRead_35 : decode cX11_leafRead 35 = .ok (.iconst 0, 1) := by decide +kernel
theorem dX11_leafRead_36 : decode cX11_leafRead 36 = .ok (.invokevirtual 267, 3) := by decide +kernel
theorem dX11_leafRead_39 : decode cX11_leafRead 39 = .ok (.aload_n 0, 1) := by decide +kernel
theorem dX11_leafRead_40 : decode cX11_leafRead 40 = .ok (.iconst 1, 1) := by decide +kernel
theorem dX11_leafRead_41 : decode cX11_leafRead 41 = .ok (.putfield 271, 3) := by decide +kernel
theorem dX11_leafRead_44 : decode cX11_leafRead 44 = .ok (.aload_n 0, 1) := by decide +kernel
theorem dX11_leafRead_45 : decode cX11_leafRead 45 = .ok (.invokevirtual 176, 3) := by decide +kernel
theorem dX11_leafRead_48 : decode cX11_leafRead 48 = .ok (.iconst 1, 1) := by decide +kernel
theorem dX11_leafRead_49 : decode cX11_leafRead 49 = .ok (.ireturn, 1) := by decide +kernel
theorem dX11_leafRead_50 : decode cX11_leafRead 50 = .ok (.aload_n 0, 1) := by decide +kernel
theorem dX11_leafRead_51 : decode cX11_leafRead 51 = .ok (.bipush 13, 2) := by decide +kernel
theorem dX11_leafRead_53 : decode cX11_leafRead 53 = .ok (.invokevirtual 275, 3) := by decide +kernel
theorem dX11_leafRead_56 : decode cX11_leafRead 56 = .ok (.ifCond .eq 30, 3) := by decide +kernel
theorem dX11_leafRead_59 : decode cX11_leafRead 59 = .ok (.aload_n 0, 1) := by decide +kernel
theorem dX11_leafRead_60 : decode cX11_leafRead 60 = .ok (.getfield 271, 3) := by decide +kernel
theorem dX11_leafRead_63 : decode cX11_leafRead 63 = .ok (.ifCond .eq 23, 3) := by decide +kernel
theorem dX11_leafRead_66 : decode cX11_leafRead 66 = .ok (.aload_n 0, 1) := by decide +kernel
theorem dX11_leafRead_67 : decode cX11_leafRead 67 = .ok (.invokevirtual 278, 3) := by decide +kernel
theorem dX11_leafRead_70 : decode cX11_leafRead 70 = .ok (.ifCond .ne 5, 3) := by decide +kernel
theorem dX11_leafRead_73 : decode cX11_leafRead 73 = .ok (.iconst 0, 1) := by decide +kernel
theorem dX11_leafRead_74 : decode cX11_leafRead 74 = .ok (.ireturn, 1) := by decide +kernel
theorem dX11_leafRead_75 : decode cX11_leafRead 75 = .ok (.aload_n 0, 1) := by decide +kernel
theorem dX11_leafRead_76 : decode cX11_leafRead 76 = .ok (.iconst 2, 1) := by decide +kernel
theorem dX11_leafRead_77 : decode cX11_leafRead 77 = .ok (.invokevirtual 267, 3) := by decide +kernel
theorem dX11_leafRead_80 : decode cX11_leafRead 80 = .ok (.aload_n 0, 1) := by decide +kernel
theorem dX11_leafRead_81 : decode cX11_leafRead 81 = .ok (.invokevirtual 176, 3) := by decide +kernel
theorem dX11_leafRead_84 : decode cX11_leafRead 84 = .ok (.iconst 1, 1) := by decide +kernel
theorem dX11_leafRead_85 : decode cX11_leafRead 85 = .ok (.ireturn, 1) := by decide +kernel
theorem dX11_leafRead_86 : decode cX11_leafRead 86 = .ok (.aload_n 0, 1) := by decide +kernel
theorem dX11_leafRead_87 : decode cX11_leafRead 87 = .ok (.invokevirtual 281, 3) := by decide +kernel
theorem dX11_leafRead_90 : decode cX11_leafRead 90 = .ok (.istore_n 1, 1) := by decide +kernel
theorem dX11_leafRead_91 : decode cX11_leafRead 91 = .ok (.iload_n 1, 1) := by decide +kernel
theorem dX11_leafRead_92 : decode cX11_leafRead 92 = .ok (.ifCond .ge 17, 3) := by decide +kernel
theorem dX11_leafRead_95 : decode cX11_leafRead 95 = .ok (.aload_n 0, 1) := by decide +kernel
theorem dX11_leafRead_96 : decode cX11_leafRead 96 = .ok (.getfield 142, 3) := by decide +kernel
theorem dX11_leafRead_99 : decode cX11_leafRead 99 = .ok (.iconst 3, 1) := by decide +kernel
theorem dX11_leafRead_100 : decode cX11_leafRead 100 = .ok (.if_icmp .eq 9, 3) := by decide +kernel
theorem dX11_leafRead_103 : decode cX11_leafRead 103 = .ok (.aload_n 0, 1) := by decide +kernel
theorem dX11_leafRead_104 : decode cX11_leafRead 104 = .ok (.iconst 1, 1) := by decide +kernel
theorem dX11_leafRead_105 : decode cX11_leafRead 105 = .ok (.invokevirtual 166, 3) := by decide +kernel
theorem dX11_leafRead_108 : decode cX11_leafRead 108 = .ok (.ireturn, 1) := by decide +kernel
theorem dX11_leafRead_109 : decode cX11_leafRead 109 = .ok (.iload_n 1, 1) := by decide +kernel
theorem dX11_leafRead_110 : decode cX11_leafRead 110 = .ok (.ifCond .ge 19, 3) := by decide +kernel
theorem dX11_leafRead_113 : decode cX11_leafRead 113 = .ok (.aload_n 0, 1) := by decide +kernel
theorem dX11_leafRead_114 : decode cX11_leafRead 114 = .ok (.getfield 153, 3) := by decide +kernel
theorem dX11_leafRead_117 : decode cX11_leafRead 117 = .ok (.sipush 9999, 3) := by decide +kernel
theorem dX11_leafRead_120 : decode cX11_leafRead 120 = .ok (.if_icmp .le 9, 3) := by decide +kernel
theorem dX11_leafRead_123 : decode cX11_leafRead 123 = .ok (.aload_n 0, 1) := by decide +kernel
theorem dX11_leafRead_124 : decode cX11_leafRead 124 = .ok (.iconst 2, 1) := by decide +kernel
theorem dX11_leafRead_125 : decode cX11_leafRead 125 = .ok (.invokevirtual 166, 3) := by decide +kernel
theorem dX11_leafRead_128 : decode cX11_leafRead 128 = .ok (.ireturn, 1) := by decide +kernel
theorem dX11_leafRead_129 : decode cX11_leafRead 129 = .ok (.aload_n 0, 1) := by decide +kernel
theorem dX11_leafRead_130 : decode cX11_leafRead 130 = .ok (.invokevirtual 278, 3) := by decide +kernel
theorem dX11_leafRead_133 : decode cX11_leafRead 133 = .ok (.ifCond .ne 5, 3) := by decide +kernel
theorem dX11_leafRead_136 : decode cX11_leafRead 136 = .ok (.iconst 0, 1) := by decide +kernel
theorem dX11_leafRead_137 : decode cX11_leafRead 137 = .ok (.ireturn, 1) := by decide +kernel
theorem dX11_leafRead_138 : decode cX11_leafRead 138 = .ok (.aload_n 0, 1) := by decide +kernel
theorem dX11_leafRead_139 : decode cX11_leafRead 139 = .ok (.iload_n 1, 1) := by decide +kernel
theorem dX11_leafRead_140 : decode cX11_leafRead 140 = .ok (.ifCond .lt 7, 3) := by decide +kernel
theorem dX11_leafRead_143 : decode cX11_leafRead 143 = .ok (.iconst 1, 1) := by decide +kernel
theorem dX11_leafRead_144 : decode cX11_leafRead 144 = .ok (.goto 4, 3) := by decide +kernel
theorem dX11_leafRead_147 : decode cX11_leafRead 147 = .ok (.iconst 0, 1) := by decide +kernel
theorem dX11_leafRead_148 : decode cX11_leafRead 148 = .ok (.iload_n 1, 1) := by decide +kernel
theorem dX11_leafRead_149 : decode cX11_leafRead 149 = .ok (.ifCond .lt 7, 3) := by decide +kernel
theorem dX11_leafRead_152 : decode cX11_leafRead 152 = .ok (.iload_n 1, 1) := by decide +kernel
theorem dX11_leafRead_153 : decode cX11_leafRead 153 = .ok (.goto 7, 3) := by decide +kernel
theorem dX11_leafRead_156 : decode cX11_leafRead 156 = .ok (.aload_n 0, 1) := by decide +kernel
theorem dX11_leafRead_157 : decode cX11_leafRead 157 = .ok (.getfield 153, 3) := by decide +kernel
theorem dX11_leafRead_160 : decode cX11_leafRead 160 = .ok (.iconst 0, 1) := by decide +kernel
theorem dX11_leafRead_161 : decode cX11_leafRead 161 = .ok (.invokevirtual 260, 3) := by decide +kernel
theorem dX11_leafRead_164 : decode cX11_leafRead 164 = .ok (.aload_n 0, 1) := by decide +kernel
theorem dX11_leafRead_165 : decode cX11_leafRead 165 = .ok (.iconst 0, 1) := by decide +kernel
theorem dX11_leafRead_166 : decode cX11_leafRead 166 = .ok (.putfield 284, 3) := by decide +kernel
theorem dX11_leafRead_169 : decode cX11_leafRead 169 = .ok (.aload_n 0, 1) := by decide +kernel
theorem dX11_leafRead_170 : decode cX11_leafRead 170 = .ok (.invokevirtual 176, 3) := by decide +kernel
theorem dX11_leafRead_173 : decode cX11_leafRead 173 = .ok (.iconst 1, 1) := by decide +kernel
theorem dX11_leafRead_174 : decode cX11_leafRead 174 = .ok (.ireturn, 1) := by decide +kernel
theorem dX11_signs_0 : decode cX11_signs 0 = .ok (.aload_n 0, 1) := by decide +kernel
theorem dX11_signs_1 : decode cX11_signs 1 = .ok (.bipush 41, 2) := by decide +kernel
theorem dX11_signs_3 : decode cX11_signs 3 = .ok (.invokevirtual 179, 3) := by decide +kernel
theorem dX11_signs_6 : decode cX11_signs 6 = .ok (.ifCond .eq 41, 3) := by decide +kernel
theorem dX11_signs_9 : decode cX11_signs 9 = .ok (.aload_n 0, 1) := by decide +kernel
theorem dX11_signs_10 : decode cX11_signs 10 = .ok (.getfield 264, 3) := by decide +kernel
theorem dX11_signs_13 : decode cX11_signs 13 = .ok (.ifCond .le 34, 3) := by decide +kernel
theorem dX11_signs_16 : decode cX11_signs 16 = .ok (.aload_n 0, 1) := by decide +kernel
theorem dX11_signs_17 : decode cX11_signs 17 = .ok (.iconst 1, 1) := by decide +kernel
theorem dX11_signs_18 : decode cX11_signs 18 = .ok (.invokevirtual 287, 3) := by decide +kernel
theorem dX11_signs_21 : decode cX11_signs 21 = .ok (.aload_n 0, 1) := by decide +kernel
theorem dX11_signs_22 : decode cX11_signs 22 = .ok (.dup, 1) := by decide +kernel
theorem dX11_signs_23 : decode cX11_signs 23 = .ok (.getfield 249, 3) := by decide +kernel
theorem dX11_signs_26 : decode cX11_signs 26 = .ok (.iconst 1, 1) := by decide +kernel
theorem dX11_signs_27 : decode cX11_signs 27 = .ok (.isub, 1) := by decide +kernel
theorem dX11_signs_28 : decode cX11_signs 28 = .ok (.putfield 249, 3) := by decide +kernel
theorem dX11_signs_31 : decode cX11_signs 31 = .ok (.aload_n 0, 1) := by decide +kernel
theorem dX11_signs_32 : decode cX11_signs 32 = .ok (.dup, 1) := by decide +kernel
theorem dX11_signs_33 : decode cX11_signs 33 = .ok (.getfield 264, 3) := by decide +kernel
theorem dX11_signs_36 : decode cX11_signs 36 = .ok (.iconst 1, 1) := by decide +kernel
theorem dX11_signs_37 : decode cX11_signs 37 = .ok (.isub, 1) := by decide +kernel
theorem dX11_signs_38 : decode cX11_signs 38 = .ok (.putfield 264, 3) := by decide +kernel
theorem dX11_signs_41 : decode cX11_signs 41 = .ok (.aload_n 0, 1) := by decide +kernel
theorem dX11_signs_42 : decode cX11_signs 42 = .ok (.invokevirtual 176, 3) := by decide +kernel
theorem dX11_signs_45 : decode cX11_signs 45 = .ok (.iconst 1, 1) := by decide +kernel
theorem dX11_signs_46 : decode cX11_signs 46 = .ok (.ireturn, 1) := by decide +kernel
theorem dX11_signs_47 : decode cX11_signs 47 = .ok (.aload_n 0, 1) := by decide +kernel
theorem dX11_signs_48 : decode cX11_signs 48 = .ok (.bipush 11, 2) := by decide +kernel
theorem dX11_signs_50 : decode cX11_signs 50 = .ok (.invokevirtual 275, 3) := by decide +kernel
theorem dX11_signs_53 : decode cX11_signs 53 = .ok (.ifCond .eq 7, 3) := by decide +kernel
theorem dX11_signs_56 : decode cX11_signs 56 = .ok (.iconst 3, 1) := by decide +kernel
theorem dX11_signs_57 : decode cX11_signs 57 = .ok (.goto 90, 3) := by decide +kernel
theorem dX11_signs_60 : decode cX11_signs 60 = .ok (.aload_n 0, 1) := by decide +kernel
theorem dX11_signs_61 : decode cX11_signs 61 = .ok (.bipush 12, 2) := by decide +kernel
theorem dX11_signs_63 : decode cX11_signs 63 = .ok (.invokevirtual 275, 3) := by decide +kernel
theorem dX11_signs_66 : decode cX11_signs 66 = .ok (.ifCond .eq 7, 3) := by decide +kernel
theorem dX11_signs_69 : decode cX11_signs 69 = .ok (.iconst 4, 1) := by decide +kernel
theorem dX11_signs_70 : decode cX11_signs 70 = .ok (.goto 77, 3) := by decide +kernel
theorem dX11_signs_73 : decode cX11_signs 73 = .ok (.aload_n 0, 1) := by decide +kernel
theorem dX11_signs_74 : decode cX11_signs 74 = .ok (.getfield 142, 3) := by decide +kernel
theorem dX11_signs_77 : decode cX11_signs 77 = .ok (.iconst 5, 1) := by decide +kernel
theorem dX11_signs_78 : decode cX11_signs 78 = .ok (.if_icmp .ne 12, 3) := by decide +kernel
theorem dX11_signs_81 : decode cX11_signs 81 = .ok (.iconst 5, 1) := by decide +kernel
theorem dX11_signs_82 : decode cX11_signs 82 = .ok (.aload_n 0, 1) := by decide +kernel
theorem dX11_signs_83 : decode cX11_signs 83 = .ok (.getfield 153, 3) := by decide +kernel
theorem dX11_signs_86 : decode cX11_signs 86 = .ok (.iadd, 1) := by decide +kernel
theorem dX11_signs_87 : decode cX11_signs 87 = .ok (.goto 60, 3) := by decide +kernel
theorem dX11_signs_90 : decode cX11_signs 90 = .ok (.aload_n 0, 1) := by decide +kernel
theorem dX11_signs_91 : decode cX11_signs 91 = .ok (.bipush 43, 2) := by decide +kernel
theorem dX11_signs_93 : decode cX11_signs 93 = .ok (.invokevirtual 179, 3) := by decide +kernel
theorem dX11_signs_96 : decode cX11_signs 96 = .ok (.ifCond .eq 8, 3) := by decide +kernel
theorem dX11_signs_99 : decode cX11_signs 99 = .ok (.bipush 11, 2) := by decide +kernel
theorem dX11_signs_101 : decode cX11_signs 101 = .ok (.goto 46, 3) := by decide +kernel
theorem dX11_signs_104 : decode cX11_signs 104 = .ok (.aload_n 0, 1) := by decide +kernel
theorem dX11_signs_105 : decode cX11_signs 105 = .ok (.bipush 45, 2) := by decide +kernel
theorem dX11_signs_107 : decode cX11_signs 107 = .ok (.invokevirtual 179, 3) := by decide +kernel
theorem dX11_signs_110 : decode cX11_signs 110 = .ok (.ifCond .eq 8, 3) := by decide +kernel
theorem dX11_signs_113 : decode cX11_signs 113 = .ok (.bipush 12, 2) := by decide +kernel
theorem dX11_signs_115 : decode cX11_signs 115 = .ok (.goto 32, 3) := by decide +kernel
theorem dX11_signs_118 : decode cX11_signs 118 = .ok (.aload_n 0, 1) := by decide +kernel
theorem dX11_signs_119 : decode cX11_signs 119 = .ok (.bipush 42, 2) := by decide +kernel
theorem dX11_signs_121 : decode cX11_signs 121 = .ok (.invokevirtual 179, 3) := by decide +kernel
theorem dX11_signs_124 : decode cX11_signs 124 = .ok (.ifCond .eq 8, 3) := by decide +kernel
theorem dX11_signs_127 : decode cX11_signs 127 = .ok (.bipush 13, 2) := by decide +kernel
theorem dX11_signs_129 : decode cX11_signs 129 = .ok (.goto 18, 3) := by decide +kernel
theorem dX11_signs_132 : decode cX11_signs 132 = .ok (.aload_n 0, 1) := by decide +kernel
theorem dX11_signs_133 : decode cX11_signs 133 = .ok (.bipush 47, 2) := by decide +kernel
theorem dX11_signs_135 : decode cX11_signs 135 = .ok (.invokevirtual 179, 3) := by decide +kernel
theorem dX11_signs_138 : decode cX11_signs 138 = .ok (.ifCond .eq 8, 3) := by decide +kernel
theorem dX11_signs_141 : decode cX11_signs 141 = .ok (.bipush 14, 2) := by decide +kernel
theorem dX11_signs_143 : decode cX11_signs 143 = .ok (.goto 4, 3) := by decide +kernel
theorem dX11_signs_146 : decode cX11_signs 146 = .ok (.iconst 0, 1) := by decide +kernel
theorem dX11_signs_147 : decode cX11_signs 147 = .ok (.istore_n 1, 1) := by decide +kernel
theorem dX11_signs_148 : decode cX11_signs 148 = .ok (.iload_n 1, 1) := by decide +kernel
theorem dX11_signs_149 : decode cX11_signs 149 = .ok (.ifCond .ne 9, 3) := by decide +kernel
theorem dX11_signs_152 : decode cX11_signs 152 = .ok (.aload_n 0, 1) := by decide +kernel
theorem dX11_signs_153 : decode cX11_signs 153 = .ok (.iconst 1, 1) := by decide +kernel
theorem dX11_signs_154 : decode cX11_signs 154 = .ok (.invokevirtual 166, 3) := by decide +kernel
theorem dX11_signs_157 : decode cX11_signs 157 = .ok (.ireturn, 1) := by decide +kernel
theorem dX11_signs_158 : decode cX11_signs 158 = .ok (.aload_n 0, 1) := by decide +kernel
theorem dX11_signs_159 : decode cX11_signs 159 = .ok (.iload_n 1, 1) := by decide +kernel
theorem dX11_signs_160 : decode cX11_signs 160 = .ok (.invokestatic 252, 3) := by decide +kernel
theorem dX11_signs_163 : decode cX11_signs 163 = .ok (.iconst 4, 1) := by decide +kernel
theorem dX11_signs_164 : decode cX11_signs 164 = .ok (.if_icmp .ne 7, 3) := by decide +kernel
theorem dX11_signs_167 : decode cX11_signs 167 = .ok (.iconst 5, 1) := by decide +kernel
theorem dX11_signs_168 : decode cX11_signs 168 = .ok (.goto 7, 3) := by decide +kernel
theorem dX11_signs_171 : decode cX11_signs 171 = .ok (.iload_n 1, 1) := by decide +kernel
theorem dX11_signs_172 : decode cX11_signs 172 = .ok (.invokestatic 252, 3) := by decide +kernel
theorem dX11_signs_175 : decode cX11_signs 175 = .ok (.invokevirtual 287, 3) := by decide +kernel
theorem dX11_signs_178 : decode cX11_signs 178 = .ok (.iload_n 1, 1) := by decide +kernel
theorem dX11_signs_179 : decode cX11_signs 179 = .ok (.invokestatic 252, 3) := by decide +kernel
theorem dX11_signs_182 : decode cX11_signs 182 = .ok (.iconst 4, 1) := by decide +kernel
theorem dX11_signs_183 : decode cX11_signs 183 = .ok (.if_icmp .ne 34, 3) := by decide +kernel
theorem dX11_signs_186 : decode cX11_signs 186 = .ok (.aload_n 0, 1) := by decide +kernel
theorem dX11_signs_187 : decode cX11_signs 187 = .ok (.getfield 249, 3) := by decide +kernel
theorem dX11_signs_190 : decode cX11_signs 190 = .ok (.ifCond .le 27, 3) := by decide +kernel
theorem dX11_signs_193 : decode cX11_signs 193 = .ok (.aload_n 0, 1) := by decide +kernel
theorem dX11_signs_194 : decode cX11_signs 194 = .ok (.getfield 72, 3) := by decide +kernel
theorem dX11_signs_197 : decode cX11_signs 197 = .ok (.aload_n 0, 1) := by decide +kernel
theorem dX11_signs_198 : decode cX11_signs 198 = .ok (.getfield 249, 3) := by decide +kernel
theorem dX11_signs_201 : decode cX11_signs 201 = .ok (.iconst 1, 1) := by decide +kernel
theorem dX11_signs_202 : decode cX11_signs 202 = .ok (.isub, 1) := by decide +kernel
theorem dX11_signs_203 : decode cX11_signs 203 = .ok (.iaload, 1) := by decide +kernel
theorem dX11_signs_204 : decode cX11_signs 204 = .ok (.invokestatic 252, 3) := by decide +kernel
theorem dX11_signs_207 : decode cX11_signs 207 = .ok (.iconst 4, 1) := by decide +kernel
theorem dX11_signs_208 : decode cX11_signs 208 = .ok (.if_icmp .ne 9, 3) := by decide +kernel
theorem dX11_signs_211 : decode cX11_signs 211 = .ok (.aload_n 0, 1) := by decide +kernel
theorem dX11_signs_212 : decode cX11_signs 212 = .ok (.iconst 1, 1) := by decide +kernel
theorem dX11_signs_213 : decode cX11_signs 213 = .ok (.invokevirtual 166, 3) := by decide +kernel
theorem dX11_signs_216 : decode cX11_signs 216 = .ok (.ireturn, 1) := by decide +kernel
theorem dX11_signs_217 : decode cX11_signs 217 = .ok (.aload_n 0, 1) := by decide +kernel
theorem dX11_signs_218 : decode cX11_signs 218 = .ok (.invokevirtual 278, 3) := by decide +kernel
theorem dX11_signs_221 : decode cX11_signs 221 = .ok (.ifCond .ne 5, 3) := by decide +kernel
theorem dX11_signs_224 : decode cX11_signs 224 = .ok (.iconst 0, 1) := by decide +kernel
theorem dX11_signs_225 : decode cX11_signs 225 = .ok (.ireturn, 1) := by decide +kernel
theorem dX11_signs_226 : decode cX11_signs 226 = .ok (.aload_n 0, 1) := by decide +kernel
theorem dX11_signs_227 : decode cX11_signs 227 = .ok (.iload_n 1, 1) := by decide +kernel
theorem dX11_signs_228 : decode cX11_signs 228 = .ok (.invokevirtual 267, 3) := by decide +kernel
theorem dX11_signs_231 : decode cX11_signs 231 = .ok (.aload_n 0, 1) := by decide +kernel
theorem dX11_signs_232 : decode cX11_signs 232 = .ok (.iconst 1, 1) := by decide +kernel
theorem dX11_signs_233 : decode cX11_signs 233 = .ok (.putfield 284, 3) := by decide +kernel
theorem dX11_signs_236 : decode cX11_signs 236 = .ok (.aload_n 0, 1) := by decide +kernel
theorem dX11_signs_237 : decode cX11_signs 237 = .ok (.iload_n 1, 1) := by decide +kernel
theorem dX11_signs_238 : decode cX11_signs 238 = .ok (.invokestatic 252, 3) := by decide +kernel
theorem dX11_signs_241 : decode cX11_signs 241 = .ok (.iconst 3, 1) := by decide +kernel
theorem dX11_signs_242 : decode cX11_signs 242 = .ok (.if_icmp .ge 7, 3) := by decide +kernel
theorem dX11_signs_245 : decode cX11_signs 245 = .ok (.iconst 1, 1) := by decide +kernel
theorem dX11_signs_246 : decode cX11_signs 246 = .ok (.goto 4, 3) := by decide +kernel
theorem dX11_signs_249 : decode cX11_signs 249 = .ok (.iconst 0, 1) := by decide +kernel
theorem dX11_signs_250 : decode cX11_signs 250 = .ok (.putfield 271, 3) := by decide +kernel
theorem dX11_signs_253 : decode cX11_signs 253 = .ok (.aload_n 0, 1) := by decide +kernel
theorem dX11_signs_254 : decode cX11_signs 254 = .ok (.invokevirtual 176, 3) := by decide +kernel
theorem dX11_signs_257 : decode cX11_signs 257 = .ok (.iconst 1, 1) := by decide +kernel
theorem dX11_signs_258 : decode cX11_signs 258 = .ok (.ireturn, 1) := by decide +kernel
theorem dX11_sumRead_0 : decode cX11_sumRead 0 = .ok (.aload_n 0, 1) := by decide +kernel
theorem dX11_sumRead_1 : decode cX11_sumRead 1 = .ok (.iconst 0, 1) := by decide +kernel
theorem dX11_sumRead_2 : decode cX11_sumRead 2 = .ok (.putfield 249, 3) := by decide +kernel
theorem dX11_sumRead_5 : decode cX11_sumRead 5 = .ok (.aload_n 0, 1) := by decide +kernel
theorem dX11_sumRead_6 : decode cX11_sumRead 6 = .ok (.iconst 0, 1) := by decide +kernel
theorem dX11_sumRead_7 : decode cX11_sumRead 7 = .ok (.putfield 246, 3) := by decide +kernel
theorem dX11_sumRead_10 : decode cX11_sumRead 10 = .ok (.aload_n 0, 1) := by decide +kernel
theorem dX11_sumRead_11 : decode cX11_sumRead 11 = .ok (.iconst 0, 1) := by decide +kernel
theorem dX11_sumRead_12 : decode cX11_sumRead 12 = .ok (.putfield 264, 3) := by decide +kernel
theorem dX11_sumRead_15 : decode cX11_sumRead 15 = .ok (.aload_n 0, 1) := by decide +kernel
theorem dX11_sumRead_16 : decode cX11_sumRead 16 = .ok (.iconst 1, 1) := by decide +kernel
theorem dX11_sumRead_17 : decode cX11_sumRead 17 = .ok (.putfield 284, 3) := by decide +kernel
theorem dX11_sumRead_20 : decode cX11_sumRead 20 = .ok (.aload_n 0, 1) := by decide +kernel
theorem dX11_sumRead_21 : decode cX11_sumRead 21 = .ok (.iconst 1, 1) := by decide +kernel
theorem dX11_sumRead_22 : decode cX11_sumRead 22 = .ok (.putfield 271, 3) := by decide +kernel
theorem dX11_sumRead_25 : decode cX11_sumRead 25 = .ok (.aload_n 0, 1) := by decide +kernel
theorem dX11_sumRead_26 : decode cX11_sumRead 26 = .ok (.bipush 59, 2) := by decide +kernel
theorem dX11_sumRead_28 : decode cX11_sumRead 28 = .ok (.invokevirtual 179, 3) := by decide +kernel
theorem dX11_sumRead_31 : decode cX11_sumRead 31 = .ok (.ifCond .eq 17, 3) := by decide +kernel
theorem dX11_sumRead_34 : decode cX11_sumRead 34 = .ok (.aload_n 0, 1) := by decide +kernel
theorem dX11_sumRead_35 : decode cX11_sumRead 35 = .ok (.getfield 284, 3) := by decide +kernel
theorem dX11_sumRead_38 : decode cX11_sumRead 38 = .ok (.ifCond .ne 10, 3) := by decide +kernel
theorem dX11_sumRead_41 : decode cX11_sumRead 41 = .ok (.aload_n 0, 1) := by decide +kernel
theorem dX11_sumRead_42 : decode cX11_sumRead 42 = .ok (.getfield 264, 3) := by decide +kernel
theorem dX11_sumRead_45 : decode cX11_sumRead 45 = .ok (.ifCond .le 29, 3) := by decide +kernel
theorem dX11_sumRead_48 : decode cX11_sumRead 48 = .ok (.aload_n 0, 1) := by decide +kernel
theorem dX11_sumRead_49 : decode cX11_sumRead 49 = .ok (.getfield 284, 3) := by decide +kernel
theorem dX11_sumRead_52 : decode cX11_sumRead 52 = .ok (.ifCond .eq 13, 3) := by decide +kernel
theorem dX11_sumRead_55 : decode cX11_sumRead 55 = .ok (.aload_n 0, 1) := by decide +kernel
theorem dX11_sumRead_56 : decode cX11_sumRead 56 = .ok (.invokevirtual 290, 3) := by decide +kernel
theorem dX11_sumRead_59 : decode cX11_sumRead 59 = .ok (.ifCond .eq 13, 3) := by decide +kernel
theorem dX11_sumRead_62 : decode cX11_sumRead 62 = .ok (.goto (-37), 3) := by decide +kernel
theorem dX11_sumRead_65 : decode cX11_sumRead 65 = .ok (.aload_n 0, 1) := by decide +kernel
theorem dX11_sumRead_66 : decode cX11_sumRead 66 = .ok (.invokevirtual 293, 3) := by decide +kernel
theorem dX11_sumRead_69 : decode cX11_sumRead 69 = .ok (.ifCond .ne (-44), 3) := by decide +kernel
theorem dX11_sumRead_72 : decode cX11_sumRead 72 = .ok (.iconst 0, 1) := by decide +kernel
theorem dX11_sumRead_73 : decode cX11_sumRead 73 = .ok (.ireturn, 1) := by decide +kernel
theorem dX11_sumRead_74 : decode cX11_sumRead 74 = .ok (.aload_n 0, 1) := by decide +kernel
theorem dX11_sumRead_75 : decode cX11_sumRead 75 = .ok (.iconst 1, 1) := by decide +kernel
theorem dX11_sumRead_76 : decode cX11_sumRead 76 = .ok (.invokevirtual 287, 3) := by decide +kernel
theorem dX11_sumRead_79 : decode cX11_sumRead 79 = .ok (.iconst 1, 1) := by decide +kernel
theorem dX11_sumRead_80 : decode cX11_sumRead 80 = .ok (.ireturn, 1) := by decide +kernel
theorem dX11_bounded_0 : decode cX11_bounded 0 = .ok (.aload_n 0, 1) := by decide +kernel
theorem dX11_bounded_1 : decode cX11_bounded 1 = .ok (.aload_n 0, 1) := by decide +kernel
theorem dX11_bounded_2 : decode cX11_bounded 2 = .ok (.getfield 296, 3) := by decide +kernel
theorem dX11_bounded_5 : decode cX11_bounded 5 = .ok (.ifCond .ne 19, 3) := by decide +kernel
theorem dX11_bounded_8 : decode cX11_bounded 8 = .ok (.lload_n 1, 1) := by decide +kernel
theorem dX11_bounded_9 : decode cX11_bounded 9 = .ok (.ldc2_w 299, 3) := by decide +kernel
theorem dX11_bounded_12 : decode cX11_bounded 12 = .ok (.lcmp, 1) := by decide +kernel
theorem dX11_bounded_13 : decode cX11_bounded 13 = .ok (.ifCond .gt 11, 3) := by decide +kernel
theorem dX11_bounded_16 : decode cX11_bounded 16 = .ok (.lload_n 1, 1) := by decide +kernel
theorem dX11_bounded_17 : decode cX11_bounded 17 = .ok (.ldc2_w 301, 3) := by decide +kernel
theorem dX11_bounded_20 : decode cX11_bounded 20 = .ok (.lcmp, 1) := by decide +kernel
theorem dX11_bounded_21 : decode cX11_bounded 21 = .ok (.ifCond .ge 7, 3) := by decide +kernel
theorem dX11_bounded_24 : decode cX11_bounded 24 = .ok (.iconst 1, 1) := by decide +kernel
theorem dX11_bounded_25 : decode cX11_bounded 25 = .ok (.goto 4, 3) := by decide +kernel
theorem dX11_bounded_28 : decode cX11_bounded 28 = .ok (.iconst 0, 1) := by decide +kernel
theorem dX11_bounded_29 : decode cX11_bounded 29 = .ok (.putfield 296, 3) := by decide +kernel
theorem dX11_bounded_32 : decode cX11_bounded 32 = .ok (.aload_n 0, 1) := by decide +kernel
theorem dX11_bounded_33 : decode cX11_bounded 33 = .ok (.getfield 296, 3) := by decide +kernel
theorem dX11_bounded_36 : decode cX11_bounded 36 = .ok (.ifCond .eq 7, 3) := by decide +kernel
theorem dX11_bounded_39 : decode cX11_bounded 39 = .ok (.lconst 0, 1) := by decide +kernel
theorem dX11_bounded_40 : decode cX11_bounded 40 = .ok (.goto 4, 3) := by decide +kernel
theorem dX11_bounded_43 : decode cX11_bounded 43 = .ok (.lload_n 1, 1) := by decide +kernel
theorem dX11_bounded_44 : decode cX11_bounded 44 = .ok (.lreturn, 1) := by decide +kernel
theorem dX11_compares_0 : decode cX11_compares 0 = .ok (.iload_n 0, 1) := by decide +kernel
theorem dX11_compares_1 : decode cX11_compares 1 = .ok (.tableswitch 95 5 9 #[35, 47, 59, 71, 83], 35) := by decide +kernel
theorem dX11_compares_36 : decode cX11_compares 36 = .ok (.lload_n 1, 1) := by decide +kernel
theorem dX11_compares_37 : decode cX11_compares 37 = .ok (.lload_n 3, 1) := by decide +kernel
theorem dX11_compares_38 : decode cX11_compares 38 = .ok (.lcmp, 1) := by decide +kernel
theorem dX11_compares_39 : decode cX11_compares 39 = .ok (.ifCond .ge 7, 3) := by decide +kernel
theorem dX11_compares_42 : decode cX11_compares 42 = .ok (.iconst 1, 1) := by decide +kernel
theorem dX11_compares_43 : decode cX11_compares 43 = .ok (.goto 4, 3) := by decide +kernel
theorem dX11_compares_46 : decode cX11_compares 46 = .ok (.iconst 0, 1) := by decide +kernel
theorem dX11_compares_47 : decode cX11_compares 47 = .ok (.ireturn, 1) := by decide +kernel
theorem dX11_compares_48 : decode cX11_compares 48 = .ok (.lload_n 1, 1) := by decide +kernel
theorem dX11_compares_49 : decode cX11_compares 49 = .ok (.lload_n 3, 1) := by decide +kernel
theorem dX11_compares_50 : decode cX11_compares 50 = .ok (.lcmp, 1) := by decide +kernel
theorem dX11_compares_51 : decode cX11_compares 51 = .ok (.ifCond .gt 7, 3) := by decide +kernel
theorem dX11_compares_54 : decode cX11_compares 54 = .ok (.iconst 1, 1) := by decide +kernel
theorem dX11_compares_55 : decode cX11_compares 55 = .ok (.goto 4, 3) := by decide +kernel
theorem dX11_compares_58 : decode cX11_compares 58 = .ok (.iconst 0, 1) := by decide +kernel
theorem dX11_compares_59 : decode cX11_compares 59 = .ok (.ireturn, 1) := by decide +kernel
theorem dX11_compares_60 : decode cX11_compares 60 = .ok (.lload_n 1, 1) := by decide +kernel
theorem dX11_compares_61 : decode cX11_compares 61 = .ok (.lload_n 3, 1) := by decide +kernel
theorem dX11_compares_62 : decode cX11_compares 62 = .ok (.lcmp, 1) := by decide +kernel
theorem dX11_compares_63 : decode cX11_compares 63 = .ok (.ifCond .ne 7, 3) := by decide +kernel
theorem dX11_compares_66 : decode cX11_compares 66 = .ok (.iconst 1, 1) := by decide +kernel
theorem dX11_compares_67 : decode cX11_compares 67 = .ok (.goto 4, 3) := by decide +kernel
theorem dX11_compares_70 : decode cX11_compares 70 = .ok (.iconst 0, 1) := by decide +kernel
theorem dX11_compares_71 : decode cX11_compares 71 = .ok (.ireturn, 1) := by decide +kernel
theorem dX11_compares_72 : decode cX11_compares 72 = .ok (.lload_n 1, 1) := by decide +kernel
theorem dX11_compares_73 : decode cX11_compares 73 = .ok (.lload_n 3, 1) := by decide +kernel
theorem dX11_compares_74 : decode cX11_compares 74 = .ok (.lcmp, 1) := by decide +kernel
theorem dX11_compares_75 : decode cX11_compares 75 = .ok (.ifCond .eq 7, 3) := by decide +kernel
theorem dX11_compares_78 : decode cX11_compares 78 = .ok (.iconst 1, 1) := by decide +kernel
theorem dX11_compares_79 : decode cX11_compares 79 = .ok (.goto 4, 3) := by decide +kernel
theorem dX11_compares_82 : decode cX11_compares 82 = .ok (.iconst 0, 1) := by decide +kernel
theorem dX11_compares_83 : decode cX11_compares 83 = .ok (.ireturn, 1) := by decide +kernel
theorem dX11_compares_84 : decode cX11_compares 84 = .ok (.lload_n 1, 1) := by decide +kernel
theorem dX11_compares_85 : decode cX11_compares 85 = .ok (.lload_n 3, 1) := by decide +kernel
theorem dX11_compares_86 : decode cX11_compares 86 = .ok (.lcmp, 1) := by decide +kernel
theorem dX11_compares_87 : decode cX11_compares 87 = .ok (.ifCond .lt 7, 3) := by decide +kernel
theorem dX11_compares_90 : decode cX11_compares 90 = .ok (.iconst 1, 1) := by decide +kernel
theorem dX11_compares_91 : decode cX11_compares 91 = .ok (.goto 4, 3) := by decide +kernel
theorem dX11_compares_94 : decode cX11_compares 94 = .ok (.iconst 0, 1) := by decide +kernel
theorem dX11_compares_95 : decode cX11_compares 95 = .ok (.ireturn, 1) := by decide +kernel
theorem dX11_compares_96 : decode cX11_compares 96 = .ok (.lload_n 1, 1) := by decide +kernel
theorem dX11_compares_97 : decode cX11_compares 97 = .ok (.lload_n 3, 1) := by decide +kernel
theorem dX11_compares_98 : decode cX11_compares 98 = .ok (.lcmp, 1) := by decide +kernel
theorem dX11_compares_99 : decode cX11_compares 99 = .ok (.ifCond .le 7, 3) := by decide +kernel
theorem dX11_compares_102 : decode cX11_compares 102 = .ok (.iconst 1, 1) := by decide +kernel
theorem dX11_compares_103 : decode cX11_compares 103 = .ok (.goto 4, 3) := by decide +kernel
theorem dX11_compares_106 : decode cX11_compares 106 = .ok (.iconst 0, 1) := by decide +kernel
theorem dX11_compares_107 : decode cX11_compares 107 = .ok (.ireturn, 1) := by decide +kernel
theorem dX11_times_0 : decode cX11_times 0 = .ok (.lload_n 1, 1) := by decide +kernel
theorem dX11_times_1 : decode cX11_times 1 = .ok (.lconst 0, 1) := by decide +kernel
theorem dX11_times_2 : decode cX11_times 2 = .ok (.lcmp, 1) := by decide +kernel
theorem dX11_times_3 : decode cX11_times 3 = .ok (.ifCond .eq 45, 3) := by decide +kernel
theorem dX11_times_6 : decode cX11_times 6 = .ok (.lload_n 3, 1) := by decide +kernel
theorem dX11_times_7 : decode cX11_times 7 = .ok (.lconst 0, 1) := by decide +kernel
theorem dX11_times_8 : decode cX11_times 8 = .ok (.lcmp, 1) := by decide +kernel
theorem dX11_times_9 : decode cX11_times 9 = .ok (.ifCond .eq 39, 3) := by decide +kernel
theorem dX11_times_12 : decode cX11_times 12 = .ok (.lload_n 3, 1) := by decide +kernel
theorem dX11_times_13 : decode cX11_times 13 = .ok (.lconst 0, 1) := by decide +kernel
theorem dX11_times_14 : decode cX11_times 14 = .ok (.lcmp, 1) := by decide +kernel
theorem dX11_times_15 : decode cX11_times 15 = .ok (.ifCond .ge 8, 3) := by decide +kernel
theorem dX11_times_18 : decode cX11_times 18 = .ok (.lload_n 3, 1) := by decide +kernel
theorem dX11_times_19 : decode cX11_times 19 = .ok (.lneg, 1) := by decide +kernel
theorem dX11_times_20 : decode cX11_times 20 = .ok (.goto 4, 3) := by decide +kernel
theorem dX11_times_23 : decode cX11_times 23 = .ok (.lload_n 3, 1) := by decide +kernel
theorem dX11_times_24 : decode cX11_times 24 = .ok (.ldc2_w 299, 3) := by decide +kernel
theorem dX11_times_27 : decode cX11_times 27 = .ok (.lload_n 1, 1) := by decide +kernel
theorem dX11_times_28 : decode cX11_times 28 = .ok (.lconst 0, 1) := by decide +kernel
theorem dX11_times_29 : decode cX11_times 29 = .ok (.lcmp, 1) := by decide +kernel
theorem dX11_times_30 : decode cX11_times 30 = .ok (.ifCond .ge 8, 3) := by decide +kernel
theorem dX11_times_33 : decode cX11_times 33 = .ok (.lload_n 1, 1) := by decide +kernel
theorem dX11_times_34 : decode cX11_times 34 = .ok (.lneg, 1) := by decide +kernel
theorem dX11_times_35 : decode cX11_times 35 = .ok (.goto 4, 3) := by decide +kernel
theorem dX11_times_38 : decode cX11_times 38 = .ok (.lload_n 1, 1) := by decide +kernel
theorem dX11_times_39 : decode cX11_times 39 = .ok (.ldiv, 1) := by decide +kernel
theorem dX11_times_40 : decode cX11_times 40 = .ok (.lcmp, 1) := by decide +kernel
theorem dX11_times_41 : decode cX11_times 41 = .ok (.ifCond .le 7, 3) := by decide +kernel
theorem dX11_times_44 : decode cX11_times 44 = .ok (.iconst 1, 1) := by decide +kernel
theorem dX11_times_45 : decode cX11_times 45 = .ok (.goto 4, 3) := by decide +kernel
theorem dX11_times_48 : decode cX11_times 48 = .ok (.iconst 0, 1) := by decide +kernel
theorem dX11_times_49 : decode cX11_times 49 = .ok (.istore 5, 2) := by decide +kernel
theorem dX11_times_51 : decode cX11_times 51 = .ok (.aload_n 0, 1) := by decide +kernel
theorem dX11_times_52 : decode cX11_times 52 = .ok (.aload_n 0, 1) := by decide +kernel
theorem dX11_times_53 : decode cX11_times 53 = .ok (.getfield 296, 3) := by decide +kernel
theorem dX11_times_56 : decode cX11_times 56 = .ok (.ifCond .ne 8, 3) := by decide +kernel
theorem dX11_times_59 : decode cX11_times 59 = .ok (.iload 5, 2) := by decide +kernel
theorem dX11_times_61 : decode cX11_times 61 = .ok (.ifCond .eq 7, 3) := by decide +kernel
theorem dX11_times_64 : decode cX11_times 64 = .ok (.iconst 1, 1) := by decide +kernel
theorem dX11_times_65 : decode cX11_times 65 = .ok (.goto 4, 3) := by decide +kernel
theorem dX11_times_68 : decode cX11_times 68 = .ok (.iconst 0, 1) := by decide +kernel
theorem dX11_times_69 : decode cX11_times 69 = .ok (.putfield 296, 3) := by decide +kernel
theorem dX11_times_72 : decode cX11_times 72 = .ok (.aload_n 0, 1) := by decide +kernel
theorem dX11_times_73 : decode cX11_times 73 = .ok (.getfield 296, 3) := by decide +kernel
theorem dX11_times_76 : decode cX11_times 76 = .ok (.ifCond .eq 7, 3) := by decide +kernel
theorem dX11_times_79 : decode cX11_times 79 = .ok (.lconst 0, 1) := by decide +kernel
theorem dX11_times_80 : decode cX11_times 80 = .ok (.goto 6, 3) := by decide +kernel
theorem dX11_times_83 : decode cX11_times 83 = .ok (.lload_n 1, 1) := by decide +kernel
theorem dX11_times_84 : decode cX11_times 84 = .ok (.lload_n 3, 1) := by decide +kernel
theorem dX11_times_85 : decode cX11_times 85 = .ok (.lmul, 1) := by decide +kernel
theorem dX11_times_86 : decode cX11_times 86 = .ok (.lreturn, 1) := by decide +kernel
theorem dX11_valueOf_0 : decode cX11_valueOf 0 = .ok (.aload_n 0, 1) := by decide +kernel
theorem dX11_valueOf_1 : decode cX11_valueOf 1 = .ok (.getfield 63, 3) := by decide +kernel
theorem dX11_valueOf_4 : decode cX11_valueOf 4 = .ok (.iload_n 1, 1) := by decide +kernel
theorem dX11_valueOf_5 : decode cX11_valueOf 5 = .ok (.iaload, 1) := by decide +kernel
theorem dX11_valueOf_6 : decode cX11_valueOf 6 = .ok (.ifCond .ne 11, 3) := by decide +kernel
theorem dX11_valueOf_9 : decode cX11_valueOf 9 = .ok (.aload_n 0, 1) := by decide +kernel
theorem dX11_valueOf_10 : decode cX11_valueOf 10 = .ok (.getfield 66, 3) := by decide +kernel
theorem dX11_valueOf_13 : decode cX11_valueOf 13 = .ok (.iload_n 1, 1) := by decide +kernel
theorem dX11_valueOf_14 : decode cX11_valueOf 14 = .ok (.iaload, 1) := by decide +kernel
theorem dX11_valueOf_15 : decode cX11_valueOf 15 = .ok (.i2l, 1) := by decide +kernel
theorem dX11_valueOf_16 : decode cX11_valueOf 16 = .ok (.lreturn, 1) := by decide +kernel
theorem dX11_valueOf_17 : decode cX11_valueOf 17 = .ok (.aload_n 0, 1) := by decide +kernel
theorem dX11_valueOf_18 : decode cX11_valueOf 18 = .ok (.getfield 63, 3) := by decide +kernel
theorem dX11_valueOf_21 : decode cX11_valueOf 21 = .ok (.iload_n 1, 1) := by decide +kernel
theorem dX11_valueOf_22 : decode cX11_valueOf 22 = .ok (.iaload, 1) := by decide +kernel
theorem dX11_valueOf_23 : decode cX11_valueOf 23 = .ok (.iconst 1, 1) := by decide +kernel
theorem dX11_valueOf_24 : decode cX11_valueOf 24 = .ok (.if_icmp .ne 15, 3) := by decide +kernel
theorem dX11_valueOf_27 : decode cX11_valueOf 27 = .ok (.aload_n 0, 1) := by decide +kernel
theorem dX11_valueOf_28 : decode cX11_valueOf 28 = .ok (.getfield 78, 3) := by decide +kernel
theorem dX11_valueOf_31 : decode cX11_valueOf 31 = .ok (.aload_n 0, 1) := by decide +kernel
theorem dX11_valueOf_32 : decode cX11_valueOf 32 = .ok (.getfield 66, 3) := by decide +kernel
theorem dX11_valueOf_35 : decode cX11_valueOf 35 = .ok (.iload_n 1, 1) := by decide +kernel
theorem dX11_valueOf_36 : decode cX11_valueOf 36 = .ok (.iaload, 1) := by decide +kernel
theorem dX11_valueOf_37 : decode cX11_valueOf 37 = .ok (.laload, 1) := by decide +kernel
theorem dX11_valueOf_38 : decode cX11_valueOf 38 = .ok (.lreturn, 1) := by decide +kernel
theorem dX11_valueOf_39 : decode cX11_valueOf 39 = .ok (.aload_n 0, 1) := by decide +kernel
theorem dX11_valueOf_40 : decode cX11_valueOf 40 = .ok (.getfield 82, 3) := by decide +kernel
theorem dX11_valueOf_43 : decode cX11_valueOf 43 = .ok (.aload_n 0, 1) := by decide +kernel
theorem dX11_valueOf_44 : decode cX11_valueOf 44 = .ok (.getfield 66, 3) := by decide +kernel
theorem dX11_valueOf_47 : decode cX11_valueOf 47 = .ok (.iload_n 1, 1) := by decide +kernel
theorem dX11_valueOf_48 : decode cX11_valueOf 48 = .ok (.iaload, 1) := by decide +kernel
theorem dX11_valueOf_49 : decode cX11_valueOf 49 = .ok (.laload, 1) := by decide +kernel
theorem dX11_valueOf_50 : decode cX11_valueOf 50 = .ok (.lstore_n 2, 1) := by decide +kernel
theorem dX11_valueOf_51 : decode cX11_valueOf 51 = .ok (.aload_n 0, 1) := by decide +kernel
theorem dX11_valueOf_52 : decode cX11_valueOf 52 = .ok (.getfield 63, 3) := by decide +kernel
theorem dX11_valueOf_55 : decode cX11_valueOf 55 = .ok (.iload_n 1, 1) := by decide +kernel
theorem dX11_valueOf_56 : decode cX11_valueOf 56 = .ok (.iaload, 1) := by decide +kernel
theorem dX11_valueOf_57 : decode cX11_valueOf 57 = .ok (.iconst 2, 1) := by decide +kernel
theorem dX11_valueOf_58 : decode cX11_valueOf 58 = .ok (.if_icmp .ne 15, 3) := by decide +kernel
theorem dX11_valueOf_61 : decode cX11_valueOf 61 = .ok (.lload_n 2, 1) := by decide +kernel
theorem dX11_valueOf_62 : decode cX11_valueOf 62 = .ok (.lconst 0, 1) := by decide +kernel
theorem dX11_valueOf_63 : decode cX11_valueOf 63 = .ok (.lcmp, 1) := by decide +kernel
theorem dX11_valueOf_64 : decode cX11_valueOf 64 = .ok (.ifCond .ne 7, 3) := by decide +kernel
theorem dX11_valueOf_67 : decode cX11_valueOf 67 = .ok (.lconst 1, 1) := by decide +kernel
theorem dX11_valueOf_68 : decode cX11_valueOf 68 = .ok (.goto 4, 3) := by decide +kernel
theorem dX11_valueOf_71 : decode cX11_valueOf 71 = .ok (.lconst 0, 1) := by decide +kernel
theorem dX11_valueOf_72 : decode cX11_valueOf 72 = .ok (.lreturn, 1) := by decide +kernel
theorem dX11_valueOf_73 : decode cX11_valueOf 73 = .ok (.aload_n 0, 1) := by decide +kernel
theorem dX11_valueOf_74 : decode cX11_valueOf 74 = .ok (.getfield 82, 3) := by decide +kernel
theorem dX11_valueOf_77 : decode cX11_valueOf 77 = .ok (.aload_n 0, 1) := by decide +kernel
theorem dX11_valueOf_78 : decode cX11_valueOf 78 = .ok (.getfield 69, 3) := by decide +kernel
theorem dX11_valueOf_81 : decode cX11_valueOf 81 = .ok (.iload_n 1, 1) := by decide +kernel
theorem dX11_valueOf_82 : decode cX11_valueOf 82 = .ok (.iaload, 1) := by decide +kernel
theorem dX11_valueOf_83 : decode cX11_valueOf 83 = .ok (.laload, 1) := by decide +kernel
theorem dX11_valueOf_84 : decode cX11_valueOf 84 = .ok (.lstore 4, 2) := by decide +kernel
theorem dX11_valueOf_86 : decode cX11_valueOf 86 = .ok (.aload_n 0, 1) := by decide +kernel
theorem dX11_valueOf_87 : decode cX11_valueOf 87 = .ok (.getfield 63, 3) := by decide +kernel
theorem dX11_valueOf_90 : decode cX11_valueOf 90 = .ok (.iload_n 1, 1) := by decide +kernel
theorem dX11_valueOf_91 : decode cX11_valueOf 91 = .ok (.iaload, 1) := by decide +kernel
theorem dX11_valueOf_92 : decode cX11_valueOf 92 = .ok (.tableswitch 167 3 14 #[64, 83, 167, 167, 167, 167, 167, 167, 102, 111, 120, 128], 64) := by decide +kernel
theorem dX11_valueOf_156 : decode cX11_valueOf 156 = .ok (.lload_n 2, 1) := by decide +kernel
theorem dX11_valueOf_157 : decode cX11_valueOf 157 = .ok (.lconst 0, 1) := by decide +kernel
theorem dX11_valueOf_158 : decode cX11_valueOf 158 = .ok (.lcmp, 1) := by decide +kernel
theorem dX11_valueOf_159 : decode cX11_valueOf 159 = .ok (.ifCond .eq 14, 3) := by decide +kernel
theorem dX11_valueOf_162 : decode cX11_valueOf 162 = .ok (.lload 4, 2) := by decide +kernel
theorem dX11_valueOf_164 : decode cX11_valueOf 164 = .ok (.lconst 0, 1) := by decide +kernel
theorem dX11_valueOf_165 : decode cX11_valueOf 165 = .ok (.lcmp, 1) := by decide +kernel
theorem dX11_valueOf_166 : decode cX11_valueOf 166 = .ok (.ifCond .eq 7, 3) := by decide +kernel
theorem dX11_valueOf_169 : decode cX11_valueOf 169 = .ok (.lconst 1, 1) := by decide +kernel
theorem dX11_valueOf_170 : decode cX11_valueOf 170 = .ok (.goto 4, 3) := by decide +kernel
theorem dX11_valueOf_173 : decode cX11_valueOf 173 = .ok (.lconst 0, 1) := by decide +kernel
theorem dX11_valueOf_174 : decode cX11_valueOf 174 = .ok (.lreturn, 1) := by decide +kernel
theorem dX11_valueOf_175 : decode cX11_valueOf 175 = .ok (.lload_n 2, 1) := by decide +kernel
theorem dX11_valueOf_176 : decode cX11_valueOf 176 = .ok (.lconst 0, 1) := by decide +kernel
theorem dX11_valueOf_177 : decode cX11_valueOf 177 = .ok (.lcmp, 1) := by decide +kernel
theorem dX11_valueOf_178 : decode cX11_valueOf 178 = .ok (.ifCond .ne 10, 3) := by decide +kernel
theorem dX11_valueOf_181 : decode cX11_valueOf 181 = .ok (.lload 4, 2) := by decide +kernel
theorem dX11_valueOf_183 : decode cX11_valueOf 183 = .ok (.lconst 0, 1) := by decide +kernel
theorem dX11_valueOf_184 : decode cX11_valueOf 184 = .ok (.lcmp, 1) := by decide +kernel
theorem dX11_valueOf_185 : decode cX11_valueOf 185 = .ok (.ifCond .eq 7, 3) := by decide +kernel
theorem dX11_valueOf_188 : decode cX11_valueOf 188 = .ok (.lconst 1, 1) := by decide +kernel
theorem dX11_valueOf_189 : decode cX11_valueOf 189 = .ok (.goto 4, 3) := by decide +kernel
theorem dX11_valueOf_192 : decode cX11_valueOf 192 = .ok (.lconst 0, 1) := by decide +kernel
theorem dX11_valueOf_193 : decode cX11_valueOf 193 = .ok (.lreturn, 1) := by decide +kernel
theorem dX11_valueOf_194 : decode cX11_valueOf 194 = .ok (.aload_n 0, 1) := by decide +kernel
theorem dX11_valueOf_195 : decode cX11_valueOf 195 = .ok (.lload_n 2, 1) := by decide +kernel
theorem dX11_valueOf_196 : decode cX11_valueOf 196 = .ok (.lload 4, 2) := by decide +kernel
theorem dX11_valueOf_198 : decode cX11_valueOf 198 = .ok (.ladd, 1) := by decide +kernel
theorem dX11_valueOf_199 : decode cX11_valueOf 199 = .ok (.invokevirtual 303, 3) := by decide +kernel
theorem dX11_valueOf_202 : decode cX11_valueOf 202 = .ok (.lreturn, 1) := by decide +kernel
theorem dX11_valueOf_203 : decode cX11_valueOf 203 = .ok (.aload_n 0, 1) := by decide +kernel
theorem dX11_valueOf_204 : decode cX11_valueOf 204 = .ok (.lload_n 2, 1) := by decide +kernel
theorem dX11_valueOf_205 : decode cX11_valueOf 205 = .ok (.lload 4, 2) := by decide +kernel
theorem dX11_valueOf_207 : decode cX11_valueOf 207 = .ok (.lsub, 1) := by decide +kernel
theorem dX11_valueOf_208 : decode cX11_valueOf 208 = .ok (.invokevirtual 303, 3) := by decide +kernel
theorem dX11_valueOf_211 : decode cX11_valueOf 211 = .ok (.lreturn, 1) := by decide +kernel
theorem dX11_valueOf_212 : decode cX11_valueOf 212 = .ok (.aload_n 0, 1) := by decide +kernel
theorem dX11_valueOf_213 : decode cX11_valueOf 213 = .ok (.lload_n 2, 1) := by decide +kernel
theorem dX11_valueOf_214 : decode cX11_valueOf 214 = .ok (.lload 4, 2) := by decide +kernel
theorem dX11_valueOf_216 : decode cX11_valueOf 216 = .ok (.invokevirtual 307, 3) := by decide +kernel
theorem dX11_valueOf_219 : decode cX11_valueOf 219 = .ok (.lreturn, 1) := by decide +kernel
theorem dX11_valueOf_220 : decode cX11_valueOf 220 = .ok (.aload_n 0, 1) := by decide +kernel
theorem dX11_valueOf_221 : decode cX11_valueOf 221 = .ok (.aload_n 0, 1) := by decide +kernel
theorem dX11_valueOf_222 : decode cX11_valueOf 222 = .ok (.getfield 296, 3) := by decide +kernel
theorem dX11_valueOf_225 : decode cX11_valueOf 225 = .ok (.ifCond .ne 10, 3) := by decide +kernel
theorem dX11_valueOf_228 : decode cX11_valueOf 228 = .ok (.lload 4, 2) := by decide +kernel
theorem dX11_valueOf_230 : decode cX11_valueOf 230 = .ok (.lconst 0, 1) := by decide +kernel
theorem dX11_valueOf_231 : decode cX11_valueOf 231 = .ok (.lcmp, 1) := by decide +kernel
theorem dX11_valueOf_232 : decode cX11_valueOf 232 = .ok (.ifCond .ne 7, 3) := by decide +kernel
theorem dX11_valueOf_235 : decode cX11_valueOf 235 = .ok (.iconst 1, 1) := by decide +kernel
theorem dX11_valueOf_236 : decode cX11_valueOf 236 = .ok (.goto 4, 3) := by decide +kernel
theorem dX11_valueOf_239 : decode cX11_valueOf 239 = .ok (.iconst 0, 1) := by decide +kernel
theorem dX11_valueOf_240 : decode cX11_valueOf 240 = .ok (.putfield 296, 3) := by decide +kernel
theorem dX11_valueOf_243 : decode cX11_valueOf 243 = .ok (.aload_n 0, 1) := by decide +kernel
theorem dX11_valueOf_244 : decode cX11_valueOf 244 = .ok (.getfield 296, 3) := by decide +kernel
theorem dX11_valueOf_247 : decode cX11_valueOf 247 = .ok (.ifCond .eq 7, 3) := by decide +kernel
theorem dX11_valueOf_250 : decode cX11_valueOf 250 = .ok (.lconst 0, 1) := by decide +kernel
theorem dX11_valueOf_251 : decode cX11_valueOf 251 = .ok (.goto 7, 3) := by decide +kernel
theorem dX11_valueOf_254 : decode cX11_valueOf 254 = .ok (.lload_n 2, 1) := by decide +kernel
theorem dX11_valueOf_255 : decode cX11_valueOf 255 = .ok (.lload 4, 2) := by decide +kernel
theorem dX11_valueOf_257 : decode cX11_valueOf 257 = .ok (.ldiv, 1) := by decide +kernel
theorem dX11_valueOf_258 : decode cX11_valueOf 258 = .ok (.lreturn, 1) := by decide +kernel
theorem dX11_valueOf_259 : decode cX11_valueOf 259 = .ok (.aload_n 0, 1) := by decide +kernel
theorem dX11_valueOf_260 : decode cX11_valueOf 260 = .ok (.getfield 63, 3) := by decide +kernel
theorem dX11_valueOf_263 : decode cX11_valueOf 263 = .ok (.iload_n 1, 1) := by decide +kernel
theorem dX11_valueOf_264 : decode cX11_valueOf 264 = .ok (.iaload, 1) := by decide +kernel
theorem dX11_valueOf_265 : decode cX11_valueOf 265 = .ok (.lload_n 2, 1) := by decide +kernel
theorem dX11_valueOf_266 : decode cX11_valueOf 266 = .ok (.lload 4, 2) := by decide +kernel
theorem dX11_valueOf_268 : decode cX11_valueOf 268 = .ok (.invokestatic 311, 3) := by decide +kernel
theorem dX11_valueOf_271 : decode cX11_valueOf 271 = .ok (.ifCond .eq 7, 3) := by decide +kernel
theorem dX11_valueOf_274 : decode cX11_valueOf 274 = .ok (.lconst 1, 1) := by decide +kernel
theorem dX11_valueOf_275 : decode cX11_valueOf 275 = .ok (.goto 4, 3) := by decide +kernel
theorem dX11_valueOf_278 : decode cX11_valueOf 278 = .ok (.lconst 0, 1) := by decide +kernel
theorem dX11_valueOf_279 : decode cX11_valueOf 279 = .ok (.lreturn, 1) := by decide +kernel
theorem dX11_begin_0 : decode cX11_begin 0 = .ok (.aload_n 0, 1) := by decide +kernel
theorem dX11_begin_1 : decode cX11_begin 1 = .ok (.iconst 0, 1) := by decide +kernel
theorem dX11_begin_2 : decode cX11_begin 2 = .ok (.invokevirtual 315, 3) := by decide +kernel
theorem dX11_begin_5 : decode cX11_begin 5 = .ok (.aload_n 0, 1) := by decide +kernel
theorem dX11_begin_6 : decode cX11_begin 6 = .ok (.aload_n 0, 1) := by decide +kernel
theorem dX11_begin_7 : decode cX11_begin 7 = .ok (.getfield 24, 3) := by decide +kernel
theorem dX11_begin_10 : decode cX11_begin 10 = .ok (.iconst 3, 1) := by decide +kernel
theorem dX11_begin_11 : decode cX11_begin 11 = .ok (.iaload, 1) := by decide +kernel
theorem dX11_begin_12 : decode cX11_begin 12 = .ok (.i2l, 1) := by decide +kernel
theorem dX11_begin_13 : decode cX11_begin 13 = .ok (.putfield 318, 3) := by decide +kernel
theorem dX11_begin_16 : decode cX11_begin 16 = .ok (.aload_n 0, 1) := by decide +kernel
theorem dX11_begin_17 : decode cX11_begin 17 = .ok (.invokevirtual 322, 3) := by decide +kernel
theorem dX11_begin_20 : decode cX11_begin 20 = .ok (.aload_n 0, 1) := by decide +kernel
theorem dX11_begin_21 : decode cX11_begin 21 = .ok (.iconst 0, 1) := by decide +kernel
theorem dX11_begin_22 : decode cX11_begin 22 = .ok (.putfield 325, 3) := by decide +kernel
theorem dX11_begin_25 : decode cX11_begin 25 = .ok (.aload_n 0, 1) := by decide +kernel
theorem dX11_begin_26 : decode cX11_begin 26 = .ok (.iconst (-1), 1) := by decide +kernel
theorem dX11_begin_27 : decode cX11_begin 27 = .ok (.putfield 103, 3) := by decide +kernel
theorem dX11_begin_30 : decode cX11_begin 30 = .ok (.aload_n 0, 1) := by decide +kernel
theorem dX11_begin_31 : decode cX11_begin 31 = .ok (.iconst 0, 1) := by decide +kernel
theorem dX11_begin_32 : decode cX11_begin 32 = .ok (.putfield 328, 3) := by decide +kernel
theorem dX11_begin_35 : decode cX11_begin 35 = .ok (.aload_n 0, 1) := by decide +kernel
theorem dX11_begin_36 : decode cX11_begin 36 = .ok (.iconst 0, 1) := by decide +kernel
theorem dX11_begin_37 : decode cX11_begin 37 = .ok (.putfield 331, 3) := by decide +kernel
theorem dX11_begin_40 : decode cX11_begin 40 = .ok (.return_, 1) := by decide +kernel
theorem dX11_atFirst_0 : decode cX11_atFirst 0 = .ok (.iconst 0, 1) := by decide +kernel
theorem dX11_atFirst_1 : decode cX11_atFirst 1 = .ok (.istore_n 2, 1) := by decide +kernel
theorem dX11_atFirst_2 : decode cX11_atFirst 2 = .ok (.iload_n 2, 1) := by decide +kernel
theorem dX11_atFirst_3 : decode cX11_atFirst 3 = .ok (.bipush 6, 2) := by decide +kernel
theorem dX11_atFirst_5 : decode cX11_atFirst 5 = .ok (.if_icmp .ge 55, 3) := by decide +kernel
theorem dX11_atFirst_8 : decode cX11_atFirst 8 = .ok (.aload_n 0, 1) := by decide +kernel
theorem dX11_atFirst_9 : decode cX11_atFirst 9 = .ok (.getfield 85, 3) := by decide +kernel
theorem dX11_atFirst_12 : decode cX11_atFirst 12 = .ok (.bipush 6, 2) := by decide +kernel
theorem dX11_atFirst_14 : decode cX11_atFirst 14 = .ok (.iload_n 1, 1) := by decide +kernel
theorem dX11_atFirst_15 : decode cX11_atFirst 15 = .ok (.imul, 1) := by decide +kernel
theorem dX11_atFirst_16 : decode cX11_atFirst 16 = .ok (.iload_n 2, 1) := by decide +kernel
theorem dX11_atFirst_17 : decode cX11_atFirst 17 = .ok (.iadd, 1) := by decide +kernel
theorem dX11_atFirst_18 : decode cX11_atFirst 18 = .ok (.aload_n 0, 1) := by decide +kernel
theorem dX11_atFirst_19 : decode cX11_atFirst 19 = .ok (.getfield 30, 3) := by decide +kernel
theorem dX11_atFirst_22 : decode cX11_atFirst 22 = .ok (.iload_n 2, 1) := by decide +kernel
theorem dX11_atFirst_23 : decode cX11_atFirst 23 = .ok (.iaload, 1) := by decide +kernel
theorem dX11_atFirst_24 : decode cX11_atFirst 24 = .ok (.iastore, 1) := by decide +kernel
theorem dX11_atFirst_25 : decode cX11_atFirst 25 = .ok (.aload_n 0, 1) := by decide +kernel
theorem dX11_atFirst_26 : decode cX11_atFirst 26 = .ok (.getfield 88, 3) := by decide +kernel
theorem dX11_atFirst_29 : decode cX11_atFirst 29 = .ok (.bipush 6, 2) := by decide +kernel
theorem dX11_atFirst_31 : decode cX11_atFirst 31 = .ok (.iload_n 1, 1) := by decide +kernel
theorem dX11_atFirst_32 : decode cX11_atFirst 32 = .ok (.imul, 1) := by decide +kernel
theorem dX11_atFirst_33 : decode cX11_atFirst 33 = .ok (.iload_n 2, 1) := by decide +kernel
theorem dX11_atFirst_34 : decode cX11_atFirst 34 = .ok (.iadd, 1) := by decide +kernel
theorem dX11_atFirst_35 : decode cX11_atFirst 35 = .ok (.aload_n 0, 1) := by decide +kernel
theorem dX11_atFirst_36 : decode cX11_atFirst 36 = .ok (.getfield 33, 3) := by decide +kernel
theorem dX11_atFirst_39 : decode cX11_atFirst 39 = .ok (.iload_n 2, 1) := by decide +kernel
theorem dX11_atFirst_40 : decode cX11_atFirst 40 = .ok (.iaload, 1) := by decide +kernel
theorem dX11_atFirst_41 : decode cX11_atFirst 41 = .ok (.iastore, 1) := by decide +kernel
theorem dX11_atFirst_42 : decode cX11_atFirst 42 = .ok (.aload_n 0, 1) := by decide +kernel
theorem dX11_atFirst_43 : decode cX11_atFirst 43 = .ok (.getfield 91, 3) := by decide +kernel
theorem dX11_atFirst_46 : decode cX11_atFirst 46 = .ok (.bipush 6, 2) := by decide +kernel
theorem dX11_atFirst_48 : decode cX11_atFirst 48 = .ok (.iload_n 1, 1) := by decide +kernel
theorem dX11_atFirst_49 : decode cX11_atFirst 49 = .ok (.imul, 1) := by decide +kernel
theorem dX11_atFirst_50 : decode cX11_atFirst 50 = .ok (.iload_n 2, 1) := by decide +kernel
theorem dX11_atFirst_51 : decode cX11_atFirst 51 = .ok (.iadd, 1) := by decide +kernel
theorem dX11_atFirst_52 : decode cX11_atFirst 52 = .ok (.iconst 0, 1) := by decide +kernel
theorem dX11_atFirst_53 : decode cX11_atFirst 53 = .ok (.iastore, 1) := by decide +kernel
theorem dX11_atFirst_54 : decode cX11_atFirst 54 = .ok (.iinc 2 1, 3) := by decide +kernel
theorem dX11_atFirst_57 : decode cX11_atFirst 57 = .ok (.goto (-55), 3) := by decide +kernel
theorem dX11_atFirst_60 : decode cX11_atFirst 60 = .ok (.iconst 0, 1) := by decide +kernel
theorem dX11_atFirst_61 : decode cX11_atFirst 61 = .ok (.istore_n 2, 1) := by decide +kernel
theorem dX11_atFirst_62 : decode cX11_atFirst 62 = .ok (.iload_n 2, 1) := by decide +kernel
theorem dX11_atFirst_63 : decode cX11_atFirst 63 = .ok (.bipush 36, 2) := by decide +kernel
theorem dX11_atFirst_65 : decode cX11_atFirst 65 = .ok (.if_icmp .ge 33, 3) := by decide +kernel
theorem dX11_atFirst_68 : decode cX11_atFirst 68 = .ok (.aload_n 0, 1) := by decide +kernel
theorem dX11_atFirst_69 : decode cX11_atFirst 69 = .ok (.getfield 94, 3) := by decide +kernel
theorem dX11_atFirst_72 : decode cX11_atFirst 72 = .ok (.bipush 36, 2) := by decide +kernel
theorem dX11_atFirst_74 : decode cX11_atFirst 74 = .ok (.iload_n 1, 1) := by decide +kernel
theorem dX11_atFirst_75 : decode cX11_atFirst 75 = .ok (.imul, 1) := by decide +kernel
theorem dX11_atFirst_76 : decode cX11_atFirst 76 = .ok (.iload_n 2, 1) := by decide +kernel
theorem dX11_atFirst_77 : decode cX11_atFirst 77 = .ok (.iadd, 1) := by decide +kernel
theorem dX11_atFirst_78 : decode cX11_atFirst 78 = .ok (.iconst 0, 1) := by decide +kernel
theorem dX11_atFirst_79 : decode cX11_atFirst 79 = .ok (.iastore, 1) := by decide +kernel
theorem dX11_atFirst_80 : decode cX11_atFirst 80 = .ok (.aload_n 0, 1) := by decide +kernel
theorem dX11_atFirst_81 : decode cX11_atFirst 81 = .ok (.getfield 97, 3) := by decide +kernel
theorem dX11_atFirst_84 : decode cX11_atFirst 84 = .ok (.bipush 36, 2) := by decide +kernel
theorem dX11_atFirst_86 : decode cX11_atFirst 86 = .ok (.iload_n 1, 1) := by decide +kernel
theorem dX11_atFirst_87 : decode cX11_atFirst 87 = .ok (.imul, 1) := by decide +kernel
theorem dX11_atFirst_88 : decode cX11_atFirst 88 = .ok (.iload_n 2, 1) := by decide +kernel
theorem dX11_atFirst_89 : decode cX11_atFirst 89 = .ok (.iadd, 1) := by decide +kernel
theorem dX11_atFirst_90 : decode cX11_atFirst 90 = .ok (.iconst 0, 1) := by decide +kernel
theorem dX11_atFirst_91 : decode cX11_atFirst 91 = .ok (.bastore, 1) := by decide +kernel
theorem dX11_atFirst_92 : decode cX11_atFirst 92 = .ok (.iinc 2 1, 3) := by decide +kernel
theorem dX11_atFirst_95 : decode cX11_atFirst 95 = .ok (.goto (-33), 3) := by decide +kernel
theorem dX11_atFirst_98 : decode cX11_atFirst 98 = .ok (.aload_n 0, 1) := by decide +kernel
theorem dX11_atFirst_99 : decode cX11_atFirst 99 = .ok (.getfield 100, 3) := by decide +kernel
theorem dX11_atFirst_102 : decode cX11_atFirst 102 = .ok (.iload_n 1, 1) := by decide +kernel
theorem dX11_atFirst_103 : decode cX11_atFirst 103 = .ok (.iconst 0, 1) := by decide +kernel
theorem dX11_atFirst_104 : decode cX11_atFirst 104 = .ok (.iastore, 1) := by decide +kernel
theorem dX11_atFirst_105 : decode cX11_atFirst 105 = .ok (.return_, 1) := by decide +kernel
theorem dX11_plainTried_0 : decode cX11_plainTried 0 = .ok (.aload_n 0, 1) := by decide +kernel
theorem dX11_plainTried_1 : decode cX11_plainTried 1 = .ok (.iconst 0, 1) := by decide +kernel
theorem dX11_plainTried_2 : decode cX11_plainTried 2 = .ok (.putfield 334, 3) := by decide +kernel
theorem dX11_plainTried_5 : decode cX11_plainTried 5 = .ok (.aload_n 0, 1) := by decide +kernel
theorem dX11_plainTried_6 : decode cX11_plainTried 6 = .ok (.iconst 0, 1) := by decide +kernel
theorem dX11_plainTried_7 : decode cX11_plainTried 7 = .ok (.putfield 337, 3) := by decide +kernel
theorem dX11_plainTried_10 : decode cX11_plainTried 10 = .ok (.aload_n 0, 1) := by decide +kernel
theorem dX11_plainTried_11 : decode cX11_plainTried 11 = .ok (.iconst 0, 1) := by decide +kernel
theorem dX11_plainTried_12 : decode cX11_plainTried 12 = .ok (.putfield 340, 3) := by decide +kernel
theorem dX11_plainTried_15 : decode cX11_plainTried 15 = .ok (.aload_n 0, 1) := by decide +kernel
theorem dX11_plainTried_16 : decode cX11_plainTried 16 = .ok (.iconst 0, 1) := by decide +kernel
theorem dX11_plainTried_17 : decode cX11_plainTried 17 = .ok (.putfield 343, 3) := by decide +kernel
theorem dX11_plainTried_20 : decode cX11_plainTried 20 = .ok (.aload_n 0, 1) := by decide +kernel
theorem dX11_plainTried_21 : decode cX11_plainTried 21 = .ok (.iconst (-1), 1) := by decide +kernel
theorem dX11_plainTried_22 : decode cX11_plainTried 22 = .ok (.putfield 346, 3) := by decide +kernel
theorem dX11_plainTried_25 : decode cX11_plainTried 25 = .ok (.aload_n 0, 1) := by decide +kernel
theorem dX11_plainTried_26 : decode cX11_plainTried 26 = .ok (.aload_n 0, 1) := by decide +kernel
theorem dX11_plainTried_27 : decode cX11_plainTried 27 = .ok (.getfield 24, 3) := by decide +kernel
theorem dX11_plainTried_30 : decode cX11_plainTried 30 = .ok (.iconst 0, 1) := by decide +kernel
theorem dX11_plainTried_31 : decode cX11_plainTried 31 = .ok (.iaload, 1) := by decide +kernel
theorem dX11_plainTried_32 : decode cX11_plainTried 32 = .ok (.putfield 349, 3) := by decide +kernel
theorem dX11_plainTried_35 : decode cX11_plainTried 35 = .ok (.return_, 1) := by decide +kernel
theorem dX11_layTried_0 : decode cX11_layTried 0 = .ok (.iconst 0, 1) := by decide +kernel
theorem dX11_layTried_1 : decode cX11_layTried 1 = .ok (.istore_n 1, 1) := by decide +kernel
theorem dX11_layTried_2 : decode cX11_layTried 2 = .ok (.iload_n 1, 1) := by decide +kernel
theorem dX11_layTried_3 : decode cX11_layTried 3 = .ok (.bipush 6, 2) := by decide +kernel
theorem dX11_layTried_5 : decode cX11_layTried 5 = .ok (.if_icmp .ge 54, 3) := by decide +kernel
theorem dX11_layTried_8 : decode cX11_layTried 8 = .ok (.aload_n 0, 1) := by decide +kernel
theorem dX11_layTried_9 : decode cX11_layTried 9 = .ok (.getfield 85, 3) := by decide +kernel
theorem dX11_layTried_12 : decode cX11_layTried 12 = .ok (.bipush 6, 2) := by decide +kernel
theorem dX11_layTried_14 : decode cX11_layTried 14 = .ok (.iload_n 1, 1) := by decide +kernel
theorem dX11_layTried_15 : decode cX11_layTried 15 = .ok (.iadd, 1) := by decide +kernel
theorem dX11_layTried_16 : decode cX11_layTried 16 = .ok (.aload_n 0, 1) := by decide +kernel
theorem dX11_layTried_17 : decode cX11_layTried 17 = .ok (.getfield 85, 3) := by decide +kernel
theorem dX11_layTried_20 : decode cX11_layTried 20 = .ok (.iload_n 1, 1) := by decide +kernel
theorem dX11_layTried_21 : decode cX11_layTried 21 = .ok (.iaload, 1) := by decide +kernel
theorem dX11_layTried_22 : decode cX11_layTried 22 = .ok (.iastore, 1) := by decide +kernel
theorem dX11_layTried_23 : decode cX11_layTried 23 = .ok (.aload_n 0, 1) := by decide +kernel
theorem dX11_layTried_24 : decode cX11_layTried 24 = .ok (.getfield 88, 3) := by decide +kernel
theorem dX11_layTried_27 : decode cX11_layTried 27 = .ok (.bipush 6, 2) := by decide +kernel
theorem dX11_layTried_29 : decode cX11_layTried 29 = .ok (.iload_n 1, 1) := by decide +kernel
theorem dX11_layTried_30 : decode cX11_layTried 30 = .ok (.iadd, 1) := by decide +kernel
theorem dX11_layTried_31 : decode cX11_layTried 31 = .ok (.aload_n 0, 1) := by decide +kernel
theorem dX11_layTried_32 : decode cX11_layTried 32 = .ok (.getfield 88, 3) := by decide +kernel
theorem dX11_layTried_35 : decode cX11_layTried 35 = .ok (.iload_n 1, 1) := by decide +kernel
theorem dX11_layTried_36 : decode cX11_layTried 36 = .ok (.iaload, 1) := by decide +kernel
theorem dX11_layTried_37 : decode cX11_layTried 37 = .ok (.iastore, 1) := by decide +kernel
theorem dX11_layTried_38 : decode cX11_layTried 38 = .ok (.aload_n 0, 1) := by decide +kernel
theorem dX11_layTried_39 : decode cX11_layTried 39 = .ok (.getfield 91, 3) := by decide +kernel
theorem dX11_layTried_42 : decode cX11_layTried 42 = .ok (.bipush 6, 2) := by decide +kernel
theorem dX11_layTried_44 : decode cX11_layTried 44 = .ok (.iload_n 1, 1) := by decide +kernel
theorem dX11_layTried_45 : decode cX11_layTried 45 = .ok (.iadd, 1) := by decide +kernel
theorem dX11_layTried_46 : decode cX11_layTried 46 = .ok (.aload_n 0, 1) := by decide +kernel
theorem dX11_layTried_47 : decode cX11_layTried 47 = .ok (.getfield 91, 3) := by decide +kernel
theorem dX11_layTried_50 : decode cX11_layTried 50 = .ok (.iload_n 1, 1) := by decide +kernel
theorem dX11_layTried_51 : decode cX11_layTried 51 = .ok (.iaload, 1) := by decide +kernel
theorem dX11_layTried_52 : decode cX11_layTried 52 = .ok (.iastore, 1) := by decide +kernel
theorem dX11_layTried_53 : decode cX11_layTried 53 = .ok (.iinc 1 1, 3) := by decide +kernel
theorem dX11_layTried_56 : decode cX11_layTried 56 = .ok (.goto (-54), 3) := by decide +kernel
theorem dX11_layTried_59 : decode cX11_layTried 59 = .ok (.iconst 0, 1) := by decide +kernel
theorem dX11_layTried_60 : decode cX11_layTried 60 = .ok (.istore_n 1, 1) := by decide +kernel
theorem dX11_layTried_61 : decode cX11_layTried 61 = .ok (.iload_n 1, 1) := by decide +kernel
theorem dX11_layTried_62 : decode cX11_layTried 62 = .ok (.bipush 36, 2) := by decide +kernel
theorem dX11_layTried_64 : decode cX11_layTried 64 = .ok (.if_icmp .ge 39, 3) := by decide +kernel
theorem dX11_layTried_67 : decode cX11_layTried 67 = .ok (.aload_n 0, 1) := by decide +kernel
theorem dX11_layTried_68 : decode cX11_layTried 68 = .ok (.getfield 94, 3) := by decide +kernel
theorem dX11_layTried_71 : decode cX11_layTried 71 = .ok (.bipush 36, 2) := by decide +kernel
theorem dX11_layTried_73 : decode cX11_layTried 73 = .ok (.iload_n 1, 1) := by decide +kernel
theorem dX11_layTried_74 : decode cX11_layTried 74 = .ok (.iadd, 1) := by decide +kernel
theorem dX11_layTried_75 : decode cX11_layTried 75 = .ok (.aload_n 0, 1) := by decide +kernel
theorem dX11_layTried_76 : decode cX11_layTried 76 = .ok (.getfield 94, 3) := by decide +kernel
theorem dX11_layTried_79 : decode cX11_layTried 79 = .ok (.iload_n 1, 1) := by decide +kernel
theorem dX11_layTried_80 : decode cX11_layTried 80 = .ok (.iaload, 1) := by decide +kernel
theorem dX11_layTried_81 : decode cX11_layTried 81 = .ok (.iastore, 1) := by decide +kernel
theorem dX11_layTried_82 : decode cX11_layTried 82 = .ok (.aload_n 0, 1) := by decide +kernel
theorem dX11_layTried_83 : decode cX11_layTried 83 = .ok (.getfield 97, 3) := by decide +kernel
theorem dX11_layTried_86 : decode cX11_layTried 86 = .ok (.bipush 36, 2) := by decide +kernel
theorem dX11_layTried_88 : decode cX11_layTried 88 = .ok (.iload_n 1, 1) := by decide +kernel
theorem dX11_layTried_89 : decode cX11_layTried 89 = .ok (.iadd, 1) := by decide +kernel
theorem dX11_layTried_90 : decode cX11_layTried 90 = .ok (.aload_n 0, 1) := by decide +kernel
theorem dX11_layTried_91 : decode cX11_layTried 91 = .ok (.getfield 97, 3) := by decide +kernel
theorem dX11_layTried_94 : decode cX11_layTried 94 = .ok (.iload_n 1, 1) := by decide +kernel
theorem dX11_layTried_95 : decode cX11_layTried 95 = .ok (.baload, 1) := by decide +kernel
theorem dX11_layTried_96 : decode cX11_layTried 96 = .ok (.bastore, 1) := by decide +kernel
theorem dX11_layTried_97 : decode cX11_layTried 97 = .ok (.iinc 1 1, 3) := by decide +kernel
theorem dX11_layTried_100 : decode cX11_layTried 100 = .ok (.goto (-39), 3) := by decide +kernel
theorem dX11_layTried_103 : decode cX11_layTried 103 = .ok (.aload_n 0, 1) := by decide +kernel
theorem dX11_layTried_104 : decode cX11_layTried 104 = .ok (.getfield 100, 3) := by decide +kernel
theorem dX11_layTried_107 : decode cX11_layTried 107 = .ok (.iconst 1, 1) := by decide +kernel
theorem dX11_layTried_108 : decode cX11_layTried 108 = .ok (.aload_n 0, 1) := by decide +kernel
theorem dX11_layTried_109 : decode cX11_layTried 109 = .ok (.getfield 100, 3) := by decide +kernel
theorem dX11_layTried_112 : decode cX11_layTried 112 = .ok (.iconst 0, 1) := by decide +kernel
theorem dX11_layTried_113 : decode cX11_layTried 113 = .ok (.iaload, 1) := by decide +kernel
theorem dX11_layTried_114 : decode cX11_layTried 114 = .ok (.iastore, 1) := by decide +kernel
theorem dX11_layTried_115 : decode cX11_layTried 115 = .ok (.aload_n 0, 1) := by decide +kernel
theorem dX11_layTried_116 : decode cX11_layTried 116 = .ok (.invokevirtual 322, 3) := by decide +kernel
theorem dX11_layTried_119 : decode cX11_layTried 119 = .ok (.return_, 1) := by decide +kernel
theorem dX11_isHouse_0 : decode cX11_isHouse 0 = .ok (.iload_n 1, 1) := by decide +kernel
theorem dX11_isHouse_1 : decode cX11_isHouse 1 = .ok (.ifCond .lt 15, 3) := by decide +kernel
theorem dX11_isHouse_4 : decode cX11_isHouse 4 = .ok (.iload_n 1, 1) := by decide +kernel
theorem dX11_isHouse_5 : decode cX11_isHouse 5 = .ok (.aload_n 0, 1) := by decide +kernel
theorem dX11_isHouse_6 : decode cX11_isHouse 6 = .ok (.getfield 201, 3) := by decide +kernel
theorem dX11_isHouse_9 : decode cX11_isHouse 9 = .ok (.if_icmp .ge 7, 3) := by decide +kernel
theorem dX11_isHouse_12 : decode cX11_isHouse 12 = .ok (.iconst 1, 1) := by decide +kernel
theorem dX11_isHouse_13 : decode cX11_isHouse 13 = .ok (.goto 4, 3) := by decide +kernel
theorem dX11_isHouse_16 : decode cX11_isHouse 16 = .ok (.iconst 0, 1) := by decide +kernel
theorem dX11_isHouse_17 : decode cX11_isHouse 17 = .ok (.ireturn, 1) := by decide +kernel
theorem dX11_areTwo_0 : decode cX11_areTwo 0 = .ok (.aload_n 0, 1) := by decide +kernel
theorem dX11_areTwo_1 : decode cX11_areTwo 1 = .ok (.iload_n 1, 1) := by decide +kernel
theorem dX11_areTwo_2 : decode cX11_areTwo 2 = .ok (.invokevirtual 352, 3) := by decide +kernel
theorem dX11_areTwo_5 : decode cX11_areTwo 5 = .ok (.ifCond .eq 20, 3) := by decide +kernel
theorem dX11_areTwo_8 : decode cX11_areTwo 8 = .ok (.aload_n 0, 1) := by decide +kernel
theorem dX11_areTwo_9 : decode cX11_areTwo 9 = .ok (.iload_n 2, 1) := by decide +kernel
theorem dX11_areTwo_10 : decode cX11_areTwo 10 = .ok (.invokevirtual 352, 3) := by decide +kernel
theorem dX11_areTwo_13 : decode cX11_areTwo 13 = .ok (.ifCond .eq 12, 3) := by decide +kernel
theorem dX11_areTwo_16 : decode cX11_areTwo 16 = .ok (.iload_n 1, 1) := by decide +kernel
theorem dX11_areTwo_17 : decode cX11_areTwo 17 = .ok (.iload_n 2, 1) := by decide +kernel
theorem dX11_areTwo_18 : decode cX11_areTwo 18 = .ok (.if_icmp .eq 7, 3) := by decide +kernel
theorem dX11_areTwo_21 : decode cX11_areTwo 21 = .ok (.iconst 1, 1) := by decide +kernel
theorem dX11_areTwo_22 : decode cX11_areTwo 22 = .ok (.goto 4, 3) := by decide +kernel
theorem dX11_areTwo_25 : decode cX11_areTwo 25 = .ok (.iconst 0, 1) := by decide +kernel
theorem dX11_areTwo_26 : decode cX11_areTwo 26 = .ok (.ireturn, 1) := by decide +kernel
theorem dX11_apart_0 : decode cX11_apart 0 = .ok (.iload_n 0, 1) := by decide +kernel
theorem dX11_apart_1 : decode cX11_apart 1 = .ok (.iload_n 1, 1) := by decide +kernel
theorem dX11_apart_2 : decode cX11_apart 2 = .ok (.if_icmp .le 9, 3) := by decide +kernel
theorem dX11_apart_5 : decode cX11_apart 5 = .ok (.iload_n 0, 1) := by decide +kernel
theorem dX11_apart_6 : decode cX11_apart 6 = .ok (.iload_n 1, 1) := by decide +kernel
theorem dX11_apart_7 : decode cX11_apart 7 = .ok (.isub, 1) := by decide +kernel
theorem dX11_apart_8 : decode cX11_apart 8 = .ok (.goto 6, 3) := by decide +kernel
theorem dX11_apart_11 : decode cX11_apart 11 = .ok (.iload_n 1, 1) := by decide +kernel
theorem dX11_apart_12 : decode cX11_apart 12 = .ok (.iload_n 0, 1) := by decide +kernel
theorem dX11_apart_13 : decode cX11_apart 13 = .ok (.isub, 1) := by decide +kernel
theorem dX11_apart_14 : decode cX11_apart 14 = .ok (.ireturn, 1) := by decide +kernel
theorem dX11_knowsMany_0 : decode cX11_knowsMany 0 = .ok (.iconst 0, 1) := by decide +kernel
theorem dX11_knowsMany_1 : decode cX11_knowsMany 1 = .ok (.istore_n 3, 1) := by decide +kernel
theorem dX11_knowsMany_2 : decode cX11_knowsMany 2 = .ok (.iconst 0, 1) := by decide +kernel
theorem dX11_knowsMany_3 : decode cX11_knowsMany 3 = .ok (.istore 4, 2) := by decide +kernel
theorem dX11_knowsMany_5 : decode cX11_knowsMany 5 = .ok (.iload 4, 2) := by decide +kernel
theorem dX11_knowsMany_7 : decode cX11_knowsMany 7 = .ok (.aload_n 0, 1) := by decide +kernel
theorem dX11_knowsMany_8 : decode cX11_knowsMany 8 = .ok (.getfield 201, 3) := by decide +kernel
theorem dX11_knowsMany_11 : decode cX11_knowsMany 11 = .ok (.if_icmp .ge 37, 3) := by decide +kernel
theorem dX11_knowsMany_14 : decode cX11_knowsMany 14 = .ok (.iload_n 3, 1) := by decide +kernel
theorem dX11_knowsMany_15 : decode cX11_knowsMany 15 = .ok (.aload_n 0, 1) := by decide +kernel
theorem dX11_knowsMany_16 : decode cX11_knowsMany 16 = .ok (.getfield 97, 3) := by decide +kernel
theorem dX11_knowsMany_19 : decode cX11_knowsMany 19 = .ok (.bipush 36, 2) := by decide +kernel
theorem dX11_knowsMany_21 : decode cX11_knowsMany 21 = .ok (.iload_n 1, 1) := by decide +kernel
theorem dX11_knowsMany_22 : decode cX11_knowsMany 22 = .ok (.imul, 1) := by decide +kernel
theorem dX11_knowsMany_23 : decode cX11_knowsMany 23 = .ok (.bipush 6, 2) := by decide +kernel
theorem dX11_knowsMany_25 : decode cX11_knowsMany 25 = .ok (.iload_n 2, 1) := by decide +kernel
theorem dX11_knowsMany_26 : decode cX11_knowsMany 26 = .ok (.imul, 1) := by decide +kernel
theorem dX11_knowsMany_27 : decode cX11_knowsMany 27 = .ok (.iadd, 1) := by decide +kernel
theorem dX11_knowsMany_28 : decode cX11_knowsMany 28 = .ok (.iload 4, 2) := by decide +kernel
theorem dX11_knowsMany_30 : decode cX11_knowsMany 30 = .ok (.iadd, 1) := by decide +kernel
theorem dX11_knowsMany_31 : decode cX11_knowsMany 31 = .ok (.baload, 1) := by decide +kernel
theorem dX11_knowsMany_32 : decode cX11_knowsMany 32 = .ok (.ifCond .eq 7, 3) := by decide +kernel
theorem dX11_knowsMany_35 : decode cX11_knowsMany 35 = .ok (.iconst 1, 1) := by decide +kernel
theorem dX11_knowsMany_36 : decode cX11_knowsMany 36 = .ok (.goto 4, 3) := by decide +kernel
theorem dX11_knowsMany_39 : decode cX11_knowsMany 39 = .ok (.iconst 0, 1) := by decide +kernel
theorem dX11_knowsMany_40 : decode cX11_knowsMany 40 = .ok (.iadd, 1) := by decide +kernel
theorem dX11_knowsMany_41 : decode cX11_knowsMany 41 = .ok (.istore_n 3, 1) := by decide +kernel
theorem dX11_knowsMany_42 : decode cX11_knowsMany 42 = .ok (.iinc 4 1, 3) := by decide +kernel
theorem dX11_knowsMany_45 : decode cX11_knowsMany 45 = .ok (.goto (-40), 3) := by decide +kernel
theorem dX11_knowsMany_48 : decode cX11_knowsMany 48 = .ok (.iload_n 3, 1) := by decide +kernel
theorem dX11_knowsMany_49 : decode cX11_knowsMany 49 = .ok (.ireturn, 1) := by decide +kernel
theorem dX11_layNames_0 : decode cX11_layNames 0 = .ok (.aload_n 0, 1) := by decide +kernel
theorem dX11_layNames_1 : decode cX11_layNames 1 = .ok (.getfield 78, 3) := by decide +kernel
theorem dX11_layNames_4 : decode cX11_layNames 4 = .ok (.iconst 0, 1) := by decide +kernel
theorem dX11_layNames_5 : decode cX11_layNames 5 = .ok (.aload_n 0, 1) := by decide +kernel
theorem dX11_layNames_6 : decode cX11_layNames 6 = .ok (.getfield 85, 3) := by decide +kernel
theorem dX11_layNames_9 : decode cX11_layNames 9 = .ok (.bipush 6, 2) := by decide +kernel
theorem dX11_layNames_11 : decode cX11_layNames 11 = .ok (.iload_n 1, 1) := by decide +kernel
theorem dX11_layNames_12 : decode cX11_layNames 12 = .ok (.imul, 1) := by decide +kernel
theorem dX11_layNames_13 : decode cX11_layNames 13 = .ok (.iload_n 2, 1) := by decide +kernel
theorem dX11_layNames_14 : decode cX11_layNames 14 = .ok (.iadd, 1) := by decide +kernel
theorem dX11_layNames_15 : decode cX11_layNames 15 = .ok (.iaload, 1) := by decide +kernel
theorem dX11_layNames_16 : decode cX11_layNames 16 = .ok (.i2l, 1) := by decide +kernel
theorem dX11_layNames_17 : decode cX11_layNames 17 = .ok (.lastore, 1) := by decide +kernel
theorem dX11_layNames_18 : decode cX11_layNames 18 = .ok (.aload_n 0, 1) := by decide +kernel
theorem dX11_layNames_19 : decode cX11_layNames 19 = .ok (.getfield 78, 3) := by decide +kernel
theorem dX11_layNames_22 : decode cX11_layNames 22 = .ok (.iconst 1, 1) := by decide +kernel
theorem dX11_layNames_23 : decode cX11_layNames 23 = .ok (.aload_n 0, 1) := by decide +kernel
theorem dX11_layNames_24 : decode cX11_layNames 24 = .ok (.getfield 88, 3) := by decide +kernel
theorem dX11_layNames_27 : decode cX11_layNames 27 = .ok (.bipush 6, 2) := by decide +kernel
theorem dX11_layNames_29 : decode cX11_layNames 29 = .ok (.iload_n 1, 1) := by decide +kernel
theorem dX11_layNames_30 : decode cX11_layNames 30 = .ok (.imul, 1) := by decide +kernel
theorem dX11_layNames_31 : decode cX11_layNames 31 = .ok (.iload_n 2, 1) := by decide +kernel
theorem dX11_layNames_32 : decode cX11_layNames 32 = .ok (.iadd, 1) := by decide +kernel
theorem dX11_layNames_33 : decode cX11_layNames 33 = .ok (.iaload, 1) := by decide +kernel
theorem dX11_layNames_34 : decode cX11_layNames 34 = .ok (.i2l, 1) := by decide +kernel
theorem dX11_layNames_35 : decode cX11_layNames 35 = .ok (.lastore, 1) := by decide +kernel
theorem dX11_layNames_36 : decode cX11_layNames 36 = .ok (.aload_n 0, 1) := by decide +kernel
theorem dX11_layNames_37 : decode cX11_layNames 37 = .ok (.getfield 78, 3) := by decide +kernel
theorem dX11_layNames_40 : decode cX11_layNames 40 = .ok (.iconst 2, 1) := by decide +kernel
theorem dX11_layNames_41 : decode cX11_layNames 41 = .ok (.iload_n 3, 1) := by decide +kernel
theorem dX11_layNames_42 : decode cX11_layNames 42 = .ok (.ifCond .ge 7, 3) := by decide +kernel
theorem dX11_layNames_45 : decode cX11_layNames 45 = .ok (.lconst 0, 1) := by decide +kernel
theorem dX11_layNames_46 : decode cX11_layNames 46 = .ok (.goto 29, 3) := by decide +kernel
theorem dX11_layNames_49 : decode cX11_layNames 49 = .ok (.aload_n 0, 1) := by decide +kernel
theorem dX11_layNames_50 : decode cX11_layNames 50 = .ok (.getfield 85, 3) := by decide +kernel
theorem dX11_layNames_53 : decode cX11_layNames 53 = .ok (.bipush 6, 2) := by decide +kernel
theorem dX11_layNames_55 : decode cX11_layNames 55 = .ok (.iload_n 1, 1) := by decide +kernel
theorem dX11_layNames_56 : decode cX11_layNames 56 = .ok (.imul, 1) := by decide +kernel
theorem dX11_layNames_57 : decode cX11_layNames 57 = .ok (.iload_n 2, 1) := by decide +kernel
theorem dX11_layNames_58 : decode cX11_layNames 58 = .ok (.iadd, 1) := by decide +kernel
theorem dX11_layNames_59 : decode cX11_layNames 59 = .ok (.iaload, 1) := by decide +kernel
theorem dX11_layNames_60 : decode cX11_layNames 60 = .ok (.aload_n 0, 1) := by decide +kernel
theorem dX11_layNames_61 : decode cX11_layNames 61 = .ok (.getfield 85, 3) := by decide +kernel
theorem dX11_layNames_64 : decode cX11_layNames 64 = .ok (.bipush 6, 2) := by decide +kernel
theorem dX11_layNames_66 : decode cX11_layNames 66 = .ok (.iload_n 1, 1) := by decide +kernel
theorem dX11_layNames_67 : decode cX11_layNames 67 = .ok (.imul, 1) := by decide +kernel
theorem dX11_layNames_68 : decode cX11_layNames 68 = .ok (.iload_n 3, 1) := by decide +kernel
theorem dX11_layNames_69 : decode cX11_layNames 69 = .ok (.iadd, 1) := by decide +kernel
theorem dX11_layNames_70 : decode cX11_layNames 70 = .ok (.iaload, 1) := by decide +kernel
theorem dX11_layNames_71 : decode cX11_layNames 71 = .ok (.invokestatic 355, 3) := by decide +kernel
theorem dX11_layNames_74 : decode cX11_layNames 74 = .ok (.i2l, 1) := by decide +kernel
theorem dX11_layNames_75 : decode cX11_layNames 75 = .ok (.lastore, 1) := by decide +kernel
theorem dX11_layNames_76 : decode cX11_layNames 76 = .ok (.aload_n 0, 1) := by decide +kernel
theorem dX11_layNames_77 : decode cX11_layNames 77 = .ok (.getfield 78, 3) := by decide +kernel
theorem dX11_layNames_80 : decode cX11_layNames 80 = .ok (.iconst 3, 1) := by decide +kernel
theorem dX11_layNames_81 : decode cX11_layNames 81 = .ok (.iload 4, 2) := by decide +kernel
theorem dX11_layNames_83 : decode cX11_layNames 83 = .ok (.i2l, 1) := by decide +kernel
theorem dX11_layNames_84 : decode cX11_layNames 84 = .ok (.lastore, 1) := by decide +kernel
theorem dX11_layNames_85 : decode cX11_layNames 85 = .ok (.aload_n 0, 1) := by decide +kernel
theorem dX11_layNames_86 : decode cX11_layNames 86 = .ok (.getfield 78, 3) := by decide +kernel
theorem dX11_layNames_89 : decode cX11_layNames 89 = .ok (.iconst 4, 1) := by decide +kernel
theorem dX11_layNames_90 : decode cX11_layNames 90 = .ok (.iload_n 3, 1) := by decide +kernel
theorem dX11_layNames_91 : decode cX11_layNames 91 = .ok (.ifCond .ge 7, 3) := by decide +kernel
theorem dX11_layNames_94 : decode cX11_layNames 94 = .ok (.lconst 0, 1) := by decide +kernel
theorem dX11_layNames_95 : decode cX11_layNames 95 = .ok (.goto 20, 3) := by decide +kernel
theorem dX11_layNames_98 : decode cX11_layNames 98 = .ok (.aload_n 0, 1) := by decide +kernel
theorem dX11_layNames_99 : decode cX11_layNames 99 = .ok (.getfield 94, 3) := by decide +kernel
theorem dX11_layNames_102 : decode cX11_layNames 102 = .ok (.bipush 36, 2) := by decide +kernel
theorem dX11_layNames_104 : decode cX11_layNames 104 = .ok (.iload_n 1, 1) := by decide +kernel
theorem dX11_layNames_105 : decode cX11_layNames 105 = .ok (.imul, 1) := by decide +kernel
theorem dX11_layNames_106 : decode cX11_layNames 106 = .ok (.bipush 6, 2) := by decide +kernel
theorem dX11_layNames_108 : decode cX11_layNames 108 = .ok (.iload_n 2, 1) := by decide +kernel
theorem dX11_layNames_109 : decode cX11_layNames 109 = .ok (.imul, 1) := by decide +kernel
theorem dX11_layNames_110 : decode cX11_layNames 110 = .ok (.iadd, 1) := by decide +kernel
theorem dX11_layNames_111 : decode cX11_layNames 111 = .ok (.iload_n 3, 1) := by decide +kernel
theorem dX11_layNames_112 : decode cX11_layNames 112 = .ok (.iadd, 1) := by decide +kernel
theorem dX11_layNames_113 : decode cX11_layNames 113 = .ok (.iaload, 1) := by decide +kernel
theorem dX11_layNames_114 : decode cX11_layNames 114 = .ok (.i2l, 1) := by decide +kernel
theorem dX11_layNames_115 : decode cX11_layNames 115 = .ok (.lastore, 1) := by decide +kernel
theorem dX11_layNames_116 : decode cX11_layNames 116 = .ok (.aload_n 0, 1) := by decide +kernel
theorem dX11_layNames_117 : decode cX11_layNames 117 = .ok (.getfield 78, 3) := by decide +kernel
theorem dX11_layNames_120 : decode cX11_layNames 120 = .ok (.iconst 5, 1) := by decide +kernel
theorem dX11_layNames_121 : decode cX11_layNames 121 = .ok (.aload_n 0, 1) := by decide +kernel
theorem dX11_layNames_122 : decode cX11_layNames 122 = .ok (.iload_n 1, 1) := by decide +kernel
theorem dX11_layNames_123 : decode cX11_layNames 123 = .ok (.iload_n 2, 1) := by decide +kernel
theorem dX11_layNames_124 : decode cX11_layNames 124 = .ok (.invokevirtual 358, 3) := by decide +kernel
theorem dX11_layNames_127 : decode cX11_layNames 127 = .ok (.i2l, 1) := by decide +kernel
theorem dX11_layNames_128 : decode cX11_layNames 128 = .ok (.lastore, 1) := by decide +kernel
theorem dX11_layNames_129 : decode cX11_layNames 129 = .ok (.aload_n 0, 1) := by decide +kernel
theorem dX11_layNames_130 : decode cX11_layNames 130 = .ok (.getfield 78, 3) := by decide +kernel
theorem dX11_layNames_133 : decode cX11_layNames 133 = .ok (.bipush 6, 2) := by decide +kernel
theorem dX11_layNames_135 : decode cX11_layNames 135 = .ok (.aload_n 0, 1) := by decide +kernel
theorem dX11_layNames_136 : decode cX11_layNames 136 = .ok (.getfield 100, 3) := by decide +kernel
theorem dX11_layNames_139 : decode cX11_layNames 139 = .ok (.iload_n 1, 1) := by decide +kernel
theorem dX11_layNames_140 : decode cX11_layNames 140 = .ok (.iaload, 1) := by decide +kernel
theorem dX11_layNames_141 : decode cX11_layNames 141 = .ok (.i2l, 1) := by decide +kernel
theorem dX11_layNames_142 : decode cX11_layNames 142 = .ok (.lastore, 1) := by decide +kernel
theorem dX11_layNames_143 : decode cX11_layNames 143 = .ok (.return_, 1) := by decide +kernel
theorem dX11_lawOf_0 : decode cX11_lawOf 0 = .ok (.aload_n 0, 1) := by decide +kernel
theorem dX11_lawOf_1 : decode cX11_lawOf 1 = .ok (.iconst 0, 1) := by decide +kernel
theorem dX11_lawOf_2 : decode cX11_lawOf 2 = .ok (.putfield 296, 3) := by decide +kernel
theorem dX11_lawOf_5 : decode cX11_lawOf 5 = .ok (.aload_n 0, 1) := by decide +kernel
theorem dX11_lawOf_6 : decode cX11_lawOf 6 = .ok (.getfield 57, 3) := by decide +kernel
theorem dX11_lawOf_9 : decode cX11_lawOf 9 = .ok (.iload_n 1, 1) := by decide +kernel
theorem dX11_lawOf_10 : decode cX11_lawOf 10 = .ok (.iaload, 1) := by decide +kernel
theorem dX11_lawOf_11 : decode cX11_lawOf 11 = .ok (.istore_n 2, 1) := by decide +kernel
theorem dX11_lawOf_12 : decode cX11_lawOf 12 = .ok (.iload_n 2, 1) := by decide +kernel
theorem dX11_lawOf_13 : decode cX11_lawOf 13 = .ok (.aload_n 0, 1) := by decide +kernel
theorem dX11_lawOf_14 : decode cX11_lawOf 14 = .ok (.getfield 60, 3) := by decide +kernel
theorem dX11_lawOf_17 : decode cX11_lawOf 17 = .ok (.iload_n 1, 1) := by decide +kernel
theorem dX11_lawOf_18 : decode cX11_lawOf 18 = .ok (.iaload, 1) := by decide +kernel
theorem dX11_lawOf_19 : decode cX11_lawOf 19 = .ok (.if_icmp .ge 20, 3) := by decide +kernel
theorem dX11_lawOf_22 : decode cX11_lawOf 22 = .ok (.aload_n 0, 1) := by decide +kernel
theorem dX11_lawOf_23 : decode cX11_lawOf 23 = .ok (.getfield 82, 3) := by decide +kernel
theorem dX11_lawOf_26 : decode cX11_lawOf 26 = .ok (.iload_n 2, 1) := by decide +kernel
theorem dX11_lawOf_27 : decode cX11_lawOf 27 = .ok (.aload_n 0, 1) := by decide +kernel
theorem dX11_lawOf_28 : decode cX11_lawOf 28 = .ok (.iload_n 2, 1) := by decide +kernel
theorem dX11_lawOf_29 : decode cX11_lawOf 29 = .ok (.invokevirtual 361, 3) := by decide +kernel
theorem dX11_lawOf_32 : decode cX11_lawOf 32 = .ok (.lastore, 1) := by decide +kernel
theorem dX11_lawOf_33 : decode cX11_lawOf 33 = .ok (.iinc 2 1, 3) := by decide +kernel
theorem dX11_lawOf_36 : decode cX11_lawOf 36 = .ok (.goto (-24), 3) := by decide +kernel
theorem dX11_lawOf_39 : decode cX11_lawOf 39 = .ok (.aload_n 0, 1) := by decide +kernel
theorem dX11_lawOf_40 : decode cX11_lawOf 40 = .ok (.getfield 296, 3) := by decide +kernel
theorem dX11_lawOf_43 : decode cX11_lawOf 43 = .ok (.ifCond .eq 7, 3) := by decide +kernel
theorem dX11_lawOf_46 : decode cX11_lawOf 46 = .ok (.lconst 0, 1) := by decide +kernel
theorem dX11_lawOf_47 : decode cX11_lawOf 47 = .ok (.goto 16, 3) := by decide +kernel
theorem dX11_lawOf_50 : decode cX11_lawOf 50 = .ok (.aload_n 0, 1) := by decide +kernel
theorem dX11_lawOf_51 : decode cX11_lawOf 51 = .ok (.getfield 82, 3) := by decide +kernel
theorem dX11_lawOf_54 : decode cX11_lawOf 54 = .ok (.aload_n 0, 1) := by decide +kernel
theorem dX11_lawOf_55 : decode cX11_lawOf 55 = .ok (.getfield 60, 3) := by decide +kernel
theorem dX11_lawOf_58 : decode cX11_lawOf 58 = .ok (.iload_n 1, 1) := by decide +kernel
theorem dX11_lawOf_59 : decode cX11_lawOf 59 = .ok (.iaload, 1) := by decide +kernel
theorem dX11_lawOf_60 : decode cX11_lawOf 60 = .ok (.iconst 1, 1) := by decide +kernel
theorem dX11_lawOf_61 : decode cX11_lawOf 61 = .ok (.isub, 1) := by decide +kernel
theorem dX11_lawOf_62 : decode cX11_lawOf 62 = .ok (.laload, 1) := by decide +kernel
theorem dX11_lawOf_63 : decode cX11_lawOf 63 = .ok (.lreturn, 1) := by decide +kernel
theorem dX11_boundLaw_0 : decode cX11_boundLaw 0 = .ok (.aload_n 0, 1) := by decide +kernel
theorem dX11_boundLaw_1 : decode cX11_boundLaw 1 = .ok (.getfield 54, 3) := by decide +kernel
theorem dX11_boundLaw_4 : decode cX11_boundLaw 4 = .ok (.iload_n 1, 1) := by decide +kernel
theorem dX11_boundLaw_5 : decode cX11_boundLaw 5 = .ok (.baload, 1) := by decide +kernel
theorem dX11_boundLaw_6 : decode cX11_boundLaw 6 = .ok (.ifCond .ne 5, 3) := by decide +kernel
theorem dX11_boundLaw_9 : decode cX11_boundLaw 9 = .ok (.iload_n 2, 1) := by decide +kernel
theorem dX11_boundLaw_10 : decode cX11_boundLaw 10 = .ok (.ireturn, 1) := by decide +kernel
theorem dX11_boundLaw_11 : decode cX11_boundLaw 11 = .ok (.aload_n 0, 1) := by decide +kernel
theorem dX11_boundLaw_12 : decode cX11_boundLaw 12 = .ok (.iload_n 1, 1) := by decide +kernel
theorem dX11_boundLaw_13 : decode cX11_boundLaw 13 = .ok (.invokevirtual 365, 3) := by decide +kernel
theorem dX11_boundLaw_16 : decode cX11_boundLaw 16 = .ok (.lstore 5, 2) := by decide +kernel
theorem dX11_boundLaw_18 : decode cX11_boundLaw 18 = .ok (.aload_n 0, 1) := by decide +kernel
theorem dX11_boundLaw_19 : decode cX11_boundLaw 19 = .ok (.getfield 296, 3) := by decide +kernel
theorem dX11_boundLaw_22 : decode cX11_boundLaw 22 = .ok (.ifCond .eq 5, 3) := by decide +kernel
theorem dX11_boundLaw_25 : decode cX11_boundLaw 25 = .ok (.iload_n 2, 1) := by decide +kernel
theorem dX11_boundLaw_26 : decode cX11_boundLaw 26 = .ok (.ireturn, 1) := by decide +kernel
theorem dX11_boundLaw_27 : decode cX11_boundLaw 27 = .ok (.lload 5, 2) := by decide +kernel
theorem dX11_boundLaw_29 : decode cX11_boundLaw 29 = .ok (.iload_n 3, 1) := by decide +kernel
theorem dX11_boundLaw_30 : decode cX11_boundLaw 30 = .ok (.i2l, 1) := by decide +kernel
theorem dX11_boundLaw_31 : decode cX11_boundLaw 31 = .ok (.lcmp, 1) := by decide +kernel
theorem dX11_boundLaw_32 : decode cX11_boundLaw 32 = .ok (.ifCond .ge 7, 3) := by decide +kernel
theorem dX11_boundLaw_35 : decode cX11_boundLaw 35 = .ok (.iload_n 3, 1) := by decide +kernel
theorem dX11_boundLaw_36 : decode cX11_boundLaw 36 = .ok (.goto 20, 3) := by decide +kernel
theorem dX11_boundLaw_39 : decode cX11_boundLaw 39 = .ok (.lload 5, 2) := by decide +kernel
theorem dX11_boundLaw_41 : decode cX11_boundLaw 41 = .ok (.iload 4, 2) := by decide +kernel
theorem dX11_boundLaw_43 : decode cX11_boundLaw 43 = .ok (.i2l, 1) := by decide +kernel
theorem dX11_boundLaw_44 : decode cX11_boundLaw 44 = .ok (.lcmp, 1) := by decide +kernel
theorem dX11_boundLaw_45 : decode cX11_boundLaw 45 = .ok (.ifCond .le 8, 3) := by decide +kernel
theorem dX11_boundLaw_48 : decode cX11_boundLaw 48 = .ok (.iload 4, 2) := by decide +kernel
theorem dX11_boundLaw_50 : decode cX11_boundLaw 50 = .ok (.goto 6, 3) := by decide +kernel
theorem dX11_boundLaw_53 : decode cX11_boundLaw 53 = .ok (.lload 5, 2) := by decide +kernel
theorem dX11_boundLaw_55 : decode cX11_boundLaw 55 = .ok (.l2i, 1) := by decide +kernel
theorem dX11_boundLaw_56 : decode cX11_boundLaw 56 = .ok (.ireturn, 1) := by decide +kernel
theorem dX11_hears_0 : decode cX11_hears 0 = .ok (.iload_n 2, 1) := by decide +kernel
theorem dX11_hears_1 : decode cX11_hears 1 = .ok (.iload_n 3, 1) := by decide +kernel
theorem dX11_hears_2 : decode cX11_hears 2 = .ok (.if_icmp .ne 5, 3) := by decide +kernel
theorem dX11_hears_5 : decode cX11_hears 5 = .ok (.iconst 0, 1) := by decide +kernel
theorem dX11_hears_6 : decode cX11_hears 6 = .ok (.ireturn, 1) := by decide +kernel
theorem dX11_hears_7 : decode cX11_hears 7 = .ok (.aload_n 0, 1) := by decide +kernel
theorem dX11_hears_8 : decode cX11_hears 8 = .ok (.iload_n 1, 1) := by decide +kernel
theorem dX11_hears_9 : decode cX11_hears 9 = .ok (.iload_n 2, 1) := by decide +kernel
theorem dX11_hears_10 : decode cX11_hears 10 = .ok (.iload_n 3, 1) := by decide +kernel
theorem dX11_hears_11 : decode cX11_hears 11 = .ok (.iconst 0, 1) := by decide +kernel
theorem dX11_hears_12 : decode cX11_hears 12 = .ok (.invokevirtual 368, 3) := by decide +kernel
theorem dX11_hears_15 : decode cX11_hears 15 = .ok (.aload_n 0, 1) := by decide +kernel
theorem dX11_hears_16 : decode cX11_hears 16 = .ok (.getfield 85, 3) := by decide +kernel
theorem dX11_hears_19 : decode cX11_hears 19 = .ok (.bipush 6, 2) := by decide +kernel
theorem dX11_hears_21 : decode cX11_hears 21 = .ok (.iload_n 1, 1) := by decide +kernel
theorem dX11_hears_22 : decode cX11_hears 22 = .ok (.imul, 1) := by decide +kernel
theorem dX11_hears_23 : decode cX11_hears 23 = .ok (.iload_n 2, 1) := by decide +kernel
theorem dX11_hears_24 : decode cX11_hears 24 = .ok (.iadd, 1) := by decide +kernel
theorem dX11_hears_25 : decode cX11_hears 25 = .ok (.iaload, 1) := by decide +kernel
theorem dX11_hears_26 : decode cX11_hears 26 = .ok (.aload_n 0, 1) := by decide +kernel
theorem dX11_hears_27 : decode cX11_hears 27 = .ok (.getfield 85, 3) := by decide +kernel
theorem dX11_hears_30 : decode cX11_hears 30 = .ok (.bipush 6, 2) := by decide +kernel
theorem dX11_hears_32 : decode cX11_hears 32 = .ok (.iload_n 1, 1) := by decide +kernel
theorem dX11_hears_33 : decode cX11_hears 33 = .ok (.imul, 1) := by decide +kernel
theorem dX11_hears_34 : decode cX11_hears 34 = .ok (.iload_n 3, 1) := by decide +kernel
theorem dX11_hears_35 : decode cX11_hears 35 = .ok (.iadd, 1) := by decide +kernel
theorem dX11_hears_36 : decode cX11_hears 36 = .ok (.iaload, 1) := by decide +kernel
theorem dX11_hears_37 : decode cX11_hears 37 = .ok (.invokestatic 355, 3) := by decide +kernel
theorem dX11_hears_40 : decode cX11_hears 40 = .ok (.aload_n 0, 1) := by decide +kernel
theorem dX11_hears_41 : decode cX11_hears 41 = .ok (.iconst 0, 1) := by decide +kernel
theorem dX11_hears_42 : decode cX11_hears 42 = .ok (.aload_n 0, 1) := by decide +kernel
theorem dX11_hears_43 : decode cX11_hears 43 = .ok (.getfield 349, 3) := by decide +kernel
theorem dX11_hears_46 : decode cX11_hears 46 = .ok (.aload_n 0, 1) := by decide +kernel
theorem dX11_hears_47 : decode cX11_hears 47 = .ok (.getfield 88, 3) := by decide +kernel
theorem dX11_hears_50 : decode cX11_hears 50 = .ok (.bipush 6, 2) := by decide +kernel
theorem dX11_hears_52 : decode cX11_hears 52 = .ok (.iload_n 1, 1) := by decide +kernel
theorem dX11_hears_53 : decode cX11_hears 53 = .ok (.imul, 1) := by decide +kernel
theorem dX11_hears_54 : decode cX11_hears 54 = .ok (.iload_n 2, 1) := by decide +kernel
theorem dX11_hears_55 : decode cX11_hears 55 = .ok (.iadd, 1) := by decide +kernel
theorem dX11_hears_56 : decode cX11_hears 56 = .ok (.iaload, 1) := by decide +kernel
theorem dX11_hears_57 : decode cX11_hears 57 = .ok (.iadd, 1) := by decide +kernel
theorem dX11_hears_58 : decode cX11_hears 58 = .ok (.iconst 0, 1) := by decide +kernel
theorem dX11_hears_59 : decode cX11_hears 59 = .ok (.bipush 99, 2) := by decide +kernel
theorem dX11_hears_61 : decode cX11_hears 61 = .ok (.invokevirtual 372, 3) := by decide +kernel
theorem dX11_hears_64 : decode cX11_hears 64 = .ok (.if_icmp .gt 7, 3) := by decide +kernel
theorem dX11_hears_67 : decode cX11_hears 67 = .ok (.iconst 1, 1) := by decide +kernel
theorem dX11_hears_68 : decode cX11_hears 68 = .ok (.goto 4, 3) := by decide +kernel
theorem dX11_hears_71 : decode cX11_hears 71 = .ok (.iconst 0, 1) := by decide +kernel
theorem dX11_hears_72 : decode cX11_hears 72 = .ok (.ireturn, 1) := by decide +kernel
theorem dX11_number1_0 : decode cX11_number1 0 = .ok (.aload_n 0, 1) := by decide +kernel
theorem dX11_number1_1 : decode cX11_number1 1 = .ok (.aload_n 0, 1) := by decide +kernel
theorem dX11_number1_2 : decode cX11_number1 2 = .ok (.getfield 318, 3) := by decide +kernel
theorem dX11_number1_5 : decode cX11_number1 5 = .ok (.ldc2_w 376, 3) := by decide +kernel
theorem dX11_number1_8 : decode cX11_number1 8 = .ok (.lmul, 1) := by decide +kernel
theorem dX11_number1_9 : decode cX11_number1 9 = .ok (.ldc2_w 378, 3) := by decide +kernel
theorem dX11_number1_12 : decode cX11_number1 12 = .ok (.ladd, 1) := by decide +kernel
theorem dX11_number1_13 : decode cX11_number1 13 = .ok (.ldc2_w 380, 3) := by decide +kernel
theorem dX11_number1_16 : decode cX11_number1 16 = .ok (.land, 1) := by decide +kernel
theorem dX11_number1_17 : decode cX11_number1 17 = .ok (.putfield 318, 3) := by decide +kernel
theorem dX11_number1_20 : decode cX11_number1 20 = .ok (.aload_n 0, 1) := by decide +kernel
theorem dX11_number1_21 : decode cX11_number1 21 = .ok (.getfield 318, 3) := by decide +kernel
theorem dX11_number1_24 : decode cX11_number1 24 = .ok (.ldc2_w 382, 3) := by decide +kernel
theorem dX11_number1_27 : decode cX11_number1 27 = .ok (.ldiv, 1) := by decide +kernel
theorem dX11_number1_28 : decode cX11_number1 28 = .ok (.iload_n 1, 1) := by decide +kernel
theorem dX11_number1_29 : decode cX11_number1 29 = .ok (.i2l, 1) := by decide +kernel
theorem dX11_number1_30 : decode cX11_number1 30 = .ok (.lrem, 1) := by decide +kernel
theorem dX11_number1_31 : decode cX11_number1 31 = .ok (.l2i, 1) := by decide +kernel
theorem dX11_number1_32 : decode cX11_number1 32 = .ok (.ireturn, 1) := by decide +kernel
theorem dX11_isFading_0 : decode cX11_isFading 0 = .ok (.aload_n 0, 1) := by decide +kernel
theorem dX11_isFading_1 : decode cX11_isFading 1 = .ok (.getfield 337, 3) := by decide +kernel
theorem dX11_isFading_4 : decode cX11_isFading 4 = .ok (.ifCond .ne 12, 3) := by decide +kernel
theorem dX11_isFading_7 : decode cX11_isFading 7 = .ok (.aload_n 0, 1) := by decide +kernel
theorem dX11_isFading_8 : decode cX11_isFading 8 = .ok (.getfield 24, 3) := by decide +kernel
theorem dX11_isFading_11 : decode cX11_isFading 11 = .ok (.iconst 2, 1) := by decide +kernel
theorem dX11_isFading_12 : decode cX11_isFading 12 = .ok (.iaload, 1) := by decide +kernel
theorem dX11_isFading_13 : decode cX11_isFading 13 = .ok (.ifCond .ne 5, 3) := by decide +kernel
theorem dX11_isFading_16 : decode cX11_isFading 16 = .ok (.iconst 0, 1) := by decide +kernel
theorem dX11_isFading_17 : decode cX11_isFading 17 = .ok (.ireturn, 1) := by decide +kernel
theorem dX11_isFading_18 : decode cX11_isFading 18 = .ok (.aload_n 0, 1) := by decide +kernel
theorem dX11_isFading_19 : decode cX11_isFading 19 = .ok (.getfield 24, 3) := by decide +kernel
theorem dX11_isFading_22 : decode cX11_isFading 22 = .ok (.iconst 2, 1) := by decide +kernel
theorem dX11_isFading_23 : decode cX11_isFading 23 = .ok (.iaload, 1) := by decide +kernel
theorem dX11_isFading_24 : decode cX11_isFading 24 = .ok (.bipush 100, 2) := by decide +kernel
theorem dX11_isFading_26 : decode cX11_isFading 26 = .ok (.if_icmp .ne 5, 3) := by decide +kernel
theorem dX11_isFading_29 : decode cX11_isFading 29 = .ok (.iconst 1, 1) := by decide +kernel
theorem dX11_isFading_30 : decode cX11_isFading 30 = .ok (.ireturn, 1) := by decide +kernel
theorem dX11_isFading_31 : decode cX11_isFading 31 = .ok (.aload_n 0, 1) := by decide +kernel
theorem dX11_isFading_32 : decode cX11_isFading 32 = .ok (.getfield 334, 3) := by decide +kernel
theorem dX11_isFading_35 : decode cX11_isFading 35 = .ok (.ifCond .eq 26, 3) := by decide +kernel
theorem dX11_isFading_38 : decode cX11_isFading 38 = .ok (.aload_n 0, 1) := by decide +kernel
theorem dX11_isFading_39 : decode cX11_isFading 39 = .ok (.bipush 100, 2) := by decide +kernel
theorem dX11_isFading_41 : decode cX11_isFading 41 = .ok (.invokevirtual 384, 3) := by decide +kernel
theorem dX11_isFading_44 : decode cX11_isFading 44 = .ok (.aload_n 0, 1) := by decide +kernel
theorem dX11_isFading_45 : decode cX11_isFading 45 = .ok (.getfield 24, 3) := by decide +kernel
theorem dX11_isFading_48 : decode cX11_isFading 48 = .ok (.iconst 2, 1) := by decide +kernel
theorem dX11_isFading_49 : decode cX11_isFading 49 = .ok (.iaload, 1) := by decide +kernel
theorem dX11_isFading_50 : decode cX11_isFading 50 = .ok (.if_icmp .ge 7, 3) := by decide +kernel
theorem dX11_isFading_53 : decode cX11_isFading 53 = .ok (.iconst 1, 1) := by decide +kernel
theorem dX11_isFading_54 : decode cX11_isFading 54 = .ok (.goto 23, 3) := by decide +kernel
theorem dX11_isFading_57 : decode cX11_isFading 57 = .ok (.iconst 0, 1) := by decide +kernel
theorem dX11_isFading_58 : decode cX11_isFading 58 = .ok (.goto 19, 3) := by decide +kernel
theorem dX11_isFading_61 : decode cX11_isFading 61 = .ok (.aload_n 0, 1) := by decide +kernel
theorem dX11_isFading_62 : decode cX11_isFading 62 = .ok (.getfield 24, 3) := by decide +kernel
theorem dX11_isFading_65 : decode cX11_isFading 65 = .ok (.iconst 2, 1) := by decide +kernel
theorem dX11_isFading_66 : decode cX11_isFading 66 = .ok (.iaload, 1) := by decide +kernel
theorem dX11_isFading_67 : decode cX11_isFading 67 = .ok (.bipush 50, 2) := by decide +kernel
theorem dX11_isFading_69 : decode cX11_isFading 69 = .ok (.if_icmp .lt 7, 3) := by decide +kernel
theorem dX11_isFading_72 : decode cX11_isFading 72 = .ok (.iconst 1, 1) := by decide +kernel
theorem dX11_isFading_73 : decode cX11_isFading 73 = .ok (.goto 4, 3) := by decide +kernel
theorem dX11_isFading_76 : decode cX11_isFading 76 = .ok (.iconst 0, 1) := by decide +kernel
theorem dX11_isFading_77 : decode cX11_isFading 77 = .ok (.ireturn, 1) := by decide +kernel
theorem dX11_makes_0 : decode cX11_makes 0 = .ok (.iconst 0, 1) := by decide +kernel
theorem dX11_makes_1 : decode cX11_makes 1 = .ok (.istore 4, 2) := by decide +kernel
theorem dX11_makes_3 : decode cX11_makes 3 = .ok (.iconst 0, 1) := by decide +kernel
theorem dX11_makes_4 : decode cX11_makes 4 = .ok (.istore 5, 2) := by decide +kernel
theorem dX11_makes_6 : decode cX11_makes 6 = .ok (.iload 5, 2) := by decide +kernel
theorem dX11_makes_8 : decode cX11_makes 8 = .ok (.aload_n 0, 1) := by decide +kernel
theorem dX11_makes_9 : decode cX11_makes 9 = .ok (.getfield 201, 3) := by decide +kernel
theorem dX11_makes_12 : decode cX11_makes 12 = .ok (.if_icmp .ge 135, 3) := by decide +kernel
theorem dX11_makes_15 : decode cX11_makes 15 = .ok (.aload_n 0, 1) := by decide +kernel
theorem dX11_makes_16 : decode cX11_makes 16 = .ok (.iload_n 1, 1) := by decide +kernel
theorem dX11_makes_17 : decode cX11_makes 17 = .ok (.iload 5, 2) := by decide +kernel
theorem dX11_makes_19 : decode cX11_makes 19 = .ok (.iload_n 2, 1) := by decide +kernel
theorem dX11_makes_20 : decode cX11_makes 20 = .ok (.invokevirtual 387, 3) := by decide +kernel
theorem dX11_makes_23 : decode cX11_makes 23 = .ok (.ifCond .ne 6, 3) := by decide +kernel
theorem dX11_makes_26 : decode cX11_makes 26 = .ok (.goto 115, 3) := by decide +kernel
theorem dX11_makes_29 : decode cX11_makes 29 = .ok (.iload 4, 2) := by decide +kernel
theorem dX11_makes_31 : decode cX11_makes 31 = .ok (.iconst 1, 1) := by decide +kernel
theorem dX11_makes_32 : decode cX11_makes 32 = .ok (.iload 5, 2) := by decide +kernel
theorem dX11_makes_34 : decode cX11_makes 34 = .ok (.ishl, 1) := by decide +kernel
theorem dX11_makes_35 : decode cX11_makes 35 = .ok (.ior, 1) := by decide +kernel
theorem dX11_makes_36 : decode cX11_makes 36 = .ok (.istore 4, 2) := by decide +kernel
theorem dX11_makes_38 : decode cX11_makes 38 = .ok (.bipush 36, 2) := by decide +kernel
theorem dX11_makes_40 : decode cX11_makes 40 = .ok (.iload_n 1, 1) := by decide +kernel
theorem dX11_makes_41 : decode cX11_makes 41 = .ok (.imul, 1) := by decide +kernel
theorem dX11_makes_42 : decode cX11_makes 42 = .ok (.bipush 6, 2) := by decide +kernel
theorem dX11_makes_44 : decode cX11_makes 44 = .ok (.iload 5, 2) := by decide +kernel
theorem dX11_makes_46 : decode cX11_makes 46 = .ok (.imul, 1) := by decide +kernel
theorem dX11_makes_47 : decode cX11_makes 47 = .ok (.iadd, 1) := by decide +kernel
theorem dX11_makes_48 : decode cX11_makes 48 = .ok (.iload_n 2, 1) := by decide +kernel
theorem dX11_makes_49 : decode cX11_makes 49 = .ok (.iadd, 1) := by decide +kernel
theorem dX11_makes_50 : decode cX11_makes 50 = .ok (.istore 6, 2) := by decide +kernel
theorem dX11_makes_52 : decode cX11_makes 52 = .ok (.aload_n 0, 1) := by decide +kernel
theorem dX11_makes_53 : decode cX11_makes 53 = .ok (.getfield 94, 3) := by decide +kernel
theorem dX11_makes_56 : decode cX11_makes 56 = .ok (.iload 6, 2) := by decide +kernel
theorem dX11_makes_58 : decode cX11_makes 58 = .ok (.aload_n 0, 1) := by decide +kernel
theorem dX11_makes_59 : decode cX11_makes 59 = .ok (.getfield 94, 3) := by decide +kernel
theorem dX11_makes_62 : decode cX11_makes 62 = .ok (.iload 6, 2) := by decide +kernel
theorem dX11_makes_64 : decode cX11_makes 64 = .ok (.iaload, 1) := by decide +kernel
theorem dX11_makes_65 : decode cX11_makes 65 = .ok (.sipush 999, 3) := by decide +kernel
theorem dX11_makes_68 : decode cX11_makes 68 = .ok (.if_icmp .ge 15, 3) := by decide +kernel
theorem dX11_makes_71 : decode cX11_makes 71 = .ok (.aload_n 0, 1) := by decide +kernel
theorem dX11_makes_72 : decode cX11_makes 72 = .ok (.getfield 94, 3) := by decide +kernel
theorem dX11_makes_75 : decode cX11_makes 75 = .ok (.iload 6, 2) := by decide +kernel
theorem dX11_makes_77 : decode cX11_makes 77 = .ok (.iaload, 1) := by decide +kernel
theorem dX11_makes_78 : decode cX11_makes 78 = .ok (.iconst 1, 1) := by decide +kernel
theorem dX11_makes_79 : decode cX11_makes 79 = .ok (.iadd, 1) := by decide +kernel
theorem dX11_makes_80 : decode cX11_makes 80 = .ok (.goto 6, 3) := by decide +kernel
theorem dX11_makes_83 : decode cX11_makes 83 = .ok (.sipush 999, 3) := by decide +kernel
theorem dX11_makes_86 : decode cX11_makes 86 = .ok (.iastore, 1) := by decide +kernel
theorem dX11_makes_87 : decode cX11_makes 87 = .ok (.aload_n 0, 1) := by decide +kernel
theorem dX11_makes_88 : decode cX11_makes 88 = .ok (.getfield 91, 3) := by decide +kernel
theorem dX11_makes_91 : decode cX11_makes 91 = .ok (.bipush 6, 2) := by decide +kernel
theorem dX11_makes_93 : decode cX11_makes 93 = .ok (.iload_n 1, 1) := by decide +kernel
theorem dX11_makes_94 : decode cX11_makes 94 = .ok (.imul, 1) := by decide +kernel
theorem dX11_makes_95 : decode cX11_makes 95 = .ok (.iload 5, 2) := by decide +kernel
theorem dX11_makes_97 : decode cX11_makes 97 = .ok (.iadd, 1) := by decide +kernel
theorem dX11_makes_98 : decode cX11_makes 98 = .ok (.iload_n 3, 1) := by decide +kernel
theorem dX11_makes_99 : decode cX11_makes 99 = .ok (.iastore, 1) := by decide +kernel
theorem dX11_makes_100 : decode cX11_makes 100 = .ok (.aload_n 0, 1) := by decide +kernel
theorem dX11_makes_101 : decode cX11_makes 101 = .ok (.iload_n 1, 1) := by decide +kernel
theorem dX11_makes_102 : decode cX11_makes 102 = .ok (.iload 5, 2) := by decide +kernel
theorem dX11_makes_104 : decode cX11_makes 104 = .ok (.iload_n 2, 1) := by decide +kernel
theorem dX11_makes_105 : decode cX11_makes 105 = .ok (.iload_n 3, 1) := by decide +kernel
theorem dX11_makes_106 : decode cX11_makes 106 = .ok (.invokevirtual 368, 3) := by decide +kernel
theorem dX11_makes_109 : decode cX11_makes 109 = .ok (.aload_n 0, 1) := by decide +kernel
theorem dX11_makes_110 : decode cX11_makes 110 = .ok (.getfield 94, 3) := by decide +kernel
theorem dX11_makes_113 : decode cX11_makes 113 = .ok (.iload 6, 2) := by decide +kernel
theorem dX11_makes_115 : decode cX11_makes 115 = .ok (.iaload, 1) := by decide +kernel
theorem dX11_makes_116 : decode cX11_makes 116 = .ok (.aload_n 0, 1) := by decide +kernel
theorem dX11_makes_117 : decode cX11_makes 117 = .ok (.iconst 1, 1) := by decide +kernel
theorem dX11_makes_118 : decode cX11_makes 118 = .ok (.aload_n 0, 1) := by decide +kernel
theorem dX11_makes_119 : decode cX11_makes 119 = .ok (.getfield 24, 3) := by decide +kernel
theorem dX11_makes_122 : decode cX11_makes 122 = .ok (.iconst 1, 1) := by decide +kernel
theorem dX11_makes_123 : decode cX11_makes 123 = .ok (.iaload, 1) := by decide +kernel
theorem dX11_makes_124 : decode cX11_makes 124 = .ok (.iconst 1, 1) := by decide +kernel
theorem dX11_makes_125 : decode cX11_makes 125 = .ok (.bipush 99, 2) := by decide +kernel
theorem dX11_makes_127 : decode cX11_makes 127 = .ok (.invokevirtual 372, 3) := by decide +kernel
theorem dX11_makes_130 : decode cX11_makes 130 = .ok (.if_icmp .lt 11, 3) := by decide +kernel
theorem dX11_makes_133 : decode cX11_makes 133 = .ok (.aload_n 0, 1) := by decide +kernel
theorem dX11_makes_134 : decode cX11_makes 134 = .ok (.getfield 97, 3) := by decide +kernel
theorem dX11_makes_137 : decode cX11_makes 137 = .ok (.iload 6, 2) := by decide +kernel
theorem dX11_makes_139 : decode cX11_makes 139 = .ok (.iconst 1, 1) := by decide +kernel
theorem dX11_makes_140 : decode cX11_makes 140 = .ok (.bastore, 1) := by decide +kernel
theorem dX11_makes_141 : decode cX11_makes 141 = .ok (.iinc 5 1, 3) := by decide +kernel
theorem dX11_makes_144 : decode cX11_makes 144 = .ok (.goto (-138), 3) := by decide +kernel
theorem dX11_makes_147 : decode cX11_makes 147 = .ok (.iload 4, 2) := by decide +kernel
theorem dX11_makes_149 : decode cX11_makes 149 = .ok (.ireturn, 1) := by decide +kernel
theorem dX11_hourGoes_0 : decode cX11_hourGoes 0 = .ok (.iconst 0, 1) := by decide +kernel
theorem dX11_hourGoes_1 : decode cX11_hourGoes 1 = .ok (.istore_n 2, 1) := by decide +kernel
theorem dX11_hourGoes_2 : decode cX11_hourGoes 2 = .ok (.iload_n 2, 1) := by decide +kernel
theorem dX11_hourGoes_3 : decode cX11_hourGoes 3 = .ok (.aload_n 0, 1) := by decide +kernel
theorem dX11_hourGoes_4 : decode cX11_hourGoes 4 = .ok (.getfield 204, 3) := by decide +kernel
theorem dX11_hourGoes_7 : decode cX11_hourGoes 7 = .ok (.if_icmp .ge 53, 3) := by decide +kernel
theorem dX11_hourGoes_10 : decode cX11_hourGoes 10 = .ok (.aload_n 0, 1) := by decide +kernel
theorem dX11_hourGoes_11 : decode cX11_hourGoes 11 = .ok (.getfield 343, 3) := by decide +kernel
theorem dX11_hourGoes_14 : decode cX11_hourGoes 14 = .ok (.ifCond .ne 46, 3) := by decide +kernel
theorem dX11_hourGoes_17 : decode cX11_hourGoes 17 = .ok (.aload_n 0, 1) := by decide +kernel
theorem dX11_hourGoes_18 : decode cX11_hourGoes 18 = .ok (.getfield 39, 3) := by decide +kernel
theorem dX11_hourGoes_21 : decode cX11_hourGoes 21 = .ok (.iload_n 2, 1) := by decide +kernel
theorem dX11_hourGoes_22 : decode cX11_hourGoes 22 = .ok (.iaload, 1) := by decide +kernel
theorem dX11_hourGoes_23 : decode cX11_hourGoes 23 = .ok (.aload_n 0, 1) := by decide +kernel
theorem dX11_hourGoes_24 : decode cX11_hourGoes 24 = .ok (.getfield 100, 3) := by decide +kernel
theorem dX11_hourGoes_27 : decode cX11_hourGoes 27 = .ok (.iload_n 1, 1) := by decide +kernel
theorem dX11_hourGoes_28 : decode cX11_hourGoes 28 = .ok (.iaload, 1) := by decide +kernel
theorem dX11_hourGoes_29 : decode cX11_hourGoes 29 = .ok (.if_icmp .ne 25, 3) := by decide +kernel
theorem dX11_hourGoes_32 : decode cX11_hourGoes 32 = .ok (.aload_n 0, 1) := by decide +kernel
theorem dX11_hourGoes_33 : decode cX11_hourGoes 33 = .ok (.getfield 85, 3) := by decide +kernel
theorem dX11_hourGoes_36 : decode cX11_hourGoes 36 = .ok (.bipush 6, 2) := by decide +kernel
theorem dX11_hourGoes_38 : decode cX11_hourGoes 38 = .ok (.iload_n 1, 1) := by decide +kernel
theorem dX11_hourGoes_39 : decode cX11_hourGoes 39 = .ok (.imul, 1) := by decide +kernel
theorem dX11_hourGoes_40 : decode cX11_hourGoes 40 = .ok (.aload_n 0, 1) := by decide +kernel
theorem dX11_hourGoes_41 : decode cX11_hourGoes 41 = .ok (.getfield 36, 3) := by decide +kernel
theorem dX11_hourGoes_44 : decode cX11_hourGoes 44 = .ok (.iload_n 2, 1) := by decide +kernel
theorem dX11_hourGoes_45 : decode cX11_hourGoes 45 = .ok (.iaload, 1) := by decide +kernel
theorem dX11_hourGoes_46 : decode cX11_hourGoes 46 = .ok (.iadd, 1) := by decide +kernel
theorem dX11_hourGoes_47 : decode cX11_hourGoes 47 = .ok (.aload_n 0, 1) := by decide +kernel
theorem dX11_hourGoes_48 : decode cX11_hourGoes 48 = .ok (.getfield 42, 3) := by decide +kernel
theorem dX11_hourGoes_51 : decode cX11_hourGoes 51 = .ok (.iload_n 2, 1) := by decide +kernel
theorem dX11_hourGoes_52 : decode cX11_hourGoes 52 = .ok (.iaload, 1) := by decide +kernel
theorem dX11_hourGoes_53 : decode cX11_hourGoes 53 = .ok (.iastore, 1) := by decide +kernel
theorem dX11_hourGoes_54 : decode cX11_hourGoes 54 = .ok (.iinc 2 1, 3) := by decide +kernel
theorem dX11_hourGoes_57 : decode cX11_hourGoes 57 = .ok (.goto (-55), 3) := by decide +kernel
theorem dX11_hourGoes_60 : decode cX11_hourGoes 60 = .ok (.iconst 0, 1) := by decide +kernel
theorem dX11_hourGoes_61 : decode cX11_hourGoes 61 = .ok (.istore_n 2, 1) := by decide +kernel
theorem dX11_hourGoes_62 : decode cX11_hourGoes 62 = .ok (.iload_n 2, 1) := by decide +kernel
theorem dX11_hourGoes_63 : decode cX11_hourGoes 63 = .ok (.aload_n 0, 1) := by decide +kernel
theorem dX11_hourGoes_64 : decode cX11_hourGoes 64 = .ok (.getfield 207, 3) := by decide +kernel
theorem dX11_hourGoes_67 : decode cX11_hourGoes 67 = .ok (.if_icmp .ge 55, 3) := by decide +kernel
theorem dX11_hourGoes_70 : decode cX11_hourGoes 70 = .ok (.aload_n 0, 1) := by decide +kernel
theorem dX11_hourGoes_71 : decode cX11_hourGoes 71 = .ok (.getfield 48, 3) := by decide +kernel
theorem dX11_hourGoes_74 : decode cX11_hourGoes 74 = .ok (.iload_n 2, 1) := by decide +kernel
theorem dX11_hourGoes_75 : decode cX11_hourGoes 75 = .ok (.iaload, 1) := by decide +kernel
theorem dX11_hourGoes_76 : decode cX11_hourGoes 76 = .ok (.aload_n 0, 1) := by decide +kernel
theorem dX11_hourGoes_77 : decode cX11_hourGoes 77 = .ok (.getfield 100, 3) := by decide +kernel
theorem dX11_hourGoes_80 : decode cX11_hourGoes 80 = .ok (.iload_n 1, 1) := by decide +kernel
theorem dX11_hourGoes_81 : decode cX11_hourGoes 81 = .ok (.iaload, 1) := by decide +kernel
theorem dX11_hourGoes_82 : decode cX11_hourGoes 82 = .ok (.if_icmp .ne 34, 3) := by decide +kernel
theorem dX11_hourGoes_85 : decode cX11_hourGoes 85 = .ok (.aload_n 0, 1) := by decide +kernel
theorem dX11_hourGoes_86 : decode cX11_hourGoes 86 = .ok (.getfield 45, 3) := by decide +kernel
theorem dX11_hourGoes_89 : decode cX11_hourGoes 89 = .ok (.iload_n 2, 1) := by decide +kernel
theorem dX11_hourGoes_90 : decode cX11_hourGoes 90 = .ok (.iaload, 1) := by decide +kernel
theorem dX11_hourGoes_91 : decode cX11_hourGoes 91 = .ok (.aload_n 0, 1) := by decide +kernel
theorem dX11_hourGoes_92 : decode cX11_hourGoes 92 = .ok (.getfield 346, 3) := by decide +kernel
theorem dX11_hourGoes_95 : decode cX11_hourGoes 95 = .ok (.if_icmp .eq 21, 3) := by decide +kernel
theorem dX11_hourGoes_98 : decode cX11_hourGoes 98 = .ok (.aload_n 0, 1) := by decide +kernel
theorem dX11_hourGoes_99 : decode cX11_hourGoes 99 = .ok (.iload_n 1, 1) := by decide +kernel
theorem dX11_hourGoes_100 : decode cX11_hourGoes 100 = .ok (.aload_n 0, 1) := by decide +kernel
theorem dX11_hourGoes_101 : decode cX11_hourGoes 101 = .ok (.getfield 45, 3) := by decide +kernel
theorem dX11_hourGoes_104 : decode cX11_hourGoes 104 = .ok (.iload_n 2, 1) := by decide +kernel
theorem dX11_hourGoes_105 : decode cX11_hourGoes 105 = .ok (.iaload, 1) := by decide +kernel
theorem dX11_hourGoes_106 : decode cX11_hourGoes 106 = .ok (.aload_n 0, 1) := by decide +kernel
theorem dX11_hourGoes_107 : decode cX11_hourGoes 107 = .ok (.getfield 51, 3) := by decide +kernel
theorem dX11_hourGoes_110 : decode cX11_hourGoes 110 = .ok (.iload_n 2, 1) := by decide +kernel
theorem dX11_hourGoes_111 : decode cX11_hourGoes 111 = .ok (.iaload, 1) := by decide +kernel
theorem dX11_hourGoes_112 : decode cX11_hourGoes 112 = .ok (.invokevirtual 390, 3) := by decide +kernel
theorem dX11_hourGoes_115 : decode cX11_hourGoes 115 = .ok (.pop, 1) := by decide +kernel
theorem dX11_hourGoes_116 : decode cX11_hourGoes 116 = .ok (.iinc 2 1, 3) := by decide +kernel
theorem dX11_hourGoes_119 : decode cX11_hourGoes 119 = .ok (.goto (-57), 3) := by decide +kernel
theorem dX11_hourGoes_122 : decode cX11_hourGoes 122 = .ok (.iconst 0, 1) := by decide +kernel
theorem dX11_hourGoes_123 : decode cX11_hourGoes 123 = .ok (.istore_n 2, 1) := by decide +kernel
theorem dX11_hourGoes_124 : decode cX11_hourGoes 124 = .ok (.iload_n 2, 1) := by decide +kernel
theorem dX11_hourGoes_125 : decode cX11_hourGoes 125 = .ok (.aload_n 0, 1) := by decide +kernel
theorem dX11_hourGoes_126 : decode cX11_hourGoes 126 = .ok (.getfield 201, 3) := by decide +kernel
theorem dX11_hourGoes_129 : decode cX11_hourGoes 129 = .ok (.if_icmp .ge 78, 3) := by decide +kernel
theorem dX11_hourGoes_132 : decode cX11_hourGoes 132 = .ok (.aload_n 0, 1) := by decide +kernel
theorem dX11_hourGoes_133 : decode cX11_hourGoes 133 = .ok (.getfield 340, 3) := by decide +kernel
theorem dX11_hourGoes_136 : decode cX11_hourGoes 136 = .ok (.ifCond .ne 71, 3) := by decide +kernel
theorem dX11_hourGoes_139 : decode cX11_hourGoes 139 = .ok (.aload_n 0, 1) := by decide +kernel
theorem dX11_hourGoes_140 : decode cX11_hourGoes 140 = .ok (.iload_n 1, 1) := by decide +kernel
theorem dX11_hourGoes_141 : decode cX11_hourGoes 141 = .ok (.iload_n 2, 1) := by decide +kernel
theorem dX11_hourGoes_142 : decode cX11_hourGoes 142 = .ok (.iconst (-1), 1) := by decide +kernel
theorem dX11_hourGoes_143 : decode cX11_hourGoes 143 = .ok (.iconst 0, 1) := by decide +kernel
theorem dX11_hourGoes_144 : decode cX11_hourGoes 144 = .ok (.invokevirtual 368, 3) := by decide +kernel
theorem dX11_hourGoes_147 : decode cX11_hourGoes 147 = .ok (.aload_n 0, 1) := by decide +kernel
theorem dX11_hourGoes_148 : decode cX11_hourGoes 148 = .ok (.getfield 85, 3) := by decide +kernel
theorem dX11_hourGoes_151 : decode cX11_hourGoes 151 = .ok (.bipush 6, 2) := by decide +kernel
theorem dX11_hourGoes_153 : decode cX11_hourGoes 153 = .ok (.iload_n 1, 1) := by decide +kernel
theorem dX11_hourGoes_154 : decode cX11_hourGoes 154 = .ok (.imul, 1) := by decide +kernel
theorem dX11_hourGoes_155 : decode cX11_hourGoes 155 = .ok (.iload_n 2, 1) := by decide +kernel
theorem dX11_hourGoes_156 : decode cX11_hourGoes 156 = .ok (.iadd, 1) := by decide +kernel
theorem dX11_hourGoes_157 : decode cX11_hourGoes 157 = .ok (.iaload, 1) := by decide +kernel
theorem dX11_hourGoes_158 : decode cX11_hourGoes 158 = .ok (.aload_n 0, 1) := by decide +kernel
theorem dX11_hourGoes_159 : decode cX11_hourGoes 159 = .ok (.iconst 2, 1) := by decide +kernel
theorem dX11_hourGoes_160 : decode cX11_hourGoes 160 = .ok (.iconst 0, 1) := by decide +kernel
theorem dX11_hourGoes_161 : decode cX11_hourGoes 161 = .ok (.bipush (-9), 2) := by decide +kernel
theorem dX11_hourGoes_163 : decode cX11_hourGoes 163 = .ok (.bipush 9, 2) := by decide +kernel
theorem dX11_hourGoes_165 : decode cX11_hourGoes 165 = .ok (.invokevirtual 372, 3) := by decide +kernel
theorem dX11_hourGoes_168 : decode cX11_hourGoes 168 = .ok (.iadd, 1) := by decide +kernel
theorem dX11_hourGoes_169 : decode cX11_hourGoes 169 = .ok (.istore_n 3, 1) := by decide +kernel
theorem dX11_hourGoes_170 : decode cX11_hourGoes 170 = .ok (.aload_n 0, 1) := by decide +kernel
theorem dX11_hourGoes_171 : decode cX11_hourGoes 171 = .ok (.getfield 85, 3) := by decide +kernel
theorem dX11_hourGoes_174 : decode cX11_hourGoes 174 = .ok (.bipush 6, 2) := by decide +kernel
theorem dX11_hourGoes_176 : decode cX11_hourGoes 176 = .ok (.iload_n 1, 1) := by decide +kernel
theorem dX11_hourGoes_177 : decode cX11_hourGoes 177 = .ok (.imul, 1) := by decide +kernel
theorem dX11_hourGoes_178 : decode cX11_hourGoes 178 = .ok (.iload_n 2, 1) := by decide +kernel
theorem dX11_hourGoes_179 : decode cX11_hourGoes 179 = .ok (.iadd, 1) := by decide +kernel
theorem dX11_hourGoes_180 : decode cX11_hourGoes 180 = .ok (.iload_n 3, 1) := by decide +kernel
theorem dX11_hourGoes_181 : decode cX11_hourGoes 181 = .ok (.ifCond .ge 7, 3) := by decide +kernel
theorem dX11_hourGoes_184 : decode cX11_hourGoes 184 = .ok (.iconst 0, 1) := by decide +kernel
theorem dX11_hourGoes_185 : decode cX11_hourGoes 185 = .ok (.goto 15, 3) := by decide +kernel
theorem dX11_hourGoes_188 : decode cX11_hourGoes 188 = .ok (.iload_n 3, 1) := by decide +kernel
theorem dX11_hourGoes_189 : decode cX11_hourGoes 189 = .ok (.bipush 99, 2) := by decide +kernel
theorem dX11_hourGoes_191 : decode cX11_hourGoes 191 = .ok (.if_icmp .le 8, 3) := by decide +kernel
theorem dX11_hourGoes_194 : decode cX11_hourGoes 194 = .ok (.bipush 99, 2) := by decide +kernel
theorem dX11_hourGoes_196 : decode cX11_hourGoes 196 = .ok (.goto 4, 3) := by decide +kernel
theorem dX11_hourGoes_199 : decode cX11_hourGoes 199 = .ok (.iload_n 3, 1) := by decide +kernel
theorem dX11_hourGoes_200 : decode cX11_hourGoes 200 = .ok (.iastore, 1) := by decide +kernel
theorem dX11_hourGoes_201 : decode cX11_hourGoes 201 = .ok (.iinc 2 1, 3) := by decide +kernel
theorem dX11_hourGoes_204 : decode cX11_hourGoes 204 = .ok (.goto (-80), 3) := by decide +kernel
theorem dX11_hourGoes_207 : decode cX11_hourGoes 207 = .ok (.iconst 0, 1) := by decide +kernel
theorem dX11_hourGoes_208 : decode cX11_hourGoes 208 = .ok (.istore_n 2, 1) := by decide +kernel
theorem dX11_hourGoes_209 : decode cX11_hourGoes 209 = .ok (.iload_n 2, 1) := by decide +kernel
theorem dX11_hourGoes_210 : decode cX11_hourGoes 210 = .ok (.aload_n 0, 1) := by decide +kernel
theorem dX11_hourGoes_211 : decode cX11_hourGoes 211 = .ok (.getfield 201, 3) := by decide +kernel
theorem dX11_hourGoes_214 : decode cX11_hourGoes 214 = .ok (.if_icmp .ge 45, 3) := by decide +kernel
theorem dX11_hourGoes_217 : decode cX11_hourGoes 217 = .ok (.aload_n 0, 1) := by decide +kernel
theorem dX11_hourGoes_218 : decode cX11_hourGoes 218 = .ok (.invokevirtual 394, 3) := by decide +kernel
theorem dX11_hourGoes_221 : decode cX11_hourGoes 221 = .ok (.ifCond .eq 32, 3) := by decide +kernel
theorem dX11_hourGoes_224 : decode cX11_hourGoes 224 = .ok (.aload_n 0, 1) := by decide +kernel
theorem dX11_hourGoes_225 : decode cX11_hourGoes 225 = .ok (.getfield 88, 3) := by decide +kernel
theorem dX11_hourGoes_228 : decode cX11_hourGoes 228 = .ok (.bipush 6, 2) := by decide +kernel
theorem dX11_hourGoes_230 : decode cX11_hourGoes 230 = .ok (.iload_n 1, 1) := by decide +kernel
theorem dX11_hourGoes_231 : decode cX11_hourGoes 231 = .ok (.imul, 1) := by decide +kernel
theorem dX11_hourGoes_232 : decode cX11_hourGoes 232 = .ok (.iload_n 2, 1) := by decide +kernel
theorem dX11_hourGoes_233 : decode cX11_hourGoes 233 = .ok (.iadd, 1) := by decide +kernel
theorem dX11_hourGoes_234 : decode cX11_hourGoes 234 = .ok (.iaload, 1) := by decide +kernel
theorem dX11_hourGoes_235 : decode cX11_hourGoes 235 = .ok (.ifCond .le 18, 3) := by decide +kernel
theorem dX11_hourGoes_238 : decode cX11_hourGoes 238 = .ok (.aload_n 0, 1) := by decide +kernel
theorem dX11_hourGoes_239 : decode cX11_hourGoes 239 = .ok (.getfield 88, 3) := by decide +kernel
theorem dX11_hourGoes_242 : decode cX11_hourGoes 242 = .ok (.bipush 6, 2) := by decide +kernel
theorem dX11_hourGoes_244 : decode cX11_hourGoes 244 = .ok (.iload_n 1, 1) := by decide +kernel
theorem dX11_hourGoes_245 : decode cX11_hourGoes 245 = .ok (.imul, 1) := by decide +kernel
theorem dX11_hourGoes_246 : decode cX11_hourGoes 246 = .ok (.iload_n 2, 1) := by decide +kernel
theorem dX11_hourGoes_247 : decode cX11_hourGoes 247 = .ok (.iadd, 1) := by decide +kernel
theorem dX11_hourGoes_248 : decode cX11_hourGoes 248 = .ok (.dup2, 1) := by decide +kernel
theorem dX11_hourGoes_249 : decode cX11_hourGoes 249 = .ok (.iaload, 1) := by decide +kernel
theorem dX11_hourGoes_250 : decode cX11_hourGoes 250 = .ok (.iconst 1, 1) := by decide +kernel
theorem dX11_hourGoes_251 : decode cX11_hourGoes 251 = .ok (.isub, 1) := by decide +kernel
theorem dX11_hourGoes_252 : decode cX11_hourGoes 252 = .ok (.iastore, 1) := by decide +kernel
theorem dX11_hourGoes_253 : decode cX11_hourGoes 253 = .ok (.iinc 2 1, 3) := by decide +kernel
theorem dX11_hourGoes_256 : decode cX11_hourGoes 256 = .ok (.goto (-47), 3) := by decide +kernel
theorem dX11_hourGoes_259 : decode cX11_hourGoes 259 = .ok (.aload_n 0, 1) := by decide +kernel
theorem dX11_hourGoes_260 : decode cX11_hourGoes 260 = .ok (.getfield 100, 3) := by decide +kernel
theorem dX11_hourGoes_263 : decode cX11_hourGoes 263 = .ok (.iload_n 1, 1) := by decide +kernel
theorem dX11_hourGoes_264 : decode cX11_hourGoes 264 = .ok (.dup2, 1) := by decide +kernel
theorem dX11_hourGoes_265 : decode cX11_hourGoes 265 = .ok (.iaload, 1) := by decide +kernel
theorem dX11_hourGoes_266 : decode cX11_hourGoes 266 = .ok (.iconst 1, 1) := by decide +kernel
theorem dX11_hourGoes_267 : decode cX11_hourGoes 267 = .ok (.iadd, 1) := by decide +kernel
theorem dX11_hourGoes_268 : decode cX11_hourGoes 268 = .ok (.iastore, 1) := by decide +kernel
theorem dX11_hourGoes_269 : decode cX11_hourGoes 269 = .ok (.return_, 1) := by decide +kernel
theorem dX11_goMany_0 : decode cX11_goMany 0 = .ok (.iconst 0, 1) := by decide +kernel
theorem dX11_goMany_1 : decode cX11_goMany 1 = .ok (.istore_n 2, 1) := by decide +kernel
theorem dX11_goMany_2 : decode cX11_goMany 2 = .ok (.iload_n 2, 1) := by decide +kernel
theorem dX11_goMany_3 : decode cX11_goMany 3 = .ok (.iload_n 1, 1) := by decide +kernel
theorem dX11_goMany_4 : decode cX11_goMany 4 = .ok (.if_icmp .ge 14, 3) := by decide +kernel
theorem dX11_goMany_7 : decode cX11_goMany 7 = .ok (.aload_n 0, 1) := by decide +kernel
theorem dX11_goMany_8 : decode cX11_goMany 8 = .ok (.iconst 1, 1) := by decide +kernel
theorem dX11_goMany_9 : decode cX11_goMany 9 = .ok (.invokevirtual 397, 3) := by decide +kernel
theorem dX11_goMany_12 : decode cX11_goMany 12 = .ok (.iinc 2 1, 3) := by decide +kernel
theorem dX11_goMany_15 : decode cX11_goMany 15 = .ok (.goto (-13), 3) := by decide +kernel
theorem dX11_goMany_18 : decode cX11_goMany 18 = .ok (.return_, 1) := by decide +kernel
theorem dX11_pairs_0 : decode cX11_pairs 0 = .ok (.iconst 0, 1) := by decide +kernel
theorem dX11_pairs_1 : decode cX11_pairs 1 = .ok (.istore_n 2, 1) := by decide +kernel
theorem dX11_pairs_2 : decode cX11_pairs 2 = .ok (.iconst 0, 1) := by decide +kernel
theorem dX11_pairs_3 : decode cX11_pairs 3 = .ok (.istore_n 3, 1) := by decide +kernel
theorem dX11_pairs_4 : decode cX11_pairs 4 = .ok (.iload_n 3, 1) := by decide +kernel
theorem dX11_pairs_5 : decode cX11_pairs 5 = .ok (.aload_n 0, 1) := by decide +kernel
theorem dX11_pairs_6 : decode cX11_pairs 6 = .ok (.getfield 201, 3) := by decide +kernel
theorem dX11_pairs_9 : decode cX11_pairs 9 = .ok (.if_icmp .ge 18, 3) := by decide +kernel
theorem dX11_pairs_12 : decode cX11_pairs 12 = .ok (.iload_n 2, 1) := by decide +kernel
theorem dX11_pairs_13 : decode cX11_pairs 13 = .ok (.aload_n 0, 1) := by decide +kernel
theorem dX11_pairs_14 : decode cX11_pairs 14 = .ok (.iload_n 1, 1) := by decide +kernel
theorem dX11_pairs_15 : decode cX11_pairs 15 = .ok (.iload_n 3, 1) := by decide +kernel
theorem dX11_pairs_16 : decode cX11_pairs 16 = .ok (.invokevirtual 358, 3) := by decide +kernel
theorem dX11_pairs_19 : decode cX11_pairs 19 = .ok (.iadd, 1) := by decide +kernel
theorem dX11_pairs_20 : decode cX11_pairs 20 = .ok (.istore_n 2, 1) := by decide +kernel
theorem dX11_pairs_21 : decode cX11_pairs 21 = .ok (.iinc 3 1, 3) := by decide +kernel
theorem dX11_pairs_24 : decode cX11_pairs 24 = .ok (.goto (-20), 3) := by decide +kernel
theorem dX11_pairs_27 : decode cX11_pairs 27 = .ok (.iload_n 2, 1) := by decide +kernel
theorem dX11_pairs_28 : decode cX11_pairs 28 = .ok (.ireturn, 1) := by decide +kernel
theorem dX11_heardAll_0 : decode cX11_heardAll 0 = .ok (.iconst 0, 1) := by decide +kernel
theorem dX11_heardAll_1 : decode cX11_heardAll 1 = .ok (.istore_n 2, 1) := by decide +kernel
theorem dX11_heardAll_2 : decode cX11_heardAll 2 = .ok (.iconst 0, 1) := by decide +kernel
theorem dX11_heardAll_3 : decode cX11_heardAll 3 = .ok (.istore_n 3, 1) := by decide +kernel
theorem dX11_heardAll_4 : decode cX11_heardAll 4 = .ok (.iload_n 3, 1) := by decide +kernel
theorem dX11_heardAll_5 : decode cX11_heardAll 5 = .ok (.bipush 36, 2) := by decide +kernel
theorem dX11_heardAll_7 : decode cX11_heardAll 7 = .ok (.if_icmp .ge 23, 3) := by decide +kernel
theorem dX11_heardAll_10 : decode cX11_heardAll 10 = .ok (.iload_n 2, 1) := by decide +kernel
theorem dX11_heardAll_11 : decode cX11_heardAll 11 = .ok (.aload_n 0, 1) := by decide +kernel
theorem dX11_heardAll_12 : decode cX11_heardAll 12 = .ok (.getfield 94, 3) := by decide +kernel
theorem dX11_heardAll_15 : decode cX11_heardAll 15 = .ok (.bipush 36, 2) := by decide +kernel
theorem dX11_heardAll_17 : decode cX11_heardAll 17 = .ok (.iload_n 1, 1) := by decide +kernel
theorem dX11_heardAll_18 : decode cX11_heardAll 18 = .ok (.imul, 1) := by decide +kernel
theorem dX11_heardAll_19 : decode cX11_heardAll 19 = .ok (.iload_n 3, 1) := by decide +kernel
theorem dX11_heardAll_20 : decode cX11_heardAll 20 = .ok (.iadd, 1) := by decide +kernel
theorem dX11_heardAll_21 : decode cX11_heardAll 21 = .ok (.iaload, 1) := by decide +kernel
theorem dX11_heardAll_22 : decode cX11_heardAll 22 = .ok (.iadd, 1) := by decide +kernel
theorem dX11_heardAll_23 : decode cX11_heardAll 23 = .ok (.istore_n 2, 1) := by decide +kernel
theorem dX11_heardAll_24 : decode cX11_heardAll 24 = .ok (.iinc 3 1, 3) := by decide +kernel
theorem dX11_heardAll_27 : decode cX11_heardAll 27 = .ok (.goto (-23), 3) := by decide +kernel
theorem dX11_heardAll_30 : decode cX11_heardAll 30 = .ok (.iload_n 2, 1) := by decide +kernel
theorem dX11_heardAll_31 : decode cX11_heardAll 31 = .ok (.ireturn, 1) := by decide +kernel
theorem dX11_fails_0 : decode cX11_fails 0 = .ok (.aload_n 0, 1) := by decide +kernel
theorem dX11_fails_1 : decode cX11_fails 1 = .ok (.iload_n 1, 1) := by decide +kernel
theorem dX11_fails_2 : decode cX11_fails 2 = .ok (.putfield 124, 3) := by decide +kernel
theorem dX11_fails_5 : decode cX11_fails 5 = .ok (.iconst 0, 1) := by decide +kernel
theorem dX11_fails_6 : decode cX11_fails 6 = .ok (.ireturn, 1) := by decide +kernel
theorem dX11_heardBy_0 : decode cX11_heardBy 0 = .ok (.iconst 0, 1) := by decide +kernel
theorem dX11_heardBy_1 : decode cX11_heardBy 1 = .ok (.istore_n 3, 1) := by decide +kernel
theorem dX11_heardBy_2 : decode cX11_heardBy 2 = .ok (.iconst 0, 1) := by decide +kernel
theorem dX11_heardBy_3 : decode cX11_heardBy 3 = .ok (.istore 4, 2) := by decide +kernel
theorem dX11_heardBy_5 : decode cX11_heardBy 5 = .ok (.iload 4, 2) := by decide +kernel
theorem dX11_heardBy_7 : decode cX11_heardBy 7 = .ok (.aload_n 0, 1) := by decide +kernel
theorem dX11_heardBy_8 : decode cX11_heardBy 8 = .ok (.getfield 201, 3) := by decide +kernel
theorem dX11_heardBy_11 : decode cX11_heardBy 11 = .ok (.if_icmp .ge 31, 3) := by decide +kernel
theorem dX11_heardBy_14 : decode cX11_heardBy 14 = .ok (.iload_n 3, 1) := by decide +kernel
theorem dX11_heardBy_15 : decode cX11_heardBy 15 = .ok (.aload_n 0, 1) := by decide +kernel
theorem dX11_heardBy_16 : decode cX11_heardBy 16 = .ok (.iload_n 1, 1) := by decide +kernel
theorem dX11_heardBy_17 : decode cX11_heardBy 17 = .ok (.iload_n 2, 1) := by decide +kernel
theorem dX11_heardBy_18 : decode cX11_heardBy 18 = .ok (.iload 4, 2) := by decide +kernel
theorem dX11_heardBy_20 : decode cX11_heardBy 20 = .ok (.invokevirtual 387, 3) := by decide +kernel
theorem dX11_heardBy_23 : decode cX11_heardBy 23 = .ok (.ifCond .eq 10, 3) := by decide +kernel
theorem dX11_heardBy_26 : decode cX11_heardBy 26 = .ok (.iconst 1, 1) := by decide +kernel
theorem dX11_heardBy_27 : decode cX11_heardBy 27 = .ok (.iload 4, 2) := by decide +kernel
theorem dX11_heardBy_29 : decode cX11_heardBy 29 = .ok (.ishl, 1) := by decide +kernel
theorem dX11_heardBy_30 : decode cX11_heardBy 30 = .ok (.goto 4, 3) := by decide +kernel
theorem dX11_heardBy_33 : decode cX11_heardBy 33 = .ok (.iconst 0, 1) := by decide +kernel
theorem dX11_heardBy_34 : decode cX11_heardBy 34 = .ok (.ior, 1) := by decide +kernel
theorem dX11_heardBy_35 : decode cX11_heardBy 35 = .ok (.istore_n 3, 1) := by decide +kernel
theorem dX11_heardBy_36 : decode cX11_heardBy 36 = .ok (.iinc 4 1, 3) := by decide +kernel
theorem dX11_heardBy_39 : decode cX11_heardBy 39 = .ok (.goto (-34), 3) := by decide +kernel
theorem dX11_heardBy_42 : decode cX11_heardBy 42 = .ok (.iload_n 3, 1) := by decide +kernel
theorem dX11_heardBy_43 : decode cX11_heardBy 43 = .ok (.ireturn, 1) := by decide +kernel
theorem dX11_hearing_0 : decode cX11_hearing 0 = .ok (.iconst 0, 1) := by decide +kernel
theorem dX11_hearing_1 : decode cX11_hearing 1 = .ok (.istore_n 3, 1) := by decide +kernel
theorem dX11_hearing_2 : decode cX11_hearing 2 = .ok (.iconst 0, 1) := by decide +kernel
theorem dX11_hearing_3 : decode cX11_hearing 3 = .ok (.istore 4, 2) := by decide +kernel
theorem dX11_hearing_5 : decode cX11_hearing 5 = .ok (.iload 4, 2) := by decide +kernel
theorem dX11_hearing_7 : decode cX11_hearing 7 = .ok (.aload_n 0, 1) := by decide +kernel
theorem dX11_hearing_8 : decode cX11_hearing 8 = .ok (.getfield 201, 3) := by decide +kernel
theorem dX11_hearing_11 : decode cX11_hearing 11 = .ok (.if_icmp .ge 31, 3) := by decide +kernel
theorem dX11_hearing_14 : decode cX11_hearing 14 = .ok (.iload_n 3, 1) := by decide +kernel
theorem dX11_hearing_15 : decode cX11_hearing 15 = .ok (.aload_n 0, 1) := by decide +kernel
theorem dX11_hearing_16 : decode cX11_hearing 16 = .ok (.iload_n 1, 1) := by decide +kernel
theorem dX11_hearing_17 : decode cX11_hearing 17 = .ok (.iload 4, 2) := by decide +kernel
theorem dX11_hearing_19 : decode cX11_hearing 19 = .ok (.iload_n 2, 1) := by decide +kernel
theorem dX11_hearing_20 : decode cX11_hearing 20 = .ok (.invokevirtual 387, 3) := by decide +kernel
theorem dX11_hearing_23 : decode cX11_hearing 23 = .ok (.ifCond .eq 10, 3) := by decide +kernel
theorem dX11_hearing_26 : decode cX11_hearing 26 = .ok (.iconst 1, 1) := by decide +kernel
theorem dX11_hearing_27 : decode cX11_hearing 27 = .ok (.iload 4, 2) := by decide +kernel
theorem dX11_hearing_29 : decode cX11_hearing 29 = .ok (.ishl, 1) := by decide +kernel
theorem dX11_hearing_30 : decode cX11_hearing 30 = .ok (.goto 4, 3) := by decide +kernel
theorem dX11_hearing_33 : decode cX11_hearing 33 = .ok (.iconst 0, 1) := by decide +kernel
theorem dX11_hearing_34 : decode cX11_hearing 34 = .ok (.ior, 1) := by decide +kernel
theorem dX11_hearing_35 : decode cX11_hearing 35 = .ok (.istore_n 3, 1) := by decide +kernel
theorem dX11_hearing_36 : decode cX11_hearing 36 = .ok (.iinc 4 1, 3) := by decide +kernel
theorem dX11_hearing_39 : decode cX11_hearing 39 = .ok (.goto (-34), 3) := by decide +kernel
theorem dX11_hearing_42 : decode cX11_hearing 42 = .ok (.iload_n 3, 1) := by decide +kernel
theorem dX11_hearing_43 : decode cX11_hearing 43 = .ok (.ireturn, 1) := by decide +kernel
theorem dX11_knownBits_0 : decode cX11_knownBits 0 = .ok (.iconst 0, 1) := by decide +kernel
theorem dX11_knownBits_1 : decode cX11_knownBits 1 = .ok (.istore 4, 2) := by decide +kernel
theorem dX11_knownBits_3 : decode cX11_knownBits 3 = .ok (.iconst 0, 1) := by decide +kernel
theorem dX11_knownBits_4 : decode cX11_knownBits 4 = .ok (.istore 5, 2) := by decide +kernel
