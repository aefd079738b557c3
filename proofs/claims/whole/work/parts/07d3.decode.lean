theorem dX11_knownBits_6 : decode cX11_knownBits 6 = .ok (.iload 5, 2) := by decide +kernel
theorem dX11_knownBits_8 : decode cX11_knownBits 8 = .ok (.aload_n 0, 1) := by decide +kernel
theorem dX11_knownBits_9 : decode cX11_knownBits 9 = .ok (.getfield 201, 3) := by decide +kernel
theorem dX11_knownBits_12 : decode cX11_knownBits 12 = .ok (.if_icmp .ge 56, 3) := by decide +kernel
theorem dX11_knownBits_15 : decode cX11_knownBits 15 = .ok (.iload 4, 2) := by decide +kernel
theorem dX11_knownBits_17 : decode cX11_knownBits 17 = .ok (.aload_n 0, 1) := by decide +kernel
theorem dX11_knownBits_18 : decode cX11_knownBits 18 = .ok (.getfield 97, 3) := by decide +kernel
theorem dX11_knownBits_21 : decode cX11_knownBits 21 = .ok (.bipush 36, 2) := by decide +kernel
theorem dX11_knownBits_23 : decode cX11_knownBits 23 = .ok (.iload_n 1, 1) := by decide +kernel
theorem dX11_knownBits_24 : decode cX11_knownBits 24 = .ok (.imul, 1) := by decide +kernel
theorem dX11_knownBits_25 : decode cX11_knownBits 25 = .ok (.iload_n 3, 1) := by decide +kernel
theorem dX11_knownBits_26 : decode cX11_knownBits 26 = .ok (.ifCond .eq 13, 3) := by decide +kernel
theorem dX11_knownBits_29 : decode cX11_knownBits 29 = .ok (.bipush 6, 2) := by decide +kernel
theorem dX11_knownBits_31 : decode cX11_knownBits 31 = .ok (.iload 5, 2) := by decide +kernel
theorem dX11_knownBits_33 : decode cX11_knownBits 33 = .ok (.imul, 1) := by decide +kernel
theorem dX11_knownBits_34 : decode cX11_knownBits 34 = .ok (.iload_n 2, 1) := by decide +kernel
theorem dX11_knownBits_35 : decode cX11_knownBits 35 = .ok (.iadd, 1) := by decide +kernel
theorem dX11_knownBits_36 : decode cX11_knownBits 36 = .ok (.goto 10, 3) := by decide +kernel
theorem dX11_knownBits_39 : decode cX11_knownBits 39 = .ok (.bipush 6, 2) := by decide +kernel
theorem dX11_knownBits_41 : decode cX11_knownBits 41 = .ok (.iload_n 2, 1) := by decide +kernel
theorem dX11_knownBits_42 : decode cX11_knownBits 42 = .ok (.imul, 1) := by decide +kernel
theorem dX11_knownBits_43 : decode cX11_knownBits 43 = .ok (.iload 5, 2) := by decide +kernel
theorem dX11_knownBits_45 : decode cX11_knownBits 45 = .ok (.iadd, 1) := by decide +kernel
theorem dX11_knownBits_46 : decode cX11_knownBits 46 = .ok (.iadd, 1) := by decide +kernel
theorem dX11_knownBits_47 : decode cX11_knownBits 47 = .ok (.baload, 1) := by decide +kernel
theorem dX11_knownBits_48 : decode cX11_knownBits 48 = .ok (.ifCond .eq 10, 3) := by decide +kernel
theorem dX11_knownBits_51 : decode cX11_knownBits 51 = .ok (.iconst 1, 1) := by decide +kernel
theorem dX11_knownBits_52 : decode cX11_knownBits 52 = .ok (.iload 5, 2) := by decide +kernel
theorem dX11_knownBits_54 : decode cX11_knownBits 54 = .ok (.ishl, 1) := by decide +kernel
theorem dX11_knownBits_55 : decode cX11_knownBits 55 = .ok (.goto 4, 3) := by decide +kernel
theorem dX11_knownBits_58 : decode cX11_knownBits 58 = .ok (.iconst 0, 1) := by decide +kernel
theorem dX11_knownBits_59 : decode cX11_knownBits 59 = .ok (.ior, 1) := by decide +kernel
theorem dX11_knownBits_60 : decode cX11_knownBits 60 = .ok (.istore 4, 2) := by decide +kernel
theorem dX11_knownBits_62 : decode cX11_knownBits 62 = .ok (.iinc 5 1, 3) := by decide +kernel
theorem dX11_knownBits_65 : decode cX11_knownBits 65 = .ok (.goto (-59), 3) := by decide +kernel
theorem dX11_knownBits_68 : decode cX11_knownBits 68 = .ok (.iload 4, 2) := by decide +kernel
theorem dX11_knownBits_70 : decode cX11_knownBits 70 = .ok (.ireturn, 1) := by decide +kernel
theorem dX11_house_0 : decode cX11_house 0 = .ok (.aload_n 0, 1) := by decide +kernel
theorem dX11_house_1 : decode cX11_house 1 = .ok (.iconst 0, 1) := by decide +kernel
theorem dX11_house_2 : decode cX11_house 2 = .ok (.putfield 124, 3) := by decide +kernel
theorem dX11_house_5 : decode cX11_house 5 = .ok (.aload_n 0, 1) := by decide +kernel
theorem dX11_house_6 : decode cX11_house 6 = .ok (.iload_n 1, 1) := by decide +kernel
theorem dX11_house_7 : decode cX11_house 7 = .ok (.invokevirtual 352, 3) := by decide +kernel
theorem dX11_house_10 : decode cX11_house 10 = .ok (.ifCond .ne 9, 3) := by decide +kernel
theorem dX11_house_13 : decode cX11_house 13 = .ok (.aload_n 0, 1) := by decide +kernel
theorem dX11_house_14 : decode cX11_house 14 = .ok (.iconst 1, 1) := by decide +kernel
theorem dX11_house_15 : decode cX11_house 15 = .ok (.invokevirtual 400, 3) := by decide +kernel
theorem dX11_house_18 : decode cX11_house 18 = .ok (.ireturn, 1) := by decide +kernel
theorem dX11_house_19 : decode cX11_house 19 = .ok (.aload_n 0, 1) := by decide +kernel
theorem dX11_house_20 : decode cX11_house 20 = .ok (.invokevirtual 322, 3) := by decide +kernel
theorem dX11_house_23 : decode cX11_house 23 = .ok (.iload_n 2, 1) := by decide +kernel
theorem dX11_house_24 : decode cX11_house 24 = .ok (.tableswitch 95 0 6 #[44, 51, 58, 65, 72, 80, 88], 44) := by decide +kernel
theorem dX11_house_68 : decode cX11_house 68 = .ok (.aload_n 0, 1) := by decide +kernel
theorem dX11_house_69 : decode cX11_house 69 = .ok (.getfield 85, 3) := by decide +kernel
theorem dX11_house_72 : decode cX11_house 72 = .ok (.iload_n 1, 1) := by decide +kernel
theorem dX11_house_73 : decode cX11_house 73 = .ok (.iaload, 1) := by decide +kernel
theorem dX11_house_74 : decode cX11_house 74 = .ok (.ireturn, 1) := by decide +kernel
theorem dX11_house_75 : decode cX11_house 75 = .ok (.aload_n 0, 1) := by decide +kernel
theorem dX11_house_76 : decode cX11_house 76 = .ok (.getfield 88, 3) := by decide +kernel
theorem dX11_house_79 : decode cX11_house 79 = .ok (.iload_n 1, 1) := by decide +kernel
theorem dX11_house_80 : decode cX11_house 80 = .ok (.iaload, 1) := by decide +kernel
theorem dX11_house_81 : decode cX11_house 81 = .ok (.ireturn, 1) := by decide +kernel
theorem dX11_house_82 : decode cX11_house 82 = .ok (.aload_n 0, 1) := by decide +kernel
theorem dX11_house_83 : decode cX11_house 83 = .ok (.iconst 0, 1) := by decide +kernel
theorem dX11_house_84 : decode cX11_house 84 = .ok (.iload_n 1, 1) := by decide +kernel
theorem dX11_house_85 : decode cX11_house 85 = .ok (.invokevirtual 403, 3) := by decide +kernel
theorem dX11_house_88 : decode cX11_house 88 = .ok (.ireturn, 1) := by decide +kernel
theorem dX11_house_89 : decode cX11_house 89 = .ok (.aload_n 0, 1) := by decide +kernel
theorem dX11_house_90 : decode cX11_house 90 = .ok (.iconst 0, 1) := by decide +kernel
theorem dX11_house_91 : decode cX11_house 91 = .ok (.iload_n 1, 1) := by decide +kernel
theorem dX11_house_92 : decode cX11_house 92 = .ok (.invokevirtual 406, 3) := by decide +kernel
theorem dX11_house_95 : decode cX11_house 95 = .ok (.ireturn, 1) := by decide +kernel
theorem dX11_house_96 : decode cX11_house 96 = .ok (.aload_n 0, 1) := by decide +kernel
theorem dX11_house_97 : decode cX11_house 97 = .ok (.iconst 0, 1) := by decide +kernel
theorem dX11_house_98 : decode cX11_house 98 = .ok (.iload_n 1, 1) := by decide +kernel
theorem dX11_house_99 : decode cX11_house 99 = .ok (.iconst 0, 1) := by decide +kernel
theorem dX11_house_100 : decode cX11_house 100 = .ok (.invokevirtual 409, 3) := by decide +kernel
theorem dX11_house_103 : decode cX11_house 103 = .ok (.ireturn, 1) := by decide +kernel
theorem dX11_house_104 : decode cX11_house 104 = .ok (.aload_n 0, 1) := by decide +kernel
theorem dX11_house_105 : decode cX11_house 105 = .ok (.iconst 0, 1) := by decide +kernel
theorem dX11_house_106 : decode cX11_house 106 = .ok (.iload_n 1, 1) := by decide +kernel
theorem dX11_house_107 : decode cX11_house 107 = .ok (.iconst 1, 1) := by decide +kernel
theorem dX11_house_108 : decode cX11_house 108 = .ok (.invokevirtual 409, 3) := by decide +kernel
theorem dX11_house_111 : decode cX11_house 111 = .ok (.ireturn, 1) := by decide +kernel
theorem dX11_house_112 : decode cX11_house 112 = .ok (.aload_n 0, 1) := by decide +kernel
theorem dX11_house_113 : decode cX11_house 113 = .ok (.getfield 91, 3) := by decide +kernel
theorem dX11_house_116 : decode cX11_house 116 = .ok (.iload_n 1, 1) := by decide +kernel
theorem dX11_house_117 : decode cX11_house 117 = .ok (.iaload, 1) := by decide +kernel
theorem dX11_house_118 : decode cX11_house 118 = .ok (.ireturn, 1) := by decide +kernel
theorem dX11_house_119 : decode cX11_house 119 = .ok (.aload_n 0, 1) := by decide +kernel
theorem dX11_house_120 : decode cX11_house 120 = .ok (.iconst 2, 1) := by decide +kernel
theorem dX11_house_121 : decode cX11_house 121 = .ok (.invokevirtual 400, 3) := by decide +kernel
theorem dX11_house_124 : decode cX11_house 124 = .ok (.ireturn, 1) := by decide +kernel
theorem dX11_heard_0 : decode cX11_heard 0 = .ok (.aload_n 0, 1) := by decide +kernel
theorem dX11_heard_1 : decode cX11_heard 1 = .ok (.iconst 0, 1) := by decide +kernel
theorem dX11_heard_2 : decode cX11_heard 2 = .ok (.putfield 124, 3) := by decide +kernel
theorem dX11_heard_5 : decode cX11_heard 5 = .ok (.aload_n 0, 1) := by decide +kernel
theorem dX11_heard_6 : decode cX11_heard 6 = .ok (.iload_n 1, 1) := by decide +kernel
theorem dX11_heard_7 : decode cX11_heard 7 = .ok (.iload_n 2, 1) := by decide +kernel
theorem dX11_heard_8 : decode cX11_heard 8 = .ok (.invokevirtual 413, 3) := by decide +kernel
theorem dX11_heard_11 : decode cX11_heard 11 = .ok (.ifCond .eq 17, 3) := by decide +kernel
theorem dX11_heard_14 : decode cX11_heard 14 = .ok (.aload_n 0, 1) := by decide +kernel
theorem dX11_heard_15 : decode cX11_heard 15 = .ok (.getfield 94, 3) := by decide +kernel
theorem dX11_heard_18 : decode cX11_heard 18 = .ok (.bipush 6, 2) := by decide +kernel
theorem dX11_heard_20 : decode cX11_heard 20 = .ok (.iload_n 1, 1) := by decide +kernel
theorem dX11_heard_21 : decode cX11_heard 21 = .ok (.imul, 1) := by decide +kernel
theorem dX11_heard_22 : decode cX11_heard 22 = .ok (.iload_n 2, 1) := by decide +kernel
theorem dX11_heard_23 : decode cX11_heard 23 = .ok (.iadd, 1) := by decide +kernel
theorem dX11_heard_24 : decode cX11_heard 24 = .ok (.iaload, 1) := by decide +kernel
theorem dX11_heard_25 : decode cX11_heard 25 = .ok (.goto 4, 3) := by decide +kernel
theorem dX11_heard_28 : decode cX11_heard 28 = .ok (.iconst (-1), 1) := by decide +kernel
theorem dX11_heard_29 : decode cX11_heard 29 = .ok (.ireturn, 1) := by decide +kernel
theorem dX11_soundAt_0 : decode cX11_soundAt 0 = .ok (.iconst 0, 1) := by decide +kernel
theorem dX11_soundAt_1 : decode cX11_soundAt 1 = .ok (.istore_n 3, 1) := by decide +kernel
theorem dX11_soundAt_2 : decode cX11_soundAt 2 = .ok (.iload_n 3, 1) := by decide +kernel
theorem dX11_soundAt_3 : decode cX11_soundAt 3 = .ok (.aload_n 0, 1) := by decide +kernel
theorem dX11_soundAt_4 : decode cX11_soundAt 4 = .ok (.getfield 207, 3) := by decide +kernel
theorem dX11_soundAt_7 : decode cX11_soundAt 7 = .ok (.if_icmp .ge 36, 3) := by decide +kernel
theorem dX11_soundAt_10 : decode cX11_soundAt 10 = .ok (.aload_n 0, 1) := by decide +kernel
theorem dX11_soundAt_11 : decode cX11_soundAt 11 = .ok (.getfield 45, 3) := by decide +kernel
theorem dX11_soundAt_14 : decode cX11_soundAt 14 = .ok (.iload_n 3, 1) := by decide +kernel
theorem dX11_soundAt_15 : decode cX11_soundAt 15 = .ok (.iaload, 1) := by decide +kernel
theorem dX11_soundAt_16 : decode cX11_soundAt 16 = .ok (.iload_n 1, 1) := by decide +kernel
theorem dX11_soundAt_17 : decode cX11_soundAt 17 = .ok (.if_icmp .ne 20, 3) := by decide +kernel
theorem dX11_soundAt_20 : decode cX11_soundAt 20 = .ok (.aload_n 0, 1) := by decide +kernel
theorem dX11_soundAt_21 : decode cX11_soundAt 21 = .ok (.getfield 48, 3) := by decide +kernel
theorem dX11_soundAt_24 : decode cX11_soundAt 24 = .ok (.iload_n 3, 1) := by decide +kernel
theorem dX11_soundAt_25 : decode cX11_soundAt 25 = .ok (.iaload, 1) := by decide +kernel
theorem dX11_soundAt_26 : decode cX11_soundAt 26 = .ok (.iload_n 2, 1) := by decide +kernel
theorem dX11_soundAt_27 : decode cX11_soundAt 27 = .ok (.if_icmp .ne 10, 3) := by decide +kernel
theorem dX11_soundAt_30 : decode cX11_soundAt 30 = .ok (.aload_n 0, 1) := by decide +kernel
theorem dX11_soundAt_31 : decode cX11_soundAt 31 = .ok (.getfield 51, 3) := by decide +kernel
theorem dX11_soundAt_34 : decode cX11_soundAt 34 = .ok (.iload_n 3, 1) := by decide +kernel
theorem dX11_soundAt_35 : decode cX11_soundAt 35 = .ok (.iaload, 1) := by decide +kernel
theorem dX11_soundAt_36 : decode cX11_soundAt 36 = .ok (.ireturn, 1) := by decide +kernel
theorem dX11_soundAt_37 : decode cX11_soundAt 37 = .ok (.iinc 3 1, 3) := by decide +kernel
theorem dX11_soundAt_40 : decode cX11_soundAt 40 = .ok (.goto (-38), 3) := by decide +kernel
theorem dX11_soundAt_43 : decode cX11_soundAt 43 = .ok (.iconst 0, 1) := by decide +kernel
theorem dX11_soundAt_44 : decode cX11_soundAt 44 = .ok (.ireturn, 1) := by decide +kernel
theorem dX11_sound_0 : decode cX11_sound 0 = .ok (.aload_n 0, 1) := by decide +kernel
theorem dX11_sound_1 : decode cX11_sound 1 = .ok (.iconst 0, 1) := by decide +kernel
theorem dX11_sound_2 : decode cX11_sound 2 = .ok (.putfield 124, 3) := by decide +kernel
theorem dX11_sound_5 : decode cX11_sound 5 = .ok (.aload_n 0, 1) := by decide +kernel
theorem dX11_sound_6 : decode cX11_sound 6 = .ok (.iload_n 1, 1) := by decide +kernel
theorem dX11_sound_7 : decode cX11_sound 7 = .ok (.invokevirtual 352, 3) := by decide +kernel
theorem dX11_sound_10 : decode cX11_sound 10 = .ok (.ifCond .eq 22, 3) := by decide +kernel
theorem dX11_sound_13 : decode cX11_sound 13 = .ok (.iload_n 2, 1) := by decide +kernel
theorem dX11_sound_14 : decode cX11_sound 14 = .ok (.iconst 0, 1) := by decide +kernel
theorem dX11_sound_15 : decode cX11_sound 15 = .ok (.bipush 99, 2) := by decide +kernel
theorem dX11_sound_17 : decode cX11_sound 17 = .ok (.invokestatic 169, 3) := by decide +kernel
theorem dX11_sound_20 : decode cX11_sound 20 = .ok (.ifCond .eq 12, 3) := by decide +kernel
theorem dX11_sound_23 : decode cX11_sound 23 = .ok (.aload_n 0, 1) := by decide +kernel
theorem dX11_sound_24 : decode cX11_sound 24 = .ok (.iload_n 1, 1) := by decide +kernel
theorem dX11_sound_25 : decode cX11_sound 25 = .ok (.iload_n 2, 1) := by decide +kernel
theorem dX11_sound_26 : decode cX11_sound 26 = .ok (.invokevirtual 416, 3) := by decide +kernel
theorem dX11_sound_29 : decode cX11_sound 29 = .ok (.goto 4, 3) := by decide +kernel
theorem dX11_sound_32 : decode cX11_sound 32 = .ok (.iconst (-1), 1) := by decide +kernel
theorem dX11_sound_33 : decode cX11_sound 33 = .ok (.ireturn, 1) := by decide +kernel
theorem dX11_law_0 : decode cX11_law 0 = .ok (.aload_n 0, 1) := by decide +kernel
theorem dX11_law_1 : decode cX11_law 1 = .ok (.iconst 0, 1) := by decide +kernel
theorem dX11_law_2 : decode cX11_law 2 = .ok (.putfield 124, 3) := by decide +kernel
theorem dX11_law_5 : decode cX11_law 5 = .ok (.iload_n 1, 1) := by decide +kernel
theorem dX11_law_6 : decode cX11_law 6 = .ok (.iconst 0, 1) := by decide +kernel
theorem dX11_law_7 : decode cX11_law 7 = .ok (.iconst 2, 1) := by decide +kernel
theorem dX11_law_8 : decode cX11_law 8 = .ok (.invokestatic 169, 3) := by decide +kernel
theorem dX11_law_11 : decode cX11_law 11 = .ok (.ifCond .eq 34, 3) := by decide +kernel
theorem dX11_law_14 : decode cX11_law 14 = .ok (.aload_n 0, 1) := by decide +kernel
theorem dX11_law_15 : decode cX11_law 15 = .ok (.getfield 54, 3) := by decide +kernel
theorem dX11_law_18 : decode cX11_law 18 = .ok (.iload_n 1, 1) := by decide +kernel
theorem dX11_law_19 : decode cX11_law 19 = .ok (.baload, 1) := by decide +kernel
theorem dX11_law_20 : decode cX11_law 20 = .ok (.ifCond .eq 25, 3) := by decide +kernel
theorem dX11_law_23 : decode cX11_law 23 = .ok (.aload_n 0, 1) := by decide +kernel
theorem dX11_law_24 : decode cX11_law 24 = .ok (.iload_n 2, 1) := by decide +kernel
theorem dX11_law_25 : decode cX11_law 25 = .ok (.invokevirtual 352, 3) := by decide +kernel
theorem dX11_law_28 : decode cX11_law 28 = .ok (.ifCond .eq 17, 3) := by decide +kernel
theorem dX11_law_31 : decode cX11_law 31 = .ok (.iload_n 1, 1) := by decide +kernel
theorem dX11_law_32 : decode cX11_law 32 = .ok (.iconst 2, 1) := by decide +kernel
theorem dX11_law_33 : decode cX11_law 33 = .ok (.if_icmp .eq 16, 3) := by decide +kernel
theorem dX11_law_36 : decode cX11_law 36 = .ok (.aload_n 0, 1) := by decide +kernel
theorem dX11_law_37 : decode cX11_law 37 = .ok (.iload_n 2, 1) := by decide +kernel
theorem dX11_law_38 : decode cX11_law 38 = .ok (.iload_n 3, 1) := by decide +kernel
theorem dX11_law_39 : decode cX11_law 39 = .ok (.invokevirtual 413, 3) := by decide +kernel
theorem dX11_law_42 : decode cX11_law 42 = .ok (.ifCond .ne 7, 3) := by decide +kernel
theorem dX11_law_45 : decode cX11_law 45 = .ok (.ldc2_w 419, 3) := by decide +kernel
theorem dX11_law_48 : decode cX11_law 48 = .ok (.lreturn, 1) := by decide +kernel
theorem dX11_law_49 : decode cX11_law 49 = .ok (.aload_n 0, 1) := by decide +kernel
theorem dX11_law_50 : decode cX11_law 50 = .ok (.invokevirtual 322, 3) := by decide +kernel
theorem dX11_law_53 : decode cX11_law 53 = .ok (.aload_n 0, 1) := by decide +kernel
theorem dX11_law_54 : decode cX11_law 54 = .ok (.iconst 0, 1) := by decide +kernel
theorem dX11_law_55 : decode cX11_law 55 = .ok (.iload_n 2, 1) := by decide +kernel
theorem dX11_law_56 : decode cX11_law 56 = .ok (.iload_n 1, 1) := by decide +kernel
theorem dX11_law_57 : decode cX11_law 57 = .ok (.iconst 2, 1) := by decide +kernel
theorem dX11_law_58 : decode cX11_law 58 = .ok (.if_icmp .ne 7, 3) := by decide +kernel
theorem dX11_law_61 : decode cX11_law 61 = .ok (.iconst (-1), 1) := by decide +kernel
theorem dX11_law_62 : decode cX11_law 62 = .ok (.goto 4, 3) := by decide +kernel
theorem dX11_law_65 : decode cX11_law 65 = .ok (.iload_n 3, 1) := by decide +kernel
theorem dX11_law_66 : decode cX11_law 66 = .ok (.iconst 0, 1) := by decide +kernel
theorem dX11_law_67 : decode cX11_law 67 = .ok (.invokevirtual 368, 3) := by decide +kernel
theorem dX11_law_70 : decode cX11_law 70 = .ok (.aload_n 0, 1) := by decide +kernel
theorem dX11_law_71 : decode cX11_law 71 = .ok (.iload_n 1, 1) := by decide +kernel
theorem dX11_law_72 : decode cX11_law 72 = .ok (.invokevirtual 365, 3) := by decide +kernel
theorem dX11_law_75 : decode cX11_law 75 = .ok (.lstore 4, 2) := by decide +kernel
theorem dX11_law_77 : decode cX11_law 77 = .ok (.aload_n 0, 1) := by decide +kernel
theorem dX11_law_78 : decode cX11_law 78 = .ok (.getfield 296, 3) := by decide +kernel
theorem dX11_law_81 : decode cX11_law 81 = .ok (.ifCond .eq 9, 3) := by decide +kernel
theorem dX11_law_84 : decode cX11_law 84 = .ok (.ldc2_w 419, 3) := by decide +kernel
theorem dX11_law_87 : decode cX11_law 87 = .ok (.goto 5, 3) := by decide +kernel
theorem dX11_law_90 : decode cX11_law 90 = .ok (.lload 4, 2) := by decide +kernel
theorem dX11_law_92 : decode cX11_law 92 = .ok (.lreturn, 1) := by decide +kernel
theorem dX11_turn_0 : decode cX11_turn 0 = .ok (.aload_n 0, 1) := by decide +kernel
theorem dX11_turn_1 : decode cX11_turn 1 = .ok (.iconst 0, 1) := by decide +kernel
theorem dX11_turn_2 : decode cX11_turn 2 = .ok (.putfield 124, 3) := by decide +kernel
theorem dX11_turn_5 : decode cX11_turn 5 = .ok (.aload_n 0, 1) := by decide +kernel
theorem dX11_turn_6 : decode cX11_turn 6 = .ok (.iload_n 1, 1) := by decide +kernel
theorem dX11_turn_7 : decode cX11_turn 7 = .ok (.invokevirtual 352, 3) := by decide +kernel
theorem dX11_turn_10 : decode cX11_turn 10 = .ok (.ifCond .eq 23, 3) := by decide +kernel
theorem dX11_turn_13 : decode cX11_turn 13 = .ok (.iload_n 2, 1) := by decide +kernel
theorem dX11_turn_14 : decode cX11_turn 14 = .ok (.iconst 0, 1) := by decide +kernel
theorem dX11_turn_15 : decode cX11_turn 15 = .ok (.bipush 99, 2) := by decide +kernel
theorem dX11_turn_17 : decode cX11_turn 17 = .ok (.invokestatic 169, 3) := by decide +kernel
theorem dX11_turn_20 : decode cX11_turn 20 = .ok (.ifCond .eq 13, 3) := by decide +kernel
theorem dX11_turn_23 : decode cX11_turn 23 = .ok (.aload_n 0, 1) := by decide +kernel
theorem dX11_turn_24 : decode cX11_turn 24 = .ok (.getfield 85, 3) := by decide +kernel
theorem dX11_turn_27 : decode cX11_turn 27 = .ok (.iload_n 1, 1) := by decide +kernel
theorem dX11_turn_28 : decode cX11_turn 28 = .ok (.iaload, 1) := by decide +kernel
theorem dX11_turn_29 : decode cX11_turn 29 = .ok (.iload_n 2, 1) := by decide +kernel
theorem dX11_turn_30 : decode cX11_turn 30 = .ok (.if_icmp .ne 5, 3) := by decide +kernel
theorem dX11_turn_33 : decode cX11_turn 33 = .ok (.iconst 0, 1) := by decide +kernel
theorem dX11_turn_34 : decode cX11_turn 34 = .ok (.ireturn, 1) := by decide +kernel
theorem dX11_turn_35 : decode cX11_turn 35 = .ok (.aload_n 0, 1) := by decide +kernel
theorem dX11_turn_36 : decode cX11_turn 36 = .ok (.invokevirtual 421, 3) := by decide +kernel
theorem dX11_turn_39 : decode cX11_turn 39 = .ok (.aload_n 0, 1) := by decide +kernel
theorem dX11_turn_40 : decode cX11_turn 40 = .ok (.getfield 85, 3) := by decide +kernel
theorem dX11_turn_43 : decode cX11_turn 43 = .ok (.iload_n 1, 1) := by decide +kernel
theorem dX11_turn_44 : decode cX11_turn 44 = .ok (.iload_n 2, 1) := by decide +kernel
theorem dX11_turn_45 : decode cX11_turn 45 = .ok (.iastore, 1) := by decide +kernel
theorem dX11_turn_46 : decode cX11_turn 46 = .ok (.iconst 1, 1) := by decide +kernel
theorem dX11_turn_47 : decode cX11_turn 47 = .ok (.ireturn, 1) := by decide +kernel
theorem dX11_make_0 : decode cX11_make 0 = .ok (.aload_n 0, 1) := by decide +kernel
theorem dX11_make_1 : decode cX11_make 1 = .ok (.iconst 0, 1) := by decide +kernel
theorem dX11_make_2 : decode cX11_make 2 = .ok (.putfield 124, 3) := by decide +kernel
theorem dX11_make_5 : decode cX11_make 5 = .ok (.aload_n 0, 1) := by decide +kernel
theorem dX11_make_6 : decode cX11_make 6 = .ok (.iload_n 1, 1) := by decide +kernel
theorem dX11_make_7 : decode cX11_make 7 = .ok (.invokevirtual 352, 3) := by decide +kernel
theorem dX11_make_10 : decode cX11_make 10 = .ok (.ifCond .eq 13, 3) := by decide +kernel
theorem dX11_make_13 : decode cX11_make 13 = .ok (.iload_n 2, 1) := by decide +kernel
theorem dX11_make_14 : decode cX11_make 14 = .ok (.iconst 1, 1) := by decide +kernel
theorem dX11_make_15 : decode cX11_make 15 = .ok (.bipush 9, 2) := by decide +kernel
theorem dX11_make_17 : decode cX11_make 17 = .ok (.invokestatic 169, 3) := by decide +kernel
theorem dX11_make_20 : decode cX11_make 20 = .ok (.ifCond .ne 5, 3) := by decide +kernel
theorem dX11_make_23 : decode cX11_make 23 = .ok (.iconst (-1), 1) := by decide +kernel
theorem dX11_make_24 : decode cX11_make 24 = .ok (.ireturn, 1) := by decide +kernel
theorem dX11_make_25 : decode cX11_make 25 = .ok (.aload_n 0, 1) := by decide +kernel
theorem dX11_make_26 : decode cX11_make 26 = .ok (.invokevirtual 322, 3) := by decide +kernel
theorem dX11_make_29 : decode cX11_make 29 = .ok (.aload_n 0, 1) := by decide +kernel
theorem dX11_make_30 : decode cX11_make 30 = .ok (.invokevirtual 421, 3) := by decide +kernel
theorem dX11_make_33 : decode cX11_make 33 = .ok (.aload_n 0, 1) := by decide +kernel
theorem dX11_make_34 : decode cX11_make 34 = .ok (.iconst 0, 1) := by decide +kernel
theorem dX11_make_35 : decode cX11_make 35 = .ok (.iload_n 1, 1) := by decide +kernel
theorem dX11_make_36 : decode cX11_make 36 = .ok (.iload_n 2, 1) := by decide +kernel
theorem dX11_make_37 : decode cX11_make 37 = .ok (.invokevirtual 390, 3) := by decide +kernel
theorem dX11_make_40 : decode cX11_make 40 = .ok (.ireturn, 1) := by decide +kernel
theorem dX11_valve_0 : decode cX11_valve 0 = .ok (.aload_n 0, 1) := by decide +kernel
theorem dX11_valve_1 : decode cX11_valve 1 = .ok (.iconst 0, 1) := by decide +kernel
theorem dX11_valve_2 : decode cX11_valve 2 = .ok (.putfield 124, 3) := by decide +kernel
theorem dX11_valve_5 : decode cX11_valve 5 = .ok (.aload_n 0, 1) := by decide +kernel
theorem dX11_valve_6 : decode cX11_valve 6 = .ok (.iload_n 1, 1) := by decide +kernel
theorem dX11_valve_7 : decode cX11_valve 7 = .ok (.invokevirtual 352, 3) := by decide +kernel
theorem dX11_valve_10 : decode cX11_valve 10 = .ok (.ifCond .ne 5, 3) := by decide +kernel
theorem dX11_valve_13 : decode cX11_valve 13 = .ok (.iconst (-1), 1) := by decide +kernel
theorem dX11_valve_14 : decode cX11_valve 14 = .ok (.ireturn, 1) := by decide +kernel
theorem dX11_valve_15 : decode cX11_valve 15 = .ok (.aload_n 0, 1) := by decide +kernel
theorem dX11_valve_16 : decode cX11_valve 16 = .ok (.getfield 88, 3) := by decide +kernel
theorem dX11_valve_19 : decode cX11_valve 19 = .ok (.iload_n 1, 1) := by decide +kernel
theorem dX11_valve_20 : decode cX11_valve 20 = .ok (.iaload, 1) := by decide +kernel
theorem dX11_valve_21 : decode cX11_valve 21 = .ok (.aload_n 0, 1) := by decide +kernel
theorem dX11_valve_22 : decode cX11_valve 22 = .ok (.getfield 33, 3) := by decide +kernel
theorem dX11_valve_25 : decode cX11_valve 25 = .ok (.iload_n 1, 1) := by decide +kernel
theorem dX11_valve_26 : decode cX11_valve 26 = .ok (.iaload, 1) := by decide +kernel
theorem dX11_valve_27 : decode cX11_valve 27 = .ok (.if_icmp .ne 6, 3) := by decide +kernel
theorem dX11_valve_30 : decode cX11_valve 30 = .ok (.bipush (-2), 2) := by decide +kernel
theorem dX11_valve_32 : decode cX11_valve 32 = .ok (.ireturn, 1) := by decide +kernel
theorem dX11_valve_33 : decode cX11_valve 33 = .ok (.aload_n 0, 1) := by decide +kernel
theorem dX11_valve_34 : decode cX11_valve 34 = .ok (.invokevirtual 421, 3) := by decide +kernel
theorem dX11_valve_37 : decode cX11_valve 37 = .ok (.aload_n 0, 1) := by decide +kernel
theorem dX11_valve_38 : decode cX11_valve 38 = .ok (.getfield 88, 3) := by decide +kernel
theorem dX11_valve_41 : decode cX11_valve 41 = .ok (.iload_n 1, 1) := by decide +kernel
theorem dX11_valve_42 : decode cX11_valve 42 = .ok (.aload_n 0, 1) := by decide +kernel
theorem dX11_valve_43 : decode cX11_valve 43 = .ok (.getfield 33, 3) := by decide +kernel
theorem dX11_valve_46 : decode cX11_valve 46 = .ok (.iload_n 1, 1) := by decide +kernel
theorem dX11_valve_47 : decode cX11_valve 47 = .ok (.iaload, 1) := by decide +kernel
theorem dX11_valve_48 : decode cX11_valve 48 = .ok (.iastore, 1) := by decide +kernel
theorem dX11_valve_49 : decode cX11_valve 49 = .ok (.aload_n 0, 1) := by decide +kernel
theorem dX11_valve_50 : decode cX11_valve 50 = .ok (.getfield 88, 3) := by decide +kernel
theorem dX11_valve_53 : decode cX11_valve 53 = .ok (.iload_n 1, 1) := by decide +kernel
theorem dX11_valve_54 : decode cX11_valve 54 = .ok (.iaload, 1) := by decide +kernel
theorem dX11_valve_55 : decode cX11_valve 55 = .ok (.ireturn, 1) := by decide +kernel
theorem dX11_go_0 : decode cX11_go 0 = .ok (.aload_n 0, 1) := by decide +kernel
theorem dX11_go_1 : decode cX11_go 1 = .ok (.iconst 0, 1) := by decide +kernel
theorem dX11_go_2 : decode cX11_go 2 = .ok (.putfield 124, 3) := by decide +kernel
theorem dX11_go_5 : decode cX11_go 5 = .ok (.iload_n 1, 1) := by decide +kernel
theorem dX11_go_6 : decode cX11_go 6 = .ok (.iconst 0, 1) := by decide +kernel
theorem dX11_go_7 : decode cX11_go 7 = .ok (.bipush 99, 2) := by decide +kernel
theorem dX11_go_9 : decode cX11_go 9 = .ok (.invokestatic 169, 3) := by decide +kernel
theorem dX11_go_12 : decode cX11_go 12 = .ok (.ifCond .eq 17, 3) := by decide +kernel
theorem dX11_go_15 : decode cX11_go 15 = .ok (.aload_n 0, 1) := by decide +kernel
theorem dX11_go_16 : decode cX11_go 16 = .ok (.getfield 100, 3) := by decide +kernel
theorem dX11_go_19 : decode cX11_go 19 = .ok (.iconst 0, 1) := by decide +kernel
theorem dX11_go_20 : decode cX11_go 20 = .ok (.iaload, 1) := by decide +kernel
theorem dX11_go_21 : decode cX11_go 21 = .ok (.iload_n 1, 1) := by decide +kernel
theorem dX11_go_22 : decode cX11_go 22 = .ok (.iadd, 1) := by decide +kernel
theorem dX11_go_23 : decode cX11_go 23 = .ok (.sipush 9000, 3) := by decide +kernel
theorem dX11_go_26 : decode cX11_go 26 = .ok (.if_icmp .le 5, 3) := by decide +kernel
theorem dX11_go_29 : decode cX11_go 29 = .ok (.iconst (-1), 1) := by decide +kernel
theorem dX11_go_30 : decode cX11_go 30 = .ok (.ireturn, 1) := by decide +kernel
theorem dX11_go_31 : decode cX11_go 31 = .ok (.aload_n 0, 1) := by decide +kernel
theorem dX11_go_32 : decode cX11_go 32 = .ok (.invokevirtual 322, 3) := by decide +kernel
theorem dX11_go_35 : decode cX11_go 35 = .ok (.aload_n 0, 1) := by decide +kernel
theorem dX11_go_36 : decode cX11_go 36 = .ok (.iconst 1, 1) := by decide +kernel
theorem dX11_go_37 : decode cX11_go 37 = .ok (.putfield 334, 3) := by decide +kernel
theorem dX11_go_40 : decode cX11_go 40 = .ok (.iconst 0, 1) := by decide +kernel
theorem dX11_go_41 : decode cX11_go 41 = .ok (.istore_n 2, 1) := by decide +kernel
theorem dX11_go_42 : decode cX11_go 42 = .ok (.iload_n 2, 1) := by decide +kernel
theorem dX11_go_43 : decode cX11_go 43 = .ok (.iload_n 1, 1) := by decide +kernel
theorem dX11_go_44 : decode cX11_go 44 = .ok (.if_icmp .ge 14, 3) := by decide +kernel
theorem dX11_go_47 : decode cX11_go 47 = .ok (.aload_n 0, 1) := by decide +kernel
theorem dX11_go_48 : decode cX11_go 48 = .ok (.iconst 0, 1) := by decide +kernel
theorem dX11_go_49 : decode cX11_go 49 = .ok (.invokevirtual 397, 3) := by decide +kernel
theorem dX11_go_52 : decode cX11_go 52 = .ok (.iinc 2 1, 3) := by decide +kernel
theorem dX11_go_55 : decode cX11_go 55 = .ok (.goto (-13), 3) := by decide +kernel
theorem dX11_go_58 : decode cX11_go 58 = .ok (.aload_n 0, 1) := by decide +kernel
theorem dX11_go_59 : decode cX11_go 59 = .ok (.iconst 0, 1) := by decide +kernel
theorem dX11_go_60 : decode cX11_go 60 = .ok (.putfield 334, 3) := by decide +kernel
theorem dX11_go_63 : decode cX11_go 63 = .ok (.aload_n 0, 1) := by decide +kernel
theorem dX11_go_64 : decode cX11_go 64 = .ok (.iload_n 1, 1) := by decide +kernel
theorem dX11_go_65 : decode cX11_go 65 = .ok (.ifCond .le 7, 3) := by decide +kernel
theorem dX11_go_68 : decode cX11_go 68 = .ok (.iconst 0, 1) := by decide +kernel
theorem dX11_go_69 : decode cX11_go 69 = .ok (.goto 7, 3) := by decide +kernel
theorem dX11_go_72 : decode cX11_go 72 = .ok (.aload_n 0, 1) := by decide +kernel
theorem dX11_go_73 : decode cX11_go 73 = .ok (.getfield 328, 3) := by decide +kernel
theorem dX11_go_76 : decode cX11_go 76 = .ok (.putfield 328, 3) := by decide +kernel
theorem dX11_go_79 : decode cX11_go 79 = .ok (.aload_n 0, 1) := by decide +kernel
theorem dX11_go_80 : decode cX11_go 80 = .ok (.getfield 100, 3) := by decide +kernel
theorem dX11_go_83 : decode cX11_go 83 = .ok (.iconst 0, 1) := by decide +kernel
theorem dX11_go_84 : decode cX11_go 84 = .ok (.iaload, 1) := by decide +kernel
theorem dX11_go_85 : decode cX11_go 85 = .ok (.ireturn, 1) := by decide +kernel
theorem dX11_ahead_0 : decode cX11_ahead 0 = .ok (.aload_n 0, 1) := by decide +kernel
theorem dX11_ahead_1 : decode cX11_ahead 1 = .ok (.iconst 0, 1) := by decide +kernel
theorem dX11_ahead_2 : decode cX11_ahead 2 = .ok (.putfield 124, 3) := by decide +kernel
theorem dX11_ahead_5 : decode cX11_ahead 5 = .ok (.iload_n 1, 1) := by decide +kernel
theorem dX11_ahead_6 : decode cX11_ahead 6 = .ok (.iconst 0, 1) := by decide +kernel
theorem dX11_ahead_7 : decode cX11_ahead 7 = .ok (.bipush 99, 2) := by decide +kernel
theorem dX11_ahead_9 : decode cX11_ahead 9 = .ok (.invokestatic 169, 3) := by decide +kernel
theorem dX11_ahead_12 : decode cX11_ahead 12 = .ok (.ifCond .eq 25, 3) := by decide +kernel
theorem dX11_ahead_15 : decode cX11_ahead 15 = .ok (.iload_n 2, 1) := by decide +kernel
theorem dX11_ahead_16 : decode cX11_ahead 16 = .ok (.iconst 0, 1) := by decide +kernel
theorem dX11_ahead_17 : decode cX11_ahead 17 = .ok (.iconst 3, 1) := by decide +kernel
theorem dX11_ahead_18 : decode cX11_ahead 18 = .ok (.invokestatic 169, 3) := by decide +kernel
theorem dX11_ahead_21 : decode cX11_ahead 21 = .ok (.ifCond .eq 16, 3) := by decide +kernel
theorem dX11_ahead_24 : decode cX11_ahead 24 = .ok (.iload_n 2, 1) := by decide +kernel
theorem dX11_ahead_25 : decode cX11_ahead 25 = .ok (.iconst 1, 1) := by decide +kernel
theorem dX11_ahead_26 : decode cX11_ahead 26 = .ok (.if_icmp .le 13, 3) := by decide +kernel
theorem dX11_ahead_29 : decode cX11_ahead 29 = .ok (.aload_n 0, 1) := by decide +kernel
theorem dX11_ahead_30 : decode cX11_ahead 30 = .ok (.iload_n 3, 1) := by decide +kernel
theorem dX11_ahead_31 : decode cX11_ahead 31 = .ok (.invokevirtual 352, 3) := by decide +kernel
theorem dX11_ahead_34 : decode cX11_ahead 34 = .ok (.ifCond .ne 5, 3) := by decide +kernel
theorem dX11_ahead_37 : decode cX11_ahead 37 = .ok (.iconst (-1), 1) := by decide +kernel
theorem dX11_ahead_38 : decode cX11_ahead 38 = .ok (.ireturn, 1) := by decide +kernel
theorem dX11_ahead_39 : decode cX11_ahead 39 = .ok (.aload_n 0, 1) := by decide +kernel
theorem dX11_ahead_40 : decode cX11_ahead 40 = .ok (.invokevirtual 424, 3) := by decide +kernel
theorem dX11_ahead_43 : decode cX11_ahead 43 = .ok (.aload_n 0, 1) := by decide +kernel
theorem dX11_ahead_44 : decode cX11_ahead 44 = .ok (.iload_n 1, 1) := by decide +kernel
theorem dX11_ahead_45 : decode cX11_ahead 45 = .ok (.invokevirtual 427, 3) := by decide +kernel
theorem dX11_ahead_48 : decode cX11_ahead 48 = .ok (.iload_n 2, 1) := by decide +kernel
theorem dX11_ahead_49 : decode cX11_ahead 49 = .ok (.tableswitch 61 0 2 #[27, 39, 51], 27) := by decide +kernel
theorem dX11_ahead_76 : decode cX11_ahead 76 = .ok (.aload_n 0, 1) := by decide +kernel
theorem dX11_ahead_77 : decode cX11_ahead 77 = .ok (.iconst 1, 1) := by decide +kernel
theorem dX11_ahead_78 : decode cX11_ahead 78 = .ok (.invokevirtual 430, 3) := by decide +kernel
theorem dX11_ahead_81 : decode cX11_ahead 81 = .ok (.aload_n 0, 1) := by decide +kernel
theorem dX11_ahead_82 : decode cX11_ahead 82 = .ok (.iconst 0, 1) := by decide +kernel
theorem dX11_ahead_83 : decode cX11_ahead 83 = .ok (.invokevirtual 430, 3) := by decide +kernel
theorem dX11_ahead_86 : decode cX11_ahead 86 = .ok (.isub, 1) := by decide +kernel
theorem dX11_ahead_87 : decode cX11_ahead 87 = .ok (.ireturn, 1) := by decide +kernel
theorem dX11_ahead_88 : decode cX11_ahead 88 = .ok (.aload_n 0, 1) := by decide +kernel
theorem dX11_ahead_89 : decode cX11_ahead 89 = .ok (.iconst 1, 1) := by decide +kernel
theorem dX11_ahead_90 : decode cX11_ahead 90 = .ok (.invokevirtual 433, 3) := by decide +kernel
theorem dX11_ahead_93 : decode cX11_ahead 93 = .ok (.aload_n 0, 1) := by decide +kernel
theorem dX11_ahead_94 : decode cX11_ahead 94 = .ok (.iconst 0, 1) := by decide +kernel
theorem dX11_ahead_95 : decode cX11_ahead 95 = .ok (.invokevirtual 433, 3) := by decide +kernel
theorem dX11_ahead_98 : decode cX11_ahead 98 = .ok (.isub, 1) := by decide +kernel
theorem dX11_ahead_99 : decode cX11_ahead 99 = .ok (.ireturn, 1) := by decide +kernel
theorem dX11_ahead_100 : decode cX11_ahead 100 = .ok (.aload_n 0, 1) := by decide +kernel
theorem dX11_ahead_101 : decode cX11_ahead 101 = .ok (.getfield 85, 3) := by decide +kernel
theorem dX11_ahead_104 : decode cX11_ahead 104 = .ok (.bipush 6, 2) := by decide +kernel
theorem dX11_ahead_106 : decode cX11_ahead 106 = .ok (.iload_n 3, 1) := by decide +kernel
theorem dX11_ahead_107 : decode cX11_ahead 107 = .ok (.iadd, 1) := by decide +kernel
theorem dX11_ahead_108 : decode cX11_ahead 108 = .ok (.iaload, 1) := by decide +kernel
theorem dX11_ahead_109 : decode cX11_ahead 109 = .ok (.ireturn, 1) := by decide +kernel
theorem dX11_ahead_110 : decode cX11_ahead 110 = .ok (.aload_n 0, 1) := by decide +kernel
theorem dX11_ahead_111 : decode cX11_ahead 111 = .ok (.getfield 88, 3) := by decide +kernel
theorem dX11_ahead_114 : decode cX11_ahead 114 = .ok (.bipush 6, 2) := by decide +kernel
theorem dX11_ahead_116 : decode cX11_ahead 116 = .ok (.iload_n 3, 1) := by decide +kernel
theorem dX11_ahead_117 : decode cX11_ahead 117 = .ok (.iadd, 1) := by decide +kernel
theorem dX11_ahead_118 : decode cX11_ahead 118 = .ok (.iaload, 1) := by decide +kernel
theorem dX11_ahead_119 : decode cX11_ahead 119 = .ok (.ireturn, 1) := by decide +kernel
theorem dX11_first_0 : decode cX11_first 0 = .ok (.aload_n 0, 1) := by decide +kernel
theorem dX11_first_1 : decode cX11_first 1 = .ok (.iconst 0, 1) := by decide +kernel
theorem dX11_first_2 : decode cX11_first 2 = .ok (.putfield 124, 3) := by decide +kernel
theorem dX11_first_5 : decode cX11_first 5 = .ok (.iload_n 1, 1) := by decide +kernel
theorem dX11_first_6 : decode cX11_first 6 = .ok (.iconst 0, 1) := by decide +kernel
theorem dX11_first_7 : decode cX11_first 7 = .ok (.iconst 1, 1) := by decide +kernel
theorem dX11_first_8 : decode cX11_first 8 = .ok (.invokestatic 169, 3) := by decide +kernel
theorem dX11_first_11 : decode cX11_first 11 = .ok (.ifCond .ne 5, 3) := by decide +kernel
theorem dX11_first_14 : decode cX11_first 14 = .ok (.iconst (-1), 1) := by decide +kernel
theorem dX11_first_15 : decode cX11_first 15 = .ok (.ireturn, 1) := by decide +kernel
theorem dX11_first_16 : decode cX11_first 16 = .ok (.aload_n 0, 1) := by decide +kernel
theorem dX11_first_17 : decode cX11_first 17 = .ok (.invokevirtual 424, 3) := by decide +kernel
theorem dX11_first_20 : decode cX11_first 20 = .ok (.iconst 0, 1) := by decide +kernel
theorem dX11_first_21 : decode cX11_first 21 = .ok (.istore_n 2, 1) := by decide +kernel
theorem dX11_first_22 : decode cX11_first 22 = .ok (.iload_n 2, 1) := by decide +kernel
theorem dX11_first_23 : decode cX11_first 23 = .ok (.bipush 99, 2) := by decide +kernel
theorem dX11_first_25 : decode cX11_first 25 = .ok (.if_icmp .gt 102, 3) := by decide +kernel
theorem dX11_first_28 : decode cX11_first 28 = .ok (.iconst 0, 1) := by decide +kernel
theorem dX11_first_29 : decode cX11_first 29 = .ok (.istore_n 3, 1) := by decide +kernel
theorem dX11_first_30 : decode cX11_first 30 = .ok (.iload_n 3, 1) := by decide +kernel
theorem dX11_first_31 : decode cX11_first 31 = .ok (.aload_n 0, 1) := by decide +kernel
theorem dX11_first_32 : decode cX11_first 32 = .ok (.getfield 201, 3) := by decide +kernel
theorem dX11_first_35 : decode cX11_first 35 = .ok (.if_icmp .ge 81, 3) := by decide +kernel
theorem dX11_first_38 : decode cX11_first 38 = .ok (.iload_n 3, 1) := by decide +kernel
theorem dX11_first_39 : decode cX11_first 39 = .ok (.iconst 1, 1) := by decide +kernel
theorem dX11_first_40 : decode cX11_first 40 = .ok (.iadd, 1) := by decide +kernel
theorem dX11_first_41 : decode cX11_first 41 = .ok (.istore 4, 2) := by decide +kernel
theorem dX11_first_43 : decode cX11_first 43 = .ok (.iload 4, 2) := by decide +kernel
theorem dX11_first_45 : decode cX11_first 45 = .ok (.aload_n 0, 1) := by decide +kernel
theorem dX11_first_46 : decode cX11_first 46 = .ok (.getfield 201, 3) := by decide +kernel
theorem dX11_first_49 : decode cX11_first 49 = .ok (.if_icmp .ge 61, 3) := by decide +kernel
theorem dX11_first_52 : decode cX11_first 52 = .ok (.aload_n 0, 1) := by decide +kernel
theorem dX11_first_53 : decode cX11_first 53 = .ok (.getfield 97, 3) := by decide +kernel
theorem dX11_first_56 : decode cX11_first 56 = .ok (.bipush 36, 2) := by decide +kernel
theorem dX11_first_58 : decode cX11_first 58 = .ok (.bipush 6, 2) := by decide +kernel
theorem dX11_first_60 : decode cX11_first 60 = .ok (.iload_n 3, 1) := by decide +kernel
theorem dX11_first_61 : decode cX11_first 61 = .ok (.imul, 1) := by decide +kernel
theorem dX11_first_62 : decode cX11_first 62 = .ok (.iadd, 1) := by decide +kernel
theorem dX11_first_63 : decode cX11_first 63 = .ok (.iload 4, 2) := by decide +kernel
theorem dX11_first_65 : decode cX11_first 65 = .ok (.iadd, 1) := by decide +kernel
theorem dX11_first_66 : decode cX11_first 66 = .ok (.baload, 1) := by decide +kernel
theorem dX11_first_67 : decode cX11_first 67 = .ok (.ifCond .eq 37, 3) := by decide +kernel
theorem dX11_first_70 : decode cX11_first 70 = .ok (.aload_n 0, 1) := by decide +kernel
theorem dX11_first_71 : decode cX11_first 71 = .ok (.getfield 97, 3) := by decide +kernel
theorem dX11_first_74 : decode cX11_first 74 = .ok (.bipush 36, 2) := by decide +kernel
theorem dX11_first_76 : decode cX11_first 76 = .ok (.bipush 6, 2) := by decide +kernel
theorem dX11_first_78 : decode cX11_first 78 = .ok (.iload 4, 2) := by decide +kernel
theorem dX11_first_80 : decode cX11_first 80 = .ok (.imul, 1) := by decide +kernel
theorem dX11_first_81 : decode cX11_first 81 = .ok (.iadd, 1) := by decide +kernel
theorem dX11_first_82 : decode cX11_first 82 = .ok (.iload_n 3, 1) := by decide +kernel
theorem dX11_first_83 : decode cX11_first 83 = .ok (.iadd, 1) := by decide +kernel
theorem dX11_first_84 : decode cX11_first 84 = .ok (.baload, 1) := by decide +kernel
theorem dX11_first_85 : decode cX11_first 85 = .ok (.ifCond .eq 19, 3) := by decide +kernel
theorem dX11_first_88 : decode cX11_first 88 = .ok (.iload_n 1, 1) := by decide +kernel
theorem dX11_first_89 : decode cX11_first 89 = .ok (.ifCond .ne 7, 3) := by decide +kernel
theorem dX11_first_92 : decode cX11_first 92 = .ok (.iload_n 2, 1) := by decide +kernel
theorem dX11_first_93 : decode cX11_first 93 = .ok (.goto 10, 3) := by decide +kernel
theorem dX11_first_96 : decode cX11_first 96 = .ok (.bipush 10, 2) := by decide +kernel
theorem dX11_first_98 : decode cX11_first 98 = .ok (.iload_n 3, 1) := by decide +kernel
theorem dX11_first_99 : decode cX11_first 99 = .ok (.imul, 1) := by decide +kernel
theorem dX11_first_100 : decode cX11_first 100 = .ok (.iload 4, 2) := by decide +kernel
theorem dX11_first_102 : decode cX11_first 102 = .ok (.iadd, 1) := by decide +kernel
theorem dX11_first_103 : decode cX11_first 103 = .ok (.ireturn, 1) := by decide +kernel
theorem dX11_first_104 : decode cX11_first 104 = .ok (.iinc 4 1, 3) := by decide +kernel
theorem dX11_first_107 : decode cX11_first 107 = .ok (.goto (-64), 3) := by decide +kernel
theorem dX11_first_110 : decode cX11_first 110 = .ok (.iinc 3 1, 3) := by decide +kernel
theorem dX11_first_113 : decode cX11_first 113 = .ok (.goto (-83), 3) := by decide +kernel
theorem dX11_first_116 : decode cX11_first 116 = .ok (.aload_n 0, 1) := by decide +kernel
theorem dX11_first_117 : decode cX11_first 117 = .ok (.iconst 1, 1) := by decide +kernel
theorem dX11_first_118 : decode cX11_first 118 = .ok (.invokevirtual 397, 3) := by decide +kernel
theorem dX11_first_121 : decode cX11_first 121 = .ok (.iinc 2 1, 3) := by decide +kernel
theorem dX11_first_124 : decode cX11_first 124 = .ok (.goto (-102), 3) := by decide +kernel
theorem dX11_first_127 : decode cX11_first 127 = .ok (.bipush (-2), 2) := by decide +kernel
theorem dX11_first_129 : decode cX11_first 129 = .ok (.ireturn, 1) := by decide +kernel
theorem dX11_areSecret_0 : decode cX11_areSecret 0 = .ok (.aload_n 0, 1) := by decide +kernel
theorem dX11_areSecret_1 : decode cX11_areSecret 1 = .ok (.iconst 1, 1) := by decide +kernel
theorem dX11_areSecret_2 : decode cX11_areSecret 2 = .ok (.iload_n 1, 1) := by decide +kernel
theorem dX11_areSecret_3 : decode cX11_areSecret 3 = .ok (.iload_n 2, 1) := by decide +kernel
theorem dX11_areSecret_4 : decode cX11_areSecret 4 = .ok (.invokevirtual 387, 3) := by decide +kernel
theorem dX11_areSecret_7 : decode cX11_areSecret 7 = .ok (.ifCond .eq 13, 3) := by decide +kernel
theorem dX11_areSecret_10 : decode cX11_areSecret 10 = .ok (.aload_n 0, 1) := by decide +kernel
theorem dX11_areSecret_11 : decode cX11_areSecret 11 = .ok (.iconst 1, 1) := by decide +kernel
theorem dX11_areSecret_12 : decode cX11_areSecret 12 = .ok (.iload_n 2, 1) := by decide +kernel
theorem dX11_areSecret_13 : decode cX11_areSecret 13 = .ok (.iload_n 1, 1) := by decide +kernel
theorem dX11_areSecret_14 : decode cX11_areSecret 14 = .ok (.invokevirtual 387, 3) := by decide +kernel
theorem dX11_areSecret_17 : decode cX11_areSecret 17 = .ok (.ifCond .ne 5, 3) := by decide +kernel
theorem dX11_areSecret_20 : decode cX11_areSecret 20 = .ok (.iconst 0, 1) := by decide +kernel
theorem dX11_areSecret_21 : decode cX11_areSecret 21 = .ok (.ireturn, 1) := by decide +kernel
theorem dX11_areSecret_22 : decode cX11_areSecret 22 = .ok (.iconst 0, 1) := by decide +kernel
theorem dX11_areSecret_23 : decode cX11_areSecret 23 = .ok (.istore_n 3, 1) := by decide +kernel
theorem dX11_areSecret_24 : decode cX11_areSecret 24 = .ok (.iload_n 3, 1) := by decide +kernel
theorem dX11_areSecret_25 : decode cX11_areSecret 25 = .ok (.aload_n 0, 1) := by decide +kernel
theorem dX11_areSecret_26 : decode cX11_areSecret 26 = .ok (.getfield 201, 3) := by decide +kernel
theorem dX11_areSecret_29 : decode cX11_areSecret 29 = .ok (.if_icmp .ge 64, 3) := by decide +kernel
theorem dX11_areSecret_32 : decode cX11_areSecret 32 = .ok (.iload_n 3, 1) := by decide +kernel
theorem dX11_areSecret_33 : decode cX11_areSecret 33 = .ok (.iload_n 1, 1) := by decide +kernel
theorem dX11_areSecret_34 : decode cX11_areSecret 34 = .ok (.if_icmp .eq 53, 3) := by decide +kernel
theorem dX11_areSecret_37 : decode cX11_areSecret 37 = .ok (.iload_n 3, 1) := by decide +kernel
theorem dX11_areSecret_38 : decode cX11_areSecret 38 = .ok (.iload_n 2, 1) := by decide +kernel
theorem dX11_areSecret_39 : decode cX11_areSecret 39 = .ok (.if_icmp .ne 6, 3) := by decide +kernel
theorem dX11_areSecret_42 : decode cX11_areSecret 42 = .ok (.goto 45, 3) := by decide +kernel
theorem dX11_areSecret_45 : decode cX11_areSecret 45 = .ok (.aload_n 0, 1) := by decide +kernel
theorem dX11_areSecret_46 : decode cX11_areSecret 46 = .ok (.iconst 1, 1) := by decide +kernel
theorem dX11_areSecret_47 : decode cX11_areSecret 47 = .ok (.iload_n 1, 1) := by decide +kernel
theorem dX11_areSecret_48 : decode cX11_areSecret 48 = .ok (.iload_n 3, 1) := by decide +kernel
theorem dX11_areSecret_49 : decode cX11_areSecret 49 = .ok (.invokevirtual 387, 3) := by decide +kernel
theorem dX11_areSecret_52 : decode cX11_areSecret 52 = .ok (.ifCond .ne 33, 3) := by decide +kernel
theorem dX11_areSecret_55 : decode cX11_areSecret 55 = .ok (.aload_n 0, 1) := by decide +kernel
theorem dX11_areSecret_56 : decode cX11_areSecret 56 = .ok (.iconst 1, 1) := by decide +kernel
theorem dX11_areSecret_57 : decode cX11_areSecret 57 = .ok (.iload_n 2, 1) := by decide +kernel
theorem dX11_areSecret_58 : decode cX11_areSecret 58 = .ok (.iload_n 3, 1) := by decide +kernel
theorem dX11_areSecret_59 : decode cX11_areSecret 59 = .ok (.invokevirtual 387, 3) := by decide +kernel
theorem dX11_areSecret_62 : decode cX11_areSecret 62 = .ok (.ifCond .ne 23, 3) := by decide +kernel
theorem dX11_areSecret_65 : decode cX11_areSecret 65 = .ok (.aload_n 0, 1) := by decide +kernel
theorem dX11_areSecret_66 : decode cX11_areSecret 66 = .ok (.iconst 1, 1) := by decide +kernel
theorem dX11_areSecret_67 : decode cX11_areSecret 67 = .ok (.iload_n 3, 1) := by decide +kernel
theorem dX11_areSecret_68 : decode cX11_areSecret 68 = .ok (.iload_n 1, 1) := by decide +kernel
theorem dX11_areSecret_69 : decode cX11_areSecret 69 = .ok (.invokevirtual 387, 3) := by decide +kernel
theorem dX11_areSecret_72 : decode cX11_areSecret 72 = .ok (.ifCond .ne 13, 3) := by decide +kernel
theorem dX11_areSecret_75 : decode cX11_areSecret 75 = .ok (.aload_n 0, 1) := by decide +kernel
theorem dX11_areSecret_76 : decode cX11_areSecret 76 = .ok (.iconst 1, 1) := by decide +kernel
theorem dX11_areSecret_77 : decode cX11_areSecret 77 = .ok (.iload_n 3, 1) := by decide +kernel
theorem dX11_areSecret_78 : decode cX11_areSecret 78 = .ok (.iload_n 2, 1) := by decide +kernel
theorem dX11_areSecret_79 : decode cX11_areSecret 79 = .ok (.invokevirtual 387, 3) := by decide +kernel
theorem dX11_areSecret_82 : decode cX11_areSecret 82 = .ok (.ifCond .eq 5, 3) := by decide +kernel
theorem dX11_areSecret_85 : decode cX11_areSecret 85 = .ok (.iconst 0, 1) := by decide +kernel
theorem dX11_areSecret_86 : decode cX11_areSecret 86 = .ok (.ireturn, 1) := by decide +kernel
theorem dX11_areSecret_87 : decode cX11_areSecret 87 = .ok (.iinc 3 1, 3) := by decide +kernel
theorem dX11_areSecret_90 : decode cX11_areSecret 90 = .ok (.goto (-66), 3) := by decide +kernel
theorem dX11_areSecret_93 : decode cX11_areSecret 93 = .ok (.iconst 1, 1) := by decide +kernel
theorem dX11_areSecret_94 : decode cX11_areSecret 94 = .ok (.ireturn, 1) := by decide +kernel
theorem dX11_secret_0 : decode cX11_secret 0 = .ok (.aload_n 0, 1) := by decide +kernel
theorem dX11_secret_1 : decode cX11_secret 1 = .ok (.iconst 0, 1) := by decide +kernel
theorem dX11_secret_2 : decode cX11_secret 2 = .ok (.putfield 124, 3) := by decide +kernel
theorem dX11_secret_5 : decode cX11_secret 5 = .ok (.aload_n 0, 1) := by decide +kernel
theorem dX11_secret_6 : decode cX11_secret 6 = .ok (.iload_n 1, 1) := by decide +kernel
theorem dX11_secret_7 : decode cX11_secret 7 = .ok (.iload_n 2, 1) := by decide +kernel
theorem dX11_secret_8 : decode cX11_secret 8 = .ok (.invokevirtual 413, 3) := by decide +kernel
theorem dX11_secret_11 : decode cX11_secret 11 = .ok (.ifCond .eq 12, 3) := by decide +kernel
theorem dX11_secret_14 : decode cX11_secret 14 = .ok (.iload_n 3, 1) := by decide +kernel
theorem dX11_secret_15 : decode cX11_secret 15 = .ok (.iconst 0, 1) := by decide +kernel
theorem dX11_secret_16 : decode cX11_secret 16 = .ok (.iconst 2, 1) := by decide +kernel
theorem dX11_secret_17 : decode cX11_secret 17 = .ok (.invokestatic 169, 3) := by decide +kernel
theorem dX11_secret_20 : decode cX11_secret 20 = .ok (.ifCond .ne 5, 3) := by decide +kernel
theorem dX11_secret_23 : decode cX11_secret 23 = .ok (.iconst (-1), 1) := by decide +kernel
theorem dX11_secret_24 : decode cX11_secret 24 = .ok (.ireturn, 1) := by decide +kernel
theorem dX11_secret_25 : decode cX11_secret 25 = .ok (.aload_n 0, 1) := by decide +kernel
theorem dX11_secret_26 : decode cX11_secret 26 = .ok (.invokevirtual 424, 3) := by decide +kernel
theorem dX11_secret_29 : decode cX11_secret 29 = .ok (.iconst (-1), 1) := by decide +kernel
theorem dX11_secret_30 : decode cX11_secret 30 = .ok (.istore 4, 2) := by decide +kernel
theorem dX11_secret_32 : decode cX11_secret 32 = .ok (.iconst 0, 1) := by decide +kernel
theorem dX11_secret_33 : decode cX11_secret 33 = .ok (.istore 5, 2) := by decide +kernel
theorem dX11_secret_35 : decode cX11_secret 35 = .ok (.iconst 0, 1) := by decide +kernel
theorem dX11_secret_36 : decode cX11_secret 36 = .ok (.istore 6, 2) := by decide +kernel
theorem dX11_secret_38 : decode cX11_secret 38 = .ok (.iload 6, 2) := by decide +kernel
theorem dX11_secret_40 : decode cX11_secret 40 = .ok (.bipush 100, 2) := by decide +kernel
theorem dX11_secret_42 : decode cX11_secret 42 = .ok (.if_icmp .ge 113, 3) := by decide +kernel
theorem dX11_secret_45 : decode cX11_secret 45 = .ok (.iconst 0, 1) := by decide +kernel
theorem dX11_secret_46 : decode cX11_secret 46 = .ok (.istore 7, 2) := by decide +kernel
theorem dX11_secret_48 : decode cX11_secret 48 = .ok (.iload 7, 2) := by decide +kernel
theorem dX11_secret_50 : decode cX11_secret 50 = .ok (.bipush 100, 2) := by decide +kernel
theorem dX11_secret_52 : decode cX11_secret 52 = .ok (.if_icmp .ge 97, 3) := by decide +kernel
theorem dX11_secret_55 : decode cX11_secret 55 = .ok (.iload 6, 2) := by decide +kernel
theorem dX11_secret_57 : decode cX11_secret 57 = .ok (.aload_n 0, 1) := by decide +kernel
theorem dX11_secret_58 : decode cX11_secret 58 = .ok (.getfield 85, 3) := by decide +kernel
theorem dX11_secret_61 : decode cX11_secret 61 = .ok (.iload_n 1, 1) := by decide +kernel
theorem dX11_secret_62 : decode cX11_secret 62 = .ok (.iaload, 1) := by decide +kernel
theorem dX11_secret_63 : decode cX11_secret 63 = .ok (.invokestatic 355, 3) := by decide +kernel
theorem dX11_secret_66 : decode cX11_secret 66 = .ok (.iload 7, 2) := by decide +kernel
theorem dX11_secret_68 : decode cX11_secret 68 = .ok (.aload_n 0, 1) := by decide +kernel
theorem dX11_secret_69 : decode cX11_secret 69 = .ok (.getfield 85, 3) := by decide +kernel
theorem dX11_secret_72 : decode cX11_secret 72 = .ok (.iload_n 2, 1) := by decide +kernel
theorem dX11_secret_73 : decode cX11_secret 73 = .ok (.iaload, 1) := by decide +kernel
theorem dX11_secret_74 : decode cX11_secret 74 = .ok (.invokestatic 355, 3) := by decide +kernel
theorem dX11_secret_77 : decode cX11_secret 77 = .ok (.iadd, 1) := by decide +kernel
theorem dX11_secret_78 : decode cX11_secret 78 = .ok (.istore 8, 2) := by decide +kernel
theorem dX11_secret_80 : decode cX11_secret 80 = .ok (.iload 4, 2) := by decide +kernel
theorem dX11_secret_82 : decode cX11_secret 82 = .ok (.ifCond .lt 13, 3) := by decide +kernel
theorem dX11_secret_85 : decode cX11_secret 85 = .ok (.iload 8, 2) := by decide +kernel
theorem dX11_secret_87 : decode cX11_secret 87 = .ok (.iload 5, 2) := by decide +kernel
theorem dX11_secret_89 : decode cX11_secret 89 = .ok (.if_icmp .lt 6, 3) := by decide +kernel
theorem dX11_secret_92 : decode cX11_secret 92 = .ok (.goto 51, 3) := by decide +kernel
theorem dX11_secret_95 : decode cX11_secret 95 = .ok (.aload_n 0, 1) := by decide +kernel
theorem dX11_secret_96 : decode cX11_secret 96 = .ok (.getfield 85, 3) := by decide +kernel
theorem dX11_secret_99 : decode cX11_secret 99 = .ok (.bipush 6, 2) := by decide +kernel
theorem dX11_secret_101 : decode cX11_secret 101 = .ok (.iload_n 1, 1) := by decide +kernel
theorem dX11_secret_102 : decode cX11_secret 102 = .ok (.iadd, 1) := by decide +kernel
theorem dX11_secret_103 : decode cX11_secret 103 = .ok (.iload 6, 2) := by decide +kernel
theorem dX11_secret_105 : decode cX11_secret 105 = .ok (.iastore, 1) := by decide +kernel
theorem dX11_secret_106 : decode cX11_secret 106 = .ok (.aload_n 0, 1) := by decide +kernel
theorem dX11_secret_107 : decode cX11_secret 107 = .ok (.getfield 85, 3) := by decide +kernel
theorem dX11_secret_110 : decode cX11_secret 110 = .ok (.bipush 6, 2) := by decide +kernel
theorem dX11_secret_112 : decode cX11_secret 112 = .ok (.iload_n 2, 1) := by decide +kernel
theorem dX11_secret_113 : decode cX11_secret 113 = .ok (.iadd, 1) := by decide +kernel
theorem dX11_secret_114 : decode cX11_secret 114 = .ok (.iload 7, 2) := by decide +kernel
theorem dX11_secret_116 : decode cX11_secret 116 = .ok (.iastore, 1) := by decide +kernel
theorem dX11_secret_117 : decode cX11_secret 117 = .ok (.aload_n 0, 1) := by decide +kernel
theorem dX11_secret_118 : decode cX11_secret 118 = .ok (.iload_n 1, 1) := by decide +kernel
theorem dX11_secret_119 : decode cX11_secret 119 = .ok (.iload_n 2, 1) := by decide +kernel
theorem dX11_secret_120 : decode cX11_secret 120 = .ok (.invokevirtual 436, 3) := by decide +kernel
theorem dX11_secret_123 : decode cX11_secret 123 = .ok (.ifCond .ne 6, 3) := by decide +kernel
theorem dX11_secret_126 : decode cX11_secret 126 = .ok (.goto 17, 3) := by decide +kernel
theorem dX11_secret_129 : decode cX11_secret 129 = .ok (.bipush 100, 2) := by decide +kernel
theorem dX11_secret_131 : decode cX11_secret 131 = .ok (.iload 6, 2) := by decide +kernel
theorem dX11_secret_133 : decode cX11_secret 133 = .ok (.imul, 1) := by decide +kernel
theorem dX11_secret_134 : decode cX11_secret 134 = .ok (.iload 7, 2) := by decide +kernel
theorem dX11_secret_136 : decode cX11_secret 136 = .ok (.iadd, 1) := by decide +kernel
theorem dX11_secret_137 : decode cX11_secret 137 = .ok (.istore 4, 2) := by decide +kernel
theorem dX11_secret_139 : decode cX11_secret 139 = .ok (.iload 8, 2) := by decide +kernel
theorem dX11_secret_141 : decode cX11_secret 141 = .ok (.istore 5, 2) := by decide +kernel
theorem dX11_secret_143 : decode cX11_secret 143 = .ok (.iinc 7 1, 3) := by decide +kernel
theorem dX11_secret_146 : decode cX11_secret 146 = .ok (.goto (-98), 3) := by decide +kernel
theorem dX11_secret_149 : decode cX11_secret 149 = .ok (.iinc 6 1, 3) := by decide +kernel
theorem dX11_secret_152 : decode cX11_secret 152 = .ok (.goto (-114), 3) := by decide +kernel
theorem dX11_secret_155 : decode cX11_secret 155 = .ok (.iload 4, 2) := by decide +kernel
theorem dX11_secret_157 : decode cX11_secret 157 = .ok (.ifCond .ge 6, 3) := by decide +kernel
theorem dX11_secret_160 : decode cX11_secret 160 = .ok (.bipush (-2), 2) := by decide +kernel
theorem dX11_secret_162 : decode cX11_secret 162 = .ok (.ireturn, 1) := by decide +kernel
theorem dX11_secret_163 : decode cX11_secret 163 = .ok (.iload_n 3, 1) := by decide +kernel
theorem dX11_secret_164 : decode cX11_secret 164 = .ok (.ifCond .ne 11, 3) := by decide +kernel
theorem dX11_secret_167 : decode cX11_secret 167 = .ok (.iload 4, 2) := by decide +kernel
theorem dX11_secret_169 : decode cX11_secret 169 = .ok (.bipush 100, 2) := by decide +kernel
theorem dX11_secret_171 : decode cX11_secret 171 = .ok (.idiv, 1) := by decide +kernel
theorem dX11_secret_172 : decode cX11_secret 172 = .ok (.goto 18, 3) := by decide +kernel
theorem dX11_secret_175 : decode cX11_secret 175 = .ok (.iload_n 3, 1) := by decide +kernel
theorem dX11_secret_176 : decode cX11_secret 176 = .ok (.iconst 1, 1) := by decide +kernel
theorem dX11_secret_177 : decode cX11_secret 177 = .ok (.if_icmp .ne 11, 3) := by decide +kernel
theorem dX11_secret_180 : decode cX11_secret 180 = .ok (.iload 4, 2) := by decide +kernel
theorem dX11_secret_182 : decode cX11_secret 182 = .ok (.bipush 100, 2) := by decide +kernel
theorem dX11_secret_184 : decode cX11_secret 184 = .ok (.irem, 1) := by decide +kernel
theorem dX11_secret_185 : decode cX11_secret 185 = .ok (.goto 5, 3) := by decide +kernel
theorem dX11_secret_188 : decode cX11_secret 188 = .ok (.iload 5, 2) := by decide +kernel
theorem dX11_secret_190 : decode cX11_secret 190 = .ok (.ireturn, 1) := by decide +kernel
theorem dX11_spread_0 : decode cX11_spread 0 = .ok (.aload_n 0, 1) := by decide +kernel
theorem dX11_spread_1 : decode cX11_spread 1 = .ok (.iconst 0, 1) := by decide +kernel
theorem dX11_spread_2 : decode cX11_spread 2 = .ok (.putfield 124, 3) := by decide +kernel
theorem dX11_spread_5 : decode cX11_spread 5 = .ok (.iload_n 1, 1) := by decide +kernel
theorem dX11_spread_6 : decode cX11_spread 6 = .ok (.iconst 0, 1) := by decide +kernel
theorem dX11_spread_7 : decode cX11_spread 7 = .ok (.iconst 4, 1) := by decide +kernel
theorem dX11_spread_8 : decode cX11_spread 8 = .ok (.invokestatic 169, 3) := by decide +kernel
theorem dX11_spread_11 : decode cX11_spread 11 = .ok (.ifCond .ne 5, 3) := by decide +kernel
theorem dX11_spread_14 : decode cX11_spread 14 = .ok (.iconst (-1), 1) := by decide +kernel
theorem dX11_spread_15 : decode cX11_spread 15 = .ok (.ireturn, 1) := by decide +kernel
theorem dX11_spread_16 : decode cX11_spread 16 = .ok (.aload_n 0, 1) := by decide +kernel
theorem dX11_spread_17 : decode cX11_spread 17 = .ok (.getfield 201, 3) := by decide +kernel
theorem dX11_spread_20 : decode cX11_spread 20 = .ok (.iconst 4, 1) := by decide +kernel
theorem dX11_spread_21 : decode cX11_spread 21 = .ok (.if_icmp .ge 10, 3) := by decide +kernel
theorem dX11_spread_24 : decode cX11_spread 24 = .ok (.aload_n 0, 1) := by decide +kernel
theorem dX11_spread_25 : decode cX11_spread 25 = .ok (.getfield 201, 3) := by decide +kernel
theorem dX11_spread_28 : decode cX11_spread 28 = .ok (.goto 4, 3) := by decide +kernel
theorem dX11_spread_31 : decode cX11_spread 31 = .ok (.iconst 4, 1) := by decide +kernel
theorem dX11_spread_32 : decode cX11_spread 32 = .ok (.istore_n 2, 1) := by decide +kernel
theorem dX11_spread_33 : decode cX11_spread 33 = .ok (.iload_n 1, 1) := by decide +kernel
theorem dX11_spread_34 : decode cX11_spread 34 = .ok (.iconst 4, 1) := by decide +kernel
theorem dX11_spread_35 : decode cX11_spread 35 = .ok (.if_icmp .ge 11, 3) := by decide +kernel
theorem dX11_spread_38 : decode cX11_spread 38 = .ok (.iload_n 1, 1) := by decide +kernel
theorem dX11_spread_39 : decode cX11_spread 39 = .ok (.iload_n 2, 1) := by decide +kernel
theorem dX11_spread_40 : decode cX11_spread 40 = .ok (.if_icmp .lt 6, 3) := by decide +kernel
theorem dX11_spread_43 : decode cX11_spread 43 = .ok (.bipush (-2), 2) := by decide +kernel
theorem dX11_spread_45 : decode cX11_spread 45 = .ok (.ireturn, 1) := by decide +kernel
theorem dX11_spread_46 : decode cX11_spread 46 = .ok (.aload_n 0, 1) := by decide +kernel
theorem dX11_spread_47 : decode cX11_spread 47 = .ok (.invokevirtual 424, 3) := by decide +kernel
theorem dX11_spread_50 : decode cX11_spread 50 = .ok (.iconst 1, 1) := by decide +kernel
theorem dX11_spread_51 : decode cX11_spread 51 = .ok (.istore_n 3, 1) := by decide +kernel
theorem dX11_spread_52 : decode cX11_spread 52 = .ok (.iconst 0, 1) := by decide +kernel
theorem dX11_spread_53 : decode cX11_spread 53 = .ok (.istore 4, 2) := by decide +kernel
theorem dX11_spread_55 : decode cX11_spread 55 = .ok (.iload 4, 2) := by decide +kernel
theorem dX11_spread_57 : decode cX11_spread 57 = .ok (.iload_n 2, 1) := by decide +kernel
theorem dX11_spread_58 : decode cX11_spread 58 = .ok (.if_icmp .ge 14, 3) := by decide +kernel
theorem dX11_spread_61 : decode cX11_spread 61 = .ok (.iload_n 3, 1) := by decide +kernel
theorem dX11_spread_62 : decode cX11_spread 62 = .ok (.bipush 10, 2) := by decide +kernel
theorem dX11_spread_64 : decode cX11_spread 64 = .ok (.imul, 1) := by decide +kernel
theorem dX11_spread_65 : decode cX11_spread 65 = .ok (.istore_n 3, 1) := by decide +kernel
theorem dX11_spread_66 : decode cX11_spread 66 = .ok (.iinc 4 1, 3) := by decide +kernel
theorem dX11_spread_69 : decode cX11_spread 69 = .ok (.goto (-14), 3) := by decide +kernel
theorem dX11_spread_72 : decode cX11_spread 72 = .ok (.iconst (-1), 1) := by decide +kernel
theorem dX11_spread_73 : decode cX11_spread 73 = .ok (.istore 4, 2) := by decide +kernel
theorem dX11_spread_75 : decode cX11_spread 75 = .ok (.iconst 0, 1) := by decide +kernel
theorem dX11_spread_76 : decode cX11_spread 76 = .ok (.istore 5, 2) := by decide +kernel
theorem dX11_spread_78 : decode cX11_spread 78 = .ok (.iconst 0, 1) := by decide +kernel
theorem dX11_spread_79 : decode cX11_spread 79 = .ok (.istore 6, 2) := by decide +kernel
theorem dX11_spread_81 : decode cX11_spread 81 = .ok (.iload 6, 2) := by decide +kernel
theorem dX11_spread_83 : decode cX11_spread 83 = .ok (.iload_n 3, 1) := by decide +kernel
theorem dX11_spread_84 : decode cX11_spread 84 = .ok (.if_icmp .ge 175, 3) := by decide +kernel
theorem dX11_spread_87 : decode cX11_spread 87 = .ok (.iload 6, 2) := by decide +kernel
theorem dX11_spread_89 : decode cX11_spread 89 = .ok (.istore 7, 2) := by decide +kernel
theorem dX11_spread_91 : decode cX11_spread 91 = .ok (.iconst 0, 1) := by decide +kernel
theorem dX11_spread_92 : decode cX11_spread 92 = .ok (.istore 8, 2) := by decide +kernel
theorem dX11_spread_94 : decode cX11_spread 94 = .ok (.iload_n 2, 1) := by decide +kernel
theorem dX11_spread_95 : decode cX11_spread 95 = .ok (.iconst 1, 1) := by decide +kernel
theorem dX11_spread_96 : decode cX11_spread 96 = .ok (.isub, 1) := by decide +kernel
theorem dX11_spread_97 : decode cX11_spread 97 = .ok (.istore 9, 2) := by decide +kernel
theorem dX11_spread_99 : decode cX11_spread 99 = .ok (.iload 9, 2) := by decide +kernel
theorem dX11_spread_101 : decode cX11_spread 101 = .ok (.ifCond .lt 59, 3) := by decide +kernel
theorem dX11_spread_104 : decode cX11_spread 104 = .ok (.aload_n 0, 1) := by decide +kernel
theorem dX11_spread_105 : decode cX11_spread 105 = .ok (.getfield 85, 3) := by decide +kernel
theorem dX11_spread_108 : decode cX11_spread 108 = .ok (.bipush 6, 2) := by decide +kernel
theorem dX11_spread_110 : decode cX11_spread 110 = .ok (.iload 9, 2) := by decide +kernel
theorem dX11_spread_112 : decode cX11_spread 112 = .ok (.iadd, 1) := by decide +kernel
theorem dX11_spread_113 : decode cX11_spread 113 = .ok (.bipush 11, 2) := by decide +kernel
theorem dX11_spread_115 : decode cX11_spread 115 = .ok (.iload 7, 2) := by decide +kernel
theorem dX11_spread_117 : decode cX11_spread 117 = .ok (.bipush 10, 2) := by decide +kernel
theorem dX11_spread_119 : decode cX11_spread 119 = .ok (.irem, 1) := by decide +kernel
theorem dX11_spread_120 : decode cX11_spread 120 = .ok (.imul, 1) := by decide +kernel
theorem dX11_spread_121 : decode cX11_spread 121 = .ok (.iastore, 1) := by decide +kernel
theorem dX11_spread_122 : decode cX11_spread 122 = .ok (.iload 8, 2) := by decide +kernel
theorem dX11_spread_124 : decode cX11_spread 124 = .ok (.aload_n 0, 1) := by decide +kernel
theorem dX11_spread_125 : decode cX11_spread 125 = .ok (.getfield 85, 3) := by decide +kernel
theorem dX11_spread_128 : decode cX11_spread 128 = .ok (.bipush 6, 2) := by decide +kernel
theorem dX11_spread_130 : decode cX11_spread 130 = .ok (.iload 9, 2) := by decide +kernel
theorem dX11_spread_132 : decode cX11_spread 132 = .ok (.iadd, 1) := by decide +kernel
theorem dX11_spread_133 : decode cX11_spread 133 = .ok (.iaload, 1) := by decide +kernel
theorem dX11_spread_134 : decode cX11_spread 134 = .ok (.aload_n 0, 1) := by decide +kernel
theorem dX11_spread_135 : decode cX11_spread 135 = .ok (.getfield 85, 3) := by decide +kernel
theorem dX11_spread_138 : decode cX11_spread 138 = .ok (.iload 9, 2) := by decide +kernel
theorem dX11_spread_140 : decode cX11_spread 140 = .ok (.iaload, 1) := by decide +kernel
theorem dX11_spread_141 : decode cX11_spread 141 = .ok (.invokestatic 355, 3) := by decide +kernel
theorem dX11_spread_144 : decode cX11_spread 144 = .ok (.iadd, 1) := by decide +kernel
theorem dX11_spread_145 : decode cX11_spread 145 = .ok (.istore 8, 2) := by decide +kernel
theorem dX11_spread_147 : decode cX11_spread 147 = .ok (.iload 7, 2) := by decide +kernel
theorem dX11_spread_149 : decode cX11_spread 149 = .ok (.bipush 10, 2) := by decide +kernel
theorem dX11_spread_151 : decode cX11_spread 151 = .ok (.idiv, 1) := by decide +kernel
theorem dX11_spread_152 : decode cX11_spread 152 = .ok (.istore 7, 2) := by decide +kernel
theorem dX11_spread_154 : decode cX11_spread 154 = .ok (.iinc 9 (-1), 3) := by decide +kernel
theorem dX11_spread_157 : decode cX11_spread 157 = .ok (.goto (-58), 3) := by decide +kernel
theorem dX11_spread_160 : decode cX11_spread 160 = .ok (.iload 4, 2) := by decide +kernel
theorem dX11_spread_162 : decode cX11_spread 162 = .ok (.ifCond .lt 13, 3) := by decide +kernel
theorem dX11_spread_165 : decode cX11_spread 165 = .ok (.iload 8, 2) := by decide +kernel
theorem dX11_spread_167 : decode cX11_spread 167 = .ok (.iload 5, 2) := by decide +kernel
theorem dX11_spread_169 : decode cX11_spread 169 = .ok (.if_icmp .lt 6, 3) := by decide +kernel
theorem dX11_spread_172 : decode cX11_spread 172 = .ok (.goto 81, 3) := by decide +kernel
theorem dX11_spread_175 : decode cX11_spread 175 = .ok (.iconst 1, 1) := by decide +kernel
theorem dX11_spread_176 : decode cX11_spread 176 = .ok (.istore 9, 2) := by decide +kernel
theorem dX11_spread_178 : decode cX11_spread 178 = .ok (.iconst 0, 1) := by decide +kernel
theorem dX11_spread_179 : decode cX11_spread 179 = .ok (.istore 10, 2) := by decide +kernel
theorem dX11_spread_181 : decode cX11_spread 181 = .ok (.iload 10, 2) := by decide +kernel
theorem dX11_spread_183 : decode cX11_spread 183 = .ok (.iload_n 2, 1) := by decide +kernel
theorem dX11_spread_184 : decode cX11_spread 184 = .ok (.if_icmp .ge 53, 3) := by decide +kernel
theorem dX11_spread_187 : decode cX11_spread 187 = .ok (.iload 9, 2) := by decide +kernel
theorem dX11_spread_189 : decode cX11_spread 189 = .ok (.ifCond .eq 48, 3) := by decide +kernel
theorem dX11_spread_192 : decode cX11_spread 192 = .ok (.iconst 0, 1) := by decide +kernel
theorem dX11_spread_193 : decode cX11_spread 193 = .ok (.istore 11, 2) := by decide +kernel
theorem dX11_spread_195 : decode cX11_spread 195 = .ok (.iload 11, 2) := by decide +kernel
theorem dX11_spread_197 : decode cX11_spread 197 = .ok (.iload_n 2, 1) := by decide +kernel
theorem dX11_spread_198 : decode cX11_spread 198 = .ok (.if_icmp .ge 33, 3) := by decide +kernel
theorem dX11_spread_201 : decode cX11_spread 201 = .ok (.iload 9, 2) := by decide +kernel
theorem dX11_spread_203 : decode cX11_spread 203 = .ok (.ifCond .eq 28, 3) := by decide +kernel
theorem dX11_spread_206 : decode cX11_spread 206 = .ok (.aload_n 0, 1) := by decide +kernel
theorem dX11_spread_207 : decode cX11_spread 207 = .ok (.iconst 1, 1) := by decide +kernel
theorem dX11_spread_208 : decode cX11_spread 208 = .ok (.iload 10, 2) := by decide +kernel
theorem dX11_spread_210 : decode cX11_spread 210 = .ok (.iload 11, 2) := by decide +kernel
theorem dX11_spread_212 : decode cX11_spread 212 = .ok (.invokevirtual 387, 3) := by decide +kernel
theorem dX11_spread_215 : decode cX11_spread 215 = .ok (.ifCond .ne 7, 3) := by decide +kernel
theorem dX11_spread_218 : decode cX11_spread 218 = .ok (.iconst 1, 1) := by decide +kernel
theorem dX11_spread_219 : decode cX11_spread 219 = .ok (.goto 4, 3) := by decide +kernel
theorem dX11_spread_222 : decode cX11_spread 222 = .ok (.iconst 0, 1) := by decide +kernel
theorem dX11_spread_223 : decode cX11_spread 223 = .ok (.istore 9, 2) := by decide +kernel
theorem dX11_spread_225 : decode cX11_spread 225 = .ok (.iinc 11 1, 3) := by decide +kernel
theorem dX11_spread_228 : decode cX11_spread 228 = .ok (.goto (-33), 3) := by decide +kernel
theorem dX11_spread_231 : decode cX11_spread 231 = .ok (.iinc 10 1, 3) := by decide +kernel
theorem dX11_spread_234 : decode cX11_spread 234 = .ok (.goto (-53), 3) := by decide +kernel
theorem dX11_spread_237 : decode cX11_spread 237 = .ok (.iload 9, 2) := by decide +kernel
theorem dX11_spread_239 : decode cX11_spread 239 = .ok (.ifCond .ne 6, 3) := by decide +kernel
theorem dX11_spread_242 : decode cX11_spread 242 = .ok (.goto 11, 3) := by decide +kernel
theorem dX11_spread_245 : decode cX11_spread 245 = .ok (.iload 6, 2) := by decide +kernel
theorem dX11_spread_247 : decode cX11_spread 247 = .ok (.istore 4, 2) := by decide +kernel
theorem dX11_spread_249 : decode cX11_spread 249 = .ok (.iload 8, 2) := by decide +kernel
theorem dX11_spread_251 : decode cX11_spread 251 = .ok (.istore 5, 2) := by decide +kernel
theorem dX11_spread_253 : decode cX11_spread 253 = .ok (.iinc 6 1, 3) := by decide +kernel
theorem dX11_spread_256 : decode cX11_spread 256 = .ok (.goto (-175), 3) := by decide +kernel
theorem dX11_spread_259 : decode cX11_spread 259 = .ok (.iload 4, 2) := by decide +kernel
theorem dX11_spread_261 : decode cX11_spread 261 = .ok (.ifCond .ge 6, 3) := by decide +kernel
theorem dX11_spread_264 : decode cX11_spread 264 = .ok (.bipush (-2), 2) := by decide +kernel
theorem dX11_spread_266 : decode cX11_spread 266 = .ok (.ireturn, 1) := by decide +kernel
theorem dX11_spread_267 : decode cX11_spread 267 = .ok (.iload_n 1, 1) := by decide +kernel
theorem dX11_spread_268 : decode cX11_spread 268 = .ok (.iconst 4, 1) := by decide +kernel
theorem dX11_spread_269 : decode cX11_spread 269 = .ok (.if_icmp .ne 6, 3) := by decide +kernel
theorem dX11_spread_272 : decode cX11_spread 272 = .ok (.iload 5, 2) := by decide +kernel
theorem dX11_spread_274 : decode cX11_spread 274 = .ok (.ireturn, 1) := by decide +kernel
theorem dX11_spread_275 : decode cX11_spread 275 = .ok (.iload_n 2, 1) := by decide +kernel
theorem dX11_spread_276 : decode cX11_spread 276 = .ok (.iconst 1, 1) := by decide +kernel
theorem dX11_spread_277 : decode cX11_spread 277 = .ok (.isub, 1) := by decide +kernel
theorem dX11_spread_278 : decode cX11_spread 278 = .ok (.istore 6, 2) := by decide +kernel
theorem dX11_spread_280 : decode cX11_spread 280 = .ok (.iload 6, 2) := by decide +kernel
theorem dX11_spread_282 : decode cX11_spread 282 = .ok (.iload_n 1, 1) := by decide +kernel
theorem dX11_spread_283 : decode cX11_spread 283 = .ok (.if_icmp .le 16, 3) := by decide +kernel
theorem dX11_spread_286 : decode cX11_spread 286 = .ok (.iload 4, 2) := by decide +kernel
theorem dX11_spread_288 : decode cX11_spread 288 = .ok (.bipush 10, 2) := by decide +kernel
theorem dX11_spread_290 : decode cX11_spread 290 = .ok (.idiv, 1) := by decide +kernel
theorem dX11_spread_291 : decode cX11_spread 291 = .ok (.istore 4, 2) := by decide +kernel
theorem dX11_spread_293 : decode cX11_spread 293 = .ok (.iinc 6 (-1), 3) := by decide +kernel
theorem dX11_spread_296 : decode cX11_spread 296 = .ok (.goto (-16), 3) := by decide +kernel
theorem dX11_spread_299 : decode cX11_spread 299 = .ok (.bipush 11, 2) := by decide +kernel
theorem dX11_spread_301 : decode cX11_spread 301 = .ok (.iload 4, 2) := by decide +kernel
theorem dX11_spread_303 : decode cX11_spread 303 = .ok (.bipush 10, 2) := by decide +kernel
theorem dX11_spread_305 : decode cX11_spread 305 = .ok (.irem, 1) := by decide +kernel
theorem dX11_spread_306 : decode cX11_spread 306 = .ok (.imul, 1) := by decide +kernel
theorem dX11_spread_307 : decode cX11_spread 307 = .ok (.ireturn, 1) := by decide +kernel
theorem dX11_lays_0 : decode cX11_lays 0 = .ok (.aload_n 0, 1) := by decide +kernel
theorem dX11_lays_1 : decode cX11_lays 1 = .ok (.getfield 325, 3) := by decide +kernel
theorem dX11_lays_4 : decode cX11_lays 4 = .ok (.bipush 24, 2) := by decide +kernel
theorem dX11_lays_6 : decode cX11_lays 6 = .ok (.if_icmp .ne 5, 3) := by decide +kernel
theorem dX11_lays_9 : decode cX11_lays 9 = .ok (.iconst (-1), 1) := by decide +kernel
theorem dX11_lays_10 : decode cX11_lays 10 = .ok (.ireturn, 1) := by decide +kernel
theorem dX11_lays_11 : decode cX11_lays 11 = .ok (.iconst 4, 1) := by decide +kernel
theorem dX11_lays_12 : decode cX11_lays 12 = .ok (.aload_n 0, 1) := by decide +kernel
theorem dX11_lays_13 : decode cX11_lays 13 = .ok (.getfield 325, 3) := by decide +kernel
theorem dX11_lays_16 : decode cX11_lays 16 = .ok (.imul, 1) := by decide +kernel
theorem dX11_lays_17 : decode cX11_lays 17 = .ok (.istore 5, 2) := by decide +kernel
theorem dX11_lays_19 : decode cX11_lays 19 = .ok (.aload_n 0, 1) := by decide +kernel
theorem dX11_lays_20 : decode cX11_lays 20 = .ok (.getfield 106, 3) := by decide +kernel
theorem dX11_lays_23 : decode cX11_lays 23 = .ok (.iload 5, 2) := by decide +kernel
theorem dX11_lays_25 : decode cX11_lays 25 = .ok (.iload_n 1, 1) := by decide +kernel
theorem dX11_lays_26 : decode cX11_lays 26 = .ok (.iastore, 1) := by decide +kernel
theorem dX11_lays_27 : decode cX11_lays 27 = .ok (.aload_n 0, 1) := by decide +kernel
theorem dX11_lays_28 : decode cX11_lays 28 = .ok (.getfield 106, 3) := by decide +kernel
theorem dX11_lays_31 : decode cX11_lays 31 = .ok (.iload 5, 2) := by decide +kernel
theorem dX11_lays_33 : decode cX11_lays 33 = .ok (.iconst 1, 1) := by decide +kernel
theorem dX11_lays_34 : decode cX11_lays 34 = .ok (.iadd, 1) := by decide +kernel
theorem dX11_lays_35 : decode cX11_lays 35 = .ok (.iload_n 2, 1) := by decide +kernel
theorem dX11_lays_36 : decode cX11_lays 36 = .ok (.iastore, 1) := by decide +kernel
theorem dX11_lays_37 : decode cX11_lays 37 = .ok (.aload_n 0, 1) := by decide +kernel
theorem dX11_lays_38 : decode cX11_lays 38 = .ok (.getfield 106, 3) := by decide +kernel
theorem dX11_lays_41 : decode cX11_lays 41 = .ok (.iload 5, 2) := by decide +kernel
theorem dX11_lays_43 : decode cX11_lays 43 = .ok (.iconst 2, 1) := by decide +kernel
theorem dX11_lays_44 : decode cX11_lays 44 = .ok (.iadd, 1) := by decide +kernel
theorem dX11_lays_45 : decode cX11_lays 45 = .ok (.iload_n 3, 1) := by decide +kernel
theorem dX11_lays_46 : decode cX11_lays 46 = .ok (.iastore, 1) := by decide +kernel
theorem dX11_lays_47 : decode cX11_lays 47 = .ok (.aload_n 0, 1) := by decide +kernel
theorem dX11_lays_48 : decode cX11_lays 48 = .ok (.getfield 106, 3) := by decide +kernel
theorem dX11_lays_51 : decode cX11_lays 51 = .ok (.iload 5, 2) := by decide +kernel
theorem dX11_lays_53 : decode cX11_lays 53 = .ok (.iconst 3, 1) := by decide +kernel
theorem dX11_lays_54 : decode cX11_lays 54 = .ok (.iadd, 1) := by decide +kernel
theorem dX11_lays_55 : decode cX11_lays 55 = .ok (.iload 4, 2) := by decide +kernel
theorem dX11_lays_57 : decode cX11_lays 57 = .ok (.iastore, 1) := by decide +kernel
theorem dX11_lays_58 : decode cX11_lays 58 = .ok (.aload_n 0, 1) := by decide +kernel
theorem dX11_lays_59 : decode cX11_lays 59 = .ok (.dup, 1) := by decide +kernel
theorem dX11_lays_60 : decode cX11_lays 60 = .ok (.getfield 325, 3) := by decide +kernel
theorem dX11_lays_63 : decode cX11_lays 63 = .ok (.iconst 1, 1) := by decide +kernel
theorem dX11_lays_64 : decode cX11_lays 64 = .ok (.iadd, 1) := by decide +kernel
theorem dX11_lays_65 : decode cX11_lays 65 = .ok (.putfield 325, 3) := by decide +kernel
theorem dX11_lays_68 : decode cX11_lays 68 = .ok (.aload_n 0, 1) := by decide +kernel
theorem dX11_lays_69 : decode cX11_lays 69 = .ok (.getfield 325, 3) := by decide +kernel
theorem dX11_lays_72 : decode cX11_lays 72 = .ok (.iconst 1, 1) := by decide +kernel
theorem dX11_lays_73 : decode cX11_lays 73 = .ok (.isub, 1) := by decide +kernel
theorem dX11_lays_74 : decode cX11_lays 74 = .ok (.ireturn, 1) := by decide +kernel
theorem dX11_note_0 : decode cX11_note 0 = .ok (.aload_n 0, 1) := by decide +kernel
theorem dX11_note_1 : decode cX11_note 1 = .ok (.iconst 0, 1) := by decide +kernel
theorem dX11_note_2 : decode cX11_note 2 = .ok (.putfield 124, 3) := by decide +kernel
theorem dX11_note_5 : decode cX11_note 5 = .ok (.iload_n 1, 1) := by decide +kernel
theorem dX11_note_6 : decode cX11_note 6 = .ok (.iconst 0, 1) := by decide +kernel
theorem dX11_note_7 : decode cX11_note 7 = .ok (.bipush 99, 2) := by decide +kernel
theorem dX11_note_9 : decode cX11_note 9 = .ok (.invokestatic 169, 3) := by decide +kernel
theorem dX11_note_12 : decode cX11_note 12 = .ok (.ifCond .eq 32, 3) := by decide +kernel
theorem dX11_note_15 : decode cX11_note 15 = .ok (.iload_n 2, 1) := by decide +kernel
theorem dX11_note_16 : decode cX11_note 16 = .ok (.iconst 0, 1) := by decide +kernel
theorem dX11_note_17 : decode cX11_note 17 = .ok (.bipush 9, 2) := by decide +kernel
theorem dX11_note_19 : decode cX11_note 19 = .ok (.invokestatic 169, 3) := by decide +kernel
theorem dX11_note_22 : decode cX11_note 22 = .ok (.ifCond .eq 22, 3) := by decide +kernel
theorem dX11_note_25 : decode cX11_note 25 = .ok (.aload_n 0, 1) := by decide +kernel
theorem dX11_note_26 : decode cX11_note 26 = .ok (.iconst 0, 1) := by decide +kernel
theorem dX11_note_27 : decode cX11_note 27 = .ok (.iload_n 1, 1) := by decide +kernel
theorem dX11_note_28 : decode cX11_note 28 = .ok (.iload_n 2, 1) := by decide +kernel
theorem dX11_note_29 : decode cX11_note 29 = .ok (.iload_n 3, 1) := by decide +kernel
theorem dX11_note_30 : decode cX11_note 30 = .ok (.ifCond .eq 7, 3) := by decide +kernel
theorem dX11_note_33 : decode cX11_note 33 = .ok (.iconst 1, 1) := by decide +kernel
theorem dX11_note_34 : decode cX11_note 34 = .ok (.goto 4, 3) := by decide +kernel
theorem dX11_note_37 : decode cX11_note 37 = .ok (.iconst 0, 1) := by decide +kernel
theorem dX11_note_38 : decode cX11_note 38 = .ok (.invokevirtual 439, 3) := by decide +kernel
theorem dX11_note_41 : decode cX11_note 41 = .ok (.goto 4, 3) := by decide +kernel
theorem dX11_note_44 : decode cX11_note 44 = .ok (.iconst (-1), 1) := by decide +kernel
theorem dX11_note_45 : decode cX11_note 45 = .ok (.ireturn, 1) := by decide +kernel
theorem dX11_see_0 : decode cX11_see 0 = .ok (.aload_n 0, 1) := by decide +kernel
theorem dX11_see_1 : decode cX11_see 1 = .ok (.iconst 0, 1) := by decide +kernel
theorem dX11_see_2 : decode cX11_see 2 = .ok (.putfield 124, 3) := by decide +kernel
theorem dX11_see_5 : decode cX11_see 5 = .ok (.iload_n 1, 1) := by decide +kernel
theorem dX11_see_6 : decode cX11_see 6 = .ok (.iconst 1, 1) := by decide +kernel
theorem dX11_see_7 : decode cX11_see 7 = .ok (.bipush 60, 2) := by decide +kernel
theorem dX11_see_9 : decode cX11_see 9 = .ok (.invokestatic 169, 3) := by decide +kernel
theorem dX11_see_12 : decode cX11_see 12 = .ok (.ifCond .eq 37, 3) := by decide +kernel
theorem dX11_see_15 : decode cX11_see 15 = .ok (.aload_n 0, 1) := by decide +kernel
theorem dX11_see_16 : decode cX11_see 16 = .ok (.iload_n 2, 1) := by decide +kernel
theorem dX11_see_17 : decode cX11_see 17 = .ok (.iload_n 3, 1) := by decide +kernel
theorem dX11_see_18 : decode cX11_see 18 = .ok (.invokevirtual 413, 3) := by decide +kernel
theorem dX11_see_21 : decode cX11_see 21 = .ok (.ifCond .eq 28, 3) := by decide +kernel
theorem dX11_see_24 : decode cX11_see 24 = .ok (.aload_n 0, 1) := by decide +kernel
theorem dX11_see_25 : decode cX11_see 25 = .ok (.iconst 1, 1) := by decide +kernel
theorem dX11_see_26 : decode cX11_see 26 = .ok (.iload_n 1, 1) := by decide +kernel
theorem dX11_see_27 : decode cX11_see 27 = .ok (.bipush 6, 2) := by decide +kernel
theorem dX11_see_29 : decode cX11_see 29 = .ok (.iload_n 2, 1) := by decide +kernel
theorem dX11_see_30 : decode cX11_see 30 = .ok (.imul, 1) := by decide +kernel
theorem dX11_see_31 : decode cX11_see 31 = .ok (.iload_n 3, 1) := by decide +kernel
theorem dX11_see_32 : decode cX11_see 32 = .ok (.iadd, 1) := by decide +kernel
theorem dX11_see_33 : decode cX11_see 33 = .ok (.iload 4, 2) := by decide +kernel
theorem dX11_see_35 : decode cX11_see 35 = .ok (.ifCond .eq 7, 3) := by decide +kernel
theorem dX11_see_38 : decode cX11_see 38 = .ok (.iconst 1, 1) := by decide +kernel
theorem dX11_see_39 : decode cX11_see 39 = .ok (.goto 4, 3) := by decide +kernel
theorem dX11_see_42 : decode cX11_see 42 = .ok (.iconst 0, 1) := by decide +kernel
theorem dX11_see_43 : decode cX11_see 43 = .ok (.invokevirtual 439, 3) := by decide +kernel
theorem dX11_see_46 : decode cX11_see 46 = .ok (.goto 4, 3) := by decide +kernel
theorem dX11_see_49 : decode cX11_see 49 = .ok (.iconst (-1), 1) := by decide +kernel
theorem dX11_see_50 : decode cX11_see 50 = .ok (.ireturn, 1) := by decide +kernel
theorem dX11_strike_0 : decode cX11_strike 0 = .ok (.aload_n 0, 1) := by decide +kernel
theorem dX11_strike_1 : decode cX11_strike 1 = .ok (.iconst 0, 1) := by decide +kernel
theorem dX11_strike_2 : decode cX11_strike 2 = .ok (.putfield 124, 3) := by decide +kernel
theorem dX11_strike_5 : decode cX11_strike 5 = .ok (.iload_n 1, 1) := by decide +kernel
theorem dX11_strike_6 : decode cX11_strike 6 = .ok (.ifCond .lt 11, 3) := by decide +kernel
theorem dX11_strike_9 : decode cX11_strike 9 = .ok (.iload_n 1, 1) := by decide +kernel
theorem dX11_strike_10 : decode cX11_strike 10 = .ok (.aload_n 0, 1) := by decide +kernel
theorem dX11_strike_11 : decode cX11_strike 11 = .ok (.getfield 325, 3) := by decide +kernel
theorem dX11_strike_14 : decode cX11_strike 14 = .ok (.if_icmp .lt 7, 3) := by decide +kernel
theorem dX11_strike_17 : decode cX11_strike 17 = .ok (.iconst (-1), 1) := by decide +kernel
theorem dX11_strike_18 : decode cX11_strike 18 = .ok (.goto 11, 3) := by decide +kernel
theorem dX11_strike_21 : decode cX11_strike 21 = .ok (.aload_n 0, 1) := by decide +kernel
theorem dX11_strike_22 : decode cX11_strike 22 = .ok (.iconst 2, 1) := by decide +kernel
theorem dX11_strike_23 : decode cX11_strike 23 = .ok (.iload_n 1, 1) := by decide +kernel
theorem dX11_strike_24 : decode cX11_strike 24 = .ok (.iconst 0, 1) := by decide +kernel
theorem dX11_strike_25 : decode cX11_strike 25 = .ok (.iconst 0, 1) := by decide +kernel
theorem dX11_strike_26 : decode cX11_strike 26 = .ok (.invokevirtual 439, 3) := by decide +kernel
theorem dX11_strike_29 : decode cX11_strike 29 = .ok (.ireturn, 1) := by decide +kernel
theorem dX11_known_0 : decode cX11_known 0 = .ok (.aload_n 0, 1) := by decide +kernel
theorem dX11_known_1 : decode cX11_known 1 = .ok (.iconst 0, 1) := by decide +kernel
theorem dX11_known_2 : decode cX11_known 2 = .ok (.putfield 124, 3) := by decide +kernel
theorem dX11_known_5 : decode cX11_known 5 = .ok (.iload_n 1, 1) := by decide +kernel
theorem dX11_known_6 : decode cX11_known 6 = .ok (.iconst (-1), 1) := by decide +kernel
theorem dX11_known_7 : decode cX11_known 7 = .ok (.aload_n 0, 1) := by decide +kernel
theorem dX11_known_8 : decode cX11_known 8 = .ok (.getfield 325, 3) := by decide +kernel
theorem dX11_known_11 : decode cX11_known 11 = .ok (.invokestatic 169, 3) := by decide +kernel
theorem dX11_known_14 : decode cX11_known 14 = .ok (.ifCond .ne 5, 3) := by decide +kernel
theorem dX11_known_17 : decode cX11_known 17 = .ok (.iconst 0, 1) := by decide +kernel
theorem dX11_known_18 : decode cX11_known 18 = .ok (.ireturn, 1) := by decide +kernel
theorem dX11_known_19 : decode cX11_known 19 = .ok (.aload_n 0, 1) := by decide +kernel
theorem dX11_known_20 : decode cX11_known 20 = .ok (.iload_n 1, 1) := by decide +kernel
theorem dX11_known_21 : decode cX11_known 21 = .ok (.putfield 103, 3) := by decide +kernel
theorem dX11_known_24 : decode cX11_known 24 = .ok (.iconst 1, 1) := by decide +kernel
theorem dX11_known_25 : decode cX11_known 25 = .ok (.ireturn, 1) := by decide +kernel
theorem dX11_knownBy_0 : decode cX11_knownBy 0 = .ok (.aload_n 0, 1) := by decide +kernel
theorem dX11_knownBy_1 : decode cX11_knownBy 1 = .ok (.getfield 103, 3) := by decide +kernel
theorem dX11_knownBy_4 : decode cX11_knownBy 4 = .ok (.ifCond .ge 10, 3) := by decide +kernel
theorem dX11_knownBy_7 : decode cX11_knownBy 7 = .ok (.aload_n 0, 1) := by decide +kernel
theorem dX11_knownBy_8 : decode cX11_knownBy 8 = .ok (.getfield 325, 3) := by decide +kernel
theorem dX11_knownBy_11 : decode cX11_knownBy 11 = .ok (.goto 7, 3) := by decide +kernel
theorem dX11_knownBy_14 : decode cX11_knownBy 14 = .ok (.aload_n 0, 1) := by decide +kernel
theorem dX11_knownBy_15 : decode cX11_knownBy 15 = .ok (.getfield 103, 3) := by decide +kernel
theorem dX11_knownBy_18 : decode cX11_knownBy 18 = .ok (.ireturn, 1) := by decide +kernel
theorem dX11_layCounts_0 : decode cX11_layCounts 0 = .ok (.iconst 0, 1) := by decide +kernel
theorem dX11_layCounts_1 : decode cX11_layCounts 1 = .ok (.istore_n 1, 1) := by decide +kernel
theorem dX11_layCounts_2 : decode cX11_layCounts 2 = .ok (.iload_n 1, 1) := by decide +kernel
theorem dX11_layCounts_3 : decode cX11_layCounts 3 = .ok (.aload_n 0, 1) := by decide +kernel
theorem dX11_layCounts_4 : decode cX11_layCounts 4 = .ok (.invokevirtual 442, 3) := by decide +kernel
theorem dX11_layCounts_7 : decode cX11_layCounts 7 = .ok (.if_icmp .ge 16, 3) := by decide +kernel
theorem dX11_layCounts_10 : decode cX11_layCounts 10 = .ok (.aload_n 0, 1) := by decide +kernel
theorem dX11_layCounts_11 : decode cX11_layCounts 11 = .ok (.getfield 109, 3) := by decide +kernel
theorem dX11_layCounts_14 : decode cX11_layCounts 14 = .ok (.iload_n 1, 1) := by decide +kernel
theorem dX11_layCounts_15 : decode cX11_layCounts 15 = .ok (.iconst 1, 1) := by decide +kernel
theorem dX11_layCounts_16 : decode cX11_layCounts 16 = .ok (.bastore, 1) := by decide +kernel
theorem dX11_layCounts_17 : decode cX11_layCounts 17 = .ok (.iinc 1 1, 3) := by decide +kernel
theorem dX11_layCounts_20 : decode cX11_layCounts 20 = .ok (.goto (-18), 3) := by decide +kernel
theorem dX11_layCounts_23 : decode cX11_layCounts 23 = .ok (.aload_n 0, 1) := by decide +kernel
theorem dX11_layCounts_24 : decode cX11_layCounts 24 = .ok (.invokevirtual 442, 3) := by decide +kernel
theorem dX11_layCounts_27 : decode cX11_layCounts 27 = .ok (.iconst 1, 1) := by decide +kernel
theorem dX11_layCounts_28 : decode cX11_layCounts 28 = .ok (.isub, 1) := by decide +kernel
theorem dX11_layCounts_29 : decode cX11_layCounts 29 = .ok (.istore_n 1, 1) := by decide +kernel
theorem dX11_layCounts_30 : decode cX11_layCounts 30 = .ok (.iload_n 1, 1) := by decide +kernel
theorem dX11_layCounts_31 : decode cX11_layCounts 31 = .ok (.ifCond .lt 46, 3) := by decide +kernel
theorem dX11_layCounts_34 : decode cX11_layCounts 34 = .ok (.aload_n 0, 1) := by decide +kernel
theorem dX11_layCounts_35 : decode cX11_layCounts 35 = .ok (.getfield 109, 3) := by decide +kernel
theorem dX11_layCounts_38 : decode cX11_layCounts 38 = .ok (.iload_n 1, 1) := by decide +kernel
theorem dX11_layCounts_39 : decode cX11_layCounts 39 = .ok (.baload, 1) := by decide +kernel
theorem dX11_layCounts_40 : decode cX11_layCounts 40 = .ok (.ifCond .eq 31, 3) := by decide +kernel
theorem dX11_layCounts_43 : decode cX11_layCounts 43 = .ok (.aload_n 0, 1) := by decide +kernel
theorem dX11_layCounts_44 : decode cX11_layCounts 44 = .ok (.getfield 106, 3) := by decide +kernel
theorem dX11_layCounts_47 : decode cX11_layCounts 47 = .ok (.iconst 4, 1) := by decide +kernel
theorem dX11_layCounts_48 : decode cX11_layCounts 48 = .ok (.iload_n 1, 1) := by decide +kernel
theorem dX11_layCounts_49 : decode cX11_layCounts 49 = .ok (.imul, 1) := by decide +kernel
theorem dX11_layCounts_50 : decode cX11_layCounts 50 = .ok (.iaload, 1) := by decide +kernel
theorem dX11_layCounts_51 : decode cX11_layCounts 51 = .ok (.iconst 2, 1) := by decide +kernel
theorem dX11_layCounts_52 : decode cX11_layCounts 52 = .ok (.if_icmp .ne 19, 3) := by decide +kernel
theorem dX11_layCounts_55 : decode cX11_layCounts 55 = .ok (.aload_n 0, 1) := by decide +kernel
theorem dX11_layCounts_56 : decode cX11_layCounts 56 = .ok (.getfield 109, 3) := by decide +kernel
theorem dX11_layCounts_59 : decode cX11_layCounts 59 = .ok (.aload_n 0, 1) := by decide +kernel
theorem dX11_layCounts_60 : decode cX11_layCounts 60 = .ok (.getfield 106, 3) := by decide +kernel
theorem dX11_layCounts_63 : decode cX11_layCounts 63 = .ok (.iconst 4, 1) := by decide +kernel
theorem dX11_layCounts_64 : decode cX11_layCounts 64 = .ok (.iload_n 1, 1) := by decide +kernel
theorem dX11_layCounts_65 : decode cX11_layCounts 65 = .ok (.imul, 1) := by decide +kernel
theorem dX11_layCounts_66 : decode cX11_layCounts 66 = .ok (.iconst 1, 1) := by decide +kernel
theorem dX11_layCounts_67 : decode cX11_layCounts 67 = .ok (.iadd, 1) := by decide +kernel
theorem dX11_layCounts_68 : decode cX11_layCounts 68 = .ok (.iaload, 1) := by decide +kernel
theorem dX11_layCounts_69 : decode cX11_layCounts 69 = .ok (.iconst 0, 1) := by decide +kernel
theorem dX11_layCounts_70 : decode cX11_layCounts 70 = .ok (.bastore, 1) := by decide +kernel
theorem dX11_layCounts_71 : decode cX11_layCounts 71 = .ok (.iinc 1 (-1), 3) := by decide +kernel
theorem dX11_layCounts_74 : decode cX11_layCounts 74 = .ok (.goto (-44), 3) := by decide +kernel
theorem dX11_layCounts_77 : decode cX11_layCounts 77 = .ok (.return_, 1) := by decide +kernel
theorem dX11_whoseBits_0 : decode cX11_whoseBits 0 = .ok (.aload_n 0, 1) := by decide +kernel
theorem dX11_whoseBits_1 : decode cX11_whoseBits 1 = .ok (.invokevirtual 445, 3) := by decide +kernel
theorem dX11_whoseBits_4 : decode cX11_whoseBits 4 = .ok (.iconst 0, 1) := by decide +kernel
theorem dX11_whoseBits_5 : decode cX11_whoseBits 5 = .ok (.istore_n 1, 1) := by decide +kernel
theorem dX11_whoseBits_6 : decode cX11_whoseBits 6 = .ok (.iconst 0, 1) := by decide +kernel
theorem dX11_whoseBits_7 : decode cX11_whoseBits 7 = .ok (.istore_n 2, 1) := by decide +kernel
theorem dX11_whoseBits_8 : decode cX11_whoseBits 8 = .ok (.iload_n 2, 1) := by decide +kernel
theorem dX11_whoseBits_9 : decode cX11_whoseBits 9 = .ok (.aload_n 0, 1) := by decide +kernel
theorem dX11_whoseBits_10 : decode cX11_whoseBits 10 = .ok (.getfield 201, 3) := by decide +kernel
theorem dX11_whoseBits_13 : decode cX11_whoseBits 13 = .ok (.if_icmp .ge 140, 3) := by decide +kernel
theorem dX11_whoseBits_16 : decode cX11_whoseBits 16 = .ok (.iconst 1, 1) := by decide +kernel
theorem dX11_whoseBits_17 : decode cX11_whoseBits 17 = .ok (.istore_n 3, 1) := by decide +kernel
theorem dX11_whoseBits_18 : decode cX11_whoseBits 18 = .ok (.iconst 0, 1) := by decide +kernel
theorem dX11_whoseBits_19 : decode cX11_whoseBits 19 = .ok (.istore 4, 2) := by decide +kernel
theorem dX11_whoseBits_21 : decode cX11_whoseBits 21 = .ok (.iload 4, 2) := by decide +kernel
theorem dX11_whoseBits_23 : decode cX11_whoseBits 23 = .ok (.aload_n 0, 1) := by decide +kernel
theorem dX11_whoseBits_24 : decode cX11_whoseBits 24 = .ok (.invokevirtual 442, 3) := by decide +kernel
theorem dX11_whoseBits_27 : decode cX11_whoseBits 27 = .ok (.if_icmp .ge 106, 3) := by decide +kernel
theorem dX11_whoseBits_30 : decode cX11_whoseBits 30 = .ok (.aload_n 0, 1) := by decide +kernel
theorem dX11_whoseBits_31 : decode cX11_whoseBits 31 = .ok (.getfield 109, 3) := by decide +kernel
theorem dX11_whoseBits_34 : decode cX11_whoseBits 34 = .ok (.iload 4, 2) := by decide +kernel
theorem dX11_whoseBits_36 : decode cX11_whoseBits 36 = .ok (.baload, 1) := by decide +kernel
theorem dX11_whoseBits_37 : decode cX11_whoseBits 37 = .ok (.ifCond .eq 90, 3) := by decide +kernel
theorem dX11_whoseBits_40 : decode cX11_whoseBits 40 = .ok (.aload_n 0, 1) := by decide +kernel
theorem dX11_whoseBits_41 : decode cX11_whoseBits 41 = .ok (.getfield 106, 3) := by decide +kernel
theorem dX11_whoseBits_44 : decode cX11_whoseBits 44 = .ok (.iconst 4, 1) := by decide +kernel
theorem dX11_whoseBits_45 : decode cX11_whoseBits 45 = .ok (.iload 4, 2) := by decide +kernel
theorem dX11_whoseBits_47 : decode cX11_whoseBits 47 = .ok (.imul, 1) := by decide +kernel
theorem dX11_whoseBits_48 : decode cX11_whoseBits 48 = .ok (.iaload, 1) := by decide +kernel
theorem dX11_whoseBits_49 : decode cX11_whoseBits 49 = .ok (.ifCond .eq 6, 3) := by decide +kernel
theorem dX11_whoseBits_52 : decode cX11_whoseBits 52 = .ok (.goto 75, 3) := by decide +kernel
theorem dX11_whoseBits_55 : decode cX11_whoseBits 55 = .ok (.aload_n 0, 1) := by decide +kernel
theorem dX11_whoseBits_56 : decode cX11_whoseBits 56 = .ok (.iload_n 2, 1) := by decide +kernel
theorem dX11_whoseBits_57 : decode cX11_whoseBits 57 = .ok (.aload_n 0, 1) := by decide +kernel
theorem dX11_whoseBits_58 : decode cX11_whoseBits 58 = .ok (.getfield 106, 3) := by decide +kernel
theorem dX11_whoseBits_61 : decode cX11_whoseBits 61 = .ok (.iconst 4, 1) := by decide +kernel
theorem dX11_whoseBits_62 : decode cX11_whoseBits 62 = .ok (.iload 4, 2) := by decide +kernel
theorem dX11_whoseBits_64 : decode cX11_whoseBits 64 = .ok (.imul, 1) := by decide +kernel
theorem dX11_whoseBits_65 : decode cX11_whoseBits 65 = .ok (.iconst 1, 1) := by decide +kernel
theorem dX11_whoseBits_66 : decode cX11_whoseBits 66 = .ok (.iadd, 1) := by decide +kernel
theorem dX11_whoseBits_67 : decode cX11_whoseBits 67 = .ok (.iaload, 1) := by decide +kernel
theorem dX11_whoseBits_68 : decode cX11_whoseBits 68 = .ok (.invokevirtual 416, 3) := by decide +kernel
theorem dX11_whoseBits_71 : decode cX11_whoseBits 71 = .ok (.aload_n 0, 1) := by decide +kernel
theorem dX11_whoseBits_72 : decode cX11_whoseBits 72 = .ok (.getfield 106, 3) := by decide +kernel
theorem dX11_whoseBits_75 : decode cX11_whoseBits 75 = .ok (.iconst 4, 1) := by decide +kernel
theorem dX11_whoseBits_76 : decode cX11_whoseBits 76 = .ok (.iload 4, 2) := by decide +kernel
theorem dX11_whoseBits_78 : decode cX11_whoseBits 78 = .ok (.imul, 1) := by decide +kernel
theorem dX11_whoseBits_79 : decode cX11_whoseBits 79 = .ok (.iconst 2, 1) := by decide +kernel
theorem dX11_whoseBits_80 : decode cX11_whoseBits 80 = .ok (.iadd, 1) := by decide +kernel
theorem dX11_whoseBits_81 : decode cX11_whoseBits 81 = .ok (.iaload, 1) := by decide +kernel
theorem dX11_whoseBits_82 : decode cX11_whoseBits 82 = .ok (.if_icmp .ne 7, 3) := by decide +kernel
theorem dX11_whoseBits_85 : decode cX11_whoseBits 85 = .ok (.iconst 1, 1) := by decide +kernel
theorem dX11_whoseBits_86 : decode cX11_whoseBits 86 = .ok (.goto 4, 3) := by decide +kernel
theorem dX11_whoseBits_89 : decode cX11_whoseBits 89 = .ok (.iconst 0, 1) := by decide +kernel
theorem dX11_whoseBits_90 : decode cX11_whoseBits 90 = .ok (.istore 5, 2) := by decide +kernel
theorem dX11_whoseBits_92 : decode cX11_whoseBits 92 = .ok (.iload_n 3, 1) := by decide +kernel
theorem dX11_whoseBits_93 : decode cX11_whoseBits 93 = .ok (.ifCond .eq 32, 3) := by decide +kernel
theorem dX11_whoseBits_96 : decode cX11_whoseBits 96 = .ok (.iload 5, 2) := by decide +kernel
theorem dX11_whoseBits_98 : decode cX11_whoseBits 98 = .ok (.aload_n 0, 1) := by decide +kernel
theorem dX11_whoseBits_99 : decode cX11_whoseBits 99 = .ok (.getfield 106, 3) := by decide +kernel
theorem dX11_whoseBits_102 : decode cX11_whoseBits 102 = .ok (.iconst 4, 1) := by decide +kernel
theorem dX11_whoseBits_103 : decode cX11_whoseBits 103 = .ok (.iload 4, 2) := by decide +kernel
theorem dX11_whoseBits_105 : decode cX11_whoseBits 105 = .ok (.imul, 1) := by decide +kernel
theorem dX11_whoseBits_106 : decode cX11_whoseBits 106 = .ok (.iconst 3, 1) := by decide +kernel
theorem dX11_whoseBits_107 : decode cX11_whoseBits 107 = .ok (.iadd, 1) := by decide +kernel
theorem dX11_whoseBits_108 : decode cX11_whoseBits 108 = .ok (.iaload, 1) := by decide +kernel
theorem dX11_whoseBits_109 : decode cX11_whoseBits 109 = .ok (.iconst 1, 1) := by decide +kernel
theorem dX11_whoseBits_110 : decode cX11_whoseBits 110 = .ok (.if_icmp .ne 7, 3) := by decide +kernel
theorem dX11_whoseBits_113 : decode cX11_whoseBits 113 = .ok (.iconst 1, 1) := by decide +kernel
theorem dX11_whoseBits_114 : decode cX11_whoseBits 114 = .ok (.goto 4, 3) := by decide +kernel
theorem dX11_whoseBits_117 : decode cX11_whoseBits 117 = .ok (.iconst 0, 1) := by decide +kernel
theorem dX11_whoseBits_118 : decode cX11_whoseBits 118 = .ok (.if_icmp .ne 7, 3) := by decide +kernel
theorem dX11_whoseBits_121 : decode cX11_whoseBits 121 = .ok (.iconst 1, 1) := by decide +kernel
theorem dX11_whoseBits_122 : decode cX11_whoseBits 122 = .ok (.goto 4, 3) := by decide +kernel
theorem dX11_whoseBits_125 : decode cX11_whoseBits 125 = .ok (.iconst 0, 1) := by decide +kernel
theorem dX11_whoseBits_126 : decode cX11_whoseBits 126 = .ok (.istore_n 3, 1) := by decide +kernel
theorem dX11_whoseBits_127 : decode cX11_whoseBits 127 = .ok (.iinc 4 1, 3) := by decide +kernel
theorem dX11_whoseBits_130 : decode cX11_whoseBits 130 = .ok (.goto (-109), 3) := by decide +kernel
theorem dX11_whoseBits_133 : decode cX11_whoseBits 133 = .ok (.iload_n 1, 1) := by decide +kernel
theorem dX11_whoseBits_134 : decode cX11_whoseBits 134 = .ok (.iload_n 3, 1) := by decide +kernel
theorem dX11_whoseBits_135 : decode cX11_whoseBits 135 = .ok (.ifCond .eq 9, 3) := by decide +kernel
theorem dX11_whoseBits_138 : decode cX11_whoseBits 138 = .ok (.iconst 1, 1) := by decide +kernel
theorem dX11_whoseBits_139 : decode cX11_whoseBits 139 = .ok (.iload_n 2, 1) := by decide +kernel
theorem dX11_whoseBits_140 : decode cX11_whoseBits 140 = .ok (.ishl, 1) := by decide +kernel
theorem dX11_whoseBits_141 : decode cX11_whoseBits 141 = .ok (.goto 4, 3) := by decide +kernel
theorem dX11_whoseBits_144 : decode cX11_whoseBits 144 = .ok (.iconst 0, 1) := by decide +kernel
theorem dX11_whoseBits_145 : decode cX11_whoseBits 145 = .ok (.ior, 1) := by decide +kernel
theorem dX11_whoseBits_146 : decode cX11_whoseBits 146 = .ok (.istore_n 1, 1) := by decide +kernel
theorem dX11_whoseBits_147 : decode cX11_whoseBits 147 = .ok (.iinc 2 1, 3) := by decide +kernel
theorem dX11_whoseBits_150 : decode cX11_whoseBits 150 = .ok (.goto (-142), 3) := by decide +kernel
theorem dX11_whoseBits_153 : decode cX11_whoseBits 153 = .ok (.iload_n 1, 1) := by decide +kernel
theorem dX11_whoseBits_154 : decode cX11_whoseBits 154 = .ok (.ireturn, 1) := by decide +kernel
theorem dX11_whose_0 : decode cX11_whose 0 = .ok (.aload_n 0, 1) := by decide +kernel
theorem dX11_whose_1 : decode cX11_whose 1 = .ok (.iconst 0, 1) := by decide +kernel
theorem dX11_whose_2 : decode cX11_whose 2 = .ok (.putfield 124, 3) := by decide +kernel
theorem dX11_whose_5 : decode cX11_whose 5 = .ok (.aload_n 0, 1) := by decide +kernel
theorem dX11_whose_6 : decode cX11_whose 6 = .ok (.invokevirtual 448, 3) := by decide +kernel
theorem dX11_whose_9 : decode cX11_whose 9 = .ok (.ireturn, 1) := by decide +kernel
theorem dX11_worstAt_0 : decode cX11_worstAt 0 = .ok (.iconst 0, 1) := by decide +kernel
theorem dX11_worstAt_1 : decode cX11_worstAt 1 = .ok (.istore_n 3, 1) := by decide +kernel
theorem dX11_worstAt_2 : decode cX11_worstAt 2 = .ok (.iconst 0, 1) := by decide +kernel
theorem dX11_worstAt_3 : decode cX11_worstAt 3 = .ok (.istore 4, 2) := by decide +kernel
theorem dX11_worstAt_5 : decode cX11_worstAt 5 = .ok (.iload 4, 2) := by decide +kernel
theorem dX11_worstAt_7 : decode cX11_worstAt 7 = .ok (.bipush 10, 2) := by decide +kernel
theorem dX11_worstAt_9 : decode cX11_worstAt 9 = .ok (.if_icmp .ge 74, 3) := by decide +kernel
theorem dX11_worstAt_12 : decode cX11_worstAt 12 = .ok (.iconst 0, 1) := by decide +kernel
theorem dX11_worstAt_13 : decode cX11_worstAt 13 = .ok (.istore 5, 2) := by decide +kernel
theorem dX11_worstAt_15 : decode cX11_worstAt 15 = .ok (.iconst 0, 1) := by decide +kernel
theorem dX11_worstAt_16 : decode cX11_worstAt 16 = .ok (.istore 6, 2) := by decide +kernel
theorem dX11_worstAt_18 : decode cX11_worstAt 18 = .ok (.iload 6, 2) := by decide +kernel
theorem dX11_worstAt_20 : decode cX11_worstAt 20 = .ok (.aload_n 0, 1) := by decide +kernel
theorem dX11_worstAt_21 : decode cX11_worstAt 21 = .ok (.getfield 201, 3) := by decide +kernel
theorem dX11_worstAt_24 : decode cX11_worstAt 24 = .ok (.if_icmp .ge 40, 3) := by decide +kernel
theorem dX11_worstAt_27 : decode cX11_worstAt 27 = .ok (.iload 5, 2) := by decide +kernel
theorem dX11_worstAt_29 : decode cX11_worstAt 29 = .ok (.iload_n 1, 1) := by decide +kernel
theorem dX11_worstAt_30 : decode cX11_worstAt 30 = .ok (.iload 6, 2) := by decide +kernel
theorem dX11_worstAt_32 : decode cX11_worstAt 32 = .ok (.invokestatic 451, 3) := by decide +kernel
theorem dX11_worstAt_35 : decode cX11_worstAt 35 = .ok (.ifCond .eq 19, 3) := by decide +kernel
theorem dX11_worstAt_38 : decode cX11_worstAt 38 = .ok (.aload_n 0, 1) := by decide +kernel
theorem dX11_worstAt_39 : decode cX11_worstAt 39 = .ok (.iload 6, 2) := by decide +kernel
theorem dX11_worstAt_41 : decode cX11_worstAt 41 = .ok (.iload_n 2, 1) := by decide +kernel
theorem dX11_worstAt_42 : decode cX11_worstAt 42 = .ok (.invokevirtual 416, 3) := by decide +kernel
theorem dX11_worstAt_45 : decode cX11_worstAt 45 = .ok (.iload 4, 2) := by decide +kernel
theorem dX11_worstAt_47 : decode cX11_worstAt 47 = .ok (.if_icmp .ne 7, 3) := by decide +kernel
theorem dX11_worstAt_50 : decode cX11_worstAt 50 = .ok (.iconst 1, 1) := by decide +kernel
theorem dX11_worstAt_51 : decode cX11_worstAt 51 = .ok (.goto 4, 3) := by decide +kernel
theorem dX11_worstAt_54 : decode cX11_worstAt 54 = .ok (.iconst 0, 1) := by decide +kernel
theorem dX11_worstAt_55 : decode cX11_worstAt 55 = .ok (.iadd, 1) := by decide +kernel
theorem dX11_worstAt_56 : decode cX11_worstAt 56 = .ok (.istore 5, 2) := by decide +kernel
theorem dX11_worstAt_58 : decode cX11_worstAt 58 = .ok (.iinc 6 1, 3) := by decide +kernel
theorem dX11_worstAt_61 : decode cX11_worstAt 61 = .ok (.goto (-43), 3) := by decide +kernel
theorem dX11_worstAt_64 : decode cX11_worstAt 64 = .ok (.iload 5, 2) := by decide +kernel
theorem dX11_worstAt_66 : decode cX11_worstAt 66 = .ok (.iload_n 3, 1) := by decide +kernel
theorem dX11_worstAt_67 : decode cX11_worstAt 67 = .ok (.if_icmp .le 8, 3) := by decide +kernel
theorem dX11_worstAt_70 : decode cX11_worstAt 70 = .ok (.iload 5, 2) := by decide +kernel
theorem dX11_worstAt_72 : decode cX11_worstAt 72 = .ok (.goto 4, 3) := by decide +kernel
theorem dX11_worstAt_75 : decode cX11_worstAt 75 = .ok (.iload_n 3, 1) := by decide +kernel
theorem dX11_worstAt_76 : decode cX11_worstAt 76 = .ok (.istore_n 3, 1) := by decide +kernel
theorem dX11_worstAt_77 : decode cX11_worstAt 77 = .ok (.iinc 4 1, 3) := by decide +kernel
theorem dX11_worstAt_80 : decode cX11_worstAt 80 = .ok (.goto (-75), 3) := by decide +kernel
theorem dX11_worstAt_83 : decode cX11_worstAt 83 = .ok (.iload_n 3, 1) := by decide +kernel
theorem dX11_worstAt_84 : decode cX11_worstAt 84 = .ok (.ireturn, 1) := by decide +kernel
theorem dX11_ask_0 : decode cX11_ask 0 = .ok (.aload_n 0, 1) := by decide +kernel
theorem dX11_ask_1 : decode cX11_ask 1 = .ok (.iconst 0, 1) := by decide +kernel
theorem dX11_ask_2 : decode cX11_ask 2 = .ok (.putfield 124, 3) := by decide +kernel
theorem dX11_ask_5 : decode cX11_ask 5 = .ok (.iload_n 1, 1) := by decide +kernel
theorem dX11_ask_6 : decode cX11_ask 6 = .ok (.iconst 0, 1) := by decide +kernel
theorem dX11_ask_7 : decode cX11_ask 7 = .ok (.iconst 1, 1) := by decide +kernel
theorem dX11_ask_8 : decode cX11_ask 8 = .ok (.invokestatic 169, 3) := by decide +kernel
theorem dX11_ask_11 : decode cX11_ask 11 = .ok (.ifCond .ne 5, 3) := by decide +kernel
theorem dX11_ask_14 : decode cX11_ask 14 = .ok (.iconst (-1), 1) := by decide +kernel
theorem dX11_ask_15 : decode cX11_ask 15 = .ok (.ireturn, 1) := by decide +kernel
theorem dX11_ask_16 : decode cX11_ask 16 = .ok (.aload_n 0, 1) := by decide +kernel
theorem dX11_ask_17 : decode cX11_ask 17 = .ok (.invokevirtual 448, 3) := by decide +kernel
theorem dX11_ask_20 : decode cX11_ask 20 = .ok (.istore_n 2, 1) := by decide +kernel
theorem dX11_ask_21 : decode cX11_ask 21 = .ok (.iconst 0, 1) := by decide +kernel
theorem dX11_ask_22 : decode cX11_ask 22 = .ok (.istore_n 3, 1) := by decide +kernel
theorem dX11_ask_23 : decode cX11_ask 23 = .ok (.iconst 1, 1) := by decide +kernel
theorem dX11_ask_24 : decode cX11_ask 24 = .ok (.istore 4, 2) := by decide +kernel
theorem dX11_ask_26 : decode cX11_ask 26 = .ok (.iload 4, 2) := by decide +kernel
theorem dX11_ask_28 : decode cX11_ask 28 = .ok (.bipush 24, 2) := by decide +kernel
theorem dX11_ask_30 : decode cX11_ask 30 = .ok (.if_icmp .ge 32, 3) := by decide +kernel
theorem dX11_ask_33 : decode cX11_ask 33 = .ok (.aload_n 0, 1) := by decide +kernel
theorem dX11_ask_34 : decode cX11_ask 34 = .ok (.iload_n 2, 1) := by decide +kernel
theorem dX11_ask_35 : decode cX11_ask 35 = .ok (.iload 4, 2) := by decide +kernel
theorem dX11_ask_37 : decode cX11_ask 37 = .ok (.invokevirtual 454, 3) := by decide +kernel
theorem dX11_ask_40 : decode cX11_ask 40 = .ok (.aload_n 0, 1) := by decide +kernel
theorem dX11_ask_41 : decode cX11_ask 41 = .ok (.iload_n 2, 1) := by decide +kernel
theorem dX11_ask_42 : decode cX11_ask 42 = .ok (.iload_n 3, 1) := by decide +kernel
theorem dX11_ask_43 : decode cX11_ask 43 = .ok (.invokevirtual 454, 3) := by decide +kernel
theorem dX11_ask_46 : decode cX11_ask 46 = .ok (.if_icmp .ge 8, 3) := by decide +kernel
theorem dX11_ask_49 : decode cX11_ask 49 = .ok (.iload 4, 2) := by decide +kernel
theorem dX11_ask_51 : decode cX11_ask 51 = .ok (.goto 4, 3) := by decide +kernel
theorem dX11_ask_54 : decode cX11_ask 54 = .ok (.iload_n 3, 1) := by decide +kernel
theorem dX11_ask_55 : decode cX11_ask 55 = .ok (.istore_n 3, 1) := by decide +kernel
theorem dX11_ask_56 : decode cX11_ask 56 = .ok (.iinc 4 1, 3) := by decide +kernel
theorem dX11_ask_59 : decode cX11_ask 59 = .ok (.goto (-33), 3) := by decide +kernel
theorem dX11_ask_62 : decode cX11_ask 62 = .ok (.iload_n 1, 1) := by decide +kernel
theorem dX11_ask_63 : decode cX11_ask 63 = .ok (.ifCond .ne 7, 3) := by decide +kernel
theorem dX11_ask_66 : decode cX11_ask 66 = .ok (.iload_n 3, 1) := by decide +kernel
theorem dX11_ask_67 : decode cX11_ask 67 = .ok (.goto 9, 3) := by decide +kernel
theorem dX11_ask_70 : decode cX11_ask 70 = .ok (.aload_n 0, 1) := by decide +kernel
theorem dX11_ask_71 : decode cX11_ask 71 = .ok (.iload_n 2, 1) := by decide +kernel
theorem dX11_ask_72 : decode cX11_ask 72 = .ok (.iload_n 3, 1) := by decide +kernel
theorem dX11_ask_73 : decode cX11_ask 73 = .ok (.invokevirtual 454, 3) := by decide +kernel
theorem dX11_ask_76 : decode cX11_ask 76 = .ok (.ireturn, 1) := by decide +kernel
theorem dX11_isSo_0 : decode cX11_isSo 0 = .ok (.iconst 0, 1) := by decide +kernel
theorem dX11_isSo_1 : decode cX11_isSo 1 = .ok (.istore_n 2, 1) := by decide +kernel
theorem dX11_isSo_2 : decode cX11_isSo 2 = .ok (.iload_n 2, 1) := by decide +kernel
theorem dX11_isSo_3 : decode cX11_isSo 3 = .ok (.aload_n 0, 1) := by decide +kernel
theorem dX11_isSo_4 : decode cX11_isSo 4 = .ok (.invokevirtual 442, 3) := by decide +kernel
theorem dX11_isSo_7 : decode cX11_isSo 7 = .ok (.if_icmp .ge 89, 3) := by decide +kernel
theorem dX11_isSo_10 : decode cX11_isSo 10 = .ok (.aload_n 0, 1) := by decide +kernel
theorem dX11_isSo_11 : decode cX11_isSo 11 = .ok (.getfield 109, 3) := by decide +kernel
theorem dX11_isSo_14 : decode cX11_isSo 14 = .ok (.iload_n 2, 1) := by decide +kernel
theorem dX11_isSo_15 : decode cX11_isSo 15 = .ok (.baload, 1) := by decide +kernel
theorem dX11_isSo_16 : decode cX11_isSo 16 = .ok (.ifCond .eq 74, 3) := by decide +kernel
theorem dX11_isSo_19 : decode cX11_isSo 19 = .ok (.aload_n 0, 1) := by decide +kernel
theorem dX11_isSo_20 : decode cX11_isSo 20 = .ok (.getfield 106, 3) := by decide +kernel
theorem dX11_isSo_23 : decode cX11_isSo 23 = .ok (.iconst 4, 1) := by decide +kernel
theorem dX11_isSo_24 : decode cX11_isSo 24 = .ok (.iload_n 2, 1) := by decide +kernel
theorem dX11_isSo_25 : decode cX11_isSo 25 = .ok (.imul, 1) := by decide +kernel
theorem dX11_isSo_26 : decode cX11_isSo 26 = .ok (.iaload, 1) := by decide +kernel
theorem dX11_isSo_27 : decode cX11_isSo 27 = .ok (.iconst 1, 1) := by decide +kernel
theorem dX11_isSo_28 : decode cX11_isSo 28 = .ok (.if_icmp .ne 62, 3) := by decide +kernel
theorem dX11_isSo_31 : decode cX11_isSo 31 = .ok (.aload_n 0, 1) := by decide +kernel
theorem dX11_isSo_32 : decode cX11_isSo 32 = .ok (.getfield 106, 3) := by decide +kernel
theorem dX11_isSo_35 : decode cX11_isSo 35 = .ok (.iconst 4, 1) := by decide +kernel
theorem dX11_isSo_36 : decode cX11_isSo 36 = .ok (.iload_n 2, 1) := by decide +kernel
theorem dX11_isSo_37 : decode cX11_isSo 37 = .ok (.imul, 1) := by decide +kernel
theorem dX11_isSo_38 : decode cX11_isSo 38 = .ok (.iconst 1, 1) := by decide +kernel
theorem dX11_isSo_39 : decode cX11_isSo 39 = .ok (.iadd, 1) := by decide +kernel
theorem dX11_isSo_40 : decode cX11_isSo 40 = .ok (.iaload, 1) := by decide +kernel
theorem dX11_isSo_41 : decode cX11_isSo 41 = .ok (.iload_n 1, 1) := by decide +kernel
theorem dX11_isSo_42 : decode cX11_isSo 42 = .ok (.if_icmp .eq 6, 3) := by decide +kernel
theorem dX11_isSo_45 : decode cX11_isSo 45 = .ok (.goto 45, 3) := by decide +kernel
theorem dX11_isSo_48 : decode cX11_isSo 48 = .ok (.aload_n 0, 1) := by decide +kernel
theorem dX11_isSo_49 : decode cX11_isSo 49 = .ok (.getfield 97, 3) := by decide +kernel
theorem dX11_isSo_52 : decode cX11_isSo 52 = .ok (.bipush 36, 2) := by decide +kernel
theorem dX11_isSo_54 : decode cX11_isSo 54 = .ok (.aload_n 0, 1) := by decide +kernel
theorem dX11_isSo_55 : decode cX11_isSo 55 = .ok (.getfield 106, 3) := by decide +kernel
theorem dX11_isSo_58 : decode cX11_isSo 58 = .ok (.iconst 4, 1) := by decide +kernel
theorem dX11_isSo_59 : decode cX11_isSo 59 = .ok (.iload_n 2, 1) := by decide +kernel
theorem dX11_isSo_60 : decode cX11_isSo 60 = .ok (.imul, 1) := by decide +kernel
theorem dX11_isSo_61 : decode cX11_isSo 61 = .ok (.iconst 2, 1) := by decide +kernel
theorem dX11_isSo_62 : decode cX11_isSo 62 = .ok (.iadd, 1) := by decide +kernel
theorem dX11_isSo_63 : decode cX11_isSo 63 = .ok (.iaload, 1) := by decide +kernel
theorem dX11_isSo_64 : decode cX11_isSo 64 = .ok (.iadd, 1) := by decide +kernel
theorem dX11_isSo_65 : decode cX11_isSo 65 = .ok (.baload, 1) := by decide +kernel
theorem dX11_isSo_66 : decode cX11_isSo 66 = .ok (.aload_n 0, 1) := by decide +kernel
theorem dX11_isSo_67 : decode cX11_isSo 67 = .ok (.getfield 106, 3) := by decide +kernel
theorem dX11_isSo_70 : decode cX11_isSo 70 = .ok (.iconst 4, 1) := by decide +kernel
theorem dX11_isSo_71 : decode cX11_isSo 71 = .ok (.iload_n 2, 1) := by decide +kernel
theorem dX11_isSo_72 : decode cX11_isSo 72 = .ok (.imul, 1) := by decide +kernel
theorem dX11_isSo_73 : decode cX11_isSo 73 = .ok (.iconst 3, 1) := by decide +kernel
theorem dX11_isSo_74 : decode cX11_isSo 74 = .ok (.iadd, 1) := by decide +kernel
theorem dX11_isSo_75 : decode cX11_isSo 75 = .ok (.iaload, 1) := by decide +kernel
theorem dX11_isSo_76 : decode cX11_isSo 76 = .ok (.iconst 1, 1) := by decide +kernel
theorem dX11_isSo_77 : decode cX11_isSo 77 = .ok (.if_icmp .ne 7, 3) := by decide +kernel
theorem dX11_isSo_80 : decode cX11_isSo 80 = .ok (.iconst 1, 1) := by decide +kernel
theorem dX11_isSo_81 : decode cX11_isSo 81 = .ok (.goto 4, 3) := by decide +kernel
theorem dX11_isSo_84 : decode cX11_isSo 84 = .ok (.iconst 0, 1) := by decide +kernel
theorem dX11_isSo_85 : decode cX11_isSo 85 = .ok (.if_icmp .eq 5, 3) := by decide +kernel
theorem dX11_isSo_88 : decode cX11_isSo 88 = .ok (.iconst 0, 1) := by decide +kernel
theorem dX11_isSo_89 : decode cX11_isSo 89 = .ok (.ireturn, 1) := by decide +kernel
theorem dX11_isSo_90 : decode cX11_isSo 90 = .ok (.iinc 2 1, 3) := by decide +kernel
theorem dX11_isSo_93 : decode cX11_isSo 93 = .ok (.goto (-91), 3) := by decide +kernel
theorem dX11_isSo_96 : decode cX11_isSo 96 = .ok (.iconst 1, 1) := by decide +kernel
theorem dX11_isSo_97 : decode cX11_isSo 97 = .ok (.ireturn, 1) := by decide +kernel
theorem dX11_fits_0 : decode cX11_fits 0 = .ok (.aload_n 0, 1) := by decide +kernel
theorem dX11_fits_1 : decode cX11_fits 1 = .ok (.iconst 1, 1) := by decide +kernel
theorem dX11_fits_2 : decode cX11_fits 2 = .ok (.invokevirtual 315, 3) := by decide +kernel
theorem dX11_fits_5 : decode cX11_fits 5 = .ok (.aload_n 0, 1) := by decide +kernel
theorem dX11_fits_6 : decode cX11_fits 6 = .ok (.invokevirtual 322, 3) := by decide +kernel
theorem dX11_fits_9 : decode cX11_fits 9 = .ok (.aload_n 0, 1) := by decide +kernel
theorem dX11_fits_10 : decode cX11_fits 10 = .ok (.iload_n 1, 1) := by decide +kernel
theorem dX11_fits_11 : decode cX11_fits 11 = .ok (.putfield 349, 3) := by decide +kernel
theorem dX11_fits_14 : decode cX11_fits 14 = .ok (.iconst 1, 1) := by decide +kernel
theorem dX11_fits_15 : decode cX11_fits 15 = .ok (.istore_n 2, 1) := by decide +kernel
theorem dX11_fits_16 : decode cX11_fits 16 = .ok (.iload_n 2, 1) := by decide +kernel
theorem dX11_fits_17 : decode cX11_fits 17 = .ok (.bipush 60, 2) := by decide +kernel
theorem dX11_fits_19 : decode cX11_fits 19 = .ok (.if_icmp .gt 24, 3) := by decide +kernel
theorem dX11_fits_22 : decode cX11_fits 22 = .ok (.aload_n 0, 1) := by decide +kernel
theorem dX11_fits_23 : decode cX11_fits 23 = .ok (.iconst 1, 1) := by decide +kernel
theorem dX11_fits_24 : decode cX11_fits 24 = .ok (.invokevirtual 397, 3) := by decide +kernel
theorem dX11_fits_27 : decode cX11_fits 27 = .ok (.aload_n 0, 1) := by decide +kernel
theorem dX11_fits_28 : decode cX11_fits 28 = .ok (.iload_n 2, 1) := by decide +kernel
theorem dX11_fits_29 : decode cX11_fits 29 = .ok (.invokevirtual 457, 3) := by decide +kernel
theorem dX11_fits_32 : decode cX11_fits 32 = .ok (.ifCond .ne 5, 3) := by decide +kernel
theorem dX11_fits_35 : decode cX11_fits 35 = .ok (.iconst 0, 1) := by decide +kernel
theorem dX11_fits_36 : decode cX11_fits 36 = .ok (.ireturn, 1) := by decide +kernel
theorem dX11_fits_37 : decode cX11_fits 37 = .ok (.iinc 2 1, 3) := by decide +kernel
theorem dX11_fits_40 : decode cX11_fits 40 = .ok (.goto (-24), 3) := by decide +kernel
theorem dX11_fits_43 : decode cX11_fits 43 = .ok (.iconst 1, 1) := by decide +kernel
theorem dX11_fits_44 : decode cX11_fits 44 = .ok (.ireturn, 1) := by decide +kernel
theorem dX11_nears_0 : decode cX11_nears 0 = .ok (.aload_n 0, 1) := by decide +kernel
theorem dX11_nears_1 : decode cX11_nears 1 = .ok (.iconst 0, 1) := by decide +kernel
theorem dX11_nears_2 : decode cX11_nears 2 = .ok (.putfield 124, 3) := by decide +kernel
theorem dX11_nears_5 : decode cX11_nears 5 = .ok (.aload_n 0, 1) := by decide +kernel
theorem dX11_nears_6 : decode cX11_nears 6 = .ok (.invokevirtual 445, 3) := by decide +kernel
theorem dX11_nears_9 : decode cX11_nears 9 = .ok (.iconst 0, 1) := by decide +kernel
theorem dX11_nears_10 : decode cX11_nears 10 = .ok (.istore_n 1, 1) := by decide +kernel
theorem dX11_nears_11 : decode cX11_nears 11 = .ok (.iconst 0, 1) := by decide +kernel
theorem dX11_nears_12 : decode cX11_nears 12 = .ok (.istore_n 2, 1) := by decide +kernel
theorem dX11_nears_13 : decode cX11_nears 13 = .ok (.iload_n 2, 1) := by decide +kernel
theorem dX11_nears_14 : decode cX11_nears 14 = .ok (.bipush 10, 2) := by decide +kernel
theorem dX11_nears_16 : decode cX11_nears 16 = .ok (.if_icmp .ge 27, 3) := by decide +kernel
theorem dX11_nears_19 : decode cX11_nears 19 = .ok (.iload_n 1, 1) := by decide +kernel
theorem dX11_nears_20 : decode cX11_nears 20 = .ok (.aload_n 0, 1) := by decide +kernel
theorem dX11_nears_21 : decode cX11_nears 21 = .ok (.iload_n 2, 1) := by decide +kernel
theorem dX11_nears_22 : decode cX11_nears 22 = .ok (.invokevirtual 460, 3) := by decide +kernel
theorem dX11_nears_25 : decode cX11_nears 25 = .ok (.ifCond .eq 9, 3) := by decide +kernel
theorem dX11_nears_28 : decode cX11_nears 28 = .ok (.iconst 1, 1) := by decide +kernel
theorem dX11_nears_29 : decode cX11_nears 29 = .ok (.iload_n 2, 1) := by decide +kernel
theorem dX11_nears_30 : decode cX11_nears 30 = .ok (.ishl, 1) := by decide +kernel
theorem dX11_nears_31 : decode cX11_nears 31 = .ok (.goto 4, 3) := by decide +kernel
theorem dX11_nears_34 : decode cX11_nears 34 = .ok (.iconst 0, 1) := by decide +kernel
theorem dX11_nears_35 : decode cX11_nears 35 = .ok (.ior, 1) := by decide +kernel
theorem dX11_nears_36 : decode cX11_nears 36 = .ok (.istore_n 1, 1) := by decide +kernel
theorem dX11_nears_37 : decode cX11_nears 37 = .ok (.iinc 2 1, 3) := by decide +kernel
theorem dX11_nears_40 : decode cX11_nears 40 = .ok (.goto (-27), 3) := by decide +kernel
theorem dX11_nears_43 : decode cX11_nears 43 = .ok (.aload_n 0, 1) := by decide +kernel
theorem dX11_nears_44 : decode cX11_nears 44 = .ok (.invokevirtual 322, 3) := by decide +kernel
theorem dX11_nears_47 : decode cX11_nears 47 = .ok (.iload_n 1, 1) := by decide +kernel
theorem dX11_nears_48 : decode cX11_nears 48 = .ok (.ireturn, 1) := by decide +kernel
theorem dX11_ledBy_0 : decode cX11_ledBy 0 = .ok (.iconst 1, 1) := by decide +kernel
theorem dX11_ledBy_1 : decode cX11_ledBy 1 = .ok (.iload_n 1, 1) := by decide +kernel
theorem dX11_ledBy_2 : decode cX11_ledBy 2 = .ok (.ishl, 1) := by decide +kernel
theorem dX11_ledBy_3 : decode cX11_ledBy 3 = .ok (.istore 4, 2) := by decide +kernel
theorem dX11_ledBy_5 : decode cX11_ledBy 5 = .ok (.iconst 0, 1) := by decide +kernel
theorem dX11_ledBy_6 : decode cX11_ledBy 6 = .ok (.istore 5, 2) := by decide +kernel
theorem dX11_ledBy_8 : decode cX11_ledBy 8 = .ok (.iload 5, 2) := by decide +kernel
theorem dX11_ledBy_10 : decode cX11_ledBy 10 = .ok (.iload_n 2, 1) := by decide +kernel
theorem dX11_ledBy_11 : decode cX11_ledBy 11 = .ok (.if_icmp .ge 72, 3) := by decide +kernel
theorem dX11_ledBy_14 : decode cX11_ledBy 14 = .ok (.iload 4, 2) := by decide +kernel
theorem dX11_ledBy_16 : decode cX11_ledBy 16 = .ok (.istore 6, 2) := by decide +kernel
theorem dX11_ledBy_18 : decode cX11_ledBy 18 = .ok (.iconst 0, 1) := by decide +kernel
theorem dX11_ledBy_19 : decode cX11_ledBy 19 = .ok (.istore 7, 2) := by decide +kernel
theorem dX11_ledBy_21 : decode cX11_ledBy 21 = .ok (.iload 7, 2) := by decide +kernel
theorem dX11_ledBy_23 : decode cX11_ledBy 23 = .ok (.aload_n 0, 1) := by decide +kernel
theorem dX11_ledBy_24 : decode cX11_ledBy 24 = .ok (.getfield 201, 3) := by decide +kernel
theorem dX11_ledBy_27 : decode cX11_ledBy 27 = .ok (.if_icmp .ge 46, 3) := by decide +kernel
theorem dX11_ledBy_30 : decode cX11_ledBy 30 = .ok (.iload 4, 2) := by decide +kernel
theorem dX11_ledBy_32 : decode cX11_ledBy 32 = .ok (.iload 7, 2) := by decide +kernel
theorem dX11_ledBy_34 : decode cX11_ledBy 34 = .ok (.invokestatic 451, 3) := by decide +kernel
theorem dX11_ledBy_37 : decode cX11_ledBy 37 = .ok (.ifCond .eq 30, 3) := by decide +kernel
theorem dX11_ledBy_40 : decode cX11_ledBy 40 = .ok (.iload 6, 2) := by decide +kernel
theorem dX11_ledBy_42 : decode cX11_ledBy 42 = .ok (.iload_n 3, 1) := by decide +kernel
theorem dX11_ledBy_43 : decode cX11_ledBy 43 = .ok (.ifCond .eq 14, 3) := by decide +kernel
theorem dX11_ledBy_46 : decode cX11_ledBy 46 = .ok (.aload_n 0, 1) := by decide +kernel
theorem dX11_ledBy_47 : decode cX11_ledBy 47 = .ok (.iconst 0, 1) := by decide +kernel
theorem dX11_ledBy_48 : decode cX11_ledBy 48 = .ok (.iload 7, 2) := by decide +kernel
theorem dX11_ledBy_50 : decode cX11_ledBy 50 = .ok (.iconst 0, 1) := by decide +kernel
theorem dX11_ledBy_51 : decode cX11_ledBy 51 = .ok (.invokevirtual 409, 3) := by decide +kernel
theorem dX11_ledBy_54 : decode cX11_ledBy 54 = .ok (.goto 10, 3) := by decide +kernel
theorem dX11_ledBy_57 : decode cX11_ledBy 57 = .ok (.aload_n 0, 1) := by decide +kernel
theorem dX11_ledBy_58 : decode cX11_ledBy 58 = .ok (.iconst 0, 1) := by decide +kernel
theorem dX11_ledBy_59 : decode cX11_ledBy 59 = .ok (.iload 7, 2) := by decide +kernel
theorem dX11_ledBy_61 : decode cX11_ledBy 61 = .ok (.invokevirtual 406, 3) := by decide +kernel
theorem dX11_ledBy_64 : decode cX11_ledBy 64 = .ok (.ior, 1) := by decide +kernel
theorem dX11_ledBy_65 : decode cX11_ledBy 65 = .ok (.istore 6, 2) := by decide +kernel
theorem dX11_ledBy_67 : decode cX11_ledBy 67 = .ok (.iinc 7 1, 3) := by decide +kernel
theorem dX11_ledBy_70 : decode cX11_ledBy 70 = .ok (.goto (-49), 3) := by decide +kernel
theorem dX11_ledBy_73 : decode cX11_ledBy 73 = .ok (.iload 6, 2) := by decide +kernel
theorem dX11_ledBy_75 : decode cX11_ledBy 75 = .ok (.istore 4, 2) := by decide +kernel
theorem dX11_ledBy_77 : decode cX11_ledBy 77 = .ok (.iinc 5 1, 3) := by decide +kernel
theorem dX11_ledBy_80 : decode cX11_ledBy 80 = .ok (.goto (-72), 3) := by decide +kernel
theorem dX11_ledBy_83 : decode cX11_ledBy 83 = .ok (.iload 4, 2) := by decide +kernel
theorem dX11_ledBy_85 : decode cX11_ledBy 85 = .ok (.ireturn, 1) := by decide +kernel
theorem dX11_passed_0 : decode cX11_passed 0 = .ok (.aload_n 0, 1) := by decide +kernel
theorem dX11_passed_1 : decode cX11_passed 1 = .ok (.iconst 0, 1) := by decide +kernel
theorem dX11_passed_2 : decode cX11_passed 2 = .ok (.putfield 124, 3) := by decide +kernel
theorem dX11_passed_5 : decode cX11_passed 5 = .ok (.aload_n 0, 1) := by decide +kernel
theorem dX11_passed_6 : decode cX11_passed 6 = .ok (.invokevirtual 322, 3) := by decide +kernel
theorem dX11_passed_9 : decode cX11_passed 9 = .ok (.aload_n 0, 1) := by decide +kernel
theorem dX11_passed_10 : decode cX11_passed 10 = .ok (.iload_n 1, 1) := by decide +kernel
theorem dX11_passed_11 : decode cX11_passed 11 = .ok (.invokevirtual 352, 3) := by decide +kernel
theorem dX11_passed_14 : decode cX11_passed 14 = .ok (.ifCond .eq 23, 3) := by decide +kernel
theorem dX11_passed_17 : decode cX11_passed 17 = .ok (.iload_n 2, 1) := by decide +kernel
theorem dX11_passed_18 : decode cX11_passed 18 = .ok (.iconst 0, 1) := by decide +kernel
theorem dX11_passed_19 : decode cX11_passed 19 = .ok (.bipush 6, 2) := by decide +kernel
theorem dX11_passed_21 : decode cX11_passed 21 = .ok (.invokestatic 169, 3) := by decide +kernel
theorem dX11_passed_24 : decode cX11_passed 24 = .ok (.ifCond .eq 13, 3) := by decide +kernel
theorem dX11_passed_27 : decode cX11_passed 27 = .ok (.aload_n 0, 1) := by decide +kernel
theorem dX11_passed_28 : decode cX11_passed 28 = .ok (.iload_n 1, 1) := by decide +kernel
theorem dX11_passed_29 : decode cX11_passed 29 = .ok (.iload_n 2, 1) := by decide +kernel
theorem dX11_passed_30 : decode cX11_passed 30 = .ok (.iconst 0, 1) := by decide +kernel
theorem dX11_passed_31 : decode cX11_passed 31 = .ok (.invokevirtual 463, 3) := by decide +kernel
theorem dX11_passed_34 : decode cX11_passed 34 = .ok (.goto 4, 3) := by decide +kernel
theorem dX11_passed_37 : decode cX11_passed 37 = .ok (.iconst (-1), 1) := by decide +kernel
theorem dX11_passed_38 : decode cX11_passed 38 = .ok (.ireturn, 1) := by decide +kernel
theorem dX11_gossip_0 : decode cX11_gossip 0 = .ok (.aload_n 0, 1) := by decide +kernel
theorem dX11_gossip_1 : decode cX11_gossip 1 = .ok (.iconst 0, 1) := by decide +kernel
theorem dX11_gossip_2 : decode cX11_gossip 2 = .ok (.putfield 124, 3) := by decide +kernel
theorem dX11_gossip_5 : decode cX11_gossip 5 = .ok (.aload_n 0, 1) := by decide +kernel
theorem dX11_gossip_6 : decode cX11_gossip 6 = .ok (.iload_n 1, 1) := by decide +kernel
theorem dX11_gossip_7 : decode cX11_gossip 7 = .ok (.invokevirtual 352, 3) := by decide +kernel
theorem dX11_gossip_10 : decode cX11_gossip 10 = .ok (.ifCond .eq 23, 3) := by decide +kernel
theorem dX11_gossip_13 : decode cX11_gossip 13 = .ok (.iload_n 2, 1) := by decide +kernel
theorem dX11_gossip_14 : decode cX11_gossip 14 = .ok (.iconst 0, 1) := by decide +kernel
theorem dX11_gossip_15 : decode cX11_gossip 15 = .ok (.bipush 6, 2) := by decide +kernel
theorem dX11_gossip_17 : decode cX11_gossip 17 = .ok (.invokestatic 169, 3) := by decide +kernel
theorem dX11_gossip_20 : decode cX11_gossip 20 = .ok (.ifCond .eq 13, 3) := by decide +kernel
theorem dX11_gossip_23 : decode cX11_gossip 23 = .ok (.aload_n 0, 1) := by decide +kernel
theorem dX11_gossip_24 : decode cX11_gossip 24 = .ok (.iload_n 1, 1) := by decide +kernel
theorem dX11_gossip_25 : decode cX11_gossip 25 = .ok (.iload_n 2, 1) := by decide +kernel
theorem dX11_gossip_26 : decode cX11_gossip 26 = .ok (.iconst 1, 1) := by decide +kernel
theorem dX11_gossip_27 : decode cX11_gossip 27 = .ok (.invokevirtual 463, 3) := by decide +kernel
theorem dX11_gossip_30 : decode cX11_gossip 30 = .ok (.goto 4, 3) := by decide +kernel
theorem dX11_gossip_33 : decode cX11_gossip 33 = .ok (.iconst (-1), 1) := by decide +kernel
theorem dX11_gossip_34 : decode cX11_gossip 34 = .ok (.ireturn, 1) := by decide +kernel
theorem dX11_alikeBy_0 : decode cX11_alikeBy 0 = .ok (.iconst 0, 1) := by decide +kernel
theorem dX11_alikeBy_1 : decode cX11_alikeBy 1 = .ok (.istore 4, 2) := by decide +kernel
theorem dX11_alikeBy_3 : decode cX11_alikeBy 3 = .ok (.iconst 0, 1) := by decide +kernel
theorem dX11_alikeBy_4 : decode cX11_alikeBy 4 = .ok (.istore 5, 2) := by decide +kernel
theorem dX11_alikeBy_6 : decode cX11_alikeBy 6 = .ok (.iload 5, 2) := by decide +kernel
theorem dX11_alikeBy_8 : decode cX11_alikeBy 8 = .ok (.bipush 100, 2) := by decide +kernel
theorem dX11_alikeBy_10 : decode cX11_alikeBy 10 = .ok (.if_icmp .ge 60, 3) := by decide +kernel
theorem dX11_alikeBy_13 : decode cX11_alikeBy 13 = .ok (.aload_n 0, 1) := by decide +kernel
theorem dX11_alikeBy_14 : decode cX11_alikeBy 14 = .ok (.iload_n 1, 1) := by decide +kernel
theorem dX11_alikeBy_15 : decode cX11_alikeBy 15 = .ok (.iload 5, 2) := by decide +kernel
theorem dX11_alikeBy_17 : decode cX11_alikeBy 17 = .ok (.invokevirtual 416, 3) := by decide +kernel
theorem dX11_alikeBy_20 : decode cX11_alikeBy 20 = .ok (.istore 6, 2) := by decide +kernel
theorem dX11_alikeBy_22 : decode cX11_alikeBy 22 = .ok (.iload 4, 2) := by decide +kernel
theorem dX11_alikeBy_24 : decode cX11_alikeBy 24 = .ok (.iload 6, 2) := by decide +kernel
theorem dX11_alikeBy_26 : decode cX11_alikeBy 26 = .ok (.ifCond .le 34, 3) := by decide +kernel
theorem dX11_alikeBy_29 : decode cX11_alikeBy 29 = .ok (.iload 5, 2) := by decide +kernel
theorem dX11_alikeBy_31 : decode cX11_alikeBy 31 = .ok (.iload_n 3, 1) := by decide +kernel
theorem dX11_alikeBy_32 : decode cX11_alikeBy 32 = .ok (.iadd, 1) := by decide +kernel
theorem dX11_alikeBy_33 : decode cX11_alikeBy 33 = .ok (.iconst 0, 1) := by decide +kernel
theorem dX11_alikeBy_34 : decode cX11_alikeBy 34 = .ok (.bipush 99, 2) := by decide +kernel
theorem dX11_alikeBy_36 : decode cX11_alikeBy 36 = .ok (.invokestatic 169, 3) := by decide +kernel
theorem dX11_alikeBy_39 : decode cX11_alikeBy 39 = .ok (.ifCond .eq 21, 3) := by decide +kernel
theorem dX11_alikeBy_42 : decode cX11_alikeBy 42 = .ok (.aload_n 0, 1) := by decide +kernel
theorem dX11_alikeBy_43 : decode cX11_alikeBy 43 = .ok (.iload_n 2, 1) := by decide +kernel
theorem dX11_alikeBy_44 : decode cX11_alikeBy 44 = .ok (.iload 5, 2) := by decide +kernel
theorem dX11_alikeBy_46 : decode cX11_alikeBy 46 = .ok (.iload_n 3, 1) := by decide +kernel
theorem dX11_alikeBy_47 : decode cX11_alikeBy 47 = .ok (.iadd, 1) := by decide +kernel
theorem dX11_alikeBy_48 : decode cX11_alikeBy 48 = .ok (.invokevirtual 416, 3) := by decide +kernel
theorem dX11_alikeBy_51 : decode cX11_alikeBy 51 = .ok (.iload 6, 2) := by decide +kernel
theorem dX11_alikeBy_53 : decode cX11_alikeBy 53 = .ok (.if_icmp .ne 7, 3) := by decide +kernel
theorem dX11_alikeBy_56 : decode cX11_alikeBy 56 = .ok (.iconst 1, 1) := by decide +kernel
theorem dX11_alikeBy_57 : decode cX11_alikeBy 57 = .ok (.goto 4, 3) := by decide +kernel
theorem dX11_alikeBy_60 : decode cX11_alikeBy 60 = .ok (.iconst 0, 1) := by decide +kernel
theorem dX11_alikeBy_61 : decode cX11_alikeBy 61 = .ok (.iadd, 1) := by decide +kernel
theorem dX11_alikeBy_62 : decode cX11_alikeBy 62 = .ok (.istore 4, 2) := by decide +kernel
theorem dX11_alikeBy_64 : decode cX11_alikeBy 64 = .ok (.iinc 5 1, 3) := by decide +kernel
theorem dX11_alikeBy_67 : decode cX11_alikeBy 67 = .ok (.goto (-61), 3) := by decide +kernel
theorem dX11_alikeBy_70 : decode cX11_alikeBy 70 = .ok (.iload 4, 2) := by decide +kernel
theorem dX11_alikeBy_72 : decode cX11_alikeBy 72 = .ok (.ireturn, 1) := by decide +kernel
theorem dX11_before_0 : decode cX11_before 0 = .ok (.aload_n 0, 1) := by decide +kernel
theorem dX11_before_1 : decode cX11_before 1 = .ok (.iconst 0, 1) := by decide +kernel
theorem dX11_before_2 : decode cX11_before 2 = .ok (.putfield 124, 3) := by decide +kernel
theorem dX11_before_5 : decode cX11_before 5 = .ok (.aload_n 0, 1) := by decide +kernel
theorem dX11_before_6 : decode cX11_before 6 = .ok (.iload_n 1, 1) := by decide +kernel
theorem dX11_before_7 : decode cX11_before 7 = .ok (.iload_n 2, 1) := by decide +kernel
theorem dX11_before_8 : decode cX11_before 8 = .ok (.invokevirtual 413, 3) := by decide +kernel
theorem dX11_before_11 : decode cX11_before 11 = .ok (.ifCond .eq 12, 3) := by decide +kernel
theorem dX11_before_14 : decode cX11_before 14 = .ok (.iload_n 3, 1) := by decide +kernel
theorem dX11_before_15 : decode cX11_before 15 = .ok (.iconst 0, 1) := by decide +kernel
theorem dX11_before_16 : decode cX11_before 16 = .ok (.iconst 1, 1) := by decide +kernel
theorem dX11_before_17 : decode cX11_before 17 = .ok (.invokestatic 169, 3) := by decide +kernel
theorem dX11_before_20 : decode cX11_before 20 = .ok (.ifCond .ne 7, 3) := by decide +kernel
theorem dX11_before_23 : decode cX11_before 23 = .ok (.ldc_w 466, 3) := by decide +kernel
theorem dX11_before_26 : decode cX11_before 26 = .ok (.ireturn, 1) := by decide +kernel
theorem dX11_before_27 : decode cX11_before 27 = .ok (.iconst 0, 1) := by decide +kernel
theorem dX11_before_28 : decode cX11_before 28 = .ok (.istore 4, 2) := by decide +kernel
theorem dX11_before_30 : decode cX11_before 30 = .ok (.iconst 1, 1) := by decide +kernel
theorem dX11_before_31 : decode cX11_before 31 = .ok (.istore 5, 2) := by decide +kernel
theorem dX11_before_33 : decode cX11_before 33 = .ok (.iload 5, 2) := by decide +kernel
theorem dX11_before_35 : decode cX11_before 35 = .ok (.bipush 10, 2) := by decide +kernel
theorem dX11_before_37 : decode cX11_before 37 = .ok (.if_icmp .ge 57, 3) := by decide +kernel
theorem dX11_before_40 : decode cX11_before 40 = .ok (.aload_n 0, 1) := by decide +kernel
theorem dX11_before_41 : decode cX11_before 41 = .ok (.iload_n 1, 1) := by decide +kernel
theorem dX11_before_42 : decode cX11_before 42 = .ok (.iload_n 2, 1) := by decide +kernel
theorem dX11_before_43 : decode cX11_before 43 = .ok (.iload 5, 2) := by decide +kernel
theorem dX11_before_45 : decode cX11_before 45 = .ok (.ineg, 1) := by decide +kernel
theorem dX11_before_46 : decode cX11_before 46 = .ok (.invokevirtual 467, 3) := by decide +kernel
theorem dX11_before_49 : decode cX11_before 49 = .ok (.aload_n 0, 1) := by decide +kernel
theorem dX11_before_50 : decode cX11_before 50 = .ok (.iload_n 1, 1) := by decide +kernel
theorem dX11_before_51 : decode cX11_before 51 = .ok (.iload_n 2, 1) := by decide +kernel
theorem dX11_before_52 : decode cX11_before 52 = .ok (.iload 4, 2) := by decide +kernel
theorem dX11_before_54 : decode cX11_before 54 = .ok (.invokevirtual 467, 3) := by decide +kernel
theorem dX11_before_57 : decode cX11_before 57 = .ok (.if_icmp .le 8, 3) := by decide +kernel
theorem dX11_before_60 : decode cX11_before 60 = .ok (.iload 5, 2) := by decide +kernel
theorem dX11_before_62 : decode cX11_before 62 = .ok (.ineg, 1) := by decide +kernel
theorem dX11_before_63 : decode cX11_before 63 = .ok (.istore 4, 2) := by decide +kernel
theorem dX11_before_65 : decode cX11_before 65 = .ok (.aload_n 0, 1) := by decide +kernel
theorem dX11_before_66 : decode cX11_before 66 = .ok (.iload_n 1, 1) := by decide +kernel
theorem dX11_before_67 : decode cX11_before 67 = .ok (.iload_n 2, 1) := by decide +kernel
theorem dX11_before_68 : decode cX11_before 68 = .ok (.iload 5, 2) := by decide +kernel
theorem dX11_before_70 : decode cX11_before 70 = .ok (.invokevirtual 467, 3) := by decide +kernel
theorem dX11_before_73 : decode cX11_before 73 = .ok (.aload_n 0, 1) := by decide +kernel
theorem dX11_before_74 : decode cX11_before 74 = .ok (.iload_n 1, 1) := by decide +kernel
theorem dX11_before_75 : decode cX11_before 75 = .ok (.iload_n 2, 1) := by decide +kernel
theorem dX11_before_76 : decode cX11_before 76 = .ok (.iload 4, 2) := by decide +kernel
theorem dX11_before_78 : decode cX11_before 78 = .ok (.invokevirtual 467, 3) := by decide +kernel
theorem dX11_before_81 : decode cX11_before 81 = .ok (.if_icmp .le 7, 3) := by decide +kernel
theorem dX11_before_84 : decode cX11_before 84 = .ok (.iload 5, 2) := by decide +kernel
theorem dX11_before_86 : decode cX11_before 86 = .ok (.istore 4, 2) := by decide +kernel
theorem dX11_before_88 : decode cX11_before 88 = .ok (.iinc 5 1, 3) := by decide +kernel
theorem dX11_before_91 : decode cX11_before 91 = .ok (.goto (-58), 3) := by decide +kernel
theorem dX11_before_94 : decode cX11_before 94 = .ok (.iload_n 3, 1) := by decide +kernel
theorem dX11_before_95 : decode cX11_before 95 = .ok (.ifCond .ne 8, 3) := by decide +kernel
theorem dX11_before_98 : decode cX11_before 98 = .ok (.iload 4, 2) := by decide +kernel
theorem dX11_before_100 : decode cX11_before 100 = .ok (.goto 11, 3) := by decide +kernel
theorem dX11_before_103 : decode cX11_before 103 = .ok (.aload_n 0, 1) := by decide +kernel
theorem dX11_before_104 : decode cX11_before 104 = .ok (.iload_n 1, 1) := by decide +kernel
theorem dX11_before_105 : decode cX11_before 105 = .ok (.iload_n 2, 1) := by decide +kernel
theorem dX11_before_106 : decode cX11_before 106 = .ok (.iload 4, 2) := by decide +kernel
theorem dX11_before_108 : decode cX11_before 108 = .ok (.invokevirtual 467, 3) := by decide +kernel
theorem dX11_before_111 : decode cX11_before 111 = .ok (.ireturn, 1) := by decide +kernel
theorem dX11_manyOf_0 : decode cX11_manyOf 0 = .ok (.iconst 0, 1) := by decide +kernel
theorem dX11_manyOf_1 : decode cX11_manyOf 1 = .ok (.istore_n 1, 1) := by decide +kernel
theorem dX11_manyOf_2 : decode cX11_manyOf 2 = .ok (.iconst 0, 1) := by decide +kernel
theorem dX11_manyOf_3 : decode cX11_manyOf 3 = .ok (.istore_n 2, 1) := by decide +kernel
theorem dX11_manyOf_4 : decode cX11_manyOf 4 = .ok (.iload_n 2, 1) := by decide +kernel
theorem dX11_manyOf_5 : decode cX11_manyOf 5 = .ok (.bipush 6, 2) := by decide +kernel
theorem dX11_manyOf_7 : decode cX11_manyOf 7 = .ok (.if_icmp .ge 17, 3) := by decide +kernel
theorem dX11_manyOf_10 : decode cX11_manyOf 10 = .ok (.iload_n 1, 1) := by decide +kernel
theorem dX11_manyOf_11 : decode cX11_manyOf 11 = .ok (.iload_n 0, 1) := by decide +kernel
theorem dX11_manyOf_12 : decode cX11_manyOf 12 = .ok (.iload_n 2, 1) := by decide +kernel
theorem dX11_manyOf_13 : decode cX11_manyOf 13 = .ok (.ishr, 1) := by decide +kernel
theorem dX11_manyOf_14 : decode cX11_manyOf 14 = .ok (.iconst 1, 1) := by decide +kernel
theorem dX11_manyOf_15 : decode cX11_manyOf 15 = .ok (.iand, 1) := by decide +kernel
theorem dX11_manyOf_16 : decode cX11_manyOf 16 = .ok (.iadd, 1) := by decide +kernel
theorem dX11_manyOf_17 : decode cX11_manyOf 17 = .ok (.istore_n 1, 1) := by decide +kernel
theorem dX11_manyOf_18 : decode cX11_manyOf 18 = .ok (.iinc 2 1, 3) := by decide +kernel
theorem dX11_manyOf_21 : decode cX11_manyOf 21 = .ok (.goto (-17), 3) := by decide +kernel
theorem dX11_manyOf_24 : decode cX11_manyOf 24 = .ok (.iload_n 1, 1) := by decide +kernel
theorem dX11_manyOf_25 : decode cX11_manyOf 25 = .ok (.ireturn, 1) := by decide +kernel
theorem dX11_warn_0 : decode cX11_warn 0 = .ok (.aload_n 0, 1) := by decide +kernel
theorem dX11_warn_1 : decode cX11_warn 1 = .ok (.iconst 0, 1) := by decide +kernel
theorem dX11_warn_2 : decode cX11_warn 2 = .ok (.putfield 124, 3) := by decide +kernel
theorem dX11_warn_5 : decode cX11_warn 5 = .ok (.aload_n 0, 1) := by decide +kernel
theorem dX11_warn_6 : decode cX11_warn 6 = .ok (.invokevirtual 322, 3) := by decide +kernel
theorem dX11_warn_9 : decode cX11_warn 9 = .ok (.iconst (-1), 1) := by decide +kernel
theorem dX11_warn_10 : decode cX11_warn 10 = .ok (.istore_n 1, 1) := by decide +kernel
theorem dX11_warn_11 : decode cX11_warn 11 = .ok (.iconst 0, 1) := by decide +kernel
theorem dX11_warn_12 : decode cX11_warn 12 = .ok (.istore_n 2, 1) := by decide +kernel
theorem dX11_warn_13 : decode cX11_warn 13 = .ok (.iload_n 2, 1) := by decide +kernel
theorem dX11_warn_14 : decode cX11_warn 14 = .ok (.iconst 1, 1) := by decide +kernel
theorem dX11_warn_15 : decode cX11_warn 15 = .ok (.aload_n 0, 1) := by decide +kernel
theorem dX11_warn_16 : decode cX11_warn 16 = .ok (.getfield 201, 3) := by decide +kernel
theorem dX11_warn_19 : decode cX11_warn 19 = .ok (.ishl, 1) := by decide +kernel
theorem dX11_warn_20 : decode cX11_warn 20 = .ok (.if_icmp .ge 84, 3) := by decide +kernel
theorem dX11_warn_23 : decode cX11_warn 23 = .ok (.iload_n 1, 1) := by decide +kernel
theorem dX11_warn_24 : decode cX11_warn 24 = .ok (.ifCond .lt 17, 3) := by decide +kernel
theorem dX11_warn_27 : decode cX11_warn 27 = .ok (.iload_n 2, 1) := by decide +kernel
theorem dX11_warn_28 : decode cX11_warn 28 = .ok (.invokestatic 470, 3) := by decide +kernel
theorem dX11_warn_31 : decode cX11_warn 31 = .ok (.iload_n 1, 1) := by decide +kernel
theorem dX11_warn_32 : decode cX11_warn 32 = .ok (.invokestatic 470, 3) := by decide +kernel
theorem dX11_warn_35 : decode cX11_warn 35 = .ok (.if_icmp .lt 6, 3) := by decide +kernel
theorem dX11_warn_38 : decode cX11_warn 38 = .ok (.goto 60, 3) := by decide +kernel
theorem dX11_warn_41 : decode cX11_warn 41 = .ok (.iconst 1, 1) := by decide +kernel
theorem dX11_warn_42 : decode cX11_warn 42 = .ok (.istore_n 3, 1) := by decide +kernel
theorem dX11_warn_43 : decode cX11_warn 43 = .ok (.iconst 0, 1) := by decide +kernel
theorem dX11_warn_44 : decode cX11_warn 44 = .ok (.istore 4, 2) := by decide +kernel
theorem dX11_warn_46 : decode cX11_warn 46 = .ok (.iload 4, 2) := by decide +kernel
theorem dX11_warn_48 : decode cX11_warn 48 = .ok (.aload_n 0, 1) := by decide +kernel
theorem dX11_warn_49 : decode cX11_warn 49 = .ok (.getfield 201, 3) := by decide +kernel
theorem dX11_warn_52 : decode cX11_warn 52 = .ok (.if_icmp .ge 40, 3) := by decide +kernel
theorem dX11_warn_55 : decode cX11_warn 55 = .ok (.iload_n 3, 1) := by decide +kernel
theorem dX11_warn_56 : decode cX11_warn 56 = .ok (.ifCond .eq 28, 3) := by decide +kernel
theorem dX11_warn_59 : decode cX11_warn 59 = .ok (.iload_n 2, 1) := by decide +kernel
theorem dX11_warn_60 : decode cX11_warn 60 = .ok (.iload 4, 2) := by decide +kernel
theorem dX11_warn_62 : decode cX11_warn 62 = .ok (.invokestatic 451, 3) := by decide +kernel
theorem dX11_warn_65 : decode cX11_warn 65 = .ok (.ifCond .ne 15, 3) := by decide +kernel
theorem dX11_warn_68 : decode cX11_warn 68 = .ok (.aload_n 0, 1) := by decide +kernel
theorem dX11_warn_69 : decode cX11_warn 69 = .ok (.iconst 0, 1) := by decide +kernel
theorem dX11_warn_70 : decode cX11_warn 70 = .ok (.iload 4, 2) := by decide +kernel
theorem dX11_warn_72 : decode cX11_warn 72 = .ok (.invokevirtual 403, 3) := by decide +kernel
theorem dX11_warn_75 : decode cX11_warn 75 = .ok (.iload_n 2, 1) := by decide +kernel
theorem dX11_warn_76 : decode cX11_warn 76 = .ok (.iand, 1) := by decide +kernel
theorem dX11_warn_77 : decode cX11_warn 77 = .ok (.ifCond .eq 7, 3) := by decide +kernel
theorem dX11_warn_80 : decode cX11_warn 80 = .ok (.iconst 1, 1) := by decide +kernel
theorem dX11_warn_81 : decode cX11_warn 81 = .ok (.goto 4, 3) := by decide +kernel
theorem dX11_warn_84 : decode cX11_warn 84 = .ok (.iconst 0, 1) := by decide +kernel
theorem dX11_warn_85 : decode cX11_warn 85 = .ok (.istore_n 3, 1) := by decide +kernel
theorem dX11_warn_86 : decode cX11_warn 86 = .ok (.iinc 4 1, 3) := by decide +kernel
theorem dX11_warn_89 : decode cX11_warn 89 = .ok (.goto (-43), 3) := by decide +kernel
theorem dX11_warn_92 : decode cX11_warn 92 = .ok (.iload_n 3, 1) := by decide +kernel
theorem dX11_warn_93 : decode cX11_warn 93 = .ok (.ifCond .eq 5, 3) := by decide +kernel
theorem dX11_warn_96 : decode cX11_warn 96 = .ok (.iload_n 2, 1) := by decide +kernel
theorem dX11_warn_97 : decode cX11_warn 97 = .ok (.istore_n 1, 1) := by decide +kernel
theorem dX11_warn_98 : decode cX11_warn 98 = .ok (.iinc 2 1, 3) := by decide +kernel
theorem dX11_warn_101 : decode cX11_warn 101 = .ok (.goto (-88), 3) := by decide +kernel
theorem dX11_warn_104 : decode cX11_warn 104 = .ok (.iload_n 1, 1) := by decide +kernel
theorem dX11_warn_105 : decode cX11_warn 105 = .ok (.ireturn, 1) := by decide +kernel
theorem dX11_busyAt_0 : decode cX11_busyAt 0 = .ok (.iconst 0, 1) := by decide +kernel
theorem dX11_busyAt_1 : decode cX11_busyAt 1 = .ok (.istore_n 3, 1) := by decide +kernel
theorem dX11_busyAt_2 : decode cX11_busyAt 2 = .ok (.iconst 0, 1) := by decide +kernel
theorem dX11_busyAt_3 : decode cX11_busyAt 3 = .ok (.istore 4, 2) := by decide +kernel
theorem dX11_busyAt_5 : decode cX11_busyAt 5 = .ok (.iload 4, 2) := by decide +kernel
theorem dX11_busyAt_7 : decode cX11_busyAt 7 = .ok (.aload_n 0, 1) := by decide +kernel
theorem dX11_busyAt_8 : decode cX11_busyAt 8 = .ok (.getfield 201, 3) := by decide +kernel
theorem dX11_busyAt_11 : decode cX11_busyAt 11 = .ok (.if_icmp .ge 39, 3) := by decide +kernel
theorem dX11_busyAt_14 : decode cX11_busyAt 14 = .ok (.iload_n 3, 1) := by decide +kernel
theorem dX11_busyAt_15 : decode cX11_busyAt 15 = .ok (.iload_n 1, 1) := by decide +kernel
theorem dX11_busyAt_16 : decode cX11_busyAt 16 = .ok (.aload_n 0, 1) := by decide +kernel
theorem dX11_busyAt_17 : decode cX11_busyAt 17 = .ok (.getfield 85, 3) := by decide +kernel
theorem dX11_busyAt_20 : decode cX11_busyAt 20 = .ok (.iload 4, 2) := by decide +kernel
theorem dX11_busyAt_22 : decode cX11_busyAt 22 = .ok (.iaload, 1) := by decide +kernel
theorem dX11_busyAt_23 : decode cX11_busyAt 23 = .ok (.invokestatic 355, 3) := by decide +kernel
theorem dX11_busyAt_26 : decode cX11_busyAt 26 = .ok (.aload_n 0, 1) := by decide +kernel
theorem dX11_busyAt_27 : decode cX11_busyAt 27 = .ok (.getfield 24, 3) := by decide +kernel
theorem dX11_busyAt_30 : decode cX11_busyAt 30 = .ok (.iconst 0, 1) := by decide +kernel
theorem dX11_busyAt_31 : decode cX11_busyAt 31 = .ok (.iaload, 1) := by decide +kernel
theorem dX11_busyAt_32 : decode cX11_busyAt 32 = .ok (.iload_n 2, 1) := by decide +kernel
theorem dX11_busyAt_33 : decode cX11_busyAt 33 = .ok (.iadd, 1) := by decide +kernel
theorem dX11_busyAt_34 : decode cX11_busyAt 34 = .ok (.if_icmp .gt 7, 3) := by decide +kernel
theorem dX11_busyAt_37 : decode cX11_busyAt 37 = .ok (.iconst 1, 1) := by decide +kernel
theorem dX11_busyAt_38 : decode cX11_busyAt 38 = .ok (.goto 4, 3) := by decide +kernel
theorem dX11_busyAt_41 : decode cX11_busyAt 41 = .ok (.iconst 0, 1) := by decide +kernel
theorem dX11_busyAt_42 : decode cX11_busyAt 42 = .ok (.iadd, 1) := by decide +kernel
theorem dX11_busyAt_43 : decode cX11_busyAt 43 = .ok (.istore_n 3, 1) := by decide +kernel
theorem dX11_busyAt_44 : decode cX11_busyAt 44 = .ok (.iinc 4 1, 3) := by decide +kernel
theorem dX11_busyAt_47 : decode cX11_busyAt 47 = .ok (.goto (-42), 3) := by decide +kernel
theorem dX11_busyAt_50 : decode cX11_busyAt 50 = .ok (.iload_n 3, 1) := by decide +kernel
theorem dX11_busyAt_51 : decode cX11_busyAt 51 = .ok (.ireturn, 1) := by decide +kernel
theorem dX11_busiest_0 : decode cX11_busiest 0 = .ok (.aload_n 0, 1) := by decide +kernel
theorem dX11_busiest_1 : decode cX11_busiest 1 = .ok (.iconst 0, 1) := by decide +kernel
theorem dX11_busiest_2 : decode cX11_busiest 2 = .ok (.putfield 124, 3) := by decide +kernel
theorem dX11_busiest_5 : decode cX11_busiest 5 = .ok (.iload_n 1, 1) := by decide +kernel
theorem dX11_busiest_6 : decode cX11_busiest 6 = .ok (.iconst 0, 1) := by decide +kernel
theorem dX11_busiest_7 : decode cX11_busiest 7 = .ok (.bipush 9, 2) := by decide +kernel
theorem dX11_busiest_9 : decode cX11_busiest 9 = .ok (.invokestatic 169, 3) := by decide +kernel
theorem dX11_busiest_12 : decode cX11_busiest 12 = .ok (.ifCond .eq 12, 3) := by decide +kernel
theorem dX11_busiest_15 : decode cX11_busiest 15 = .ok (.iload_n 2, 1) := by decide +kernel
theorem dX11_busiest_16 : decode cX11_busiest 16 = .ok (.iconst 0, 1) := by decide +kernel
theorem dX11_busiest_17 : decode cX11_busiest 17 = .ok (.iconst 1, 1) := by decide +kernel
theorem dX11_busiest_18 : decode cX11_busiest 18 = .ok (.invokestatic 169, 3) := by decide +kernel
theorem dX11_busiest_21 : decode cX11_busiest 21 = .ok (.ifCond .ne 5, 3) := by decide +kernel
theorem dX11_busiest_24 : decode cX11_busiest 24 = .ok (.iconst (-1), 1) := by decide +kernel
theorem dX11_busiest_25 : decode cX11_busiest 25 = .ok (.ireturn, 1) := by decide +kernel
theorem dX11_busiest_26 : decode cX11_busiest 26 = .ok (.iconst 0, 1) := by decide +kernel
theorem dX11_busiest_27 : decode cX11_busiest 27 = .ok (.istore_n 3, 1) := by decide +kernel
theorem dX11_busiest_28 : decode cX11_busiest 28 = .ok (.iconst 1, 1) := by decide +kernel
theorem dX11_busiest_29 : decode cX11_busiest 29 = .ok (.istore 4, 2) := by decide +kernel
theorem dX11_busiest_31 : decode cX11_busiest 31 = .ok (.iload 4, 2) := by decide +kernel
theorem dX11_busiest_33 : decode cX11_busiest 33 = .ok (.bipush 100, 2) := by decide +kernel
theorem dX11_busiest_35 : decode cX11_busiest 35 = .ok (.if_icmp .ge 32, 3) := by decide +kernel
theorem dX11_busiest_38 : decode cX11_busiest 38 = .ok (.aload_n 0, 1) := by decide +kernel
theorem dX11_busiest_39 : decode cX11_busiest 39 = .ok (.iload 4, 2) := by decide +kernel
theorem dX11_busiest_41 : decode cX11_busiest 41 = .ok (.iload_n 1, 1) := by decide +kernel
theorem dX11_busiest_42 : decode cX11_busiest 42 = .ok (.invokevirtual 473, 3) := by decide +kernel
theorem dX11_busiest_45 : decode cX11_busiest 45 = .ok (.aload_n 0, 1) := by decide +kernel
theorem dX11_busiest_46 : decode cX11_busiest 46 = .ok (.iload_n 3, 1) := by decide +kernel
theorem dX11_busiest_47 : decode cX11_busiest 47 = .ok (.iload_n 1, 1) := by decide +kernel
theorem dX11_busiest_48 : decode cX11_busiest 48 = .ok (.invokevirtual 473, 3) := by decide +kernel
theorem dX11_busiest_51 : decode cX11_busiest 51 = .ok (.if_icmp .le 8, 3) := by decide +kernel
theorem dX11_busiest_54 : decode cX11_busiest 54 = .ok (.iload 4, 2) := by decide +kernel
theorem dX11_busiest_56 : decode cX11_busiest 56 = .ok (.goto 4, 3) := by decide +kernel
theorem dX11_busiest_59 : decode cX11_busiest 59 = .ok (.iload_n 3, 1) := by decide +kernel
theorem dX11_busiest_60 : decode cX11_busiest 60 = .ok (.istore_n 3, 1) := by decide +kernel
theorem dX11_busiest_61 : decode cX11_busiest 61 = .ok (.iinc 4 1, 3) := by decide +kernel
theorem dX11_busiest_64 : decode cX11_busiest 64 = .ok (.goto (-33), 3) := by decide +kernel
theorem dX11_busiest_67 : decode cX11_busiest 67 = .ok (.iload_n 2, 1) := by decide +kernel
theorem dX11_busiest_68 : decode cX11_busiest 68 = .ok (.ifCond .ne 7, 3) := by decide +kernel
theorem dX11_busiest_71 : decode cX11_busiest 71 = .ok (.iload_n 3, 1) := by decide +kernel
theorem dX11_busiest_72 : decode cX11_busiest 72 = .ok (.goto 9, 3) := by decide +kernel
theorem dX11_busiest_75 : decode cX11_busiest 75 = .ok (.aload_n 0, 1) := by decide +kernel
theorem dX11_busiest_76 : decode cX11_busiest 76 = .ok (.iload_n 3, 1) := by decide +kernel
theorem dX11_busiest_77 : decode cX11_busiest 77 = .ok (.iload_n 1, 1) := by decide +kernel
theorem dX11_busiest_78 : decode cX11_busiest 78 = .ok (.invokevirtual 473, 3) := by decide +kernel
theorem dX11_busiest_81 : decode cX11_busiest 81 = .ok (.ireturn, 1) := by decide +kernel
theorem dX11_sounds_0 : decode cX11_sounds 0 = .ok (.aload_n 0, 1) := by decide +kernel
theorem dX11_sounds_1 : decode cX11_sounds 1 = .ok (.getfield 100, 3) := by decide +kernel
theorem dX11_sounds_4 : decode cX11_sounds 4 = .ok (.iconst 0, 1) := by decide +kernel
theorem dX11_sounds_5 : decode cX11_sounds 5 = .ok (.iaload, 1) := by decide +kernel
theorem dX11_sounds_6 : decode cX11_sounds 6 = .ok (.iload_n 2, 1) := by decide +kernel
theorem dX11_sounds_7 : decode cX11_sounds 7 = .ok (.iadd, 1) := by decide +kernel
theorem dX11_sounds_8 : decode cX11_sounds 8 = .ok (.bipush 100, 2) := by decide +kernel
theorem dX11_sounds_10 : decode cX11_sounds 10 = .ok (.if_icmp .ge 23, 3) := by decide +kernel
theorem dX11_sounds_13 : decode cX11_sounds 13 = .ok (.aload_n 0, 1) := by decide +kernel
theorem dX11_sounds_14 : decode cX11_sounds 14 = .ok (.iload_n 1, 1) := by decide +kernel
theorem dX11_sounds_15 : decode cX11_sounds 15 = .ok (.aload_n 0, 1) := by decide +kernel
theorem dX11_sounds_16 : decode cX11_sounds 16 = .ok (.getfield 100, 3) := by decide +kernel
theorem dX11_sounds_19 : decode cX11_sounds 19 = .ok (.iconst 0, 1) := by decide +kernel
theorem dX11_sounds_20 : decode cX11_sounds 20 = .ok (.iaload, 1) := by decide +kernel
theorem dX11_sounds_21 : decode cX11_sounds 21 = .ok (.iload_n 2, 1) := by decide +kernel
theorem dX11_sounds_22 : decode cX11_sounds 22 = .ok (.iadd, 1) := by decide +kernel
theorem dX11_sounds_23 : decode cX11_sounds 23 = .ok (.invokevirtual 416, 3) := by decide +kernel
theorem dX11_sounds_26 : decode cX11_sounds 26 = .ok (.ifCond .le 7, 3) := by decide +kernel
theorem dX11_sounds_29 : decode cX11_sounds 29 = .ok (.iconst 1, 1) := by decide +kernel
theorem dX11_sounds_30 : decode cX11_sounds 30 = .ok (.goto 4, 3) := by decide +kernel
theorem dX11_sounds_33 : decode cX11_sounds 33 = .ok (.iconst 0, 1) := by decide +kernel
theorem dX11_sounds_34 : decode cX11_sounds 34 = .ok (.ireturn, 1) := by decide +kernel
theorem dX11_burglarHas_0 : decode cX11_burglarHas 0 = .ok (.iload_n 2, 1) := by decide +kernel
theorem dX11_burglarHas_1 : decode cX11_burglarHas 1 = .ok (.iload_n 3, 1) := by decide +kernel
theorem dX11_burglarHas_2 : decode cX11_burglarHas 2 = .ok (.if_icmp .ne 7, 3) := by decide +kernel
theorem dX11_burglarHas_5 : decode cX11_burglarHas 5 = .ok (.iconst 0, 1) := by decide +kernel
theorem dX11_burglarHas_6 : decode cX11_burglarHas 6 = .ok (.goto 5, 3) := by decide +kernel
theorem dX11_burglarHas_9 : decode cX11_burglarHas 9 = .ok (.bipush 6, 2) := by decide +kernel
theorem dX11_burglarHas_11 : decode cX11_burglarHas 11 = .ok (.aload_n 0, 1) := by decide +kernel
theorem dX11_burglarHas_12 : decode cX11_burglarHas 12 = .ok (.iload_n 1, 1) := by decide +kernel
theorem dX11_burglarHas_13 : decode cX11_burglarHas 13 = .ok (.iload_n 2, 1) := by decide +kernel
theorem dX11_burglarHas_14 : decode cX11_burglarHas 14 = .ok (.invokevirtual 476, 3) := by decide +kernel
theorem dX11_burglarHas_17 : decode cX11_burglarHas 17 = .ok (.ifCond .eq 7, 3) := by decide +kernel
theorem dX11_burglarHas_20 : decode cX11_burglarHas 20 = .ok (.iconst 2, 1) := by decide +kernel
theorem dX11_burglarHas_21 : decode cX11_burglarHas 21 = .ok (.goto 4, 3) := by decide +kernel
theorem dX11_burglarHas_24 : decode cX11_burglarHas 24 = .ok (.iconst 0, 1) := by decide +kernel
theorem dX11_burglarHas_25 : decode cX11_burglarHas 25 = .ok (.iadd, 1) := by decide +kernel
theorem dX11_burglarHas_26 : decode cX11_burglarHas 26 = .ok (.ireturn, 1) := by decide +kernel
theorem dX11_houseHas_0 : decode cX11_houseHas 0 = .ok (.iload_n 2, 1) := by decide +kernel
theorem dX11_houseHas_1 : decode cX11_houseHas 1 = .ok (.iload_n 3, 1) := by decide +kernel
theorem dX11_houseHas_2 : decode cX11_houseHas 2 = .ok (.if_icmp .ne 7, 3) := by decide +kernel
theorem dX11_houseHas_5 : decode cX11_houseHas 5 = .ok (.iconst 5, 1) := by decide +kernel
theorem dX11_houseHas_6 : decode cX11_houseHas 6 = .ok (.goto 4, 3) := by decide +kernel
theorem dX11_houseHas_9 : decode cX11_houseHas 9 = .ok (.iconst 0, 1) := by decide +kernel
theorem dX11_houseHas_10 : decode cX11_houseHas 10 = .ok (.aload_n 0, 1) := by decide +kernel
theorem dX11_houseHas_11 : decode cX11_houseHas 11 = .ok (.iload_n 1, 1) := by decide +kernel
theorem dX11_houseHas_12 : decode cX11_houseHas 12 = .ok (.iload_n 3, 1) := by decide +kernel
theorem dX11_houseHas_13 : decode cX11_houseHas 13 = .ok (.invokevirtual 476, 3) := by decide +kernel
theorem dX11_houseHas_16 : decode cX11_houseHas 16 = .ok (.ifCond .eq 8, 3) := by decide +kernel
theorem dX11_houseHas_19 : decode cX11_houseHas 19 = .ok (.bipush 6, 2) := by decide +kernel
theorem dX11_houseHas_21 : decode cX11_houseHas 21 = .ok (.goto 4, 3) := by decide +kernel
theorem dX11_houseHas_24 : decode cX11_houseHas 24 = .ok (.iconst 0, 1) := by decide +kernel
theorem dX11_houseHas_25 : decode cX11_houseHas 25 = .ok (.isub, 1) := by decide +kernel
theorem dX11_houseHas_26 : decode cX11_houseHas 26 = .ok (.ireturn, 1) := by decide +kernel
theorem dX11_restAt_0 : decode cX11_restAt 0 = .ok (.iconst 0, 1) := by decide +kernel
theorem dX11_restAt_1 : decode cX11_restAt 1 = .ok (.istore_n 3, 1) := by decide +kernel
theorem dX11_restAt_2 : decode cX11_restAt 2 = .ok (.iconst 0, 1) := by decide +kernel
theorem dX11_restAt_3 : decode cX11_restAt 3 = .ok (.istore 4, 2) := by decide +kernel
theorem dX11_restAt_5 : decode cX11_restAt 5 = .ok (.iload 4, 2) := by decide +kernel
theorem dX11_restAt_7 : decode cX11_restAt 7 = .ok (.bipush 16, 2) := by decide +kernel
theorem dX11_restAt_9 : decode cX11_restAt 9 = .ok (.if_icmp .ge 118, 3) := by decide +kernel
theorem dX11_restAt_12 : decode cX11_restAt 12 = .ok (.iload 4, 2) := by decide +kernel
theorem dX11_restAt_14 : decode cX11_restAt 14 = .ok (.iconst 4, 1) := by decide +kernel
theorem dX11_restAt_15 : decode cX11_restAt 15 = .ok (.idiv, 1) := by decide +kernel
theorem dX11_restAt_16 : decode cX11_restAt 16 = .ok (.istore 5, 2) := by decide +kernel
theorem dX11_restAt_18 : decode cX11_restAt 18 = .ok (.iload 4, 2) := by decide +kernel
theorem dX11_restAt_20 : decode cX11_restAt 20 = .ok (.iconst 4, 1) := by decide +kernel
theorem dX11_restAt_21 : decode cX11_restAt 21 = .ok (.irem, 1) := by decide +kernel
theorem dX11_restAt_22 : decode cX11_restAt 22 = .ok (.istore 6, 2) := by decide +kernel
theorem dX11_restAt_24 : decode cX11_restAt 24 = .ok (.iconst 1, 1) := by decide +kernel
theorem dX11_restAt_25 : decode cX11_restAt 25 = .ok (.istore 7, 2) := by decide +kernel
theorem dX11_restAt_27 : decode cX11_restAt 27 = .ok (.iconst 0, 1) := by decide +kernel
theorem dX11_restAt_28 : decode cX11_restAt 28 = .ok (.istore 8, 2) := by decide +kernel
theorem dX11_restAt_30 : decode cX11_restAt 30 = .ok (.iload 8, 2) := by decide +kernel
theorem dX11_restAt_32 : decode cX11_restAt 32 = .ok (.iconst 4, 1) := by decide +kernel
theorem dX11_restAt_33 : decode cX11_restAt 33 = .ok (.if_icmp .ge 63, 3) := by decide +kernel
theorem dX11_restAt_36 : decode cX11_restAt 36 = .ok (.iload 7, 2) := by decide +kernel
theorem dX11_restAt_38 : decode cX11_restAt 38 = .ok (.ifCond .eq 49, 3) := by decide +kernel
theorem dX11_restAt_41 : decode cX11_restAt 41 = .ok (.aload_n 0, 1) := by decide +kernel
theorem dX11_restAt_42 : decode cX11_restAt 42 = .ok (.iload_n 1, 1) := by decide +kernel
theorem dX11_restAt_43 : decode cX11_restAt 43 = .ok (.iload 8, 2) := by decide +kernel
theorem dX11_restAt_45 : decode cX11_restAt 45 = .ok (.iload 6, 2) := by decide +kernel
theorem dX11_restAt_47 : decode cX11_restAt 47 = .ok (.invokevirtual 478, 3) := by decide +kernel
theorem dX11_restAt_50 : decode cX11_restAt 50 = .ok (.aload_n 0, 1) := by decide +kernel
theorem dX11_restAt_51 : decode cX11_restAt 51 = .ok (.iload_n 1, 1) := by decide +kernel
theorem dX11_restAt_52 : decode cX11_restAt 52 = .ok (.iload 5, 2) := by decide +kernel
theorem dX11_restAt_54 : decode cX11_restAt 54 = .ok (.iload 6, 2) := by decide +kernel
theorem dX11_restAt_56 : decode cX11_restAt 56 = .ok (.invokevirtual 478, 3) := by decide +kernel
theorem dX11_restAt_59 : decode cX11_restAt 59 = .ok (.if_icmp .gt 28, 3) := by decide +kernel
theorem dX11_restAt_62 : decode cX11_restAt 62 = .ok (.aload_n 0, 1) := by decide +kernel
theorem dX11_restAt_63 : decode cX11_restAt 63 = .ok (.iload_n 1, 1) := by decide +kernel
theorem dX11_restAt_64 : decode cX11_restAt 64 = .ok (.iload 5, 2) := by decide +kernel
theorem dX11_restAt_66 : decode cX11_restAt 66 = .ok (.iload 8, 2) := by decide +kernel
theorem dX11_restAt_68 : decode cX11_restAt 68 = .ok (.invokevirtual 481, 3) := by decide +kernel
theorem dX11_restAt_71 : decode cX11_restAt 71 = .ok (.aload_n 0, 1) := by decide +kernel
theorem dX11_restAt_72 : decode cX11_restAt 72 = .ok (.iload_n 1, 1) := by decide +kernel
theorem dX11_restAt_73 : decode cX11_restAt 73 = .ok (.iload 5, 2) := by decide +kernel
theorem dX11_restAt_75 : decode cX11_restAt 75 = .ok (.iload 6, 2) := by decide +kernel
theorem dX11_restAt_77 : decode cX11_restAt 77 = .ok (.invokevirtual 481, 3) := by decide +kernel
theorem dX11_restAt_80 : decode cX11_restAt 80 = .ok (.if_icmp .gt 7, 3) := by decide +kernel
theorem dX11_restAt_83 : decode cX11_restAt 83 = .ok (.iconst 1, 1) := by decide +kernel
theorem dX11_restAt_84 : decode cX11_restAt 84 = .ok (.goto 4, 3) := by decide +kernel
theorem dX11_restAt_87 : decode cX11_restAt 87 = .ok (.iconst 0, 1) := by decide +kernel
theorem dX11_restAt_88 : decode cX11_restAt 88 = .ok (.istore 7, 2) := by decide +kernel
theorem dX11_restAt_90 : decode cX11_restAt 90 = .ok (.iinc 8 1, 3) := by decide +kernel
theorem dX11_restAt_93 : decode cX11_restAt 93 = .ok (.goto (-63), 3) := by decide +kernel
theorem dX11_restAt_96 : decode cX11_restAt 96 = .ok (.iload 7, 2) := by decide +kernel
theorem dX11_restAt_98 : decode cX11_restAt 98 = .ok (.ifCond .ne 6, 3) := by decide +kernel
theorem dX11_restAt_101 : decode cX11_restAt 101 = .ok (.goto 20, 3) := by decide +kernel
theorem dX11_restAt_104 : decode cX11_restAt 104 = .ok (.iload_n 3, 1) := by decide +kernel
theorem dX11_restAt_105 : decode cX11_restAt 105 = .ok (.iload_n 2, 1) := by decide +kernel
theorem dX11_restAt_106 : decode cX11_restAt 106 = .ok (.if_icmp .ne 12, 3) := by decide +kernel
theorem dX11_restAt_109 : decode cX11_restAt 109 = .ok (.bipush 10, 2) := by decide +kernel
theorem dX11_restAt_111 : decode cX11_restAt 111 = .ok (.iload 5, 2) := by decide +kernel
theorem dX11_restAt_113 : decode cX11_restAt 113 = .ok (.imul, 1) := by decide +kernel
theorem dX11_restAt_114 : decode cX11_restAt 114 = .ok (.iload 6, 2) := by decide +kernel
theorem dX11_restAt_116 : decode cX11_restAt 116 = .ok (.iadd, 1) := by decide +kernel
theorem dX11_restAt_117 : decode cX11_restAt 117 = .ok (.ireturn, 1) := by decide +kernel
theorem dX11_restAt_118 : decode cX11_restAt 118 = .ok (.iinc 3 1, 3) := by decide +kernel
theorem dX11_restAt_121 : decode cX11_restAt 121 = .ok (.iinc 4 1, 3) := by decide +kernel
theorem dX11_restAt_124 : decode cX11_restAt 124 = .ok (.goto (-119), 3) := by decide +kernel
theorem dX11_restAt_127 : decode cX11_restAt 127 = .ok (.iload_n 2, 1) := by decide +kernel
theorem dX11_restAt_128 : decode cX11_restAt 128 = .ok (.ifCond .ge 7, 3) := by decide +kernel
theorem dX11_restAt_131 : decode cX11_restAt 131 = .ok (.iload_n 3, 1) := by decide +kernel
theorem dX11_restAt_132 : decode cX11_restAt 132 = .ok (.goto 5, 3) := by decide +kernel
theorem dX11_restAt_135 : decode cX11_restAt 135 = .ok (.bipush (-2), 2) := by decide +kernel
theorem dX11_restAt_137 : decode cX11_restAt 137 = .ok (.ireturn, 1) := by decide +kernel
theorem dX11_rests_0 : decode cX11_rests 0 = .ok (.aload_n 0, 1) := by decide +kernel
theorem dX11_rests_1 : decode cX11_rests 1 = .ok (.iconst 0, 1) := by decide +kernel
theorem dX11_rests_2 : decode cX11_rests 2 = .ok (.putfield 124, 3) := by decide +kernel
theorem dX11_rests_5 : decode cX11_rests 5 = .ok (.aload_n 0, 1) := by decide +kernel
theorem dX11_rests_6 : decode cX11_rests 6 = .ok (.iload_n 1, 1) := by decide +kernel
theorem dX11_rests_7 : decode cX11_rests 7 = .ok (.invokevirtual 352, 3) := by decide +kernel
theorem dX11_rests_10 : decode cX11_rests 10 = .ok (.ifCond .eq 12, 3) := by decide +kernel
theorem dX11_rests_13 : decode cX11_rests 13 = .ok (.aload_n 0, 1) := by decide +kernel
theorem dX11_rests_14 : decode cX11_rests 14 = .ok (.iload_n 1, 1) := by decide +kernel
theorem dX11_rests_15 : decode cX11_rests 15 = .ok (.iconst (-1), 1) := by decide +kernel
theorem dX11_rests_16 : decode cX11_rests 16 = .ok (.invokevirtual 484, 3) := by decide +kernel
theorem dX11_rests_19 : decode cX11_rests 19 = .ok (.goto 4, 3) := by decide +kernel
theorem dX11_rests_22 : decode cX11_rests 22 = .ok (.iconst (-1), 1) := by decide +kernel
theorem dX11_rests_23 : decode cX11_rests 23 = .ok (.ireturn, 1) := by decide +kernel
theorem dX11_rest_0 : decode cX11_rest 0 = .ok (.aload_n 0, 1) := by decide +kernel
theorem dX11_rest_1 : decode cX11_rest 1 = .ok (.iconst 0, 1) := by decide +kernel
theorem dX11_rest_2 : decode cX11_rest 2 = .ok (.putfield 124, 3) := by decide +kernel
theorem dX11_rest_5 : decode cX11_rest 5 = .ok (.aload_n 0, 1) := by decide +kernel
theorem dX11_rest_6 : decode cX11_rest 6 = .ok (.iload_n 1, 1) := by decide +kernel
theorem dX11_rest_7 : decode cX11_rest 7 = .ok (.invokevirtual 352, 3) := by decide +kernel
theorem dX11_rest_10 : decode cX11_rest 10 = .ok (.ifCond .eq 16, 3) := by decide +kernel
theorem dX11_rest_13 : decode cX11_rest 13 = .ok (.iload_n 2, 1) := by decide +kernel
theorem dX11_rest_14 : decode cX11_rest 14 = .ok (.ifCond .lt 12, 3) := by decide +kernel
theorem dX11_rest_17 : decode cX11_rest 17 = .ok (.aload_n 0, 1) := by decide +kernel
theorem dX11_rest_18 : decode cX11_rest 18 = .ok (.iload_n 1, 1) := by decide +kernel
theorem dX11_rest_19 : decode cX11_rest 19 = .ok (.iload_n 2, 1) := by decide +kernel
theorem dX11_rest_20 : decode cX11_rest 20 = .ok (.invokevirtual 484, 3) := by decide +kernel
theorem dX11_rest_23 : decode cX11_rest 23 = .ok (.goto 4, 3) := by decide +kernel
theorem dX11_rest_26 : decode cX11_rest 26 = .ok (.iconst (-1), 1) := by decide +kernel
theorem dX11_rest_27 : decode cX11_rest 27 = .ok (.ireturn, 1) := by decide +kernel
theorem dX11_alone_0 : decode cX11_alone 0 = .ok (.aload_n 0, 1) := by decide +kernel
theorem dX11_alone_1 : decode cX11_alone 1 = .ok (.iconst 0, 1) := by decide +kernel
theorem dX11_alone_2 : decode cX11_alone 2 = .ok (.putfield 124, 3) := by decide +kernel
theorem dX11_alone_5 : decode cX11_alone 5 = .ok (.aload_n 0, 1) := by decide +kernel
theorem dX11_alone_6 : decode cX11_alone 6 = .ok (.invokevirtual 322, 3) := by decide +kernel
theorem dX11_alone_9 : decode cX11_alone 9 = .ok (.iconst 0, 1) := by decide +kernel
theorem dX11_alone_10 : decode cX11_alone 10 = .ok (.istore_n 1, 1) := by decide +kernel
theorem dX11_alone_11 : decode cX11_alone 11 = .ok (.iconst 0, 1) := by decide +kernel
theorem dX11_alone_12 : decode cX11_alone 12 = .ok (.istore_n 2, 1) := by decide +kernel
theorem dX11_alone_13 : decode cX11_alone 13 = .ok (.iload_n 2, 1) := by decide +kernel
theorem dX11_alone_14 : decode cX11_alone 14 = .ok (.aload_n 0, 1) := by decide +kernel
theorem dX11_alone_15 : decode cX11_alone 15 = .ok (.getfield 201, 3) := by decide +kernel
theorem dX11_alone_18 : decode cX11_alone 18 = .ok (.if_icmp .ge 35, 3) := by decide +kernel
theorem dX11_alone_21 : decode cX11_alone 21 = .ok (.iload_n 1, 1) := by decide +kernel
theorem dX11_alone_22 : decode cX11_alone 22 = .ok (.aload_n 0, 1) := by decide +kernel
theorem dX11_alone_23 : decode cX11_alone 23 = .ok (.iconst 0, 1) := by decide +kernel
theorem dX11_alone_24 : decode cX11_alone 24 = .ok (.iload_n 2, 1) := by decide +kernel
theorem dX11_alone_25 : decode cX11_alone 25 = .ok (.invokevirtual 403, 3) := by decide +kernel
theorem dX11_alone_28 : decode cX11_alone 28 = .ok (.aload_n 0, 1) := by decide +kernel
theorem dX11_alone_29 : decode cX11_alone 29 = .ok (.iconst 0, 1) := by decide +kernel
theorem dX11_alone_30 : decode cX11_alone 30 = .ok (.iload_n 2, 1) := by decide +kernel
theorem dX11_alone_31 : decode cX11_alone 31 = .ok (.invokevirtual 406, 3) := by decide +kernel
theorem dX11_alone_34 : decode cX11_alone 34 = .ok (.ior, 1) := by decide +kernel
theorem dX11_alone_35 : decode cX11_alone 35 = .ok (.ifCond .ne 9, 3) := by decide +kernel
theorem dX11_alone_38 : decode cX11_alone 38 = .ok (.iconst 1, 1) := by decide +kernel
theorem dX11_alone_39 : decode cX11_alone 39 = .ok (.iload_n 2, 1) := by decide +kernel
theorem dX11_alone_40 : decode cX11_alone 40 = .ok (.ishl, 1) := by decide +kernel
theorem dX11_alone_41 : decode cX11_alone 41 = .ok (.goto 4, 3) := by decide +kernel
theorem dX11_alone_44 : decode cX11_alone 44 = .ok (.iconst 0, 1) := by decide +kernel
theorem dX11_alone_45 : decode cX11_alone 45 = .ok (.ior, 1) := by decide +kernel
theorem dX11_alone_46 : decode cX11_alone 46 = .ok (.istore_n 1, 1) := by decide +kernel
theorem dX11_alone_47 : decode cX11_alone 47 = .ok (.iinc 2 1, 3) := by decide +kernel
theorem dX11_alone_50 : decode cX11_alone 50 = .ok (.goto (-37), 3) := by decide +kernel
theorem dX11_alone_53 : decode cX11_alone 53 = .ok (.iload_n 1, 1) := by decide +kernel
theorem dX11_alone_54 : decode cX11_alone 54 = .ok (.ireturn, 1) := by decide +kernel
theorem dX11_code_0 : decode cX11_code 0 = .ok (.aload_n 0, 1) := by decide +kernel
theorem dX11_code_1 : decode cX11_code 1 = .ok (.iconst 0, 1) := by decide +kernel
theorem dX11_code_2 : decode cX11_code 2 = .ok (.putfield 124, 3) := by decide +kernel
theorem dX11_code_5 : decode cX11_code 5 = .ok (.aload_n 0, 1) := by decide +kernel
theorem dX11_code_6 : decode cX11_code 6 = .ok (.iload_n 1, 1) := by decide +kernel
theorem dX11_code_7 : decode cX11_code 7 = .ok (.iload_n 2, 1) := by decide +kernel
theorem dX11_code_8 : decode cX11_code 8 = .ok (.invokevirtual 413, 3) := by decide +kernel
theorem dX11_code_11 : decode cX11_code 11 = .ok (.ifCond .ne 5, 3) := by decide +kernel
theorem dX11_code_14 : decode cX11_code 14 = .ok (.iconst (-1), 1) := by decide +kernel
theorem dX11_code_15 : decode cX11_code 15 = .ok (.ireturn, 1) := by decide +kernel
theorem dX11_code_16 : decode cX11_code 16 = .ok (.aload_n 0, 1) := by decide +kernel
theorem dX11_code_17 : decode cX11_code 17 = .ok (.invokevirtual 424, 3) := by decide +kernel
theorem dX11_code_20 : decode cX11_code 20 = .ok (.aload_n 0, 1) := by decide +kernel
theorem dX11_code_21 : decode cX11_code 21 = .ok (.iconst 0, 1) := by decide +kernel
theorem dX11_code_22 : decode cX11_code 22 = .ok (.iload_n 1, 1) := by decide +kernel
theorem dX11_code_23 : decode cX11_code 23 = .ok (.iconst 1, 1) := by decide +kernel
theorem dX11_code_24 : decode cX11_code 24 = .ok (.invokevirtual 409, 3) := by decide +kernel
theorem dX11_code_27 : decode cX11_code 27 = .ok (.iconst 1, 1) := by decide +kernel
theorem dX11_code_28 : decode cX11_code 28 = .ok (.iload_n 2, 1) := by decide +kernel
theorem dX11_code_29 : decode cX11_code 29 = .ok (.ishl, 1) := by decide +kernel
theorem dX11_code_30 : decode cX11_code 30 = .ok (.ior, 1) := by decide +kernel
theorem dX11_code_31 : decode cX11_code 31 = .ok (.istore_n 3, 1) := by decide +kernel
theorem dX11_code_32 : decode cX11_code 32 = .ok (.iconst 0, 1) := by decide +kernel
theorem dX11_code_33 : decode cX11_code 33 = .ok (.istore 4, 2) := by decide +kernel
theorem dX11_code_35 : decode cX11_code 35 = .ok (.iload 4, 2) := by decide +kernel
theorem dX11_code_37 : decode cX11_code 37 = .ok (.bipush 20, 2) := by decide +kernel
theorem dX11_code_39 : decode cX11_code 39 = .ok (.if_icmp .gt 50, 3) := by decide +kernel
theorem dX11_code_42 : decode cX11_code 42 = .ok (.aload_n 0, 1) := by decide +kernel
theorem dX11_code_43 : decode cX11_code 43 = .ok (.iconst 1, 1) := by decide +kernel
theorem dX11_code_44 : decode cX11_code 44 = .ok (.iload_n 1, 1) := by decide +kernel
theorem dX11_code_45 : decode cX11_code 45 = .ok (.iconst 1, 1) := by decide +kernel
theorem dX11_code_46 : decode cX11_code 46 = .ok (.invokevirtual 409, 3) := by decide +kernel
theorem dX11_code_49 : decode cX11_code 49 = .ok (.istore 5, 2) := by decide +kernel
theorem dX11_code_51 : decode cX11_code 51 = .ok (.iload 5, 2) := by decide +kernel
theorem dX11_code_53 : decode cX11_code 53 = .ok (.iload_n 3, 1) := by decide +kernel
theorem dX11_code_54 : decode cX11_code 54 = .ok (.iconst (-1), 1) := by decide +kernel
theorem dX11_code_55 : decode cX11_code 55 = .ok (.ixor, 1) := by decide +kernel
theorem dX11_code_56 : decode cX11_code 56 = .ok (.iand, 1) := by decide +kernel
theorem dX11_code_57 : decode cX11_code 57 = .ok (.ifCond .eq 6, 3) := by decide +kernel
theorem dX11_code_60 : decode cX11_code 60 = .ok (.bipush (-2), 2) := by decide +kernel
theorem dX11_code_62 : decode cX11_code 62 = .ok (.ireturn, 1) := by decide +kernel
theorem dX11_code_63 : decode cX11_code 63 = .ok (.iload 5, 2) := by decide +kernel
theorem dX11_code_65 : decode cX11_code 65 = .ok (.iload_n 2, 1) := by decide +kernel
theorem dX11_code_66 : decode cX11_code 66 = .ok (.invokestatic 451, 3) := by decide +kernel
theorem dX11_code_69 : decode cX11_code 69 = .ok (.ifCond .eq 6, 3) := by decide +kernel
theorem dX11_code_72 : decode cX11_code 72 = .ok (.iload 4, 2) := by decide +kernel
theorem dX11_code_74 : decode cX11_code 74 = .ok (.ireturn, 1) := by decide +kernel
theorem dX11_code_75 : decode cX11_code 75 = .ok (.aload_n 0, 1) := by decide +kernel
theorem dX11_code_76 : decode cX11_code 76 = .ok (.iconst 1, 1) := by decide +kernel
theorem dX11_code_77 : decode cX11_code 77 = .ok (.iload_n 1, 1) := by decide +kernel
theorem dX11_code_78 : decode cX11_code 78 = .ok (.iconst 1, 1) := by decide +kernel
theorem dX11_code_79 : decode cX11_code 79 = .ok (.invokevirtual 390, 3) := by decide +kernel
theorem dX11_code_82 : decode cX11_code 82 = .ok (.pop, 1) := by decide +kernel
theorem dX11_code_83 : decode cX11_code 83 = .ok (.iinc 4 1, 3) := by decide +kernel
theorem dX11_code_86 : decode cX11_code 86 = .ok (.goto (-51), 3) := by decide +kernel
theorem dX11_code_89 : decode cX11_code 89 = .ok (.bipush (-2), 2) := by decide +kernel
theorem dX11_code_91 : decode cX11_code 91 = .ok (.ireturn, 1) := by decide +kernel
theorem dX11_dialBy_0 : decode cX11_dialBy 0 = .ok (.iload_n 2, 1) := by decide +kernel
theorem dX11_dialBy_1 : decode cX11_dialBy 1 = .ok (.iconst 2, 1) := by decide +kernel
theorem dX11_dialBy_2 : decode cX11_dialBy 2 = .ok (.irem, 1) := by decide +kernel
theorem dX11_dialBy_3 : decode cX11_dialBy 3 = .ok (.iconst 1, 1) := by decide +kernel
theorem dX11_dialBy_4 : decode cX11_dialBy 4 = .ok (.if_icmp .ne 18, 3) := by decide +kernel
theorem dX11_dialBy_7 : decode cX11_dialBy 7 = .ok (.aload_n 0, 1) := by decide +kernel
theorem dX11_dialBy_8 : decode cX11_dialBy 8 = .ok (.getfield 85, 3) := by decide +kernel
theorem dX11_dialBy_11 : decode cX11_dialBy 11 = .ok (.iload_n 1, 1) := by decide +kernel
theorem dX11_dialBy_12 : decode cX11_dialBy 12 = .ok (.iaload, 1) := by decide +kernel
theorem dX11_dialBy_13 : decode cX11_dialBy 13 = .ok (.iload_n 2, 1) := by decide +kernel
theorem dX11_dialBy_14 : decode cX11_dialBy 14 = .ok (.iconst 1, 1) := by decide +kernel
theorem dX11_dialBy_15 : decode cX11_dialBy 15 = .ok (.iadd, 1) := by decide +kernel
theorem dX11_dialBy_16 : decode cX11_dialBy 16 = .ok (.iconst 2, 1) := by decide +kernel
theorem dX11_dialBy_17 : decode cX11_dialBy 17 = .ok (.idiv, 1) := by decide +kernel
theorem dX11_dialBy_18 : decode cX11_dialBy 18 = .ok (.isub, 1) := by decide +kernel
theorem dX11_dialBy_19 : decode cX11_dialBy 19 = .ok (.goto 13, 3) := by decide +kernel
theorem dX11_dialBy_22 : decode cX11_dialBy 22 = .ok (.aload_n 0, 1) := by decide +kernel
theorem dX11_dialBy_23 : decode cX11_dialBy 23 = .ok (.getfield 85, 3) := by decide +kernel
theorem dX11_dialBy_26 : decode cX11_dialBy 26 = .ok (.iload_n 1, 1) := by decide +kernel
theorem dX11_dialBy_27 : decode cX11_dialBy 27 = .ok (.iaload, 1) := by decide +kernel
theorem dX11_dialBy_28 : decode cX11_dialBy 28 = .ok (.iload_n 2, 1) := by decide +kernel
theorem dX11_dialBy_29 : decode cX11_dialBy 29 = .ok (.iconst 2, 1) := by decide +kernel
theorem dX11_dialBy_30 : decode cX11_dialBy 30 = .ok (.idiv, 1) := by decide +kernel
theorem dX11_dialBy_31 : decode cX11_dialBy 31 = .ok (.iadd, 1) := by decide +kernel
theorem dX11_dialBy_32 : decode cX11_dialBy 32 = .ok (.istore_n 3, 1) := by decide +kernel
theorem dX11_dialBy_33 : decode cX11_dialBy 33 = .ok (.iload_n 3, 1) := by decide +kernel
theorem dX11_dialBy_34 : decode cX11_dialBy 34 = .ok (.iconst 0, 1) := by decide +kernel
theorem dX11_dialBy_35 : decode cX11_dialBy 35 = .ok (.bipush 99, 2) := by decide +kernel
theorem dX11_dialBy_37 : decode cX11_dialBy 37 = .ok (.invokestatic 169, 3) := by decide +kernel
theorem dX11_dialBy_40 : decode cX11_dialBy 40 = .ok (.ifCond .eq 7, 3) := by decide +kernel
theorem dX11_dialBy_43 : decode cX11_dialBy 43 = .ok (.iload_n 3, 1) := by decide +kernel
theorem dX11_dialBy_44 : decode cX11_dialBy 44 = .ok (.goto 4, 3) := by decide +kernel
theorem dX11_dialBy_47 : decode cX11_dialBy 47 = .ok (.iconst (-1), 1) := by decide +kernel
theorem dX11_dialBy_48 : decode cX11_dialBy 48 = .ok (.ireturn, 1) := by decide +kernel
theorem dX11_hide_0 : decode cX11_hide 0 = .ok (.aload_n 0, 1) := by decide +kernel
theorem dX11_hide_1 : decode cX11_hide 1 = .ok (.iconst 0, 1) := by decide +kernel
theorem dX11_hide_2 : decode cX11_hide 2 = .ok (.putfield 124, 3) := by decide +kernel
theorem dX11_hide_5 : decode cX11_hide 5 = .ok (.aload_n 0, 1) := by decide +kernel
theorem dX11_hide_6 : decode cX11_hide 6 = .ok (.iload_n 1, 1) := by decide +kernel
theorem dX11_hide_7 : decode cX11_hide 7 = .ok (.invokevirtual 352, 3) := by decide +kernel
theorem dX11_hide_10 : decode cX11_hide 10 = .ok (.ifCond .ne 5, 3) := by decide +kernel
theorem dX11_hide_13 : decode cX11_hide 13 = .ok (.iconst (-1), 1) := by decide +kernel
theorem dX11_hide_14 : decode cX11_hide 14 = .ok (.ireturn, 1) := by decide +kernel
theorem dX11_hide_15 : decode cX11_hide 15 = .ok (.aload_n 0, 1) := by decide +kernel
theorem dX11_hide_16 : decode cX11_hide 16 = .ok (.invokevirtual 424, 3) := by decide +kernel
theorem dX11_hide_19 : decode cX11_hide 19 = .ok (.iconst 0, 1) := by decide +kernel
theorem dX11_hide_20 : decode cX11_hide 20 = .ok (.istore_n 2, 1) := by decide +kernel
theorem dX11_hide_21 : decode cX11_hide 21 = .ok (.iload_n 2, 1) := by decide +kernel
theorem dX11_hide_22 : decode cX11_hide 22 = .ok (.sipush 200, 3) := by decide +kernel
theorem dX11_hide_25 : decode cX11_hide 25 = .ok (.if_icmp .ge 51, 3) := by decide +kernel
theorem dX11_hide_28 : decode cX11_hide 28 = .ok (.aload_n 0, 1) := by decide +kernel
theorem dX11_hide_29 : decode cX11_hide 29 = .ok (.iload_n 1, 1) := by decide +kernel
theorem dX11_hide_30 : decode cX11_hide 30 = .ok (.iload_n 2, 1) := by decide +kernel
theorem dX11_hide_31 : decode cX11_hide 31 = .ok (.invokevirtual 487, 3) := by decide +kernel
theorem dX11_hide_34 : decode cX11_hide 34 = .ok (.istore_n 3, 1) := by decide +kernel
theorem dX11_hide_35 : decode cX11_hide 35 = .ok (.iload_n 3, 1) := by decide +kernel
theorem dX11_hide_36 : decode cX11_hide 36 = .ok (.ifCond .ge 6, 3) := by decide +kernel
theorem dX11_hide_39 : decode cX11_hide 39 = .ok (.goto 31, 3) := by decide +kernel
theorem dX11_hide_42 : decode cX11_hide 42 = .ok (.aload_n 0, 1) := by decide +kernel
theorem dX11_hide_43 : decode cX11_hide 43 = .ok (.getfield 85, 3) := by decide +kernel
theorem dX11_hide_46 : decode cX11_hide 46 = .ok (.bipush 6, 2) := by decide +kernel
theorem dX11_hide_48 : decode cX11_hide 48 = .ok (.iload_n 1, 1) := by decide +kernel
theorem dX11_hide_49 : decode cX11_hide 49 = .ok (.iadd, 1) := by decide +kernel
theorem dX11_hide_50 : decode cX11_hide 50 = .ok (.iload_n 3, 1) := by decide +kernel
theorem dX11_hide_51 : decode cX11_hide 51 = .ok (.iastore, 1) := by decide +kernel
theorem dX11_hide_52 : decode cX11_hide 52 = .ok (.aload_n 0, 1) := by decide +kernel
theorem dX11_hide_53 : decode cX11_hide 53 = .ok (.iconst 1, 1) := by decide +kernel
theorem dX11_hide_54 : decode cX11_hide 54 = .ok (.iload_n 1, 1) := by decide +kernel
theorem dX11_hide_55 : decode cX11_hide 55 = .ok (.invokevirtual 403, 3) := by decide +kernel
theorem dX11_hide_58 : decode cX11_hide 58 = .ok (.aload_n 0, 1) := by decide +kernel
theorem dX11_hide_59 : decode cX11_hide 59 = .ok (.iconst 1, 1) := by decide +kernel
theorem dX11_hide_60 : decode cX11_hide 60 = .ok (.iload_n 1, 1) := by decide +kernel
theorem dX11_hide_61 : decode cX11_hide 61 = .ok (.invokevirtual 406, 3) := by decide +kernel
theorem dX11_hide_64 : decode cX11_hide 64 = .ok (.ior, 1) := by decide +kernel
theorem dX11_hide_65 : decode cX11_hide 65 = .ok (.ifCond .ne 5, 3) := by decide +kernel
theorem dX11_hide_68 : decode cX11_hide 68 = .ok (.iload_n 3, 1) := by decide +kernel
theorem dX11_hide_69 : decode cX11_hide 69 = .ok (.ireturn, 1) := by decide +kernel
theorem dX11_hide_70 : decode cX11_hide 70 = .ok (.iinc 2 1, 3) := by decide +kernel
theorem dX11_hide_73 : decode cX11_hide 73 = .ok (.goto (-52), 3) := by decide +kernel
theorem dX11_hide_76 : decode cX11_hide 76 = .ok (.bipush (-2), 2) := by decide +kernel
theorem dX11_hide_78 : decode cX11_hide 78 = .ok (.ireturn, 1) := by decide +kernel
theorem dX11_lure_0 : decode cX11_lure 0 = .ok (.aload_n 0, 1) := by decide +kernel
theorem dX11_lure_1 : decode cX11_lure 1 = .ok (.iconst 0, 1) := by decide +kernel
theorem dX11_lure_2 : decode cX11_lure 2 = .ok (.putfield 124, 3) := by decide +kernel
theorem dX11_lure_5 : decode cX11_lure 5 = .ok (.aload_n 0, 1) := by decide +kernel
theorem dX11_lure_6 : decode cX11_lure 6 = .ok (.iload_n 1, 1) := by decide +kernel
theorem dX11_lure_7 : decode cX11_lure 7 = .ok (.iload_n 2, 1) := by decide +kernel
theorem dX11_lure_8 : decode cX11_lure 8 = .ok (.invokevirtual 413, 3) := by decide +kernel
theorem dX11_lure_11 : decode cX11_lure 11 = .ok (.ifCond .ne 5, 3) := by decide +kernel
theorem dX11_lure_14 : decode cX11_lure 14 = .ok (.iconst (-1), 1) := by decide +kernel
theorem dX11_lure_15 : decode cX11_lure 15 = .ok (.ireturn, 1) := by decide +kernel
theorem dX11_lure_16 : decode cX11_lure 16 = .ok (.aload_n 0, 1) := by decide +kernel
theorem dX11_lure_17 : decode cX11_lure 17 = .ok (.invokevirtual 424, 3) := by decide +kernel
theorem dX11_lure_20 : decode cX11_lure 20 = .ok (.bipush (-2), 2) := by decide +kernel
theorem dX11_lure_22 : decode cX11_lure 22 = .ok (.istore_n 3, 1) := by decide +kernel
theorem dX11_lure_23 : decode cX11_lure 23 = .ok (.iconst 0, 1) := by decide +kernel
theorem dX11_lure_24 : decode cX11_lure 24 = .ok (.istore 4, 2) := by decide +kernel
theorem dX11_lure_26 : decode cX11_lure 26 = .ok (.iconst 0, 1) := by decide +kernel
theorem dX11_lure_27 : decode cX11_lure 27 = .ok (.istore 5, 2) := by decide +kernel
theorem dX11_lure_29 : decode cX11_lure 29 = .ok (.iload 5, 2) := by decide +kernel
theorem dX11_lure_31 : decode cX11_lure 31 = .ok (.sipush 200, 3) := by decide +kernel
theorem dX11_lure_34 : decode cX11_lure 34 = .ok (.if_icmp .ge 81, 3) := by decide +kernel
theorem dX11_lure_37 : decode cX11_lure 37 = .ok (.aload_n 0, 1) := by decide +kernel
theorem dX11_lure_38 : decode cX11_lure 38 = .ok (.iload_n 1, 1) := by decide +kernel
theorem dX11_lure_39 : decode cX11_lure 39 = .ok (.iload 5, 2) := by decide +kernel
theorem dX11_lure_41 : decode cX11_lure 41 = .ok (.invokevirtual 487, 3) := by decide +kernel
theorem dX11_lure_44 : decode cX11_lure 44 = .ok (.istore 6, 2) := by decide +kernel
theorem dX11_lure_46 : decode cX11_lure 46 = .ok (.iload 6, 2) := by decide +kernel
theorem dX11_lure_48 : decode cX11_lure 48 = .ok (.ifCond .ge 6, 3) := by decide +kernel
theorem dX11_lure_51 : decode cX11_lure 51 = .ok (.goto 58, 3) := by decide +kernel
theorem dX11_lure_54 : decode cX11_lure 54 = .ok (.aload_n 0, 1) := by decide +kernel
theorem dX11_lure_55 : decode cX11_lure 55 = .ok (.getfield 85, 3) := by decide +kernel
theorem dX11_lure_58 : decode cX11_lure 58 = .ok (.bipush 6, 2) := by decide +kernel
theorem dX11_lure_60 : decode cX11_lure 60 = .ok (.iload_n 1, 1) := by decide +kernel
theorem dX11_lure_61 : decode cX11_lure 61 = .ok (.iadd, 1) := by decide +kernel
theorem dX11_lure_62 : decode cX11_lure 62 = .ok (.iload 6, 2) := by decide +kernel
theorem dX11_lure_64 : decode cX11_lure 64 = .ok (.iastore, 1) := by decide +kernel
theorem dX11_lure_65 : decode cX11_lure 65 = .ok (.aload_n 0, 1) := by decide +kernel
theorem dX11_lure_66 : decode cX11_lure 66 = .ok (.iconst 1, 1) := by decide +kernel
theorem dX11_lure_67 : decode cX11_lure 67 = .ok (.iload_n 1, 1) := by decide +kernel
theorem dX11_lure_68 : decode cX11_lure 68 = .ok (.invokevirtual 406, 3) := by decide +kernel
theorem dX11_lure_71 : decode cX11_lure 71 = .ok (.istore 7, 2) := by decide +kernel
theorem dX11_lure_73 : decode cX11_lure 73 = .ok (.iload 7, 2) := by decide +kernel
theorem dX11_lure_75 : decode cX11_lure 75 = .ok (.iload_n 2, 1) := by decide +kernel
theorem dX11_lure_76 : decode cX11_lure 76 = .ok (.invokestatic 451, 3) := by decide +kernel
theorem dX11_lure_79 : decode cX11_lure 79 = .ok (.ifCond .eq 30, 3) := by decide +kernel
theorem dX11_lure_82 : decode cX11_lure 82 = .ok (.iload_n 3, 1) := by decide +kernel
theorem dX11_lure_83 : decode cX11_lure 83 = .ok (.ifCond .lt 16, 3) := by decide +kernel
theorem dX11_lure_86 : decode cX11_lure 86 = .ok (.iload 7, 2) := by decide +kernel
theorem dX11_lure_88 : decode cX11_lure 88 = .ok (.invokestatic 470, 3) := by decide +kernel
theorem dX11_lure_91 : decode cX11_lure 91 = .ok (.iload 4, 2) := by decide +kernel
theorem dX11_lure_93 : decode cX11_lure 93 = .ok (.if_icmp .lt 6, 3) := by decide +kernel
theorem dX11_lure_96 : decode cX11_lure 96 = .ok (.goto 13, 3) := by decide +kernel
theorem dX11_lure_99 : decode cX11_lure 99 = .ok (.iload 6, 2) := by decide +kernel
theorem dX11_lure_101 : decode cX11_lure 101 = .ok (.istore_n 3, 1) := by decide +kernel
theorem dX11_lure_102 : decode cX11_lure 102 = .ok (.iload 7, 2) := by decide +kernel
theorem dX11_lure_104 : decode cX11_lure 104 = .ok (.invokestatic 470, 3) := by decide +kernel
theorem dX11_lure_107 : decode cX11_lure 107 = .ok (.istore 4, 2) := by decide +kernel
theorem dX11_lure_109 : decode cX11_lure 109 = .ok (.iinc 5 1, 3) := by decide +kernel
theorem dX11_lure_112 : decode cX11_lure 112 = .ok (.goto (-83), 3) := by decide +kernel
theorem dX11_lure_115 : decode cX11_lure 115 = .ok (.iload_n 3, 1) := by decide +kernel
theorem dX11_lure_116 : decode cX11_lure 116 = .ok (.ireturn, 1) := by decide +kernel
theorem dX11_loudest_0 : decode cX11_loudest 0 = .ok (.aload_n 0, 1) := by decide +kernel
theorem dX11_loudest_1 : decode cX11_loudest 1 = .ok (.iconst 0, 1) := by decide +kernel
theorem dX11_loudest_2 : decode cX11_loudest 2 = .ok (.putfield 124, 3) := by decide +kernel
theorem dX11_loudest_5 : decode cX11_loudest 5 = .ok (.bipush (-2), 2) := by decide +kernel
theorem dX11_loudest_7 : decode cX11_loudest 7 = .ok (.istore_n 1, 1) := by decide +kernel
theorem dX11_loudest_8 : decode cX11_loudest 8 = .ok (.iconst 0, 1) := by decide +kernel
theorem dX11_loudest_9 : decode cX11_loudest 9 = .ok (.istore_n 2, 1) := by decide +kernel
theorem dX11_loudest_10 : decode cX11_loudest 10 = .ok (.iconst 0, 1) := by decide +kernel
theorem dX11_loudest_11 : decode cX11_loudest 11 = .ok (.istore_n 3, 1) := by decide +kernel
theorem dX11_loudest_12 : decode cX11_loudest 12 = .ok (.iload_n 3, 1) := by decide +kernel
theorem dX11_loudest_13 : decode cX11_loudest 13 = .ok (.aload_n 0, 1) := by decide +kernel
theorem dX11_loudest_14 : decode cX11_loudest 14 = .ok (.getfield 201, 3) := by decide +kernel
theorem dX11_loudest_17 : decode cX11_loudest 17 = .ok (.if_icmp .ge 65, 3) := by decide +kernel
theorem dX11_loudest_20 : decode cX11_loudest 20 = .ok (.iconst 0, 1) := by decide +kernel
theorem dX11_loudest_21 : decode cX11_loudest 21 = .ok (.istore 4, 2) := by decide +kernel
theorem dX11_loudest_23 : decode cX11_loudest 23 = .ok (.iconst 0, 1) := by decide +kernel
theorem dX11_loudest_24 : decode cX11_loudest 24 = .ok (.istore 5, 2) := by decide +kernel
theorem dX11_loudest_26 : decode cX11_loudest 26 = .ok (.iload 5, 2) := by decide +kernel
theorem dX11_loudest_28 : decode cX11_loudest 28 = .ok (.aload_n 0, 1) := by decide +kernel
theorem dX11_loudest_29 : decode cX11_loudest 29 = .ok (.getfield 207, 3) := by decide +kernel
theorem dX11_loudest_32 : decode cX11_loudest 32 = .ok (.if_icmp .ge 30, 3) := by decide +kernel
theorem dX11_loudest_35 : decode cX11_loudest 35 = .ok (.iload 4, 2) := by decide +kernel
theorem dX11_loudest_37 : decode cX11_loudest 37 = .ok (.aload_n 0, 1) := by decide +kernel
theorem dX11_loudest_38 : decode cX11_loudest 38 = .ok (.getfield 45, 3) := by decide +kernel
theorem dX11_loudest_41 : decode cX11_loudest 41 = .ok (.iload 5, 2) := by decide +kernel
theorem dX11_loudest_43 : decode cX11_loudest 43 = .ok (.iaload, 1) := by decide +kernel
theorem dX11_loudest_44 : decode cX11_loudest 44 = .ok (.iload_n 3, 1) := by decide +kernel
theorem dX11_loudest_45 : decode cX11_loudest 45 = .ok (.if_icmp .ne 7, 3) := by decide +kernel
theorem dX11_loudest_48 : decode cX11_loudest 48 = .ok (.iconst 1, 1) := by decide +kernel
theorem dX11_loudest_49 : decode cX11_loudest 49 = .ok (.goto 4, 3) := by decide +kernel
theorem dX11_loudest_52 : decode cX11_loudest 52 = .ok (.iconst 0, 1) := by decide +kernel
theorem dX11_loudest_53 : decode cX11_loudest 53 = .ok (.iadd, 1) := by decide +kernel
theorem dX11_loudest_54 : decode cX11_loudest 54 = .ok (.istore 4, 2) := by decide +kernel
theorem dX11_loudest_56 : decode cX11_loudest 56 = .ok (.iinc 5 1, 3) := by decide +kernel
theorem dX11_loudest_59 : decode cX11_loudest 59 = .ok (.goto (-33), 3) := by decide +kernel
theorem dX11_loudest_62 : decode cX11_loudest 62 = .ok (.iload 4, 2) := by decide +kernel
theorem dX11_loudest_64 : decode cX11_loudest 64 = .ok (.iload_n 2, 1) := by decide +kernel
theorem dX11_loudest_65 : decode cX11_loudest 65 = .ok (.if_icmp .gt 6, 3) := by decide +kernel
theorem dX11_loudest_68 : decode cX11_loudest 68 = .ok (.goto 8, 3) := by decide +kernel
theorem dX11_loudest_71 : decode cX11_loudest 71 = .ok (.iload_n 3, 1) := by decide +kernel
theorem dX11_loudest_72 : decode cX11_loudest 72 = .ok (.istore_n 1, 1) := by decide +kernel
theorem dX11_loudest_73 : decode cX11_loudest 73 = .ok (.iload 4, 2) := by decide +kernel
theorem dX11_loudest_75 : decode cX11_loudest 75 = .ok (.istore_n 2, 1) := by decide +kernel
theorem dX11_loudest_76 : decode cX11_loudest 76 = .ok (.iinc 3 1, 3) := by decide +kernel
theorem dX11_loudest_79 : decode cX11_loudest 79 = .ok (.goto (-67), 3) := by decide +kernel
theorem dX11_loudest_82 : decode cX11_loudest 82 = .ok (.iload_n 1, 1) := by decide +kernel
theorem dX11_loudest_83 : decode cX11_loudest 83 = .ok (.ireturn, 1) := by decide +kernel
theorem dX11_nextHeard_0 : decode cX11_nextHeard 0 = .ok (.aload_n 0, 1) := by decide +kernel
theorem dX11_nextHeard_1 : decode cX11_nextHeard 1 = .ok (.iconst 0, 1) := by decide +kernel
theorem dX11_nextHeard_2 : decode cX11_nextHeard 2 = .ok (.putfield 124, 3) := by decide +kernel
theorem dX11_nextHeard_5 : decode cX11_nextHeard 5 = .ok (.aload_n 0, 1) := by decide +kernel
theorem dX11_nextHeard_6 : decode cX11_nextHeard 6 = .ok (.iload_n 1, 1) := by decide +kernel
theorem dX11_nextHeard_7 : decode cX11_nextHeard 7 = .ok (.iload_n 2, 1) := by decide +kernel
theorem dX11_nextHeard_8 : decode cX11_nextHeard 8 = .ok (.invokevirtual 413, 3) := by decide +kernel
theorem dX11_nextHeard_11 : decode cX11_nextHeard 11 = .ok (.ifCond .ne 5, 3) := by decide +kernel
theorem dX11_nextHeard_14 : decode cX11_nextHeard 14 = .ok (.iconst (-1), 1) := by decide +kernel
theorem dX11_nextHeard_15 : decode cX11_nextHeard 15 = .ok (.ireturn, 1) := by decide +kernel
theorem dX11_nextHeard_16 : decode cX11_nextHeard 16 = .ok (.aload_n 0, 1) := by decide +kernel
theorem dX11_nextHeard_17 : decode cX11_nextHeard 17 = .ok (.invokevirtual 424, 3) := by decide +kernel
theorem dX11_nextHeard_20 : decode cX11_nextHeard 20 = .ok (.iconst 1, 1) := by decide +kernel
theorem dX11_nextHeard_21 : decode cX11_nextHeard 21 = .ok (.istore_n 3, 1) := by decide +kernel
theorem dX11_nextHeard_22 : decode cX11_nextHeard 22 = .ok (.iload_n 3, 1) := by decide +kernel
theorem dX11_nextHeard_23 : decode cX11_nextHeard 23 = .ok (.bipush 99, 2) := by decide +kernel
theorem dX11_nextHeard_25 : decode cX11_nextHeard 25 = .ok (.if_icmp .gt 44, 3) := by decide +kernel
theorem dX11_nextHeard_28 : decode cX11_nextHeard 28 = .ok (.aload_n 0, 1) := by decide +kernel
theorem dX11_nextHeard_29 : decode cX11_nextHeard 29 = .ok (.iconst 1, 1) := by decide +kernel
theorem dX11_nextHeard_30 : decode cX11_nextHeard 30 = .ok (.invokevirtual 397, 3) := by decide +kernel
theorem dX11_nextHeard_33 : decode cX11_nextHeard 33 = .ok (.aload_n 0, 1) := by decide +kernel
theorem dX11_nextHeard_34 : decode cX11_nextHeard 34 = .ok (.getfield 94, 3) := by decide +kernel
theorem dX11_nextHeard_37 : decode cX11_nextHeard 37 = .ok (.bipush 36, 2) := by decide +kernel
theorem dX11_nextHeard_39 : decode cX11_nextHeard 39 = .ok (.bipush 6, 2) := by decide +kernel
theorem dX11_nextHeard_41 : decode cX11_nextHeard 41 = .ok (.iload_n 1, 1) := by decide +kernel
theorem dX11_nextHeard_42 : decode cX11_nextHeard 42 = .ok (.imul, 1) := by decide +kernel
theorem dX11_nextHeard_43 : decode cX11_nextHeard 43 = .ok (.iadd, 1) := by decide +kernel
theorem dX11_nextHeard_44 : decode cX11_nextHeard 44 = .ok (.iload_n 2, 1) := by decide +kernel
theorem dX11_nextHeard_45 : decode cX11_nextHeard 45 = .ok (.iadd, 1) := by decide +kernel
theorem dX11_nextHeard_46 : decode cX11_nextHeard 46 = .ok (.iaload, 1) := by decide +kernel
theorem dX11_nextHeard_47 : decode cX11_nextHeard 47 = .ok (.aload_n 0, 1) := by decide +kernel
theorem dX11_nextHeard_48 : decode cX11_nextHeard 48 = .ok (.getfield 94, 3) := by decide +kernel
theorem dX11_nextHeard_51 : decode cX11_nextHeard 51 = .ok (.bipush 6, 2) := by decide +kernel
theorem dX11_nextHeard_53 : decode cX11_nextHeard 53 = .ok (.iload_n 1, 1) := by decide +kernel
theorem dX11_nextHeard_54 : decode cX11_nextHeard 54 = .ok (.imul, 1) := by decide +kernel
theorem dX11_nextHeard_55 : decode cX11_nextHeard 55 = .ok (.iload_n 2, 1) := by decide +kernel
theorem dX11_nextHeard_56 : decode cX11_nextHeard 56 = .ok (.iadd, 1) := by decide +kernel
theorem dX11_nextHeard_57 : decode cX11_nextHeard 57 = .ok (.iaload, 1) := by decide +kernel
theorem dX11_nextHeard_58 : decode cX11_nextHeard 58 = .ok (.if_icmp .le 5, 3) := by decide +kernel
theorem dX11_nextHeard_61 : decode cX11_nextHeard 61 = .ok (.iload_n 3, 1) := by decide +kernel
theorem dX11_nextHeard_62 : decode cX11_nextHeard 62 = .ok (.ireturn, 1) := by decide +kernel
theorem dX11_nextHeard_63 : decode cX11_nextHeard 63 = .ok (.iinc 3 1, 3) := by decide +kernel
theorem dX11_nextHeard_66 : decode cX11_nextHeard 66 = .ok (.goto (-44), 3) := by decide +kernel
theorem dX11_nextHeard_69 : decode cX11_nextHeard 69 = .ok (.bipush (-2), 2) := by decide +kernel
theorem dX11_nextHeard_71 : decode cX11_nextHeard 71 = .ok (.ireturn, 1) := by decide +kernel
theorem dX11_chance_0 : decode cX11_chance 0 = .ok (.aload_n 0, 1) := by decide +kernel
theorem dX11_chance_1 : decode cX11_chance 1 = .ok (.iconst 0, 1) := by decide +kernel
theorem dX11_chance_2 : decode cX11_chance 2 = .ok (.putfield 124, 3) := by decide +kernel
theorem dX11_chance_5 : decode cX11_chance 5 = .ok (.iload_n 1, 1) := by decide +kernel
theorem dX11_chance_6 : decode cX11_chance 6 = .ok (.ifCond .lt 23, 3) := by decide +kernel
theorem dX11_chance_9 : decode cX11_chance 9 = .ok (.iload_n 2, 1) := by decide +kernel
theorem dX11_chance_10 : decode cX11_chance 10 = .ok (.iconst 1, 1) := by decide +kernel
theorem dX11_chance_11 : decode cX11_chance 11 = .ok (.bipush 99, 2) := by decide +kernel
theorem dX11_chance_13 : decode cX11_chance 13 = .ok (.invokestatic 169, 3) := by decide +kernel
theorem dX11_chance_16 : decode cX11_chance 16 = .ok (.ifCond .eq 13, 3) := by decide +kernel
theorem dX11_chance_19 : decode cX11_chance 19 = .ok (.aload_n 0, 1) := by decide +kernel
theorem dX11_chance_20 : decode cX11_chance 20 = .ok (.iload_n 3, 1) := by decide +kernel
theorem dX11_chance_21 : decode cX11_chance 21 = .ok (.iload 4, 2) := by decide +kernel
theorem dX11_chance_23 : decode cX11_chance 23 = .ok (.invokevirtual 413, 3) := by decide +kernel
theorem dX11_chance_26 : decode cX11_chance 26 = .ok (.ifCond .ne 5, 3) := by decide +kernel
theorem dX11_chance_29 : decode cX11_chance 29 = .ok (.iconst (-1), 1) := by decide +kernel
theorem dX11_chance_30 : decode cX11_chance 30 = .ok (.ireturn, 1) := by decide +kernel
theorem dX11_chance_31 : decode cX11_chance 31 = .ok (.aload_n 0, 1) := by decide +kernel
theorem dX11_chance_32 : decode cX11_chance 32 = .ok (.getfield 318, 3) := by decide +kernel
theorem dX11_chance_35 : decode cX11_chance 35 = .ok (.lstore 5, 2) := by decide +kernel
theorem dX11_chance_37 : decode cX11_chance 37 = .ok (.aload_n 0, 1) := by decide +kernel
theorem dX11_chance_38 : decode cX11_chance 38 = .ok (.iload_n 1, 1) := by decide +kernel
theorem dX11_chance_39 : decode cX11_chance 39 = .ok (.i2l, 1) := by decide +kernel
theorem dX11_chance_40 : decode cX11_chance 40 = .ok (.putfield 318, 3) := by decide +kernel
theorem dX11_chance_43 : decode cX11_chance 43 = .ok (.iconst 0, 1) := by decide +kernel
theorem dX11_chance_44 : decode cX11_chance 44 = .ok (.istore 7, 2) := by decide +kernel
theorem dX11_chance_46 : decode cX11_chance 46 = .ok (.iconst 0, 1) := by decide +kernel
theorem dX11_chance_47 : decode cX11_chance 47 = .ok (.istore 8, 2) := by decide +kernel
theorem dX11_chance_49 : decode cX11_chance 49 = .ok (.iload 8, 2) := by decide +kernel
theorem dX11_chance_51 : decode cX11_chance 51 = .ok (.bipush 10, 2) := by decide +kernel
theorem dX11_chance_53 : decode cX11_chance 53 = .ok (.if_icmp .ge 51, 3) := by decide +kernel
theorem dX11_chance_56 : decode cX11_chance 56 = .ok (.aload_n 0, 1) := by decide +kernel
theorem dX11_chance_57 : decode cX11_chance 57 = .ok (.invokevirtual 424, 3) := by decide +kernel
theorem dX11_chance_60 : decode cX11_chance 60 = .ok (.aload_n 0, 1) := by decide +kernel
theorem dX11_chance_61 : decode cX11_chance 61 = .ok (.iconst 1, 1) := by decide +kernel
theorem dX11_chance_62 : decode cX11_chance 62 = .ok (.putfield 334, 3) := by decide +kernel
theorem dX11_chance_65 : decode cX11_chance 65 = .ok (.aload_n 0, 1) := by decide +kernel
theorem dX11_chance_66 : decode cX11_chance 66 = .ok (.iload_n 2, 1) := by decide +kernel
theorem dX11_chance_67 : decode cX11_chance 67 = .ok (.invokevirtual 427, 3) := by decide +kernel
theorem dX11_chance_70 : decode cX11_chance 70 = .ok (.iload 7, 2) := by decide +kernel
theorem dX11_chance_72 : decode cX11_chance 72 = .ok (.aload_n 0, 1) := by decide +kernel
theorem dX11_chance_73 : decode cX11_chance 73 = .ok (.getfield 97, 3) := by decide +kernel
theorem dX11_chance_76 : decode cX11_chance 76 = .ok (.bipush 36, 2) := by decide +kernel
theorem dX11_chance_78 : decode cX11_chance 78 = .ok (.bipush 6, 2) := by decide +kernel
theorem dX11_chance_80 : decode cX11_chance 80 = .ok (.iload_n 3, 1) := by decide +kernel
theorem dX11_chance_81 : decode cX11_chance 81 = .ok (.imul, 1) := by decide +kernel
theorem dX11_chance_82 : decode cX11_chance 82 = .ok (.iadd, 1) := by decide +kernel
theorem dX11_chance_83 : decode cX11_chance 83 = .ok (.iload 4, 2) := by decide +kernel
theorem dX11_chance_85 : decode cX11_chance 85 = .ok (.iadd, 1) := by decide +kernel
theorem dX11_chance_86 : decode cX11_chance 86 = .ok (.baload, 1) := by decide +kernel
theorem dX11_chance_87 : decode cX11_chance 87 = .ok (.ifCond .eq 7, 3) := by decide +kernel
theorem dX11_chance_90 : decode cX11_chance 90 = .ok (.iconst 1, 1) := by decide +kernel
theorem dX11_chance_91 : decode cX11_chance 91 = .ok (.goto 4, 3) := by decide +kernel
theorem dX11_chance_94 : decode cX11_chance 94 = .ok (.iconst 0, 1) := by decide +kernel
theorem dX11_chance_95 : decode cX11_chance 95 = .ok (.iadd, 1) := by decide +kernel
theorem dX11_chance_96 : decode cX11_chance 96 = .ok (.istore 7, 2) := by decide +kernel
theorem dX11_chance_98 : decode cX11_chance 98 = .ok (.iinc 8 1, 3) := by decide +kernel
theorem dX11_chance_101 : decode cX11_chance 101 = .ok (.goto (-52), 3) := by decide +kernel
theorem dX11_chance_104 : decode cX11_chance 104 = .ok (.aload_n 0, 1) := by decide +kernel
theorem dX11_chance_105 : decode cX11_chance 105 = .ok (.iconst 0, 1) := by decide +kernel
theorem dX11_chance_106 : decode cX11_chance 106 = .ok (.putfield 334, 3) := by decide +kernel
theorem dX11_chance_109 : decode cX11_chance 109 = .ok (.aload_n 0, 1) := by decide +kernel
theorem dX11_chance_110 : decode cX11_chance 110 = .ok (.lload 5, 2) := by decide +kernel
theorem dX11_chance_112 : decode cX11_chance 112 = .ok (.putfield 318, 3) := by decide +kernel
theorem dX11_chance_115 : decode cX11_chance 115 = .ok (.iload 7, 2) := by decide +kernel
theorem dX11_chance_117 : decode cX11_chance 117 = .ok (.ireturn, 1) := by decide +kernel
theorem dX11_tried_0 : decode cX11_tried 0 = .ok (.aload_n 0, 1) := by decide +kernel
theorem dX11_tried_1 : decode cX11_tried 1 = .ok (.iconst 0, 1) := by decide +kernel
theorem dX11_tried_2 : decode cX11_tried 2 = .ok (.putfield 124, 3) := by decide +kernel
theorem dX11_tried_5 : decode cX11_tried 5 = .ok (.iload_n 1, 1) := by decide +kernel
theorem dX11_tried_6 : decode cX11_tried 6 = .ok (.iconst 0, 1) := by decide +kernel
theorem dX11_tried_7 : decode cX11_tried 7 = .ok (.iconst 4, 1) := by decide +kernel
theorem dX11_tried_8 : decode cX11_tried 8 = .ok (.invokestatic 169, 3) := by decide +kernel
theorem dX11_tried_11 : decode cX11_tried 11 = .ok (.ifCond .eq 33, 3) := by decide +kernel
theorem dX11_tried_14 : decode cX11_tried 14 = .ok (.iload_n 3, 1) := by decide +kernel
theorem dX11_tried_15 : decode cX11_tried 15 = .ok (.iconst 0, 1) := by decide +kernel
theorem dX11_tried_16 : decode cX11_tried 16 = .ok (.bipush 99, 2) := by decide +kernel
theorem dX11_tried_18 : decode cX11_tried 18 = .ok (.invokestatic 169, 3) := by decide +kernel
theorem dX11_tried_21 : decode cX11_tried 21 = .ok (.ifCond .eq 23, 3) := by decide +kernel
theorem dX11_tried_24 : decode cX11_tried 24 = .ok (.iload_n 1, 1) := by decide +kernel
theorem dX11_tried_25 : decode cX11_tried 25 = .ok (.iconst 2, 1) := by decide +kernel
theorem dX11_tried_26 : decode cX11_tried 26 = .ok (.if_icmp .ne 14, 3) := by decide +kernel
theorem dX11_tried_29 : decode cX11_tried 29 = .ok (.aload_n 0, 1) := by decide +kernel
theorem dX11_tried_30 : decode cX11_tried 30 = .ok (.iload_n 2, 1) := by decide +kernel
theorem dX11_tried_31 : decode cX11_tried 31 = .ok (.invokevirtual 352, 3) := by decide +kernel
theorem dX11_tried_34 : decode cX11_tried 34 = .ok (.ifCond .ne 12, 3) := by decide +kernel
theorem dX11_tried_37 : decode cX11_tried 37 = .ok (.goto 7, 3) := by decide +kernel
theorem dX11_tried_40 : decode cX11_tried 40 = .ok (.iload_n 2, 1) := by decide +kernel
theorem dX11_tried_41 : decode cX11_tried 41 = .ok (.ifCond .eq 5, 3) := by decide +kernel
theorem dX11_tried_44 : decode cX11_tried 44 = .ok (.iconst (-1), 1) := by decide +kernel
theorem dX11_tried_45 : decode cX11_tried 45 = .ok (.ireturn, 1) := by decide +kernel
theorem dX11_tried_46 : decode cX11_tried 46 = .ok (.aload_n 0, 1) := by decide +kernel
theorem dX11_tried_47 : decode cX11_tried 47 = .ok (.invokevirtual 424, 3) := by decide +kernel
theorem dX11_tried_50 : decode cX11_tried 50 = .ok (.aload_n 0, 1) := by decide +kernel
theorem dX11_tried_51 : decode cX11_tried 51 = .ok (.iload_n 1, 1) := by decide +kernel
theorem dX11_tried_52 : decode cX11_tried 52 = .ok (.ifCond .ne 7, 3) := by decide +kernel
theorem dX11_tried_55 : decode cX11_tried 55 = .ok (.iconst 1, 1) := by decide +kernel
theorem dX11_tried_56 : decode cX11_tried 56 = .ok (.goto 4, 3) := by decide +kernel
theorem dX11_tried_59 : decode cX11_tried 59 = .ok (.iconst 0, 1) := by decide +kernel
theorem dX11_tried_60 : decode cX11_tried 60 = .ok (.putfield 337, 3) := by decide +kernel
theorem dX11_tried_63 : decode cX11_tried 63 = .ok (.aload_n 0, 1) := by decide +kernel
theorem dX11_tried_64 : decode cX11_tried 64 = .ok (.iload_n 1, 1) := by decide +kernel
theorem dX11_tried_65 : decode cX11_tried 65 = .ok (.iconst 1, 1) := by decide +kernel
theorem dX11_tried_66 : decode cX11_tried 66 = .ok (.if_icmp .ne 7, 3) := by decide +kernel
theorem dX11_tried_69 : decode cX11_tried 69 = .ok (.iconst 1, 1) := by decide +kernel
theorem dX11_tried_70 : decode cX11_tried 70 = .ok (.goto 4, 3) := by decide +kernel
theorem dX11_tried_73 : decode cX11_tried 73 = .ok (.iconst 0, 1) := by decide +kernel
theorem dX11_tried_74 : decode cX11_tried 74 = .ok (.putfield 340, 3) := by decide +kernel
theorem dX11_tried_77 : decode cX11_tried 77 = .ok (.aload_n 0, 1) := by decide +kernel
theorem dX11_tried_78 : decode cX11_tried 78 = .ok (.iload_n 1, 1) := by decide +kernel
theorem dX11_tried_79 : decode cX11_tried 79 = .ok (.iconst 2, 1) := by decide +kernel
theorem dX11_tried_80 : decode cX11_tried 80 = .ok (.if_icmp .ne 7, 3) := by decide +kernel
theorem dX11_tried_83 : decode cX11_tried 83 = .ok (.iload_n 2, 1) := by decide +kernel
theorem dX11_tried_84 : decode cX11_tried 84 = .ok (.goto 4, 3) := by decide +kernel
theorem dX11_tried_87 : decode cX11_tried 87 = .ok (.iconst (-1), 1) := by decide +kernel
theorem dX11_tried_88 : decode cX11_tried 88 = .ok (.putfield 346, 3) := by decide +kernel
theorem dX11_tried_91 : decode cX11_tried 91 = .ok (.aload_n 0, 1) := by decide +kernel
theorem dX11_tried_92 : decode cX11_tried 92 = .ok (.iload_n 1, 1) := by decide +kernel
theorem dX11_tried_93 : decode cX11_tried 93 = .ok (.iconst 4, 1) := by decide +kernel
theorem dX11_tried_94 : decode cX11_tried 94 = .ok (.if_icmp .ne 7, 3) := by decide +kernel
theorem dX11_tried_97 : decode cX11_tried 97 = .ok (.iconst 1, 1) := by decide +kernel
theorem dX11_tried_98 : decode cX11_tried 98 = .ok (.goto 4, 3) := by decide +kernel
theorem dX11_tried_101 : decode cX11_tried 101 = .ok (.iconst 0, 1) := by decide +kernel
theorem dX11_tried_102 : decode cX11_tried 102 = .ok (.putfield 343, 3) := by decide +kernel
theorem dX11_tried_105 : decode cX11_tried 105 = .ok (.iconst 0, 1) := by decide +kernel
theorem dX11_tried_106 : decode cX11_tried 106 = .ok (.istore 4, 2) := by decide +kernel
theorem dX11_tried_108 : decode cX11_tried 108 = .ok (.iload 4, 2) := by decide +kernel
theorem dX11_tried_110 : decode cX11_tried 110 = .ok (.bipush 6, 2) := by decide +kernel
theorem dX11_tried_112 : decode cX11_tried 112 = .ok (.if_icmp .ge 26, 3) := by decide +kernel
theorem dX11_tried_115 : decode cX11_tried 115 = .ok (.iload_n 1, 1) := by decide +kernel
theorem dX11_tried_116 : decode cX11_tried 116 = .ok (.iconst 3, 1) := by decide +kernel
theorem dX11_tried_117 : decode cX11_tried 117 = .ok (.if_icmp .ne 21, 3) := by decide +kernel
theorem dX11_tried_120 : decode cX11_tried 120 = .ok (.aload_n 0, 1) := by decide +kernel
theorem dX11_tried_121 : decode cX11_tried 121 = .ok (.getfield 88, 3) := by decide +kernel
theorem dX11_tried_124 : decode cX11_tried 124 = .ok (.bipush 6, 2) := by decide +kernel
theorem dX11_tried_126 : decode cX11_tried 126 = .ok (.iload 4, 2) := by decide +kernel
theorem dX11_tried_128 : decode cX11_tried 128 = .ok (.iadd, 1) := by decide +kernel
theorem dX11_tried_129 : decode cX11_tried 129 = .ok (.bipush 9, 2) := by decide +kernel
theorem dX11_tried_131 : decode cX11_tried 131 = .ok (.iastore, 1) := by decide +kernel
theorem dX11_tried_132 : decode cX11_tried 132 = .ok (.iinc 4 1, 3) := by decide +kernel
theorem dX11_tried_135 : decode cX11_tried 135 = .ok (.goto (-27), 3) := by decide +kernel
theorem dX11_tried_138 : decode cX11_tried 138 = .ok (.aload_n 0, 1) := by decide +kernel
theorem dX11_tried_139 : decode cX11_tried 139 = .ok (.iload_n 3, 1) := by decide +kernel
theorem dX11_tried_140 : decode cX11_tried 140 = .ok (.invokevirtual 427, 3) := by decide +kernel
theorem dX11_tried_143 : decode cX11_tried 143 = .ok (.aload_n 0, 1) := by decide +kernel
theorem dX11_tried_144 : decode cX11_tried 144 = .ok (.invokevirtual 322, 3) := by decide +kernel
theorem dX11_tried_147 : decode cX11_tried 147 = .ok (.aload_n 0, 1) := by decide +kernel
theorem dX11_tried_148 : decode cX11_tried 148 = .ok (.iconst 1, 1) := by decide +kernel
theorem dX11_tried_149 : decode cX11_tried 149 = .ok (.invokevirtual 430, 3) := by decide +kernel
theorem dX11_tried_152 : decode cX11_tried 152 = .ok (.aload_n 0, 1) := by decide +kernel
theorem dX11_tried_153 : decode cX11_tried 153 = .ok (.iconst 0, 1) := by decide +kernel
theorem dX11_tried_154 : decode cX11_tried 154 = .ok (.invokevirtual 430, 3) := by decide +kernel
theorem dX11_tried_157 : decode cX11_tried 157 = .ok (.isub, 1) := by decide +kernel
theorem dX11_tried_158 : decode cX11_tried 158 = .ok (.ireturn, 1) := by decide +kernel
theorem dX11_put_0 : decode cX11_put 0 = .ok (.iconst 0, 1) := by decide +kernel
theorem dX11_put_1 : decode cX11_put 1 = .ok (.istore_n 3, 1) := by decide +kernel
theorem dX11_put_2 : decode cX11_put 2 = .ok (.iload_n 3, 1) := by decide +kernel
theorem dX11_put_3 : decode cX11_put 3 = .ok (.bipush 6, 2) := by decide +kernel
theorem dX11_put_5 : decode cX11_put 5 = .ok (.if_icmp .ge 48, 3) := by decide +kernel
theorem dX11_put_8 : decode cX11_put 8 = .ok (.aload_n 1, 1) := by decide +kernel
theorem dX11_put_9 : decode cX11_put 9 = .ok (.iload_n 2, 1) := by decide +kernel
theorem dX11_put_10 : decode cX11_put 10 = .ok (.iload_n 3, 1) := by decide +kernel
theorem dX11_put_11 : decode cX11_put 11 = .ok (.iadd, 1) := by decide +kernel
theorem dX11_put_12 : decode cX11_put 12 = .ok (.aload_n 0, 1) := by decide +kernel
theorem dX11_put_13 : decode cX11_put 13 = .ok (.getfield 85, 3) := by decide +kernel
theorem dX11_put_16 : decode cX11_put 16 = .ok (.iload_n 3, 1) := by decide +kernel
theorem dX11_put_17 : decode cX11_put 17 = .ok (.iaload, 1) := by decide +kernel
theorem dX11_put_18 : decode cX11_put 18 = .ok (.iastore, 1) := by decide +kernel
theorem dX11_put_19 : decode cX11_put 19 = .ok (.aload_n 1, 1) := by decide +kernel
theorem dX11_put_20 : decode cX11_put 20 = .ok (.iload_n 2, 1) := by decide +kernel
theorem dX11_put_21 : decode cX11_put 21 = .ok (.bipush 6, 2) := by decide +kernel
theorem dX11_put_23 : decode cX11_put 23 = .ok (.iadd, 1) := by decide +kernel
theorem dX11_put_24 : decode cX11_put 24 = .ok (.iload_n 3, 1) := by decide +kernel
theorem dX11_put_25 : decode cX11_put 25 = .ok (.iadd, 1) := by decide +kernel
theorem dX11_put_26 : decode cX11_put 26 = .ok (.aload_n 0, 1) := by decide +kernel
theorem dX11_put_27 : decode cX11_put 27 = .ok (.getfield 88, 3) := by decide +kernel
theorem dX11_put_30 : decode cX11_put 30 = .ok (.iload_n 3, 1) := by decide +kernel
theorem dX11_put_31 : decode cX11_put 31 = .ok (.iaload, 1) := by decide +kernel
theorem dX11_put_32 : decode cX11_put 32 = .ok (.iastore, 1) := by decide +kernel
theorem dX11_put_33 : decode cX11_put 33 = .ok (.aload_n 1, 1) := by decide +kernel
theorem dX11_put_34 : decode cX11_put 34 = .ok (.iload_n 2, 1) := by decide +kernel
theorem dX11_put_35 : decode cX11_put 35 = .ok (.bipush 12, 2) := by decide +kernel
theorem dX11_put_37 : decode cX11_put 37 = .ok (.iadd, 1) := by decide +kernel
theorem dX11_put_38 : decode cX11_put 38 = .ok (.iload_n 3, 1) := by decide +kernel
theorem dX11_put_39 : decode cX11_put 39 = .ok (.iadd, 1) := by decide +kernel
theorem dX11_put_40 : decode cX11_put 40 = .ok (.aload_n 0, 1) := by decide +kernel
theorem dX11_put_41 : decode cX11_put 41 = .ok (.getfield 91, 3) := by decide +kernel
theorem dX11_put_44 : decode cX11_put 44 = .ok (.iload_n 3, 1) := by decide +kernel
theorem dX11_put_45 : decode cX11_put 45 = .ok (.iaload, 1) := by decide +kernel
theorem dX11_put_46 : decode cX11_put 46 = .ok (.iastore, 1) := by decide +kernel
theorem dX11_put_47 : decode cX11_put 47 = .ok (.iinc 3 1, 3) := by decide +kernel
theorem dX11_put_50 : decode cX11_put 50 = .ok (.goto (-48), 3) := by decide +kernel
theorem dX11_put_53 : decode cX11_put 53 = .ok (.iconst 0, 1) := by decide +kernel
theorem dX11_put_54 : decode cX11_put 54 = .ok (.istore_n 3, 1) := by decide +kernel
theorem dX11_put_55 : decode cX11_put 55 = .ok (.iload_n 3, 1) := by decide +kernel
theorem dX11_put_56 : decode cX11_put 56 = .ok (.bipush 36, 2) := by decide +kernel
theorem dX11_put_58 : decode cX11_put 58 = .ok (.if_icmp .ge 45, 3) := by decide +kernel
theorem dX11_put_61 : decode cX11_put 61 = .ok (.aload_n 1, 1) := by decide +kernel
theorem dX11_put_62 : decode cX11_put 62 = .ok (.iload_n 2, 1) := by decide +kernel
theorem dX11_put_63 : decode cX11_put 63 = .ok (.bipush 18, 2) := by decide +kernel
theorem dX11_put_65 : decode cX11_put 65 = .ok (.iadd, 1) := by decide +kernel
theorem dX11_put_66 : decode cX11_put 66 = .ok (.iload_n 3, 1) := by decide +kernel
theorem dX11_put_67 : decode cX11_put 67 = .ok (.iadd, 1) := by decide +kernel
theorem dX11_put_68 : decode cX11_put 68 = .ok (.aload_n 0, 1) := by decide +kernel
theorem dX11_put_69 : decode cX11_put 69 = .ok (.getfield 94, 3) := by decide +kernel
theorem dX11_put_72 : decode cX11_put 72 = .ok (.iload_n 3, 1) := by decide +kernel
theorem dX11_put_73 : decode cX11_put 73 = .ok (.iaload, 1) := by decide +kernel
theorem dX11_put_74 : decode cX11_put 74 = .ok (.iastore, 1) := by decide +kernel
theorem dX11_put_75 : decode cX11_put 75 = .ok (.aload_n 1, 1) := by decide +kernel
theorem dX11_put_76 : decode cX11_put 76 = .ok (.iload_n 2, 1) := by decide +kernel
theorem dX11_put_77 : decode cX11_put 77 = .ok (.bipush 54, 2) := by decide +kernel
theorem dX11_put_79 : decode cX11_put 79 = .ok (.iadd, 1) := by decide +kernel
theorem dX11_put_80 : decode cX11_put 80 = .ok (.iload_n 3, 1) := by decide +kernel
theorem dX11_put_81 : decode cX11_put 81 = .ok (.iadd, 1) := by decide +kernel
theorem dX11_put_82 : decode cX11_put 82 = .ok (.aload_n 0, 1) := by decide +kernel
theorem dX11_put_83 : decode cX11_put 83 = .ok (.getfield 97, 3) := by decide +kernel
theorem dX11_put_86 : decode cX11_put 86 = .ok (.iload_n 3, 1) := by decide +kernel
theorem dX11_put_87 : decode cX11_put 87 = .ok (.baload, 1) := by decide +kernel
theorem dX11_put_88 : decode cX11_put 88 = .ok (.ifCond .eq 7, 3) := by decide +kernel
theorem dX11_put_91 : decode cX11_put 91 = .ok (.iconst 1, 1) := by decide +kernel
theorem dX11_put_92 : decode cX11_put 92 = .ok (.goto 4, 3) := by decide +kernel
theorem dX11_put_95 : decode cX11_put 95 = .ok (.iconst 0, 1) := by decide +kernel
theorem dX11_put_96 : decode cX11_put 96 = .ok (.iastore, 1) := by decide +kernel
theorem dX11_put_97 : decode cX11_put 97 = .ok (.iinc 3 1, 3) := by decide +kernel
theorem dX11_put_100 : decode cX11_put 100 = .ok (.goto (-45), 3) := by decide +kernel
theorem dX11_put_103 : decode cX11_put 103 = .ok (.return_, 1) := by decide +kernel
theorem dX11_take_0 : decode cX11_take 0 = .ok (.iconst 0, 1) := by decide +kernel
theorem dX11_take_1 : decode cX11_take 1 = .ok (.istore_n 3, 1) := by decide +kernel
theorem dX11_take_2 : decode cX11_take 2 = .ok (.iload_n 3, 1) := by decide +kernel
theorem dX11_take_3 : decode cX11_take 3 = .ok (.bipush 6, 2) := by decide +kernel
theorem dX11_take_5 : decode cX11_take 5 = .ok (.if_icmp .ge 48, 3) := by decide +kernel
theorem dX11_take_8 : decode cX11_take 8 = .ok (.aload_n 0, 1) := by decide +kernel
theorem dX11_take_9 : decode cX11_take 9 = .ok (.getfield 85, 3) := by decide +kernel
theorem dX11_take_12 : decode cX11_take 12 = .ok (.iload_n 3, 1) := by decide +kernel
theorem dX11_take_13 : decode cX11_take 13 = .ok (.aload_n 1, 1) := by decide +kernel
theorem dX11_take_14 : decode cX11_take 14 = .ok (.iload_n 2, 1) := by decide +kernel
theorem dX11_take_15 : decode cX11_take 15 = .ok (.iload_n 3, 1) := by decide +kernel
theorem dX11_take_16 : decode cX11_take 16 = .ok (.iadd, 1) := by decide +kernel
theorem dX11_take_17 : decode cX11_take 17 = .ok (.iaload, 1) := by decide +kernel
theorem dX11_take_18 : decode cX11_take 18 = .ok (.iastore, 1) := by decide +kernel
theorem dX11_take_19 : decode cX11_take 19 = .ok (.aload_n 0, 1) := by decide +kernel
theorem dX11_take_20 : decode cX11_take 20 = .ok (.getfield 88, 3) := by decide +kernel
theorem dX11_take_23 : decode cX11_take 23 = .ok (.iload_n 3, 1) := by decide +kernel
theorem dX11_take_24 : decode cX11_take 24 = .ok (.aload_n 1, 1) := by decide +kernel
theorem dX11_take_25 : decode cX11_take 25 = .ok (.iload_n 2, 1) := by decide +kernel
theorem dX11_take_26 : decode cX11_take 26 = .ok (.bipush 6, 2) := by decide +kernel
theorem dX11_take_28 : decode cX11_take 28 = .ok (.iadd, 1) := by decide +kernel
theorem dX11_take_29 : decode cX11_take 29 = .ok (.iload_n 3, 1) := by decide +kernel
theorem dX11_take_30 : decode cX11_take 30 = .ok (.iadd, 1) := by decide +kernel
theorem dX11_take_31 : decode cX11_take 31 = .ok (.iaload, 1) := by decide +kernel
theorem dX11_take_32 : decode cX11_take 32 = .ok (.iastore, 1) := by decide +kernel
theorem dX11_take_33 : decode cX11_take 33 = .ok (.aload_n 0, 1) := by decide +kernel
theorem dX11_take_34 : decode cX11_take 34 = .ok (.getfield 91, 3) := by decide +kernel
theorem dX11_take_37 : decode cX11_take 37 = .ok (.iload_n 3, 1) := by decide +kernel
theorem dX11_take_38 : decode cX11_take 38 = .ok (.aload_n 1, 1) := by decide +kernel
theorem dX11_take_39 : decode cX11_take 39 = .ok (.iload_n 2, 1) := by decide +kernel
theorem dX11_take_40 : decode cX11_take 40 = .ok (.bipush 12, 2) := by decide +kernel
theorem dX11_take_42 : decode cX11_take 42 = .ok (.iadd, 1) := by decide +kernel
theorem dX11_take_43 : decode cX11_take 43 = .ok (.iload_n 3, 1) := by decide +kernel
theorem dX11_take_44 : decode cX11_take 44 = .ok (.iadd, 1) := by decide +kernel
theorem dX11_take_45 : decode cX11_take 45 = .ok (.iaload, 1) := by decide +kernel
theorem dX11_take_46 : decode cX11_take 46 = .ok (.iastore, 1) := by decide +kernel
theorem dX11_take_47 : decode cX11_take 47 = .ok (.iinc 3 1, 3) := by decide +kernel
theorem dX11_take_50 : decode cX11_take 50 = .ok (.goto (-48), 3) := by decide +kernel
theorem dX11_take_53 : decode cX11_take 53 = .ok (.iconst 0, 1) := by decide +kernel
theorem dX11_take_54 : decode cX11_take 54 = .ok (.istore_n 3, 1) := by decide +kernel
theorem dX11_take_55 : decode cX11_take 55 = .ok (.iload_n 3, 1) := by decide +kernel
theorem dX11_take_56 : decode cX11_take 56 = .ok (.bipush 36, 2) := by decide +kernel
theorem dX11_take_58 : decode cX11_take 58 = .ok (.if_icmp .ge 46, 3) := by decide +kernel
theorem dX11_take_61 : decode cX11_take 61 = .ok (.aload_n 0, 1) := by decide +kernel
theorem dX11_take_62 : decode cX11_take 62 = .ok (.getfield 94, 3) := by decide +kernel
theorem dX11_take_65 : decode cX11_take 65 = .ok (.iload_n 3, 1) := by decide +kernel
theorem dX11_take_66 : decode cX11_take 66 = .ok (.aload_n 1, 1) := by decide +kernel
theorem dX11_take_67 : decode cX11_take 67 = .ok (.iload_n 2, 1) := by decide +kernel
theorem dX11_take_68 : decode cX11_take 68 = .ok (.bipush 18, 2) := by decide +kernel
theorem dX11_take_70 : decode cX11_take 70 = .ok (.iadd, 1) := by decide +kernel
theorem dX11_take_71 : decode cX11_take 71 = .ok (.iload_n 3, 1) := by decide +kernel
theorem dX11_take_72 : decode cX11_take 72 = .ok (.iadd, 1) := by decide +kernel
theorem dX11_take_73 : decode cX11_take 73 = .ok (.iaload, 1) := by decide +kernel
theorem dX11_take_74 : decode cX11_take 74 = .ok (.iastore, 1) := by decide +kernel
theorem dX11_take_75 : decode cX11_take 75 = .ok (.aload_n 0, 1) := by decide +kernel
theorem dX11_take_76 : decode cX11_take 76 = .ok (.getfield 97, 3) := by decide +kernel
theorem dX11_take_79 : decode cX11_take 79 = .ok (.iload_n 3, 1) := by decide +kernel
theorem dX11_take_80 : decode cX11_take 80 = .ok (.aload_n 1, 1) := by decide +kernel
theorem dX11_take_81 : decode cX11_take 81 = .ok (.iload_n 2, 1) := by decide +kernel
theorem dX11_take_82 : decode cX11_take 82 = .ok (.bipush 54, 2) := by decide +kernel
theorem dX11_take_84 : decode cX11_take 84 = .ok (.iadd, 1) := by decide +kernel
theorem dX11_take_85 : decode cX11_take 85 = .ok (.iload_n 3, 1) := by decide +kernel
theorem dX11_take_86 : decode cX11_take 86 = .ok (.iadd, 1) := by decide +kernel
theorem dX11_take_87 : decode cX11_take 87 = .ok (.iaload, 1) := by decide +kernel
theorem dX11_take_88 : decode cX11_take 88 = .ok (.iconst 1, 1) := by decide +kernel
theorem dX11_take_89 : decode cX11_take 89 = .ok (.if_icmp .ne 7, 3) := by decide +kernel
theorem dX11_take_92 : decode cX11_take 92 = .ok (.iconst 1, 1) := by decide +kernel
theorem dX11_take_93 : decode cX11_take 93 = .ok (.goto 4, 3) := by decide +kernel
theorem dX11_take_96 : decode cX11_take 96 = .ok (.iconst 0, 1) := by decide +kernel
theorem dX11_take_97 : decode cX11_take 97 = .ok (.bastore, 1) := by decide +kernel
theorem dX11_take_98 : decode cX11_take 98 = .ok (.iinc 3 1, 3) := by decide +kernel
theorem dX11_take_101 : decode cX11_take 101 = .ok (.goto (-46), 3) := by decide +kernel
theorem dX11_take_104 : decode cX11_take 104 = .ok (.return_, 1) := by decide +kernel
theorem dX11_remember_0 : decode cX11_remember 0 = .ok (.aload_n 0, 1) := by decide +kernel
theorem dX11_remember_1 : decode cX11_remember 1 = .ok (.getfield 328, 3) := by decide +kernel
theorem dX11_remember_4 : decode cX11_remember 4 = .ok (.bipush 20, 2) := by decide +kernel
theorem dX11_remember_6 : decode cX11_remember 6 = .ok (.if_icmp .ne 43, 3) := by decide +kernel
theorem dX11_remember_9 : decode cX11_remember 9 = .ok (.iconst 0, 1) := by decide +kernel
theorem dX11_remember_10 : decode cX11_remember 10 = .ok (.istore_n 1, 1) := by decide +kernel
theorem dX11_remember_11 : decode cX11_remember 11 = .ok (.iload_n 1, 1) := by decide +kernel
theorem dX11_remember_12 : decode cX11_remember 12 = .ok (.sipush 1710, 3) := by decide +kernel
theorem dX11_remember_15 : decode cX11_remember 15 = .ok (.if_icmp .ge 24, 3) := by decide +kernel
theorem dX11_remember_18 : decode cX11_remember 18 = .ok (.aload_n 0, 1) := by decide +kernel
theorem dX11_remember_19 : decode cX11_remember 19 = .ok (.getfield 112, 3) := by decide +kernel
theorem dX11_remember_22 : decode cX11_remember 22 = .ok (.iload_n 1, 1) := by decide +kernel
theorem dX11_remember_23 : decode cX11_remember 23 = .ok (.aload_n 0, 1) := by decide +kernel
theorem dX11_remember_24 : decode cX11_remember 24 = .ok (.getfield 112, 3) := by decide +kernel
theorem dX11_remember_27 : decode cX11_remember 27 = .ok (.iload_n 1, 1) := by decide +kernel
theorem dX11_remember_28 : decode cX11_remember 28 = .ok (.bipush 90, 2) := by decide +kernel
theorem dX11_remember_30 : decode cX11_remember 30 = .ok (.iadd, 1) := by decide +kernel
theorem dX11_remember_31 : decode cX11_remember 31 = .ok (.iaload, 1) := by decide +kernel
theorem dX11_remember_32 : decode cX11_remember 32 = .ok (.iastore, 1) := by decide +kernel
theorem dX11_remember_33 : decode cX11_remember 33 = .ok (.iinc 1 1, 3) := by decide +kernel
theorem dX11_remember_36 : decode cX11_remember 36 = .ok (.goto (-25), 3) := by decide +kernel
theorem dX11_remember_39 : decode cX11_remember 39 = .ok (.aload_n 0, 1) := by decide +kernel
theorem dX11_remember_40 : decode cX11_remember 40 = .ok (.dup, 1) := by decide +kernel
theorem dX11_remember_41 : decode cX11_remember 41 = .ok (.getfield 328, 3) := by decide +kernel
theorem dX11_remember_44 : decode cX11_remember 44 = .ok (.iconst 1, 1) := by decide +kernel
theorem dX11_remember_45 : decode cX11_remember 45 = .ok (.isub, 1) := by decide +kernel
theorem dX11_remember_46 : decode cX11_remember 46 = .ok (.putfield 328, 3) := by decide +kernel
theorem dX11_remember_49 : decode cX11_remember 49 = .ok (.aload_n 0, 1) := by decide +kernel
theorem dX11_remember_50 : decode cX11_remember 50 = .ok (.aload_n 0, 1) := by decide +kernel
theorem dX11_remember_51 : decode cX11_remember 51 = .ok (.getfield 112, 3) := by decide +kernel
theorem dX11_remember_54 : decode cX11_remember 54 = .ok (.bipush 90, 2) := by decide +kernel
theorem dX11_remember_56 : decode cX11_remember 56 = .ok (.aload_n 0, 1) := by decide +kernel
theorem dX11_remember_57 : decode cX11_remember 57 = .ok (.getfield 328, 3) := by decide +kernel
theorem dX11_remember_60 : decode cX11_remember 60 = .ok (.imul, 1) := by decide +kernel
theorem dX11_remember_61 : decode cX11_remember 61 = .ok (.invokevirtual 490, 3) := by decide +kernel
theorem dX11_remember_64 : decode cX11_remember 64 = .ok (.aload_n 0, 1) := by decide +kernel
theorem dX11_remember_65 : decode cX11_remember 65 = .ok (.dup, 1) := by decide +kernel
theorem dX11_remember_66 : decode cX11_remember 66 = .ok (.getfield 328, 3) := by decide +kernel
theorem dX11_remember_69 : decode cX11_remember 69 = .ok (.iconst 1, 1) := by decide +kernel
theorem dX11_remember_70 : decode cX11_remember 70 = .ok (.iadd, 1) := by decide +kernel
theorem dX11_remember_71 : decode cX11_remember 71 = .ok (.putfield 328, 3) := by decide +kernel
theorem dX11_remember_74 : decode cX11_remember 74 = .ok (.return_, 1) := by decide +kernel
theorem dX11_undo_0 : decode cX11_undo 0 = .ok (.aload_n 0, 1) := by decide +kernel
theorem dX11_undo_1 : decode cX11_undo 1 = .ok (.iconst 0, 1) := by decide +kernel
theorem dX11_undo_2 : decode cX11_undo 2 = .ok (.putfield 124, 3) := by decide +kernel
theorem dX11_undo_5 : decode cX11_undo 5 = .ok (.aload_n 0, 1) := by decide +kernel
theorem dX11_undo_6 : decode cX11_undo 6 = .ok (.getfield 328, 3) := by decide +kernel
theorem dX11_undo_9 : decode cX11_undo 9 = .ok (.ifCond .ne 5, 3) := by decide +kernel
theorem dX11_undo_12 : decode cX11_undo 12 = .ok (.iconst (-1), 1) := by decide +kernel
theorem dX11_undo_13 : decode cX11_undo 13 = .ok (.ireturn, 1) := by decide +kernel
theorem dX11_undo_14 : decode cX11_undo 14 = .ok (.aload_n 0, 1) := by decide +kernel
theorem dX11_undo_15 : decode cX11_undo 15 = .ok (.dup, 1) := by decide +kernel
theorem dX11_undo_16 : decode cX11_undo 16 = .ok (.getfield 328, 3) := by decide +kernel
theorem dX11_undo_19 : decode cX11_undo 19 = .ok (.iconst 1, 1) := by decide +kernel
theorem dX11_undo_20 : decode cX11_undo 20 = .ok (.isub, 1) := by decide +kernel
theorem dX11_undo_21 : decode cX11_undo 21 = .ok (.putfield 328, 3) := by decide +kernel
theorem dX11_undo_24 : decode cX11_undo 24 = .ok (.aload_n 0, 1) := by decide +kernel
theorem dX11_undo_25 : decode cX11_undo 25 = .ok (.aload_n 0, 1) := by decide +kernel
theorem dX11_undo_26 : decode cX11_undo 26 = .ok (.getfield 112, 3) := by decide +kernel
theorem dX11_undo_29 : decode cX11_undo 29 = .ok (.bipush 90, 2) := by decide +kernel
theorem dX11_undo_31 : decode cX11_undo 31 = .ok (.aload_n 0, 1) := by decide +kernel
theorem dX11_undo_32 : decode cX11_undo 32 = .ok (.getfield 328, 3) := by decide +kernel
theorem dX11_undo_35 : decode cX11_undo 35 = .ok (.imul, 1) := by decide +kernel
theorem dX11_undo_36 : decode cX11_undo 36 = .ok (.invokevirtual 493, 3) := by decide +kernel
theorem dX11_undo_39 : decode cX11_undo 39 = .ok (.aload_n 0, 1) := by decide +kernel
theorem dX11_undo_40 : decode cX11_undo 40 = .ok (.getfield 328, 3) := by decide +kernel
theorem dX11_undo_43 : decode cX11_undo 43 = .ok (.ireturn, 1) := by decide +kernel
theorem dX11_keep_0 : decode cX11_keep 0 = .ok (.aload_n 0, 1) := by decide +kernel
theorem dX11_keep_1 : decode cX11_keep 1 = .ok (.iconst 0, 1) := by decide +kernel
theorem dX11_keep_2 : decode cX11_keep 2 = .ok (.putfield 124, 3) := by decide +kernel
theorem dX11_keep_5 : decode cX11_keep 5 = .ok (.aload_n 0, 1) := by decide +kernel
theorem dX11_keep_6 : decode cX11_keep 6 = .ok (.iconst 1, 1) := by decide +kernel
theorem dX11_keep_7 : decode cX11_keep 7 = .ok (.putfield 331, 3) := by decide +kernel
theorem dX11_keep_10 : decode cX11_keep 10 = .ok (.aload_n 0, 1) := by decide +kernel
theorem dX11_keep_11 : decode cX11_keep 11 = .ok (.aload_n 0, 1) := by decide +kernel
theorem dX11_keep_12 : decode cX11_keep 12 = .ok (.getfield 115, 3) := by decide +kernel
theorem dX11_keep_15 : decode cX11_keep 15 = .ok (.iconst 0, 1) := by decide +kernel
theorem dX11_keep_16 : decode cX11_keep 16 = .ok (.invokevirtual 490, 3) := by decide +kernel
theorem dX11_keep_19 : decode cX11_keep 19 = .ok (.aload_n 0, 1) := by decide +kernel
theorem dX11_keep_20 : decode cX11_keep 20 = .ok (.aload_n 0, 1) := by decide +kernel
theorem dX11_keep_21 : decode cX11_keep 21 = .ok (.getfield 100, 3) := by decide +kernel
theorem dX11_keep_24 : decode cX11_keep 24 = .ok (.iconst 0, 1) := by decide +kernel
theorem dX11_keep_25 : decode cX11_keep 25 = .ok (.iaload, 1) := by decide +kernel
theorem dX11_keep_26 : decode cX11_keep 26 = .ok (.putfield 496, 3) := by decide +kernel
theorem dX11_keep_29 : decode cX11_keep 29 = .ok (.aload_n 0, 1) := by decide +kernel
theorem dX11_keep_30 : decode cX11_keep 30 = .ok (.aload_n 0, 1) := by decide +kernel
theorem dX11_keep_31 : decode cX11_keep 31 = .ok (.getfield 318, 3) := by decide +kernel
theorem dX11_keep_34 : decode cX11_keep 34 = .ok (.putfield 499, 3) := by decide +kernel
theorem dX11_keep_37 : decode cX11_keep 37 = .ok (.aload_n 0, 1) := by decide +kernel
theorem dX11_keep_38 : decode cX11_keep 38 = .ok (.getfield 100, 3) := by decide +kernel
theorem dX11_keep_41 : decode cX11_keep 41 = .ok (.iconst 0, 1) := by decide +kernel
theorem dX11_keep_42 : decode cX11_keep 42 = .ok (.iaload, 1) := by decide +kernel
theorem dX11_keep_43 : decode cX11_keep 43 = .ok (.ireturn, 1) := by decide +kernel
theorem dX11_back_0 : decode cX11_back 0 = .ok (.aload_n 0, 1) := by decide +kernel
theorem dX11_back_1 : decode cX11_back 1 = .ok (.iconst 0, 1) := by decide +kernel
theorem dX11_back_2 : decode cX11_back 2 = .ok (.putfield 124, 3) := by decide +kernel
theorem dX11_back_5 : decode cX11_back 5 = .ok (.aload_n 0, 1) := by decide +kernel
theorem dX11_back_6 : decode cX11_back 6 = .ok (.getfield 331, 3) := by decide +kernel
theorem dX11_back_9 : decode cX11_back 9 = .ok (.ifCond .ne 5, 3) := by decide +kernel
theorem dX11_back_12 : decode cX11_back 12 = .ok (.iconst (-1), 1) := by decide +kernel
theorem dX11_back_13 : decode cX11_back 13 = .ok (.ireturn, 1) := by decide +kernel
theorem dX11_back_14 : decode cX11_back 14 = .ok (.aload_n 0, 1) := by decide +kernel
theorem dX11_back_15 : decode cX11_back 15 = .ok (.aload_n 0, 1) := by decide +kernel
theorem dX11_back_16 : decode cX11_back 16 = .ok (.getfield 115, 3) := by decide +kernel
theorem dX11_back_19 : decode cX11_back 19 = .ok (.iconst 0, 1) := by decide +kernel
theorem dX11_back_20 : decode cX11_back 20 = .ok (.invokevirtual 493, 3) := by decide +kernel
theorem dX11_back_23 : decode cX11_back 23 = .ok (.aload_n 0, 1) := by decide +kernel
theorem dX11_back_24 : decode cX11_back 24 = .ok (.getfield 100, 3) := by decide +kernel
theorem dX11_back_27 : decode cX11_back 27 = .ok (.iconst 0, 1) := by decide +kernel
theorem dX11_back_28 : decode cX11_back 28 = .ok (.aload_n 0, 1) := by decide +kernel
theorem dX11_back_29 : decode cX11_back 29 = .ok (.getfield 496, 3) := by decide +kernel
theorem dX11_back_32 : decode cX11_back 32 = .ok (.iastore, 1) := by decide +kernel
theorem dX11_back_33 : decode cX11_back 33 = .ok (.aload_n 0, 1) := by decide +kernel
theorem dX11_back_34 : decode cX11_back 34 = .ok (.aload_n 0, 1) := by decide +kernel
theorem dX11_back_35 : decode cX11_back 35 = .ok (.getfield 499, 3) := by decide +kernel
theorem dX11_back_38 : decode cX11_back 38 = .ok (.putfield 318, 3) := by decide +kernel
theorem dX11_back_41 : decode cX11_back 41 = .ok (.aload_n 0, 1) := by decide +kernel
theorem dX11_back_42 : decode cX11_back 42 = .ok (.iconst 0, 1) := by decide +kernel
theorem dX11_back_43 : decode cX11_back 43 = .ok (.putfield 328, 3) := by decide +kernel
theorem dX11_back_46 : decode cX11_back 46 = .ok (.aload_n 0, 1) := by decide +kernel
theorem dX11_back_47 : decode cX11_back 47 = .ok (.getfield 100, 3) := by decide +kernel
theorem dX11_back_50 : decode cX11_back 50 = .ok (.iconst 0, 1) := by decide +kernel
theorem dX11_back_51 : decode cX11_back 51 = .ok (.iaload, 1) := by decide +kernel
theorem dX11_back_52 : decode cX11_back 52 = .ok (.ireturn, 1) := by decide +kernel
theorem dX11_count_0 : decode cX11_count 0 = .ok (.aload_n 0, 1) := by decide +kernel
theorem dX11_count_1 : decode cX11_count 1 = .ok (.iconst 0, 1) := by decide +kernel
theorem dX11_count_2 : decode cX11_count 2 = .ok (.putfield 124, 3) := by decide +kernel
theorem dX11_count_5 : decode cX11_count 5 = .ok (.iconst 0, 1) := by decide +kernel
theorem dX11_count_6 : decode cX11_count 6 = .ok (.istore_n 2, 1) := by decide +kernel
theorem dX11_count_7 : decode cX11_count 7 = .ok (.iload_n 1, 1) := by decide +kernel
theorem dX11_count_8 : decode cX11_count 8 = .ok (.tableswitch 141 0 10 #[60, 65, 70, 75, 80, 87, 93, 99, 126, 131, 136], 60) := by decide +kernel
theorem dX11_count_68 : decode cX11_count 68 = .ok (.aload_n 0, 1) := by decide +kernel
theorem dX11_count_69 : decode cX11_count 69 = .ok (.getfield 201, 3) := by decide +kernel
theorem dX11_count_72 : decode cX11_count 72 = .ok (.ireturn, 1) := by decide +kernel
theorem dX11_count_73 : decode cX11_count 73 = .ok (.aload_n 0, 1) := by decide +kernel
theorem dX11_count_74 : decode cX11_count 74 = .ok (.getfield 204, 3) := by decide +kernel
theorem dX11_count_77 : decode cX11_count 77 = .ok (.ireturn, 1) := by decide +kernel
theorem dX11_count_78 : decode cX11_count 78 = .ok (.aload_n 0, 1) := by decide +kernel
theorem dX11_count_79 : decode cX11_count 79 = .ok (.getfield 207, 3) := by decide +kernel
theorem dX11_count_82 : decode cX11_count 82 = .ok (.ireturn, 1) := by decide +kernel
theorem dX11_count_83 : decode cX11_count 83 = .ok (.aload_n 0, 1) := by decide +kernel
theorem dX11_count_84 : decode cX11_count 84 = .ok (.getfield 210, 3) := by decide +kernel
theorem dX11_count_87 : decode cX11_count 87 = .ok (.ireturn, 1) := by decide +kernel
theorem dX11_count_88 : decode cX11_count 88 = .ok (.aload_n 0, 1) := by decide +kernel
theorem dX11_count_89 : decode cX11_count 89 = .ok (.getfield 100, 3) := by decide +kernel
theorem dX11_count_92 : decode cX11_count 92 = .ok (.iconst 0, 1) := by decide +kernel
theorem dX11_count_93 : decode cX11_count 93 = .ok (.iaload, 1) := by decide +kernel
theorem dX11_count_94 : decode cX11_count 94 = .ok (.ireturn, 1) := by decide +kernel
theorem dX11_count_95 : decode cX11_count 95 = .ok (.aload_n 0, 1) := by decide +kernel
theorem dX11_count_96 : decode cX11_count 96 = .ok (.iconst 0, 1) := by decide +kernel
theorem dX11_count_97 : decode cX11_count 97 = .ok (.invokevirtual 430, 3) := by decide +kernel
theorem dX11_count_100 : decode cX11_count 100 = .ok (.ireturn, 1) := by decide +kernel
theorem dX11_count_101 : decode cX11_count 101 = .ok (.aload_n 0, 1) := by decide +kernel
theorem dX11_count_102 : decode cX11_count 102 = .ok (.iconst 0, 1) := by decide +kernel
theorem dX11_count_103 : decode cX11_count 103 = .ok (.invokevirtual 433, 3) := by decide +kernel
theorem dX11_count_106 : decode cX11_count 106 = .ok (.ireturn, 1) := by decide +kernel
theorem dX11_count_107 : decode cX11_count 107 = .ok (.iconst 0, 1) := by decide +kernel
theorem dX11_count_108 : decode cX11_count 108 = .ok (.istore_n 3, 1) := by decide +kernel
theorem dX11_count_109 : decode cX11_count 109 = .ok (.iload_n 3, 1) := by decide +kernel
theorem dX11_count_110 : decode cX11_count 110 = .ok (.aload_n 0, 1) := by decide +kernel
theorem dX11_count_111 : decode cX11_count 111 = .ok (.getfield 201, 3) := by decide +kernel
theorem dX11_count_114 : decode cX11_count 114 = .ok (.if_icmp .ge 18, 3) := by decide +kernel
theorem dX11_count_117 : decode cX11_count 117 = .ok (.iload_n 2, 1) := by decide +kernel
theorem dX11_count_118 : decode cX11_count 118 = .ok (.aload_n 0, 1) := by decide +kernel
theorem dX11_count_119 : decode cX11_count 119 = .ok (.getfield 88, 3) := by decide +kernel
theorem dX11_count_122 : decode cX11_count 122 = .ok (.iload_n 3, 1) := by decide +kernel
theorem dX11_count_123 : decode cX11_count 123 = .ok (.iaload, 1) := by decide +kernel
theorem dX11_count_124 : decode cX11_count 124 = .ok (.iadd, 1) := by decide +kernel
theorem dX11_count_125 : decode cX11_count 125 = .ok (.istore_n 2, 1) := by decide +kernel
theorem dX11_count_126 : decode cX11_count 126 = .ok (.iinc 3 1, 3) := by decide +kernel
theorem dX11_count_129 : decode cX11_count 129 = .ok (.goto (-20), 3) := by decide +kernel
theorem dX11_count_132 : decode cX11_count 132 = .ok (.iload_n 2, 1) := by decide +kernel
theorem dX11_count_133 : decode cX11_count 133 = .ok (.ireturn, 1) := by decide +kernel
theorem dX11_count_134 : decode cX11_count 134 = .ok (.aload_n 0, 1) := by decide +kernel
theorem dX11_count_135 : decode cX11_count 135 = .ok (.getfield 325, 3) := by decide +kernel
theorem dX11_count_138 : decode cX11_count 138 = .ok (.ireturn, 1) := by decide +kernel
theorem dX11_count_139 : decode cX11_count 139 = .ok (.aload_n 0, 1) := by decide +kernel
theorem dX11_count_140 : decode cX11_count 140 = .ok (.invokevirtual 442, 3) := by decide +kernel
theorem dX11_count_143 : decode cX11_count 143 = .ok (.ireturn, 1) := by decide +kernel
theorem dX11_count_144 : decode cX11_count 144 = .ok (.aload_n 0, 1) := by decide +kernel
theorem dX11_count_145 : decode cX11_count 145 = .ok (.getfield 328, 3) := by decide +kernel
theorem dX11_count_148 : decode cX11_count 148 = .ok (.ireturn, 1) := by decide +kernel
theorem dX11_count_149 : decode cX11_count 149 = .ok (.iconst (-1), 1) := by decide +kernel
theorem dX11_count_150 : decode cX11_count 150 = .ok (.ireturn, 1) := by decide +kernel
theorem dJ6_bitCount_0f7a4_0 : decode cJ6_bitCount_0f7a4 0 = .ok (.iload_n 0, 1) := by decide +kernel
theorem dJ6_bitCount_0f7a4_1 : decode cJ6_bitCount_0f7a4 1 = .ok (.iload_n 0, 1) := by decide +kernel
theorem dJ6_bitCount_0f7a4_2 : decode cJ6_bitCount_0f7a4 2 = .ok (.iconst 1, 1) := by decide +kernel
theorem dJ6_bitCount_0f7a4_3 : decode cJ6_bitCount_0f7a4 3 = .ok (.iushr, 1) := by decide +kernel
theorem dJ6_bitCount_0f7a4_4 : decode cJ6_bitCount_0f7a4 4 = .ok (.ldc_w 265, 3) := by decide +kernel
theorem dJ6_bitCount_0f7a4_7 : decode cJ6_bitCount_0f7a4 7 = .ok (.iand, 1) := by decide +kernel
theorem dJ6_bitCount_0f7a4_8 : decode cJ6_bitCount_0f7a4 8 = .ok (.isub, 1) := by decide +kernel
theorem dJ6_bitCount_0f7a4_9 : decode cJ6_bitCount_0f7a4 9 = .ok (.istore_n 0, 1) := by decide +kernel
theorem dJ6_bitCount_0f7a4_10 : decode cJ6_bitCount_0f7a4 10 = .ok (.iload_n 0, 1) := by decide +kernel
theorem dJ6_bitCount_0f7a4_11 : decode cJ6_bitCount_0f7a4 11 = .ok (.ldc_w 266, 3) := by decide +kernel
theorem dJ6_bitCount_0f7a4_14 : decode cJ6_bitCount_0f7a4 14 = .ok (.iand, 1) := by decide +kernel
theorem dJ6_bitCount_0f7a4_15 : decode cJ6_bitCount_0f7a4 15 = .ok (.iload_n 0, 1) := by decide +kernel
theorem dJ6_bitCount_0f7a4_16 : decode cJ6_bitCount_0f7a4 16 = .ok (.iconst 2, 1) := by decide +kernel
theorem dJ6_bitCount_0f7a4_17 : decode cJ6_bitCount_0f7a4 17 = .ok (.iushr, 1) := by decide +kernel
theorem dJ6_bitCount_0f7a4_18 : decode cJ6_bitCount_0f7a4 18 = .ok (.ldc_w 266, 3) := by decide +kernel
theorem dJ6_bitCount_0f7a4_21 : decode cJ6_bitCount_0f7a4 21 = .ok (.iand, 1) := by decide +kernel
theorem dJ6_bitCount_0f7a4_22 : decode cJ6_bitCount_0f7a4 22 = .ok (.iadd, 1) := by decide +kernel
theorem dJ6_bitCount_0f7a4_23 : decode cJ6_bitCount_0f7a4 23 = .ok (.istore_n 0, 1) := by decide +kernel
theorem dJ6_bitCount_0f7a4_24 : decode cJ6_bitCount_0f7a4 24 = .ok (.iload_n 0, 1) := by decide +kernel
theorem dJ6_bitCount_0f7a4_25 : decode cJ6_bitCount_0f7a4 25 = .ok (.iload_n 0, 1) := by decide +kernel
theorem dJ6_bitCount_0f7a4_26 : decode cJ6_bitCount_0f7a4 26 = .ok (.iconst 4, 1) := by decide +kernel
theorem dJ6_bitCount_0f7a4_27 : decode cJ6_bitCount_0f7a4 27 = .ok (.iushr, 1) := by decide +kernel
theorem dJ6_bitCount_0f7a4_28 : decode cJ6_bitCount_0f7a4 28 = .ok (.iadd, 1) := by decide +kernel
theorem dJ6_bitCount_0f7a4_29 : decode cJ6_bitCount_0f7a4 29 = .ok (.ldc_w 267, 3) := by decide +kernel
theorem dJ6_bitCount_0f7a4_32 : decode cJ6_bitCount_0f7a4 32 = .ok (.iand, 1) := by decide +kernel
theorem dJ6_bitCount_0f7a4_33 : decode cJ6_bitCount_0f7a4 33 = .ok (.istore_n 0, 1) := by decide +kernel
theorem dJ6_bitCount_0f7a4_34 : decode cJ6_bitCount_0f7a4 34 = .ok (.iload_n 0, 1) := by decide +kernel
theorem dJ6_bitCount_0f7a4_35 : decode cJ6_bitCount_0f7a4 35 = .ok (.iload_n 0, 1) := by decide +kernel
theorem dJ6_bitCount_0f7a4_36 : decode cJ6_bitCount_0f7a4 36 = .ok (.bipush 8, 2) := by decide +kernel
theorem dJ6_bitCount_0f7a4_38 : decode cJ6_bitCount_0f7a4 38 = .ok (.iushr, 1) := by decide +kernel
theorem dJ6_bitCount_0f7a4_39 : decode cJ6_bitCount_0f7a4 39 = .ok (.iadd, 1) := by decide +kernel
theorem dJ6_bitCount_0f7a4_40 : decode cJ6_bitCount_0f7a4 40 = .ok (.istore_n 0, 1) := by decide +kernel
theorem dJ6_bitCount_0f7a4_41 : decode cJ6_bitCount_0f7a4 41 = .ok (.iload_n 0, 1) := by decide +kernel
theorem dJ6_bitCount_0f7a4_42 : decode cJ6_bitCount_0f7a4 42 = .ok (.iload_n 0, 1) := by decide +kernel
theorem dJ6_bitCount_0f7a4_43 : decode cJ6_bitCount_0f7a4 43 = .ok (.bipush 16, 2) := by decide +kernel
theorem dJ6_bitCount_0f7a4_45 : decode cJ6_bitCount_0f7a4 45 = .ok (.iushr, 1) := by decide +kernel
theorem dJ6_bitCount_0f7a4_46 : decode cJ6_bitCount_0f7a4 46 = .ok (.iadd, 1) := by decide +kernel
theorem dJ6_bitCount_0f7a4_47 : decode cJ6_bitCount_0f7a4 47 = .ok (.istore_n 0, 1) := by decide +kernel
theorem dJ6_bitCount_0f7a4_48 : decode cJ6_bitCount_0f7a4 48 = .ok (.iload_n 0, 1) := by decide +kernel
theorem dJ6_bitCount_0f7a4_49 : decode cJ6_bitCount_0f7a4 49 = .ok (.bipush 63, 2) := by decide +kernel
theorem dJ6_bitCount_0f7a4_51 : decode cJ6_bitCount_0f7a4 51 = .ok (.iand, 1) := by decide +kernel
theorem dJ6_bitCount_0f7a4_52 : decode cJ6_bitCount_0f7a4 52 = .ok (.ireturn, 1) := by decide +kernel
theorem dJ9_abs_0f7a4_0 : decode cJ9_abs_0f7a4 0 = .ok (.iload_n 0, 1) := by decide +kernel
theorem dJ9_abs_0f7a4_1 : decode cJ9_abs_0f7a4 1 = .ok (.ifCond .ge 8, 3) := by decide +kernel
theorem dJ9_abs_0f7a4_4 : decode cJ9_abs_0f7a4 4 = .ok (.iload_n 0, 1) := by decide +kernel
theorem dJ9_abs_0f7a4_5 : decode cJ9_abs_0f7a4 5 = .ok (.ineg, 1) := by decide +kernel
theorem dJ9_abs_0f7a4_6 : decode cJ9_abs_0f7a4 6 = .ok (.goto 4, 3) := by decide +kernel
theorem dJ9_abs_0f7a4_9 : decode cJ9_abs_0f7a4 9 = .ok (.iload_n 0, 1) := by decide +kernel
theorem dJ9_abs_0f7a4_10 : decode cJ9_abs_0f7a4 10 = .ok (.ireturn, 1) := by decide +kernel
theorem dJ9_max_7cf53_0 : decode cJ9_max_7cf53 0 = .ok (.iload_n 0, 1) := by decide +kernel
theorem dJ9_max_7cf53_1 : decode cJ9_max_7cf53 1 = .ok (.iload_n 1, 1) := by decide +kernel
theorem dJ9_max_7cf53_2 : decode cJ9_max_7cf53 2 = .ok (.if_icmp .lt 7, 3) := by decide +kernel
theorem dJ9_max_7cf53_5 : decode cJ9_max_7cf53 5 = .ok (.iload_n 0, 1) := by decide +kernel
theorem dJ9_max_7cf53_6 : decode cJ9_max_7cf53 6 = .ok (.goto 4, 3) := by decide +kernel
theorem dJ9_max_7cf53_9 : decode cJ9_max_7cf53 9 = .ok (.iload_n 1, 1) := by decide +kernel
theorem dJ9_max_7cf53_10 : decode cJ9_max_7cf53 10 = .ok (.ireturn, 1) := by decide +kernel
theorem dJ9_min_7cf53_0 : decode cJ9_min_7cf53 0 = .ok (.iload_n 0, 1) := by decide +kernel
theorem dJ9_min_7cf53_1 : decode cJ9_min_7cf53 1 = .ok (.iload_n 1, 1) := by decide +kernel
theorem dJ9_min_7cf53_2 : decode cJ9_min_7cf53 2 = .ok (.if_icmp .gt 7, 3) := by decide +kernel
theorem dJ9_min_7cf53_5 : decode cJ9_min_7cf53 5 = .ok (.iload_n 0, 1) := by decide +kernel
theorem dJ9_min_7cf53_6 : decode cJ9_min_7cf53 6 = .ok (.goto 4, 3) := by decide +kernel
theorem dJ9_min_7cf53_9 : decode cJ9_min_7cf53 9 = .ok (.iload_n 1, 1) := by decide +kernel
theorem dJ9_min_7cf53_10 : decode cJ9_min_7cf53 10 = .ok (.ireturn, 1) := by decide +kernel
theorem dJ0_charAt_5068e_0 : decode cJ0_charAt_5068e 0 = .ok (.aload_n 0, 1) := by decide +kernel
theorem dJ0_charAt_5068e_1 : decode cJ0_charAt_5068e 1 = .ok (.invokevirtual 492, 3) := by decide +kernel
theorem dJ0_charAt_5068e_4 : decode cJ0_charAt_5068e 4 = .ok (.ifCond .eq 12, 3) := by decide +kernel
theorem dJ0_charAt_5068e_7 : decode cJ0_charAt_5068e 7 = .ok (.aload_n 0, 1) := by decide +kernel
theorem dJ0_charAt_5068e_8 : decode cJ0_charAt_5068e 8 = .ok (.getfield 9, 3) := by decide +kernel
theorem dJ0_charAt_5068e_11 : decode cJ0_charAt_5068e 11 = .ok (.iload_n 1, 1) := by decide +kernel
theorem dJ0_charAt_5068e_12 : decode cJ0_charAt_5068e 12 = .ok (.invokestatic 495, 3) := by decide +kernel
theorem dJ0_charAt_5068e_15 : decode cJ0_charAt_5068e 15 = .ok (.ireturn, 1) := by decide +kernel
theorem dJ0_charAt_5068e_16 : decode cJ0_charAt_5068e 16 = .ok (.aload_n 0, 1) := by decide +kernel
theorem dJ0_charAt_5068e_17 : decode cJ0_charAt_5068e 17 = .ok (.getfield 9, 3) := by decide +kernel
theorem dJ0_charAt_5068e_20 : decode cJ0_charAt_5068e 20 = .ok (.iload_n 1, 1) := by decide +kernel
theorem dJ0_charAt_5068e_21 : decode cJ0_charAt_5068e 21 = .ok (.invokestatic 498, 3) := by decide +kernel
theorem dJ0_charAt_5068e_24 : decode cJ0_charAt_5068e 24 = .ok (.ireturn, 1) := by decide +kernel
theorem dJ0_isLatin1_aae02_0 : decode cJ0_isLatin1_aae02 0 = .ok (.getstatic 38, 3) := by decide +kernel
theorem dJ0_isLatin1_aae02_3 : decode cJ0_isLatin1_aae02 3 = .ok (.ifCond .eq 14, 3) := by decide +kernel
theorem dJ0_isLatin1_aae02_6 : decode cJ0_isLatin1_aae02 6 = .ok (.aload_n 0, 1) := by decide +kernel
theorem dJ0_isLatin1_aae02_7 : decode cJ0_isLatin1_aae02 7 = .ok (.getfield 15, 3) := by decide +kernel
theorem dJ0_isLatin1_aae02_10 : decode cJ0_isLatin1_aae02 10 = .ok (.ifCond .ne 7, 3) := by decide +kernel
theorem dJ0_isLatin1_aae02_13 : decode cJ0_isLatin1_aae02 13 = .ok (.iconst 1, 1) := by decide +kernel
theorem dJ0_isLatin1_aae02_14 : decode cJ0_isLatin1_aae02 14 = .ok (.goto 4, 3) := by decide +kernel
theorem dJ0_isLatin1_aae02_17 : decode cJ0_isLatin1_aae02 17 = .ok (.iconst 0, 1) := by decide +kernel
theorem dJ0_isLatin1_aae02_18 : decode cJ0_isLatin1_aae02 18 = .ok (.ireturn, 1) := by decide +kernel
theorem dJ0_checkIndex_df160_0 : decode cJ0_checkIndex_df160 0 = .ok (.iload_n 0, 1) := by decide +kernel
theorem dJ0_checkIndex_df160_1 : decode cJ0_checkIndex_df160 1 = .ok (.iload_n 1, 1) := by decide +kernel
theorem dJ0_checkIndex_df160_2 : decode cJ0_checkIndex_df160 2 = .ok (.getstatic 1053, 3) := by decide +kernel
theorem dJ0_checkIndex_df160_5 : decode cJ0_checkIndex_df160 5 = .ok (.invokestatic 1059, 3) := by decide +kernel
theorem dJ0_checkIndex_df160_8 : decode cJ0_checkIndex_df160 8 = .ok (.pop, 1) := by decide +kernel
theorem dJ0_checkIndex_df160_9 : decode cJ0_checkIndex_df160 9 = .ok (.return_, 1) := by decide +kernel
theorem dJ1_charAt_3b067_0 : decode cJ1_charAt_3b067 0 = .ok (.iload_n 1, 1) := by decide +kernel
theorem dJ1_charAt_3b067_1 : decode cJ1_charAt_3b067 1 = .ok (.aload_n 0, 1) := by decide +kernel
theorem dJ1_charAt_3b067_2 : decode cJ1_charAt_3b067 2 = .ok (.arraylength, 1) := by decide +kernel
theorem dJ1_charAt_3b067_3 : decode cJ1_charAt_3b067 3 = .ok (.invokestatic 9, 3) := by decide +kernel
theorem dJ1_charAt_3b067_6 : decode cJ1_charAt_3b067 6 = .ok (.aload_n 0, 1) := by decide +kernel
theorem dJ1_charAt_3b067_7 : decode cJ1_charAt_3b067 7 = .ok (.iload_n 1, 1) := by decide +kernel
theorem dJ1_charAt_3b067_8 : decode cJ1_charAt_3b067 8 = .ok (.baload, 1) := by decide +kernel
theorem dJ1_charAt_3b067_9 : decode cJ1_charAt_3b067 9 = .ok (.sipush 255, 3) := by decide +kernel
theorem dJ1_charAt_3b067_12 : decode cJ1_charAt_3b067 12 = .ok (.iand, 1) := by decide +kernel
theorem dJ1_charAt_3b067_13 : decode cJ1_charAt_3b067 13 = .ok (.i2c, 1) := by decide +kernel
theorem dJ1_charAt_3b067_14 : decode cJ1_charAt_3b067 14 = .ok (.ireturn, 1) := by decide +kernel
theorem dJ2_getChar_3b067_0 : decode cJ2_getChar_3b067 0 = .ok (.getstatic 44, 3) := by decide +kernel
theorem dJ2_getChar_3b067_3 : decode cJ2_getChar_3b067 3 = .ok (.ifCond .ne 25, 3) := by decide +kernel
theorem dJ2_getChar_3b067_6 : decode cJ2_getChar_3b067 6 = .ok (.iload_n 1, 1) := by decide +kernel
theorem dJ2_getChar_3b067_7 : decode cJ2_getChar_3b067 7 = .ok (.ifCond .lt 11, 3) := by decide +kernel
theorem dJ2_getChar_3b067_10 : decode cJ2_getChar_3b067 10 = .ok (.iload_n 1, 1) := by decide +kernel
theorem dJ2_getChar_3b067_11 : decode cJ2_getChar_3b067 11 = .ok (.aload_n 0, 1) := by decide +kernel
theorem dJ2_getChar_3b067_12 : decode cJ2_getChar_3b067 12 = .ok (.invokestatic 48, 3) := by decide +kernel
theorem dJ2_getChar_3b067_15 : decode cJ2_getChar_3b067 15 = .ok (.if_icmp .lt 13, 3) := by decide +kernel
theorem dJ2_getChar_3b067_18 : decode cJ2_getChar_3b067 18 = .ok (.new 52, 3) := by decide +kernel
theorem dJ2_getChar_3b067_21 : decode cJ2_getChar_3b067 21 = .ok (.dup, 1) := by decide +kernel
theorem dJ2_getChar_3b067_22 : decode cJ2_getChar_3b067 22 = .ok (.ldc 54, 2) := by decide +kernel
theorem dJ2_getChar_3b067_24 : decode cJ2_getChar_3b067 24 = .ok (.invokespecial 56, 3) := by decide +kernel
theorem dJ2_getChar_3b067_27 : decode cJ2_getChar_3b067 27 = .ok (.athrow, 1) := by decide +kernel
theorem dJ2_getChar_3b067_28 : decode cJ2_getChar_3b067 28 = .ok (.iload_n 1, 1) := by decide +kernel
theorem dJ2_getChar_3b067_29 : decode cJ2_getChar_3b067 29 = .ok (.iconst 1, 1) := by decide +kernel
theorem dJ2_getChar_3b067_30 : decode cJ2_getChar_3b067 30 = .ok (.ishl, 1) := by decide +kernel
theorem dJ2_getChar_3b067_31 : decode cJ2_getChar_3b067 31 = .ok (.istore_n 1, 1) := by decide +kernel
theorem dJ2_getChar_3b067_32 : decode cJ2_getChar_3b067 32 = .ok (.aload_n 0, 1) := by decide +kernel
theorem dJ2_getChar_3b067_33 : decode cJ2_getChar_3b067 33 = .ok (.iload_n 1, 1) := by decide +kernel
theorem dJ2_getChar_3b067_34 : decode cJ2_getChar_3b067 34 = .ok (.iinc 1 1, 3) := by decide +kernel
theorem dJ2_getChar_3b067_37 : decode cJ2_getChar_3b067 37 = .ok (.baload, 1) := by decide +kernel
theorem dJ2_getChar_3b067_38 : decode cJ2_getChar_3b067 38 = .ok (.sipush 255, 3) := by decide +kernel
theorem dJ2_getChar_3b067_41 : decode cJ2_getChar_3b067 41 = .ok (.iand, 1) := by decide +kernel
theorem dJ2_getChar_3b067_42 : decode cJ2_getChar_3b067 42 = .ok (.getstatic 59, 3) := by decide +kernel
theorem dJ2_getChar_3b067_45 : decode cJ2_getChar_3b067 45 = .ok (.ishl, 1) := by decide +kernel
theorem dJ2_getChar_3b067_46 : decode cJ2_getChar_3b067 46 = .ok (.aload_n 0, 1) := by decide +kernel
theorem dJ2_getChar_3b067_47 : decode cJ2_getChar_3b067 47 = .ok (.iload_n 1, 1) := by decide +kernel
theorem dJ2_getChar_3b067_48 : decode cJ2_getChar_3b067 48 = .ok (.baload, 1) := by decide +kernel
theorem dJ2_getChar_3b067_49 : decode cJ2_getChar_3b067 49 = .ok (.sipush 255, 3) := by decide +kernel
theorem dJ2_getChar_3b067_52 : decode cJ2_getChar_3b067 52 = .ok (.iand, 1) := by decide +kernel
theorem dJ2_getChar_3b067_53 : decode cJ2_getChar_3b067 53 = .ok (.getstatic 63, 3) := by decide +kernel
theorem dJ2_getChar_3b067_56 : decode cJ2_getChar_3b067 56 = .ok (.ishl, 1) := by decide +kernel
theorem dJ2_getChar_3b067_57 : decode cJ2_getChar_3b067 57 = .ok (.ior, 1) := by decide +kernel
theorem dJ2_getChar_3b067_58 : decode cJ2_getChar_3b067 58 = .ok (.i2c, 1) := by decide +kernel
theorem dJ2_getChar_3b067_59 : decode cJ2_getChar_3b067 59 = .ok (.ireturn, 1) := by decide +kernel
theorem dJ2_length_9d52b_0 : decode cJ2_length_9d52b 0 = .ok (.aload_n 0, 1) := by decide +kernel
theorem dJ2_length_9d52b_1 : decode cJ2_length_9d52b 1 = .ok (.arraylength, 1) := by decide +kernel
theorem dJ2_length_9d52b_2 : decode cJ2_length_9d52b 2 = .ok (.iconst 1, 1) := by decide +kernel
theorem dJ2_length_9d52b_3 : decode cJ2_length_9d52b 3 = .ok (.ishr, 1) := by decide +kernel
theorem dJ2_length_9d52b_4 : decode cJ2_length_9d52b 4 = .ok (.ireturn, 1) := by decide +kernel
theorem dJ2_charAt_3b067_0 : decode cJ2_charAt_3b067 0 = .ok (.iload_n 1, 1) := by decide +kernel
theorem dJ2_charAt_3b067_1 : decode cJ2_charAt_3b067 1 = .ok (.aload_n 0, 1) := by decide +kernel
theorem dJ2_charAt_3b067_2 : decode cJ2_charAt_3b067 2 = .ok (.invokestatic 67, 3) := by decide +kernel
theorem dJ2_charAt_3b067_5 : decode cJ2_charAt_3b067 5 = .ok (.aload_n 0, 1) := by decide +kernel
theorem dJ2_charAt_3b067_6 : decode cJ2_charAt_3b067 6 = .ok (.iload_n 1, 1) := by decide +kernel
theorem dJ2_charAt_3b067_7 : decode cJ2_charAt_3b067 7 = .ok (.invokestatic 71, 3) := by decide +kernel
theorem dJ2_charAt_3b067_10 : decode cJ2_charAt_3b067 10 = .ok (.ireturn, 1) := by decide +kernel
theorem dJ2_checkIndex_2214a_0 : decode cJ2_checkIndex_2214a 0 = .ok (.iload_n 0, 1) := by decide +kernel
theorem dJ2_checkIndex_2214a_1 : decode cJ2_checkIndex_2214a 1 = .ok (.aload_n 1, 1) := by decide +kernel
theorem dJ2_checkIndex_2214a_2 : decode cJ2_checkIndex_2214a 2 = .ok (.invokestatic 48, 3) := by decide +kernel
theorem dJ2_checkIndex_2214a_5 : decode cJ2_checkIndex_2214a 5 = .ok (.invokestatic 414, 3) := by decide +kernel
theorem dJ2_checkIndex_2214a_8 : decode cJ2_checkIndex_2214a 8 = .ok (.return_, 1) := by decide +kernel
theorem dJ3_checkIndex_8e157_0 : decode cJ3_checkIndex_8e157 0 = .ok (.iload_n 0, 1) := by decide +kernel
theorem dJ3_checkIndex_8e157_1 : decode cJ3_checkIndex_8e157 1 = .ok (.ifCond .lt 8, 3) := by decide +kernel
theorem dJ3_checkIndex_8e157_4 : decode cJ3_checkIndex_8e157 4 = .ok (.iload_n 0, 1) := by decide +kernel
theorem dJ3_checkIndex_8e157_5 : decode cJ3_checkIndex_8e157 5 = .ok (.iload_n 1, 1) := by decide +kernel
theorem dJ3_checkIndex_8e157_6 : decode cJ3_checkIndex_8e157 6 = .ok (.if_icmp .lt 10, 3) := by decide +kernel
theorem dJ3_checkIndex_8e157_9 : decode cJ3_checkIndex_8e157 9 = .ok (.aload_n 2, 1) := by decide +kernel
theorem dJ3_checkIndex_8e157_10 : decode cJ3_checkIndex_8e157 10 = .ok (.iload_n 0, 1) := by decide +kernel
theorem dJ3_checkIndex_8e157_11 : decode cJ3_checkIndex_8e157 11 = .ok (.iload_n 1, 1) := by decide +kernel
theorem dJ3_checkIndex_8e157_12 : decode cJ3_checkIndex_8e157 12 = .ok (.invokestatic 95, 3) := by decide +kernel
theorem dJ3_checkIndex_8e157_15 : decode cJ3_checkIndex_8e157 15 = .ok (.athrow, 1) := by decide +kernel
theorem dJ3_checkIndex_8e157_16 : decode cJ3_checkIndex_8e157 16 = .ok (.iload_n 0, 1) := by decide +kernel
theorem dJ3_checkIndex_8e157_17 : decode cJ3_checkIndex_8e157 17 = .ok (.ireturn, 1) := by decide +kernel
theorem dL_house_0 : decode cL_house 0 = .ok (.aload_n 3, 1) := by decide +kernel
theorem dL_house_1 : decode cL_house 1 = .ok (.iconst 0, 1) := by decide +kernel
theorem dL_house_2 : decode cL_house 2 = .ok (.aload_n 0, 1) := by decide +kernel
theorem dL_house_3 : decode cL_house 3 = .ok (.iload_n 1, 1) := by decide +kernel
theorem dL_house_4 : decode cL_house 4 = .ok (.iload_n 2, 1) := by decide +kernel
theorem dL_house_5 : decode cL_house 5 = .ok (.invokevirtual 7, 3) := by decide +kernel
theorem dL_house_8 : decode cL_house 8 = .ok (.i2l, 1) := by decide +kernel
theorem dL_house_9 : decode cL_house 9 = .ok (.lastore, 1) := by decide +kernel
theorem dL_house_10 : decode cL_house 10 = .ok (.goto 11, 3) := by decide +kernel
theorem dL_house_13 : decode cL_house 13 = .ok (.astore 4, 2) := by decide +kernel
theorem dL_house_15 : decode cL_house 15 = .ok (.iconst 1, 1) := by decide +kernel
theorem dL_house_16 : decode cL_house 16 = .ok (.ireturn, 1) := by decide +kernel
theorem dL_house_17 : decode cL_house 17 = .ok (.astore 4, 2) := by decide +kernel
theorem dL_house_19 : decode cL_house 19 = .ok (.iconst 2, 1) := by decide +kernel
theorem dL_house_20 : decode cL_house 20 = .ok (.ireturn, 1) := by decide +kernel
theorem dL_house_21 : decode cL_house 21 = .ok (.iconst 0, 1) := by decide +kernel
theorem dL_house_22 : decode cL_house 22 = .ok (.ireturn, 1) := by decide +kernel
theorem dL_law_0 : decode cL_law 0 = .ok (.new 8, 3) := by decide +kernel
theorem dL_law_3 : decode cL_law 3 = .ok (.dup, 1) := by decide +kernel
theorem dL_law_4 : decode cL_law 4 = .ok (.invokespecial 17, 3) := by decide +kernel
theorem dL_law_7 : decode cL_law 7 = .ok (.astore_n 1, 1) := by decide +kernel
theorem dL_law_8 : decode cL_law 8 = .ok (.new 18, 3) := by decide +kernel
theorem dL_law_11 : decode cL_law 11 = .ok (.dup, 1) := by decide +kernel
theorem dL_law_12 : decode cL_law 12 = .ok (.invokespecial 20, 3) := by decide +kernel
theorem dL_law_15 : decode cL_law 15 = .ok (.astore_n 2, 1) := by decide +kernel
theorem dL_law_16 : decode cL_law 16 = .ok (.iconst 1, 1) := by decide +kernel
theorem dL_law_17 : decode cL_law 17 = .ok (.newarray .long, 2) := by decide +kernel
theorem dL_law_19 : decode cL_law 19 = .ok (.astore_n 3, 1) := by decide +kernel
theorem dL_law_20 : decode cL_law 20 = .ok (.iconst 0, 1) := by decide +kernel
theorem dL_law_21 : decode cL_law 21 = .ok (.istore 4, 2) := by decide +kernel
theorem dL_law_23 : decode cL_law 23 = .ok (.iload 4, 2) := by decide +kernel
theorem dL_law_25 : decode cL_law 25 = .ok (.aload_n 0, 1) := by decide +kernel
theorem dL_law_26 : decode cL_law 26 = .ok (.arraylength, 1) := by decide +kernel
theorem dL_law_27 : decode cL_law 27 = .ok (.bipush 6, 2) := by decide +kernel
theorem dL_law_29 : decode cL_law 29 = .ok (.isub, 1) := by decide +kernel
theorem dL_law_30 : decode cL_law 30 = .ok (.if_icmp .gt 1626, 3) := by decide +kernel
theorem dL_law_33 : decode cL_law 33 = .ok (.aload_n 0, 1) := by decide +kernel
theorem dL_law_34 : decode cL_law 34 = .ok (.iload 4, 2) := by decide +kernel
theorem dL_law_36 : decode cL_law 36 = .ok (.iaload, 1) := by decide +kernel
theorem dL_law_37 : decode cL_law 37 = .ok (.bipush 63, 2) := by decide +kernel
theorem dL_law_39 : decode cL_law 39 = .ok (.iand, 1) := by decide +kernel
theorem dL_law_40 : decode cL_law 40 = .ok (.tableswitch 1610 0 41 #[184, 257, 282, 307, 332, 400, 437, 474, 524, 561, 598, 623, 648, 697, 722, 771, 796, 809, 834, 871, 920, 933, 970, 995, 1032, 1045, 1082, 1107, 1144, 1157, 1194, 1231, 1296, 1373, 1398, 1423, 1436, 1497, 1546, 1559, 1572, 1585], 184) := by decide +kernel
theorem dL_law_224 : decode cL_law 224 = .ok (.aload_n 1, 1) := by decide +kernel
theorem dL_law_225 : decode cL_law 225 = .ok (.aload_n 0, 1) := by decide +kernel
theorem dL_law_226 : decode cL_law 226 = .ok (.iload 4, 2) := by decide +kernel
theorem dL_law_228 : decode cL_law 228 = .ok (.iconst 1, 1) := by decide +kernel
theorem dL_law_229 : decode cL_law 229 = .ok (.iadd, 1) := by decide +kernel
theorem dL_law_230 : decode cL_law 230 = .ok (.iaload, 1) := by decide +kernel
theorem dL_law_231 : decode cL_law 231 = .ok (.aload_n 0, 1) := by decide +kernel
theorem dL_law_232 : decode cL_law 232 = .ok (.iload 4, 2) := by decide +kernel
theorem dL_law_234 : decode cL_law 234 = .ok (.iconst 2, 1) := by decide +kernel
theorem dL_law_235 : decode cL_law 235 = .ok (.iadd, 1) := by decide +kernel
theorem dL_law_236 : decode cL_law 236 = .ok (.iaload, 1) := by decide +kernel
theorem dL_law_237 : decode cL_law 237 = .ok (.aload_n 0, 1) := by decide +kernel
theorem dL_law_238 : decode cL_law 238 = .ok (.iload 4, 2) := by decide +kernel
theorem dL_law_240 : decode cL_law 240 = .ok (.iconst 3, 1) := by decide +kernel
theorem dL_law_241 : decode cL_law 241 = .ok (.iadd, 1) := by decide +kernel
theorem dL_law_242 : decode cL_law 242 = .ok (.iaload, 1) := by decide +kernel
theorem dL_law_243 : decode cL_law 243 = .ok (.aload_n 0, 1) := by decide +kernel
theorem dL_law_244 : decode cL_law 244 = .ok (.iload 4, 2) := by decide +kernel
theorem dL_law_246 : decode cL_law 246 = .ok (.iconst 4, 1) := by decide +kernel
theorem dL_law_247 : decode cL_law 247 = .ok (.iadd, 1) := by decide +kernel
theorem dL_law_248 : decode cL_law 248 = .ok (.iaload, 1) := by decide +kernel
theorem dL_law_249 : decode cL_law 249 = .ok (.aload_n 0, 1) := by decide +kernel
theorem dL_law_250 : decode cL_law 250 = .ok (.iload 4, 2) := by decide +kernel
theorem dL_law_252 : decode cL_law 252 = .ok (.iconst 5, 1) := by decide +kernel
theorem dL_law_253 : decode cL_law 253 = .ok (.iadd, 1) := by decide +kernel
theorem dL_law_254 : decode cL_law 254 = .ok (.iaload, 1) := by decide +kernel
theorem dL_law_255 : decode cL_law 255 = .ok (.invokevirtual 21, 3) := by decide +kernel
theorem dL_law_258 : decode cL_law 258 = .ok (.aload_n 2, 1) := by decide +kernel
theorem dL_law_259 : decode cL_law 259 = .ok (.aload_n 0, 1) := by decide +kernel
theorem dL_law_260 : decode cL_law 260 = .ok (.iload 4, 2) := by decide +kernel
theorem dL_law_262 : decode cL_law 262 = .ok (.iconst 1, 1) := by decide +kernel
theorem dL_law_263 : decode cL_law 263 = .ok (.iadd, 1) := by decide +kernel
theorem dL_law_264 : decode cL_law 264 = .ok (.iaload, 1) := by decide +kernel
theorem dL_law_265 : decode cL_law 265 = .ok (.aload_n 0, 1) := by decide +kernel
theorem dL_law_266 : decode cL_law 266 = .ok (.iload 4, 2) := by decide +kernel
theorem dL_law_268 : decode cL_law 268 = .ok (.iconst 2, 1) := by decide +kernel
theorem dL_law_269 : decode cL_law 269 = .ok (.iadd, 1) := by decide +kernel
theorem dL_law_270 : decode cL_law 270 = .ok (.iaload, 1) := by decide +kernel
theorem dL_law_271 : decode cL_law 271 = .ok (.aload_n 0, 1) := by decide +kernel
theorem dL_law_272 : decode cL_law 272 = .ok (.iload 4, 2) := by decide +kernel
theorem dL_law_274 : decode cL_law 274 = .ok (.iconst 3, 1) := by decide +kernel
theorem dL_law_275 : decode cL_law 275 = .ok (.iadd, 1) := by decide +kernel
theorem dL_law_276 : decode cL_law 276 = .ok (.iaload, 1) := by decide +kernel
theorem dL_law_277 : decode cL_law 277 = .ok (.aload_n 0, 1) := by decide +kernel
theorem dL_law_278 : decode cL_law 278 = .ok (.iload 4, 2) := by decide +kernel
theorem dL_law_280 : decode cL_law 280 = .ok (.iconst 4, 1) := by decide +kernel
theorem dL_law_281 : decode cL_law 281 = .ok (.iadd, 1) := by decide +kernel
theorem dL_law_282 : decode cL_law 282 = .ok (.iaload, 1) := by decide +kernel
theorem dL_law_283 : decode cL_law 283 = .ok (.aload_n 0, 1) := by decide +kernel
theorem dL_law_284 : decode cL_law 284 = .ok (.iload 4, 2) := by decide +kernel
theorem dL_law_286 : decode cL_law 286 = .ok (.iconst 5, 1) := by decide +kernel
theorem dL_law_287 : decode cL_law 287 = .ok (.iadd, 1) := by decide +kernel
theorem dL_law_288 : decode cL_law 288 = .ok (.iaload, 1) := by decide +kernel
theorem dL_law_289 : decode cL_law 289 = .ok (.invokevirtual 25, 3) := by decide +kernel
theorem dL_law_292 : decode cL_law 292 = .ok (.if_icmp .eq 1358, 3) := by decide +kernel
theorem dL_law_295 : decode cL_law 295 = .ok (.iconst 0, 1) := by decide +kernel
theorem dL_law_296 : decode cL_law 296 = .ok (.ireturn, 1) := by decide +kernel
theorem dL_law_297 : decode cL_law 297 = .ok (.aload_n 1, 1) := by decide +kernel
theorem dL_law_298 : decode cL_law 298 = .ok (.aload_n 0, 1) := by decide +kernel
theorem dL_law_299 : decode cL_law 299 = .ok (.iload 4, 2) := by decide +kernel
theorem dL_law_301 : decode cL_law 301 = .ok (.iconst 1, 1) := by decide +kernel
theorem dL_law_302 : decode cL_law 302 = .ok (.iadd, 1) := by decide +kernel
theorem dL_law_303 : decode cL_law 303 = .ok (.iaload, 1) := by decide +kernel
theorem dL_law_304 : decode cL_law 304 = .ok (.invokevirtual 26, 3) := by decide +kernel
theorem dL_law_307 : decode cL_law 307 = .ok (.aload_n 2, 1) := by decide +kernel
theorem dL_law_308 : decode cL_law 308 = .ok (.aload_n 0, 1) := by decide +kernel
theorem dL_law_309 : decode cL_law 309 = .ok (.iload 4, 2) := by decide +kernel
theorem dL_law_311 : decode cL_law 311 = .ok (.iconst 1, 1) := by decide +kernel
theorem dL_law_312 : decode cL_law 312 = .ok (.iadd, 1) := by decide +kernel
theorem dL_law_313 : decode cL_law 313 = .ok (.iaload, 1) := by decide +kernel
theorem dL_law_314 : decode cL_law 314 = .ok (.invokevirtual 30, 3) := by decide +kernel
theorem dL_law_317 : decode cL_law 317 = .ok (.if_icmp .eq 1333, 3) := by decide +kernel
theorem dL_law_320 : decode cL_law 320 = .ok (.iconst 0, 1) := by decide +kernel
theorem dL_law_321 : decode cL_law 321 = .ok (.ireturn, 1) := by decide +kernel
theorem dL_law_322 : decode cL_law 322 = .ok (.aload_n 1, 1) := by decide +kernel
theorem dL_law_323 : decode cL_law 323 = .ok (.aload_n 0, 1) := by decide +kernel
theorem dL_law_324 : decode cL_law 324 = .ok (.iload 4, 2) := by decide +kernel
theorem dL_law_326 : decode cL_law 326 = .ok (.iconst 1, 1) := by decide +kernel
theorem dL_law_327 : decode cL_law 327 = .ok (.iadd, 1) := by decide +kernel
theorem dL_law_328 : decode cL_law 328 = .ok (.iaload, 1) := by decide +kernel
theorem dL_law_329 : decode cL_law 329 = .ok (.invokevirtual 31, 3) := by decide +kernel
theorem dL_law_332 : decode cL_law 332 = .ok (.aload_n 2, 1) := by decide +kernel
theorem dL_law_333 : decode cL_law 333 = .ok (.aload_n 0, 1) := by decide +kernel
theorem dL_law_334 : decode cL_law 334 = .ok (.iload 4, 2) := by decide +kernel
theorem dL_law_336 : decode cL_law 336 = .ok (.iconst 1, 1) := by decide +kernel
theorem dL_law_337 : decode cL_law 337 = .ok (.iadd, 1) := by decide +kernel
theorem dL_law_338 : decode cL_law 338 = .ok (.iaload, 1) := by decide +kernel
theorem dL_law_339 : decode cL_law 339 = .ok (.invokevirtual 34, 3) := by decide +kernel
theorem dL_law_342 : decode cL_law 342 = .ok (.if_icmp .eq 1308, 3) := by decide +kernel
theorem dL_law_345 : decode cL_law 345 = .ok (.iconst 0, 1) := by decide +kernel
theorem dL_law_346 : decode cL_law 346 = .ok (.ireturn, 1) := by decide +kernel
theorem dL_law_347 : decode cL_law 347 = .ok (.aload_n 1, 1) := by decide +kernel
theorem dL_law_348 : decode cL_law 348 = .ok (.aload_n 0, 1) := by decide +kernel
theorem dL_law_349 : decode cL_law 349 = .ok (.iload 4, 2) := by decide +kernel
theorem dL_law_351 : decode cL_law 351 = .ok (.iconst 1, 1) := by decide +kernel
theorem dL_law_352 : decode cL_law 352 = .ok (.iadd, 1) := by decide +kernel
theorem dL_law_353 : decode cL_law 353 = .ok (.iaload, 1) := by decide +kernel
theorem dL_law_354 : decode cL_law 354 = .ok (.invokevirtual 35, 3) := by decide +kernel
theorem dL_law_357 : decode cL_law 357 = .ok (.aload_n 2, 1) := by decide +kernel
theorem dL_law_358 : decode cL_law 358 = .ok (.aload_n 0, 1) := by decide +kernel
theorem dL_law_359 : decode cL_law 359 = .ok (.iload 4, 2) := by decide +kernel
theorem dL_law_361 : decode cL_law 361 = .ok (.iconst 1, 1) := by decide +kernel
theorem dL_law_362 : decode cL_law 362 = .ok (.iadd, 1) := by decide +kernel
theorem dL_law_363 : decode cL_law 363 = .ok (.iaload, 1) := by decide +kernel
theorem dL_law_364 : decode cL_law 364 = .ok (.invokevirtual 38, 3) := by decide +kernel
theorem dL_law_367 : decode cL_law 367 = .ok (.if_icmp .eq 1283, 3) := by decide +kernel
theorem dL_law_370 : decode cL_law 370 = .ok (.iconst 0, 1) := by decide +kernel
theorem dL_law_371 : decode cL_law 371 = .ok (.ireturn, 1) := by decide +kernel
theorem dL_law_372 : decode cL_law 372 = .ok (.aload_n 1, 1) := by decide +kernel
theorem dL_law_373 : decode cL_law 373 = .ok (.aload_n 0, 1) := by decide +kernel
theorem dL_law_374 : decode cL_law 374 = .ok (.iload 4, 2) := by decide +kernel
theorem dL_law_376 : decode cL_law 376 = .ok (.iconst 1, 1) := by decide +kernel
theorem dL_law_377 : decode cL_law 377 = .ok (.iadd, 1) := by decide +kernel
theorem dL_law_378 : decode cL_law 378 = .ok (.iaload, 1) := by decide +kernel
theorem dL_law_379 : decode cL_law 379 = .ok (.aload_n 0, 1) := by decide +kernel
theorem dL_law_380 : decode cL_law 380 = .ok (.iload 4, 2) := by decide +kernel
theorem dL_law_382 : decode cL_law 382 = .ok (.iconst 2, 1) := by decide +kernel
theorem dL_law_383 : decode cL_law 383 = .ok (.iadd, 1) := by decide +kernel
theorem dL_law_384 : decode cL_law 384 = .ok (.iaload, 1) := by decide +kernel
theorem dL_law_385 : decode cL_law 385 = .ok (.aload_n 3, 1) := by decide +kernel
theorem dL_law_386 : decode cL_law 386 = .ok (.invokestatic 39, 3) := by decide +kernel
theorem dL_law_389 : decode cL_law 389 = .ok (.istore 5, 2) := by decide +kernel
theorem dL_law_391 : decode cL_law 391 = .ok (.aload_n 2, 1) := by decide +kernel
theorem dL_law_392 : decode cL_law 392 = .ok (.aload_n 0, 1) := by decide +kernel
theorem dL_law_393 : decode cL_law 393 = .ok (.iload 4, 2) := by decide +kernel
theorem dL_law_395 : decode cL_law 395 = .ok (.iconst 1, 1) := by decide +kernel
theorem dL_law_396 : decode cL_law 396 = .ok (.iadd, 1) := by decide +kernel
theorem dL_law_397 : decode cL_law 397 = .ok (.iaload, 1) := by decide +kernel
theorem dL_law_398 : decode cL_law 398 = .ok (.aload_n 0, 1) := by decide +kernel
theorem dL_law_399 : decode cL_law 399 = .ok (.iload 4, 2) := by decide +kernel
theorem dL_law_401 : decode cL_law 401 = .ok (.iconst 2, 1) := by decide +kernel
theorem dL_law_402 : decode cL_law 402 = .ok (.iadd, 1) := by decide +kernel
theorem dL_law_403 : decode cL_law 403 = .ok (.iaload, 1) := by decide +kernel
theorem dL_law_404 : decode cL_law 404 = .ok (.invokevirtual 44, 3) := by decide +kernel
theorem dL_law_407 : decode cL_law 407 = .ok (.istore 6, 2) := by decide +kernel
theorem dL_law_409 : decode cL_law 409 = .ok (.aload_n 2, 1) := by decide +kernel
theorem dL_law_410 : decode cL_law 410 = .ok (.invokevirtual 45, 3) := by decide +kernel
theorem dL_law_413 : decode cL_law 413 = .ok (.iload 5, 2) := by decide +kernel
theorem dL_law_415 : decode cL_law 415 = .ok (.if_icmp .eq 5, 3) := by decide +kernel
theorem dL_law_418 : decode cL_law 418 = .ok (.iconst 0, 1) := by decide +kernel
theorem dL_law_419 : decode cL_law 419 = .ok (.ireturn, 1) := by decide +kernel
theorem dL_law_420 : decode cL_law 420 = .ok (.iload 5, 2) := by decide +kernel
theorem dL_law_422 : decode cL_law 422 = .ok (.ifCond .ne 15, 3) := by decide +kernel
theorem dL_law_425 : decode cL_law 425 = .ok (.aload_n 3, 1) := by decide +kernel
theorem dL_law_426 : decode cL_law 426 = .ok (.iconst 0, 1) := by decide +kernel
theorem dL_law_427 : decode cL_law 427 = .ok (.laload, 1) := by decide +kernel
theorem dL_law_428 : decode cL_law 428 = .ok (.iload 6, 2) := by decide +kernel
theorem dL_law_430 : decode cL_law 430 = .ok (.i2l, 1) := by decide +kernel
theorem dL_law_431 : decode cL_law 431 = .ok (.lcmp, 1) := by decide +kernel
theorem dL_law_432 : decode cL_law 432 = .ok (.ifCond .eq 5, 3) := by decide +kernel
theorem dL_law_435 : decode cL_law 435 = .ok (.iconst 0, 1) := by decide +kernel
theorem dL_law_436 : decode cL_law 436 = .ok (.ireturn, 1) := by decide +kernel
theorem dL_law_437 : decode cL_law 437 = .ok (.goto 1213, 3) := by decide +kernel
theorem dL_law_440 : decode cL_law 440 = .ok (.aload_n 1, 1) := by decide +kernel
theorem dL_law_441 : decode cL_law 441 = .ok (.aload_n 0, 1) := by decide +kernel
theorem dL_law_442 : decode cL_law 442 = .ok (.iload 4, 2) := by decide +kernel
theorem dL_law_444 : decode cL_law 444 = .ok (.iconst 1, 1) := by decide +kernel
theorem dL_law_445 : decode cL_law 445 = .ok (.iadd, 1) := by decide +kernel
theorem dL_law_446 : decode cL_law 446 = .ok (.iaload, 1) := by decide +kernel
theorem dL_law_447 : decode cL_law 447 = .ok (.aload_n 0, 1) := by decide +kernel
theorem dL_law_448 : decode cL_law 448 = .ok (.iload 4, 2) := by decide +kernel
theorem dL_law_450 : decode cL_law 450 = .ok (.iconst 2, 1) := by decide +kernel
theorem dL_law_451 : decode cL_law 451 = .ok (.iadd, 1) := by decide +kernel
theorem dL_law_452 : decode cL_law 452 = .ok (.iaload, 1) := by decide +kernel
theorem dL_law_453 : decode cL_law 453 = .ok (.invokevirtual 49, 3) := by decide +kernel
theorem dL_law_456 : decode cL_law 456 = .ok (.aload_n 2, 1) := by decide +kernel
theorem dL_law_457 : decode cL_law 457 = .ok (.aload_n 0, 1) := by decide +kernel
theorem dL_law_458 : decode cL_law 458 = .ok (.iload 4, 2) := by decide +kernel
theorem dL_law_460 : decode cL_law 460 = .ok (.iconst 1, 1) := by decide +kernel
theorem dL_law_461 : decode cL_law 461 = .ok (.iadd, 1) := by decide +kernel
theorem dL_law_462 : decode cL_law 462 = .ok (.iaload, 1) := by decide +kernel
theorem dL_law_463 : decode cL_law 463 = .ok (.aload_n 0, 1) := by decide +kernel
theorem dL_law_464 : decode cL_law 464 = .ok (.iload 4, 2) := by decide +kernel
theorem dL_law_466 : decode cL_law 466 = .ok (.iconst 2, 1) := by decide +kernel
theorem dL_law_467 : decode cL_law 467 = .ok (.iadd, 1) := by decide +kernel
theorem dL_law_468 : decode cL_law 468 = .ok (.iaload, 1) := by decide +kernel
theorem dL_law_469 : decode cL_law 469 = .ok (.invokevirtual 52, 3) := by decide +kernel
theorem dL_law_472 : decode cL_law 472 = .ok (.if_icmp .eq 1178, 3) := by decide +kernel
theorem dL_law_475 : decode cL_law 475 = .ok (.iconst 0, 1) := by decide +kernel
theorem dL_law_476 : decode cL_law 476 = .ok (.ireturn, 1) := by decide +kernel
theorem dL_law_477 : decode cL_law 477 = .ok (.aload_n 1, 1) := by decide +kernel
theorem dL_law_478 : decode cL_law 478 = .ok (.aload_n 0, 1) := by decide +kernel
theorem dL_law_479 : decode cL_law 479 = .ok (.iload 4, 2) := by decide +kernel
theorem dL_law_481 : decode cL_law 481 = .ok (.iconst 1, 1) := by decide +kernel
theorem dL_law_482 : decode cL_law 482 = .ok (.iadd, 1) := by decide +kernel
theorem dL_law_483 : decode cL_law 483 = .ok (.iaload, 1) := by decide +kernel
theorem dL_law_484 : decode cL_law 484 = .ok (.aload_n 0, 1) := by decide +kernel
theorem dL_law_485 : decode cL_law 485 = .ok (.iload 4, 2) := by decide +kernel
theorem dL_law_487 : decode cL_law 487 = .ok (.iconst 2, 1) := by decide +kernel
theorem dL_law_488 : decode cL_law 488 = .ok (.iadd, 1) := by decide +kernel
theorem dL_law_489 : decode cL_law 489 = .ok (.iaload, 1) := by decide +kernel
theorem dL_law_490 : decode cL_law 490 = .ok (.invokevirtual 53, 3) := by decide +kernel
theorem dL_law_493 : decode cL_law 493 = .ok (.aload_n 2, 1) := by decide +kernel
theorem dL_law_494 : decode cL_law 494 = .ok (.aload_n 0, 1) := by decide +kernel
theorem dL_law_495 : decode cL_law 495 = .ok (.iload 4, 2) := by decide +kernel
theorem dL_law_497 : decode cL_law 497 = .ok (.iconst 1, 1) := by decide +kernel
theorem dL_law_498 : decode cL_law 498 = .ok (.iadd, 1) := by decide +kernel
theorem dL_law_499 : decode cL_law 499 = .ok (.iaload, 1) := by decide +kernel
theorem dL_law_500 : decode cL_law 500 = .ok (.aload_n 0, 1) := by decide +kernel
theorem dL_law_501 : decode cL_law 501 = .ok (.iload 4, 2) := by decide +kernel
theorem dL_law_503 : decode cL_law 503 = .ok (.iconst 2, 1) := by decide +kernel
theorem dL_law_504 : decode cL_law 504 = .ok (.iadd, 1) := by decide +kernel
theorem dL_law_505 : decode cL_law 505 = .ok (.iaload, 1) := by decide +kernel
theorem dL_law_506 : decode cL_law 506 = .ok (.invokevirtual 56, 3) := by decide +kernel
theorem dL_law_509 : decode cL_law 509 = .ok (.if_icmp .eq 1141, 3) := by decide +kernel
theorem dL_law_512 : decode cL_law 512 = .ok (.iconst 0, 1) := by decide +kernel
theorem dL_law_513 : decode cL_law 513 = .ok (.ireturn, 1) := by decide +kernel
theorem dL_law_514 : decode cL_law 514 = .ok (.aload_n 1, 1) := by decide +kernel
theorem dL_law_515 : decode cL_law 515 = .ok (.aload_n 0, 1) := by decide +kernel
theorem dL_law_516 : decode cL_law 516 = .ok (.iload 4, 2) := by decide +kernel
theorem dL_law_518 : decode cL_law 518 = .ok (.iconst 1, 1) := by decide +kernel
theorem dL_law_519 : decode cL_law 519 = .ok (.iadd, 1) := by decide +kernel
theorem dL_law_520 : decode cL_law 520 = .ok (.iaload, 1) := by decide +kernel
theorem dL_law_521 : decode cL_law 521 = .ok (.aload_n 0, 1) := by decide +kernel
theorem dL_law_522 : decode cL_law 522 = .ok (.iload 4, 2) := by decide +kernel
theorem dL_law_524 : decode cL_law 524 = .ok (.iconst 2, 1) := by decide +kernel
theorem dL_law_525 : decode cL_law 525 = .ok (.iadd, 1) := by decide +kernel
theorem dL_law_526 : decode cL_law 526 = .ok (.iaload, 1) := by decide +kernel
theorem dL_law_527 : decode cL_law 527 = .ok (.aload_n 0, 1) := by decide +kernel
theorem dL_law_528 : decode cL_law 528 = .ok (.iload 4, 2) := by decide +kernel
theorem dL_law_530 : decode cL_law 530 = .ok (.iconst 3, 1) := by decide +kernel
theorem dL_law_531 : decode cL_law 531 = .ok (.iadd, 1) := by decide +kernel
theorem dL_law_532 : decode cL_law 532 = .ok (.iaload, 1) := by decide +kernel
theorem dL_law_533 : decode cL_law 533 = .ok (.invokevirtual 57, 3) := by decide +kernel
theorem dL_law_536 : decode cL_law 536 = .ok (.aload_n 2, 1) := by decide +kernel
theorem dL_law_537 : decode cL_law 537 = .ok (.aload_n 0, 1) := by decide +kernel
theorem dL_law_538 : decode cL_law 538 = .ok (.iload 4, 2) := by decide +kernel
theorem dL_law_540 : decode cL_law 540 = .ok (.iconst 1, 1) := by decide +kernel
theorem dL_law_541 : decode cL_law 541 = .ok (.iadd, 1) := by decide +kernel
theorem dL_law_542 : decode cL_law 542 = .ok (.iaload, 1) := by decide +kernel
theorem dL_law_543 : decode cL_law 543 = .ok (.aload_n 0, 1) := by decide +kernel
theorem dL_law_544 : decode cL_law 544 = .ok (.iload 4, 2) := by decide +kernel
theorem dL_law_546 : decode cL_law 546 = .ok (.iconst 2, 1) := by decide +kernel
theorem dL_law_547 : decode cL_law 547 = .ok (.iadd, 1) := by decide +kernel
theorem dL_law_548 : decode cL_law 548 = .ok (.iaload, 1) := by decide +kernel
theorem dL_law_549 : decode cL_law 549 = .ok (.aload_n 0, 1) := by decide +kernel
theorem dL_law_550 : decode cL_law 550 = .ok (.iload 4, 2) := by decide +kernel
theorem dL_law_552 : decode cL_law 552 = .ok (.iconst 3, 1) := by decide +kernel
theorem dL_law_553 : decode cL_law 553 = .ok (.iadd, 1) := by decide +kernel
theorem dL_law_554 : decode cL_law 554 = .ok (.iaload, 1) := by decide +kernel
theorem dL_law_555 : decode cL_law 555 = .ok (.invokevirtual 61, 3) := by decide +kernel
theorem dL_law_558 : decode cL_law 558 = .ok (.lcmp, 1) := by decide +kernel
theorem dL_law_559 : decode cL_law 559 = .ok (.ifCond .eq 1091, 3) := by decide +kernel
theorem dL_law_562 : decode cL_law 562 = .ok (.iconst 0, 1) := by decide +kernel
theorem dL_law_563 : decode cL_law 563 = .ok (.ireturn, 1) := by decide +kernel
theorem dL_law_564 : decode cL_law 564 = .ok (.aload_n 1, 1) := by decide +kernel
theorem dL_law_565 : decode cL_law 565 = .ok (.aload_n 0, 1) := by decide +kernel
theorem dL_law_566 : decode cL_law 566 = .ok (.iload 4, 2) := by decide +kernel
theorem dL_law_568 : decode cL_law 568 = .ok (.iconst 1, 1) := by decide +kernel
theorem dL_law_569 : decode cL_law 569 = .ok (.iadd, 1) := by decide +kernel
theorem dL_law_570 : decode cL_law 570 = .ok (.iaload, 1) := by decide +kernel
theorem dL_law_571 : decode cL_law 571 = .ok (.aload_n 0, 1) := by decide +kernel
theorem dL_law_572 : decode cL_law 572 = .ok (.iload 4, 2) := by decide +kernel
theorem dL_law_574 : decode cL_law 574 = .ok (.iconst 2, 1) := by decide +kernel
theorem dL_law_575 : decode cL_law 575 = .ok (.iadd, 1) := by decide +kernel
theorem dL_law_576 : decode cL_law 576 = .ok (.iaload, 1) := by decide +kernel
theorem dL_law_577 : decode cL_law 577 = .ok (.invokevirtual 62, 3) := by decide +kernel
theorem dL_law_580 : decode cL_law 580 = .ok (.aload_n 2, 1) := by decide +kernel
theorem dL_law_581 : decode cL_law 581 = .ok (.aload_n 0, 1) := by decide +kernel
theorem dL_law_582 : decode cL_law 582 = .ok (.iload 4, 2) := by decide +kernel
theorem dL_law_584 : decode cL_law 584 = .ok (.iconst 1, 1) := by decide +kernel
theorem dL_law_585 : decode cL_law 585 = .ok (.iadd, 1) := by decide +kernel
theorem dL_law_586 : decode cL_law 586 = .ok (.iaload, 1) := by decide +kernel
theorem dL_law_587 : decode cL_law 587 = .ok (.aload_n 0, 1) := by decide +kernel
theorem dL_law_588 : decode cL_law 588 = .ok (.iload 4, 2) := by decide +kernel
theorem dL_law_590 : decode cL_law 590 = .ok (.iconst 2, 1) := by decide +kernel
theorem dL_law_591 : decode cL_law 591 = .ok (.iadd, 1) := by decide +kernel
theorem dL_law_592 : decode cL_law 592 = .ok (.iaload, 1) := by decide +kernel
theorem dL_law_593 : decode cL_law 593 = .ok (.invokevirtual 66, 3) := by decide +kernel
theorem dL_law_596 : decode cL_law 596 = .ok (.if_icmp .eq 1054, 3) := by decide +kernel
theorem dL_law_599 : decode cL_law 599 = .ok (.iconst 0, 1) := by decide +kernel
theorem dL_law_600 : decode cL_law 600 = .ok (.ireturn, 1) := by decide +kernel
theorem dL_law_601 : decode cL_law 601 = .ok (.aload_n 1, 1) := by decide +kernel
theorem dL_law_602 : decode cL_law 602 = .ok (.aload_n 0, 1) := by decide +kernel
theorem dL_law_603 : decode cL_law 603 = .ok (.iload 4, 2) := by decide +kernel
theorem dL_law_605 : decode cL_law 605 = .ok (.iconst 1, 1) := by decide +kernel
theorem dL_law_606 : decode cL_law 606 = .ok (.iadd, 1) := by decide +kernel
theorem dL_law_607 : decode cL_law 607 = .ok (.iaload, 1) := by decide +kernel
theorem dL_law_608 : decode cL_law 608 = .ok (.aload_n 0, 1) := by decide +kernel
theorem dL_law_609 : decode cL_law 609 = .ok (.iload 4, 2) := by decide +kernel
theorem dL_law_611 : decode cL_law 611 = .ok (.iconst 2, 1) := by decide +kernel
theorem dL_law_612 : decode cL_law 612 = .ok (.iadd, 1) := by decide +kernel
theorem dL_law_613 : decode cL_law 613 = .ok (.iaload, 1) := by decide +kernel
theorem dL_law_614 : decode cL_law 614 = .ok (.invokevirtual 67, 3) := by decide +kernel
theorem dL_law_617 : decode cL_law 617 = .ok (.aload_n 2, 1) := by decide +kernel
theorem dL_law_618 : decode cL_law 618 = .ok (.aload_n 0, 1) := by decide +kernel
theorem dL_law_619 : decode cL_law 619 = .ok (.iload 4, 2) := by decide +kernel
theorem dL_law_621 : decode cL_law 621 = .ok (.iconst 1, 1) := by decide +kernel
theorem dL_law_622 : decode cL_law 622 = .ok (.iadd, 1) := by decide +kernel
theorem dL_law_623 : decode cL_law 623 = .ok (.iaload, 1) := by decide +kernel
theorem dL_law_624 : decode cL_law 624 = .ok (.aload_n 0, 1) := by decide +kernel
theorem dL_law_625 : decode cL_law 625 = .ok (.iload 4, 2) := by decide +kernel
theorem dL_law_627 : decode cL_law 627 = .ok (.iconst 2, 1) := by decide +kernel
theorem dL_law_628 : decode cL_law 628 = .ok (.iadd, 1) := by decide +kernel
theorem dL_law_629 : decode cL_law 629 = .ok (.iaload, 1) := by decide +kernel
theorem dL_law_630 : decode cL_law 630 = .ok (.invokevirtual 70, 3) := by decide +kernel
theorem dL_law_633 : decode cL_law 633 = .ok (.if_icmp .eq 1017, 3) := by decide +kernel
theorem dL_law_636 : decode cL_law 636 = .ok (.iconst 0, 1) := by decide +kernel
theorem dL_law_637 : decode cL_law 637 = .ok (.ireturn, 1) := by decide +kernel
theorem dL_law_638 : decode cL_law 638 = .ok (.aload_n 1, 1) := by decide +kernel
theorem dL_law_639 : decode cL_law 639 = .ok (.aload_n 0, 1) := by decide +kernel
theorem dL_law_640 : decode cL_law 640 = .ok (.iload 4, 2) := by decide +kernel
theorem dL_law_642 : decode cL_law 642 = .ok (.iconst 1, 1) := by decide +kernel
theorem dL_law_643 : decode cL_law 643 = .ok (.iadd, 1) := by decide +kernel
theorem dL_law_644 : decode cL_law 644 = .ok (.iaload, 1) := by decide +kernel
theorem dL_law_645 : decode cL_law 645 = .ok (.invokevirtual 71, 3) := by decide +kernel
theorem dL_law_648 : decode cL_law 648 = .ok (.aload_n 2, 1) := by decide +kernel
theorem dL_law_649 : decode cL_law 649 = .ok (.aload_n 0, 1) := by decide +kernel
theorem dL_law_650 : decode cL_law 650 = .ok (.iload 4, 2) := by decide +kernel
theorem dL_law_652 : decode cL_law 652 = .ok (.iconst 1, 1) := by decide +kernel
theorem dL_law_653 : decode cL_law 653 = .ok (.iadd, 1) := by decide +kernel
theorem dL_law_654 : decode cL_law 654 = .ok (.iaload, 1) := by decide +kernel
theorem dL_law_655 : decode cL_law 655 = .ok (.invokevirtual 74, 3) := by decide +kernel
theorem dL_law_658 : decode cL_law 658 = .ok (.if_icmp .eq 992, 3) := by decide +kernel
theorem dL_law_661 : decode cL_law 661 = .ok (.iconst 0, 1) := by decide +kernel
theorem dL_law_662 : decode cL_law 662 = .ok (.ireturn, 1) := by decide +kernel
theorem dL_law_663 : decode cL_law 663 = .ok (.aload_n 1, 1) := by decide +kernel
theorem dL_law_664 : decode cL_law 664 = .ok (.aload_n 0, 1) := by decide +kernel
theorem dL_law_665 : decode cL_law 665 = .ok (.iload 4, 2) := by decide +kernel
theorem dL_law_667 : decode cL_law 667 = .ok (.iconst 1, 1) := by decide +kernel
theorem dL_law_668 : decode cL_law 668 = .ok (.iadd, 1) := by decide +kernel
theorem dL_law_669 : decode cL_law 669 = .ok (.iaload, 1) := by decide +kernel
theorem dL_law_670 : decode cL_law 670 = .ok (.invokevirtual 75, 3) := by decide +kernel
theorem dL_law_673 : decode cL_law 673 = .ok (.aload_n 2, 1) := by decide +kernel
theorem dL_law_674 : decode cL_law 674 = .ok (.aload_n 0, 1) := by decide +kernel
theorem dL_law_675 : decode cL_law 675 = .ok (.iload 4, 2) := by decide +kernel
theorem dL_law_677 : decode cL_law 677 = .ok (.iconst 1, 1) := by decide +kernel
theorem dL_law_678 : decode cL_law 678 = .ok (.iadd, 1) := by decide +kernel
theorem dL_law_679 : decode cL_law 679 = .ok (.iaload, 1) := by decide +kernel
theorem dL_law_680 : decode cL_law 680 = .ok (.invokevirtual 78, 3) := by decide +kernel
theorem dL_law_683 : decode cL_law 683 = .ok (.if_icmp .eq 967, 3) := by decide +kernel
theorem dL_law_686 : decode cL_law 686 = .ok (.iconst 0, 1) := by decide +kernel
theorem dL_law_687 : decode cL_law 687 = .ok (.ireturn, 1) := by decide +kernel
theorem dL_law_688 : decode cL_law 688 = .ok (.aload_n 1, 1) := by decide +kernel
theorem dL_law_689 : decode cL_law 689 = .ok (.aload_n 0, 1) := by decide +kernel
theorem dL_law_690 : decode cL_law 690 = .ok (.iload 4, 2) := by decide +kernel
theorem dL_law_692 : decode cL_law 692 = .ok (.iconst 1, 1) := by decide +kernel
theorem dL_law_693 : decode cL_law 693 = .ok (.iadd, 1) := by decide +kernel
theorem dL_law_694 : decode cL_law 694 = .ok (.iaload, 1) := by decide +kernel
theorem dL_law_695 : decode cL_law 695 = .ok (.aload_n 0, 1) := by decide +kernel
theorem dL_law_696 : decode cL_law 696 = .ok (.iload 4, 2) := by decide +kernel
theorem dL_law_698 : decode cL_law 698 = .ok (.iconst 2, 1) := by decide +kernel
theorem dL_law_699 : decode cL_law 699 = .ok (.iadd, 1) := by decide +kernel
theorem dL_law_700 : decode cL_law 700 = .ok (.iaload, 1) := by decide +kernel
theorem dL_law_701 : decode cL_law 701 = .ok (.aload_n 0, 1) := by decide +kernel
theorem dL_law_702 : decode cL_law 702 = .ok (.iload 4, 2) := by decide +kernel
theorem dL_law_704 : decode cL_law 704 = .ok (.iconst 3, 1) := by decide +kernel
theorem dL_law_705 : decode cL_law 705 = .ok (.iadd, 1) := by decide +kernel
theorem dL_law_706 : decode cL_law 706 = .ok (.iaload, 1) := by decide +kernel
theorem dL_law_707 : decode cL_law 707 = .ok (.invokevirtual 79, 3) := by decide +kernel
theorem dL_law_710 : decode cL_law 710 = .ok (.aload_n 2, 1) := by decide +kernel
theorem dL_law_711 : decode cL_law 711 = .ok (.aload_n 0, 1) := by decide +kernel
theorem dL_law_712 : decode cL_law 712 = .ok (.iload 4, 2) := by decide +kernel
theorem dL_law_714 : decode cL_law 714 = .ok (.iconst 1, 1) := by decide +kernel
theorem dL_law_715 : decode cL_law 715 = .ok (.iadd, 1) := by decide +kernel
theorem dL_law_716 : decode cL_law 716 = .ok (.iaload, 1) := by decide +kernel
theorem dL_law_717 : decode cL_law 717 = .ok (.aload_n 0, 1) := by decide +kernel
theorem dL_law_718 : decode cL_law 718 = .ok (.iload 4, 2) := by decide +kernel
theorem dL_law_720 : decode cL_law 720 = .ok (.iconst 2, 1) := by decide +kernel
theorem dL_law_721 : decode cL_law 721 = .ok (.iadd, 1) := by decide +kernel
theorem dL_law_722 : decode cL_law 722 = .ok (.iaload, 1) := by decide +kernel
theorem dL_law_723 : decode cL_law 723 = .ok (.aload_n 0, 1) := by decide +kernel
theorem dL_law_724 : decode cL_law 724 = .ok (.iload 4, 2) := by decide +kernel
theorem dL_law_726 : decode cL_law 726 = .ok (.iconst 3, 1) := by decide +kernel
theorem dL_law_727 : decode cL_law 727 = .ok (.iadd, 1) := by decide +kernel
theorem dL_law_728 : decode cL_law 728 = .ok (.iaload, 1) := by decide +kernel
theorem dL_law_729 : decode cL_law 729 = .ok (.invokevirtual 83, 3) := by decide +kernel
theorem dL_law_732 : decode cL_law 732 = .ok (.if_icmp .eq 918, 3) := by decide +kernel
theorem dL_law_735 : decode cL_law 735 = .ok (.iconst 0, 1) := by decide +kernel
theorem dL_law_736 : decode cL_law 736 = .ok (.ireturn, 1) := by decide +kernel
theorem dL_law_737 : decode cL_law 737 = .ok (.aload_n 1, 1) := by decide +kernel
theorem dL_law_738 : decode cL_law 738 = .ok (.aload_n 0, 1) := by decide +kernel
theorem dL_law_739 : decode cL_law 739 = .ok (.iload 4, 2) := by decide +kernel
theorem dL_law_741 : decode cL_law 741 = .ok (.iconst 1, 1) := by decide +kernel
theorem dL_law_742 : decode cL_law 742 = .ok (.iadd, 1) := by decide +kernel
theorem dL_law_743 : decode cL_law 743 = .ok (.iaload, 1) := by decide +kernel
theorem dL_law_744 : decode cL_law 744 = .ok (.invokevirtual 84, 3) := by decide +kernel
theorem dL_law_747 : decode cL_law 747 = .ok (.aload_n 2, 1) := by decide +kernel
theorem dL_law_748 : decode cL_law 748 = .ok (.aload_n 0, 1) := by decide +kernel
theorem dL_law_749 : decode cL_law 749 = .ok (.iload 4, 2) := by decide +kernel
theorem dL_law_751 : decode cL_law 751 = .ok (.iconst 1, 1) := by decide +kernel
theorem dL_law_752 : decode cL_law 752 = .ok (.iadd, 1) := by decide +kernel
theorem dL_law_753 : decode cL_law 753 = .ok (.iaload, 1) := by decide +kernel
theorem dL_law_754 : decode cL_law 754 = .ok (.invokevirtual 87, 3) := by decide +kernel
theorem dL_law_757 : decode cL_law 757 = .ok (.if_icmp .eq 893, 3) := by decide +kernel
theorem dL_law_760 : decode cL_law 760 = .ok (.iconst 0, 1) := by decide +kernel
theorem dL_law_761 : decode cL_law 761 = .ok (.ireturn, 1) := by decide +kernel
theorem dL_law_762 : decode cL_law 762 = .ok (.aload_n 1, 1) := by decide +kernel
theorem dL_law_763 : decode cL_law 763 = .ok (.aload_n 0, 1) := by decide +kernel
theorem dL_law_764 : decode cL_law 764 = .ok (.iload 4, 2) := by decide +kernel
theorem dL_law_766 : decode cL_law 766 = .ok (.iconst 1, 1) := by decide +kernel
theorem dL_law_767 : decode cL_law 767 = .ok (.iadd, 1) := by decide +kernel
theorem dL_law_768 : decode cL_law 768 = .ok (.iaload, 1) := by decide +kernel
theorem dL_law_769 : decode cL_law 769 = .ok (.aload_n 0, 1) := by decide +kernel
theorem dL_law_770 : decode cL_law 770 = .ok (.iload 4, 2) := by decide +kernel
theorem dL_law_772 : decode cL_law 772 = .ok (.iconst 2, 1) := by decide +kernel
theorem dL_law_773 : decode cL_law 773 = .ok (.iadd, 1) := by decide +kernel
theorem dL_law_774 : decode cL_law 774 = .ok (.iaload, 1) := by decide +kernel
theorem dL_law_775 : decode cL_law 775 = .ok (.aload_n 0, 1) := by decide +kernel
theorem dL_law_776 : decode cL_law 776 = .ok (.iload 4, 2) := by decide +kernel
theorem dL_law_778 : decode cL_law 778 = .ok (.iconst 3, 1) := by decide +kernel
theorem dL_law_779 : decode cL_law 779 = .ok (.iadd, 1) := by decide +kernel
theorem dL_law_780 : decode cL_law 780 = .ok (.iaload, 1) := by decide +kernel
theorem dL_law_781 : decode cL_law 781 = .ok (.invokevirtual 88, 3) := by decide +kernel
theorem dL_law_784 : decode cL_law 784 = .ok (.aload_n 2, 1) := by decide +kernel
theorem dL_law_785 : decode cL_law 785 = .ok (.aload_n 0, 1) := by decide +kernel
theorem dL_law_786 : decode cL_law 786 = .ok (.iload 4, 2) := by decide +kernel
theorem dL_law_788 : decode cL_law 788 = .ok (.iconst 1, 1) := by decide +kernel
theorem dL_law_789 : decode cL_law 789 = .ok (.iadd, 1) := by decide +kernel
theorem dL_law_790 : decode cL_law 790 = .ok (.iaload, 1) := by decide +kernel
theorem dL_law_791 : decode cL_law 791 = .ok (.aload_n 0, 1) := by decide +kernel
theorem dL_law_792 : decode cL_law 792 = .ok (.iload 4, 2) := by decide +kernel
theorem dL_law_794 : decode cL_law 794 = .ok (.iconst 2, 1) := by decide +kernel
theorem dL_law_795 : decode cL_law 795 = .ok (.iadd, 1) := by decide +kernel
theorem dL_law_796 : decode cL_law 796 = .ok (.iaload, 1) := by decide +kernel
theorem dL_law_797 : decode cL_law 797 = .ok (.aload_n 0, 1) := by decide +kernel
theorem dL_law_798 : decode cL_law 798 = .ok (.iload 4, 2) := by decide +kernel
theorem dL_law_800 : decode cL_law 800 = .ok (.iconst 3, 1) := by decide +kernel
theorem dL_law_801 : decode cL_law 801 = .ok (.iadd, 1) := by decide +kernel
theorem dL_law_802 : decode cL_law 802 = .ok (.iaload, 1) := by decide +kernel
theorem dL_law_803 : decode cL_law 803 = .ok (.invokevirtual 91, 3) := by decide +kernel
theorem dL_law_806 : decode cL_law 806 = .ok (.if_icmp .eq 844, 3) := by decide +kernel
theorem dL_law_809 : decode cL_law 809 = .ok (.iconst 0, 1) := by decide +kernel
theorem dL_law_810 : decode cL_law 810 = .ok (.ireturn, 1) := by decide +kernel
theorem dL_law_811 : decode cL_law 811 = .ok (.aload_n 1, 1) := by decide +kernel
theorem dL_law_812 : decode cL_law 812 = .ok (.aload_n 0, 1) := by decide +kernel
theorem dL_law_813 : decode cL_law 813 = .ok (.iload 4, 2) := by decide +kernel
theorem dL_law_815 : decode cL_law 815 = .ok (.iconst 1, 1) := by decide +kernel
theorem dL_law_816 : decode cL_law 816 = .ok (.iadd, 1) := by decide +kernel
theorem dL_law_817 : decode cL_law 817 = .ok (.iaload, 1) := by decide +kernel
theorem dL_law_818 : decode cL_law 818 = .ok (.invokevirtual 92, 3) := by decide +kernel
theorem dL_law_821 : decode cL_law 821 = .ok (.aload_n 2, 1) := by decide +kernel
theorem dL_law_822 : decode cL_law 822 = .ok (.aload_n 0, 1) := by decide +kernel
theorem dL_law_823 : decode cL_law 823 = .ok (.iload 4, 2) := by decide +kernel
theorem dL_law_825 : decode cL_law 825 = .ok (.iconst 1, 1) := by decide +kernel
theorem dL_law_826 : decode cL_law 826 = .ok (.iadd, 1) := by decide +kernel
theorem dL_law_827 : decode cL_law 827 = .ok (.iaload, 1) := by decide +kernel
theorem dL_law_828 : decode cL_law 828 = .ok (.invokevirtual 95, 3) := by decide +kernel
theorem dL_law_831 : decode cL_law 831 = .ok (.if_icmp .eq 819, 3) := by decide +kernel
theorem dL_law_834 : decode cL_law 834 = .ok (.iconst 0, 1) := by decide +kernel
theorem dL_law_835 : decode cL_law 835 = .ok (.ireturn, 1) := by decide +kernel
theorem dL_law_836 : decode cL_law 836 = .ok (.aload_n 1, 1) := by decide +kernel
theorem dL_law_837 : decode cL_law 837 = .ok (.invokevirtual 96, 3) := by decide +kernel
theorem dL_law_840 : decode cL_law 840 = .ok (.aload_n 2, 1) := by decide +kernel
theorem dL_law_841 : decode cL_law 841 = .ok (.invokevirtual 99, 3) := by decide +kernel
theorem dL_law_844 : decode cL_law 844 = .ok (.if_icmp .eq 806, 3) := by decide +kernel
theorem dL_law_847 : decode cL_law 847 = .ok (.iconst 0, 1) := by decide +kernel
theorem dL_law_848 : decode cL_law 848 = .ok (.ireturn, 1) := by decide +kernel
theorem dL_law_849 : decode cL_law 849 = .ok (.aload_n 1, 1) := by decide +kernel
theorem dL_law_850 : decode cL_law 850 = .ok (.aload_n 0, 1) := by decide +kernel
theorem dL_law_851 : decode cL_law 851 = .ok (.iload 4, 2) := by decide +kernel
theorem dL_law_853 : decode cL_law 853 = .ok (.iconst 1, 1) := by decide +kernel
theorem dL_law_854 : decode cL_law 854 = .ok (.iadd, 1) := by decide +kernel
theorem dL_law_855 : decode cL_law 855 = .ok (.iaload, 1) := by decide +kernel
theorem dL_law_856 : decode cL_law 856 = .ok (.invokevirtual 100, 3) := by decide +kernel
theorem dL_law_859 : decode cL_law 859 = .ok (.aload_n 2, 1) := by decide +kernel
theorem dL_law_860 : decode cL_law 860 = .ok (.aload_n 0, 1) := by decide +kernel
theorem dL_law_861 : decode cL_law 861 = .ok (.iload 4, 2) := by decide +kernel
theorem dL_law_863 : decode cL_law 863 = .ok (.iconst 1, 1) := by decide +kernel
theorem dL_law_864 : decode cL_law 864 = .ok (.iadd, 1) := by decide +kernel
theorem dL_law_865 : decode cL_law 865 = .ok (.iaload, 1) := by decide +kernel
theorem dL_law_866 : decode cL_law 866 = .ok (.invokevirtual 103, 3) := by decide +kernel
theorem dL_law_869 : decode cL_law 869 = .ok (.if_icmp .eq 781, 3) := by decide +kernel
theorem dL_law_872 : decode cL_law 872 = .ok (.iconst 0, 1) := by decide +kernel
theorem dL_law_873 : decode cL_law 873 = .ok (.ireturn, 1) := by decide +kernel
theorem dL_law_874 : decode cL_law 874 = .ok (.aload_n 1, 1) := by decide +kernel
theorem dL_law_875 : decode cL_law 875 = .ok (.aload_n 0, 1) := by decide +kernel
theorem dL_law_876 : decode cL_law 876 = .ok (.iload 4, 2) := by decide +kernel
theorem dL_law_878 : decode cL_law 878 = .ok (.iconst 1, 1) := by decide +kernel
theorem dL_law_879 : decode cL_law 879 = .ok (.iadd, 1) := by decide +kernel
theorem dL_law_880 : decode cL_law 880 = .ok (.iaload, 1) := by decide +kernel
theorem dL_law_881 : decode cL_law 881 = .ok (.aload_n 0, 1) := by decide +kernel
theorem dL_law_882 : decode cL_law 882 = .ok (.iload 4, 2) := by decide +kernel
theorem dL_law_884 : decode cL_law 884 = .ok (.iconst 2, 1) := by decide +kernel
theorem dL_law_885 : decode cL_law 885 = .ok (.iadd, 1) := by decide +kernel
theorem dL_law_886 : decode cL_law 886 = .ok (.iaload, 1) := by decide +kernel
theorem dL_law_887 : decode cL_law 887 = .ok (.invokevirtual 104, 3) := by decide +kernel
theorem dL_law_890 : decode cL_law 890 = .ok (.aload_n 2, 1) := by decide +kernel
theorem dL_law_891 : decode cL_law 891 = .ok (.aload_n 0, 1) := by decide +kernel
theorem dL_law_892 : decode cL_law 892 = .ok (.iload 4, 2) := by decide +kernel
theorem dL_law_894 : decode cL_law 894 = .ok (.iconst 1, 1) := by decide +kernel
theorem dL_law_895 : decode cL_law 895 = .ok (.iadd, 1) := by decide +kernel
theorem dL_law_896 : decode cL_law 896 = .ok (.iaload, 1) := by decide +kernel
theorem dL_law_897 : decode cL_law 897 = .ok (.aload_n 0, 1) := by decide +kernel
theorem dL_law_898 : decode cL_law 898 = .ok (.iload 4, 2) := by decide +kernel
theorem dL_law_900 : decode cL_law 900 = .ok (.iconst 2, 1) := by decide +kernel
theorem dL_law_901 : decode cL_law 901 = .ok (.iadd, 1) := by decide +kernel
theorem dL_law_902 : decode cL_law 902 = .ok (.iaload, 1) := by decide +kernel
theorem dL_law_903 : decode cL_law 903 = .ok (.invokevirtual 107, 3) := by decide +kernel
theorem dL_law_906 : decode cL_law 906 = .ok (.if_icmp .eq 744, 3) := by decide +kernel
theorem dL_law_909 : decode cL_law 909 = .ok (.iconst 0, 1) := by decide +kernel
theorem dL_law_910 : decode cL_law 910 = .ok (.ireturn, 1) := by decide +kernel
theorem dL_law_911 : decode cL_law 911 = .ok (.aload_n 1, 1) := by decide +kernel
theorem dL_law_912 : decode cL_law 912 = .ok (.aload_n 0, 1) := by decide +kernel
theorem dL_law_913 : decode cL_law 913 = .ok (.iload 4, 2) := by decide +kernel
theorem dL_law_915 : decode cL_law 915 = .ok (.iconst 1, 1) := by decide +kernel
theorem dL_law_916 : decode cL_law 916 = .ok (.iadd, 1) := by decide +kernel
theorem dL_law_917 : decode cL_law 917 = .ok (.iaload, 1) := by decide +kernel
theorem dL_law_918 : decode cL_law 918 = .ok (.aload_n 0, 1) := by decide +kernel
theorem dL_law_919 : decode cL_law 919 = .ok (.iload 4, 2) := by decide +kernel
theorem dL_law_921 : decode cL_law 921 = .ok (.iconst 2, 1) := by decide +kernel
theorem dL_law_922 : decode cL_law 922 = .ok (.iadd, 1) := by decide +kernel
theorem dL_law_923 : decode cL_law 923 = .ok (.iaload, 1) := by decide +kernel
theorem dL_law_924 : decode cL_law 924 = .ok (.aload_n 0, 1) := by decide +kernel
theorem dL_law_925 : decode cL_law 925 = .ok (.iload 4, 2) := by decide +kernel
theorem dL_law_927 : decode cL_law 927 = .ok (.iconst 3, 1) := by decide +kernel
theorem dL_law_928 : decode cL_law 928 = .ok (.iadd, 1) := by decide +kernel
theorem dL_law_929 : decode cL_law 929 = .ok (.iaload, 1) := by decide +kernel
theorem dL_law_930 : decode cL_law 930 = .ok (.invokevirtual 108, 3) := by decide +kernel
theorem dL_law_933 : decode cL_law 933 = .ok (.aload_n 2, 1) := by decide +kernel
theorem dL_law_934 : decode cL_law 934 = .ok (.aload_n 0, 1) := by decide +kernel
theorem dL_law_935 : decode cL_law 935 = .ok (.iload 4, 2) := by decide +kernel
theorem dL_law_937 : decode cL_law 937 = .ok (.iconst 1, 1) := by decide +kernel
theorem dL_law_938 : decode cL_law 938 = .ok (.iadd, 1) := by decide +kernel
theorem dL_law_939 : decode cL_law 939 = .ok (.iaload, 1) := by decide +kernel
theorem dL_law_940 : decode cL_law 940 = .ok (.aload_n 0, 1) := by decide +kernel
theorem dL_law_941 : decode cL_law 941 = .ok (.iload 4, 2) := by decide +kernel
theorem dL_law_943 : decode cL_law 943 = .ok (.iconst 2, 1) := by decide +kernel
theorem dL_law_944 : decode cL_law 944 = .ok (.iadd, 1) := by decide +kernel
theorem dL_law_945 : decode cL_law 945 = .ok (.iaload, 1) := by decide +kernel
theorem dL_law_946 : decode cL_law 946 = .ok (.aload_n 0, 1) := by decide +kernel
theorem dL_law_947 : decode cL_law 947 = .ok (.iload 4, 2) := by decide +kernel
theorem dL_law_949 : decode cL_law 949 = .ok (.iconst 3, 1) := by decide +kernel
theorem dL_law_950 : decode cL_law 950 = .ok (.iadd, 1) := by decide +kernel
theorem dL_law_951 : decode cL_law 951 = .ok (.iaload, 1) := by decide +kernel
theorem dL_law_952 : decode cL_law 952 = .ok (.invokevirtual 111, 3) := by decide +kernel
theorem dL_law_955 : decode cL_law 955 = .ok (.if_icmp .eq 695, 3) := by decide +kernel
theorem dL_law_958 : decode cL_law 958 = .ok (.iconst 0, 1) := by decide +kernel
theorem dL_law_959 : decode cL_law 959 = .ok (.ireturn, 1) := by decide +kernel
theorem dL_law_960 : decode cL_law 960 = .ok (.aload_n 1, 1) := by decide +kernel
theorem dL_law_961 : decode cL_law 961 = .ok (.invokevirtual 112, 3) := by decide +kernel
theorem dL_law_964 : decode cL_law 964 = .ok (.aload_n 2, 1) := by decide +kernel
theorem dL_law_965 : decode cL_law 965 = .ok (.invokevirtual 115, 3) := by decide +kernel
theorem dL_law_968 : decode cL_law 968 = .ok (.if_icmp .eq 682, 3) := by decide +kernel
theorem dL_law_971 : decode cL_law 971 = .ok (.iconst 0, 1) := by decide +kernel
theorem dL_law_972 : decode cL_law 972 = .ok (.ireturn, 1) := by decide +kernel
theorem dL_law_973 : decode cL_law 973 = .ok (.aload_n 1, 1) := by decide +kernel
theorem dL_law_974 : decode cL_law 974 = .ok (.aload_n 0, 1) := by decide +kernel
theorem dL_law_975 : decode cL_law 975 = .ok (.iload 4, 2) := by decide +kernel
theorem dL_law_977 : decode cL_law 977 = .ok (.iconst 1, 1) := by decide +kernel
theorem dL_law_978 : decode cL_law 978 = .ok (.iadd, 1) := by decide +kernel
theorem dL_law_979 : decode cL_law 979 = .ok (.iaload, 1) := by decide +kernel
theorem dL_law_980 : decode cL_law 980 = .ok (.aload_n 0, 1) := by decide +kernel
theorem dL_law_981 : decode cL_law 981 = .ok (.iload 4, 2) := by decide +kernel
theorem dL_law_983 : decode cL_law 983 = .ok (.iconst 2, 1) := by decide +kernel
theorem dL_law_984 : decode cL_law 984 = .ok (.iadd, 1) := by decide +kernel
theorem dL_law_985 : decode cL_law 985 = .ok (.iaload, 1) := by decide +kernel
theorem dL_law_986 : decode cL_law 986 = .ok (.invokevirtual 116, 3) := by decide +kernel
theorem dL_law_989 : decode cL_law 989 = .ok (.aload_n 2, 1) := by decide +kernel
theorem dL_law_990 : decode cL_law 990 = .ok (.aload_n 0, 1) := by decide +kernel
theorem dL_law_991 : decode cL_law 991 = .ok (.iload 4, 2) := by decide +kernel
theorem dL_law_993 : decode cL_law 993 = .ok (.iconst 1, 1) := by decide +kernel
theorem dL_law_994 : decode cL_law 994 = .ok (.iadd, 1) := by decide +kernel
theorem dL_law_995 : decode cL_law 995 = .ok (.iaload, 1) := by decide +kernel
theorem dL_law_996 : decode cL_law 996 = .ok (.aload_n 0, 1) := by decide +kernel
theorem dL_law_997 : decode cL_law 997 = .ok (.iload 4, 2) := by decide +kernel
theorem dL_law_999 : decode cL_law 999 = .ok (.iconst 2, 1) := by decide +kernel
theorem dL_law_1000 : decode cL_law 1000 = .ok (.iadd, 1) := by decide +kernel
theorem dL_law_1001 : decode cL_law 1001 = .ok (.iaload, 1) := by decide +kernel
theorem dL_law_1002 : decode cL_law 1002 = .ok (.invokevirtual 119, 3) := by decide +kernel
theorem dL_law_1005 : decode cL_law 1005 = .ok (.if_icmp .eq 645, 3) := by decide +kernel
theorem dL_law_1008 : decode cL_law 1008 = .ok (.iconst 0, 1) := by decide +kernel
theorem dL_law_1009 : decode cL_law 1009 = .ok (.ireturn, 1) := by decide +kernel
theorem dL_law_1010 : decode cL_law 1010 = .ok (.aload_n 1, 1) := by decide +kernel
theorem dL_law_1011 : decode cL_law 1011 = .ok (.aload_n 0, 1) := by decide +kernel
theorem dL_law_1012 : decode cL_law 1012 = .ok (.iload 4, 2) := by decide +kernel
theorem dL_law_1014 : decode cL_law 1014 = .ok (.iconst 1, 1) := by decide +kernel
theorem dL_law_1015 : decode cL_law 1015 = .ok (.iadd, 1) := by decide +kernel
theorem dL_law_1016 : decode cL_law 1016 = .ok (.iaload, 1) := by decide +kernel
theorem dL_law_1017 : decode cL_law 1017 = .ok (.invokevirtual 120, 3) := by decide +kernel
theorem dL_law_1020 : decode cL_law 1020 = .ok (.aload_n 2, 1) := by decide +kernel
theorem dL_law_1021 : decode cL_law 1021 = .ok (.aload_n 0, 1) := by decide +kernel
theorem dL_law_1022 : decode cL_law 1022 = .ok (.iload 4, 2) := by decide +kernel
theorem dL_law_1024 : decode cL_law 1024 = .ok (.iconst 1, 1) := by decide +kernel
theorem dL_law_1025 : decode cL_law 1025 = .ok (.iadd, 1) := by decide +kernel
theorem dL_law_1026 : decode cL_law 1026 = .ok (.iaload, 1) := by decide +kernel
theorem dL_law_1027 : decode cL_law 1027 = .ok (.invokevirtual 123, 3) := by decide +kernel
theorem dL_law_1030 : decode cL_law 1030 = .ok (.if_icmp .eq 620, 3) := by decide +kernel
theorem dL_law_1033 : decode cL_law 1033 = .ok (.iconst 0, 1) := by decide +kernel
theorem dL_law_1034 : decode cL_law 1034 = .ok (.ireturn, 1) := by decide +kernel
theorem dL_law_1035 : decode cL_law 1035 = .ok (.aload_n 1, 1) := by decide +kernel
theorem dL_law_1036 : decode cL_law 1036 = .ok (.aload_n 0, 1) := by decide +kernel
theorem dL_law_1037 : decode cL_law 1037 = .ok (.iload 4, 2) := by decide +kernel
theorem dL_law_1039 : decode cL_law 1039 = .ok (.iconst 1, 1) := by decide +kernel
theorem dL_law_1040 : decode cL_law 1040 = .ok (.iadd, 1) := by decide +kernel
theorem dL_law_1041 : decode cL_law 1041 = .ok (.iaload, 1) := by decide +kernel
theorem dL_law_1042 : decode cL_law 1042 = .ok (.aload_n 0, 1) := by decide +kernel
theorem dL_law_1043 : decode cL_law 1043 = .ok (.iload 4, 2) := by decide +kernel
theorem dL_law_1045 : decode cL_law 1045 = .ok (.iconst 2, 1) := by decide +kernel
theorem dL_law_1046 : decode cL_law 1046 = .ok (.iadd, 1) := by decide +kernel
theorem dL_law_1047 : decode cL_law 1047 = .ok (.iaload, 1) := by decide +kernel
theorem dL_law_1048 : decode cL_law 1048 = .ok (.invokevirtual 124, 3) := by decide +kernel
theorem dL_law_1051 : decode cL_law 1051 = .ok (.aload_n 2, 1) := by decide +kernel
theorem dL_law_1052 : decode cL_law 1052 = .ok (.aload_n 0, 1) := by decide +kernel
theorem dL_law_1053 : decode cL_law 1053 = .ok (.iload 4, 2) := by decide +kernel
theorem dL_law_1055 : decode cL_law 1055 = .ok (.iconst 1, 1) := by decide +kernel
theorem dL_law_1056 : decode cL_law 1056 = .ok (.iadd, 1) := by decide +kernel
theorem dL_law_1057 : decode cL_law 1057 = .ok (.iaload, 1) := by decide +kernel
theorem dL_law_1058 : decode cL_law 1058 = .ok (.aload_n 0, 1) := by decide +kernel
theorem dL_law_1059 : decode cL_law 1059 = .ok (.iload 4, 2) := by decide +kernel
theorem dL_law_1061 : decode cL_law 1061 = .ok (.iconst 2, 1) := by decide +kernel
theorem dL_law_1062 : decode cL_law 1062 = .ok (.iadd, 1) := by decide +kernel
theorem dL_law_1063 : decode cL_law 1063 = .ok (.iaload, 1) := by decide +kernel
theorem dL_law_1064 : decode cL_law 1064 = .ok (.invokevirtual 127, 3) := by decide +kernel
theorem dL_law_1067 : decode cL_law 1067 = .ok (.if_icmp .eq 583, 3) := by decide +kernel
theorem dL_law_1070 : decode cL_law 1070 = .ok (.iconst 0, 1) := by decide +kernel
theorem dL_law_1071 : decode cL_law 1071 = .ok (.ireturn, 1) := by decide +kernel
theorem dL_law_1072 : decode cL_law 1072 = .ok (.aload_n 1, 1) := by decide +kernel
theorem dL_law_1073 : decode cL_law 1073 = .ok (.invokevirtual 128, 3) := by decide +kernel
theorem dL_law_1076 : decode cL_law 1076 = .ok (.aload_n 2, 1) := by decide +kernel
theorem dL_law_1077 : decode cL_law 1077 = .ok (.invokevirtual 131, 3) := by decide +kernel
theorem dL_law_1080 : decode cL_law 1080 = .ok (.if_icmp .eq 570, 3) := by decide +kernel
theorem dL_law_1083 : decode cL_law 1083 = .ok (.iconst 0, 1) := by decide +kernel
theorem dL_law_1084 : decode cL_law 1084 = .ok (.ireturn, 1) := by decide +kernel
theorem dL_law_1085 : decode cL_law 1085 = .ok (.aload_n 1, 1) := by decide +kernel
theorem dL_law_1086 : decode cL_law 1086 = .ok (.aload_n 0, 1) := by decide +kernel
theorem dL_law_1087 : decode cL_law 1087 = .ok (.iload 4, 2) := by decide +kernel
theorem dL_law_1089 : decode cL_law 1089 = .ok (.iconst 1, 1) := by decide +kernel
theorem dL_law_1090 : decode cL_law 1090 = .ok (.iadd, 1) := by decide +kernel
theorem dL_law_1091 : decode cL_law 1091 = .ok (.iaload, 1) := by decide +kernel
theorem dL_law_1092 : decode cL_law 1092 = .ok (.aload_n 0, 1) := by decide +kernel
theorem dL_law_1093 : decode cL_law 1093 = .ok (.iload 4, 2) := by decide +kernel
theorem dL_law_1095 : decode cL_law 1095 = .ok (.iconst 2, 1) := by decide +kernel
theorem dL_law_1096 : decode cL_law 1096 = .ok (.iadd, 1) := by decide +kernel
theorem dL_law_1097 : decode cL_law 1097 = .ok (.iaload, 1) := by decide +kernel
theorem dL_law_1098 : decode cL_law 1098 = .ok (.invokevirtual 132, 3) := by decide +kernel
theorem dL_law_1101 : decode cL_law 1101 = .ok (.aload_n 2, 1) := by decide +kernel
theorem dL_law_1102 : decode cL_law 1102 = .ok (.aload_n 0, 1) := by decide +kernel
theorem dL_law_1103 : decode cL_law 1103 = .ok (.iload 4, 2) := by decide +kernel
theorem dL_law_1105 : decode cL_law 1105 = .ok (.iconst 1, 1) := by decide +kernel
theorem dL_law_1106 : decode cL_law 1106 = .ok (.iadd, 1) := by decide +kernel
theorem dL_law_1107 : decode cL_law 1107 = .ok (.iaload, 1) := by decide +kernel
theorem dL_law_1108 : decode cL_law 1108 = .ok (.aload_n 0, 1) := by decide +kernel
theorem dL_law_1109 : decode cL_law 1109 = .ok (.iload 4, 2) := by decide +kernel
theorem dL_law_1111 : decode cL_law 1111 = .ok (.iconst 2, 1) := by decide +kernel
theorem dL_law_1112 : decode cL_law 1112 = .ok (.iadd, 1) := by decide +kernel
theorem dL_law_1113 : decode cL_law 1113 = .ok (.iaload, 1) := by decide +kernel
theorem dL_law_1114 : decode cL_law 1114 = .ok (.invokevirtual 135, 3) := by decide +kernel
theorem dL_law_1117 : decode cL_law 1117 = .ok (.if_icmp .eq 533, 3) := by decide +kernel
theorem dL_law_1120 : decode cL_law 1120 = .ok (.iconst 0, 1) := by decide +kernel
theorem dL_law_1121 : decode cL_law 1121 = .ok (.ireturn, 1) := by decide +kernel
theorem dL_law_1122 : decode cL_law 1122 = .ok (.aload_n 1, 1) := by decide +kernel
theorem dL_law_1123 : decode cL_law 1123 = .ok (.aload_n 0, 1) := by decide +kernel
theorem dL_law_1124 : decode cL_law 1124 = .ok (.iload 4, 2) := by decide +kernel
theorem dL_law_1126 : decode cL_law 1126 = .ok (.iconst 1, 1) := by decide +kernel
theorem dL_law_1127 : decode cL_law 1127 = .ok (.iadd, 1) := by decide +kernel
theorem dL_law_1128 : decode cL_law 1128 = .ok (.iaload, 1) := by decide +kernel
theorem dL_law_1129 : decode cL_law 1129 = .ok (.invokevirtual 136, 3) := by decide +kernel
theorem dL_law_1132 : decode cL_law 1132 = .ok (.aload_n 2, 1) := by decide +kernel
theorem dL_law_1133 : decode cL_law 1133 = .ok (.aload_n 0, 1) := by decide +kernel
theorem dL_law_1134 : decode cL_law 1134 = .ok (.iload 4, 2) := by decide +kernel
theorem dL_law_1136 : decode cL_law 1136 = .ok (.iconst 1, 1) := by decide +kernel
theorem dL_law_1137 : decode cL_law 1137 = .ok (.iadd, 1) := by decide +kernel
theorem dL_law_1138 : decode cL_law 1138 = .ok (.iaload, 1) := by decide +kernel
theorem dL_law_1139 : decode cL_law 1139 = .ok (.invokevirtual 139, 3) := by decide +kernel
theorem dL_law_1142 : decode cL_law 1142 = .ok (.if_icmp .eq 508, 3) := by decide +kernel
theorem dL_law_1145 : decode cL_law 1145 = .ok (.iconst 0, 1) := by decide +kernel
theorem dL_law_1146 : decode cL_law 1146 = .ok (.ireturn, 1) := by decide +kernel
theorem dL_law_1147 : decode cL_law 1147 = .ok (.aload_n 1, 1) := by decide +kernel
theorem dL_law_1148 : decode cL_law 1148 = .ok (.aload_n 0, 1) := by decide +kernel
theorem dL_law_1149 : decode cL_law 1149 = .ok (.iload 4, 2) := by decide +kernel
theorem dL_law_1151 : decode cL_law 1151 = .ok (.iconst 1, 1) := by decide +kernel
theorem dL_law_1152 : decode cL_law 1152 = .ok (.iadd, 1) := by decide +kernel
theorem dL_law_1153 : decode cL_law 1153 = .ok (.iaload, 1) := by decide +kernel
theorem dL_law_1154 : decode cL_law 1154 = .ok (.aload_n 0, 1) := by decide +kernel
theorem dL_law_1155 : decode cL_law 1155 = .ok (.iload 4, 2) := by decide +kernel
theorem dL_law_1157 : decode cL_law 1157 = .ok (.iconst 2, 1) := by decide +kernel
theorem dL_law_1158 : decode cL_law 1158 = .ok (.iadd, 1) := by decide +kernel
theorem dL_law_1159 : decode cL_law 1159 = .ok (.iaload, 1) := by decide +kernel
theorem dL_law_1160 : decode cL_law 1160 = .ok (.invokevirtual 140, 3) := by decide +kernel
theorem dL_law_1163 : decode cL_law 1163 = .ok (.aload_n 2, 1) := by decide +kernel
theorem dL_law_1164 : decode cL_law 1164 = .ok (.aload_n 0, 1) := by decide +kernel
theorem dL_law_1165 : decode cL_law 1165 = .ok (.iload 4, 2) := by decide +kernel
theorem dL_law_1167 : decode cL_law 1167 = .ok (.iconst 1, 1) := by decide +kernel
theorem dL_law_1168 : decode cL_law 1168 = .ok (.iadd, 1) := by decide +kernel
theorem dL_law_1169 : decode cL_law 1169 = .ok (.iaload, 1) := by decide +kernel
theorem dL_law_1170 : decode cL_law 1170 = .ok (.aload_n 0, 1) := by decide +kernel
theorem dL_law_1171 : decode cL_law 1171 = .ok (.iload 4, 2) := by decide +kernel
theorem dL_law_1173 : decode cL_law 1173 = .ok (.iconst 2, 1) := by decide +kernel
theorem dL_law_1174 : decode cL_law 1174 = .ok (.iadd, 1) := by decide +kernel
theorem dL_law_1175 : decode cL_law 1175 = .ok (.iaload, 1) := by decide +kernel
theorem dL_law_1176 : decode cL_law 1176 = .ok (.invokevirtual 143, 3) := by decide +kernel
theorem dL_law_1179 : decode cL_law 1179 = .ok (.if_icmp .eq 471, 3) := by decide +kernel
theorem dL_law_1182 : decode cL_law 1182 = .ok (.iconst 0, 1) := by decide +kernel
theorem dL_law_1183 : decode cL_law 1183 = .ok (.ireturn, 1) := by decide +kernel
theorem dL_law_1184 : decode cL_law 1184 = .ok (.aload_n 1, 1) := by decide +kernel
theorem dL_law_1185 : decode cL_law 1185 = .ok (.invokevirtual 144, 3) := by decide +kernel
theorem dL_law_1188 : decode cL_law 1188 = .ok (.aload_n 2, 1) := by decide +kernel
theorem dL_law_1189 : decode cL_law 1189 = .ok (.invokevirtual 147, 3) := by decide +kernel
theorem dL_law_1192 : decode cL_law 1192 = .ok (.if_icmp .eq 458, 3) := by decide +kernel
theorem dL_law_1195 : decode cL_law 1195 = .ok (.iconst 0, 1) := by decide +kernel
theorem dL_law_1196 : decode cL_law 1196 = .ok (.ireturn, 1) := by decide +kernel
theorem dL_law_1197 : decode cL_law 1197 = .ok (.aload_n 1, 1) := by decide +kernel
theorem dL_law_1198 : decode cL_law 1198 = .ok (.aload_n 0, 1) := by decide +kernel
theorem dL_law_1199 : decode cL_law 1199 = .ok (.iload 4, 2) := by decide +kernel
theorem dL_law_1201 : decode cL_law 1201 = .ok (.iconst 1, 1) := by decide +kernel
theorem dL_law_1202 : decode cL_law 1202 = .ok (.iadd, 1) := by decide +kernel
theorem dL_law_1203 : decode cL_law 1203 = .ok (.iaload, 1) := by decide +kernel
theorem dL_law_1204 : decode cL_law 1204 = .ok (.aload_n 0, 1) := by decide +kernel
theorem dL_law_1205 : decode cL_law 1205 = .ok (.iload 4, 2) := by decide +kernel
theorem dL_law_1207 : decode cL_law 1207 = .ok (.iconst 2, 1) := by decide +kernel
theorem dL_law_1208 : decode cL_law 1208 = .ok (.iadd, 1) := by decide +kernel
theorem dL_law_1209 : decode cL_law 1209 = .ok (.iaload, 1) := by decide +kernel
theorem dL_law_1210 : decode cL_law 1210 = .ok (.invokevirtual 148, 3) := by decide +kernel
theorem dL_law_1213 : decode cL_law 1213 = .ok (.aload_n 2, 1) := by decide +kernel
theorem dL_law_1214 : decode cL_law 1214 = .ok (.aload_n 0, 1) := by decide +kernel
theorem dL_law_1215 : decode cL_law 1215 = .ok (.iload 4, 2) := by decide +kernel
theorem dL_law_1217 : decode cL_law 1217 = .ok (.iconst 1, 1) := by decide +kernel
theorem dL_law_1218 : decode cL_law 1218 = .ok (.iadd, 1) := by decide +kernel
theorem dL_law_1219 : decode cL_law 1219 = .ok (.iaload, 1) := by decide +kernel
theorem dL_law_1220 : decode cL_law 1220 = .ok (.aload_n 0, 1) := by decide +kernel
theorem dL_law_1221 : decode cL_law 1221 = .ok (.iload 4, 2) := by decide +kernel
theorem dL_law_1223 : decode cL_law 1223 = .ok (.iconst 2, 1) := by decide +kernel
theorem dL_law_1224 : decode cL_law 1224 = .ok (.iadd, 1) := by decide +kernel
theorem dL_law_1225 : decode cL_law 1225 = .ok (.iaload, 1) := by decide +kernel
theorem dL_law_1226 : decode cL_law 1226 = .ok (.invokevirtual 151, 3) := by decide +kernel
theorem dL_law_1229 : decode cL_law 1229 = .ok (.if_icmp .eq 421, 3) := by decide +kernel
theorem dL_law_1232 : decode cL_law 1232 = .ok (.iconst 0, 1) := by decide +kernel
theorem dL_law_1233 : decode cL_law 1233 = .ok (.ireturn, 1) := by decide +kernel
theorem dL_law_1234 : decode cL_law 1234 = .ok (.aload_n 1, 1) := by decide +kernel
theorem dL_law_1235 : decode cL_law 1235 = .ok (.aload_n 0, 1) := by decide +kernel
theorem dL_law_1236 : decode cL_law 1236 = .ok (.iload 4, 2) := by decide +kernel
theorem dL_law_1238 : decode cL_law 1238 = .ok (.iconst 1, 1) := by decide +kernel
theorem dL_law_1239 : decode cL_law 1239 = .ok (.iadd, 1) := by decide +kernel
theorem dL_law_1240 : decode cL_law 1240 = .ok (.iaload, 1) := by decide +kernel
theorem dL_law_1241 : decode cL_law 1241 = .ok (.aload_n 0, 1) := by decide +kernel
theorem dL_law_1242 : decode cL_law 1242 = .ok (.iload 4, 2) := by decide +kernel
theorem dL_law_1244 : decode cL_law 1244 = .ok (.iconst 2, 1) := by decide +kernel
theorem dL_law_1245 : decode cL_law 1245 = .ok (.iadd, 1) := by decide +kernel
theorem dL_law_1246 : decode cL_law 1246 = .ok (.iaload, 1) := by decide +kernel
theorem dL_law_1247 : decode cL_law 1247 = .ok (.invokevirtual 152, 3) := by decide +kernel
theorem dL_law_1250 : decode cL_law 1250 = .ok (.aload_n 2, 1) := by decide +kernel
theorem dL_law_1251 : decode cL_law 1251 = .ok (.aload_n 0, 1) := by decide +kernel
theorem dL_law_1252 : decode cL_law 1252 = .ok (.iload 4, 2) := by decide +kernel
theorem dL_law_1254 : decode cL_law 1254 = .ok (.iconst 1, 1) := by decide +kernel
theorem dL_law_1255 : decode cL_law 1255 = .ok (.iadd, 1) := by decide +kernel
theorem dL_law_1256 : decode cL_law 1256 = .ok (.iaload, 1) := by decide +kernel
theorem dL_law_1257 : decode cL_law 1257 = .ok (.aload_n 0, 1) := by decide +kernel
theorem dL_law_1258 : decode cL_law 1258 = .ok (.iload 4, 2) := by decide +kernel
theorem dL_law_1260 : decode cL_law 1260 = .ok (.iconst 2, 1) := by decide +kernel
theorem dL_law_1261 : decode cL_law 1261 = .ok (.iadd, 1) := by decide +kernel
theorem dL_law_1262 : decode cL_law 1262 = .ok (.iaload, 1) := by decide +kernel
theorem dL_law_1263 : decode cL_law 1263 = .ok (.invokevirtual 155, 3) := by decide +kernel
theorem dL_law_1266 : decode cL_law 1266 = .ok (.if_icmp .eq 384, 3) := by decide +kernel
theorem dL_law_1269 : decode cL_law 1269 = .ok (.iconst 0, 1) := by decide +kernel
theorem dL_law_1270 : decode cL_law 1270 = .ok (.ireturn, 1) := by decide +kernel
theorem dL_law_1271 : decode cL_law 1271 = .ok (.aload_n 1, 1) := by decide +kernel
theorem dL_law_1272 : decode cL_law 1272 = .ok (.aload_n 0, 1) := by decide +kernel
theorem dL_law_1273 : decode cL_law 1273 = .ok (.iload 4, 2) := by decide +kernel
theorem dL_law_1275 : decode cL_law 1275 = .ok (.iconst 1, 1) := by decide +kernel
theorem dL_law_1276 : decode cL_law 1276 = .ok (.iadd, 1) := by decide +kernel
theorem dL_law_1277 : decode cL_law 1277 = .ok (.iaload, 1) := by decide +kernel
theorem dL_law_1278 : decode cL_law 1278 = .ok (.aload_n 0, 1) := by decide +kernel
theorem dL_law_1279 : decode cL_law 1279 = .ok (.iload 4, 2) := by decide +kernel
theorem dL_law_1281 : decode cL_law 1281 = .ok (.iconst 2, 1) := by decide +kernel
theorem dL_law_1282 : decode cL_law 1282 = .ok (.iadd, 1) := by decide +kernel
theorem dL_law_1283 : decode cL_law 1283 = .ok (.iaload, 1) := by decide +kernel
theorem dL_law_1284 : decode cL_law 1284 = .ok (.aload_n 0, 1) := by decide +kernel
theorem dL_law_1285 : decode cL_law 1285 = .ok (.iload 4, 2) := by decide +kernel
theorem dL_law_1287 : decode cL_law 1287 = .ok (.iconst 3, 1) := by decide +kernel
theorem dL_law_1288 : decode cL_law 1288 = .ok (.iadd, 1) := by decide +kernel
theorem dL_law_1289 : decode cL_law 1289 = .ok (.iaload, 1) := by decide +kernel
theorem dL_law_1290 : decode cL_law 1290 = .ok (.ifCond .eq 7, 3) := by decide +kernel
theorem dL_law_1293 : decode cL_law 1293 = .ok (.iconst 1, 1) := by decide +kernel
theorem dL_law_1294 : decode cL_law 1294 = .ok (.goto 4, 3) := by decide +kernel
theorem dL_law_1297 : decode cL_law 1297 = .ok (.iconst 0, 1) := by decide +kernel
theorem dL_law_1298 : decode cL_law 1298 = .ok (.invokevirtual 156, 3) := by decide +kernel
theorem dL_law_1301 : decode cL_law 1301 = .ok (.aload_n 2, 1) := by decide +kernel
theorem dL_law_1302 : decode cL_law 1302 = .ok (.aload_n 0, 1) := by decide +kernel
theorem dL_law_1303 : decode cL_law 1303 = .ok (.iload 4, 2) := by decide +kernel
theorem dL_law_1305 : decode cL_law 1305 = .ok (.iconst 1, 1) := by decide +kernel
theorem dL_law_1306 : decode cL_law 1306 = .ok (.iadd, 1) := by decide +kernel
theorem dL_law_1307 : decode cL_law 1307 = .ok (.iaload, 1) := by decide +kernel
theorem dL_law_1308 : decode cL_law 1308 = .ok (.aload_n 0, 1) := by decide +kernel
theorem dL_law_1309 : decode cL_law 1309 = .ok (.iload 4, 2) := by decide +kernel
theorem dL_law_1311 : decode cL_law 1311 = .ok (.iconst 2, 1) := by decide +kernel
theorem dL_law_1312 : decode cL_law 1312 = .ok (.iadd, 1) := by decide +kernel
theorem dL_law_1313 : decode cL_law 1313 = .ok (.iaload, 1) := by decide +kernel
theorem dL_law_1314 : decode cL_law 1314 = .ok (.aload_n 0, 1) := by decide +kernel
theorem dL_law_1315 : decode cL_law 1315 = .ok (.iload 4, 2) := by decide +kernel
theorem dL_law_1317 : decode cL_law 1317 = .ok (.iconst 3, 1) := by decide +kernel
theorem dL_law_1318 : decode cL_law 1318 = .ok (.iadd, 1) := by decide +kernel
theorem dL_law_1319 : decode cL_law 1319 = .ok (.iaload, 1) := by decide +kernel
theorem dL_law_1320 : decode cL_law 1320 = .ok (.ifCond .eq 7, 3) := by decide +kernel
theorem dL_law_1323 : decode cL_law 1323 = .ok (.iconst 1, 1) := by decide +kernel
theorem dL_law_1324 : decode cL_law 1324 = .ok (.goto 4, 3) := by decide +kernel
theorem dL_law_1327 : decode cL_law 1327 = .ok (.iconst 0, 1) := by decide +kernel
theorem dL_law_1328 : decode cL_law 1328 = .ok (.invokevirtual 160, 3) := by decide +kernel
theorem dL_law_1331 : decode cL_law 1331 = .ok (.if_icmp .eq 319, 3) := by decide +kernel
theorem dL_law_1334 : decode cL_law 1334 = .ok (.iconst 0, 1) := by decide +kernel
theorem dL_law_1335 : decode cL_law 1335 = .ok (.ireturn, 1) := by decide +kernel
theorem dL_law_1336 : decode cL_law 1336 = .ok (.aload_n 1, 1) := by decide +kernel
theorem dL_law_1337 : decode cL_law 1337 = .ok (.aload_n 0, 1) := by decide +kernel
theorem dL_law_1338 : decode cL_law 1338 = .ok (.iload 4, 2) := by decide +kernel
theorem dL_law_1340 : decode cL_law 1340 = .ok (.iconst 1, 1) := by decide +kernel
theorem dL_law_1341 : decode cL_law 1341 = .ok (.iadd, 1) := by decide +kernel
theorem dL_law_1342 : decode cL_law 1342 = .ok (.iaload, 1) := by decide +kernel
theorem dL_law_1343 : decode cL_law 1343 = .ok (.aload_n 0, 1) := by decide +kernel
theorem dL_law_1344 : decode cL_law 1344 = .ok (.iload 4, 2) := by decide +kernel
theorem dL_law_1346 : decode cL_law 1346 = .ok (.iconst 2, 1) := by decide +kernel
theorem dL_law_1347 : decode cL_law 1347 = .ok (.iadd, 1) := by decide +kernel
theorem dL_law_1348 : decode cL_law 1348 = .ok (.iaload, 1) := by decide +kernel
theorem dL_law_1349 : decode cL_law 1349 = .ok (.aload_n 0, 1) := by decide +kernel
theorem dL_law_1350 : decode cL_law 1350 = .ok (.iload 4, 2) := by decide +kernel
theorem dL_law_1352 : decode cL_law 1352 = .ok (.iconst 3, 1) := by decide +kernel
theorem dL_law_1353 : decode cL_law 1353 = .ok (.iadd, 1) := by decide +kernel
theorem dL_law_1354 : decode cL_law 1354 = .ok (.iaload, 1) := by decide +kernel
theorem dL_law_1355 : decode cL_law 1355 = .ok (.aload_n 0, 1) := by decide +kernel
theorem dL_law_1356 : decode cL_law 1356 = .ok (.iload 4, 2) := by decide +kernel
theorem dL_law_1358 : decode cL_law 1358 = .ok (.iconst 4, 1) := by decide +kernel
theorem dL_law_1359 : decode cL_law 1359 = .ok (.iadd, 1) := by decide +kernel
theorem dL_law_1360 : decode cL_law 1360 = .ok (.iaload, 1) := by decide +kernel
theorem dL_law_1361 : decode cL_law 1361 = .ok (.ifCond .eq 7, 3) := by decide +kernel
theorem dL_law_1364 : decode cL_law 1364 = .ok (.iconst 1, 1) := by decide +kernel
theorem dL_law_1365 : decode cL_law 1365 = .ok (.goto 4, 3) := by decide +kernel
theorem dL_law_1368 : decode cL_law 1368 = .ok (.iconst 0, 1) := by decide +kernel
theorem dL_law_1369 : decode cL_law 1369 = .ok (.invokevirtual 161, 3) := by decide +kernel
theorem dL_law_1372 : decode cL_law 1372 = .ok (.aload_n 2, 1) := by decide +kernel
theorem dL_law_1373 : decode cL_law 1373 = .ok (.aload_n 0, 1) := by decide +kernel
theorem dL_law_1374 : decode cL_law 1374 = .ok (.iload 4, 2) := by decide +kernel
theorem dL_law_1376 : decode cL_law 1376 = .ok (.iconst 1, 1) := by decide +kernel
theorem dL_law_1377 : decode cL_law 1377 = .ok (.iadd, 1) := by decide +kernel
theorem dL_law_1378 : decode cL_law 1378 = .ok (.iaload, 1) := by decide +kernel
theorem dL_law_1379 : decode cL_law 1379 = .ok (.aload_n 0, 1) := by decide +kernel
theorem dL_law_1380 : decode cL_law 1380 = .ok (.iload 4, 2) := by decide +kernel
theorem dL_law_1382 : decode cL_law 1382 = .ok (.iconst 2, 1) := by decide +kernel
theorem dL_law_1383 : decode cL_law 1383 = .ok (.iadd, 1) := by decide +kernel
theorem dL_law_1384 : decode cL_law 1384 = .ok (.iaload, 1) := by decide +kernel
theorem dL_law_1385 : decode cL_law 1385 = .ok (.aload_n 0, 1) := by decide +kernel
theorem dL_law_1386 : decode cL_law 1386 = .ok (.iload 4, 2) := by decide +kernel
theorem dL_law_1388 : decode cL_law 1388 = .ok (.iconst 3, 1) := by decide +kernel
theorem dL_law_1389 : decode cL_law 1389 = .ok (.iadd, 1) := by decide +kernel
theorem dL_law_1390 : decode cL_law 1390 = .ok (.iaload, 1) := by decide +kernel
theorem dL_law_1391 : decode cL_law 1391 = .ok (.aload_n 0, 1) := by decide +kernel
theorem dL_law_1392 : decode cL_law 1392 = .ok (.iload 4, 2) := by decide +kernel
theorem dL_law_1394 : decode cL_law 1394 = .ok (.iconst 4, 1) := by decide +kernel
theorem dL_law_1395 : decode cL_law 1395 = .ok (.iadd, 1) := by decide +kernel
theorem dL_law_1396 : decode cL_law 1396 = .ok (.iaload, 1) := by decide +kernel
theorem dL_law_1397 : decode cL_law 1397 = .ok (.ifCond .eq 7, 3) := by decide +kernel
theorem dL_law_1400 : decode cL_law 1400 = .ok (.iconst 1, 1) := by decide +kernel
theorem dL_law_1401 : decode cL_law 1401 = .ok (.goto 4, 3) := by decide +kernel
theorem dL_law_1404 : decode cL_law 1404 = .ok (.iconst 0, 1) := by decide +kernel
theorem dL_law_1405 : decode cL_law 1405 = .ok (.invokevirtual 165, 3) := by decide +kernel
theorem dL_law_1408 : decode cL_law 1408 = .ok (.if_icmp .eq 242, 3) := by decide +kernel
theorem dL_law_1411 : decode cL_law 1411 = .ok (.iconst 0, 1) := by decide +kernel
theorem dL_law_1412 : decode cL_law 1412 = .ok (.ireturn, 1) := by decide +kernel
theorem dL_law_1413 : decode cL_law 1413 = .ok (.aload_n 1, 1) := by decide +kernel
theorem dL_law_1414 : decode cL_law 1414 = .ok (.aload_n 0, 1) := by decide +kernel
theorem dL_law_1415 : decode cL_law 1415 = .ok (.iload 4, 2) := by decide +kernel
theorem dL_law_1417 : decode cL_law 1417 = .ok (.iconst 1, 1) := by decide +kernel
theorem dL_law_1418 : decode cL_law 1418 = .ok (.iadd, 1) := by decide +kernel
theorem dL_law_1419 : decode cL_law 1419 = .ok (.iaload, 1) := by decide +kernel
theorem dL_law_1420 : decode cL_law 1420 = .ok (.invokevirtual 166, 3) := by decide +kernel
theorem dL_law_1423 : decode cL_law 1423 = .ok (.aload_n 2, 1) := by decide +kernel
theorem dL_law_1424 : decode cL_law 1424 = .ok (.aload_n 0, 1) := by decide +kernel
theorem dL_law_1425 : decode cL_law 1425 = .ok (.iload 4, 2) := by decide +kernel
theorem dL_law_1427 : decode cL_law 1427 = .ok (.iconst 1, 1) := by decide +kernel
theorem dL_law_1428 : decode cL_law 1428 = .ok (.iadd, 1) := by decide +kernel
theorem dL_law_1429 : decode cL_law 1429 = .ok (.iaload, 1) := by decide +kernel
theorem dL_law_1430 : decode cL_law 1430 = .ok (.invokevirtual 169, 3) := by decide +kernel
theorem dL_law_1433 : decode cL_law 1433 = .ok (.if_icmp .eq 217, 3) := by decide +kernel
theorem dL_law_1436 : decode cL_law 1436 = .ok (.iconst 0, 1) := by decide +kernel
theorem dL_law_1437 : decode cL_law 1437 = .ok (.ireturn, 1) := by decide +kernel
theorem dL_law_1438 : decode cL_law 1438 = .ok (.aload_n 1, 1) := by decide +kernel
theorem dL_law_1439 : decode cL_law 1439 = .ok (.aload_n 0, 1) := by decide +kernel
theorem dL_law_1440 : decode cL_law 1440 = .ok (.iload 4, 2) := by decide +kernel
theorem dL_law_1442 : decode cL_law 1442 = .ok (.iconst 1, 1) := by decide +kernel
theorem dL_law_1443 : decode cL_law 1443 = .ok (.iadd, 1) := by decide +kernel
theorem dL_law_1444 : decode cL_law 1444 = .ok (.iaload, 1) := by decide +kernel
theorem dL_law_1445 : decode cL_law 1445 = .ok (.invokevirtual 170, 3) := by decide +kernel
theorem dL_law_1448 : decode cL_law 1448 = .ok (.aload_n 2, 1) := by decide +kernel
theorem dL_law_1449 : decode cL_law 1449 = .ok (.aload_n 0, 1) := by decide +kernel
theorem dL_law_1450 : decode cL_law 1450 = .ok (.iload 4, 2) := by decide +kernel
theorem dL_law_1452 : decode cL_law 1452 = .ok (.iconst 1, 1) := by decide +kernel
theorem dL_law_1453 : decode cL_law 1453 = .ok (.iadd, 1) := by decide +kernel
theorem dL_law_1454 : decode cL_law 1454 = .ok (.iaload, 1) := by decide +kernel
theorem dL_law_1455 : decode cL_law 1455 = .ok (.invokevirtual 174, 3) := by decide +kernel
theorem dL_law_1458 : decode cL_law 1458 = .ok (.if_icmp .eq 192, 3) := by decide +kernel
theorem dL_law_1461 : decode cL_law 1461 = .ok (.iconst 0, 1) := by decide +kernel
theorem dL_law_1462 : decode cL_law 1462 = .ok (.ireturn, 1) := by decide +kernel
theorem dL_law_1463 : decode cL_law 1463 = .ok (.aload_n 1, 1) := by decide +kernel
theorem dL_law_1464 : decode cL_law 1464 = .ok (.invokevirtual 175, 3) := by decide +kernel
theorem dL_law_1467 : decode cL_law 1467 = .ok (.aload_n 2, 1) := by decide +kernel
theorem dL_law_1468 : decode cL_law 1468 = .ok (.invokevirtual 178, 3) := by decide +kernel
theorem dL_law_1471 : decode cL_law 1471 = .ok (.if_icmp .eq 179, 3) := by decide +kernel
theorem dL_law_1474 : decode cL_law 1474 = .ok (.iconst 0, 1) := by decide +kernel
theorem dL_law_1475 : decode cL_law 1475 = .ok (.ireturn, 1) := by decide +kernel
theorem dL_law_1476 : decode cL_law 1476 = .ok (.aload_n 1, 1) := by decide +kernel
theorem dL_law_1477 : decode cL_law 1477 = .ok (.aload_n 0, 1) := by decide +kernel
theorem dL_law_1478 : decode cL_law 1478 = .ok (.iload 4, 2) := by decide +kernel
theorem dL_law_1480 : decode cL_law 1480 = .ok (.iconst 1, 1) := by decide +kernel
theorem dL_law_1481 : decode cL_law 1481 = .ok (.iadd, 1) := by decide +kernel
theorem dL_law_1482 : decode cL_law 1482 = .ok (.iaload, 1) := by decide +kernel
theorem dL_law_1483 : decode cL_law 1483 = .ok (.aload_n 0, 1) := by decide +kernel
theorem dL_law_1484 : decode cL_law 1484 = .ok (.iload 4, 2) := by decide +kernel
theorem dL_law_1486 : decode cL_law 1486 = .ok (.iconst 2, 1) := by decide +kernel
theorem dL_law_1487 : decode cL_law 1487 = .ok (.iadd, 1) := by decide +kernel
theorem dL_law_1488 : decode cL_law 1488 = .ok (.iaload, 1) := by decide +kernel
theorem dL_law_1489 : decode cL_law 1489 = .ok (.aload_n 0, 1) := by decide +kernel
theorem dL_law_1490 : decode cL_law 1490 = .ok (.iload 4, 2) := by decide +kernel
theorem dL_law_1492 : decode cL_law 1492 = .ok (.iconst 3, 1) := by decide +kernel
theorem dL_law_1493 : decode cL_law 1493 = .ok (.iadd, 1) := by decide +kernel
theorem dL_law_1494 : decode cL_law 1494 = .ok (.iaload, 1) := by decide +kernel
theorem dL_law_1495 : decode cL_law 1495 = .ok (.aload_n 0, 1) := by decide +kernel
theorem dL_law_1496 : decode cL_law 1496 = .ok (.iload 4, 2) := by decide +kernel
theorem dL_law_1498 : decode cL_law 1498 = .ok (.iconst 4, 1) := by decide +kernel
theorem dL_law_1499 : decode cL_law 1499 = .ok (.iadd, 1) := by decide +kernel
theorem dL_law_1500 : decode cL_law 1500 = .ok (.iaload, 1) := by decide +kernel
theorem dL_law_1501 : decode cL_law 1501 = .ok (.invokevirtual 179, 3) := by decide +kernel
theorem dL_law_1504 : decode cL_law 1504 = .ok (.aload_n 2, 1) := by decide +kernel
theorem dL_law_1505 : decode cL_law 1505 = .ok (.aload_n 0, 1) := by decide +kernel
theorem dL_law_1506 : decode cL_law 1506 = .ok (.iload 4, 2) := by decide +kernel
theorem dL_law_1508 : decode cL_law 1508 = .ok (.iconst 1, 1) := by decide +kernel
theorem dL_law_1509 : decode cL_law 1509 = .ok (.iadd, 1) := by decide +kernel
theorem dL_law_1510 : decode cL_law 1510 = .ok (.iaload, 1) := by decide +kernel
theorem dL_law_1511 : decode cL_law 1511 = .ok (.aload_n 0, 1) := by decide +kernel
theorem dL_law_1512 : decode cL_law 1512 = .ok (.iload 4, 2) := by decide +kernel
theorem dL_law_1514 : decode cL_law 1514 = .ok (.iconst 2, 1) := by decide +kernel
theorem dL_law_1515 : decode cL_law 1515 = .ok (.iadd, 1) := by decide +kernel
theorem dL_law_1516 : decode cL_law 1516 = .ok (.iaload, 1) := by decide +kernel
theorem dL_law_1517 : decode cL_law 1517 = .ok (.aload_n 0, 1) := by decide +kernel
theorem dL_law_1518 : decode cL_law 1518 = .ok (.iload 4, 2) := by decide +kernel
theorem dL_law_1520 : decode cL_law 1520 = .ok (.iconst 3, 1) := by decide +kernel
theorem dL_law_1521 : decode cL_law 1521 = .ok (.iadd, 1) := by decide +kernel
theorem dL_law_1522 : decode cL_law 1522 = .ok (.iaload, 1) := by decide +kernel
theorem dL_law_1523 : decode cL_law 1523 = .ok (.aload_n 0, 1) := by decide +kernel
theorem dL_law_1524 : decode cL_law 1524 = .ok (.iload 4, 2) := by decide +kernel
theorem dL_law_1526 : decode cL_law 1526 = .ok (.iconst 4, 1) := by decide +kernel
theorem dL_law_1527 : decode cL_law 1527 = .ok (.iadd, 1) := by decide +kernel
theorem dL_law_1528 : decode cL_law 1528 = .ok (.iaload, 1) := by decide +kernel
theorem dL_law_1529 : decode cL_law 1529 = .ok (.invokevirtual 183, 3) := by decide +kernel
theorem dL_law_1532 : decode cL_law 1532 = .ok (.if_icmp .eq 118, 3) := by decide +kernel
theorem dL_law_1535 : decode cL_law 1535 = .ok (.iconst 0, 1) := by decide +kernel
theorem dL_law_1536 : decode cL_law 1536 = .ok (.ireturn, 1) := by decide +kernel
theorem dL_law_1537 : decode cL_law 1537 = .ok (.aload_n 1, 1) := by decide +kernel
theorem dL_law_1538 : decode cL_law 1538 = .ok (.aload_n 0, 1) := by decide +kernel
theorem dL_law_1539 : decode cL_law 1539 = .ok (.iload 4, 2) := by decide +kernel
theorem dL_law_1541 : decode cL_law 1541 = .ok (.iconst 1, 1) := by decide +kernel
theorem dL_law_1542 : decode cL_law 1542 = .ok (.iadd, 1) := by decide +kernel
theorem dL_law_1543 : decode cL_law 1543 = .ok (.iaload, 1) := by decide +kernel
theorem dL_law_1544 : decode cL_law 1544 = .ok (.aload_n 0, 1) := by decide +kernel
theorem dL_law_1545 : decode cL_law 1545 = .ok (.iload 4, 2) := by decide +kernel
theorem dL_law_1547 : decode cL_law 1547 = .ok (.iconst 2, 1) := by decide +kernel
theorem dL_law_1548 : decode cL_law 1548 = .ok (.iadd, 1) := by decide +kernel
theorem dL_law_1549 : decode cL_law 1549 = .ok (.iaload, 1) := by decide +kernel
theorem dL_law_1550 : decode cL_law 1550 = .ok (.aload_n 0, 1) := by decide +kernel
theorem dL_law_1551 : decode cL_law 1551 = .ok (.iload 4, 2) := by decide +kernel
theorem dL_law_1553 : decode cL_law 1553 = .ok (.iconst 3, 1) := by decide +kernel
theorem dL_law_1554 : decode cL_law 1554 = .ok (.iadd, 1) := by decide +kernel
theorem dL_law_1555 : decode cL_law 1555 = .ok (.iaload, 1) := by decide +kernel
theorem dL_law_1556 : decode cL_law 1556 = .ok (.invokevirtual 184, 3) := by decide +kernel
theorem dL_law_1559 : decode cL_law 1559 = .ok (.aload_n 2, 1) := by decide +kernel
theorem dL_law_1560 : decode cL_law 1560 = .ok (.aload_n 0, 1) := by decide +kernel
theorem dL_law_1561 : decode cL_law 1561 = .ok (.iload 4, 2) := by decide +kernel
theorem dL_law_1563 : decode cL_law 1563 = .ok (.iconst 1, 1) := by decide +kernel
theorem dL_law_1564 : decode cL_law 1564 = .ok (.iadd, 1) := by decide +kernel
theorem dL_law_1565 : decode cL_law 1565 = .ok (.iaload, 1) := by decide +kernel
theorem dL_law_1566 : decode cL_law 1566 = .ok (.aload_n 0, 1) := by decide +kernel
theorem dL_law_1567 : decode cL_law 1567 = .ok (.iload 4, 2) := by decide +kernel
theorem dL_law_1569 : decode cL_law 1569 = .ok (.iconst 2, 1) := by decide +kernel
theorem dL_law_1570 : decode cL_law 1570 = .ok (.iadd, 1) := by decide +kernel
theorem dL_law_1571 : decode cL_law 1571 = .ok (.iaload, 1) := by decide +kernel
theorem dL_law_1572 : decode cL_law 1572 = .ok (.aload_n 0, 1) := by decide +kernel
theorem dL_law_1573 : decode cL_law 1573 = .ok (.iload 4, 2) := by decide +kernel
theorem dL_law_1575 : decode cL_law 1575 = .ok (.iconst 3, 1) := by decide +kernel
theorem dL_law_1576 : decode cL_law 1576 = .ok (.iadd, 1) := by decide +kernel
theorem dL_law_1577 : decode cL_law 1577 = .ok (.iaload, 1) := by decide +kernel
theorem dL_law_1578 : decode cL_law 1578 = .ok (.invokevirtual 187, 3) := by decide +kernel
theorem dL_law_1581 : decode cL_law 1581 = .ok (.if_icmp .eq 69, 3) := by decide +kernel
theorem dL_law_1584 : decode cL_law 1584 = .ok (.iconst 0, 1) := by decide +kernel
theorem dL_law_1585 : decode cL_law 1585 = .ok (.ireturn, 1) := by decide +kernel
theorem dL_law_1586 : decode cL_law 1586 = .ok (.aload_n 1, 1) := by decide +kernel
theorem dL_law_1587 : decode cL_law 1587 = .ok (.invokevirtual 188, 3) := by decide +kernel
theorem dL_law_1590 : decode cL_law 1590 = .ok (.aload_n 2, 1) := by decide +kernel
theorem dL_law_1591 : decode cL_law 1591 = .ok (.invokevirtual 191, 3) := by decide +kernel
theorem dL_law_1594 : decode cL_law 1594 = .ok (.if_icmp .eq 56, 3) := by decide +kernel
theorem dL_law_1597 : decode cL_law 1597 = .ok (.iconst 0, 1) := by decide +kernel
theorem dL_law_1598 : decode cL_law 1598 = .ok (.ireturn, 1) := by decide +kernel
theorem dL_law_1599 : decode cL_law 1599 = .ok (.aload_n 1, 1) := by decide +kernel
theorem dL_law_1600 : decode cL_law 1600 = .ok (.invokevirtual 192, 3) := by decide +kernel
theorem dL_law_1603 : decode cL_law 1603 = .ok (.aload_n 2, 1) := by decide +kernel
theorem dL_law_1604 : decode cL_law 1604 = .ok (.invokevirtual 195, 3) := by decide +kernel
theorem dL_law_1607 : decode cL_law 1607 = .ok (.if_icmp .eq 43, 3) := by decide +kernel
theorem dL_law_1610 : decode cL_law 1610 = .ok (.iconst 0, 1) := by decide +kernel
theorem dL_law_1611 : decode cL_law 1611 = .ok (.ireturn, 1) := by decide +kernel
theorem dL_law_1612 : decode cL_law 1612 = .ok (.aload_n 1, 1) := by decide +kernel
theorem dL_law_1613 : decode cL_law 1613 = .ok (.invokevirtual 196, 3) := by decide +kernel
theorem dL_law_1616 : decode cL_law 1616 = .ok (.aload_n 2, 1) := by decide +kernel
theorem dL_law_1617 : decode cL_law 1617 = .ok (.invokevirtual 199, 3) := by decide +kernel
theorem dL_law_1620 : decode cL_law 1620 = .ok (.if_icmp .eq 30, 3) := by decide +kernel
theorem dL_law_1623 : decode cL_law 1623 = .ok (.iconst 0, 1) := by decide +kernel
theorem dL_law_1624 : decode cL_law 1624 = .ok (.ireturn, 1) := by decide +kernel
theorem dL_law_1625 : decode cL_law 1625 = .ok (.aload_n 1, 1) := by decide +kernel
theorem dL_law_1626 : decode cL_law 1626 = .ok (.aload_n 0, 1) := by decide +kernel
theorem dL_law_1627 : decode cL_law 1627 = .ok (.iload 4, 2) := by decide +kernel
theorem dL_law_1629 : decode cL_law 1629 = .ok (.iconst 1, 1) := by decide +kernel
theorem dL_law_1630 : decode cL_law 1630 = .ok (.iadd, 1) := by decide +kernel
theorem dL_law_1631 : decode cL_law 1631 = .ok (.iaload, 1) := by decide +kernel
theorem dL_law_1632 : decode cL_law 1632 = .ok (.invokevirtual 200, 3) := by decide +kernel
theorem dL_law_1635 : decode cL_law 1635 = .ok (.aload_n 2, 1) := by decide +kernel
theorem dL_law_1636 : decode cL_law 1636 = .ok (.aload_n 0, 1) := by decide +kernel
theorem dL_law_1637 : decode cL_law 1637 = .ok (.iload 4, 2) := by decide +kernel
theorem dL_law_1639 : decode cL_law 1639 = .ok (.iconst 1, 1) := by decide +kernel
theorem dL_law_1640 : decode cL_law 1640 = .ok (.iadd, 1) := by decide +kernel
theorem dL_law_1641 : decode cL_law 1641 = .ok (.iaload, 1) := by decide +kernel
theorem dL_law_1642 : decode cL_law 1642 = .ok (.invokevirtual 203, 3) := by decide +kernel
theorem dL_law_1645 : decode cL_law 1645 = .ok (.if_icmp .eq 5, 3) := by decide +kernel
theorem dL_law_1648 : decode cL_law 1648 = .ok (.iconst 0, 1) := by decide +kernel
theorem dL_law_1649 : decode cL_law 1649 = .ok (.ireturn, 1) := by decide +kernel
theorem dL_law_1650 : decode cL_law 1650 = .ok (.iinc 4 6, 3) := by decide +kernel
theorem dL_law_1653 : decode cL_law 1653 = .ok (.goto (-1630), 3) := by decide +kernel
theorem dL_law_1656 : decode cL_law 1656 = .ok (.iconst 1, 1) := by decide +kernel
theorem dL_law_1657 : decode cL_law 1657 = .ok (.ireturn, 1) := by decide +kernel
