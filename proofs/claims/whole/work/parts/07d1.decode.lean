theorem dX0_init_0 : decode cX0_init 0 = .ok (.aload_n 0, 1) := by decide +kernel
theorem dX0_init_1 : decode cX0_init 1 = .ok (.invokespecial 3, 3) := by decide +kernel
theorem dX0_init_4 : decode cX0_init 4 = .ok (.aload_n 0, 1) := by decide +kernel
theorem dX0_init_5 : decode cX0_init 5 = .ok (.new 9, 3) := by decide +kernel
theorem dX0_init_8 : decode cX0_init 8 = .ok (.dup, 1) := by decide +kernel
theorem dX0_init_9 : decode cX0_init 9 = .ok (.invokespecial 11, 3) := by decide +kernel
theorem dX0_init_12 : decode cX0_init 12 = .ok (.putfield 12, 3) := by decide +kernel
theorem dX0_init_15 : decode cX0_init 15 = .ok (.aload_n 0, 1) := by decide +kernel
theorem dX0_init_16 : decode cX0_init 16 = .ok (.aload_n 1, 1) := by decide +kernel
theorem dX0_init_17 : decode cX0_init 17 = .ok (.putfield 18, 3) := by decide +kernel
theorem dX0_init_20 : decode cX0_init 20 = .ok (.return_, 1) := by decide +kernel
theorem dX0_asTold_0 : decode cX0_asTold 0 = .ok (.aload_n 0, 1) := by decide +kernel
theorem dX0_asTold_1 : decode cX0_asTold 1 = .ok (.aload_n 0, 1) := by decide +kernel
theorem dX0_asTold_2 : decode cX0_asTold 2 = .ok (.getfield 18, 3) := by decide +kernel
theorem dX0_asTold_5 : decode cX0_asTold 5 = .ok (.getfield 22, 3) := by decide +kernel
theorem dX0_asTold_8 : decode cX0_asTold 8 = .ok (.iconst 0, 1) := by decide +kernel
theorem dX0_asTold_9 : decode cX0_asTold 9 = .ok (.iaload, 1) := by decide +kernel
theorem dX0_asTold_10 : decode cX0_asTold 10 = .ok (.putfield 28, 3) := by decide +kernel
theorem dX0_asTold_13 : decode cX0_asTold 13 = .ok (.aload_n 0, 1) := by decide +kernel
theorem dX0_asTold_14 : decode cX0_asTold 14 = .ok (.iconst 1, 1) := by decide +kernel
theorem dX0_asTold_15 : decode cX0_asTold 15 = .ok (.putfield 32, 3) := by decide +kernel
theorem dX0_asTold_18 : decode cX0_asTold 18 = .ok (.aload_n 0, 1) := by decide +kernel
theorem dX0_asTold_19 : decode cX0_asTold 19 = .ok (.iconst 1, 1) := by decide +kernel
theorem dX0_asTold_20 : decode cX0_asTold 20 = .ok (.putfield 36, 3) := by decide +kernel
theorem dX0_asTold_23 : decode cX0_asTold 23 = .ok (.aload_n 0, 1) := by decide +kernel
theorem dX0_asTold_24 : decode cX0_asTold 24 = .ok (.iconst (-1), 1) := by decide +kernel
theorem dX0_asTold_25 : decode cX0_asTold 25 = .ok (.putfield 39, 3) := by decide +kernel
theorem dX0_asTold_28 : decode cX0_asTold 28 = .ok (.return_, 1) := by decide +kernel
theorem dX0_asItGoes_0 : decode cX0_asItGoes 0 = .ok (.aload_n 0, 1) := by decide +kernel
theorem dX0_asItGoes_1 : decode cX0_asItGoes 1 = .ok (.invokevirtual 42, 3) := by decide +kernel
theorem dX0_asItGoes_4 : decode cX0_asItGoes 4 = .ok (.aload_n 0, 1) := by decide +kernel
theorem dX0_asItGoes_5 : decode cX0_asItGoes 5 = .ok (.aload_n 0, 1) := by decide +kernel
theorem dX0_asItGoes_6 : decode cX0_asItGoes 6 = .ok (.getfield 18, 3) := by decide +kernel
theorem dX0_asItGoes_9 : decode cX0_asItGoes 9 = .ok (.getfield 22, 3) := by decide +kernel
theorem dX0_asItGoes_12 : decode cX0_asItGoes 12 = .ok (.iconst 2, 1) := by decide +kernel
theorem dX0_asItGoes_13 : decode cX0_asItGoes 13 = .ok (.iaload, 1) := by decide +kernel
theorem dX0_asItGoes_14 : decode cX0_asItGoes 14 = .ok (.bipush 50, 2) := by decide +kernel
theorem dX0_asItGoes_16 : decode cX0_asItGoes 16 = .ok (.if_icmp .lt 7, 3) := by decide +kernel
theorem dX0_asItGoes_19 : decode cX0_asItGoes 19 = .ok (.iconst 1, 1) := by decide +kernel
theorem dX0_asItGoes_20 : decode cX0_asItGoes 20 = .ok (.goto 4, 3) := by decide +kernel
theorem dX0_asItGoes_23 : decode cX0_asItGoes 23 = .ok (.iconst 0, 1) := by decide +kernel
theorem dX0_asItGoes_24 : decode cX0_asItGoes 24 = .ok (.putfield 45, 3) := by decide +kernel
theorem dX0_asItGoes_27 : decode cX0_asItGoes 27 = .ok (.return_, 1) := by decide +kernel
theorem dX0_asDrawn_0 : decode cX0_asDrawn 0 = .ok (.aload_n 0, 1) := by decide +kernel
theorem dX0_asDrawn_1 : decode cX0_asDrawn 1 = .ok (.invokevirtual 42, 3) := by decide +kernel
theorem dX0_asDrawn_4 : decode cX0_asDrawn 4 = .ok (.aload_n 0, 1) := by decide +kernel
theorem dX0_asDrawn_5 : decode cX0_asDrawn 5 = .ok (.getfield 18, 3) := by decide +kernel
theorem dX0_asDrawn_8 : decode cX0_asDrawn 8 = .ok (.getfield 22, 3) := by decide +kernel
theorem dX0_asDrawn_11 : decode cX0_asDrawn 11 = .ok (.iconst 2, 1) := by decide +kernel
theorem dX0_asDrawn_12 : decode cX0_asDrawn 12 = .ok (.iaload, 1) := by decide +kernel
theorem dX0_asDrawn_13 : decode cX0_asDrawn 13 = .ok (.istore_n 1, 1) := by decide +kernel
theorem dX0_asDrawn_14 : decode cX0_asDrawn 14 = .ok (.aload_n 0, 1) := by decide +kernel
theorem dX0_asDrawn_15 : decode cX0_asDrawn 15 = .ok (.iload_n 1, 1) := by decide +kernel
theorem dX0_asDrawn_16 : decode cX0_asDrawn 16 = .ok (.ifCond .ne 7, 3) := by decide +kernel
theorem dX0_asDrawn_19 : decode cX0_asDrawn 19 = .ok (.iconst 0, 1) := by decide +kernel
theorem dX0_asDrawn_20 : decode cX0_asDrawn 20 = .ok (.goto 14, 3) := by decide +kernel
theorem dX0_asDrawn_23 : decode cX0_asDrawn 23 = .ok (.iload_n 1, 1) := by decide +kernel
theorem dX0_asDrawn_24 : decode cX0_asDrawn 24 = .ok (.bipush 100, 2) := by decide +kernel
theorem dX0_asDrawn_26 : decode cX0_asDrawn 26 = .ok (.if_icmp .ne 7, 3) := by decide +kernel
theorem dX0_asDrawn_29 : decode cX0_asDrawn 29 = .ok (.iconst 1, 1) := by decide +kernel
theorem dX0_asDrawn_30 : decode cX0_asDrawn 30 = .ok (.goto 4, 3) := by decide +kernel
theorem dX0_asDrawn_33 : decode cX0_asDrawn 33 = .ok (.iconst 2, 1) := by decide +kernel
theorem dX0_asDrawn_34 : decode cX0_asDrawn 34 = .ok (.putfield 45, 3) := by decide +kernel
theorem dX0_asDrawn_37 : decode cX0_asDrawn 37 = .ok (.return_, 1) := by decide +kernel
theorem dX0_pass_0 : decode cX0_pass 0 = .ok (.iconst 0, 1) := by decide +kernel
theorem dX0_pass_1 : decode cX0_pass 1 = .ok (.istore_n 3, 1) := by decide +kernel
theorem dX0_pass_2 : decode cX0_pass 2 = .ok (.iload_n 3, 1) := by decide +kernel
theorem dX0_pass_3 : decode cX0_pass 3 = .ok (.iload_n 2, 1) := by decide +kernel
theorem dX0_pass_4 : decode cX0_pass 4 = .ok (.if_icmp .ge 77, 3) := by decide +kernel
theorem dX0_pass_7 : decode cX0_pass 7 = .ok (.aload_n 1, 1) := by decide +kernel
theorem dX0_pass_8 : decode cX0_pass 8 = .ok (.getfield 48, 3) := by decide +kernel
theorem dX0_pass_11 : decode cX0_pass 11 = .ok (.bipush 99, 2) := by decide +kernel
theorem dX0_pass_13 : decode cX0_pass 13 = .ok (.if_icmp .gt 13, 3) := by decide +kernel
theorem dX0_pass_16 : decode cX0_pass 16 = .ok (.aload_n 0, 1) := by decide +kernel
theorem dX0_pass_17 : decode cX0_pass 17 = .ok (.aload_n 1, 1) := by decide +kernel
theorem dX0_pass_18 : decode cX0_pass 18 = .ok (.invokevirtual 53, 3) := by decide +kernel
theorem dX0_pass_21 : decode cX0_pass 21 = .ok (.aload_n 0, 1) := by decide +kernel
theorem dX0_pass_22 : decode cX0_pass 22 = .ok (.aload_n 1, 1) := by decide +kernel
theorem dX0_pass_23 : decode cX0_pass 23 = .ok (.invokevirtual 57, 3) := by decide +kernel
theorem dX0_pass_26 : decode cX0_pass 26 = .ok (.aload_n 0, 1) := by decide +kernel
theorem dX0_pass_27 : decode cX0_pass 27 = .ok (.getfield 32, 3) := by decide +kernel
theorem dX0_pass_30 : decode cX0_pass 30 = .ok (.ifCond .eq 23, 3) := by decide +kernel
theorem dX0_pass_33 : decode cX0_pass 33 = .ok (.aload_n 0, 1) := by decide +kernel
theorem dX0_pass_34 : decode cX0_pass 34 = .ok (.getfield 18, 3) := by decide +kernel
theorem dX0_pass_37 : decode cX0_pass 37 = .ok (.getfield 60, 3) := by decide +kernel
theorem dX0_pass_40 : decode cX0_pass 40 = .ok (.iconst 2, 1) := by decide +kernel
theorem dX0_pass_41 : decode cX0_pass 41 = .ok (.aaload, 1) := by decide +kernel
theorem dX0_pass_42 : decode cX0_pass 42 = .ok (.getfield 64, 3) := by decide +kernel
theorem dX0_pass_45 : decode cX0_pass 45 = .ok (.ifCond .le 8, 3) := by decide +kernel
theorem dX0_pass_48 : decode cX0_pass 48 = .ok (.aload_n 0, 1) := by decide +kernel
theorem dX0_pass_49 : decode cX0_pass 49 = .ok (.aload_n 1, 1) := by decide +kernel
theorem dX0_pass_50 : decode cX0_pass 50 = .ok (.invokevirtual 69, 3) := by decide +kernel
theorem dX0_pass_53 : decode cX0_pass 53 = .ok (.aload_n 0, 1) := by decide +kernel
theorem dX0_pass_54 : decode cX0_pass 54 = .ok (.getfield 45, 3) := by decide +kernel
theorem dX0_pass_57 : decode cX0_pass 57 = .ok (.ifCond .eq 8, 3) := by decide +kernel
theorem dX0_pass_60 : decode cX0_pass 60 = .ok (.aload_n 0, 1) := by decide +kernel
theorem dX0_pass_61 : decode cX0_pass 61 = .ok (.aload_n 1, 1) := by decide +kernel
theorem dX0_pass_62 : decode cX0_pass 62 = .ok (.invokevirtual 72, 3) := by decide +kernel
theorem dX0_pass_65 : decode cX0_pass 65 = .ok (.aload_n 1, 1) := by decide +kernel
theorem dX0_pass_66 : decode cX0_pass 66 = .ok (.dup, 1) := by decide +kernel
theorem dX0_pass_67 : decode cX0_pass 67 = .ok (.getfield 48, 3) := by decide +kernel
theorem dX0_pass_70 : decode cX0_pass 70 = .ok (.iconst 1, 1) := by decide +kernel
theorem dX0_pass_71 : decode cX0_pass 71 = .ok (.iadd, 1) := by decide +kernel
theorem dX0_pass_72 : decode cX0_pass 72 = .ok (.putfield 48, 3) := by decide +kernel
theorem dX0_pass_75 : decode cX0_pass 75 = .ok (.iinc 3 1, 3) := by decide +kernel
theorem dX0_pass_78 : decode cX0_pass 78 = .ok (.goto (-76), 3) := by decide +kernel
theorem dX0_pass_81 : decode cX0_pass 81 = .ok (.return_, 1) := by decide +kernel
theorem dX0_turnDials_0 : decode cX0_turnDials 0 = .ok (.iconst 0, 1) := by decide +kernel
theorem dX0_turnDials_1 : decode cX0_turnDials 1 = .ok (.istore_n 2, 1) := by decide +kernel
theorem dX0_turnDials_2 : decode cX0_turnDials 2 = .ok (.aload_n 0, 1) := by decide +kernel
theorem dX0_turnDials_3 : decode cX0_turnDials 3 = .ok (.getfield 36, 3) := by decide +kernel
theorem dX0_turnDials_6 : decode cX0_turnDials 6 = .ok (.ifCond .eq 59, 3) := by decide +kernel
theorem dX0_turnDials_9 : decode cX0_turnDials 9 = .ok (.iload_n 2, 1) := by decide +kernel
theorem dX0_turnDials_10 : decode cX0_turnDials 10 = .ok (.aload_n 0, 1) := by decide +kernel
theorem dX0_turnDials_11 : decode cX0_turnDials 11 = .ok (.getfield 18, 3) := by decide +kernel
theorem dX0_turnDials_14 : decode cX0_turnDials 14 = .ok (.getfield 75, 3) := by decide +kernel
theorem dX0_turnDials_17 : decode cX0_turnDials 17 = .ok (.if_icmp .ge 48, 3) := by decide +kernel
theorem dX0_turnDials_20 : decode cX0_turnDials 20 = .ok (.aload_n 0, 1) := by decide +kernel
theorem dX0_turnDials_21 : decode cX0_turnDials 21 = .ok (.getfield 18, 3) := by decide +kernel
theorem dX0_turnDials_24 : decode cX0_turnDials 24 = .ok (.getfield 77, 3) := by decide +kernel
theorem dX0_turnDials_27 : decode cX0_turnDials 27 = .ok (.iload_n 2, 1) := by decide +kernel
theorem dX0_turnDials_28 : decode cX0_turnDials 28 = .ok (.iaload, 1) := by decide +kernel
theorem dX0_turnDials_29 : decode cX0_turnDials 29 = .ok (.aload_n 1, 1) := by decide +kernel
theorem dX0_turnDials_30 : decode cX0_turnDials 30 = .ok (.getfield 48, 3) := by decide +kernel
theorem dX0_turnDials_33 : decode cX0_turnDials 33 = .ok (.if_icmp .ne 26, 3) := by decide +kernel
theorem dX0_turnDials_36 : decode cX0_turnDials 36 = .ok (.aload_n 1, 1) := by decide +kernel
theorem dX0_turnDials_37 : decode cX0_turnDials 37 = .ok (.getfield 80, 3) := by decide +kernel
theorem dX0_turnDials_40 : decode cX0_turnDials 40 = .ok (.aload_n 0, 1) := by decide +kernel
theorem dX0_turnDials_41 : decode cX0_turnDials 41 = .ok (.getfield 18, 3) := by decide +kernel
theorem dX0_turnDials_44 : decode cX0_turnDials 44 = .ok (.getfield 83, 3) := by decide +kernel
theorem dX0_turnDials_47 : decode cX0_turnDials 47 = .ok (.iload_n 2, 1) := by decide +kernel
theorem dX0_turnDials_48 : decode cX0_turnDials 48 = .ok (.iaload, 1) := by decide +kernel
theorem dX0_turnDials_49 : decode cX0_turnDials 49 = .ok (.aload_n 0, 1) := by decide +kernel
theorem dX0_turnDials_50 : decode cX0_turnDials 50 = .ok (.getfield 18, 3) := by decide +kernel
theorem dX0_turnDials_53 : decode cX0_turnDials 53 = .ok (.getfield 86, 3) := by decide +kernel
theorem dX0_turnDials_56 : decode cX0_turnDials 56 = .ok (.iload_n 2, 1) := by decide +kernel
theorem dX0_turnDials_57 : decode cX0_turnDials 57 = .ok (.iaload, 1) := by decide +kernel
theorem dX0_turnDials_58 : decode cX0_turnDials 58 = .ok (.iastore, 1) := by decide +kernel
theorem dX0_turnDials_59 : decode cX0_turnDials 59 = .ok (.iinc 2 1, 3) := by decide +kernel
theorem dX0_turnDials_62 : decode cX0_turnDials 62 = .ok (.goto (-60), 3) := by decide +kernel
theorem dX0_turnDials_65 : decode cX0_turnDials 65 = .ok (.return_, 1) := by decide +kernel
theorem dX0_soundInRooms_0 : decode cX0_soundInRooms 0 = .ok (.iconst 0, 1) := by decide +kernel
theorem dX0_soundInRooms_1 : decode cX0_soundInRooms 1 = .ok (.istore_n 2, 1) := by decide +kernel
theorem dX0_soundInRooms_2 : decode cX0_soundInRooms 2 = .ok (.iload_n 2, 1) := by decide +kernel
theorem dX0_soundInRooms_3 : decode cX0_soundInRooms 3 = .ok (.aload_n 0, 1) := by decide +kernel
theorem dX0_soundInRooms_4 : decode cX0_soundInRooms 4 = .ok (.getfield 18, 3) := by decide +kernel
theorem dX0_soundInRooms_7 : decode cX0_soundInRooms 7 = .ok (.getfield 89, 3) := by decide +kernel
theorem dX0_soundInRooms_10 : decode cX0_soundInRooms 10 = .ok (.if_icmp .ge 65, 3) := by decide +kernel
theorem dX0_soundInRooms_13 : decode cX0_soundInRooms 13 = .ok (.aload_n 0, 1) := by decide +kernel
theorem dX0_soundInRooms_14 : decode cX0_soundInRooms 14 = .ok (.getfield 18, 3) := by decide +kernel
theorem dX0_soundInRooms_17 : decode cX0_soundInRooms 17 = .ok (.getfield 92, 3) := by decide +kernel
theorem dX0_soundInRooms_20 : decode cX0_soundInRooms 20 = .ok (.iload_n 2, 1) := by decide +kernel
theorem dX0_soundInRooms_21 : decode cX0_soundInRooms 21 = .ok (.iaload, 1) := by decide +kernel
theorem dX0_soundInRooms_22 : decode cX0_soundInRooms 22 = .ok (.aload_n 1, 1) := by decide +kernel
theorem dX0_soundInRooms_23 : decode cX0_soundInRooms 23 = .ok (.getfield 48, 3) := by decide +kernel
theorem dX0_soundInRooms_26 : decode cX0_soundInRooms 26 = .ok (.if_icmp .ne 43, 3) := by decide +kernel
theorem dX0_soundInRooms_29 : decode cX0_soundInRooms 29 = .ok (.aload_n 0, 1) := by decide +kernel
theorem dX0_soundInRooms_30 : decode cX0_soundInRooms 30 = .ok (.getfield 18, 3) := by decide +kernel
theorem dX0_soundInRooms_33 : decode cX0_soundInRooms 33 = .ok (.getfield 95, 3) := by decide +kernel
theorem dX0_soundInRooms_36 : decode cX0_soundInRooms 36 = .ok (.iload_n 2, 1) := by decide +kernel
theorem dX0_soundInRooms_37 : decode cX0_soundInRooms 37 = .ok (.iaload, 1) := by decide +kernel
theorem dX0_soundInRooms_38 : decode cX0_soundInRooms 38 = .ok (.aload_n 0, 1) := by decide +kernel
theorem dX0_soundInRooms_39 : decode cX0_soundInRooms 39 = .ok (.getfield 39, 3) := by decide +kernel
theorem dX0_soundInRooms_42 : decode cX0_soundInRooms 42 = .ok (.if_icmp .eq 27, 3) := by decide +kernel
theorem dX0_soundInRooms_45 : decode cX0_soundInRooms 45 = .ok (.aload_n 0, 1) := by decide +kernel
theorem dX0_soundInRooms_46 : decode cX0_soundInRooms 46 = .ok (.aload_n 1, 1) := by decide +kernel
theorem dX0_soundInRooms_47 : decode cX0_soundInRooms 47 = .ok (.aload_n 0, 1) := by decide +kernel
theorem dX0_soundInRooms_48 : decode cX0_soundInRooms 48 = .ok (.getfield 18, 3) := by decide +kernel
theorem dX0_soundInRooms_51 : decode cX0_soundInRooms 51 = .ok (.getfield 95, 3) := by decide +kernel
theorem dX0_soundInRooms_54 : decode cX0_soundInRooms 54 = .ok (.iload_n 2, 1) := by decide +kernel
theorem dX0_soundInRooms_55 : decode cX0_soundInRooms 55 = .ok (.iaload, 1) := by decide +kernel
theorem dX0_soundInRooms_56 : decode cX0_soundInRooms 56 = .ok (.aload_n 0, 1) := by decide +kernel
theorem dX0_soundInRooms_57 : decode cX0_soundInRooms 57 = .ok (.getfield 18, 3) := by decide +kernel
theorem dX0_soundInRooms_60 : decode cX0_soundInRooms 60 = .ok (.getfield 98, 3) := by decide +kernel
theorem dX0_soundInRooms_63 : decode cX0_soundInRooms 63 = .ok (.iload_n 2, 1) := by decide +kernel
theorem dX0_soundInRooms_64 : decode cX0_soundInRooms 64 = .ok (.iaload, 1) := by decide +kernel
theorem dX0_soundInRooms_65 : decode cX0_soundInRooms 65 = .ok (.invokevirtual 101, 3) := by decide +kernel
theorem dX0_soundInRooms_68 : decode cX0_soundInRooms 68 = .ok (.pop, 1) := by decide +kernel
theorem dX0_soundInRooms_69 : decode cX0_soundInRooms 69 = .ok (.iinc 2 1, 3) := by decide +kernel
theorem dX0_soundInRooms_72 : decode cX0_soundInRooms 72 = .ok (.goto (-70), 3) := by decide +kernel
theorem dX0_soundInRooms_75 : decode cX0_soundInRooms 75 = .ok (.return_, 1) := by decide +kernel
theorem dX0_soundMade_0 : decode cX0_soundMade 0 = .ok (.iconst 0, 1) := by decide +kernel
theorem dX0_soundMade_1 : decode cX0_soundMade 1 = .ok (.istore 4, 2) := by decide +kernel
theorem dX0_soundMade_3 : decode cX0_soundMade 3 = .ok (.iconst 0, 1) := by decide +kernel
theorem dX0_soundMade_4 : decode cX0_soundMade 4 = .ok (.istore 5, 2) := by decide +kernel
theorem dX0_soundMade_6 : decode cX0_soundMade 6 = .ok (.iload 5, 2) := by decide +kernel
theorem dX0_soundMade_8 : decode cX0_soundMade 8 = .ok (.aload_n 0, 1) := by decide +kernel
theorem dX0_soundMade_9 : decode cX0_soundMade 9 = .ok (.getfield 18, 3) := by decide +kernel
theorem dX0_soundMade_12 : decode cX0_soundMade 12 = .ok (.getfield 105, 3) := by decide +kernel
theorem dX0_soundMade_15 : decode cX0_soundMade 15 = .ok (.if_icmp .ge 75, 3) := by decide +kernel
theorem dX0_soundMade_18 : decode cX0_soundMade 18 = .ok (.iload 5, 2) := by decide +kernel
theorem dX0_soundMade_20 : decode cX0_soundMade 20 = .ok (.iload_n 2, 1) := by decide +kernel
theorem dX0_soundMade_21 : decode cX0_soundMade 21 = .ok (.if_icmp .eq 63, 3) := by decide +kernel
theorem dX0_soundMade_24 : decode cX0_soundMade 24 = .ok (.aload_n 0, 1) := by decide +kernel
theorem dX0_soundMade_25 : decode cX0_soundMade 25 = .ok (.aload_n 1, 1) := by decide +kernel
theorem dX0_soundMade_26 : decode cX0_soundMade 26 = .ok (.iload 5, 2) := by decide +kernel
theorem dX0_soundMade_28 : decode cX0_soundMade 28 = .ok (.iload_n 2, 1) := by decide +kernel
theorem dX0_soundMade_29 : decode cX0_soundMade 29 = .ok (.invokevirtual 108, 3) := by decide +kernel
theorem dX0_soundMade_32 : decode cX0_soundMade 32 = .ok (.ifCond .eq 52, 3) := by decide +kernel
theorem dX0_soundMade_35 : decode cX0_soundMade 35 = .ok (.iload 4, 2) := by decide +kernel
theorem dX0_soundMade_37 : decode cX0_soundMade 37 = .ok (.iconst 1, 1) := by decide +kernel
theorem dX0_soundMade_38 : decode cX0_soundMade 38 = .ok (.iload 5, 2) := by decide +kernel
theorem dX0_soundMade_40 : decode cX0_soundMade 40 = .ok (.ishl, 1) := by decide +kernel
theorem dX0_soundMade_41 : decode cX0_soundMade 41 = .ok (.ior, 1) := by decide +kernel
theorem dX0_soundMade_42 : decode cX0_soundMade 42 = .ok (.istore 4, 2) := by decide +kernel
theorem dX0_soundMade_44 : decode cX0_soundMade 44 = .ok (.aload_n 1, 1) := by decide +kernel
theorem dX0_soundMade_45 : decode cX0_soundMade 45 = .ok (.iload 5, 2) := by decide +kernel
theorem dX0_soundMade_47 : decode cX0_soundMade 47 = .ok (.iload_n 2, 1) := by decide +kernel
theorem dX0_soundMade_48 : decode cX0_soundMade 48 = .ok (.iload_n 3, 1) := by decide +kernel
theorem dX0_soundMade_49 : decode cX0_soundMade 49 = .ok (.invokevirtual 112, 3) := by decide +kernel
theorem dX0_soundMade_52 : decode cX0_soundMade 52 = .ok (.aload_n 1, 1) := by decide +kernel
theorem dX0_soundMade_53 : decode cX0_soundMade 53 = .ok (.iload 5, 2) := by decide +kernel
theorem dX0_soundMade_55 : decode cX0_soundMade 55 = .ok (.iload_n 2, 1) := by decide +kernel
theorem dX0_soundMade_56 : decode cX0_soundMade 56 = .ok (.invokevirtual 116, 3) := by decide +kernel
theorem dX0_soundMade_59 : decode cX0_soundMade 59 = .ok (.aload_n 0, 1) := by decide +kernel
theorem dX0_soundMade_60 : decode cX0_soundMade 60 = .ok (.aload_n 1, 1) := by decide +kernel
theorem dX0_soundMade_61 : decode cX0_soundMade 61 = .ok (.iload 5, 2) := by decide +kernel
theorem dX0_soundMade_63 : decode cX0_soundMade 63 = .ok (.iload_n 2, 1) := by decide +kernel
theorem dX0_soundMade_64 : decode cX0_soundMade 64 = .ok (.iload_n 3, 1) := by decide +kernel
theorem dX0_soundMade_65 : decode cX0_soundMade 65 = .ok (.invokevirtual 120, 3) := by decide +kernel
theorem dX0_soundMade_68 : decode cX0_soundMade 68 = .ok (.if_icmp .lt 16, 3) := by decide +kernel
theorem dX0_soundMade_71 : decode cX0_soundMade 71 = .ok (.aload_n 1, 1) := by decide +kernel
theorem dX0_soundMade_72 : decode cX0_soundMade 72 = .ok (.getfield 124, 3) := by decide +kernel
theorem dX0_soundMade_75 : decode cX0_soundMade 75 = .ok (.iload 5, 2) := by decide +kernel
theorem dX0_soundMade_77 : decode cX0_soundMade 77 = .ok (.dup2, 1) := by decide +kernel
theorem dX0_soundMade_78 : decode cX0_soundMade 78 = .ok (.iaload, 1) := by decide +kernel
theorem dX0_soundMade_79 : decode cX0_soundMade 79 = .ok (.iconst 1, 1) := by decide +kernel
theorem dX0_soundMade_80 : decode cX0_soundMade 80 = .ok (.iload_n 2, 1) := by decide +kernel
theorem dX0_soundMade_81 : decode cX0_soundMade 81 = .ok (.ishl, 1) := by decide +kernel
theorem dX0_soundMade_82 : decode cX0_soundMade 82 = .ok (.ior, 1) := by decide +kernel
theorem dX0_soundMade_83 : decode cX0_soundMade 83 = .ok (.iastore, 1) := by decide +kernel
theorem dX0_soundMade_84 : decode cX0_soundMade 84 = .ok (.iinc 5 1, 3) := by decide +kernel
theorem dX0_soundMade_87 : decode cX0_soundMade 87 = .ok (.goto (-81), 3) := by decide +kernel
theorem dX0_soundMade_90 : decode cX0_soundMade 90 = .ok (.iload 4, 2) := by decide +kernel
theorem dX0_soundMade_92 : decode cX0_soundMade 92 = .ok (.ireturn, 1) := by decide +kernel
theorem dX0_driftDials_0 : decode cX0_driftDials 0 = .ok (.iconst 0, 1) := by decide +kernel
theorem dX0_driftDials_1 : decode cX0_driftDials 1 = .ok (.istore_n 2, 1) := by decide +kernel
theorem dX0_driftDials_2 : decode cX0_driftDials 2 = .ok (.iload_n 2, 1) := by decide +kernel
theorem dX0_driftDials_3 : decode cX0_driftDials 3 = .ok (.aload_n 0, 1) := by decide +kernel
theorem dX0_driftDials_4 : decode cX0_driftDials 4 = .ok (.getfield 18, 3) := by decide +kernel
theorem dX0_driftDials_7 : decode cX0_driftDials 7 = .ok (.getfield 105, 3) := by decide +kernel
theorem dX0_driftDials_10 : decode cX0_driftDials 10 = .ok (.if_icmp .ge 73, 3) := by decide +kernel
theorem dX0_driftDials_13 : decode cX0_driftDials 13 = .ok (.aload_n 0, 1) := by decide +kernel
theorem dX0_driftDials_14 : decode cX0_driftDials 14 = .ok (.aload_n 1, 1) := by decide +kernel
theorem dX0_driftDials_15 : decode cX0_driftDials 15 = .ok (.iload_n 2, 1) := by decide +kernel
theorem dX0_driftDials_16 : decode cX0_driftDials 16 = .ok (.iconst 0, 1) := by decide +kernel
theorem dX0_driftDials_17 : decode cX0_driftDials 17 = .ok (.iconst 0, 1) := by decide +kernel
theorem dX0_driftDials_18 : decode cX0_driftDials 18 = .ok (.iconst 0, 1) := by decide +kernel
theorem dX0_driftDials_19 : decode cX0_driftDials 19 = .ok (.invokevirtual 127, 3) := by decide +kernel
theorem dX0_driftDials_22 : decode cX0_driftDials 22 = .ok (.aload_n 0, 1) := by decide +kernel
theorem dX0_driftDials_23 : decode cX0_driftDials 23 = .ok (.getfield 12, 3) := by decide +kernel
theorem dX0_driftDials_26 : decode cX0_driftDials 26 = .ok (.aload_n 0, 1) := by decide +kernel
theorem dX0_driftDials_27 : decode cX0_driftDials 27 = .ok (.getfield 18, 3) := by decide +kernel
theorem dX0_driftDials_30 : decode cX0_driftDials 30 = .ok (.getfield 60, 3) := by decide +kernel
theorem dX0_driftDials_33 : decode cX0_driftDials 33 = .ok (.iconst 2, 1) := by decide +kernel
theorem dX0_driftDials_34 : decode cX0_driftDials 34 = .ok (.aaload, 1) := by decide +kernel
theorem dX0_driftDials_35 : decode cX0_driftDials 35 = .ok (.invokevirtual 131, 3) := by decide +kernel
theorem dX0_driftDials_38 : decode cX0_driftDials 38 = .ok (.ifCond .eq 39, 3) := by decide +kernel
theorem dX0_driftDials_41 : decode cX0_driftDials 41 = .ok (.aload_n 1, 1) := by decide +kernel
theorem dX0_driftDials_42 : decode cX0_driftDials 42 = .ok (.getfield 80, 3) := by decide +kernel
theorem dX0_driftDials_45 : decode cX0_driftDials 45 = .ok (.iload_n 2, 1) := by decide +kernel
theorem dX0_driftDials_46 : decode cX0_driftDials 46 = .ok (.iaload, 1) := by decide +kernel
theorem dX0_driftDials_47 : decode cX0_driftDials 47 = .ok (.aload_n 0, 1) := by decide +kernel
theorem dX0_driftDials_48 : decode cX0_driftDials 48 = .ok (.getfield 12, 3) := by decide +kernel
theorem dX0_driftDials_51 : decode cX0_driftDials 51 = .ok (.getfield 135, 3) := by decide +kernel
theorem dX0_driftDials_54 : decode cX0_driftDials 54 = .ok (.bipush (-9), 2) := by decide +kernel
theorem dX0_driftDials_56 : decode cX0_driftDials 56 = .ok (.bipush 9, 2) := by decide +kernel
theorem dX0_driftDials_58 : decode cX0_driftDials 58 = .ok (.invokestatic 139, 3) := by decide +kernel
theorem dX0_driftDials_61 : decode cX0_driftDials 61 = .ok (.iadd, 1) := by decide +kernel
theorem dX0_driftDials_62 : decode cX0_driftDials 62 = .ok (.istore_n 3, 1) := by decide +kernel
theorem dX0_driftDials_63 : decode cX0_driftDials 63 = .ok (.aload_n 1, 1) := by decide +kernel
theorem dX0_driftDials_64 : decode cX0_driftDials 64 = .ok (.getfield 80, 3) := by decide +kernel
theorem dX0_driftDials_67 : decode cX0_driftDials 67 = .ok (.iload_n 2, 1) := by decide +kernel
theorem dX0_driftDials_68 : decode cX0_driftDials 68 = .ok (.iload_n 3, 1) := by decide +kernel
theorem dX0_driftDials_69 : decode cX0_driftDials 69 = .ok (.i2l, 1) := by decide +kernel
theorem dX0_driftDials_70 : decode cX0_driftDials 70 = .ok (.iconst 0, 1) := by decide +kernel
theorem dX0_driftDials_71 : decode cX0_driftDials 71 = .ok (.bipush 99, 2) := by decide +kernel
theorem dX0_driftDials_73 : decode cX0_driftDials 73 = .ok (.invokestatic 139, 3) := by decide +kernel
theorem dX0_driftDials_76 : decode cX0_driftDials 76 = .ok (.iastore, 1) := by decide +kernel
theorem dX0_driftDials_77 : decode cX0_driftDials 77 = .ok (.iinc 2 1, 3) := by decide +kernel
theorem dX0_driftDials_80 : decode cX0_driftDials 80 = .ok (.goto (-78), 3) := by decide +kernel
theorem dX0_driftDials_83 : decode cX0_driftDials 83 = .ok (.return_, 1) := by decide +kernel
theorem dX0_fadeValves_0 : decode cX0_fadeValves 0 = .ok (.iconst 0, 1) := by decide +kernel
theorem dX0_fadeValves_1 : decode cX0_fadeValves 1 = .ok (.istore_n 2, 1) := by decide +kernel
theorem dX0_fadeValves_2 : decode cX0_fadeValves 2 = .ok (.iload_n 2, 1) := by decide +kernel
theorem dX0_fadeValves_3 : decode cX0_fadeValves 3 = .ok (.aload_n 0, 1) := by decide +kernel
theorem dX0_fadeValves_4 : decode cX0_fadeValves 4 = .ok (.getfield 18, 3) := by decide +kernel
theorem dX0_fadeValves_7 : decode cX0_fadeValves 7 = .ok (.getfield 105, 3) := by decide +kernel
theorem dX0_fadeValves_10 : decode cX0_fadeValves 10 = .ok (.if_icmp .ge 65, 3) := by decide +kernel
theorem dX0_fadeValves_13 : decode cX0_fadeValves 13 = .ok (.aload_n 0, 1) := by decide +kernel
theorem dX0_fadeValves_14 : decode cX0_fadeValves 14 = .ok (.getfield 45, 3) := by decide +kernel
theorem dX0_fadeValves_17 : decode cX0_fadeValves 17 = .ok (.iconst 1, 1) := by decide +kernel
theorem dX0_fadeValves_18 : decode cX0_fadeValves 18 = .ok (.if_icmp .eq 22, 3) := by decide +kernel
theorem dX0_fadeValves_21 : decode cX0_fadeValves 21 = .ok (.aload_n 1, 1) := by decide +kernel
theorem dX0_fadeValves_22 : decode cX0_fadeValves 22 = .ok (.invokevirtual 143, 3) := by decide +kernel
theorem dX0_fadeValves_25 : decode cX0_fadeValves 25 = .ok (.bipush 100, 2) := by decide +kernel
theorem dX0_fadeValves_27 : decode cX0_fadeValves 27 = .ok (.irem, 1) := by decide +kernel
theorem dX0_fadeValves_28 : decode cX0_fadeValves 28 = .ok (.aload_n 0, 1) := by decide +kernel
theorem dX0_fadeValves_29 : decode cX0_fadeValves 29 = .ok (.getfield 18, 3) := by decide +kernel
theorem dX0_fadeValves_32 : decode cX0_fadeValves 32 = .ok (.getfield 22, 3) := by decide +kernel
theorem dX0_fadeValves_35 : decode cX0_fadeValves 35 = .ok (.iconst 2, 1) := by decide +kernel
theorem dX0_fadeValves_36 : decode cX0_fadeValves 36 = .ok (.iaload, 1) := by decide +kernel
theorem dX0_fadeValves_37 : decode cX0_fadeValves 37 = .ok (.if_icmp .ge 7, 3) := by decide +kernel
theorem dX0_fadeValves_40 : decode cX0_fadeValves 40 = .ok (.iconst 1, 1) := by decide +kernel
theorem dX0_fadeValves_41 : decode cX0_fadeValves 41 = .ok (.goto 4, 3) := by decide +kernel
theorem dX0_fadeValves_44 : decode cX0_fadeValves 44 = .ok (.iconst 0, 1) := by decide +kernel
theorem dX0_fadeValves_45 : decode cX0_fadeValves 45 = .ok (.istore_n 3, 1) := by decide +kernel
theorem dX0_fadeValves_46 : decode cX0_fadeValves 46 = .ok (.iload_n 3, 1) := by decide +kernel
theorem dX0_fadeValves_47 : decode cX0_fadeValves 47 = .ok (.ifCond .eq 22, 3) := by decide +kernel
theorem dX0_fadeValves_50 : decode cX0_fadeValves 50 = .ok (.aload_n 1, 1) := by decide +kernel
theorem dX0_fadeValves_51 : decode cX0_fadeValves 51 = .ok (.getfield 147, 3) := by decide +kernel
theorem dX0_fadeValves_54 : decode cX0_fadeValves 54 = .ok (.iload_n 2, 1) := by decide +kernel
theorem dX0_fadeValves_55 : decode cX0_fadeValves 55 = .ok (.iaload, 1) := by decide +kernel
theorem dX0_fadeValves_56 : decode cX0_fadeValves 56 = .ok (.ifCond .le 13, 3) := by decide +kernel
theorem dX0_fadeValves_59 : decode cX0_fadeValves 59 = .ok (.aload_n 1, 1) := by decide +kernel
theorem dX0_fadeValves_60 : decode cX0_fadeValves 60 = .ok (.getfield 147, 3) := by decide +kernel
theorem dX0_fadeValves_63 : decode cX0_fadeValves 63 = .ok (.iload_n 2, 1) := by decide +kernel
theorem dX0_fadeValves_64 : decode cX0_fadeValves 64 = .ok (.dup2, 1) := by decide +kernel
theorem dX0_fadeValves_65 : decode cX0_fadeValves 65 = .ok (.iaload, 1) := by decide +kernel
theorem dX0_fadeValves_66 : decode cX0_fadeValves 66 = .ok (.iconst 1, 1) := by decide +kernel
theorem dX0_fadeValves_67 : decode cX0_fadeValves 67 = .ok (.isub, 1) := by decide +kernel
theorem dX0_fadeValves_68 : decode cX0_fadeValves 68 = .ok (.iastore, 1) := by decide +kernel
theorem dX0_fadeValves_69 : decode cX0_fadeValves 69 = .ok (.iinc 2 1, 3) := by decide +kernel
theorem dX0_fadeValves_72 : decode cX0_fadeValves 72 = .ok (.goto (-70), 3) := by decide +kernel
theorem dX0_fadeValves_75 : decode cX0_fadeValves 75 = .ok (.return_, 1) := by decide +kernel
theorem dX0_doesHear_0 : decode cX0_doesHear 0 = .ok (.aload_n 1, 1) := by decide +kernel
theorem dX0_doesHear_1 : decode cX0_doesHear 1 = .ok (.iload_n 2, 1) := by decide +kernel
theorem dX0_doesHear_2 : decode cX0_doesHear 2 = .ok (.iload_n 3, 1) := by decide +kernel
theorem dX0_doesHear_3 : decode cX0_doesHear 3 = .ok (.invokevirtual 150, 3) := by decide +kernel
theorem dX0_doesHear_6 : decode cX0_doesHear 6 = .ok (.istore 4, 2) := by decide +kernel
theorem dX0_doesHear_8 : decode cX0_doesHear 8 = .ok (.aload_n 0, 1) := by decide +kernel
theorem dX0_doesHear_9 : decode cX0_doesHear 9 = .ok (.getfield 28, 3) := by decide +kernel
theorem dX0_doesHear_12 : decode cX0_doesHear 12 = .ok (.aload_n 1, 1) := by decide +kernel
theorem dX0_doesHear_13 : decode cX0_doesHear 13 = .ok (.getfield 147, 3) := by decide +kernel
theorem dX0_doesHear_16 : decode cX0_doesHear 16 = .ok (.iload_n 2, 1) := by decide +kernel
theorem dX0_doesHear_17 : decode cX0_doesHear 17 = .ok (.iaload, 1) := by decide +kernel
theorem dX0_doesHear_18 : decode cX0_doesHear 18 = .ok (.iadd, 1) := by decide +kernel
theorem dX0_doesHear_19 : decode cX0_doesHear 19 = .ok (.istore 5, 2) := by decide +kernel
theorem dX0_doesHear_21 : decode cX0_doesHear 21 = .ok (.aload_n 0, 1) := by decide +kernel
theorem dX0_doesHear_22 : decode cX0_doesHear 22 = .ok (.getfield 18, 3) := by decide +kernel
theorem dX0_doesHear_25 : decode cX0_doesHear 25 = .ok (.getfield 60, 3) := by decide +kernel
theorem dX0_doesHear_28 : decode cX0_doesHear 28 = .ok (.iconst 0, 1) := by decide +kernel
theorem dX0_doesHear_29 : decode cX0_doesHear 29 = .ok (.aaload, 1) := by decide +kernel
theorem dX0_doesHear_30 : decode cX0_doesHear 30 = .ok (.getfield 64, 3) := by decide +kernel
theorem dX0_doesHear_33 : decode cX0_doesHear 33 = .ok (.ifCond .le 52, 3) := by decide +kernel
theorem dX0_doesHear_36 : decode cX0_doesHear 36 = .ok (.aload_n 0, 1) := by decide +kernel
theorem dX0_doesHear_37 : decode cX0_doesHear 37 = .ok (.aload_n 1, 1) := by decide +kernel
theorem dX0_doesHear_38 : decode cX0_doesHear 38 = .ok (.iload_n 2, 1) := by decide +kernel
theorem dX0_doesHear_39 : decode cX0_doesHear 39 = .ok (.iload 4, 2) := by decide +kernel
theorem dX0_doesHear_41 : decode cX0_doesHear 41 = .ok (.iconst 0, 1) := by decide +kernel
theorem dX0_doesHear_42 : decode cX0_doesHear 42 = .ok (.aload_n 1, 1) := by decide +kernel
theorem dX0_doesHear_43 : decode cX0_doesHear 43 = .ok (.iload_n 2, 1) := by decide +kernel
theorem dX0_doesHear_44 : decode cX0_doesHear 44 = .ok (.iload_n 3, 1) := by decide +kernel
theorem dX0_doesHear_45 : decode cX0_doesHear 45 = .ok (.invokevirtual 116, 3) := by decide +kernel
theorem dX0_doesHear_48 : decode cX0_doesHear 48 = .ok (.invokevirtual 127, 3) := by decide +kernel
theorem dX0_doesHear_51 : decode cX0_doesHear 51 = .ok (.aload_n 0, 1) := by decide +kernel
theorem dX0_doesHear_52 : decode cX0_doesHear 52 = .ok (.getfield 12, 3) := by decide +kernel
theorem dX0_doesHear_55 : decode cX0_doesHear 55 = .ok (.aload_n 0, 1) := by decide +kernel
theorem dX0_doesHear_56 : decode cX0_doesHear 56 = .ok (.getfield 18, 3) := by decide +kernel
theorem dX0_doesHear_59 : decode cX0_doesHear 59 = .ok (.getfield 60, 3) := by decide +kernel
theorem dX0_doesHear_62 : decode cX0_doesHear 62 = .ok (.iconst 0, 1) := by decide +kernel
theorem dX0_doesHear_63 : decode cX0_doesHear 63 = .ok (.aaload, 1) := by decide +kernel
theorem dX0_doesHear_64 : decode cX0_doesHear 64 = .ok (.invokevirtual 131, 3) := by decide +kernel
theorem dX0_doesHear_67 : decode cX0_doesHear 67 = .ok (.ifCond .eq 18, 3) := by decide +kernel
theorem dX0_doesHear_70 : decode cX0_doesHear 70 = .ok (.aload_n 0, 1) := by decide +kernel
theorem dX0_doesHear_71 : decode cX0_doesHear 71 = .ok (.getfield 12, 3) := by decide +kernel
theorem dX0_doesHear_74 : decode cX0_doesHear 74 = .ok (.getfield 135, 3) := by decide +kernel
theorem dX0_doesHear_77 : decode cX0_doesHear 77 = .ok (.iconst 0, 1) := by decide +kernel
theorem dX0_doesHear_78 : decode cX0_doesHear 78 = .ok (.bipush 99, 2) := by decide +kernel
theorem dX0_doesHear_80 : decode cX0_doesHear 80 = .ok (.invokestatic 139, 3) := by decide +kernel
theorem dX0_doesHear_83 : decode cX0_doesHear 83 = .ok (.istore 5, 2) := by decide +kernel
theorem dX0_doesHear_85 : decode cX0_doesHear 85 = .ok (.iload 4, 2) := by decide +kernel
theorem dX0_doesHear_87 : decode cX0_doesHear 87 = .ok (.iload 5, 2) := by decide +kernel
theorem dX0_doesHear_89 : decode cX0_doesHear 89 = .ok (.if_icmp .gt 7, 3) := by decide +kernel
theorem dX0_doesHear_92 : decode cX0_doesHear 92 = .ok (.iconst 1, 1) := by decide +kernel
theorem dX0_doesHear_93 : decode cX0_doesHear 93 = .ok (.goto 4, 3) := by decide +kernel
theorem dX0_doesHear_96 : decode cX0_doesHear 96 = .ok (.iconst 0, 1) := by decide +kernel
theorem dX0_doesHear_97 : decode cX0_doesHear 97 = .ok (.ireturn, 1) := by decide +kernel
theorem dX0_heardBy_0 : decode cX0_heardBy 0 = .ok (.iconst 0, 1) := by decide +kernel
theorem dX0_heardBy_1 : decode cX0_heardBy 1 = .ok (.istore_n 3, 1) := by decide +kernel
theorem dX0_heardBy_2 : decode cX0_heardBy 2 = .ok (.iconst 0, 1) := by decide +kernel
theorem dX0_heardBy_3 : decode cX0_heardBy 3 = .ok (.istore 4, 2) := by decide +kernel
theorem dX0_heardBy_5 : decode cX0_heardBy 5 = .ok (.iload 4, 2) := by decide +kernel
theorem dX0_heardBy_7 : decode cX0_heardBy 7 = .ok (.aload_n 0, 1) := by decide +kernel
theorem dX0_heardBy_8 : decode cX0_heardBy 8 = .ok (.getfield 18, 3) := by decide +kernel
theorem dX0_heardBy_11 : decode cX0_heardBy 11 = .ok (.getfield 105, 3) := by decide +kernel
theorem dX0_heardBy_14 : decode cX0_heardBy 14 = .ok (.if_icmp .ge 33, 3) := by decide +kernel
theorem dX0_heardBy_17 : decode cX0_heardBy 17 = .ok (.iload 4, 2) := by decide +kernel
theorem dX0_heardBy_19 : decode cX0_heardBy 19 = .ok (.iload_n 2, 1) := by decide +kernel
theorem dX0_heardBy_20 : decode cX0_heardBy 20 = .ok (.if_icmp .eq 21, 3) := by decide +kernel
theorem dX0_heardBy_23 : decode cX0_heardBy 23 = .ok (.aload_n 0, 1) := by decide +kernel
theorem dX0_heardBy_24 : decode cX0_heardBy 24 = .ok (.aload_n 1, 1) := by decide +kernel
theorem dX0_heardBy_25 : decode cX0_heardBy 25 = .ok (.iload_n 2, 1) := by decide +kernel
theorem dX0_heardBy_26 : decode cX0_heardBy 26 = .ok (.iload 4, 2) := by decide +kernel
theorem dX0_heardBy_28 : decode cX0_heardBy 28 = .ok (.invokevirtual 108, 3) := by decide +kernel
theorem dX0_heardBy_31 : decode cX0_heardBy 31 = .ok (.ifCond .eq 10, 3) := by decide +kernel
theorem dX0_heardBy_34 : decode cX0_heardBy 34 = .ok (.iload_n 3, 1) := by decide +kernel
theorem dX0_heardBy_35 : decode cX0_heardBy 35 = .ok (.iconst 1, 1) := by decide +kernel
theorem dX0_heardBy_36 : decode cX0_heardBy 36 = .ok (.iload 4, 2) := by decide +kernel
theorem dX0_heardBy_38 : decode cX0_heardBy 38 = .ok (.ishl, 1) := by decide +kernel
theorem dX0_heardBy_39 : decode cX0_heardBy 39 = .ok (.ior, 1) := by decide +kernel
theorem dX0_heardBy_40 : decode cX0_heardBy 40 = .ok (.istore_n 3, 1) := by decide +kernel
theorem dX0_heardBy_41 : decode cX0_heardBy 41 = .ok (.iinc 4 1, 3) := by decide +kernel
theorem dX0_heardBy_44 : decode cX0_heardBy 44 = .ok (.goto (-39), 3) := by decide +kernel
theorem dX0_heardBy_47 : decode cX0_heardBy 47 = .ok (.iload_n 3, 1) := by decide +kernel
theorem dX0_heardBy_48 : decode cX0_heardBy 48 = .ok (.ireturn, 1) := by decide +kernel
theorem dX0_hearersOf_0 : decode cX0_hearersOf 0 = .ok (.iconst 0, 1) := by decide +kernel
theorem dX0_hearersOf_1 : decode cX0_hearersOf 1 = .ok (.istore_n 3, 1) := by decide +kernel
theorem dX0_hearersOf_2 : decode cX0_hearersOf 2 = .ok (.iconst 0, 1) := by decide +kernel
theorem dX0_hearersOf_3 : decode cX0_hearersOf 3 = .ok (.istore 4, 2) := by decide +kernel
theorem dX0_hearersOf_5 : decode cX0_hearersOf 5 = .ok (.iload 4, 2) := by decide +kernel
theorem dX0_hearersOf_7 : decode cX0_hearersOf 7 = .ok (.aload_n 0, 1) := by decide +kernel
theorem dX0_hearersOf_8 : decode cX0_hearersOf 8 = .ok (.getfield 18, 3) := by decide +kernel
theorem dX0_hearersOf_11 : decode cX0_hearersOf 11 = .ok (.getfield 105, 3) := by decide +kernel
theorem dX0_hearersOf_14 : decode cX0_hearersOf 14 = .ok (.if_icmp .ge 33, 3) := by decide +kernel
theorem dX0_hearersOf_17 : decode cX0_hearersOf 17 = .ok (.iload 4, 2) := by decide +kernel
theorem dX0_hearersOf_19 : decode cX0_hearersOf 19 = .ok (.iload_n 2, 1) := by decide +kernel
theorem dX0_hearersOf_20 : decode cX0_hearersOf 20 = .ok (.if_icmp .eq 21, 3) := by decide +kernel
theorem dX0_hearersOf_23 : decode cX0_hearersOf 23 = .ok (.aload_n 0, 1) := by decide +kernel
theorem dX0_hearersOf_24 : decode cX0_hearersOf 24 = .ok (.aload_n 1, 1) := by decide +kernel
theorem dX0_hearersOf_25 : decode cX0_hearersOf 25 = .ok (.iload 4, 2) := by decide +kernel
theorem dX0_hearersOf_27 : decode cX0_hearersOf 27 = .ok (.iload_n 2, 1) := by decide +kernel
theorem dX0_hearersOf_28 : decode cX0_hearersOf 28 = .ok (.invokevirtual 108, 3) := by decide +kernel
theorem dX0_hearersOf_31 : decode cX0_hearersOf 31 = .ok (.ifCond .eq 10, 3) := by decide +kernel
theorem dX0_hearersOf_34 : decode cX0_hearersOf 34 = .ok (.iload_n 3, 1) := by decide +kernel
theorem dX0_hearersOf_35 : decode cX0_hearersOf 35 = .ok (.iconst 1, 1) := by decide +kernel
theorem dX0_hearersOf_36 : decode cX0_hearersOf 36 = .ok (.iload 4, 2) := by decide +kernel
theorem dX0_hearersOf_38 : decode cX0_hearersOf 38 = .ok (.ishl, 1) := by decide +kernel
theorem dX0_hearersOf_39 : decode cX0_hearersOf 39 = .ok (.ior, 1) := by decide +kernel
theorem dX0_hearersOf_40 : decode cX0_hearersOf 40 = .ok (.istore_n 3, 1) := by decide +kernel
theorem dX0_hearersOf_41 : decode cX0_hearersOf 41 = .ok (.iinc 4 1, 3) := by decide +kernel
theorem dX0_hearersOf_44 : decode cX0_hearersOf 44 = .ok (.goto (-39), 3) := by decide +kernel
theorem dX0_hearersOf_47 : decode cX0_hearersOf 47 = .ok (.iload_n 3, 1) := by decide +kernel
theorem dX0_hearersOf_48 : decode cX0_hearersOf 48 = .ok (.ireturn, 1) := by decide +kernel
theorem dX0_needed_0 : decode cX0_needed 0 = .ok (.aload_n 0, 1) := by decide +kernel
theorem dX0_needed_1 : decode cX0_needed 1 = .ok (.aload_n 1, 1) := by decide +kernel
theorem dX0_needed_2 : decode cX0_needed 2 = .ok (.iload_n 2, 1) := by decide +kernel
theorem dX0_needed_3 : decode cX0_needed 3 = .ok (.aload_n 1, 1) := by decide +kernel
theorem dX0_needed_4 : decode cX0_needed 4 = .ok (.iload_n 2, 1) := by decide +kernel
theorem dX0_needed_5 : decode cX0_needed 5 = .ok (.iload_n 3, 1) := by decide +kernel
theorem dX0_needed_6 : decode cX0_needed 6 = .ok (.invokevirtual 150, 3) := by decide +kernel
theorem dX0_needed_9 : decode cX0_needed 9 = .ok (.iload 4, 2) := by decide +kernel
theorem dX0_needed_11 : decode cX0_needed 11 = .ok (.aload_n 1, 1) := by decide +kernel
theorem dX0_needed_12 : decode cX0_needed 12 = .ok (.iload_n 2, 1) := by decide +kernel
theorem dX0_needed_13 : decode cX0_needed 13 = .ok (.iload_n 3, 1) := by decide +kernel
theorem dX0_needed_14 : decode cX0_needed 14 = .ok (.invokevirtual 116, 3) := by decide +kernel
theorem dX0_needed_17 : decode cX0_needed 17 = .ok (.invokevirtual 127, 3) := by decide +kernel
theorem dX0_needed_20 : decode cX0_needed 20 = .ok (.aload_n 0, 1) := by decide +kernel
theorem dX0_needed_21 : decode cX0_needed 21 = .ok (.getfield 12, 3) := by decide +kernel
theorem dX0_needed_24 : decode cX0_needed 24 = .ok (.aload_n 0, 1) := by decide +kernel
theorem dX0_needed_25 : decode cX0_needed 25 = .ok (.getfield 18, 3) := by decide +kernel
theorem dX0_needed_28 : decode cX0_needed 28 = .ok (.getfield 60, 3) := by decide +kernel
theorem dX0_needed_31 : decode cX0_needed 31 = .ok (.iconst 1, 1) := by decide +kernel
theorem dX0_needed_32 : decode cX0_needed 32 = .ok (.aaload, 1) := by decide +kernel
theorem dX0_needed_33 : decode cX0_needed 33 = .ok (.invokevirtual 131, 3) := by decide +kernel
theorem dX0_needed_36 : decode cX0_needed 36 = .ok (.ifCond .eq 19, 3) := by decide +kernel
theorem dX0_needed_39 : decode cX0_needed 39 = .ok (.aload_n 0, 1) := by decide +kernel
theorem dX0_needed_40 : decode cX0_needed 40 = .ok (.getfield 12, 3) := by decide +kernel
theorem dX0_needed_43 : decode cX0_needed 43 = .ok (.getfield 135, 3) := by decide +kernel
theorem dX0_needed_46 : decode cX0_needed 46 = .ok (.iconst 1, 1) := by decide +kernel
theorem dX0_needed_47 : decode cX0_needed 47 = .ok (.bipush 99, 2) := by decide +kernel
theorem dX0_needed_49 : decode cX0_needed 49 = .ok (.invokestatic 139, 3) := by decide +kernel
theorem dX0_needed_52 : decode cX0_needed 52 = .ok (.goto 12, 3) := by decide +kernel
theorem dX0_needed_55 : decode cX0_needed 55 = .ok (.aload_n 0, 1) := by decide +kernel
theorem dX0_needed_56 : decode cX0_needed 56 = .ok (.getfield 18, 3) := by decide +kernel
theorem dX0_needed_59 : decode cX0_needed 59 = .ok (.getfield 22, 3) := by decide +kernel
theorem dX0_needed_62 : decode cX0_needed 62 = .ok (.iconst 1, 1) := by decide +kernel
theorem dX0_needed_63 : decode cX0_needed 63 = .ok (.iaload, 1) := by decide +kernel
theorem dX0_needed_64 : decode cX0_needed 64 = .ok (.ireturn, 1) := by decide +kernel
theorem dX0_lawNow_0 : decode cX0_lawNow 0 = .ok (.aload_n 0, 1) := by decide +kernel
theorem dX0_lawNow_1 : decode cX0_lawNow 1 = .ok (.aload_n 1, 1) := by decide +kernel
theorem dX0_lawNow_2 : decode cX0_lawNow 2 = .ok (.iload_n 3, 1) := by decide +kernel
theorem dX0_lawNow_3 : decode cX0_lawNow 3 = .ok (.aload_n 1, 1) := by decide +kernel
theorem dX0_lawNow_4 : decode cX0_lawNow 4 = .ok (.iload_n 3, 1) := by decide +kernel
theorem dX0_lawNow_5 : decode cX0_lawNow 5 = .ok (.iload 4, 2) := by decide +kernel
theorem dX0_lawNow_7 : decode cX0_lawNow 7 = .ok (.invokevirtual 150, 3) := by decide +kernel
theorem dX0_lawNow_10 : decode cX0_lawNow 10 = .ok (.iconst 0, 1) := by decide +kernel
theorem dX0_lawNow_11 : decode cX0_lawNow 11 = .ok (.aload_n 1, 1) := by decide +kernel
theorem dX0_lawNow_12 : decode cX0_lawNow 12 = .ok (.iload_n 3, 1) := by decide +kernel
theorem dX0_lawNow_13 : decode cX0_lawNow 13 = .ok (.iload 4, 2) := by decide +kernel
theorem dX0_lawNow_15 : decode cX0_lawNow 15 = .ok (.invokevirtual 116, 3) := by decide +kernel
theorem dX0_lawNow_18 : decode cX0_lawNow 18 = .ok (.invokevirtual 127, 3) := by decide +kernel
theorem dX0_lawNow_21 : decode cX0_lawNow 21 = .ok (.aload_n 0, 1) := by decide +kernel
theorem dX0_lawNow_22 : decode cX0_lawNow 22 = .ok (.iload_n 2, 1) := by decide +kernel
theorem dX0_lawNow_23 : decode cX0_lawNow 23 = .ok (.invokevirtual 153, 3) := by decide +kernel
theorem dX0_lawNow_26 : decode cX0_lawNow 26 = .ok (.lreturn, 1) := by decide +kernel
theorem dX0_driftNow_0 : decode cX0_driftNow 0 = .ok (.aload_n 0, 1) := by decide +kernel
theorem dX0_driftNow_1 : decode cX0_driftNow 1 = .ok (.aload_n 1, 1) := by decide +kernel
theorem dX0_driftNow_2 : decode cX0_driftNow 2 = .ok (.iload_n 2, 1) := by decide +kernel
theorem dX0_driftNow_3 : decode cX0_driftNow 3 = .ok (.iconst 0, 1) := by decide +kernel
theorem dX0_driftNow_4 : decode cX0_driftNow 4 = .ok (.iconst 0, 1) := by decide +kernel
theorem dX0_driftNow_5 : decode cX0_driftNow 5 = .ok (.iconst 0, 1) := by decide +kernel
theorem dX0_driftNow_6 : decode cX0_driftNow 6 = .ok (.invokevirtual 127, 3) := by decide +kernel
theorem dX0_driftNow_9 : decode cX0_driftNow 9 = .ok (.aload_n 0, 1) := by decide +kernel
theorem dX0_driftNow_10 : decode cX0_driftNow 10 = .ok (.iconst 2, 1) := by decide +kernel
theorem dX0_driftNow_11 : decode cX0_driftNow 11 = .ok (.invokevirtual 153, 3) := by decide +kernel
theorem dX0_driftNow_14 : decode cX0_driftNow 14 = .ok (.lreturn, 1) := by decide +kernel
theorem dX0_lookAt_0 : decode cX0_lookAt 0 = .ok (.aload_n 0, 1) := by decide +kernel
theorem dX0_lookAt_1 : decode cX0_lookAt 1 = .ok (.getfield 12, 3) := by decide +kernel
theorem dX0_lookAt_4 : decode cX0_lookAt 4 = .ok (.getfield 157, 3) := by decide +kernel
theorem dX0_lookAt_7 : decode cX0_lookAt 7 = .ok (.iconst 0, 1) := by decide +kernel
theorem dX0_lookAt_8 : decode cX0_lookAt 8 = .ok (.aload_n 1, 1) := by decide +kernel
theorem dX0_lookAt_9 : decode cX0_lookAt 9 = .ok (.getfield 80, 3) := by decide +kernel
theorem dX0_lookAt_12 : decode cX0_lookAt 12 = .ok (.iload_n 2, 1) := by decide +kernel
theorem dX0_lookAt_13 : decode cX0_lookAt 13 = .ok (.iaload, 1) := by decide +kernel
theorem dX0_lookAt_14 : decode cX0_lookAt 14 = .ok (.i2l, 1) := by decide +kernel
theorem dX0_lookAt_15 : decode cX0_lookAt 15 = .ok (.lastore, 1) := by decide +kernel
theorem dX0_lookAt_16 : decode cX0_lookAt 16 = .ok (.aload_n 0, 1) := by decide +kernel
theorem dX0_lookAt_17 : decode cX0_lookAt 17 = .ok (.getfield 12, 3) := by decide +kernel
theorem dX0_lookAt_20 : decode cX0_lookAt 20 = .ok (.getfield 157, 3) := by decide +kernel
theorem dX0_lookAt_23 : decode cX0_lookAt 23 = .ok (.iconst 1, 1) := by decide +kernel
theorem dX0_lookAt_24 : decode cX0_lookAt 24 = .ok (.aload_n 1, 1) := by decide +kernel
theorem dX0_lookAt_25 : decode cX0_lookAt 25 = .ok (.getfield 147, 3) := by decide +kernel
theorem dX0_lookAt_28 : decode cX0_lookAt 28 = .ok (.iload_n 2, 1) := by decide +kernel
theorem dX0_lookAt_29 : decode cX0_lookAt 29 = .ok (.iaload, 1) := by decide +kernel
theorem dX0_lookAt_30 : decode cX0_lookAt 30 = .ok (.i2l, 1) := by decide +kernel
theorem dX0_lookAt_31 : decode cX0_lookAt 31 = .ok (.lastore, 1) := by decide +kernel
theorem dX0_lookAt_32 : decode cX0_lookAt 32 = .ok (.aload_n 0, 1) := by decide +kernel
theorem dX0_lookAt_33 : decode cX0_lookAt 33 = .ok (.getfield 12, 3) := by decide +kernel
theorem dX0_lookAt_36 : decode cX0_lookAt 36 = .ok (.getfield 157, 3) := by decide +kernel
theorem dX0_lookAt_39 : decode cX0_lookAt 39 = .ok (.iconst 2, 1) := by decide +kernel
theorem dX0_lookAt_40 : decode cX0_lookAt 40 = .ok (.iload_n 3, 1) := by decide +kernel
theorem dX0_lookAt_41 : decode cX0_lookAt 41 = .ok (.i2l, 1) := by decide +kernel
theorem dX0_lookAt_42 : decode cX0_lookAt 42 = .ok (.lastore, 1) := by decide +kernel
theorem dX0_lookAt_43 : decode cX0_lookAt 43 = .ok (.aload_n 0, 1) := by decide +kernel
theorem dX0_lookAt_44 : decode cX0_lookAt 44 = .ok (.getfield 12, 3) := by decide +kernel
theorem dX0_lookAt_47 : decode cX0_lookAt 47 = .ok (.getfield 157, 3) := by decide +kernel
theorem dX0_lookAt_50 : decode cX0_lookAt 50 = .ok (.iconst 3, 1) := by decide +kernel
theorem dX0_lookAt_51 : decode cX0_lookAt 51 = .ok (.iload 4, 2) := by decide +kernel
theorem dX0_lookAt_53 : decode cX0_lookAt 53 = .ok (.i2l, 1) := by decide +kernel
theorem dX0_lookAt_54 : decode cX0_lookAt 54 = .ok (.lastore, 1) := by decide +kernel
theorem dX0_lookAt_55 : decode cX0_lookAt 55 = .ok (.aload_n 0, 1) := by decide +kernel
theorem dX0_lookAt_56 : decode cX0_lookAt 56 = .ok (.getfield 12, 3) := by decide +kernel
theorem dX0_lookAt_59 : decode cX0_lookAt 59 = .ok (.getfield 157, 3) := by decide +kernel
theorem dX0_lookAt_62 : decode cX0_lookAt 62 = .ok (.iconst 4, 1) := by decide +kernel
theorem dX0_lookAt_63 : decode cX0_lookAt 63 = .ok (.iload 5, 2) := by decide +kernel
theorem dX0_lookAt_65 : decode cX0_lookAt 65 = .ok (.i2l, 1) := by decide +kernel
theorem dX0_lookAt_66 : decode cX0_lookAt 66 = .ok (.lastore, 1) := by decide +kernel
theorem dX0_lookAt_67 : decode cX0_lookAt 67 = .ok (.aload_n 0, 1) := by decide +kernel
theorem dX0_lookAt_68 : decode cX0_lookAt 68 = .ok (.getfield 12, 3) := by decide +kernel
theorem dX0_lookAt_71 : decode cX0_lookAt 71 = .ok (.getfield 157, 3) := by decide +kernel
theorem dX0_lookAt_74 : decode cX0_lookAt 74 = .ok (.iconst 5, 1) := by decide +kernel
theorem dX0_lookAt_75 : decode cX0_lookAt 75 = .ok (.aload_n 1, 1) := by decide +kernel
theorem dX0_lookAt_76 : decode cX0_lookAt 76 = .ok (.getfield 124, 3) := by decide +kernel
theorem dX0_lookAt_79 : decode cX0_lookAt 79 = .ok (.iload_n 2, 1) := by decide +kernel
theorem dX0_lookAt_80 : decode cX0_lookAt 80 = .ok (.iaload, 1) := by decide +kernel
theorem dX0_lookAt_81 : decode cX0_lookAt 81 = .ok (.invokestatic 161, 3) := by decide +kernel
theorem dX0_lookAt_84 : decode cX0_lookAt 84 = .ok (.i2l, 1) := by decide +kernel
theorem dX0_lookAt_85 : decode cX0_lookAt 85 = .ok (.lastore, 1) := by decide +kernel
theorem dX0_lookAt_86 : decode cX0_lookAt 86 = .ok (.aload_n 0, 1) := by decide +kernel
theorem dX0_lookAt_87 : decode cX0_lookAt 87 = .ok (.getfield 12, 3) := by decide +kernel
theorem dX0_lookAt_90 : decode cX0_lookAt 90 = .ok (.getfield 157, 3) := by decide +kernel
theorem dX0_lookAt_93 : decode cX0_lookAt 93 = .ok (.bipush 6, 2) := by decide +kernel
theorem dX0_lookAt_95 : decode cX0_lookAt 95 = .ok (.aload_n 1, 1) := by decide +kernel
theorem dX0_lookAt_96 : decode cX0_lookAt 96 = .ok (.getfield 48, 3) := by decide +kernel
theorem dX0_lookAt_99 : decode cX0_lookAt 99 = .ok (.i2l, 1) := by decide +kernel
theorem dX0_lookAt_100 : decode cX0_lookAt 100 = .ok (.lastore, 1) := by decide +kernel
theorem dX0_lookAt_101 : decode cX0_lookAt 101 = .ok (.return_, 1) := by decide +kernel
theorem dX0_plainly_0 : decode cX0_plainly 0 = .ok (.aload_n 0, 1) := by decide +kernel
theorem dX0_plainly_1 : decode cX0_plainly 1 = .ok (.getfield 12, 3) := by decide +kernel
theorem dX0_plainly_4 : decode cX0_plainly 4 = .ok (.aload_n 0, 1) := by decide +kernel
theorem dX0_plainly_5 : decode cX0_plainly 5 = .ok (.getfield 18, 3) := by decide +kernel
theorem dX0_plainly_8 : decode cX0_plainly 8 = .ok (.getfield 60, 3) := by decide +kernel
theorem dX0_plainly_11 : decode cX0_plainly 11 = .ok (.iload_n 1, 1) := by decide +kernel
theorem dX0_plainly_12 : decode cX0_plainly 12 = .ok (.aaload, 1) := by decide +kernel
theorem dX0_plainly_13 : decode cX0_plainly 13 = .ok (.invokevirtual 131, 3) := by decide +kernel
theorem dX0_plainly_16 : decode cX0_plainly 16 = .ok (.ifCond .eq 13, 3) := by decide +kernel
theorem dX0_plainly_19 : decode cX0_plainly 19 = .ok (.aload_n 0, 1) := by decide +kernel
theorem dX0_plainly_20 : decode cX0_plainly 20 = .ok (.getfield 12, 3) := by decide +kernel
theorem dX0_plainly_23 : decode cX0_plainly 23 = .ok (.getfield 135, 3) := by decide +kernel
theorem dX0_plainly_26 : decode cX0_plainly 26 = .ok (.goto 6, 3) := by decide +kernel
theorem dX0_plainly_29 : decode cX0_plainly 29 = .ok (.ldc2_w 169, 3) := by decide +kernel
theorem dX0_plainly_32 : decode cX0_plainly 32 = .ok (.lreturn, 1) := by decide +kernel
theorem dX0_cutTo_0 : decode cX0_cutTo 0 = .ok (.lload_n 0, 1) := by decide +kernel
theorem dX0_cutTo_1 : decode cX0_cutTo 1 = .ok (.iload_n 2, 1) := by decide +kernel
theorem dX0_cutTo_2 : decode cX0_cutTo 2 = .ok (.i2l, 1) := by decide +kernel
theorem dX0_cutTo_3 : decode cX0_cutTo 3 = .ok (.lcmp, 1) := by decide +kernel
theorem dX0_cutTo_4 : decode cX0_cutTo 4 = .ok (.ifCond .ge 7, 3) := by decide +kernel
theorem dX0_cutTo_7 : decode cX0_cutTo 7 = .ok (.iload_n 2, 1) := by decide +kernel
theorem dX0_cutTo_8 : decode cX0_cutTo 8 = .ok (.goto 16, 3) := by decide +kernel
theorem dX0_cutTo_11 : decode cX0_cutTo 11 = .ok (.lload_n 0, 1) := by decide +kernel
theorem dX0_cutTo_12 : decode cX0_cutTo 12 = .ok (.iload_n 3, 1) := by decide +kernel
theorem dX0_cutTo_13 : decode cX0_cutTo 13 = .ok (.i2l, 1) := by decide +kernel
theorem dX0_cutTo_14 : decode cX0_cutTo 14 = .ok (.lcmp, 1) := by decide +kernel
theorem dX0_cutTo_15 : decode cX0_cutTo 15 = .ok (.ifCond .le 7, 3) := by decide +kernel
theorem dX0_cutTo_18 : decode cX0_cutTo 18 = .ok (.iload_n 3, 1) := by decide +kernel
theorem dX0_cutTo_19 : decode cX0_cutTo 19 = .ok (.goto 5, 3) := by decide +kernel
theorem dX0_cutTo_22 : decode cX0_cutTo 22 = .ok (.lload_n 0, 1) := by decide +kernel
theorem dX0_cutTo_23 : decode cX0_cutTo 23 = .ok (.l2i, 1) := by decide +kernel
theorem dX0_cutTo_24 : decode cX0_cutTo 24 = .ok (.ireturn, 1) := by decide +kernel
theorem dX1_init_0 : decode cX1_init 0 = .ok (.aload_n 0, 1) := by decide +kernel
theorem dX1_init_1 : decode cX1_init 1 = .ok (.invokespecial 3, 3) := by decide +kernel
theorem dX1_init_4 : decode cX1_init 4 = .ok (.aload_n 0, 1) := by decide +kernel
theorem dX1_init_5 : decode cX1_init 5 = .ok (.bipush 64, 2) := by decide +kernel
theorem dX1_init_7 : decode cX1_init 7 = .ok (.newarray .int, 2) := by decide +kernel
theorem dX1_init_9 : decode cX1_init 9 = .ok (.putfield 9, 3) := by decide +kernel
theorem dX1_init_12 : decode cX1_init 12 = .ok (.return_, 1) := by decide +kernel
theorem dX1_add_0 : decode cX1_add 0 = .ok (.aload_n 0, 1) := by decide +kernel
theorem dX1_add_1 : decode cX1_add 1 = .ok (.getfield 15, 3) := by decide +kernel
theorem dX1_add_4 : decode cX1_add 4 = .ok (.bipush 64, 2) := by decide +kernel
theorem dX1_add_6 : decode cX1_add 6 = .ok (.if_icmp .ge 23, 3) := by decide +kernel
theorem dX1_add_9 : decode cX1_add 9 = .ok (.aload_n 0, 1) := by decide +kernel
theorem dX1_add_10 : decode cX1_add 10 = .ok (.getfield 9, 3) := by decide +kernel
theorem dX1_add_13 : decode cX1_add 13 = .ok (.aload_n 0, 1) := by decide +kernel
theorem dX1_add_14 : decode cX1_add 14 = .ok (.getfield 15, 3) := by decide +kernel
theorem dX1_add_17 : decode cX1_add 17 = .ok (.iload_n 1, 1) := by decide +kernel
theorem dX1_add_18 : decode cX1_add 18 = .ok (.iastore, 1) := by decide +kernel
theorem dX1_add_19 : decode cX1_add 19 = .ok (.aload_n 0, 1) := by decide +kernel
theorem dX1_add_20 : decode cX1_add 20 = .ok (.dup, 1) := by decide +kernel
theorem dX1_add_21 : decode cX1_add 21 = .ok (.getfield 15, 3) := by decide +kernel
theorem dX1_add_24 : decode cX1_add 24 = .ok (.iconst 1, 1) := by decide +kernel
theorem dX1_add_25 : decode cX1_add 25 = .ok (.iadd, 1) := by decide +kernel
theorem dX1_add_26 : decode cX1_add 26 = .ok (.putfield 15, 3) := by decide +kernel
theorem dX1_add_29 : decode cX1_add 29 = .ok (.return_, 1) := by decide +kernel
theorem dX2_init_0 : decode cX2_init 0 = .ok (.aload_n 0, 1) := by decide +kernel
theorem dX2_init_1 : decode cX2_init 1 = .ok (.invokespecial 3, 3) := by decide +kernel
theorem dX2_init_4 : decode cX2_init 4 = .ok (.aload_n 0, 1) := by decide +kernel
theorem dX2_init_5 : decode cX2_init 5 = .ok (.bipush 24, 2) := by decide +kernel
theorem dX2_init_7 : decode cX2_init 7 = .ok (.newarray .int, 2) := by decide +kernel
theorem dX2_init_9 : decode cX2_init 9 = .ok (.putfield 9, 3) := by decide +kernel
theorem dX2_init_12 : decode cX2_init 12 = .ok (.aload_n 0, 1) := by decide +kernel
theorem dX2_init_13 : decode cX2_init 13 = .ok (.bipush 24, 2) := by decide +kernel
theorem dX2_init_15 : decode cX2_init 15 = .ok (.newarray .int, 2) := by decide +kernel
theorem dX2_init_17 : decode cX2_init 17 = .ok (.putfield 15, 3) := by decide +kernel
theorem dX2_init_20 : decode cX2_init 20 = .ok (.aload_n 0, 1) := by decide +kernel
theorem dX2_init_21 : decode cX2_init 21 = .ok (.bipush 24, 2) := by decide +kernel
theorem dX2_init_23 : decode cX2_init 23 = .ok (.newarray .int, 2) := by decide +kernel
theorem dX2_init_25 : decode cX2_init 25 = .ok (.putfield 18, 3) := by decide +kernel
theorem dX2_init_28 : decode cX2_init 28 = .ok (.aload_n 0, 1) := by decide +kernel
theorem dX2_init_29 : decode cX2_init 29 = .ok (.bipush 24, 2) := by decide +kernel
theorem dX2_init_31 : decode cX2_init 31 = .ok (.newarray .int, 2) := by decide +kernel
theorem dX2_init_33 : decode cX2_init 33 = .ok (.putfield 21, 3) := by decide +kernel
theorem dX2_init_36 : decode cX2_init 36 = .ok (.aload_n 0, 1) := by decide +kernel
theorem dX2_init_37 : decode cX2_init 37 = .ok (.bipush 24, 2) := by decide +kernel
theorem dX2_init_39 : decode cX2_init 39 = .ok (.newarray .boolean, 2) := by decide +kernel
theorem dX2_init_41 : decode cX2_init 41 = .ok (.putfield 24, 3) := by decide +kernel
theorem dX2_init_44 : decode cX2_init 44 = .ok (.aload_n 0, 1) := by decide +kernel
theorem dX2_init_45 : decode cX2_init 45 = .ok (.bipush 24, 2) := by decide +kernel
theorem dX2_init_47 : decode cX2_init 47 = .ok (.newarray .boolean, 2) := by decide +kernel
theorem dX2_init_49 : decode cX2_init 49 = .ok (.putfield 28, 3) := by decide +kernel
theorem dX2_init_52 : decode cX2_init 52 = .ok (.aload_n 0, 1) := by decide +kernel
theorem dX2_init_53 : decode cX2_init 53 = .ok (.iconst (-1), 1) := by decide +kernel
theorem dX2_init_54 : decode cX2_init 54 = .ok (.putfield 31, 3) := by decide +kernel
theorem dX2_init_57 : decode cX2_init 57 = .ok (.return_, 1) := by decide +kernel
theorem dX2_clear_0 : decode cX2_clear 0 = .ok (.aload_n 0, 1) := by decide +kernel
theorem dX2_clear_1 : decode cX2_clear 1 = .ok (.iconst 0, 1) := by decide +kernel
theorem dX2_clear_2 : decode cX2_clear 2 = .ok (.putfield 35, 3) := by decide +kernel
theorem dX2_clear_5 : decode cX2_clear 5 = .ok (.aload_n 0, 1) := by decide +kernel
theorem dX2_clear_6 : decode cX2_clear 6 = .ok (.iconst (-1), 1) := by decide +kernel
theorem dX2_clear_7 : decode cX2_clear 7 = .ok (.putfield 31, 3) := by decide +kernel
theorem dX2_clear_10 : decode cX2_clear 10 = .ok (.return_, 1) := by decide +kernel
theorem dX2_add_0 : decode cX2_add 0 = .ok (.aload_n 0, 1) := by decide +kernel
theorem dX2_add_1 : decode cX2_add 1 = .ok (.getfield 35, 3) := by decide +kernel
theorem dX2_add_4 : decode cX2_add 4 = .ok (.bipush 24, 2) := by decide +kernel
theorem dX2_add_6 : decode cX2_add 6 = .ok (.if_icmp .lt 5, 3) := by decide +kernel
theorem dX2_add_9 : decode cX2_add 9 = .ok (.iconst (-1), 1) := by decide +kernel
theorem dX2_add_10 : decode cX2_add 10 = .ok (.ireturn, 1) := by decide +kernel
theorem dX2_add_11 : decode cX2_add 11 = .ok (.aload_n 0, 1) := by decide +kernel
theorem dX2_add_12 : decode cX2_add 12 = .ok (.getfield 9, 3) := by decide +kernel
theorem dX2_add_15 : decode cX2_add 15 = .ok (.aload_n 0, 1) := by decide +kernel
theorem dX2_add_16 : decode cX2_add 16 = .ok (.getfield 35, 3) := by decide +kernel
theorem dX2_add_19 : decode cX2_add 19 = .ok (.iload_n 1, 1) := by decide +kernel
theorem dX2_add_20 : decode cX2_add 20 = .ok (.iastore, 1) := by decide +kernel
theorem dX2_add_21 : decode cX2_add 21 = .ok (.aload_n 0, 1) := by decide +kernel
theorem dX2_add_22 : decode cX2_add 22 = .ok (.getfield 15, 3) := by decide +kernel
theorem dX2_add_25 : decode cX2_add 25 = .ok (.aload_n 0, 1) := by decide +kernel
theorem dX2_add_26 : decode cX2_add 26 = .ok (.getfield 35, 3) := by decide +kernel
theorem dX2_add_29 : decode cX2_add 29 = .ok (.iload_n 2, 1) := by decide +kernel
theorem dX2_add_30 : decode cX2_add 30 = .ok (.iastore, 1) := by decide +kernel
theorem dX2_add_31 : decode cX2_add 31 = .ok (.aload_n 0, 1) := by decide +kernel
theorem dX2_add_32 : decode cX2_add 32 = .ok (.getfield 18, 3) := by decide +kernel
theorem dX2_add_35 : decode cX2_add 35 = .ok (.aload_n 0, 1) := by decide +kernel
theorem dX2_add_36 : decode cX2_add 36 = .ok (.getfield 35, 3) := by decide +kernel
theorem dX2_add_39 : decode cX2_add 39 = .ok (.iload_n 3, 1) := by decide +kernel
theorem dX2_add_40 : decode cX2_add 40 = .ok (.iastore, 1) := by decide +kernel
theorem dX2_add_41 : decode cX2_add 41 = .ok (.aload_n 0, 1) := by decide +kernel
theorem dX2_add_42 : decode cX2_add 42 = .ok (.getfield 21, 3) := by decide +kernel
theorem dX2_add_45 : decode cX2_add 45 = .ok (.aload_n 0, 1) := by decide +kernel
theorem dX2_add_46 : decode cX2_add 46 = .ok (.getfield 35, 3) := by decide +kernel
theorem dX2_add_49 : decode cX2_add 49 = .ok (.iload 4, 2) := by decide +kernel
theorem dX2_add_51 : decode cX2_add 51 = .ok (.iastore, 1) := by decide +kernel
theorem dX2_add_52 : decode cX2_add 52 = .ok (.aload_n 0, 1) := by decide +kernel
theorem dX2_add_53 : decode cX2_add 53 = .ok (.getfield 24, 3) := by decide +kernel
theorem dX2_add_56 : decode cX2_add 56 = .ok (.aload_n 0, 1) := by decide +kernel
theorem dX2_add_57 : decode cX2_add 57 = .ok (.getfield 35, 3) := by decide +kernel
theorem dX2_add_60 : decode cX2_add 60 = .ok (.iload 5, 2) := by decide +kernel
theorem dX2_add_62 : decode cX2_add 62 = .ok (.bastore, 1) := by decide +kernel
theorem dX2_add_63 : decode cX2_add 63 = .ok (.aload_n 0, 1) := by decide +kernel
theorem dX2_add_64 : decode cX2_add 64 = .ok (.dup, 1) := by decide +kernel
theorem dX2_add_65 : decode cX2_add 65 = .ok (.getfield 35, 3) := by decide +kernel
theorem dX2_add_68 : decode cX2_add 68 = .ok (.iconst 1, 1) := by decide +kernel
theorem dX2_add_69 : decode cX2_add 69 = .ok (.iadd, 1) := by decide +kernel
theorem dX2_add_70 : decode cX2_add 70 = .ok (.putfield 35, 3) := by decide +kernel
theorem dX2_add_73 : decode cX2_add 73 = .ok (.aload_n 0, 1) := by decide +kernel
theorem dX2_add_74 : decode cX2_add 74 = .ok (.getfield 35, 3) := by decide +kernel
theorem dX2_add_77 : decode cX2_add 77 = .ok (.iconst 1, 1) := by decide +kernel
theorem dX2_add_78 : decode cX2_add 78 = .ok (.isub, 1) := by decide +kernel
theorem dX2_add_79 : decode cX2_add 79 = .ok (.ireturn, 1) := by decide +kernel
theorem dX2_counted_0 : decode cX2_counted 0 = .ok (.aload_n 0, 1) := by decide +kernel
theorem dX2_counted_1 : decode cX2_counted 1 = .ok (.getfield 31, 3) := by decide +kernel
theorem dX2_counted_4 : decode cX2_counted 4 = .ok (.iconst (-1), 1) := by decide +kernel
theorem dX2_counted_5 : decode cX2_counted 5 = .ok (.if_icmp .ne 10, 3) := by decide +kernel
theorem dX2_counted_8 : decode cX2_counted 8 = .ok (.aload_n 0, 1) := by decide +kernel
theorem dX2_counted_9 : decode cX2_counted 9 = .ok (.getfield 35, 3) := by decide +kernel
theorem dX2_counted_12 : decode cX2_counted 12 = .ok (.goto 7, 3) := by decide +kernel
theorem dX2_counted_15 : decode cX2_counted 15 = .ok (.aload_n 0, 1) := by decide +kernel
theorem dX2_counted_16 : decode cX2_counted 16 = .ok (.getfield 31, 3) := by decide +kernel
theorem dX2_counted_19 : decode cX2_counted 19 = .ok (.ireturn, 1) := by decide +kernel
theorem dX2_settle_0 : decode cX2_settle 0 = .ok (.aload_n 0, 1) := by decide +kernel
theorem dX2_settle_1 : decode cX2_settle 1 = .ok (.invokevirtual 38, 3) := by decide +kernel
theorem dX2_settle_4 : decode cX2_settle 4 = .ok (.istore_n 1, 1) := by decide +kernel
theorem dX2_settle_5 : decode cX2_settle 5 = .ok (.iconst 0, 1) := by decide +kernel
theorem dX2_settle_6 : decode cX2_settle 6 = .ok (.istore_n 2, 1) := by decide +kernel
theorem dX2_settle_7 : decode cX2_settle 7 = .ok (.iload_n 2, 1) := by decide +kernel
theorem dX2_settle_8 : decode cX2_settle 8 = .ok (.aload_n 0, 1) := by decide +kernel
theorem dX2_settle_9 : decode cX2_settle 9 = .ok (.getfield 35, 3) := by decide +kernel
theorem dX2_settle_12 : decode cX2_settle 12 = .ok (.if_icmp .ge 25, 3) := by decide +kernel
theorem dX2_settle_15 : decode cX2_settle 15 = .ok (.aload_n 0, 1) := by decide +kernel
theorem dX2_settle_16 : decode cX2_settle 16 = .ok (.getfield 28, 3) := by decide +kernel
theorem dX2_settle_19 : decode cX2_settle 19 = .ok (.iload_n 2, 1) := by decide +kernel
theorem dX2_settle_20 : decode cX2_settle 20 = .ok (.iload_n 2, 1) := by decide +kernel
theorem dX2_settle_21 : decode cX2_settle 21 = .ok (.iload_n 1, 1) := by decide +kernel
theorem dX2_settle_22 : decode cX2_settle 22 = .ok (.if_icmp .ge 7, 3) := by decide +kernel
theorem dX2_settle_25 : decode cX2_settle 25 = .ok (.iconst 1, 1) := by decide +kernel
theorem dX2_settle_26 : decode cX2_settle 26 = .ok (.goto 4, 3) := by decide +kernel
theorem dX2_settle_29 : decode cX2_settle 29 = .ok (.iconst 0, 1) := by decide +kernel
theorem dX2_settle_30 : decode cX2_settle 30 = .ok (.bastore, 1) := by decide +kernel
theorem dX2_settle_31 : decode cX2_settle 31 = .ok (.iinc 2 1, 3) := by decide +kernel
theorem dX2_settle_34 : decode cX2_settle 34 = .ok (.goto (-27), 3) := by decide +kernel
theorem dX2_settle_37 : decode cX2_settle 37 = .ok (.iload_n 1, 1) := by decide +kernel
theorem dX2_settle_38 : decode cX2_settle 38 = .ok (.iconst 1, 1) := by decide +kernel
theorem dX2_settle_39 : decode cX2_settle 39 = .ok (.isub, 1) := by decide +kernel
theorem dX2_settle_40 : decode cX2_settle 40 = .ok (.istore_n 2, 1) := by decide +kernel
theorem dX2_settle_41 : decode cX2_settle 41 = .ok (.iload_n 2, 1) := by decide +kernel
theorem dX2_settle_42 : decode cX2_settle 42 = .ok (.ifCond .lt 40, 3) := by decide +kernel
theorem dX2_settle_45 : decode cX2_settle 45 = .ok (.aload_n 0, 1) := by decide +kernel
theorem dX2_settle_46 : decode cX2_settle 46 = .ok (.getfield 28, 3) := by decide +kernel
theorem dX2_settle_49 : decode cX2_settle 49 = .ok (.iload_n 2, 1) := by decide +kernel
theorem dX2_settle_50 : decode cX2_settle 50 = .ok (.baload, 1) := by decide +kernel
theorem dX2_settle_51 : decode cX2_settle 51 = .ok (.ifCond .eq 25, 3) := by decide +kernel
theorem dX2_settle_54 : decode cX2_settle 54 = .ok (.aload_n 0, 1) := by decide +kernel
theorem dX2_settle_55 : decode cX2_settle 55 = .ok (.getfield 9, 3) := by decide +kernel
theorem dX2_settle_58 : decode cX2_settle 58 = .ok (.iload_n 2, 1) := by decide +kernel
theorem dX2_settle_59 : decode cX2_settle 59 = .ok (.iaload, 1) := by decide +kernel
theorem dX2_settle_60 : decode cX2_settle 60 = .ok (.iconst 2, 1) := by decide +kernel
theorem dX2_settle_61 : decode cX2_settle 61 = .ok (.if_icmp .ne 15, 3) := by decide +kernel
theorem dX2_settle_64 : decode cX2_settle 64 = .ok (.aload_n 0, 1) := by decide +kernel
theorem dX2_settle_65 : decode cX2_settle 65 = .ok (.getfield 28, 3) := by decide +kernel
theorem dX2_settle_68 : decode cX2_settle 68 = .ok (.aload_n 0, 1) := by decide +kernel
theorem dX2_settle_69 : decode cX2_settle 69 = .ok (.getfield 15, 3) := by decide +kernel
theorem dX2_settle_72 : decode cX2_settle 72 = .ok (.iload_n 2, 1) := by decide +kernel
theorem dX2_settle_73 : decode cX2_settle 73 = .ok (.iaload, 1) := by decide +kernel
theorem dX2_settle_74 : decode cX2_settle 74 = .ok (.iconst 0, 1) := by decide +kernel
theorem dX2_settle_75 : decode cX2_settle 75 = .ok (.bastore, 1) := by decide +kernel
theorem dX2_settle_76 : decode cX2_settle 76 = .ok (.iinc 2 (-1), 3) := by decide +kernel
theorem dX2_settle_79 : decode cX2_settle 79 = .ok (.goto (-38), 3) := by decide +kernel
theorem dX2_settle_82 : decode cX2_settle 82 = .ok (.return_, 1) := by decide +kernel
theorem dX2_mayBe_0 : decode cX2_mayBe 0 = .ok (.iconst 0, 1) := by decide +kernel
theorem dX2_mayBe_1 : decode cX2_mayBe 1 = .ok (.istore_n 3, 1) := by decide +kernel
theorem dX2_mayBe_2 : decode cX2_mayBe 2 = .ok (.iload_n 3, 1) := by decide +kernel
theorem dX2_mayBe_3 : decode cX2_mayBe 3 = .ok (.aload_n 0, 1) := by decide +kernel
theorem dX2_mayBe_4 : decode cX2_mayBe 4 = .ok (.getfield 35, 3) := by decide +kernel
theorem dX2_mayBe_7 : decode cX2_mayBe 7 = .ok (.if_icmp .ge 63, 3) := by decide +kernel
theorem dX2_mayBe_10 : decode cX2_mayBe 10 = .ok (.aload_n 0, 1) := by decide +kernel
theorem dX2_mayBe_11 : decode cX2_mayBe 11 = .ok (.getfield 28, 3) := by decide +kernel
theorem dX2_mayBe_14 : decode cX2_mayBe 14 = .ok (.iload_n 3, 1) := by decide +kernel
theorem dX2_mayBe_15 : decode cX2_mayBe 15 = .ok (.baload, 1) := by decide +kernel
theorem dX2_mayBe_16 : decode cX2_mayBe 16 = .ok (.ifCond .eq 48, 3) := by decide +kernel
theorem dX2_mayBe_19 : decode cX2_mayBe 19 = .ok (.aload_n 0, 1) := by decide +kernel
theorem dX2_mayBe_20 : decode cX2_mayBe 20 = .ok (.getfield 9, 3) := by decide +kernel
theorem dX2_mayBe_23 : decode cX2_mayBe 23 = .ok (.iload_n 3, 1) := by decide +kernel
theorem dX2_mayBe_24 : decode cX2_mayBe 24 = .ok (.iaload, 1) := by decide +kernel
theorem dX2_mayBe_25 : decode cX2_mayBe 25 = .ok (.ifCond .ne 39, 3) := by decide +kernel
theorem dX2_mayBe_28 : decode cX2_mayBe 28 = .ok (.aload_n 1, 1) := by decide +kernel
theorem dX2_mayBe_29 : decode cX2_mayBe 29 = .ok (.iload_n 2, 1) := by decide +kernel
theorem dX2_mayBe_30 : decode cX2_mayBe 30 = .ok (.aload_n 0, 1) := by decide +kernel
theorem dX2_mayBe_31 : decode cX2_mayBe 31 = .ok (.getfield 15, 3) := by decide +kernel
theorem dX2_mayBe_34 : decode cX2_mayBe 34 = .ok (.iload_n 3, 1) := by decide +kernel
theorem dX2_mayBe_35 : decode cX2_mayBe 35 = .ok (.iaload, 1) := by decide +kernel
theorem dX2_mayBe_36 : decode cX2_mayBe 36 = .ok (.invokevirtual 42, 3) := by decide +kernel
theorem dX2_mayBe_39 : decode cX2_mayBe 39 = .ok (.aload_n 0, 1) := by decide +kernel
theorem dX2_mayBe_40 : decode cX2_mayBe 40 = .ok (.getfield 18, 3) := by decide +kernel
theorem dX2_mayBe_43 : decode cX2_mayBe 43 = .ok (.iload_n 3, 1) := by decide +kernel
theorem dX2_mayBe_44 : decode cX2_mayBe 44 = .ok (.iaload, 1) := by decide +kernel
theorem dX2_mayBe_45 : decode cX2_mayBe 45 = .ok (.if_icmp .ne 7, 3) := by decide +kernel
theorem dX2_mayBe_48 : decode cX2_mayBe 48 = .ok (.iconst 1, 1) := by decide +kernel
theorem dX2_mayBe_49 : decode cX2_mayBe 49 = .ok (.goto 4, 3) := by decide +kernel
theorem dX2_mayBe_52 : decode cX2_mayBe 52 = .ok (.iconst 0, 1) := by decide +kernel
theorem dX2_mayBe_53 : decode cX2_mayBe 53 = .ok (.aload_n 0, 1) := by decide +kernel
theorem dX2_mayBe_54 : decode cX2_mayBe 54 = .ok (.getfield 24, 3) := by decide +kernel
theorem dX2_mayBe_57 : decode cX2_mayBe 57 = .ok (.iload_n 3, 1) := by decide +kernel
theorem dX2_mayBe_58 : decode cX2_mayBe 58 = .ok (.baload, 1) := by decide +kernel
theorem dX2_mayBe_59 : decode cX2_mayBe 59 = .ok (.if_icmp .eq 5, 3) := by decide +kernel
theorem dX2_mayBe_62 : decode cX2_mayBe 62 = .ok (.iconst 0, 1) := by decide +kernel
theorem dX2_mayBe_63 : decode cX2_mayBe 63 = .ok (.ireturn, 1) := by decide +kernel
theorem dX2_mayBe_64 : decode cX2_mayBe 64 = .ok (.iinc 3 1, 3) := by decide +kernel
theorem dX2_mayBe_67 : decode cX2_mayBe 67 = .ok (.goto (-65), 3) := by decide +kernel
theorem dX2_mayBe_70 : decode cX2_mayBe 70 = .ok (.iconst 1, 1) := by decide +kernel
theorem dX2_mayBe_71 : decode cX2_mayBe 71 = .ok (.ireturn, 1) := by decide +kernel
theorem dX2_lastSight_0 : decode cX2_lastSight 0 = .ok (.iconst 0, 1) := by decide +kernel
theorem dX2_lastSight_1 : decode cX2_lastSight 1 = .ok (.istore_n 1, 1) := by decide +kernel
theorem dX2_lastSight_2 : decode cX2_lastSight 2 = .ok (.iconst 0, 1) := by decide +kernel
theorem dX2_lastSight_3 : decode cX2_lastSight 3 = .ok (.istore_n 2, 1) := by decide +kernel
theorem dX2_lastSight_4 : decode cX2_lastSight 4 = .ok (.iload_n 2, 1) := by decide +kernel
theorem dX2_lastSight_5 : decode cX2_lastSight 5 = .ok (.aload_n 0, 1) := by decide +kernel
theorem dX2_lastSight_6 : decode cX2_lastSight 6 = .ok (.getfield 35, 3) := by decide +kernel
theorem dX2_lastSight_9 : decode cX2_lastSight 9 = .ok (.if_icmp .ge 39, 3) := by decide +kernel
theorem dX2_lastSight_12 : decode cX2_lastSight 12 = .ok (.aload_n 0, 1) := by decide +kernel
theorem dX2_lastSight_13 : decode cX2_lastSight 13 = .ok (.getfield 28, 3) := by decide +kernel
theorem dX2_lastSight_16 : decode cX2_lastSight 16 = .ok (.iload_n 2, 1) := by decide +kernel
theorem dX2_lastSight_17 : decode cX2_lastSight 17 = .ok (.baload, 1) := by decide +kernel
theorem dX2_lastSight_18 : decode cX2_lastSight 18 = .ok (.ifCond .eq 24, 3) := by decide +kernel
theorem dX2_lastSight_21 : decode cX2_lastSight 21 = .ok (.aload_n 0, 1) := by decide +kernel
theorem dX2_lastSight_22 : decode cX2_lastSight 22 = .ok (.getfield 9, 3) := by decide +kernel
theorem dX2_lastSight_25 : decode cX2_lastSight 25 = .ok (.iload_n 2, 1) := by decide +kernel
theorem dX2_lastSight_26 : decode cX2_lastSight 26 = .ok (.iaload, 1) := by decide +kernel
theorem dX2_lastSight_27 : decode cX2_lastSight 27 = .ok (.iconst 1, 1) := by decide +kernel
theorem dX2_lastSight_28 : decode cX2_lastSight 28 = .ok (.if_icmp .ne 14, 3) := by decide +kernel
theorem dX2_lastSight_31 : decode cX2_lastSight 31 = .ok (.iload_n 1, 1) := by decide +kernel
theorem dX2_lastSight_32 : decode cX2_lastSight 32 = .ok (.aload_n 0, 1) := by decide +kernel
theorem dX2_lastSight_33 : decode cX2_lastSight 33 = .ok (.getfield 15, 3) := by decide +kernel
theorem dX2_lastSight_36 : decode cX2_lastSight 36 = .ok (.iload_n 2, 1) := by decide +kernel
theorem dX2_lastSight_37 : decode cX2_lastSight 37 = .ok (.iaload, 1) := by decide +kernel
theorem dX2_lastSight_38 : decode cX2_lastSight 38 = .ok (.invokestatic 48, 3) := by decide +kernel
theorem dX2_lastSight_41 : decode cX2_lastSight 41 = .ok (.istore_n 1, 1) := by decide +kernel
theorem dX2_lastSight_42 : decode cX2_lastSight 42 = .ok (.iinc 2 1, 3) := by decide +kernel
theorem dX2_lastSight_45 : decode cX2_lastSight 45 = .ok (.goto (-41), 3) := by decide +kernel
theorem dX2_lastSight_48 : decode cX2_lastSight 48 = .ok (.iload_n 1, 1) := by decide +kernel
theorem dX2_lastSight_49 : decode cX2_lastSight 49 = .ok (.ireturn, 1) := by decide +kernel
theorem dX2_isSeen_0 : decode cX2_isSeen 0 = .ok (.iconst 0, 1) := by decide +kernel
theorem dX2_isSeen_1 : decode cX2_isSeen 1 = .ok (.istore_n 3, 1) := by decide +kernel
theorem dX2_isSeen_2 : decode cX2_isSeen 2 = .ok (.iload_n 3, 1) := by decide +kernel
theorem dX2_isSeen_3 : decode cX2_isSeen 3 = .ok (.aload_n 0, 1) := by decide +kernel
theorem dX2_isSeen_4 : decode cX2_isSeen 4 = .ok (.getfield 35, 3) := by decide +kernel
theorem dX2_isSeen_7 : decode cX2_isSeen 7 = .ok (.if_icmp .ge 65, 3) := by decide +kernel
theorem dX2_isSeen_10 : decode cX2_isSeen 10 = .ok (.aload_n 0, 1) := by decide +kernel
theorem dX2_isSeen_11 : decode cX2_isSeen 11 = .ok (.getfield 28, 3) := by decide +kernel
theorem dX2_isSeen_14 : decode cX2_isSeen 14 = .ok (.iload_n 3, 1) := by decide +kernel
theorem dX2_isSeen_15 : decode cX2_isSeen 15 = .ok (.baload, 1) := by decide +kernel
theorem dX2_isSeen_16 : decode cX2_isSeen 16 = .ok (.ifCond .eq 50, 3) := by decide +kernel
theorem dX2_isSeen_19 : decode cX2_isSeen 19 = .ok (.aload_n 0, 1) := by decide +kernel
theorem dX2_isSeen_20 : decode cX2_isSeen 20 = .ok (.getfield 9, 3) := by decide +kernel
theorem dX2_isSeen_23 : decode cX2_isSeen 23 = .ok (.iload_n 3, 1) := by decide +kernel
theorem dX2_isSeen_24 : decode cX2_isSeen 24 = .ok (.iaload, 1) := by decide +kernel
theorem dX2_isSeen_25 : decode cX2_isSeen 25 = .ok (.iconst 1, 1) := by decide +kernel
theorem dX2_isSeen_26 : decode cX2_isSeen 26 = .ok (.if_icmp .ne 40, 3) := by decide +kernel
theorem dX2_isSeen_29 : decode cX2_isSeen 29 = .ok (.aload_n 0, 1) := by decide +kernel
theorem dX2_isSeen_30 : decode cX2_isSeen 30 = .ok (.getfield 15, 3) := by decide +kernel
theorem dX2_isSeen_33 : decode cX2_isSeen 33 = .ok (.iload_n 3, 1) := by decide +kernel
theorem dX2_isSeen_34 : decode cX2_isSeen 34 = .ok (.iaload, 1) := by decide +kernel
theorem dX2_isSeen_35 : decode cX2_isSeen 35 = .ok (.iload_n 2, 1) := by decide +kernel
theorem dX2_isSeen_36 : decode cX2_isSeen 36 = .ok (.if_icmp .ne 30, 3) := by decide +kernel
theorem dX2_isSeen_39 : decode cX2_isSeen 39 = .ok (.aload_n 1, 1) := by decide +kernel
theorem dX2_isSeen_40 : decode cX2_isSeen 40 = .ok (.aload_n 0, 1) := by decide +kernel
theorem dX2_isSeen_41 : decode cX2_isSeen 41 = .ok (.getfield 18, 3) := by decide +kernel
theorem dX2_isSeen_44 : decode cX2_isSeen 44 = .ok (.iload_n 3, 1) := by decide +kernel
theorem dX2_isSeen_45 : decode cX2_isSeen 45 = .ok (.iaload, 1) := by decide +kernel
theorem dX2_isSeen_46 : decode cX2_isSeen 46 = .ok (.aload_n 0, 1) := by decide +kernel
theorem dX2_isSeen_47 : decode cX2_isSeen 47 = .ok (.getfield 21, 3) := by decide +kernel
theorem dX2_isSeen_50 : decode cX2_isSeen 50 = .ok (.iload_n 3, 1) := by decide +kernel
theorem dX2_isSeen_51 : decode cX2_isSeen 51 = .ok (.iaload, 1) := by decide +kernel
theorem dX2_isSeen_52 : decode cX2_isSeen 52 = .ok (.invokevirtual 53, 3) := by decide +kernel
theorem dX2_isSeen_55 : decode cX2_isSeen 55 = .ok (.aload_n 0, 1) := by decide +kernel
theorem dX2_isSeen_56 : decode cX2_isSeen 56 = .ok (.getfield 24, 3) := by decide +kernel
theorem dX2_isSeen_59 : decode cX2_isSeen 59 = .ok (.iload_n 3, 1) := by decide +kernel
theorem dX2_isSeen_60 : decode cX2_isSeen 60 = .ok (.baload, 1) := by decide +kernel
theorem dX2_isSeen_61 : decode cX2_isSeen 61 = .ok (.if_icmp .eq 5, 3) := by decide +kernel
theorem dX2_isSeen_64 : decode cX2_isSeen 64 = .ok (.iconst 0, 1) := by decide +kernel
theorem dX2_isSeen_65 : decode cX2_isSeen 65 = .ok (.ireturn, 1) := by decide +kernel
theorem dX2_isSeen_66 : decode cX2_isSeen 66 = .ok (.iinc 3 1, 3) := by decide +kernel
theorem dX2_isSeen_69 : decode cX2_isSeen 69 = .ok (.goto (-67), 3) := by decide +kernel
theorem dX2_isSeen_72 : decode cX2_isSeen 72 = .ok (.iconst 1, 1) := by decide +kernel
theorem dX2_isSeen_73 : decode cX2_isSeen 73 = .ok (.ireturn, 1) := by decide +kernel
theorem dX3_init_0 : decode cX3_init 0 = .ok (.aload_n 0, 1) := by decide +kernel
theorem dX3_init_1 : decode cX3_init 1 = .ok (.invokespecial 5, 3) := by decide +kernel
theorem dX3_init_4 : decode cX3_init 4 = .ok (.aload_n 0, 1) := by decide +kernel
theorem dX3_init_5 : decode cX3_init 5 = .ok (.bipush 100, 2) := by decide +kernel
theorem dX3_init_7 : decode cX3_init 7 = .ok (.newarray .boolean, 2) := by decide +kernel
theorem dX3_init_9 : decode cX3_init 9 = .ok (.putfield 11, 3) := by decide +kernel
theorem dX3_init_12 : decode cX3_init 12 = .ok (.aload_n 0, 1) := by decide +kernel
theorem dX3_init_13 : decode cX3_init 13 = .ok (.bipush 100, 2) := by decide +kernel
theorem dX3_init_15 : decode cX3_init 15 = .ok (.newarray .boolean, 2) := by decide +kernel
theorem dX3_init_17 : decode cX3_init 17 = .ok (.putfield 15, 3) := by decide +kernel
theorem dX3_init_20 : decode cX3_init 20 = .ok (.aload_n 0, 1) := by decide +kernel
theorem dX3_init_21 : decode cX3_init 21 = .ok (.sipush 1600, 3) := by decide +kernel
theorem dX3_init_24 : decode cX3_init 24 = .ok (.newarray .boolean, 2) := by decide +kernel
theorem dX3_init_26 : decode cX3_init 26 = .ok (.putfield 18, 3) := by decide +kernel
theorem dX3_init_29 : decode cX3_init 29 = .ok (.aload_n 0, 1) := by decide +kernel
theorem dX3_init_30 : decode cX3_init 30 = .ok (.iconst 4, 1) := by decide +kernel
theorem dX3_init_31 : decode cX3_init 31 = .ok (.newarray .int, 2) := by decide +kernel
theorem dX3_init_33 : decode cX3_init 33 = .ok (.putfield 21, 3) := by decide +kernel
theorem dX3_init_36 : decode cX3_init 36 = .ok (.aload_n 0, 1) := by decide +kernel
theorem dX3_init_37 : decode cX3_init 37 = .ok (.iconst 4, 1) := by decide +kernel
theorem dX3_init_38 : decode cX3_init 38 = .ok (.newarray .int, 2) := by decide +kernel
theorem dX3_init_40 : decode cX3_init 40 = .ok (.putfield 25, 3) := by decide +kernel
theorem dX3_init_43 : decode cX3_init 43 = .ok (.aload_n 0, 1) := by decide +kernel
theorem dX3_init_44 : decode cX3_init 44 = .ok (.iconst 4, 1) := by decide +kernel
theorem dX3_init_45 : decode cX3_init 45 = .ok (.newarray .int, 2) := by decide +kernel
theorem dX3_init_47 : decode cX3_init 47 = .ok (.putfield 28, 3) := by decide +kernel
theorem dX3_init_50 : decode cX3_init 50 = .ok (.aload_n 0, 1) := by decide +kernel
theorem dX3_init_51 : decode cX3_init 51 = .ok (.aload_n 1, 1) := by decide +kernel
theorem dX3_init_52 : decode cX3_init 52 = .ok (.putfield 31, 3) := by decide +kernel
theorem dX3_init_55 : decode cX3_init 55 = .ok (.return_, 1) := by decide +kernel
theorem dX3_findPrivate_0 : decode cX3_findPrivate 0 = .ok (.aload_n 1, 1) := by decide +kernel
theorem dX3_findPrivate_1 : decode cX3_findPrivate 1 = .ok (.getfield 35, 3) := by decide +kernel
theorem dX3_findPrivate_4 : decode cX3_findPrivate 4 = .ok (.iload_n 2, 1) := by decide +kernel
theorem dX3_findPrivate_5 : decode cX3_findPrivate 5 = .ok (.iaload, 1) := by decide +kernel
theorem dX3_findPrivate_6 : decode cX3_findPrivate 6 = .ok (.istore 4, 2) := by decide +kernel
theorem dX3_findPrivate_8 : decode cX3_findPrivate 8 = .ok (.aload_n 1, 1) := by decide +kernel
theorem dX3_findPrivate_9 : decode cX3_findPrivate 9 = .ok (.getfield 35, 3) := by decide +kernel
theorem dX3_findPrivate_12 : decode cX3_findPrivate 12 = .ok (.iload_n 3, 1) := by decide +kernel
theorem dX3_findPrivate_13 : decode cX3_findPrivate 13 = .ok (.iaload, 1) := by decide +kernel
theorem dX3_findPrivate_14 : decode cX3_findPrivate 14 = .ok (.istore 5, 2) := by decide +kernel
theorem dX3_findPrivate_16 : decode cX3_findPrivate 16 = .ok (.aload_n 0, 1) := by decide +kernel
theorem dX3_findPrivate_17 : decode cX3_findPrivate 17 = .ok (.aload_n 1, 1) := by decide +kernel
theorem dX3_findPrivate_18 : decode cX3_findPrivate 18 = .ok (.iload_n 2, 1) := by decide +kernel
theorem dX3_findPrivate_19 : decode cX3_findPrivate 19 = .ok (.iload_n 3, 1) := by decide +kernel
theorem dX3_findPrivate_20 : decode cX3_findPrivate 20 = .ok (.aload_n 0, 1) := by decide +kernel
theorem dX3_findPrivate_21 : decode cX3_findPrivate 21 = .ok (.getfield 11, 3) := by decide +kernel
theorem dX3_findPrivate_24 : decode cX3_findPrivate 24 = .ok (.invokevirtual 40, 3) := by decide +kernel
theorem dX3_findPrivate_27 : decode cX3_findPrivate 27 = .ok (.aload_n 0, 1) := by decide +kernel
theorem dX3_findPrivate_28 : decode cX3_findPrivate 28 = .ok (.aload_n 1, 1) := by decide +kernel
theorem dX3_findPrivate_29 : decode cX3_findPrivate 29 = .ok (.iload_n 3, 1) := by decide +kernel
theorem dX3_findPrivate_30 : decode cX3_findPrivate 30 = .ok (.iload_n 2, 1) := by decide +kernel
theorem dX3_findPrivate_31 : decode cX3_findPrivate 31 = .ok (.aload_n 0, 1) := by decide +kernel
theorem dX3_findPrivate_32 : decode cX3_findPrivate 32 = .ok (.getfield 15, 3) := by decide +kernel
theorem dX3_findPrivate_35 : decode cX3_findPrivate 35 = .ok (.invokevirtual 40, 3) := by decide +kernel
theorem dX3_findPrivate_38 : decode cX3_findPrivate 38 = .ok (.iconst 0, 1) := by decide +kernel
theorem dX3_findPrivate_39 : decode cX3_findPrivate 39 = .ok (.istore 6, 2) := by decide +kernel
theorem dX3_findPrivate_41 : decode cX3_findPrivate 41 = .ok (.iload 6, 2) := by decide +kernel
theorem dX3_findPrivate_43 : decode cX3_findPrivate 43 = .ok (.sipush 198, 3) := by decide +kernel
theorem dX3_findPrivate_46 : decode cX3_findPrivate 46 = .ok (.if_icmp .gt 134, 3) := by decide +kernel
theorem dX3_findPrivate_49 : decode cX3_findPrivate 49 = .ok (.bipush 99, 2) := by decide +kernel
theorem dX3_findPrivate_51 : decode cX3_findPrivate 51 = .ok (.iload 4, 2) := by decide +kernel
theorem dX3_findPrivate_53 : decode cX3_findPrivate 53 = .ok (.iload 6, 2) := by decide +kernel
theorem dX3_findPrivate_55 : decode cX3_findPrivate 55 = .ok (.iadd, 1) := by decide +kernel
theorem dX3_findPrivate_56 : decode cX3_findPrivate 56 = .ok (.invokestatic 44, 3) := by decide +kernel
theorem dX3_findPrivate_59 : decode cX3_findPrivate 59 = .ok (.istore 7, 2) := by decide +kernel
theorem dX3_findPrivate_61 : decode cX3_findPrivate 61 = .ok (.iconst 0, 1) := by decide +kernel
theorem dX3_findPrivate_62 : decode cX3_findPrivate 62 = .ok (.iload 4, 2) := by decide +kernel
theorem dX3_findPrivate_64 : decode cX3_findPrivate 64 = .ok (.iload 6, 2) := by decide +kernel
theorem dX3_findPrivate_66 : decode cX3_findPrivate 66 = .ok (.isub, 1) := by decide +kernel
theorem dX3_findPrivate_67 : decode cX3_findPrivate 67 = .ok (.invokestatic 50, 3) := by decide +kernel
theorem dX3_findPrivate_70 : decode cX3_findPrivate 70 = .ok (.istore 8, 2) := by decide +kernel
theorem dX3_findPrivate_72 : decode cX3_findPrivate 72 = .ok (.iload 8, 2) := by decide +kernel
theorem dX3_findPrivate_74 : decode cX3_findPrivate 74 = .ok (.iload 7, 2) := by decide +kernel
theorem dX3_findPrivate_76 : decode cX3_findPrivate 76 = .ok (.if_icmp .gt 98, 3) := by decide +kernel
theorem dX3_findPrivate_79 : decode cX3_findPrivate 79 = .ok (.iload 6, 2) := by decide +kernel
theorem dX3_findPrivate_81 : decode cX3_findPrivate 81 = .ok (.iload 8, 2) := by decide +kernel
theorem dX3_findPrivate_83 : decode cX3_findPrivate 83 = .ok (.iload 4, 2) := by decide +kernel
theorem dX3_findPrivate_85 : decode cX3_findPrivate 85 = .ok (.isub, 1) := by decide +kernel
theorem dX3_findPrivate_86 : decode cX3_findPrivate 86 = .ok (.invokestatic 53, 3) := by decide +kernel
theorem dX3_findPrivate_89 : decode cX3_findPrivate 89 = .ok (.isub, 1) := by decide +kernel
theorem dX3_findPrivate_90 : decode cX3_findPrivate 90 = .ok (.istore 9, 2) := by decide +kernel
theorem dX3_findPrivate_92 : decode cX3_findPrivate 92 = .ok (.aload_n 1, 1) := by decide +kernel
theorem dX3_findPrivate_93 : decode cX3_findPrivate 93 = .ok (.getfield 35, 3) := by decide +kernel
theorem dX3_findPrivate_96 : decode cX3_findPrivate 96 = .ok (.iload_n 2, 1) := by decide +kernel
theorem dX3_findPrivate_97 : decode cX3_findPrivate 97 = .ok (.iload 8, 2) := by decide +kernel
theorem dX3_findPrivate_99 : decode cX3_findPrivate 99 = .ok (.iastore, 1) := by decide +kernel
theorem dX3_findPrivate_100 : decode cX3_findPrivate 100 = .ok (.aload_n 0, 1) := by decide +kernel
theorem dX3_findPrivate_101 : decode cX3_findPrivate 101 = .ok (.getfield 11, 3) := by decide +kernel
theorem dX3_findPrivate_104 : decode cX3_findPrivate 104 = .ok (.iload 8, 2) := by decide +kernel
theorem dX3_findPrivate_106 : decode cX3_findPrivate 106 = .ok (.baload, 1) := by decide +kernel
theorem dX3_findPrivate_107 : decode cX3_findPrivate 107 = .ok (.ifCond .eq 61, 3) := by decide +kernel
theorem dX3_findPrivate_110 : decode cX3_findPrivate 110 = .ok (.aload_n 0, 1) := by decide +kernel
theorem dX3_findPrivate_111 : decode cX3_findPrivate 111 = .ok (.aload_n 1, 1) := by decide +kernel
theorem dX3_findPrivate_112 : decode cX3_findPrivate 112 = .ok (.iload_n 2, 1) := by decide +kernel
theorem dX3_findPrivate_113 : decode cX3_findPrivate 113 = .ok (.iload_n 3, 1) := by decide +kernel
theorem dX3_findPrivate_114 : decode cX3_findPrivate 114 = .ok (.iload 5, 2) := by decide +kernel
theorem dX3_findPrivate_116 : decode cX3_findPrivate 116 = .ok (.iload 9, 2) := by decide +kernel
theorem dX3_findPrivate_118 : decode cX3_findPrivate 118 = .ok (.isub, 1) := by decide +kernel
theorem dX3_findPrivate_119 : decode cX3_findPrivate 119 = .ok (.invokevirtual 57, 3) := by decide +kernel
theorem dX3_findPrivate_122 : decode cX3_findPrivate 122 = .ok (.ifCond .ne 18, 3) := by decide +kernel
theorem dX3_findPrivate_125 : decode cX3_findPrivate 125 = .ok (.aload_n 0, 1) := by decide +kernel
theorem dX3_findPrivate_126 : decode cX3_findPrivate 126 = .ok (.aload_n 1, 1) := by decide +kernel
theorem dX3_findPrivate_127 : decode cX3_findPrivate 127 = .ok (.iload_n 2, 1) := by decide +kernel
theorem dX3_findPrivate_128 : decode cX3_findPrivate 128 = .ok (.iload_n 3, 1) := by decide +kernel
theorem dX3_findPrivate_129 : decode cX3_findPrivate 129 = .ok (.iload 5, 2) := by decide +kernel
theorem dX3_findPrivate_131 : decode cX3_findPrivate 131 = .ok (.iload 9, 2) := by decide +kernel
theorem dX3_findPrivate_133 : decode cX3_findPrivate 133 = .ok (.iadd, 1) := by decide +kernel
theorem dX3_findPrivate_134 : decode cX3_findPrivate 134 = .ok (.invokevirtual 57, 3) := by decide +kernel
theorem dX3_findPrivate_137 : decode cX3_findPrivate 137 = .ok (.ifCond .eq 31, 3) := by decide +kernel
theorem dX3_findPrivate_140 : decode cX3_findPrivate 140 = .ok (.aload_n 0, 1) := by decide +kernel
theorem dX3_findPrivate_141 : decode cX3_findPrivate 141 = .ok (.getfield 28, 3) := by decide +kernel
theorem dX3_findPrivate_144 : decode cX3_findPrivate 144 = .ok (.iconst 0, 1) := by decide +kernel
theorem dX3_findPrivate_145 : decode cX3_findPrivate 145 = .ok (.iload 8, 2) := by decide +kernel
theorem dX3_findPrivate_147 : decode cX3_findPrivate 147 = .ok (.iastore, 1) := by decide +kernel
theorem dX3_findPrivate_148 : decode cX3_findPrivate 148 = .ok (.aload_n 0, 1) := by decide +kernel
theorem dX3_findPrivate_149 : decode cX3_findPrivate 149 = .ok (.getfield 28, 3) := by decide +kernel
theorem dX3_findPrivate_152 : decode cX3_findPrivate 152 = .ok (.iconst 1, 1) := by decide +kernel
theorem dX3_findPrivate_153 : decode cX3_findPrivate 153 = .ok (.aload_n 1, 1) := by decide +kernel
theorem dX3_findPrivate_154 : decode cX3_findPrivate 154 = .ok (.getfield 35, 3) := by decide +kernel
theorem dX3_findPrivate_157 : decode cX3_findPrivate 157 = .ok (.iload_n 3, 1) := by decide +kernel
theorem dX3_findPrivate_158 : decode cX3_findPrivate 158 = .ok (.iaload, 1) := by decide +kernel
theorem dX3_findPrivate_159 : decode cX3_findPrivate 159 = .ok (.iastore, 1) := by decide +kernel
theorem dX3_findPrivate_160 : decode cX3_findPrivate 160 = .ok (.aload_n 0, 1) := by decide +kernel
theorem dX3_findPrivate_161 : decode cX3_findPrivate 161 = .ok (.iload 6, 2) := by decide +kernel
theorem dX3_findPrivate_163 : decode cX3_findPrivate 163 = .ok (.putfield 61, 3) := by decide +kernel
theorem dX3_findPrivate_166 : decode cX3_findPrivate 166 = .ok (.iconst 1, 1) := by decide +kernel
theorem dX3_findPrivate_167 : decode cX3_findPrivate 167 = .ok (.ireturn, 1) := by decide +kernel
theorem dX3_findPrivate_168 : decode cX3_findPrivate 168 = .ok (.iinc 8 1, 3) := by decide +kernel
theorem dX3_findPrivate_171 : decode cX3_findPrivate 171 = .ok (.goto (-99), 3) := by decide +kernel
theorem dX3_findPrivate_174 : decode cX3_findPrivate 174 = .ok (.iinc 6 1, 3) := by decide +kernel
theorem dX3_findPrivate_177 : decode cX3_findPrivate 177 = .ok (.goto (-136), 3) := by decide +kernel
theorem dX3_findPrivate_180 : decode cX3_findPrivate 180 = .ok (.iconst 0, 1) := by decide +kernel
theorem dX3_findPrivate_181 : decode cX3_findPrivate 181 = .ok (.ireturn, 1) := by decide +kernel
theorem dX3_markOwn_0 : decode cX3_markOwn 0 = .ok (.aload_n 1, 1) := by decide +kernel
theorem dX3_markOwn_1 : decode cX3_markOwn 1 = .ok (.getfield 35, 3) := by decide +kernel
theorem dX3_markOwn_4 : decode cX3_markOwn 4 = .ok (.iload_n 2, 1) := by decide +kernel
theorem dX3_markOwn_5 : decode cX3_markOwn 5 = .ok (.iaload, 1) := by decide +kernel
theorem dX3_markOwn_6 : decode cX3_markOwn 6 = .ok (.istore 5, 2) := by decide +kernel
theorem dX3_markOwn_8 : decode cX3_markOwn 8 = .ok (.iconst 0, 1) := by decide +kernel
theorem dX3_markOwn_9 : decode cX3_markOwn 9 = .ok (.istore 6, 2) := by decide +kernel
theorem dX3_markOwn_11 : decode cX3_markOwn 11 = .ok (.iload 6, 2) := by decide +kernel
theorem dX3_markOwn_13 : decode cX3_markOwn 13 = .ok (.bipush 99, 2) := by decide +kernel
theorem dX3_markOwn_15 : decode cX3_markOwn 15 = .ok (.if_icmp .gt 37, 3) := by decide +kernel
theorem dX3_markOwn_18 : decode cX3_markOwn 18 = .ok (.aload_n 1, 1) := by decide +kernel
theorem dX3_markOwn_19 : decode cX3_markOwn 19 = .ok (.getfield 35, 3) := by decide +kernel
theorem dX3_markOwn_22 : decode cX3_markOwn 22 = .ok (.iload_n 2, 1) := by decide +kernel
theorem dX3_markOwn_23 : decode cX3_markOwn 23 = .ok (.iload 6, 2) := by decide +kernel
theorem dX3_markOwn_25 : decode cX3_markOwn 25 = .ok (.iastore, 1) := by decide +kernel
theorem dX3_markOwn_26 : decode cX3_markOwn 26 = .ok (.aload 4, 2) := by decide +kernel
theorem dX3_markOwn_28 : decode cX3_markOwn 28 = .ok (.iload 6, 2) := by decide +kernel
theorem dX3_markOwn_30 : decode cX3_markOwn 30 = .ok (.aload_n 0, 1) := by decide +kernel
theorem dX3_markOwn_31 : decode cX3_markOwn 31 = .ok (.aload_n 1, 1) := by decide +kernel
theorem dX3_markOwn_32 : decode cX3_markOwn 32 = .ok (.iload_n 2, 1) := by decide +kernel
theorem dX3_markOwn_33 : decode cX3_markOwn 33 = .ok (.iload_n 3, 1) := by decide +kernel
theorem dX3_markOwn_34 : decode cX3_markOwn 34 = .ok (.invokevirtual 65, 3) := by decide +kernel
theorem dX3_markOwn_37 : decode cX3_markOwn 37 = .ok (.ifCond .ne 7, 3) := by decide +kernel
theorem dX3_markOwn_40 : decode cX3_markOwn 40 = .ok (.iconst 1, 1) := by decide +kernel
theorem dX3_markOwn_41 : decode cX3_markOwn 41 = .ok (.goto 4, 3) := by decide +kernel
theorem dX3_markOwn_44 : decode cX3_markOwn 44 = .ok (.iconst 0, 1) := by decide +kernel
theorem dX3_markOwn_45 : decode cX3_markOwn 45 = .ok (.bastore, 1) := by decide +kernel
theorem dX3_markOwn_46 : decode cX3_markOwn 46 = .ok (.iinc 6 1, 3) := by decide +kernel
theorem dX3_markOwn_49 : decode cX3_markOwn 49 = .ok (.goto (-38), 3) := by decide +kernel
theorem dX3_markOwn_52 : decode cX3_markOwn 52 = .ok (.aload_n 1, 1) := by decide +kernel
theorem dX3_markOwn_53 : decode cX3_markOwn 53 = .ok (.getfield 35, 3) := by decide +kernel
theorem dX3_markOwn_56 : decode cX3_markOwn 56 = .ok (.iload_n 2, 1) := by decide +kernel
theorem dX3_markOwn_57 : decode cX3_markOwn 57 = .ok (.iload 5, 2) := by decide +kernel
theorem dX3_markOwn_59 : decode cX3_markOwn 59 = .ok (.iastore, 1) := by decide +kernel
theorem dX3_markOwn_60 : decode cX3_markOwn 60 = .ok (.return_, 1) := by decide +kernel
theorem dX3_isMet_0 : decode cX3_isMet 0 = .ok (.iconst 0, 1) := by decide +kernel
theorem dX3_isMet_1 : decode cX3_isMet 1 = .ok (.istore 4, 2) := by decide +kernel
theorem dX3_isMet_3 : decode cX3_isMet 3 = .ok (.iload 4, 2) := by decide +kernel
theorem dX3_isMet_5 : decode cX3_isMet 5 = .ok (.aload_n 0, 1) := by decide +kernel
theorem dX3_isMet_6 : decode cX3_isMet 6 = .ok (.getfield 31, 3) := by decide +kernel
theorem dX3_isMet_9 : decode cX3_isMet 9 = .ok (.getfield 69, 3) := by decide +kernel
theorem dX3_isMet_12 : decode cX3_isMet 12 = .ok (.getfield 75, 3) := by decide +kernel
theorem dX3_isMet_15 : decode cX3_isMet 15 = .ok (.if_icmp .ge 51, 3) := by decide +kernel
theorem dX3_isMet_18 : decode cX3_isMet 18 = .ok (.iload 4, 2) := by decide +kernel
theorem dX3_isMet_20 : decode cX3_isMet 20 = .ok (.iload_n 2, 1) := by decide +kernel
theorem dX3_isMet_21 : decode cX3_isMet 21 = .ok (.if_icmp .eq 39, 3) := by decide +kernel
theorem dX3_isMet_24 : decode cX3_isMet 24 = .ok (.iload 4, 2) := by decide +kernel
theorem dX3_isMet_26 : decode cX3_isMet 26 = .ok (.iload_n 3, 1) := by decide +kernel
theorem dX3_isMet_27 : decode cX3_isMet 27 = .ok (.if_icmp .eq 33, 3) := by decide +kernel
theorem dX3_isMet_30 : decode cX3_isMet 30 = .ok (.aload_n 0, 1) := by decide +kernel
theorem dX3_isMet_31 : decode cX3_isMet 31 = .ok (.getfield 31, 3) := by decide +kernel
theorem dX3_isMet_34 : decode cX3_isMet 34 = .ok (.aload_n 1, 1) := by decide +kernel
theorem dX3_isMet_35 : decode cX3_isMet 35 = .ok (.iload_n 2, 1) := by decide +kernel
theorem dX3_isMet_36 : decode cX3_isMet 36 = .ok (.iload 4, 2) := by decide +kernel
theorem dX3_isMet_38 : decode cX3_isMet 38 = .ok (.invokevirtual 80, 3) := by decide +kernel
theorem dX3_isMet_41 : decode cX3_isMet 41 = .ok (.ifCond .ne 17, 3) := by decide +kernel
theorem dX3_isMet_44 : decode cX3_isMet 44 = .ok (.aload_n 0, 1) := by decide +kernel
theorem dX3_isMet_45 : decode cX3_isMet 45 = .ok (.getfield 31, 3) := by decide +kernel
theorem dX3_isMet_48 : decode cX3_isMet 48 = .ok (.aload_n 1, 1) := by decide +kernel
theorem dX3_isMet_49 : decode cX3_isMet 49 = .ok (.iload 4, 2) := by decide +kernel
theorem dX3_isMet_51 : decode cX3_isMet 51 = .ok (.iload_n 2, 1) := by decide +kernel
theorem dX3_isMet_52 : decode cX3_isMet 52 = .ok (.invokevirtual 80, 3) := by decide +kernel
theorem dX3_isMet_55 : decode cX3_isMet 55 = .ok (.ifCond .eq 5, 3) := by decide +kernel
theorem dX3_isMet_58 : decode cX3_isMet 58 = .ok (.iconst 1, 1) := by decide +kernel
theorem dX3_isMet_59 : decode cX3_isMet 59 = .ok (.ireturn, 1) := by decide +kernel
theorem dX3_isMet_60 : decode cX3_isMet 60 = .ok (.iinc 4 1, 3) := by decide +kernel
theorem dX3_isMet_63 : decode cX3_isMet 63 = .ok (.goto (-60), 3) := by decide +kernel
theorem dX3_isMet_66 : decode cX3_isMet 66 = .ok (.iconst 0, 1) := by decide +kernel
theorem dX3_isMet_67 : decode cX3_isMet 67 = .ok (.ireturn, 1) := by decide +kernel
theorem dX3_isPrivate_0 : decode cX3_isPrivate 0 = .ok (.iload 4, 2) := by decide +kernel
theorem dX3_isPrivate_2 : decode cX3_isPrivate 2 = .ok (.iconst 0, 1) := by decide +kernel
theorem dX3_isPrivate_3 : decode cX3_isPrivate 3 = .ok (.bipush 99, 2) := by decide +kernel
theorem dX3_isPrivate_5 : decode cX3_isPrivate 5 = .ok (.invokestatic 83, 3) := by decide +kernel
theorem dX3_isPrivate_8 : decode cX3_isPrivate 8 = .ok (.ifCond .eq 13, 3) := by decide +kernel
theorem dX3_isPrivate_11 : decode cX3_isPrivate 11 = .ok (.aload_n 0, 1) := by decide +kernel
theorem dX3_isPrivate_12 : decode cX3_isPrivate 12 = .ok (.getfield 15, 3) := by decide +kernel
theorem dX3_isPrivate_15 : decode cX3_isPrivate 15 = .ok (.iload 4, 2) := by decide +kernel
theorem dX3_isPrivate_17 : decode cX3_isPrivate 17 = .ok (.baload, 1) := by decide +kernel
theorem dX3_isPrivate_18 : decode cX3_isPrivate 18 = .ok (.ifCond .ne 5, 3) := by decide +kernel
theorem dX3_isPrivate_21 : decode cX3_isPrivate 21 = .ok (.iconst 0, 1) := by decide +kernel
theorem dX3_isPrivate_22 : decode cX3_isPrivate 22 = .ok (.ireturn, 1) := by decide +kernel
theorem dX3_isPrivate_23 : decode cX3_isPrivate 23 = .ok (.aload_n 1, 1) := by decide +kernel
theorem dX3_isPrivate_24 : decode cX3_isPrivate 24 = .ok (.getfield 35, 3) := by decide +kernel
theorem dX3_isPrivate_27 : decode cX3_isPrivate 27 = .ok (.iload_n 3, 1) := by decide +kernel
theorem dX3_isPrivate_28 : decode cX3_isPrivate 28 = .ok (.iload 4, 2) := by decide +kernel
theorem dX3_isPrivate_30 : decode cX3_isPrivate 30 = .ok (.iastore, 1) := by decide +kernel
theorem dX3_isPrivate_31 : decode cX3_isPrivate 31 = .ok (.aload_n 0, 1) := by decide +kernel
theorem dX3_isPrivate_32 : decode cX3_isPrivate 32 = .ok (.getfield 31, 3) := by decide +kernel
theorem dX3_isPrivate_35 : decode cX3_isPrivate 35 = .ok (.aload_n 1, 1) := by decide +kernel
theorem dX3_isPrivate_36 : decode cX3_isPrivate 36 = .ok (.iload_n 2, 1) := by decide +kernel
theorem dX3_isPrivate_37 : decode cX3_isPrivate 37 = .ok (.iload_n 3, 1) := by decide +kernel
theorem dX3_isPrivate_38 : decode cX3_isPrivate 38 = .ok (.invokevirtual 80, 3) := by decide +kernel
theorem dX3_isPrivate_41 : decode cX3_isPrivate 41 = .ok (.ifCond .eq 20, 3) := by decide +kernel
theorem dX3_isPrivate_44 : decode cX3_isPrivate 44 = .ok (.aload_n 0, 1) := by decide +kernel
theorem dX3_isPrivate_45 : decode cX3_isPrivate 45 = .ok (.getfield 31, 3) := by decide +kernel
theorem dX3_isPrivate_48 : decode cX3_isPrivate 48 = .ok (.aload_n 1, 1) := by decide +kernel
theorem dX3_isPrivate_49 : decode cX3_isPrivate 49 = .ok (.iload_n 3, 1) := by decide +kernel
theorem dX3_isPrivate_50 : decode cX3_isPrivate 50 = .ok (.iload_n 2, 1) := by decide +kernel
theorem dX3_isPrivate_51 : decode cX3_isPrivate 51 = .ok (.invokevirtual 80, 3) := by decide +kernel
theorem dX3_isPrivate_54 : decode cX3_isPrivate 54 = .ok (.ifCond .eq 7, 3) := by decide +kernel
theorem dX3_isPrivate_57 : decode cX3_isPrivate 57 = .ok (.iconst 1, 1) := by decide +kernel
theorem dX3_isPrivate_58 : decode cX3_isPrivate 58 = .ok (.goto 4, 3) := by decide +kernel
theorem dX3_isPrivate_61 : decode cX3_isPrivate 61 = .ok (.iconst 0, 1) := by decide +kernel
theorem dX3_isPrivate_62 : decode cX3_isPrivate 62 = .ok (.ireturn, 1) := by decide +kernel
theorem dX3_findSpread_0 : decode cX3_findSpread 0 = .ok (.aload_n 0, 1) := by decide +kernel
theorem dX3_findSpread_1 : decode cX3_findSpread 1 = .ok (.iconst 4, 1) := by decide +kernel
theorem dX3_findSpread_2 : decode cX3_findSpread 2 = .ok (.aload_n 0, 1) := by decide +kernel
theorem dX3_findSpread_3 : decode cX3_findSpread 3 = .ok (.getfield 31, 3) := by decide +kernel
theorem dX3_findSpread_6 : decode cX3_findSpread 6 = .ok (.getfield 69, 3) := by decide +kernel
theorem dX3_findSpread_9 : decode cX3_findSpread 9 = .ok (.getfield 75, 3) := by decide +kernel
theorem dX3_findSpread_12 : decode cX3_findSpread 12 = .ok (.invokestatic 44, 3) := by decide +kernel
theorem dX3_findSpread_15 : decode cX3_findSpread 15 = .ok (.putfield 87, 3) := by decide +kernel
theorem dX3_findSpread_18 : decode cX3_findSpread 18 = .ok (.iconst 0, 1) := by decide +kernel
theorem dX3_findSpread_19 : decode cX3_findSpread 19 = .ok (.istore_n 2, 1) := by decide +kernel
theorem dX3_findSpread_20 : decode cX3_findSpread 20 = .ok (.iload_n 2, 1) := by decide +kernel
theorem dX3_findSpread_21 : decode cX3_findSpread 21 = .ok (.aload_n 0, 1) := by decide +kernel
theorem dX3_findSpread_22 : decode cX3_findSpread 22 = .ok (.getfield 87, 3) := by decide +kernel
theorem dX3_findSpread_25 : decode cX3_findSpread 25 = .ok (.if_icmp .ge 21, 3) := by decide +kernel
theorem dX3_findSpread_28 : decode cX3_findSpread 28 = .ok (.aload_n 0, 1) := by decide +kernel
theorem dX3_findSpread_29 : decode cX3_findSpread 29 = .ok (.getfield 21, 3) := by decide +kernel
theorem dX3_findSpread_32 : decode cX3_findSpread 32 = .ok (.iload_n 2, 1) := by decide +kernel
theorem dX3_findSpread_33 : decode cX3_findSpread 33 = .ok (.aload_n 1, 1) := by decide +kernel
theorem dX3_findSpread_34 : decode cX3_findSpread 34 = .ok (.getfield 35, 3) := by decide +kernel
theorem dX3_findSpread_37 : decode cX3_findSpread 37 = .ok (.iload_n 2, 1) := by decide +kernel
theorem dX3_findSpread_38 : decode cX3_findSpread 38 = .ok (.iaload, 1) := by decide +kernel
theorem dX3_findSpread_39 : decode cX3_findSpread 39 = .ok (.iastore, 1) := by decide +kernel
theorem dX3_findSpread_40 : decode cX3_findSpread 40 = .ok (.iinc 2 1, 3) := by decide +kernel
theorem dX3_findSpread_43 : decode cX3_findSpread 43 = .ok (.goto (-23), 3) := by decide +kernel
theorem dX3_findSpread_46 : decode cX3_findSpread 46 = .ok (.iconst 0, 1) := by decide +kernel
theorem dX3_findSpread_47 : decode cX3_findSpread 47 = .ok (.istore_n 2, 1) := by decide +kernel
theorem dX3_findSpread_48 : decode cX3_findSpread 48 = .ok (.iload_n 2, 1) := by decide +kernel
theorem dX3_findSpread_49 : decode cX3_findSpread 49 = .ok (.aload_n 0, 1) := by decide +kernel
theorem dX3_findSpread_50 : decode cX3_findSpread 50 = .ok (.getfield 87, 3) := by decide +kernel
theorem dX3_findSpread_53 : decode cX3_findSpread 53 = .ok (.if_icmp .ge 34, 3) := by decide +kernel
theorem dX3_findSpread_56 : decode cX3_findSpread 56 = .ok (.iload_n 2, 1) := by decide +kernel
theorem dX3_findSpread_57 : decode cX3_findSpread 57 = .ok (.iconst 1, 1) := by decide +kernel
theorem dX3_findSpread_58 : decode cX3_findSpread 58 = .ok (.iadd, 1) := by decide +kernel
theorem dX3_findSpread_59 : decode cX3_findSpread 59 = .ok (.istore_n 3, 1) := by decide +kernel
theorem dX3_findSpread_60 : decode cX3_findSpread 60 = .ok (.iload_n 3, 1) := by decide +kernel
theorem dX3_findSpread_61 : decode cX3_findSpread 61 = .ok (.aload_n 0, 1) := by decide +kernel
theorem dX3_findSpread_62 : decode cX3_findSpread 62 = .ok (.getfield 87, 3) := by decide +kernel
theorem dX3_findSpread_65 : decode cX3_findSpread 65 = .ok (.if_icmp .ge 16, 3) := by decide +kernel
theorem dX3_findSpread_68 : decode cX3_findSpread 68 = .ok (.aload_n 0, 1) := by decide +kernel
theorem dX3_findSpread_69 : decode cX3_findSpread 69 = .ok (.aload_n 1, 1) := by decide +kernel
theorem dX3_findSpread_70 : decode cX3_findSpread 70 = .ok (.iload_n 2, 1) := by decide +kernel
theorem dX3_findSpread_71 : decode cX3_findSpread 71 = .ok (.iload_n 3, 1) := by decide +kernel
theorem dX3_findSpread_72 : decode cX3_findSpread 72 = .ok (.invokevirtual 88, 3) := by decide +kernel
theorem dX3_findSpread_75 : decode cX3_findSpread 75 = .ok (.iinc 3 1, 3) := by decide +kernel
theorem dX3_findSpread_78 : decode cX3_findSpread 78 = .ok (.goto (-18), 3) := by decide +kernel
theorem dX3_findSpread_81 : decode cX3_findSpread 81 = .ok (.iinc 2 1, 3) := by decide +kernel
theorem dX3_findSpread_84 : decode cX3_findSpread 84 = .ok (.goto (-36), 3) := by decide +kernel
theorem dX3_findSpread_87 : decode cX3_findSpread 87 = .ok (.aload_n 0, 1) := by decide +kernel
theorem dX3_findSpread_88 : decode cX3_findSpread 88 = .ok (.ldc 94, 2) := by decide +kernel
theorem dX3_findSpread_90 : decode cX3_findSpread 90 = .ok (.putfield 61, 3) := by decide +kernel
theorem dX3_findSpread_93 : decode cX3_findSpread 93 = .ok (.aload_n 0, 1) := by decide +kernel
theorem dX3_findSpread_94 : decode cX3_findSpread 94 = .ok (.iconst 0, 1) := by decide +kernel
theorem dX3_findSpread_95 : decode cX3_findSpread 95 = .ok (.iconst 0, 1) := by decide +kernel
theorem dX3_findSpread_96 : decode cX3_findSpread 96 = .ok (.invokevirtual 95, 3) := by decide +kernel
theorem dX3_findSpread_99 : decode cX3_findSpread 99 = .ok (.aload_n 0, 1) := by decide +kernel
theorem dX3_findSpread_100 : decode cX3_findSpread 100 = .ok (.getfield 61, 3) := by decide +kernel
theorem dX3_findSpread_103 : decode cX3_findSpread 103 = .ok (.ldc 94, 2) := by decide +kernel
theorem dX3_findSpread_105 : decode cX3_findSpread 105 = .ok (.if_icmp .eq 7, 3) := by decide +kernel
theorem dX3_findSpread_108 : decode cX3_findSpread 108 = .ok (.iconst 1, 1) := by decide +kernel
theorem dX3_findSpread_109 : decode cX3_findSpread 109 = .ok (.goto 4, 3) := by decide +kernel
theorem dX3_findSpread_112 : decode cX3_findSpread 112 = .ok (.iconst 0, 1) := by decide +kernel
theorem dX3_findSpread_113 : decode cX3_findSpread 113 = .ok (.ireturn, 1) := by decide +kernel
theorem dX3_markApart_0 : decode cX3_markApart 0 = .ok (.iconst 0, 1) := by decide +kernel
theorem dX3_markApart_1 : decode cX3_markApart 1 = .ok (.istore 4, 2) := by decide +kernel
theorem dX3_markApart_3 : decode cX3_markApart 3 = .ok (.iload 4, 2) := by decide +kernel
theorem dX3_markApart_5 : decode cX3_markApart 5 = .ok (.bipush 10, 2) := by decide +kernel
theorem dX3_markApart_7 : decode cX3_markApart 7 = .ok (.if_icmp .ge 92, 3) := by decide +kernel
theorem dX3_markApart_10 : decode cX3_markApart 10 = .ok (.iconst 0, 1) := by decide +kernel
theorem dX3_markApart_11 : decode cX3_markApart 11 = .ok (.istore 5, 2) := by decide +kernel
theorem dX3_markApart_13 : decode cX3_markApart 13 = .ok (.iload 5, 2) := by decide +kernel
theorem dX3_markApart_15 : decode cX3_markApart 15 = .ok (.bipush 10, 2) := by decide +kernel
theorem dX3_markApart_17 : decode cX3_markApart 17 = .ok (.if_icmp .ge 76, 3) := by decide +kernel
theorem dX3_markApart_20 : decode cX3_markApart 20 = .ok (.aload_n 1, 1) := by decide +kernel
theorem dX3_markApart_21 : decode cX3_markApart 21 = .ok (.getfield 35, 3) := by decide +kernel
theorem dX3_markApart_24 : decode cX3_markApart 24 = .ok (.iload_n 2, 1) := by decide +kernel
theorem dX3_markApart_25 : decode cX3_markApart 25 = .ok (.iload 4, 2) := by decide +kernel
theorem dX3_markApart_27 : decode cX3_markApart 27 = .ok (.bipush 11, 2) := by decide +kernel
theorem dX3_markApart_29 : decode cX3_markApart 29 = .ok (.imul, 1) := by decide +kernel
theorem dX3_markApart_30 : decode cX3_markApart 30 = .ok (.iastore, 1) := by decide +kernel
theorem dX3_markApart_31 : decode cX3_markApart 31 = .ok (.aload_n 1, 1) := by decide +kernel
theorem dX3_markApart_32 : decode cX3_markApart 32 = .ok (.getfield 35, 3) := by decide +kernel
theorem dX3_markApart_35 : decode cX3_markApart 35 = .ok (.iload_n 3, 1) := by decide +kernel
theorem dX3_markApart_36 : decode cX3_markApart 36 = .ok (.iload 5, 2) := by decide +kernel
theorem dX3_markApart_38 : decode cX3_markApart 38 = .ok (.bipush 11, 2) := by decide +kernel
theorem dX3_markApart_40 : decode cX3_markApart 40 = .ok (.imul, 1) := by decide +kernel
theorem dX3_markApart_41 : decode cX3_markApart 41 = .ok (.iastore, 1) := by decide +kernel
theorem dX3_markApart_42 : decode cX3_markApart 42 = .ok (.aload_n 0, 1) := by decide +kernel
theorem dX3_markApart_43 : decode cX3_markApart 43 = .ok (.getfield 18, 3) := by decide +kernel
theorem dX3_markApart_46 : decode cX3_markApart 46 = .ok (.iload_n 2, 1) := by decide +kernel
theorem dX3_markApart_47 : decode cX3_markApart 47 = .ok (.iload 4, 2) := by decide +kernel
theorem dX3_markApart_49 : decode cX3_markApart 49 = .ok (.iload_n 3, 1) := by decide +kernel
theorem dX3_markApart_50 : decode cX3_markApart 50 = .ok (.iload 5, 2) := by decide +kernel
theorem dX3_markApart_52 : decode cX3_markApart 52 = .ok (.invokestatic 99, 3) := by decide +kernel
theorem dX3_markApart_55 : decode cX3_markApart 55 = .ok (.aload_n 0, 1) := by decide +kernel
theorem dX3_markApart_56 : decode cX3_markApart 56 = .ok (.getfield 31, 3) := by decide +kernel
theorem dX3_markApart_59 : decode cX3_markApart 59 = .ok (.aload_n 1, 1) := by decide +kernel
theorem dX3_markApart_60 : decode cX3_markApart 60 = .ok (.iload_n 2, 1) := by decide +kernel
theorem dX3_markApart_61 : decode cX3_markApart 61 = .ok (.iload_n 3, 1) := by decide +kernel
theorem dX3_markApart_62 : decode cX3_markApart 62 = .ok (.invokevirtual 80, 3) := by decide +kernel
theorem dX3_markApart_65 : decode cX3_markApart 65 = .ok (.ifCond .ne 20, 3) := by decide +kernel
theorem dX3_markApart_68 : decode cX3_markApart 68 = .ok (.aload_n 0, 1) := by decide +kernel
theorem dX3_markApart_69 : decode cX3_markApart 69 = .ok (.getfield 31, 3) := by decide +kernel
theorem dX3_markApart_72 : decode cX3_markApart 72 = .ok (.aload_n 1, 1) := by decide +kernel
theorem dX3_markApart_73 : decode cX3_markApart 73 = .ok (.iload_n 3, 1) := by decide +kernel
theorem dX3_markApart_74 : decode cX3_markApart 74 = .ok (.iload_n 2, 1) := by decide +kernel
theorem dX3_markApart_75 : decode cX3_markApart 75 = .ok (.invokevirtual 80, 3) := by decide +kernel
theorem dX3_markApart_78 : decode cX3_markApart 78 = .ok (.ifCond .ne 7, 3) := by decide +kernel
theorem dX3_markApart_81 : decode cX3_markApart 81 = .ok (.iconst 1, 1) := by decide +kernel
theorem dX3_markApart_82 : decode cX3_markApart 82 = .ok (.goto 4, 3) := by decide +kernel
theorem dX3_markApart_85 : decode cX3_markApart 85 = .ok (.iconst 0, 1) := by decide +kernel
theorem dX3_markApart_86 : decode cX3_markApart 86 = .ok (.bastore, 1) := by decide +kernel
theorem dX3_markApart_87 : decode cX3_markApart 87 = .ok (.iinc 5 1, 3) := by decide +kernel
theorem dX3_markApart_90 : decode cX3_markApart 90 = .ok (.goto (-77), 3) := by decide +kernel
theorem dX3_markApart_93 : decode cX3_markApart 93 = .ok (.iinc 4 1, 3) := by decide +kernel
theorem dX3_markApart_96 : decode cX3_markApart 96 = .ok (.goto (-93), 3) := by decide +kernel
theorem dX3_markApart_99 : decode cX3_markApart 99 = .ok (.return_, 1) := by decide +kernel
theorem dX3_pairAt_0 : decode cX3_pairAt 0 = .ok (.iload_n 0, 1) := by decide +kernel
theorem dX3_pairAt_1 : decode cX3_pairAt 1 = .ok (.bipush 10, 2) := by decide +kernel
theorem dX3_pairAt_3 : decode cX3_pairAt 3 = .ok (.imul, 1) := by decide +kernel
theorem dX3_pairAt_4 : decode cX3_pairAt 4 = .ok (.iload_n 1, 1) := by decide +kernel
theorem dX3_pairAt_5 : decode cX3_pairAt 5 = .ok (.iadd, 1) := by decide +kernel
theorem dX3_pairAt_6 : decode cX3_pairAt 6 = .ok (.bipush 40, 2) := by decide +kernel
theorem dX3_pairAt_8 : decode cX3_pairAt 8 = .ok (.imul, 1) := by decide +kernel
theorem dX3_pairAt_9 : decode cX3_pairAt 9 = .ok (.iload_n 2, 1) := by decide +kernel
theorem dX3_pairAt_10 : decode cX3_pairAt 10 = .ok (.bipush 10, 2) := by decide +kernel
theorem dX3_pairAt_12 : decode cX3_pairAt 12 = .ok (.imul, 1) := by decide +kernel
theorem dX3_pairAt_13 : decode cX3_pairAt 13 = .ok (.iadd, 1) := by decide +kernel
theorem dX3_pairAt_14 : decode cX3_pairAt 14 = .ok (.iload_n 3, 1) := by decide +kernel
theorem dX3_pairAt_15 : decode cX3_pairAt 15 = .ok (.iadd, 1) := by decide +kernel
theorem dX3_pairAt_16 : decode cX3_pairAt 16 = .ok (.ireturn, 1) := by decide +kernel
theorem dX3_place_0 : decode cX3_place 0 = .ok (.iload_n 2, 1) := by decide +kernel
theorem dX3_place_1 : decode cX3_place 1 = .ok (.aload_n 0, 1) := by decide +kernel
theorem dX3_place_2 : decode cX3_place 2 = .ok (.getfield 61, 3) := by decide +kernel
theorem dX3_place_5 : decode cX3_place 5 = .ok (.if_icmp .lt 4, 3) := by decide +kernel
theorem dX3_place_8 : decode cX3_place 8 = .ok (.return_, 1) := by decide +kernel
theorem dX3_place_9 : decode cX3_place 9 = .ok (.iload_n 1, 1) := by decide +kernel
theorem dX3_place_10 : decode cX3_place 10 = .ok (.aload_n 0, 1) := by decide +kernel
theorem dX3_place_11 : decode cX3_place 11 = .ok (.getfield 87, 3) := by decide +kernel
theorem dX3_place_14 : decode cX3_place 14 = .ok (.if_icmp .lt 40, 3) := by decide +kernel
theorem dX3_place_17 : decode cX3_place 17 = .ok (.aload_n 0, 1) := by decide +kernel
theorem dX3_place_18 : decode cX3_place 18 = .ok (.iload_n 2, 1) := by decide +kernel
theorem dX3_place_19 : decode cX3_place 19 = .ok (.putfield 61, 3) := by decide +kernel
theorem dX3_place_22 : decode cX3_place 22 = .ok (.iconst 0, 1) := by decide +kernel
theorem dX3_place_23 : decode cX3_place 23 = .ok (.istore_n 3, 1) := by decide +kernel
theorem dX3_place_24 : decode cX3_place 24 = .ok (.iload_n 3, 1) := by decide +kernel
theorem dX3_place_25 : decode cX3_place 25 = .ok (.aload_n 0, 1) := by decide +kernel
theorem dX3_place_26 : decode cX3_place 26 = .ok (.getfield 87, 3) := by decide +kernel
theorem dX3_place_29 : decode cX3_place 29 = .ok (.if_icmp .ge 24, 3) := by decide +kernel
theorem dX3_place_32 : decode cX3_place 32 = .ok (.aload_n 0, 1) := by decide +kernel
theorem dX3_place_33 : decode cX3_place 33 = .ok (.getfield 28, 3) := by decide +kernel
theorem dX3_place_36 : decode cX3_place 36 = .ok (.iload_n 3, 1) := by decide +kernel
theorem dX3_place_37 : decode cX3_place 37 = .ok (.aload_n 0, 1) := by decide +kernel
theorem dX3_place_38 : decode cX3_place 38 = .ok (.getfield 25, 3) := by decide +kernel
theorem dX3_place_41 : decode cX3_place 41 = .ok (.iload_n 3, 1) := by decide +kernel
theorem dX3_place_42 : decode cX3_place 42 = .ok (.iaload, 1) := by decide +kernel
theorem dX3_place_43 : decode cX3_place 43 = .ok (.bipush 11, 2) := by decide +kernel
theorem dX3_place_45 : decode cX3_place 45 = .ok (.imul, 1) := by decide +kernel
theorem dX3_place_46 : decode cX3_place 46 = .ok (.iastore, 1) := by decide +kernel
theorem dX3_place_47 : decode cX3_place 47 = .ok (.iinc 3 1, 3) := by decide +kernel
theorem dX3_place_50 : decode cX3_place 50 = .ok (.goto (-26), 3) := by decide +kernel
theorem dX3_place_53 : decode cX3_place 53 = .ok (.return_, 1) := by decide +kernel
theorem dX3_place_54 : decode cX3_place 54 = .ok (.iconst 0, 1) := by decide +kernel
theorem dX3_place_55 : decode cX3_place 55 = .ok (.istore_n 3, 1) := by decide +kernel
theorem dX3_place_56 : decode cX3_place 56 = .ok (.iload_n 3, 1) := by decide +kernel
theorem dX3_place_57 : decode cX3_place 57 = .ok (.bipush 10, 2) := by decide +kernel
theorem dX3_place_59 : decode cX3_place 59 = .ok (.if_icmp .ge 47, 3) := by decide +kernel
theorem dX3_place_62 : decode cX3_place 62 = .ok (.aload_n 0, 1) := by decide +kernel
theorem dX3_place_63 : decode cX3_place 63 = .ok (.getfield 25, 3) := by decide +kernel
theorem dX3_place_66 : decode cX3_place 66 = .ok (.iload_n 1, 1) := by decide +kernel
theorem dX3_place_67 : decode cX3_place 67 = .ok (.iload_n 3, 1) := by decide +kernel
theorem dX3_place_68 : decode cX3_place 68 = .ok (.iastore, 1) := by decide +kernel
theorem dX3_place_69 : decode cX3_place 69 = .ok (.aload_n 0, 1) := by decide +kernel
theorem dX3_place_70 : decode cX3_place 70 = .ok (.iload_n 1, 1) := by decide +kernel
theorem dX3_place_71 : decode cX3_place 71 = .ok (.invokevirtual 103, 3) := by decide +kernel
theorem dX3_place_74 : decode cX3_place 74 = .ok (.ifCond .eq 26, 3) := by decide +kernel
theorem dX3_place_77 : decode cX3_place 77 = .ok (.aload_n 0, 1) := by decide +kernel
theorem dX3_place_78 : decode cX3_place 78 = .ok (.iload_n 1, 1) := by decide +kernel
theorem dX3_place_79 : decode cX3_place 79 = .ok (.iconst 1, 1) := by decide +kernel
theorem dX3_place_80 : decode cX3_place 80 = .ok (.iadd, 1) := by decide +kernel
theorem dX3_place_81 : decode cX3_place 81 = .ok (.iload_n 2, 1) := by decide +kernel
theorem dX3_place_82 : decode cX3_place 82 = .ok (.iload_n 3, 1) := by decide +kernel
theorem dX3_place_83 : decode cX3_place 83 = .ok (.bipush 11, 2) := by decide +kernel
theorem dX3_place_85 : decode cX3_place 85 = .ok (.imul, 1) := by decide +kernel
theorem dX3_place_86 : decode cX3_place 86 = .ok (.aload_n 0, 1) := by decide +kernel
theorem dX3_place_87 : decode cX3_place 87 = .ok (.getfield 21, 3) := by decide +kernel
theorem dX3_place_90 : decode cX3_place 90 = .ok (.iload_n 1, 1) := by decide +kernel
theorem dX3_place_91 : decode cX3_place 91 = .ok (.iaload, 1) := by decide +kernel
theorem dX3_place_92 : decode cX3_place 92 = .ok (.isub, 1) := by decide +kernel
theorem dX3_place_93 : decode cX3_place 93 = .ok (.invokestatic 53, 3) := by decide +kernel
theorem dX3_place_96 : decode cX3_place 96 = .ok (.iadd, 1) := by decide +kernel
theorem dX3_place_97 : decode cX3_place 97 = .ok (.invokevirtual 95, 3) := by decide +kernel
theorem dX3_place_100 : decode cX3_place 100 = .ok (.iinc 3 1, 3) := by decide +kernel
theorem dX3_place_103 : decode cX3_place 103 = .ok (.goto (-47), 3) := by decide +kernel
theorem dX3_place_106 : decode cX3_place 106 = .ok (.return_, 1) := by decide +kernel
theorem dX3_isApartFromThoseBefore_0 : decode cX3_isApartFromThoseBefore 0 = .ok (.iconst 0, 1) := by decide +kernel
theorem dX3_isApartFromThoseBefore_1 : decode cX3_isApartFromThoseBefore 1 = .ok (.istore_n 2, 1) := by decide +kernel
theorem dX3_isApartFromThoseBefore_2 : decode cX3_isApartFromThoseBefore 2 = .ok (.iload_n 2, 1) := by decide +kernel
theorem dX3_isApartFromThoseBefore_3 : decode cX3_isApartFromThoseBefore 3 = .ok (.iload_n 1, 1) := by decide +kernel
theorem dX3_isApartFromThoseBefore_4 : decode cX3_isApartFromThoseBefore 4 = .ok (.if_icmp .ge 36, 3) := by decide +kernel
theorem dX3_isApartFromThoseBefore_7 : decode cX3_isApartFromThoseBefore 7 = .ok (.aload_n 0, 1) := by decide +kernel
theorem dX3_isApartFromThoseBefore_8 : decode cX3_isApartFromThoseBefore 8 = .ok (.getfield 18, 3) := by decide +kernel
theorem dX3_isApartFromThoseBefore_11 : decode cX3_isApartFromThoseBefore 11 = .ok (.iload_n 2, 1) := by decide +kernel
theorem dX3_isApartFromThoseBefore_12 : decode cX3_isApartFromThoseBefore 12 = .ok (.aload_n 0, 1) := by decide +kernel
theorem dX3_isApartFromThoseBefore_13 : decode cX3_isApartFromThoseBefore 13 = .ok (.getfield 25, 3) := by decide +kernel
theorem dX3_isApartFromThoseBefore_16 : decode cX3_isApartFromThoseBefore 16 = .ok (.iload_n 2, 1) := by decide +kernel
theorem dX3_isApartFromThoseBefore_17 : decode cX3_isApartFromThoseBefore 17 = .ok (.iaload, 1) := by decide +kernel
theorem dX3_isApartFromThoseBefore_18 : decode cX3_isApartFromThoseBefore 18 = .ok (.iload_n 1, 1) := by decide +kernel
theorem dX3_isApartFromThoseBefore_19 : decode cX3_isApartFromThoseBefore 19 = .ok (.aload_n 0, 1) := by decide +kernel
theorem dX3_isApartFromThoseBefore_20 : decode cX3_isApartFromThoseBefore 20 = .ok (.getfield 25, 3) := by decide +kernel
theorem dX3_isApartFromThoseBefore_23 : decode cX3_isApartFromThoseBefore 23 = .ok (.iload_n 1, 1) := by decide +kernel
theorem dX3_isApartFromThoseBefore_24 : decode cX3_isApartFromThoseBefore 24 = .ok (.iaload, 1) := by decide +kernel
theorem dX3_isApartFromThoseBefore_25 : decode cX3_isApartFromThoseBefore 25 = .ok (.invokestatic 99, 3) := by decide +kernel
theorem dX3_isApartFromThoseBefore_28 : decode cX3_isApartFromThoseBefore 28 = .ok (.baload, 1) := by decide +kernel
theorem dX3_isApartFromThoseBefore_29 : decode cX3_isApartFromThoseBefore 29 = .ok (.ifCond .ne 5, 3) := by decide +kernel
theorem dX3_isApartFromThoseBefore_32 : decode cX3_isApartFromThoseBefore 32 = .ok (.iconst 0, 1) := by decide +kernel
theorem dX3_isApartFromThoseBefore_33 : decode cX3_isApartFromThoseBefore 33 = .ok (.ireturn, 1) := by decide +kernel
theorem dX3_isApartFromThoseBefore_34 : decode cX3_isApartFromThoseBefore 34 = .ok (.iinc 2 1, 3) := by decide +kernel
theorem dX3_isApartFromThoseBefore_37 : decode cX3_isApartFromThoseBefore 37 = .ok (.goto (-35), 3) := by decide +kernel
theorem dX3_isApartFromThoseBefore_40 : decode cX3_isApartFromThoseBefore 40 = .ok (.iconst 1, 1) := by decide +kernel
theorem dX3_isApartFromThoseBefore_41 : decode cX3_isApartFromThoseBefore 41 = .ok (.ireturn, 1) := by decide +kernel
theorem dX3_findHidden_0 : decode cX3_findHidden 0 = .ok (.aload_n 1, 1) := by decide +kernel
theorem dX3_findHidden_1 : decode cX3_findHidden 1 = .ok (.getfield 35, 3) := by decide +kernel
theorem dX3_findHidden_4 : decode cX3_findHidden 4 = .ok (.iload_n 2, 1) := by decide +kernel
theorem dX3_findHidden_5 : decode cX3_findHidden 5 = .ok (.iaload, 1) := by decide +kernel
theorem dX3_findHidden_6 : decode cX3_findHidden 6 = .ok (.istore_n 3, 1) := by decide +kernel
theorem dX3_findHidden_7 : decode cX3_findHidden 7 = .ok (.iconst 0, 1) := by decide +kernel
theorem dX3_findHidden_8 : decode cX3_findHidden 8 = .ok (.istore 4, 2) := by decide +kernel
theorem dX3_findHidden_10 : decode cX3_findHidden 10 = .ok (.iload 4, 2) := by decide +kernel
theorem dX3_findHidden_12 : decode cX3_findHidden 12 = .ok (.bipush 99, 2) := by decide +kernel
theorem dX3_findHidden_14 : decode cX3_findHidden 14 = .ok (.if_icmp .gt 45, 3) := by decide +kernel
theorem dX3_findHidden_17 : decode cX3_findHidden 17 = .ok (.aload_n 0, 1) := by decide +kernel
theorem dX3_findHidden_18 : decode cX3_findHidden 18 = .ok (.aload_n 1, 1) := by decide +kernel
theorem dX3_findHidden_19 : decode cX3_findHidden 19 = .ok (.iload_n 2, 1) := by decide +kernel
theorem dX3_findHidden_20 : decode cX3_findHidden 20 = .ok (.iload_n 3, 1) := by decide +kernel
theorem dX3_findHidden_21 : decode cX3_findHidden 21 = .ok (.iload 4, 2) := by decide +kernel
theorem dX3_findHidden_23 : decode cX3_findHidden 23 = .ok (.isub, 1) := by decide +kernel
theorem dX3_findHidden_24 : decode cX3_findHidden 24 = .ok (.invokevirtual 107, 3) := by decide +kernel
theorem dX3_findHidden_27 : decode cX3_findHidden 27 = .ok (.ifCond .eq 8, 3) := by decide +kernel
theorem dX3_findHidden_30 : decode cX3_findHidden 30 = .ok (.iload_n 3, 1) := by decide +kernel
theorem dX3_findHidden_31 : decode cX3_findHidden 31 = .ok (.iload 4, 2) := by decide +kernel
theorem dX3_findHidden_33 : decode cX3_findHidden 33 = .ok (.isub, 1) := by decide +kernel
theorem dX3_findHidden_34 : decode cX3_findHidden 34 = .ok (.ireturn, 1) := by decide +kernel
theorem dX3_findHidden_35 : decode cX3_findHidden 35 = .ok (.aload_n 0, 1) := by decide +kernel
theorem dX3_findHidden_36 : decode cX3_findHidden 36 = .ok (.aload_n 1, 1) := by decide +kernel
theorem dX3_findHidden_37 : decode cX3_findHidden 37 = .ok (.iload_n 2, 1) := by decide +kernel
theorem dX3_findHidden_38 : decode cX3_findHidden 38 = .ok (.iload_n 3, 1) := by decide +kernel
theorem dX3_findHidden_39 : decode cX3_findHidden 39 = .ok (.iload 4, 2) := by decide +kernel
theorem dX3_findHidden_41 : decode cX3_findHidden 41 = .ok (.iadd, 1) := by decide +kernel
theorem dX3_findHidden_42 : decode cX3_findHidden 42 = .ok (.invokevirtual 107, 3) := by decide +kernel
theorem dX3_findHidden_45 : decode cX3_findHidden 45 = .ok (.ifCond .eq 8, 3) := by decide +kernel
theorem dX3_findHidden_48 : decode cX3_findHidden 48 = .ok (.iload_n 3, 1) := by decide +kernel
theorem dX3_findHidden_49 : decode cX3_findHidden 49 = .ok (.iload 4, 2) := by decide +kernel
theorem dX3_findHidden_51 : decode cX3_findHidden 51 = .ok (.iadd, 1) := by decide +kernel
theorem dX3_findHidden_52 : decode cX3_findHidden 52 = .ok (.ireturn, 1) := by decide +kernel
theorem dX3_findHidden_53 : decode cX3_findHidden 53 = .ok (.iinc 4 1, 3) := by decide +kernel
theorem dX3_findHidden_56 : decode cX3_findHidden 56 = .ok (.goto (-46), 3) := by decide +kernel
theorem dX3_findHidden_59 : decode cX3_findHidden 59 = .ok (.bipush (-2), 2) := by decide +kernel
theorem dX3_findHidden_61 : decode cX3_findHidden 61 = .ok (.ireturn, 1) := by decide +kernel
theorem dX3_isHidden_0 : decode cX3_isHidden 0 = .ok (.iload_n 3, 1) := by decide +kernel
theorem dX3_isHidden_1 : decode cX3_isHidden 1 = .ok (.iconst 0, 1) := by decide +kernel
theorem dX3_isHidden_2 : decode cX3_isHidden 2 = .ok (.bipush 99, 2) := by decide +kernel
theorem dX3_isHidden_4 : decode cX3_isHidden 4 = .ok (.invokestatic 83, 3) := by decide +kernel
theorem dX3_isHidden_7 : decode cX3_isHidden 7 = .ok (.ifCond .ne 5, 3) := by decide +kernel
theorem dX3_isHidden_10 : decode cX3_isHidden 10 = .ok (.iconst 0, 1) := by decide +kernel
theorem dX3_isHidden_11 : decode cX3_isHidden 11 = .ok (.ireturn, 1) := by decide +kernel
theorem dX3_isHidden_12 : decode cX3_isHidden 12 = .ok (.aload_n 1, 1) := by decide +kernel
theorem dX3_isHidden_13 : decode cX3_isHidden 13 = .ok (.getfield 35, 3) := by decide +kernel
theorem dX3_isHidden_16 : decode cX3_isHidden 16 = .ok (.iload_n 2, 1) := by decide +kernel
theorem dX3_isHidden_17 : decode cX3_isHidden 17 = .ok (.iload_n 3, 1) := by decide +kernel
theorem dX3_isHidden_18 : decode cX3_isHidden 18 = .ok (.iastore, 1) := by decide +kernel
theorem dX3_isHidden_19 : decode cX3_isHidden 19 = .ok (.aload_n 0, 1) := by decide +kernel
theorem dX3_isHidden_20 : decode cX3_isHidden 20 = .ok (.aload_n 1, 1) := by decide +kernel
theorem dX3_isHidden_21 : decode cX3_isHidden 21 = .ok (.iload_n 2, 1) := by decide +kernel
theorem dX3_isHidden_22 : decode cX3_isHidden 22 = .ok (.iload_n 2, 1) := by decide +kernel
theorem dX3_isHidden_23 : decode cX3_isHidden 23 = .ok (.invokevirtual 65, 3) := by decide +kernel
theorem dX3_isHidden_26 : decode cX3_isHidden 26 = .ok (.ifCond .ne 7, 3) := by decide +kernel
theorem dX3_isHidden_29 : decode cX3_isHidden 29 = .ok (.iconst 1, 1) := by decide +kernel
theorem dX3_isHidden_30 : decode cX3_isHidden 30 = .ok (.goto 4, 3) := by decide +kernel
theorem dX3_isHidden_33 : decode cX3_isHidden 33 = .ok (.iconst 0, 1) := by decide +kernel
theorem dX3_isHidden_34 : decode cX3_isHidden 34 = .ok (.ireturn, 1) := by decide +kernel
theorem dX3_findLure_0 : decode cX3_findLure 0 = .ok (.aload_n 1, 1) := by decide +kernel
theorem dX3_findLure_1 : decode cX3_findLure 1 = .ok (.getfield 35, 3) := by decide +kernel
theorem dX3_findLure_4 : decode cX3_findLure 4 = .ok (.iload_n 2, 1) := by decide +kernel
theorem dX3_findLure_5 : decode cX3_findLure 5 = .ok (.iaload, 1) := by decide +kernel
theorem dX3_findLure_6 : decode cX3_findLure 6 = .ok (.istore 4, 2) := by decide +kernel
theorem dX3_findLure_8 : decode cX3_findLure 8 = .ok (.bipush (-2), 2) := by decide +kernel
theorem dX3_findLure_10 : decode cX3_findLure 10 = .ok (.istore 5, 2) := by decide +kernel
theorem dX3_findLure_12 : decode cX3_findLure 12 = .ok (.bipush 7, 2) := by decide +kernel
theorem dX3_findLure_14 : decode cX3_findLure 14 = .ok (.istore 6, 2) := by decide +kernel
theorem dX3_findLure_16 : decode cX3_findLure 16 = .ok (.iconst 0, 1) := by decide +kernel
theorem dX3_findLure_17 : decode cX3_findLure 17 = .ok (.istore 7, 2) := by decide +kernel
theorem dX3_findLure_19 : decode cX3_findLure 19 = .ok (.iload 7, 2) := by decide +kernel
theorem dX3_findLure_21 : decode cX3_findLure 21 = .ok (.bipush 99, 2) := by decide +kernel
theorem dX3_findLure_23 : decode cX3_findLure 23 = .ok (.if_icmp .gt 79, 3) := by decide +kernel
theorem dX3_findLure_26 : decode cX3_findLure 26 = .ok (.iload 6, 2) := by decide +kernel
theorem dX3_findLure_28 : decode cX3_findLure 28 = .ok (.iconst 1, 1) := by decide +kernel
theorem dX3_findLure_29 : decode cX3_findLure 29 = .ok (.if_icmp .le 73, 3) := by decide +kernel
theorem dX3_findLure_32 : decode cX3_findLure 32 = .ok (.aload_n 0, 1) := by decide +kernel
theorem dX3_findLure_33 : decode cX3_findLure 33 = .ok (.aload_n 1, 1) := by decide +kernel
theorem dX3_findLure_34 : decode cX3_findLure 34 = .ok (.iload_n 2, 1) := by decide +kernel
theorem dX3_findLure_35 : decode cX3_findLure 35 = .ok (.iload_n 3, 1) := by decide +kernel
theorem dX3_findLure_36 : decode cX3_findLure 36 = .ok (.iload 4, 2) := by decide +kernel
theorem dX3_findLure_38 : decode cX3_findLure 38 = .ok (.iload 7, 2) := by decide +kernel
theorem dX3_findLure_40 : decode cX3_findLure 40 = .ok (.isub, 1) := by decide +kernel
theorem dX3_findLure_41 : decode cX3_findLure 41 = .ok (.invokevirtual 110, 3) := by decide +kernel
theorem dX3_findLure_44 : decode cX3_findLure 44 = .ok (.istore 8, 2) := by decide +kernel
theorem dX3_findLure_46 : decode cX3_findLure 46 = .ok (.iload 8, 2) := by decide +kernel
theorem dX3_findLure_48 : decode cX3_findLure 48 = .ok (.iload 6, 2) := by decide +kernel
theorem dX3_findLure_50 : decode cX3_findLure 50 = .ok (.if_icmp .ge 14, 3) := by decide +kernel
theorem dX3_findLure_53 : decode cX3_findLure 53 = .ok (.iload 8, 2) := by decide +kernel
theorem dX3_findLure_55 : decode cX3_findLure 55 = .ok (.istore 6, 2) := by decide +kernel
theorem dX3_findLure_57 : decode cX3_findLure 57 = .ok (.iload 4, 2) := by decide +kernel
theorem dX3_findLure_59 : decode cX3_findLure 59 = .ok (.iload 7, 2) := by decide +kernel
theorem dX3_findLure_61 : decode cX3_findLure 61 = .ok (.isub, 1) := by decide +kernel
theorem dX3_findLure_62 : decode cX3_findLure 62 = .ok (.istore 5, 2) := by decide +kernel
theorem dX3_findLure_64 : decode cX3_findLure 64 = .ok (.aload_n 0, 1) := by decide +kernel
theorem dX3_findLure_65 : decode cX3_findLure 65 = .ok (.aload_n 1, 1) := by decide +kernel
theorem dX3_findLure_66 : decode cX3_findLure 66 = .ok (.iload_n 2, 1) := by decide +kernel
theorem dX3_findLure_67 : decode cX3_findLure 67 = .ok (.iload_n 3, 1) := by decide +kernel
theorem dX3_findLure_68 : decode cX3_findLure 68 = .ok (.iload 4, 2) := by decide +kernel
theorem dX3_findLure_70 : decode cX3_findLure 70 = .ok (.iload 7, 2) := by decide +kernel
theorem dX3_findLure_72 : decode cX3_findLure 72 = .ok (.iadd, 1) := by decide +kernel
theorem dX3_findLure_73 : decode cX3_findLure 73 = .ok (.invokevirtual 110, 3) := by decide +kernel
theorem dX3_findLure_76 : decode cX3_findLure 76 = .ok (.istore 9, 2) := by decide +kernel
theorem dX3_findLure_78 : decode cX3_findLure 78 = .ok (.iload 9, 2) := by decide +kernel
theorem dX3_findLure_80 : decode cX3_findLure 80 = .ok (.iload 6, 2) := by decide +kernel
theorem dX3_findLure_82 : decode cX3_findLure 82 = .ok (.if_icmp .ge 14, 3) := by decide +kernel
theorem dX3_findLure_85 : decode cX3_findLure 85 = .ok (.iload 9, 2) := by decide +kernel
theorem dX3_findLure_87 : decode cX3_findLure 87 = .ok (.istore 6, 2) := by decide +kernel
theorem dX3_findLure_89 : decode cX3_findLure 89 = .ok (.iload 4, 2) := by decide +kernel
theorem dX3_findLure_91 : decode cX3_findLure 91 = .ok (.iload 7, 2) := by decide +kernel
theorem dX3_findLure_93 : decode cX3_findLure 93 = .ok (.iadd, 1) := by decide +kernel
theorem dX3_findLure_94 : decode cX3_findLure 94 = .ok (.istore 5, 2) := by decide +kernel
theorem dX3_findLure_96 : decode cX3_findLure 96 = .ok (.iinc 7 1, 3) := by decide +kernel
theorem dX3_findLure_99 : decode cX3_findLure 99 = .ok (.goto (-80), 3) := by decide +kernel
theorem dX3_findLure_102 : decode cX3_findLure 102 = .ok (.iload 5, 2) := by decide +kernel
theorem dX3_findLure_104 : decode cX3_findLure 104 = .ok (.ireturn, 1) := by decide +kernel
theorem dX3_luredBy_0 : decode cX3_luredBy 0 = .ok (.iload 4, 2) := by decide +kernel
theorem dX3_luredBy_2 : decode cX3_luredBy 2 = .ok (.iconst 0, 1) := by decide +kernel
theorem dX3_luredBy_3 : decode cX3_luredBy 3 = .ok (.bipush 99, 2) := by decide +kernel
theorem dX3_luredBy_5 : decode cX3_luredBy 5 = .ok (.invokestatic 83, 3) := by decide +kernel
theorem dX3_luredBy_8 : decode cX3_luredBy 8 = .ok (.ifCond .ne 6, 3) := by decide +kernel
theorem dX3_luredBy_11 : decode cX3_luredBy 11 = .ok (.bipush 7, 2) := by decide +kernel
theorem dX3_luredBy_13 : decode cX3_luredBy 13 = .ok (.ireturn, 1) := by decide +kernel
theorem dX3_luredBy_14 : decode cX3_luredBy 14 = .ok (.aload_n 1, 1) := by decide +kernel
theorem dX3_luredBy_15 : decode cX3_luredBy 15 = .ok (.getfield 35, 3) := by decide +kernel
theorem dX3_luredBy_18 : decode cX3_luredBy 18 = .ok (.iload_n 2, 1) := by decide +kernel
theorem dX3_luredBy_19 : decode cX3_luredBy 19 = .ok (.iload 4, 2) := by decide +kernel
theorem dX3_luredBy_21 : decode cX3_luredBy 21 = .ok (.iastore, 1) := by decide +kernel
theorem dX3_luredBy_22 : decode cX3_luredBy 22 = .ok (.aload_n 0, 1) := by decide +kernel
theorem dX3_luredBy_23 : decode cX3_luredBy 23 = .ok (.getfield 31, 3) := by decide +kernel
theorem dX3_luredBy_26 : decode cX3_luredBy 26 = .ok (.aload_n 1, 1) := by decide +kernel
theorem dX3_luredBy_27 : decode cX3_luredBy 27 = .ok (.iload_n 2, 1) := by decide +kernel
theorem dX3_luredBy_28 : decode cX3_luredBy 28 = .ok (.invokevirtual 114, 3) := by decide +kernel
theorem dX3_luredBy_31 : decode cX3_luredBy 31 = .ok (.istore 5, 2) := by decide +kernel
theorem dX3_luredBy_33 : decode cX3_luredBy 33 = .ok (.iload 5, 2) := by decide +kernel
theorem dX3_luredBy_35 : decode cX3_luredBy 35 = .ok (.iload_n 3, 1) := by decide +kernel
theorem dX3_luredBy_36 : decode cX3_luredBy 36 = .ok (.ishr, 1) := by decide +kernel
theorem dX3_luredBy_37 : decode cX3_luredBy 37 = .ok (.iconst 1, 1) := by decide +kernel
theorem dX3_luredBy_38 : decode cX3_luredBy 38 = .ok (.iand, 1) := by decide +kernel
theorem dX3_luredBy_39 : decode cX3_luredBy 39 = .ok (.iconst 1, 1) := by decide +kernel
theorem dX3_luredBy_40 : decode cX3_luredBy 40 = .ok (.if_icmp .ne 11, 3) := by decide +kernel
theorem dX3_luredBy_43 : decode cX3_luredBy 43 = .ok (.iload 5, 2) := by decide +kernel
theorem dX3_luredBy_45 : decode cX3_luredBy 45 = .ok (.invokestatic 118, 3) := by decide +kernel
theorem dX3_luredBy_48 : decode cX3_luredBy 48 = .ok (.goto 5, 3) := by decide +kernel
theorem dX3_luredBy_51 : decode cX3_luredBy 51 = .ok (.bipush 7, 2) := by decide +kernel
theorem dX3_luredBy_53 : decode cX3_luredBy 53 = .ok (.ireturn, 1) := by decide +kernel
theorem dX4_init_0 : decode cX4_init 0 = .ok (.aload_n 0, 1) := by decide +kernel
theorem dX4_init_1 : decode cX4_init 1 = .ok (.invokespecial 3, 3) := by decide +kernel
theorem dX4_init_4 : decode cX4_init 4 = .ok (.aload_n 0, 1) := by decide +kernel
theorem dX4_init_5 : decode cX4_init 5 = .ok (.new 9, 3) := by decide +kernel
theorem dX4_init_8 : decode cX4_init 8 = .ok (.dup, 1) := by decide +kernel
theorem dX4_init_9 : decode cX4_init 9 = .ok (.invokespecial 11, 3) := by decide +kernel
theorem dX4_init_12 : decode cX4_init 12 = .ok (.putfield 12, 3) := by decide +kernel
theorem dX4_init_15 : decode cX4_init 15 = .ok (.aload_n 0, 1) := by decide +kernel
theorem dX4_init_16 : decode cX4_init 16 = .ok (.bipush 72, 2) := by decide +kernel
theorem dX4_init_18 : decode cX4_init 18 = .ok (.newarray .int, 2) := by decide +kernel
theorem dX4_init_20 : decode cX4_init 20 = .ok (.putfield 18, 3) := by decide +kernel
theorem dX4_init_23 : decode cX4_init 23 = .ok (.aload_n 0, 1) := by decide +kernel
theorem dX4_init_24 : decode cX4_init 24 = .ok (.iconst (-1), 1) := by decide +kernel
theorem dX4_init_25 : decode cX4_init 25 = .ok (.putfield 22, 3) := by decide +kernel
theorem dX4_init_28 : decode cX4_init 28 = .ok (.aload_n 0, 1) := by decide +kernel
theorem dX4_init_29 : decode cX4_init 29 = .ok (.aload_n 1, 1) := by decide +kernel
theorem dX4_init_30 : decode cX4_init 30 = .ok (.putfield 26, 3) := by decide +kernel
theorem dX4_init_33 : decode cX4_init 33 = .ok (.aload_n 0, 1) := by decide +kernel
theorem dX4_init_34 : decode cX4_init 34 = .ok (.aload_n 1, 1) := by decide +kernel
theorem dX4_init_35 : decode cX4_init 35 = .ok (.getfield 30, 3) := by decide +kernel
theorem dX4_init_38 : decode cX4_init 38 = .ok (.iconst 0, 1) := by decide +kernel
theorem dX4_init_39 : decode cX4_init 39 = .ok (.aaload, 1) := by decide +kernel
theorem dX4_init_40 : decode cX4_init 40 = .ok (.putfield 36, 3) := by decide +kernel
theorem dX4_init_43 : decode cX4_init 43 = .ok (.return_, 1) := by decide +kernel
theorem dX4_read_0 : decode cX4_read 0 = .ok (.aload_n 0, 1) := by decide +kernel
theorem dX4_read_1 : decode cX4_read 1 = .ok (.aload_n 3, 1) := by decide +kernel
theorem dX4_read_2 : decode cX4_read 2 = .ok (.putfield 26, 3) := by decide +kernel
theorem dX4_read_5 : decode cX4_read 5 = .ok (.aload_n 0, 1) := by decide +kernel
theorem dX4_read_6 : decode cX4_read 6 = .ok (.getfield 26, 3) := by decide +kernel
theorem dX4_read_9 : decode cX4_read 9 = .ok (.invokevirtual 40, 3) := by decide +kernel
theorem dX4_read_12 : decode cX4_read 12 = .ok (.aload_n 0, 1) := by decide +kernel
theorem dX4_read_13 : decode cX4_read 13 = .ok (.iconst 0, 1) := by decide +kernel
theorem dX4_read_14 : decode cX4_read 14 = .ok (.putfield 43, 3) := by decide +kernel
theorem dX4_read_17 : decode cX4_read 17 = .ok (.aload_n 0, 1) := by decide +kernel
theorem dX4_read_18 : decode cX4_read 18 = .ok (.iconst (-1), 1) := by decide +kernel
theorem dX4_read_19 : decode cX4_read 19 = .ok (.putfield 22, 3) := by decide +kernel
theorem dX4_read_22 : decode cX4_read 22 = .ok (.aload_n 0, 1) := by decide +kernel
theorem dX4_read_23 : decode cX4_read 23 = .ok (.getfield 12, 3) := by decide +kernel
theorem dX4_read_26 : decode cX4_read 26 = .ok (.aload_n 1, 1) := by decide +kernel
theorem dX4_read_27 : decode cX4_read 27 = .ok (.iload_n 2, 1) := by decide +kernel
theorem dX4_read_28 : decode cX4_read 28 = .ok (.invokevirtual 46, 3) := by decide +kernel
theorem dX4_read_31 : decode cX4_read 31 = .ok (.iconst 0, 1) := by decide +kernel
theorem dX4_read_32 : decode cX4_read 32 = .ok (.istore 4, 2) := by decide +kernel
theorem dX4_read_34 : decode cX4_read 34 = .ok (.iload 4, 2) := by decide +kernel
theorem dX4_read_36 : decode cX4_read 36 = .ok (.iload_n 2, 1) := by decide +kernel
theorem dX4_read_37 : decode cX4_read 37 = .ok (.if_icmp .gt 34, 3) := by decide +kernel
theorem dX4_read_40 : decode cX4_read 40 = .ok (.aload_n 0, 1) := by decide +kernel
theorem dX4_read_41 : decode cX4_read 41 = .ok (.getfield 43, 3) := by decide +kernel
theorem dX4_read_44 : decode cX4_read 44 = .ok (.ifCond .ne 27, 3) := by decide +kernel
theorem dX4_read_47 : decode cX4_read 47 = .ok (.aload_n 0, 1) := by decide +kernel
theorem dX4_read_48 : decode cX4_read 48 = .ok (.getfield 12, 3) := by decide +kernel
theorem dX4_read_51 : decode cX4_read 51 = .ok (.getfield 50, 3) := by decide +kernel
theorem dX4_read_54 : decode cX4_read 54 = .ok (.ifCond .eq 17, 3) := by decide +kernel
theorem dX4_read_57 : decode cX4_read 57 = .ok (.aload_n 0, 1) := by decide +kernel
theorem dX4_read_58 : decode cX4_read 58 = .ok (.invokevirtual 53, 3) := by decide +kernel
theorem dX4_read_61 : decode cX4_read 61 = .ok (.aload_n 0, 1) := by decide +kernel
theorem dX4_read_62 : decode cX4_read 62 = .ok (.invokevirtual 56, 3) := by decide +kernel
theorem dX4_read_65 : decode cX4_read 65 = .ok (.iinc 4 1, 3) := by decide +kernel
theorem dX4_read_68 : decode cX4_read 68 = .ok (.goto (-34), 3) := by decide +kernel
theorem dX4_read_71 : decode cX4_read 71 = .ok (.aload_n 0, 1) := by decide +kernel
theorem dX4_read_72 : decode cX4_read 72 = .ok (.getfield 43, 3) := by decide +kernel
theorem dX4_read_75 : decode cX4_read 75 = .ok (.ifCond .ne 7, 3) := by decide +kernel
theorem dX4_read_78 : decode cX4_read 78 = .ok (.iconst 1, 1) := by decide +kernel
theorem dX4_read_79 : decode cX4_read 79 = .ok (.goto 4, 3) := by decide +kernel
theorem dX4_read_82 : decode cX4_read 82 = .ok (.iconst 0, 1) := by decide +kernel
theorem dX4_read_83 : decode cX4_read 83 = .ok (.ireturn, 1) := by decide +kernel
theorem dX4_fail_0 : decode cX4_fail 0 = .ok (.aload_n 0, 1) := by decide +kernel
theorem dX4_fail_1 : decode cX4_fail 1 = .ok (.getfield 43, 3) := by decide +kernel
theorem dX4_fail_4 : decode cX4_fail 4 = .ok (.ifCond .ne 19, 3) := by decide +kernel
theorem dX4_fail_7 : decode cX4_fail 7 = .ok (.aload_n 0, 1) := by decide +kernel
theorem dX4_fail_8 : decode cX4_fail 8 = .ok (.iload_n 1, 1) := by decide +kernel
theorem dX4_fail_9 : decode cX4_fail 9 = .ok (.putfield 43, 3) := by decide +kernel
theorem dX4_fail_12 : decode cX4_fail 12 = .ok (.aload_n 0, 1) := by decide +kernel
theorem dX4_fail_13 : decode cX4_fail 13 = .ok (.aload_n 0, 1) := by decide +kernel
theorem dX4_fail_14 : decode cX4_fail 14 = .ok (.getfield 12, 3) := by decide +kernel
theorem dX4_fail_17 : decode cX4_fail 17 = .ok (.getfield 59, 3) := by decide +kernel
theorem dX4_fail_20 : decode cX4_fail 20 = .ok (.putfield 22, 3) := by decide +kernel
theorem dX4_fail_23 : decode cX4_fail 23 = .ok (.return_, 1) := by decide +kernel
theorem dX4_readLine_0 : decode cX4_readLine 0 = .ok (.aload_n 0, 1) := by decide +kernel
theorem dX4_readLine_1 : decode cX4_readLine 1 = .ok (.getfield 12, 3) := by decide +kernel
theorem dX4_readLine_4 : decode cX4_readLine 4 = .ok (.getfield 50, 3) := by decide +kernel
theorem dX4_readLine_7 : decode cX4_readLine 7 = .ok (.iconst 3, 1) := by decide +kernel
theorem dX4_readLine_8 : decode cX4_readLine 8 = .ok (.if_icmp .ne 13, 3) := by decide +kernel
theorem dX4_readLine_11 : decode cX4_readLine 11 = .ok (.aload_n 0, 1) := by decide +kernel
theorem dX4_readLine_12 : decode cX4_readLine 12 = .ok (.getfield 12, 3) := by decide +kernel
theorem dX4_readLine_15 : decode cX4_readLine 15 = .ok (.getfield 60, 3) := by decide +kernel
theorem dX4_readLine_18 : decode cX4_readLine 18 = .ok (.goto 4, 3) := by decide +kernel
theorem dX4_readLine_21 : decode cX4_readLine 21 = .ok (.iconst (-1), 1) := by decide +kernel
theorem dX4_readLine_22 : decode cX4_readLine 22 = .ok (.tableswitch 118 0 7 #[46, 53, 60, 67, 78, 89, 100, 111], 46) := by decide +kernel
theorem dX4_readLine_68 : decode cX4_readLine 68 = .ok (.aload_n 0, 1) := by decide +kernel
theorem dX4_readLine_69 : decode cX4_readLine 69 = .ok (.invokevirtual 63, 3) := by decide +kernel
theorem dX4_readLine_72 : decode cX4_readLine 72 = .ok (.goto 73, 3) := by decide +kernel
theorem dX4_readLine_75 : decode cX4_readLine 75 = .ok (.aload_n 0, 1) := by decide +kernel
theorem dX4_readLine_76 : decode cX4_readLine 76 = .ok (.invokevirtual 66, 3) := by decide +kernel
theorem dX4_readLine_79 : decode cX4_readLine 79 = .ok (.goto 66, 3) := by decide +kernel
theorem dX4_readLine_82 : decode cX4_readLine 82 = .ok (.aload_n 0, 1) := by decide +kernel
theorem dX4_readLine_83 : decode cX4_readLine 83 = .ok (.invokevirtual 69, 3) := by decide +kernel
theorem dX4_readLine_86 : decode cX4_readLine 86 = .ok (.goto 59, 3) := by decide +kernel
theorem dX4_readLine_89 : decode cX4_readLine 89 = .ok (.aload_n 0, 1) := by decide +kernel
theorem dX4_readLine_90 : decode cX4_readLine 90 = .ok (.iconst 0, 1) := by decide +kernel
theorem dX4_readLine_91 : decode cX4_readLine 91 = .ok (.iconst 0, 1) := by decide +kernel
theorem dX4_readLine_92 : decode cX4_readLine 92 = .ok (.bipush 20, 2) := by decide +kernel
theorem dX4_readLine_94 : decode cX4_readLine 94 = .ok (.invokevirtual 72, 3) := by decide +kernel
theorem dX4_readLine_97 : decode cX4_readLine 97 = .ok (.goto 48, 3) := by decide +kernel
theorem dX4_readLine_100 : decode cX4_readLine 100 = .ok (.aload_n 0, 1) := by decide +kernel
theorem dX4_readLine_101 : decode cX4_readLine 101 = .ok (.iconst 1, 1) := by decide +kernel
theorem dX4_readLine_102 : decode cX4_readLine 102 = .ok (.iconst 1, 1) := by decide +kernel
theorem dX4_readLine_103 : decode cX4_readLine 103 = .ok (.bipush 9, 2) := by decide +kernel
theorem dX4_readLine_105 : decode cX4_readLine 105 = .ok (.invokevirtual 72, 3) := by decide +kernel
theorem dX4_readLine_108 : decode cX4_readLine 108 = .ok (.goto 37, 3) := by decide +kernel
theorem dX4_readLine_111 : decode cX4_readLine 111 = .ok (.aload_n 0, 1) := by decide +kernel
theorem dX4_readLine_112 : decode cX4_readLine 112 = .ok (.iconst 2, 1) := by decide +kernel
theorem dX4_readLine_113 : decode cX4_readLine 113 = .ok (.iconst 0, 1) := by decide +kernel
theorem dX4_readLine_114 : decode cX4_readLine 114 = .ok (.bipush 100, 2) := by decide +kernel
theorem dX4_readLine_116 : decode cX4_readLine 116 = .ok (.invokevirtual 72, 3) := by decide +kernel
theorem dX4_readLine_119 : decode cX4_readLine 119 = .ok (.goto 26, 3) := by decide +kernel
theorem dX4_readLine_122 : decode cX4_readLine 122 = .ok (.aload_n 0, 1) := by decide +kernel
theorem dX4_readLine_123 : decode cX4_readLine 123 = .ok (.iconst 3, 1) := by decide +kernel
theorem dX4_readLine_124 : decode cX4_readLine 124 = .ok (.iconst 0, 1) := by decide +kernel
theorem dX4_readLine_125 : decode cX4_readLine 125 = .ok (.ldc 76, 2) := by decide +kernel
theorem dX4_readLine_127 : decode cX4_readLine 127 = .ok (.invokevirtual 72, 3) := by decide +kernel
theorem dX4_readLine_130 : decode cX4_readLine 130 = .ok (.goto 15, 3) := by decide +kernel
theorem dX4_readLine_133 : decode cX4_readLine 133 = .ok (.aload_n 0, 1) := by decide +kernel
theorem dX4_readLine_134 : decode cX4_readLine 134 = .ok (.invokevirtual 77, 3) := by decide +kernel
theorem dX4_readLine_137 : decode cX4_readLine 137 = .ok (.goto 8, 3) := by decide +kernel
theorem dX4_readLine_140 : decode cX4_readLine 140 = .ok (.aload_n 0, 1) := by decide +kernel
theorem dX4_readLine_141 : decode cX4_readLine 141 = .ok (.iconst 1, 1) := by decide +kernel
theorem dX4_readLine_142 : decode cX4_readLine 142 = .ok (.invokevirtual 80, 3) := by decide +kernel
theorem dX4_readLine_145 : decode cX4_readLine 145 = .ok (.return_, 1) := by decide +kernel
theorem dX4_takeLineEnd_0 : decode cX4_takeLineEnd 0 = .ok (.aload_n 0, 1) := by decide +kernel
theorem dX4_takeLineEnd_1 : decode cX4_takeLineEnd 1 = .ok (.getfield 43, 3) := by decide +kernel
theorem dX4_takeLineEnd_4 : decode cX4_takeLineEnd 4 = .ok (.ifCond .eq 4, 3) := by decide +kernel
theorem dX4_takeLineEnd_7 : decode cX4_takeLineEnd 7 = .ok (.return_, 1) := by decide +kernel
theorem dX4_takeLineEnd_8 : decode cX4_takeLineEnd 8 = .ok (.aload_n 0, 1) := by decide +kernel
theorem dX4_takeLineEnd_9 : decode cX4_takeLineEnd 9 = .ok (.getfield 12, 3) := by decide +kernel
theorem dX4_takeLineEnd_12 : decode cX4_takeLineEnd 12 = .ok (.bipush 15, 2) := by decide +kernel
theorem dX4_takeLineEnd_14 : decode cX4_takeLineEnd 14 = .ok (.invokevirtual 84, 3) := by decide +kernel
theorem dX4_takeLineEnd_17 : decode cX4_takeLineEnd 17 = .ok (.ifCond .ne 9, 3) := by decide +kernel
theorem dX4_takeLineEnd_20 : decode cX4_takeLineEnd 20 = .ok (.aload_n 0, 1) := by decide +kernel
theorem dX4_takeLineEnd_21 : decode cX4_takeLineEnd 21 = .ok (.iconst 1, 1) := by decide +kernel
theorem dX4_takeLineEnd_22 : decode cX4_takeLineEnd 22 = .ok (.invokevirtual 80, 3) := by decide +kernel
theorem dX4_takeLineEnd_25 : decode cX4_takeLineEnd 25 = .ok (.return_, 1) := by decide +kernel
theorem dX4_takeLineEnd_26 : decode cX4_takeLineEnd 26 = .ok (.aload_n 0, 1) := by decide +kernel
theorem dX4_takeLineEnd_27 : decode cX4_takeLineEnd 27 = .ok (.getfield 12, 3) := by decide +kernel
theorem dX4_takeLineEnd_30 : decode cX4_takeLineEnd 30 = .ok (.invokevirtual 88, 3) := by decide +kernel
theorem dX4_takeLineEnd_33 : decode cX4_takeLineEnd 33 = .ok (.aload_n 0, 1) := by decide +kernel
theorem dX4_takeLineEnd_34 : decode cX4_takeLineEnd 34 = .ok (.getfield 26, 3) := by decide +kernel
theorem dX4_takeLineEnd_37 : decode cX4_takeLineEnd 37 = .ok (.dup, 1) := by decide +kernel
theorem dX4_takeLineEnd_38 : decode cX4_takeLineEnd 38 = .ok (.getfield 91, 3) := by decide +kernel
theorem dX4_takeLineEnd_41 : decode cX4_takeLineEnd 41 = .ok (.iconst 1, 1) := by decide +kernel
theorem dX4_takeLineEnd_42 : decode cX4_takeLineEnd 42 = .ok (.iadd, 1) := by decide +kernel
theorem dX4_takeLineEnd_43 : decode cX4_takeLineEnd 43 = .ok (.putfield 91, 3) := by decide +kernel
theorem dX4_takeLineEnd_46 : decode cX4_takeLineEnd 46 = .ok (.return_, 1) := by decide +kernel
theorem dX4_takeLineWord_0 : decode cX4_takeLineWord 0 = .ok (.iload_n 1, 1) := by decide +kernel
theorem dX4_takeLineWord_1 : decode cX4_takeLineWord 1 = .ok (.iload_n 2, 1) := by decide +kernel
theorem dX4_takeLineWord_2 : decode cX4_takeLineWord 2 = .ok (.if_icmp .lt 9, 3) := by decide +kernel
theorem dX4_takeLineWord_5 : decode cX4_takeLineWord 5 = .ok (.aload_n 0, 1) := by decide +kernel
theorem dX4_takeLineWord_6 : decode cX4_takeLineWord 6 = .ok (.iconst 2, 1) := by decide +kernel
theorem dX4_takeLineWord_7 : decode cX4_takeLineWord 7 = .ok (.invokevirtual 80, 3) := by decide +kernel
theorem dX4_takeLineWord_10 : decode cX4_takeLineWord 10 = .ok (.return_, 1) := by decide +kernel
theorem dX4_takeLineWord_11 : decode cX4_takeLineWord 11 = .ok (.aload_n 0, 1) := by decide +kernel
theorem dX4_takeLineWord_12 : decode cX4_takeLineWord 12 = .ok (.getfield 12, 3) := by decide +kernel
theorem dX4_takeLineWord_15 : decode cX4_takeLineWord 15 = .ok (.invokevirtual 88, 3) := by decide +kernel
theorem dX4_takeLineWord_18 : decode cX4_takeLineWord 18 = .ok (.return_, 1) := by decide +kernel
theorem dX4_lookNumber_0 : decode cX4_lookNumber 0 = .ok (.aload_n 0, 1) := by decide +kernel
theorem dX4_lookNumber_1 : decode cX4_lookNumber 1 = .ok (.getfield 43, 3) := by decide +kernel
theorem dX4_lookNumber_4 : decode cX4_lookNumber 4 = .ok (.ifCond .eq 5, 3) := by decide +kernel
theorem dX4_lookNumber_7 : decode cX4_lookNumber 7 = .ok (.iload_n 1, 1) := by decide +kernel
theorem dX4_lookNumber_8 : decode cX4_lookNumber 8 = .ok (.ireturn, 1) := by decide +kernel
theorem dX4_lookNumber_9 : decode cX4_lookNumber 9 = .ok (.aload_n 0, 1) := by decide +kernel
theorem dX4_lookNumber_10 : decode cX4_lookNumber 10 = .ok (.getfield 12, 3) := by decide +kernel
theorem dX4_lookNumber_13 : decode cX4_lookNumber 13 = .ok (.getfield 50, 3) := by decide +kernel
theorem dX4_lookNumber_16 : decode cX4_lookNumber 16 = .ok (.iconst 4, 1) := by decide +kernel
theorem dX4_lookNumber_17 : decode cX4_lookNumber 17 = .ok (.if_icmp .eq 11, 3) := by decide +kernel
theorem dX4_lookNumber_20 : decode cX4_lookNumber 20 = .ok (.aload_n 0, 1) := by decide +kernel
theorem dX4_lookNumber_21 : decode cX4_lookNumber 21 = .ok (.iconst 1, 1) := by decide +kernel
theorem dX4_lookNumber_22 : decode cX4_lookNumber 22 = .ok (.invokevirtual 80, 3) := by decide +kernel
theorem dX4_lookNumber_25 : decode cX4_lookNumber 25 = .ok (.goto 23, 3) := by decide +kernel
theorem dX4_lookNumber_28 : decode cX4_lookNumber 28 = .ok (.aload_n 0, 1) := by decide +kernel
theorem dX4_lookNumber_29 : decode cX4_lookNumber 29 = .ok (.getfield 12, 3) := by decide +kernel
theorem dX4_lookNumber_32 : decode cX4_lookNumber 32 = .ok (.getfield 60, 3) := by decide +kernel
theorem dX4_lookNumber_35 : decode cX4_lookNumber 35 = .ok (.iload_n 1, 1) := by decide +kernel
theorem dX4_lookNumber_36 : decode cX4_lookNumber 36 = .ok (.iload_n 2, 1) := by decide +kernel
theorem dX4_lookNumber_37 : decode cX4_lookNumber 37 = .ok (.invokestatic 94, 3) := by decide +kernel
theorem dX4_lookNumber_40 : decode cX4_lookNumber 40 = .ok (.ifCond .ne 8, 3) := by decide +kernel
theorem dX4_lookNumber_43 : decode cX4_lookNumber 43 = .ok (.aload_n 0, 1) := by decide +kernel
theorem dX4_lookNumber_44 : decode cX4_lookNumber 44 = .ok (.iconst 2, 1) := by decide +kernel
theorem dX4_lookNumber_45 : decode cX4_lookNumber 45 = .ok (.invokevirtual 80, 3) := by decide +kernel
theorem dX4_lookNumber_48 : decode cX4_lookNumber 48 = .ok (.aload_n 0, 1) := by decide +kernel
theorem dX4_lookNumber_49 : decode cX4_lookNumber 49 = .ok (.getfield 43, 3) := by decide +kernel
theorem dX4_lookNumber_52 : decode cX4_lookNumber 52 = .ok (.ifCond .ne 13, 3) := by decide +kernel
theorem dX4_lookNumber_55 : decode cX4_lookNumber 55 = .ok (.aload_n 0, 1) := by decide +kernel
theorem dX4_lookNumber_56 : decode cX4_lookNumber 56 = .ok (.getfield 12, 3) := by decide +kernel
theorem dX4_lookNumber_59 : decode cX4_lookNumber 59 = .ok (.getfield 60, 3) := by decide +kernel
theorem dX4_lookNumber_62 : decode cX4_lookNumber 62 = .ok (.goto 4, 3) := by decide +kernel
theorem dX4_lookNumber_65 : decode cX4_lookNumber 65 = .ok (.iload_n 1, 1) := by decide +kernel
theorem dX4_lookNumber_66 : decode cX4_lookNumber 66 = .ok (.ireturn, 1) := by decide +kernel
theorem dX4_takeNumber_0 : decode cX4_takeNumber 0 = .ok (.aload_n 0, 1) := by decide +kernel
theorem dX4_takeNumber_1 : decode cX4_takeNumber 1 = .ok (.iload_n 1, 1) := by decide +kernel
theorem dX4_takeNumber_2 : decode cX4_takeNumber 2 = .ok (.iload_n 2, 1) := by decide +kernel
theorem dX4_takeNumber_3 : decode cX4_takeNumber 3 = .ok (.invokevirtual 98, 3) := by decide +kernel
theorem dX4_takeNumber_6 : decode cX4_takeNumber 6 = .ok (.istore_n 3, 1) := by decide +kernel
theorem dX4_takeNumber_7 : decode cX4_takeNumber 7 = .ok (.aload_n 0, 1) := by decide +kernel
theorem dX4_takeNumber_8 : decode cX4_takeNumber 8 = .ok (.getfield 43, 3) := by decide +kernel
theorem dX4_takeNumber_11 : decode cX4_takeNumber 11 = .ok (.ifCond .ne 10, 3) := by decide +kernel
theorem dX4_takeNumber_14 : decode cX4_takeNumber 14 = .ok (.aload_n 0, 1) := by decide +kernel
theorem dX4_takeNumber_15 : decode cX4_takeNumber 15 = .ok (.getfield 12, 3) := by decide +kernel
theorem dX4_takeNumber_18 : decode cX4_takeNumber 18 = .ok (.invokevirtual 88, 3) := by decide +kernel
theorem dX4_takeNumber_21 : decode cX4_takeNumber 21 = .ok (.iload_n 3, 1) := by decide +kernel
theorem dX4_takeNumber_22 : decode cX4_takeNumber 22 = .ok (.ireturn, 1) := by decide +kernel
theorem dX4_takeName_0 : decode cX4_takeName 0 = .ok (.aload_n 0, 1) := by decide +kernel
theorem dX4_takeName_1 : decode cX4_takeName 1 = .ok (.getfield 43, 3) := by decide +kernel
theorem dX4_takeName_4 : decode cX4_takeName 4 = .ok (.ifCond .eq 5, 3) := by decide +kernel
theorem dX4_takeName_7 : decode cX4_takeName 7 = .ok (.iconst 0, 1) := by decide +kernel
theorem dX4_takeName_8 : decode cX4_takeName 8 = .ok (.ireturn, 1) := by decide +kernel
theorem dX4_takeName_9 : decode cX4_takeName 9 = .ok (.aload_n 0, 1) := by decide +kernel
theorem dX4_takeName_10 : decode cX4_takeName 10 = .ok (.getfield 12, 3) := by decide +kernel
theorem dX4_takeName_13 : decode cX4_takeName 13 = .ok (.getfield 60, 3) := by decide +kernel
theorem dX4_takeName_16 : decode cX4_takeName 16 = .ok (.istore_n 2, 1) := by decide +kernel
theorem dX4_takeName_17 : decode cX4_takeName 17 = .ok (.aload_n 0, 1) := by decide +kernel
theorem dX4_takeName_18 : decode cX4_takeName 18 = .ok (.getfield 12, 3) := by decide +kernel
theorem dX4_takeName_21 : decode cX4_takeName 21 = .ok (.getfield 50, 3) := by decide +kernel
theorem dX4_takeName_24 : decode cX4_takeName 24 = .ok (.iconst 2, 1) := by decide +kernel
theorem dX4_takeName_25 : decode cX4_takeName 25 = .ok (.if_icmp .eq 11, 3) := by decide +kernel
theorem dX4_takeName_28 : decode cX4_takeName 28 = .ok (.aload_n 0, 1) := by decide +kernel
theorem dX4_takeName_29 : decode cX4_takeName 29 = .ok (.iconst 1, 1) := by decide +kernel
theorem dX4_takeName_30 : decode cX4_takeName 30 = .ok (.invokevirtual 80, 3) := by decide +kernel
theorem dX4_takeName_33 : decode cX4_takeName 33 = .ok (.goto 58, 3) := by decide +kernel
theorem dX4_takeName_36 : decode cX4_takeName 36 = .ok (.iload_n 1, 1) := by decide +kernel
theorem dX4_takeName_37 : decode cX4_takeName 37 = .ok (.ifCond .eq 23, 3) := by decide +kernel
theorem dX4_takeName_40 : decode cX4_takeName 40 = .ok (.aload_n 0, 1) := by decide +kernel
theorem dX4_takeName_41 : decode cX4_takeName 41 = .ok (.getfield 26, 3) := by decide +kernel
theorem dX4_takeName_44 : decode cX4_takeName 44 = .ok (.iload_n 2, 1) := by decide +kernel
theorem dX4_takeName_45 : decode cX4_takeName 45 = .ok (.invokevirtual 102, 3) := by decide +kernel
theorem dX4_takeName_48 : decode cX4_takeName 48 = .ok (.iconst (-1), 1) := by decide +kernel
theorem dX4_takeName_49 : decode cX4_takeName 49 = .ok (.if_icmp .eq 11, 3) := by decide +kernel
theorem dX4_takeName_52 : decode cX4_takeName 52 = .ok (.aload_n 0, 1) := by decide +kernel
theorem dX4_takeName_53 : decode cX4_takeName 53 = .ok (.iconst 3, 1) := by decide +kernel
theorem dX4_takeName_54 : decode cX4_takeName 54 = .ok (.invokevirtual 80, 3) := by decide +kernel
theorem dX4_takeName_57 : decode cX4_takeName 57 = .ok (.goto 34, 3) := by decide +kernel
theorem dX4_takeName_60 : decode cX4_takeName 60 = .ok (.iload_n 1, 1) := by decide +kernel
theorem dX4_takeName_61 : decode cX4_takeName 61 = .ok (.ifCond .ne 23, 3) := by decide +kernel
theorem dX4_takeName_64 : decode cX4_takeName 64 = .ok (.aload_n 0, 1) := by decide +kernel
theorem dX4_takeName_65 : decode cX4_takeName 65 = .ok (.getfield 26, 3) := by decide +kernel
theorem dX4_takeName_68 : decode cX4_takeName 68 = .ok (.iload_n 2, 1) := by decide +kernel
theorem dX4_takeName_69 : decode cX4_takeName 69 = .ok (.invokevirtual 102, 3) := by decide +kernel
theorem dX4_takeName_72 : decode cX4_takeName 72 = .ok (.iconst (-1), 1) := by decide +kernel
theorem dX4_takeName_73 : decode cX4_takeName 73 = .ok (.if_icmp .ne 11, 3) := by decide +kernel
theorem dX4_takeName_76 : decode cX4_takeName 76 = .ok (.aload_n 0, 1) := by decide +kernel
theorem dX4_takeName_77 : decode cX4_takeName 77 = .ok (.iconst 4, 1) := by decide +kernel
theorem dX4_takeName_78 : decode cX4_takeName 78 = .ok (.invokevirtual 80, 3) := by decide +kernel
theorem dX4_takeName_81 : decode cX4_takeName 81 = .ok (.goto 10, 3) := by decide +kernel
theorem dX4_takeName_84 : decode cX4_takeName 84 = .ok (.aload_n 0, 1) := by decide +kernel
theorem dX4_takeName_85 : decode cX4_takeName 85 = .ok (.getfield 12, 3) := by decide +kernel
theorem dX4_takeName_88 : decode cX4_takeName 88 = .ok (.invokevirtual 88, 3) := by decide +kernel
theorem dX4_takeName_91 : decode cX4_takeName 91 = .ok (.iload_n 2, 1) := by decide +kernel
theorem dX4_takeName_92 : decode cX4_takeName 92 = .ok (.ireturn, 1) := by decide +kernel
theorem dX4_readHouse_0 : decode cX4_readHouse 0 = .ok (.aload_n 0, 1) := by decide +kernel
theorem dX4_readHouse_1 : decode cX4_readHouse 1 = .ok (.aload_n 0, 1) := by decide +kernel
theorem dX4_readHouse_2 : decode cX4_readHouse 2 = .ok (.getfield 26, 3) := by decide +kernel
theorem dX4_readHouse_5 : decode cX4_readHouse 5 = .ok (.getfield 106, 3) := by decide +kernel
theorem dX4_readHouse_8 : decode cX4_readHouse 8 = .ok (.bipush 6, 2) := by decide +kernel
theorem dX4_readHouse_10 : decode cX4_readHouse 10 = .ok (.invokevirtual 109, 3) := by decide +kernel
theorem dX4_readHouse_13 : decode cX4_readHouse 13 = .ok (.aload_n 0, 1) := by decide +kernel
theorem dX4_readHouse_14 : decode cX4_readHouse 14 = .ok (.iconst 1, 1) := by decide +kernel
theorem dX4_readHouse_15 : decode cX4_readHouse 15 = .ok (.invokevirtual 113, 3) := by decide +kernel
theorem dX4_readHouse_18 : decode cX4_readHouse 18 = .ok (.istore_n 1, 1) := by decide +kernel
theorem dX4_readHouse_19 : decode cX4_readHouse 19 = .ok (.aload_n 0, 1) := by decide +kernel
theorem dX4_readHouse_20 : decode cX4_readHouse 20 = .ok (.iconst 0, 1) := by decide +kernel
theorem dX4_readHouse_21 : decode cX4_readHouse 21 = .ok (.bipush 99, 2) := by decide +kernel
theorem dX4_readHouse_23 : decode cX4_readHouse 23 = .ok (.invokevirtual 117, 3) := by decide +kernel
theorem dX4_readHouse_26 : decode cX4_readHouse 26 = .ok (.istore_n 2, 1) := by decide +kernel
theorem dX4_readHouse_27 : decode cX4_readHouse 27 = .ok (.aload_n 0, 1) := by decide +kernel
theorem dX4_readHouse_28 : decode cX4_readHouse 28 = .ok (.iconst 0, 1) := by decide +kernel
theorem dX4_readHouse_29 : decode cX4_readHouse 29 = .ok (.bipush 9, 2) := by decide +kernel
theorem dX4_readHouse_31 : decode cX4_readHouse 31 = .ok (.invokevirtual 117, 3) := by decide +kernel
theorem dX4_readHouse_34 : decode cX4_readHouse 34 = .ok (.istore_n 3, 1) := by decide +kernel
theorem dX4_readHouse_35 : decode cX4_readHouse 35 = .ok (.aload_n 0, 1) := by decide +kernel
theorem dX4_readHouse_36 : decode cX4_readHouse 36 = .ok (.getfield 43, 3) := by decide +kernel
theorem dX4_readHouse_39 : decode cX4_readHouse 39 = .ok (.ifCond .ne 13, 3) := by decide +kernel
theorem dX4_readHouse_42 : decode cX4_readHouse 42 = .ok (.aload_n 0, 1) := by decide +kernel
theorem dX4_readHouse_43 : decode cX4_readHouse 43 = .ok (.getfield 26, 3) := by decide +kernel
theorem dX4_readHouse_46 : decode cX4_readHouse 46 = .ok (.iload_n 1, 1) := by decide +kernel
theorem dX4_readHouse_47 : decode cX4_readHouse 47 = .ok (.iload_n 2, 1) := by decide +kernel
theorem dX4_readHouse_48 : decode cX4_readHouse 48 = .ok (.iload_n 3, 1) := by decide +kernel
theorem dX4_readHouse_49 : decode cX4_readHouse 49 = .ok (.invokevirtual 120, 3) := by decide +kernel
theorem dX4_readHouse_52 : decode cX4_readHouse 52 = .ok (.return_, 1) := by decide +kernel
theorem dX4_readTurn_0 : decode cX4_readTurn 0 = .ok (.aload_n 0, 1) := by decide +kernel
theorem dX4_readTurn_1 : decode cX4_readTurn 1 = .ok (.aload_n 0, 1) := by decide +kernel
theorem dX4_readTurn_2 : decode cX4_readTurn 2 = .ok (.getfield 26, 3) := by decide +kernel
theorem dX4_readTurn_5 : decode cX4_readTurn 5 = .ok (.getfield 123, 3) := by decide +kernel
theorem dX4_readTurn_8 : decode cX4_readTurn 8 = .ok (.bipush 10, 2) := by decide +kernel
theorem dX4_readTurn_10 : decode cX4_readTurn 10 = .ok (.invokevirtual 109, 3) := by decide +kernel
theorem dX4_readTurn_13 : decode cX4_readTurn 13 = .ok (.aload_n 0, 1) := by decide +kernel
theorem dX4_readTurn_14 : decode cX4_readTurn 14 = .ok (.getfield 26, 3) := by decide +kernel
theorem dX4_readTurn_17 : decode cX4_readTurn 17 = .ok (.aload_n 0, 1) := by decide +kernel
theorem dX4_readTurn_18 : decode cX4_readTurn 18 = .ok (.iconst 0, 1) := by decide +kernel
theorem dX4_readTurn_19 : decode cX4_readTurn 19 = .ok (.invokevirtual 113, 3) := by decide +kernel
theorem dX4_readTurn_22 : decode cX4_readTurn 22 = .ok (.invokevirtual 102, 3) := by decide +kernel
theorem dX4_readTurn_25 : decode cX4_readTurn 25 = .ok (.istore_n 1, 1) := by decide +kernel
theorem dX4_readTurn_26 : decode cX4_readTurn 26 = .ok (.aload_n 0, 1) := by decide +kernel
theorem dX4_readTurn_27 : decode cX4_readTurn 27 = .ok (.iconst 0, 1) := by decide +kernel
theorem dX4_readTurn_28 : decode cX4_readTurn 28 = .ok (.bipush 99, 2) := by decide +kernel
theorem dX4_readTurn_30 : decode cX4_readTurn 30 = .ok (.invokevirtual 117, 3) := by decide +kernel
theorem dX4_readTurn_33 : decode cX4_readTurn 33 = .ok (.istore_n 2, 1) := by decide +kernel
theorem dX4_readTurn_34 : decode cX4_readTurn 34 = .ok (.aload_n 0, 1) := by decide +kernel
theorem dX4_readTurn_35 : decode cX4_readTurn 35 = .ok (.iconst 0, 1) := by decide +kernel
theorem dX4_readTurn_36 : decode cX4_readTurn 36 = .ok (.bipush 99, 2) := by decide +kernel
theorem dX4_readTurn_38 : decode cX4_readTurn 38 = .ok (.invokevirtual 117, 3) := by decide +kernel
theorem dX4_readTurn_41 : decode cX4_readTurn 41 = .ok (.istore_n 3, 1) := by decide +kernel
theorem dX4_readTurn_42 : decode cX4_readTurn 42 = .ok (.aload_n 0, 1) := by decide +kernel
theorem dX4_readTurn_43 : decode cX4_readTurn 43 = .ok (.getfield 43, 3) := by decide +kernel
theorem dX4_readTurn_46 : decode cX4_readTurn 46 = .ok (.ifCond .ne 13, 3) := by decide +kernel
theorem dX4_readTurn_49 : decode cX4_readTurn 49 = .ok (.aload_n 0, 1) := by decide +kernel
theorem dX4_readTurn_50 : decode cX4_readTurn 50 = .ok (.getfield 26, 3) := by decide +kernel
theorem dX4_readTurn_53 : decode cX4_readTurn 53 = .ok (.iload_n 1, 1) := by decide +kernel
theorem dX4_readTurn_54 : decode cX4_readTurn 54 = .ok (.iload_n 2, 1) := by decide +kernel
theorem dX4_readTurn_55 : decode cX4_readTurn 55 = .ok (.iload_n 3, 1) := by decide +kernel
theorem dX4_readTurn_56 : decode cX4_readTurn 56 = .ok (.invokevirtual 126, 3) := by decide +kernel
theorem dX4_readTurn_59 : decode cX4_readTurn 59 = .ok (.return_, 1) := by decide +kernel
theorem dX4_readSound_0 : decode cX4_readSound 0 = .ok (.aload_n 0, 1) := by decide +kernel
theorem dX4_readSound_1 : decode cX4_readSound 1 = .ok (.aload_n 0, 1) := by decide +kernel
theorem dX4_readSound_2 : decode cX4_readSound 2 = .ok (.getfield 26, 3) := by decide +kernel
theorem dX4_readSound_5 : decode cX4_readSound 5 = .ok (.getfield 129, 3) := by decide +kernel
theorem dX4_readSound_8 : decode cX4_readSound 8 = .ok (.bipush 12, 2) := by decide +kernel
theorem dX4_readSound_10 : decode cX4_readSound 10 = .ok (.invokevirtual 109, 3) := by decide +kernel
theorem dX4_readSound_13 : decode cX4_readSound 13 = .ok (.aload_n 0, 1) := by decide +kernel
theorem dX4_readSound_14 : decode cX4_readSound 14 = .ok (.getfield 26, 3) := by decide +kernel
theorem dX4_readSound_17 : decode cX4_readSound 17 = .ok (.aload_n 0, 1) := by decide +kernel
theorem dX4_readSound_18 : decode cX4_readSound 18 = .ok (.iconst 0, 1) := by decide +kernel
theorem dX4_readSound_19 : decode cX4_readSound 19 = .ok (.invokevirtual 113, 3) := by decide +kernel
theorem dX4_readSound_22 : decode cX4_readSound 22 = .ok (.invokevirtual 102, 3) := by decide +kernel
theorem dX4_readSound_25 : decode cX4_readSound 25 = .ok (.istore_n 1, 1) := by decide +kernel
theorem dX4_readSound_26 : decode cX4_readSound 26 = .ok (.aload_n 0, 1) := by decide +kernel
theorem dX4_readSound_27 : decode cX4_readSound 27 = .ok (.iconst 0, 1) := by decide +kernel
theorem dX4_readSound_28 : decode cX4_readSound 28 = .ok (.bipush 99, 2) := by decide +kernel
theorem dX4_readSound_30 : decode cX4_readSound 30 = .ok (.invokevirtual 98, 3) := by decide +kernel
theorem dX4_readSound_33 : decode cX4_readSound 33 = .ok (.istore_n 2, 1) := by decide +kernel
theorem dX4_readSound_34 : decode cX4_readSound 34 = .ok (.aload_n 0, 1) := by decide +kernel
theorem dX4_readSound_35 : decode cX4_readSound 35 = .ok (.getfield 43, 3) := by decide +kernel
theorem dX4_readSound_38 : decode cX4_readSound 38 = .ok (.ifCond .ne 20, 3) := by decide +kernel
theorem dX4_readSound_41 : decode cX4_readSound 41 = .ok (.aload_n 0, 1) := by decide +kernel
theorem dX4_readSound_42 : decode cX4_readSound 42 = .ok (.getfield 26, 3) := by decide +kernel
theorem dX4_readSound_45 : decode cX4_readSound 45 = .ok (.iload_n 1, 1) := by decide +kernel
theorem dX4_readSound_46 : decode cX4_readSound 46 = .ok (.iload_n 2, 1) := by decide +kernel
theorem dX4_readSound_47 : decode cX4_readSound 47 = .ok (.invokevirtual 132, 3) := by decide +kernel
theorem dX4_readSound_50 : decode cX4_readSound 50 = .ok (.ifCond .eq 8, 3) := by decide +kernel
theorem dX4_readSound_53 : decode cX4_readSound 53 = .ok (.aload_n 0, 1) := by decide +kernel
theorem dX4_readSound_54 : decode cX4_readSound 54 = .ok (.iconst 3, 1) := by decide +kernel
theorem dX4_readSound_55 : decode cX4_readSound 55 = .ok (.invokevirtual 80, 3) := by decide +kernel
theorem dX4_readSound_58 : decode cX4_readSound 58 = .ok (.aload_n 0, 1) := by decide +kernel
theorem dX4_readSound_59 : decode cX4_readSound 59 = .ok (.getfield 43, 3) := by decide +kernel
theorem dX4_readSound_62 : decode cX4_readSound 62 = .ok (.ifCond .ne 10, 3) := by decide +kernel
theorem dX4_readSound_65 : decode cX4_readSound 65 = .ok (.aload_n 0, 1) := by decide +kernel
theorem dX4_readSound_66 : decode cX4_readSound 66 = .ok (.getfield 12, 3) := by decide +kernel
theorem dX4_readSound_69 : decode cX4_readSound 69 = .ok (.invokevirtual 88, 3) := by decide +kernel
theorem dX4_readSound_72 : decode cX4_readSound 72 = .ok (.aload_n 0, 1) := by decide +kernel
theorem dX4_readSound_73 : decode cX4_readSound 73 = .ok (.iconst 1, 1) := by decide +kernel
theorem dX4_readSound_74 : decode cX4_readSound 74 = .ok (.bipush 9, 2) := by decide +kernel
theorem dX4_readSound_76 : decode cX4_readSound 76 = .ok (.invokevirtual 117, 3) := by decide +kernel
theorem dX4_readSound_79 : decode cX4_readSound 79 = .ok (.istore_n 3, 1) := by decide +kernel
theorem dX4_readSound_80 : decode cX4_readSound 80 = .ok (.aload_n 0, 1) := by decide +kernel
theorem dX4_readSound_81 : decode cX4_readSound 81 = .ok (.getfield 43, 3) := by decide +kernel
theorem dX4_readSound_84 : decode cX4_readSound 84 = .ok (.ifCond .ne 13, 3) := by decide +kernel
theorem dX4_readSound_87 : decode cX4_readSound 87 = .ok (.aload_n 0, 1) := by decide +kernel
theorem dX4_readSound_88 : decode cX4_readSound 88 = .ok (.getfield 26, 3) := by decide +kernel
theorem dX4_readSound_91 : decode cX4_readSound 91 = .ok (.iload_n 1, 1) := by decide +kernel
theorem dX4_readSound_92 : decode cX4_readSound 92 = .ok (.iload_n 2, 1) := by decide +kernel
theorem dX4_readSound_93 : decode cX4_readSound 93 = .ok (.iload_n 3, 1) := by decide +kernel
theorem dX4_readSound_94 : decode cX4_readSound 94 = .ok (.invokevirtual 135, 3) := by decide +kernel
theorem dX4_readSound_97 : decode cX4_readSound 97 = .ok (.return_, 1) := by decide +kernel
theorem dX4_readSetting_0 : decode cX4_readSetting 0 = .ok (.aload_n 0, 1) := by decide +kernel
theorem dX4_readSetting_1 : decode cX4_readSetting 1 = .ok (.getfield 26, 3) := by decide +kernel
theorem dX4_readSetting_4 : decode cX4_readSetting 4 = .ok (.getfield 138, 3) := by decide +kernel
theorem dX4_readSetting_7 : decode cX4_readSetting 7 = .ok (.iload_n 1, 1) := by decide +kernel
theorem dX4_readSetting_8 : decode cX4_readSetting 8 = .ok (.baload, 1) := by decide +kernel
theorem dX4_readSetting_9 : decode cX4_readSetting 9 = .ok (.ifCond .eq 9, 3) := by decide +kernel
theorem dX4_readSetting_12 : decode cX4_readSetting 12 = .ok (.aload_n 0, 1) := by decide +kernel
theorem dX4_readSetting_13 : decode cX4_readSetting 13 = .ok (.iconst 3, 1) := by decide +kernel
theorem dX4_readSetting_14 : decode cX4_readSetting 14 = .ok (.invokevirtual 80, 3) := by decide +kernel
theorem dX4_readSetting_17 : decode cX4_readSetting 17 = .ok (.return_, 1) := by decide +kernel
theorem dX4_readSetting_18 : decode cX4_readSetting 18 = .ok (.aload_n 0, 1) := by decide +kernel
theorem dX4_readSetting_19 : decode cX4_readSetting 19 = .ok (.getfield 12, 3) := by decide +kernel
theorem dX4_readSetting_22 : decode cX4_readSetting 22 = .ok (.invokevirtual 88, 3) := by decide +kernel
theorem dX4_readSetting_25 : decode cX4_readSetting 25 = .ok (.aload_n 0, 1) := by decide +kernel
theorem dX4_readSetting_26 : decode cX4_readSetting 26 = .ok (.iload_n 2, 1) := by decide +kernel
theorem dX4_readSetting_27 : decode cX4_readSetting 27 = .ok (.iload_n 3, 1) := by decide +kernel
theorem dX4_readSetting_28 : decode cX4_readSetting 28 = .ok (.invokevirtual 117, 3) := by decide +kernel
theorem dX4_readSetting_31 : decode cX4_readSetting 31 = .ok (.istore 4, 2) := by decide +kernel
theorem dX4_readSetting_33 : decode cX4_readSetting 33 = .ok (.aload_n 0, 1) := by decide +kernel
theorem dX4_readSetting_34 : decode cX4_readSetting 34 = .ok (.getfield 43, 3) := by decide +kernel
theorem dX4_readSetting_37 : decode cX4_readSetting 37 = .ok (.ifCond .ne 24, 3) := by decide +kernel
theorem dX4_readSetting_40 : decode cX4_readSetting 40 = .ok (.aload_n 0, 1) := by decide +kernel
theorem dX4_readSetting_41 : decode cX4_readSetting 41 = .ok (.getfield 26, 3) := by decide +kernel
theorem dX4_readSetting_44 : decode cX4_readSetting 44 = .ok (.getfield 138, 3) := by decide +kernel
theorem dX4_readSetting_47 : decode cX4_readSetting 47 = .ok (.iload_n 1, 1) := by decide +kernel
theorem dX4_readSetting_48 : decode cX4_readSetting 48 = .ok (.iconst 1, 1) := by decide +kernel
theorem dX4_readSetting_49 : decode cX4_readSetting 49 = .ok (.bastore, 1) := by decide +kernel
theorem dX4_readSetting_50 : decode cX4_readSetting 50 = .ok (.aload_n 0, 1) := by decide +kernel
theorem dX4_readSetting_51 : decode cX4_readSetting 51 = .ok (.getfield 26, 3) := by decide +kernel
theorem dX4_readSetting_54 : decode cX4_readSetting 54 = .ok (.getfield 142, 3) := by decide +kernel
theorem dX4_readSetting_57 : decode cX4_readSetting 57 = .ok (.iload_n 1, 1) := by decide +kernel
theorem dX4_readSetting_58 : decode cX4_readSetting 58 = .ok (.iload 4, 2) := by decide +kernel
theorem dX4_readSetting_60 : decode cX4_readSetting 60 = .ok (.iastore, 1) := by decide +kernel
theorem dX4_readSetting_61 : decode cX4_readSetting 61 = .ok (.return_, 1) := by decide +kernel
theorem dX4_readLaw_0 : decode cX4_readLaw 0 = .ok (.aload_n 0, 1) := by decide +kernel
theorem dX4_readLaw_1 : decode cX4_readLaw 1 = .ok (.getfield 12, 3) := by decide +kernel
theorem dX4_readLaw_4 : decode cX4_readLaw 4 = .ok (.invokevirtual 88, 3) := by decide +kernel
theorem dX4_readLaw_7 : decode cX4_readLaw 7 = .ok (.aload_n 0, 1) := by decide +kernel
theorem dX4_readLaw_8 : decode cX4_readLaw 8 = .ok (.getfield 12, 3) := by decide +kernel
theorem dX4_readLaw_11 : decode cX4_readLaw 11 = .ok (.getfield 50, 3) := by decide +kernel
theorem dX4_readLaw_14 : decode cX4_readLaw 14 = .ok (.iconst 3, 1) := by decide +kernel
theorem dX4_readLaw_15 : decode cX4_readLaw 15 = .ok (.if_icmp .ne 16, 3) := by decide +kernel
theorem dX4_readLaw_18 : decode cX4_readLaw 18 = .ok (.aload_n 0, 1) := by decide +kernel
theorem dX4_readLaw_19 : decode cX4_readLaw 19 = .ok (.getfield 12, 3) := by decide +kernel
theorem dX4_readLaw_22 : decode cX4_readLaw 22 = .ok (.getfield 60, 3) := by decide +kernel
theorem dX4_readLaw_25 : decode cX4_readLaw 25 = .ok (.bipush 8, 2) := by decide +kernel
theorem dX4_readLaw_27 : decode cX4_readLaw 27 = .ok (.isub, 1) := by decide +kernel
theorem dX4_readLaw_28 : decode cX4_readLaw 28 = .ok (.goto 4, 3) := by decide +kernel
theorem dX4_readLaw_31 : decode cX4_readLaw 31 = .ok (.iconst (-1), 1) := by decide +kernel
theorem dX4_readLaw_32 : decode cX4_readLaw 32 = .ok (.istore_n 1, 1) := by decide +kernel
theorem dX4_readLaw_33 : decode cX4_readLaw 33 = .ok (.iload_n 1, 1) := by decide +kernel
theorem dX4_readLaw_34 : decode cX4_readLaw 34 = .ok (.iconst 0, 1) := by decide +kernel
theorem dX4_readLaw_35 : decode cX4_readLaw 35 = .ok (.iconst 2, 1) := by decide +kernel
theorem dX4_readLaw_36 : decode cX4_readLaw 36 = .ok (.invokestatic 94, 3) := by decide +kernel
theorem dX4_readLaw_39 : decode cX4_readLaw 39 = .ok (.ifCond .ne 9, 3) := by decide +kernel
theorem dX4_readLaw_42 : decode cX4_readLaw 42 = .ok (.aload_n 0, 1) := by decide +kernel
theorem dX4_readLaw_43 : decode cX4_readLaw 43 = .ok (.iconst 1, 1) := by decide +kernel
theorem dX4_readLaw_44 : decode cX4_readLaw 44 = .ok (.invokevirtual 80, 3) := by decide +kernel
theorem dX4_readLaw_47 : decode cX4_readLaw 47 = .ok (.return_, 1) := by decide +kernel
theorem dX4_readLaw_48 : decode cX4_readLaw 48 = .ok (.aload_n 0, 1) := by decide +kernel
theorem dX4_readLaw_49 : decode cX4_readLaw 49 = .ok (.aload_n 0, 1) := by decide +kernel
theorem dX4_readLaw_50 : decode cX4_readLaw 50 = .ok (.getfield 26, 3) := by decide +kernel
theorem dX4_readLaw_53 : decode cX4_readLaw 53 = .ok (.getfield 30, 3) := by decide +kernel
theorem dX4_readLaw_56 : decode cX4_readLaw 56 = .ok (.iload_n 1, 1) := by decide +kernel
theorem dX4_readLaw_57 : decode cX4_readLaw 57 = .ok (.aaload, 1) := by decide +kernel
theorem dX4_readLaw_58 : decode cX4_readLaw 58 = .ok (.putfield 36, 3) := by decide +kernel
theorem dX4_readLaw_61 : decode cX4_readLaw 61 = .ok (.aload_n 0, 1) := by decide +kernel
theorem dX4_readLaw_62 : decode cX4_readLaw 62 = .ok (.getfield 36, 3) := by decide +kernel
theorem dX4_readLaw_65 : decode cX4_readLaw 65 = .ok (.getfield 145, 3) := by decide +kernel
theorem dX4_readLaw_68 : decode cX4_readLaw 68 = .ok (.ifCond .le 9, 3) := by decide +kernel
theorem dX4_readLaw_71 : decode cX4_readLaw 71 = .ok (.aload_n 0, 1) := by decide +kernel
theorem dX4_readLaw_72 : decode cX4_readLaw 72 = .ok (.iconst 3, 1) := by decide +kernel
theorem dX4_readLaw_73 : decode cX4_readLaw 73 = .ok (.invokevirtual 80, 3) := by decide +kernel
theorem dX4_readLaw_76 : decode cX4_readLaw 76 = .ok (.return_, 1) := by decide +kernel
theorem dX4_readLaw_77 : decode cX4_readLaw 77 = .ok (.aload_n 0, 1) := by decide +kernel
theorem dX4_readLaw_78 : decode cX4_readLaw 78 = .ok (.getfield 12, 3) := by decide +kernel
theorem dX4_readLaw_81 : decode cX4_readLaw 81 = .ok (.invokevirtual 88, 3) := by decide +kernel
theorem dX4_readLaw_84 : decode cX4_readLaw 84 = .ok (.aload_n 0, 1) := by decide +kernel
theorem dX4_readLaw_85 : decode cX4_readLaw 85 = .ok (.iconst 0, 1) := by decide +kernel
theorem dX4_readLaw_86 : decode cX4_readLaw 86 = .ok (.putfield 150, 3) := by decide +kernel
theorem dX4_readLaw_89 : decode cX4_readLaw 89 = .ok (.aload_n 0, 1) := by decide +kernel
theorem dX4_readLaw_90 : decode cX4_readLaw 90 = .ok (.iconst 0, 1) := by decide +kernel
theorem dX4_readLaw_91 : decode cX4_readLaw 91 = .ok (.putfield 153, 3) := by decide +kernel
theorem dX4_readLaw_94 : decode cX4_readLaw 94 = .ok (.iconst 1, 1) := by decide +kernel
theorem dX4_readLaw_95 : decode cX4_readLaw 95 = .ok (.istore_n 2, 1) := by decide +kernel
theorem dX4_readLaw_96 : decode cX4_readLaw 96 = .ok (.iconst 0, 1) := by decide +kernel
theorem dX4_readLaw_97 : decode cX4_readLaw 97 = .ok (.istore_n 3, 1) := by decide +kernel
theorem dX4_readLaw_98 : decode cX4_readLaw 98 = .ok (.iload_n 3, 1) := by decide +kernel
theorem dX4_readLaw_99 : decode cX4_readLaw 99 = .ok (.sipush 700, 3) := by decide +kernel
theorem dX4_readLaw_102 : decode cX4_readLaw 102 = .ok (.if_icmp .gt 37, 3) := by decide +kernel
theorem dX4_readLaw_105 : decode cX4_readLaw 105 = .ok (.iload_n 2, 1) := by decide +kernel
theorem dX4_readLaw_106 : decode cX4_readLaw 106 = .ok (.ifCond .eq 33, 3) := by decide +kernel
theorem dX4_readLaw_109 : decode cX4_readLaw 109 = .ok (.aload_n 0, 1) := by decide +kernel
theorem dX4_readLaw_110 : decode cX4_readLaw 110 = .ok (.invokevirtual 156, 3) := by decide +kernel
theorem dX4_readLaw_113 : decode cX4_readLaw 113 = .ok (.aload_n 0, 1) := by decide +kernel
theorem dX4_readLaw_114 : decode cX4_readLaw 114 = .ok (.getfield 43, 3) := by decide +kernel
theorem dX4_readLaw_117 : decode cX4_readLaw 117 = .ok (.ifCond .ne 14, 3) := by decide +kernel
theorem dX4_readLaw_120 : decode cX4_readLaw 120 = .ok (.aload_n 0, 1) := by decide +kernel
theorem dX4_readLaw_121 : decode cX4_readLaw 121 = .ok (.invokevirtual 159, 3) := by decide +kernel
theorem dX4_readLaw_124 : decode cX4_readLaw 124 = .ok (.ifCond .eq 7, 3) := by decide +kernel
theorem dX4_readLaw_127 : decode cX4_readLaw 127 = .ok (.iconst 1, 1) := by decide +kernel
theorem dX4_readLaw_128 : decode cX4_readLaw 128 = .ok (.goto 4, 3) := by decide +kernel
theorem dX4_readLaw_131 : decode cX4_readLaw 131 = .ok (.iconst 0, 1) := by decide +kernel
theorem dX4_readLaw_132 : decode cX4_readLaw 132 = .ok (.istore_n 2, 1) := by decide +kernel
theorem dX4_readLaw_133 : decode cX4_readLaw 133 = .ok (.iinc 3 1, 3) := by decide +kernel
theorem dX4_readLaw_136 : decode cX4_readLaw 136 = .ok (.goto (-38), 3) := by decide +kernel
theorem dX4_readLaw_139 : decode cX4_readLaw 139 = .ok (.aload_n 0, 1) := by decide +kernel
theorem dX4_readLaw_140 : decode cX4_readLaw 140 = .ok (.iconst 1, 1) := by decide +kernel
theorem dX4_readLaw_141 : decode cX4_readLaw 141 = .ok (.invokevirtual 163, 3) := by decide +kernel
theorem dX4_readLaw_144 : decode cX4_readLaw 144 = .ok (.return_, 1) := by decide +kernel
theorem dX4_readPart_0 : decode cX4_readPart 0 = .ok (.iconst 0, 1) := by decide +kernel
theorem dX4_readPart_1 : decode cX4_readPart 1 = .ok (.istore_n 1, 1) := by decide +kernel
theorem dX4_readPart_2 : decode cX4_readPart 2 = .ok (.iload_n 1, 1) := by decide +kernel
theorem dX4_readPart_3 : decode cX4_readPart 3 = .ok (.sipush 700, 3) := by decide +kernel
theorem dX4_readPart_6 : decode cX4_readPart 6 = .ok (.if_icmp .gt 51, 3) := by decide +kernel
theorem dX4_readPart_9 : decode cX4_readPart 9 = .ok (.aload_n 0, 1) := by decide +kernel
theorem dX4_readPart_10 : decode cX4_readPart 10 = .ok (.getfield 43, 3) := by decide +kernel
theorem dX4_readPart_13 : decode cX4_readPart 13 = .ok (.ifCond .ne 44, 3) := by decide +kernel
theorem dX4_readPart_16 : decode cX4_readPart 16 = .ok (.aload_n 0, 1) := by decide +kernel
theorem dX4_readPart_17 : decode cX4_readPart 17 = .ok (.invokevirtual 166, 3) := by decide +kernel
theorem dX4_readPart_20 : decode cX4_readPart 20 = .ok (.ifCond .eq 37, 3) := by decide +kernel
theorem dX4_readPart_23 : decode cX4_readPart 23 = .ok (.aload_n 0, 1) := by decide +kernel
theorem dX4_readPart_24 : decode cX4_readPart 24 = .ok (.getfield 12, 3) := by decide +kernel
theorem dX4_readPart_27 : decode cX4_readPart 27 = .ok (.bipush 13, 2) := by decide +kernel
theorem dX4_readPart_29 : decode cX4_readPart 29 = .ok (.invokevirtual 84, 3) := by decide +kernel
theorem dX4_readPart_32 : decode cX4_readPart 32 = .ok (.ifCond .eq 10, 3) := by decide +kernel
theorem dX4_readPart_35 : decode cX4_readPart 35 = .ok (.aload_n 0, 1) := by decide +kernel
theorem dX4_readPart_36 : decode cX4_readPart 36 = .ok (.invokevirtual 169, 3) := by decide +kernel
theorem dX4_readPart_39 : decode cX4_readPart 39 = .ok (.goto 12, 3) := by decide +kernel
theorem dX4_readPart_42 : decode cX4_readPart 42 = .ok (.aload_n 0, 1) := by decide +kernel
theorem dX4_readPart_43 : decode cX4_readPart 43 = .ok (.invokevirtual 172, 3) := by decide +kernel
theorem dX4_readPart_46 : decode cX4_readPart 46 = .ok (.aload_n 0, 1) := by decide +kernel
theorem dX4_readPart_47 : decode cX4_readPart 47 = .ok (.iconst 2, 1) := by decide +kernel
theorem dX4_readPart_48 : decode cX4_readPart 48 = .ok (.invokevirtual 177, 3) := by decide +kernel
theorem dX4_readPart_51 : decode cX4_readPart 51 = .ok (.iinc 1 1, 3) := by decide +kernel
theorem dX4_readPart_54 : decode cX4_readPart 54 = .ok (.goto (-52), 3) := by decide +kernel
theorem dX4_readPart_57 : decode cX4_readPart 57 = .ok (.aload_n 0, 1) := by decide +kernel
theorem dX4_readPart_58 : decode cX4_readPart 58 = .ok (.getfield 43, 3) := by decide +kernel
theorem dX4_readPart_61 : decode cX4_readPart 61 = .ok (.ifCond .eq 4, 3) := by decide +kernel
theorem dX4_readPart_64 : decode cX4_readPart 64 = .ok (.return_, 1) := by decide +kernel
theorem dX4_readPart_65 : decode cX4_readPart 65 = .ok (.aload_n 0, 1) := by decide +kernel
theorem dX4_readPart_66 : decode cX4_readPart 66 = .ok (.getfield 12, 3) := by decide +kernel
theorem dX4_readPart_69 : decode cX4_readPart 69 = .ok (.getfield 50, 3) := by decide +kernel
theorem dX4_readPart_72 : decode cX4_readPart 72 = .ok (.iconst 3, 1) := by decide +kernel
theorem dX4_readPart_73 : decode cX4_readPart 73 = .ok (.if_icmp .ne 19, 3) := by decide +kernel
theorem dX4_readPart_76 : decode cX4_readPart 76 = .ok (.aload_n 0, 1) := by decide +kernel
theorem dX4_readPart_77 : decode cX4_readPart 77 = .ok (.getfield 12, 3) := by decide +kernel
theorem dX4_readPart_80 : decode cX4_readPart 80 = .ok (.getfield 60, 3) := by decide +kernel
theorem dX4_readPart_83 : decode cX4_readPart 83 = .ok (.bipush 14, 2) := by decide +kernel
theorem dX4_readPart_85 : decode cX4_readPart 85 = .ok (.if_icmp .lt 7, 3) := by decide +kernel
theorem dX4_readPart_88 : decode cX4_readPart 88 = .ok (.iconst 1, 1) := by decide +kernel
theorem dX4_readPart_89 : decode cX4_readPart 89 = .ok (.goto 4, 3) := by decide +kernel
theorem dX4_readPart_92 : decode cX4_readPart 92 = .ok (.iconst 0, 1) := by decide +kernel
theorem dX4_readPart_93 : decode cX4_readPart 93 = .ok (.istore_n 1, 1) := by decide +kernel
theorem dX4_readPart_94 : decode cX4_readPart 94 = .ok (.iload_n 1, 1) := by decide +kernel
theorem dX4_readPart_95 : decode cX4_readPart 95 = .ok (.ifCond .eq 20, 3) := by decide +kernel
theorem dX4_readPart_98 : decode cX4_readPart 98 = .ok (.sipush 10000, 3) := by decide +kernel
theorem dX4_readPart_101 : decode cX4_readPart 101 = .ok (.aload_n 0, 1) := by decide +kernel
theorem dX4_readPart_102 : decode cX4_readPart 102 = .ok (.getfield 12, 3) := by decide +kernel
theorem dX4_readPart_105 : decode cX4_readPart 105 = .ok (.getfield 60, 3) := by decide +kernel
theorem dX4_readPart_108 : decode cX4_readPart 108 = .ok (.iadd, 1) := by decide +kernel
theorem dX4_readPart_109 : decode cX4_readPart 109 = .ok (.bipush 14, 2) := by decide +kernel
theorem dX4_readPart_111 : decode cX4_readPart 111 = .ok (.isub, 1) := by decide +kernel
theorem dX4_readPart_112 : decode cX4_readPart 112 = .ok (.goto 11, 3) := by decide +kernel
theorem dX4_readPart_115 : decode cX4_readPart 115 = .ok (.aload_n 0, 1) := by decide +kernel
theorem dX4_readPart_116 : decode cX4_readPart 116 = .ok (.iconst 0, 1) := by decide +kernel
theorem dX4_readPart_117 : decode cX4_readPart 117 = .ok (.sipush 9999, 3) := by decide +kernel
theorem dX4_readPart_120 : decode cX4_readPart 120 = .ok (.invokevirtual 98, 3) := by decide +kernel
theorem dX4_readPart_123 : decode cX4_readPart 123 = .ok (.istore_n 2, 1) := by decide +kernel
theorem dX4_readPart_124 : decode cX4_readPart 124 = .ok (.aload_n 0, 1) := by decide +kernel
theorem dX4_readPart_125 : decode cX4_readPart 125 = .ok (.getfield 43, 3) := by decide +kernel
theorem dX4_readPart_128 : decode cX4_readPart 128 = .ok (.ifCond .ne 15, 3) := by decide +kernel
theorem dX4_readPart_131 : decode cX4_readPart 131 = .ok (.aload_n 0, 1) := by decide +kernel
theorem dX4_readPart_132 : decode cX4_readPart 132 = .ok (.invokevirtual 172, 3) := by decide +kernel
theorem dX4_readPart_135 : decode cX4_readPart 135 = .ok (.aload_n 0, 1) := by decide +kernel
theorem dX4_readPart_136 : decode cX4_readPart 136 = .ok (.getfield 36, 3) := by decide +kernel
theorem dX4_readPart_139 : decode cX4_readPart 139 = .ok (.iload_n 2, 1) := by decide +kernel
theorem dX4_readPart_140 : decode cX4_readPart 140 = .ok (.invokevirtual 180, 3) := by decide +kernel
theorem dX4_readPart_143 : decode cX4_readPart 143 = .ok (.return_, 1) := by decide +kernel
theorem dX4_isAheadOfPart_0 : decode cX4_isAheadOfPart 0 = .ok (.aload_n 0, 1) := by decide +kernel
theorem dX4_isAheadOfPart_1 : decode cX4_isAheadOfPart 1 = .ok (.getfield 12, 3) := by decide +kernel
theorem dX4_isAheadOfPart_4 : decode cX4_isAheadOfPart 4 = .ok (.bipush 13, 2) := by decide +kernel
theorem dX4_isAheadOfPart_6 : decode cX4_isAheadOfPart 6 = .ok (.invokevirtual 84, 3) := by decide +kernel
theorem dX4_isAheadOfPart_9 : decode cX4_isAheadOfPart 9 = .ok (.ifCond .ne 23, 3) := by decide +kernel
theorem dX4_isAheadOfPart_12 : decode cX4_isAheadOfPart 12 = .ok (.aload_n 0, 1) := by decide +kernel
theorem dX4_isAheadOfPart_13 : decode cX4_isAheadOfPart 13 = .ok (.getfield 12, 3) := by decide +kernel
theorem dX4_isAheadOfPart_16 : decode cX4_isAheadOfPart 16 = .ok (.bipush 13, 2) := by decide +kernel
theorem dX4_isAheadOfPart_18 : decode cX4_isAheadOfPart 18 = .ok (.invokevirtual 183, 3) := by decide +kernel
theorem dX4_isAheadOfPart_21 : decode cX4_isAheadOfPart 21 = .ok (.ifCond .eq 15, 3) := by decide +kernel
theorem dX4_isAheadOfPart_24 : decode cX4_isAheadOfPart 24 = .ok (.aload_n 0, 1) := by decide +kernel
theorem dX4_isAheadOfPart_25 : decode cX4_isAheadOfPart 25 = .ok (.invokevirtual 186, 3) := by decide +kernel
theorem dX4_isAheadOfPart_28 : decode cX4_isAheadOfPart 28 = .ok (.iconst 3, 1) := by decide +kernel
theorem dX4_isAheadOfPart_29 : decode cX4_isAheadOfPart 29 = .ok (.if_icmp .gt 7, 3) := by decide +kernel
theorem dX4_isAheadOfPart_32 : decode cX4_isAheadOfPart 32 = .ok (.iconst 1, 1) := by decide +kernel
theorem dX4_isAheadOfPart_33 : decode cX4_isAheadOfPart 33 = .ok (.goto 4, 3) := by decide +kernel
theorem dX4_isAheadOfPart_36 : decode cX4_isAheadOfPart 36 = .ok (.iconst 0, 1) := by decide +kernel
theorem dX4_isAheadOfPart_37 : decode cX4_isAheadOfPart 37 = .ok (.ireturn, 1) := by decide +kernel
theorem dX4_readBehindPart_0 : decode cX4_readBehindPart 0 = .ok (.iconst 0, 1) := by decide +kernel
theorem dX4_readBehindPart_1 : decode cX4_readBehindPart 1 = .ok (.istore_n 1, 1) := by decide +kernel
theorem dX4_readBehindPart_2 : decode cX4_readBehindPart 2 = .ok (.iload_n 1, 1) := by decide +kernel
theorem dX4_readBehindPart_3 : decode cX4_readBehindPart 3 = .ok (.bipush 8, 2) := by decide +kernel
theorem dX4_readBehindPart_5 : decode cX4_readBehindPart 5 = .ok (.if_icmp .gt 60, 3) := by decide +kernel
theorem dX4_readBehindPart_8 : decode cX4_readBehindPart 8 = .ok (.aload_n 0, 1) := by decide +kernel
theorem dX4_readBehindPart_9 : decode cX4_readBehindPart 9 = .ok (.getfield 153, 3) := by decide +kernel
theorem dX4_readBehindPart_12 : decode cX4_readBehindPart 12 = .ok (.ifCond .le 53, 3) := by decide +kernel
theorem dX4_readBehindPart_15 : decode cX4_readBehindPart 15 = .ok (.aload_n 0, 1) := by decide +kernel
theorem dX4_readBehindPart_16 : decode cX4_readBehindPart 16 = .ok (.getfield 12, 3) := by decide +kernel
theorem dX4_readBehindPart_19 : decode cX4_readBehindPart 19 = .ok (.bipush 14, 2) := by decide +kernel
theorem dX4_readBehindPart_21 : decode cX4_readBehindPart 21 = .ok (.invokevirtual 84, 3) := by decide +kernel
theorem dX4_readBehindPart_24 : decode cX4_readBehindPart 24 = .ok (.ifCond .eq 41, 3) := by decide +kernel
theorem dX4_readBehindPart_27 : decode cX4_readBehindPart 27 = .ok (.aload_n 0, 1) := by decide +kernel
theorem dX4_readBehindPart_28 : decode cX4_readBehindPart 28 = .ok (.iconst 1, 1) := by decide +kernel
theorem dX4_readBehindPart_29 : decode cX4_readBehindPart 29 = .ok (.invokevirtual 163, 3) := by decide +kernel
theorem dX4_readBehindPart_32 : decode cX4_readBehindPart 32 = .ok (.aload_n 0, 1) := by decide +kernel
theorem dX4_readBehindPart_33 : decode cX4_readBehindPart 33 = .ok (.dup, 1) := by decide +kernel
theorem dX4_readBehindPart_34 : decode cX4_readBehindPart 34 = .ok (.getfield 150, 3) := by decide +kernel
theorem dX4_readBehindPart_37 : decode cX4_readBehindPart 37 = .ok (.iconst 1, 1) := by decide +kernel
theorem dX4_readBehindPart_38 : decode cX4_readBehindPart 38 = .ok (.isub, 1) := by decide +kernel
theorem dX4_readBehindPart_39 : decode cX4_readBehindPart 39 = .ok (.putfield 150, 3) := by decide +kernel
theorem dX4_readBehindPart_42 : decode cX4_readBehindPart 42 = .ok (.aload_n 0, 1) := by decide +kernel
theorem dX4_readBehindPart_43 : decode cX4_readBehindPart 43 = .ok (.dup, 1) := by decide +kernel
theorem dX4_readBehindPart_44 : decode cX4_readBehindPart 44 = .ok (.getfield 153, 3) := by decide +kernel
theorem dX4_readBehindPart_47 : decode cX4_readBehindPart 47 = .ok (.iconst 1, 1) := by decide +kernel
theorem dX4_readBehindPart_48 : decode cX4_readBehindPart 48 = .ok (.isub, 1) := by decide +kernel
theorem dX4_readBehindPart_49 : decode cX4_readBehindPart 49 = .ok (.putfield 153, 3) := by decide +kernel
theorem dX4_readBehindPart_52 : decode cX4_readBehindPart 52 = .ok (.aload_n 0, 1) := by decide +kernel
theorem dX4_readBehindPart_53 : decode cX4_readBehindPart 53 = .ok (.getfield 12, 3) := by decide +kernel
theorem dX4_readBehindPart_56 : decode cX4_readBehindPart 56 = .ok (.invokevirtual 88, 3) := by decide +kernel
theorem dX4_readBehindPart_59 : decode cX4_readBehindPart 59 = .ok (.iinc 1 1, 3) := by decide +kernel
theorem dX4_readBehindPart_62 : decode cX4_readBehindPart 62 = .ok (.goto (-60), 3) := by decide +kernel
theorem dX4_readBehindPart_65 : decode cX4_readBehindPart 65 = .ok (.aload_n 0, 1) := by decide +kernel
theorem dX4_readBehindPart_66 : decode cX4_readBehindPart 66 = .ok (.invokevirtual 190, 3) := by decide +kernel
theorem dX4_readBehindPart_69 : decode cX4_readBehindPart 69 = .ok (.istore_n 1, 1) := by decide +kernel
theorem dX4_readBehindPart_70 : decode cX4_readBehindPart 70 = .ok (.iload_n 1, 1) := by decide +kernel
theorem dX4_readBehindPart_71 : decode cX4_readBehindPart 71 = .ok (.iconst (-1), 1) := by decide +kernel
theorem dX4_readBehindPart_72 : decode cX4_readBehindPart 72 = .ok (.if_icmp .ne 17, 3) := by decide +kernel
theorem dX4_readBehindPart_75 : decode cX4_readBehindPart 75 = .ok (.aload_n 0, 1) := by decide +kernel
theorem dX4_readBehindPart_76 : decode cX4_readBehindPart 76 = .ok (.getfield 153, 3) := by decide +kernel
theorem dX4_readBehindPart_79 : decode cX4_readBehindPart 79 = .ok (.ifCond .le 8, 3) := by decide +kernel
theorem dX4_readBehindPart_82 : decode cX4_readBehindPart 82 = .ok (.aload_n 0, 1) := by decide +kernel
theorem dX4_readBehindPart_83 : decode cX4_readBehindPart 83 = .ok (.iconst 1, 1) := by decide +kernel
theorem dX4_readBehindPart_84 : decode cX4_readBehindPart 84 = .ok (.invokevirtual 80, 3) := by decide +kernel
theorem dX4_readBehindPart_87 : decode cX4_readBehindPart 87 = .ok (.iconst 0, 1) := by decide +kernel
theorem dX4_readBehindPart_88 : decode cX4_readBehindPart 88 = .ok (.ireturn, 1) := by decide +kernel
theorem dX4_readBehindPart_89 : decode cX4_readBehindPart 89 = .ok (.getstatic 193, 3) := by decide +kernel
theorem dX4_readBehindPart_92 : decode cX4_readBehindPart 92 = .ok (.iload_n 1, 1) := by decide +kernel
theorem dX4_readBehindPart_93 : decode cX4_readBehindPart 93 = .ok (.iaload, 1) := by decide +kernel
theorem dX4_readBehindPart_94 : decode cX4_readBehindPart 94 = .ok (.istore_n 2, 1) := by decide +kernel
theorem dX4_readBehindPart_95 : decode cX4_readBehindPart 95 = .ok (.aload_n 0, 1) := by decide +kernel
theorem dX4_readBehindPart_96 : decode cX4_readBehindPart 96 = .ok (.iload_n 2, 1) := by decide +kernel
theorem dX4_readBehindPart_97 : decode cX4_readBehindPart 97 = .ok (.iconst 4, 1) := by decide +kernel
theorem dX4_readBehindPart_98 : decode cX4_readBehindPart 98 = .ok (.if_icmp .ne 9, 3) := by decide +kernel
theorem dX4_readBehindPart_101 : decode cX4_readBehindPart 101 = .ok (.iload_n 2, 1) := by decide +kernel
theorem dX4_readBehindPart_102 : decode cX4_readBehindPart 102 = .ok (.iconst 1, 1) := by decide +kernel
theorem dX4_readBehindPart_103 : decode cX4_readBehindPart 103 = .ok (.iadd, 1) := by decide +kernel
theorem dX4_readBehindPart_104 : decode cX4_readBehindPart 104 = .ok (.goto 4, 3) := by decide +kernel
theorem dX4_readBehindPart_107 : decode cX4_readBehindPart 107 = .ok (.iload_n 2, 1) := by decide +kernel
theorem dX4_readBehindPart_108 : decode cX4_readBehindPart 108 = .ok (.invokevirtual 163, 3) := by decide +kernel
theorem dX4_readBehindPart_111 : decode cX4_readBehindPart 111 = .ok (.iload_n 2, 1) := by decide +kernel
theorem dX4_readBehindPart_112 : decode cX4_readBehindPart 112 = .ok (.iconst 4, 1) := by decide +kernel
theorem dX4_readBehindPart_113 : decode cX4_readBehindPart 113 = .ok (.if_icmp .ne 18, 3) := by decide +kernel
theorem dX4_readBehindPart_116 : decode cX4_readBehindPart 116 = .ok (.aload_n 0, 1) := by decide +kernel
theorem dX4_readBehindPart_117 : decode cX4_readBehindPart 117 = .ok (.invokevirtual 186, 3) := by decide +kernel
theorem dX4_readBehindPart_120 : decode cX4_readBehindPart 120 = .ok (.iconst 4, 1) := by decide +kernel
theorem dX4_readBehindPart_121 : decode cX4_readBehindPart 121 = .ok (.if_icmp .ne 10, 3) := by decide +kernel
theorem dX4_readBehindPart_124 : decode cX4_readBehindPart 124 = .ok (.aload_n 0, 1) := by decide +kernel
theorem dX4_readBehindPart_125 : decode cX4_readBehindPart 125 = .ok (.iconst 1, 1) := by decide +kernel
theorem dX4_readBehindPart_126 : decode cX4_readBehindPart 126 = .ok (.invokevirtual 80, 3) := by decide +kernel
theorem dX4_readBehindPart_129 : decode cX4_readBehindPart 129 = .ok (.iconst 0, 1) := by decide +kernel
theorem dX4_readBehindPart_130 : decode cX4_readBehindPart 130 = .ok (.ireturn, 1) := by decide +kernel
theorem dX4_readBehindPart_131 : decode cX4_readBehindPart 131 = .ok (.aload_n 0, 1) := by decide +kernel
theorem dX4_readBehindPart_132 : decode cX4_readBehindPart 132 = .ok (.invokevirtual 172, 3) := by decide +kernel
theorem dX4_readBehindPart_135 : decode cX4_readBehindPart 135 = .ok (.aload_n 0, 1) := by decide +kernel
theorem dX4_readBehindPart_136 : decode cX4_readBehindPart 136 = .ok (.iload_n 1, 1) := by decide +kernel
theorem dX4_readBehindPart_137 : decode cX4_readBehindPart 137 = .ok (.invokevirtual 177, 3) := by decide +kernel
theorem dX4_readBehindPart_140 : decode cX4_readBehindPart 140 = .ok (.aload_n 0, 1) := by decide +kernel
theorem dX4_readBehindPart_141 : decode cX4_readBehindPart 141 = .ok (.getfield 43, 3) := by decide +kernel
theorem dX4_readBehindPart_144 : decode cX4_readBehindPart 144 = .ok (.ifCond .ne 7, 3) := by decide +kernel
theorem dX4_readBehindPart_147 : decode cX4_readBehindPart 147 = .ok (.iconst 1, 1) := by decide +kernel
theorem dX4_readBehindPart_148 : decode cX4_readBehindPart 148 = .ok (.goto 4, 3) := by decide +kernel
theorem dX4_readBehindPart_151 : decode cX4_readBehindPart 151 = .ok (.iconst 0, 1) := by decide +kernel
theorem dX4_readBehindPart_152 : decode cX4_readBehindPart 152 = .ok (.ireturn, 1) := by decide +kernel
theorem dX4_signHere_0 : decode cX4_signHere 0 = .ok (.aload_n 0, 1) := by decide +kernel
theorem dX4_signHere_1 : decode cX4_signHere 1 = .ok (.getfield 12, 3) := by decide +kernel
theorem dX4_signHere_4 : decode cX4_signHere 4 = .ok (.bipush 11, 2) := by decide +kernel
theorem dX4_signHere_6 : decode cX4_signHere 6 = .ok (.invokevirtual 183, 3) := by decide +kernel
theorem dX4_signHere_9 : decode cX4_signHere 9 = .ok (.ifCond .eq 5, 3) := by decide +kernel
theorem dX4_signHere_12 : decode cX4_signHere 12 = .ok (.iconst 0, 1) := by decide +kernel
theorem dX4_signHere_13 : decode cX4_signHere 13 = .ok (.ireturn, 1) := by decide +kernel
theorem dX4_signHere_14 : decode cX4_signHere 14 = .ok (.aload_n 0, 1) := by decide +kernel
theorem dX4_signHere_15 : decode cX4_signHere 15 = .ok (.getfield 12, 3) := by decide +kernel
theorem dX4_signHere_18 : decode cX4_signHere 18 = .ok (.bipush 12, 2) := by decide +kernel
theorem dX4_signHere_20 : decode cX4_signHere 20 = .ok (.invokevirtual 183, 3) := by decide +kernel
theorem dX4_signHere_23 : decode cX4_signHere 23 = .ok (.ifCond .eq 5, 3) := by decide +kernel
theorem dX4_signHere_26 : decode cX4_signHere 26 = .ok (.iconst 1, 1) := by decide +kernel
theorem dX4_signHere_27 : decode cX4_signHere 27 = .ok (.ireturn, 1) := by decide +kernel
theorem dX4_signHere_28 : decode cX4_signHere 28 = .ok (.aload_n 0, 1) := by decide +kernel
theorem dX4_signHere_29 : decode cX4_signHere 29 = .ok (.getfield 12, 3) := by decide +kernel
theorem dX4_signHere_32 : decode cX4_signHere 32 = .ok (.getfield 50, 3) := by decide +kernel
theorem dX4_signHere_35 : decode cX4_signHere 35 = .ok (.iconst 5, 1) := by decide +kernel
theorem dX4_signHere_36 : decode cX4_signHere 36 = .ok (.if_icmp .ne 23, 3) := by decide +kernel
theorem dX4_signHere_39 : decode cX4_signHere 39 = .ok (.aload_n 0, 1) := by decide +kernel
theorem dX4_signHere_40 : decode cX4_signHere 40 = .ok (.getfield 12, 3) := by decide +kernel
theorem dX4_signHere_43 : decode cX4_signHere 43 = .ok (.getfield 60, 3) := by decide +kernel
theorem dX4_signHere_46 : decode cX4_signHere 46 = .ok (.iconst 3, 1) := by decide +kernel
theorem dX4_signHere_47 : decode cX4_signHere 47 = .ok (.bipush 12, 2) := by decide +kernel
theorem dX4_signHere_49 : decode cX4_signHere 49 = .ok (.invokestatic 94, 3) := by decide +kernel
theorem dX4_signHere_52 : decode cX4_signHere 52 = .ok (.ifCond .eq 7, 3) := by decide +kernel
theorem dX4_signHere_55 : decode cX4_signHere 55 = .ok (.iconst 1, 1) := by decide +kernel
theorem dX4_signHere_56 : decode cX4_signHere 56 = .ok (.goto 4, 3) := by decide +kernel
theorem dX4_signHere_59 : decode cX4_signHere 59 = .ok (.iconst 0, 1) := by decide +kernel
theorem dX4_signHere_60 : decode cX4_signHere 60 = .ok (.istore_n 1, 1) := by decide +kernel
theorem dX4_signHere_61 : decode cX4_signHere 61 = .ok (.iload_n 1, 1) := by decide +kernel
theorem dX4_signHere_62 : decode cX4_signHere 62 = .ok (.ifCond .eq 13, 3) := by decide +kernel
theorem dX4_signHere_65 : decode cX4_signHere 65 = .ok (.aload_n 0, 1) := by decide +kernel
theorem dX4_signHere_66 : decode cX4_signHere 66 = .ok (.getfield 12, 3) := by decide +kernel
theorem dX4_signHere_69 : decode cX4_signHere 69 = .ok (.getfield 60, 3) := by decide +kernel
theorem dX4_signHere_72 : decode cX4_signHere 72 = .ok (.goto 4, 3) := by decide +kernel
theorem dX4_signHere_75 : decode cX4_signHere 75 = .ok (.iconst (-1), 1) := by decide +kernel
theorem dX4_signHere_76 : decode cX4_signHere 76 = .ok (.ireturn, 1) := by decide +kernel
theorem dX4_takeOpen_0 : decode cX4_takeOpen 0 = .ok (.aload_n 0, 1) := by decide +kernel
theorem dX4_takeOpen_1 : decode cX4_takeOpen 1 = .ok (.getfield 153, 3) := by decide +kernel
theorem dX4_takeOpen_4 : decode cX4_takeOpen 4 = .ok (.bipush 8, 2) := by decide +kernel
theorem dX4_takeOpen_6 : decode cX4_takeOpen 6 = .ok (.if_icmp .lt 9, 3) := by decide +kernel
theorem dX4_takeOpen_9 : decode cX4_takeOpen 9 = .ok (.aload_n 0, 1) := by decide +kernel
theorem dX4_takeOpen_10 : decode cX4_takeOpen 10 = .ok (.iconst 2, 1) := by decide +kernel
theorem dX4_takeOpen_11 : decode cX4_takeOpen 11 = .ok (.invokevirtual 80, 3) := by decide +kernel
theorem dX4_takeOpen_14 : decode cX4_takeOpen 14 = .ok (.return_, 1) := by decide +kernel
theorem dX4_takeOpen_15 : decode cX4_takeOpen 15 = .ok (.aload_n 0, 1) := by decide +kernel
theorem dX4_takeOpen_16 : decode cX4_takeOpen 16 = .ok (.dup, 1) := by decide +kernel
theorem dX4_takeOpen_17 : decode cX4_takeOpen 17 = .ok (.getfield 153, 3) := by decide +kernel
theorem dX4_takeOpen_20 : decode cX4_takeOpen 20 = .ok (.iconst 1, 1) := by decide +kernel
theorem dX4_takeOpen_21 : decode cX4_takeOpen 21 = .ok (.iadd, 1) := by decide +kernel
theorem dX4_takeOpen_22 : decode cX4_takeOpen 22 = .ok (.putfield 153, 3) := by decide +kernel
theorem dX4_takeOpen_25 : decode cX4_takeOpen 25 = .ok (.aload_n 0, 1) := by decide +kernel
theorem dX4_takeOpen_26 : decode cX4_takeOpen 26 = .ok (.bipush 13, 2) := by decide +kernel
theorem dX4_takeOpen_28 : decode cX4_takeOpen 28 = .ok (.invokevirtual 177, 3) := by decide +kernel
theorem dX4_takeOpen_31 : decode cX4_takeOpen 31 = .ok (.aload_n 0, 1) := by decide +kernel
theorem dX4_takeOpen_32 : decode cX4_takeOpen 32 = .ok (.getfield 12, 3) := by decide +kernel
theorem dX4_takeOpen_35 : decode cX4_takeOpen 35 = .ok (.invokevirtual 88, 3) := by decide +kernel
theorem dX4_takeOpen_38 : decode cX4_takeOpen 38 = .ok (.return_, 1) := by decide +kernel
theorem dX4_takeKnot_0 : decode cX4_takeKnot 0 = .ok (.aload_n 0, 1) := by decide +kernel
theorem dX4_takeKnot_1 : decode cX4_takeKnot 1 = .ok (.getfield 26, 3) := by decide +kernel
theorem dX4_takeKnot_4 : decode cX4_takeKnot 4 = .ok (.getfield 196, 3) := by decide +kernel
theorem dX4_takeKnot_7 : decode cX4_takeKnot 7 = .ok (.bipush 64, 2) := by decide +kernel
theorem dX4_takeKnot_9 : decode cX4_takeKnot 9 = .ok (.if_icmp .lt 9, 3) := by decide +kernel
theorem dX4_takeKnot_12 : decode cX4_takeKnot 12 = .ok (.aload_n 0, 1) := by decide +kernel
theorem dX4_takeKnot_13 : decode cX4_takeKnot 13 = .ok (.iconst 2, 1) := by decide +kernel
theorem dX4_takeKnot_14 : decode cX4_takeKnot 14 = .ok (.invokevirtual 80, 3) := by decide +kernel
theorem dX4_takeKnot_17 : decode cX4_takeKnot 17 = .ok (.return_, 1) := by decide +kernel
theorem dX4_takeKnot_18 : decode cX4_takeKnot 18 = .ok (.aload_n 0, 1) := by decide +kernel
theorem dX4_takeKnot_19 : decode cX4_takeKnot 19 = .ok (.getfield 26, 3) := by decide +kernel
theorem dX4_takeKnot_22 : decode cX4_takeKnot 22 = .ok (.dup, 1) := by decide +kernel
theorem dX4_takeKnot_23 : decode cX4_takeKnot 23 = .ok (.getfield 196, 3) := by decide +kernel
theorem dX4_takeKnot_26 : decode cX4_takeKnot 26 = .ok (.iconst 1, 1) := by decide +kernel
theorem dX4_takeKnot_27 : decode cX4_takeKnot 27 = .ok (.iadd, 1) := by decide +kernel
theorem dX4_takeKnot_28 : decode cX4_takeKnot 28 = .ok (.putfield 196, 3) := by decide +kernel
theorem dX4_takeKnot_31 : decode cX4_takeKnot 31 = .ok (.aload_n 0, 1) := by decide +kernel
theorem dX4_takeKnot_32 : decode cX4_takeKnot 32 = .ok (.getfield 12, 3) := by decide +kernel
theorem dX4_takeKnot_35 : decode cX4_takeKnot 35 = .ok (.invokevirtual 88, 3) := by decide +kernel
theorem dX4_takeKnot_38 : decode cX4_takeKnot 38 = .ok (.return_, 1) := by decide +kernel
theorem dX4_rankAside_0 : decode cX4_rankAside 0 = .ok (.aload_n 0, 1) := by decide +kernel
theorem dX4_rankAside_1 : decode cX4_rankAside 1 = .ok (.getfield 150, 3) := by decide +kernel
theorem dX4_rankAside_4 : decode cX4_rankAside 4 = .ok (.ifCond .le 21, 3) := by decide +kernel
theorem dX4_rankAside_7 : decode cX4_rankAside 7 = .ok (.getstatic 193, 3) := by decide +kernel
theorem dX4_rankAside_10 : decode cX4_rankAside 10 = .ok (.aload_n 0, 1) := by decide +kernel
theorem dX4_rankAside_11 : decode cX4_rankAside 11 = .ok (.getfield 18, 3) := by decide +kernel
theorem dX4_rankAside_14 : decode cX4_rankAside 14 = .ok (.aload_n 0, 1) := by decide +kernel
theorem dX4_rankAside_15 : decode cX4_rankAside 15 = .ok (.getfield 150, 3) := by decide +kernel
theorem dX4_rankAside_18 : decode cX4_rankAside 18 = .ok (.iconst 1, 1) := by decide +kernel
theorem dX4_rankAside_19 : decode cX4_rankAside 19 = .ok (.isub, 1) := by decide +kernel
theorem dX4_rankAside_20 : decode cX4_rankAside 20 = .ok (.iaload, 1) := by decide +kernel
theorem dX4_rankAside_21 : decode cX4_rankAside 21 = .ok (.iaload, 1) := by decide +kernel
theorem dX4_rankAside_22 : decode cX4_rankAside 22 = .ok (.goto 4, 3) := by decide +kernel
theorem dX4_rankAside_25 : decode cX4_rankAside 25 = .ok (.iconst 0, 1) := by decide +kernel
theorem dX4_rankAside_26 : decode cX4_rankAside 26 = .ok (.ireturn, 1) := by decide +kernel
theorem dX4_putAside_0 : decode cX4_putAside 0 = .ok (.aload_n 0, 1) := by decide +kernel
theorem dX4_putAside_1 : decode cX4_putAside 1 = .ok (.getfield 150, 3) := by decide +kernel
theorem dX4_putAside_4 : decode cX4_putAside 4 = .ok (.aload_n 0, 1) := by decide +kernel
theorem dX4_putAside_5 : decode cX4_putAside 5 = .ok (.getfield 18, 3) := by decide +kernel
theorem dX4_putAside_8 : decode cX4_putAside 8 = .ok (.arraylength, 1) := by decide +kernel
theorem dX4_putAside_9 : decode cX4_putAside 9 = .ok (.if_icmp .ge 23, 3) := by decide +kernel
theorem dX4_putAside_12 : decode cX4_putAside 12 = .ok (.aload_n 0, 1) := by decide +kernel
theorem dX4_putAside_13 : decode cX4_putAside 13 = .ok (.getfield 18, 3) := by decide +kernel
theorem dX4_putAside_16 : decode cX4_putAside 16 = .ok (.aload_n 0, 1) := by decide +kernel
theorem dX4_putAside_17 : decode cX4_putAside 17 = .ok (.getfield 150, 3) := by decide +kernel
theorem dX4_putAside_20 : decode cX4_putAside 20 = .ok (.iload_n 1, 1) := by decide +kernel
theorem dX4_putAside_21 : decode cX4_putAside 21 = .ok (.iastore, 1) := by decide +kernel
theorem dX4_putAside_22 : decode cX4_putAside 22 = .ok (.aload_n 0, 1) := by decide +kernel
theorem dX4_putAside_23 : decode cX4_putAside 23 = .ok (.dup, 1) := by decide +kernel
theorem dX4_putAside_24 : decode cX4_putAside 24 = .ok (.getfield 150, 3) := by decide +kernel
theorem dX4_putAside_27 : decode cX4_putAside 27 = .ok (.iconst 1, 1) := by decide +kernel
theorem dX4_putAside_28 : decode cX4_putAside 28 = .ok (.iadd, 1) := by decide +kernel
theorem dX4_putAside_29 : decode cX4_putAside 29 = .ok (.putfield 150, 3) := by decide +kernel
theorem dX4_putAside_32 : decode cX4_putAside 32 = .ok (.return_, 1) := by decide +kernel
theorem dX4_layAside_0 : decode cX4_layAside 0 = .ok (.aload_n 0, 1) := by decide +kernel
theorem dX4_layAside_1 : decode cX4_layAside 1 = .ok (.getfield 150, 3) := by decide +kernel
theorem dX4_layAside_4 : decode cX4_layAside 4 = .ok (.ifCond .le 44, 3) := by decide +kernel
theorem dX4_layAside_7 : decode cX4_layAside 7 = .ok (.aload_n 0, 1) := by decide +kernel
theorem dX4_layAside_8 : decode cX4_layAside 8 = .ok (.invokevirtual 186, 3) := by decide +kernel
theorem dX4_layAside_11 : decode cX4_layAside 11 = .ok (.iload_n 1, 1) := by decide +kernel
theorem dX4_layAside_12 : decode cX4_layAside 12 = .ok (.if_icmp .lt 36, 3) := by decide +kernel
theorem dX4_layAside_15 : decode cX4_layAside 15 = .ok (.aload_n 0, 1) := by decide +kernel
theorem dX4_layAside_16 : decode cX4_layAside 16 = .ok (.dup, 1) := by decide +kernel
theorem dX4_layAside_17 : decode cX4_layAside 17 = .ok (.getfield 150, 3) := by decide +kernel
theorem dX4_layAside_20 : decode cX4_layAside 20 = .ok (.iconst 1, 1) := by decide +kernel
theorem dX4_layAside_21 : decode cX4_layAside 21 = .ok (.isub, 1) := by decide +kernel
theorem dX4_layAside_22 : decode cX4_layAside 22 = .ok (.putfield 150, 3) := by decide +kernel
theorem dX4_layAside_25 : decode cX4_layAside 25 = .ok (.aload_n 0, 1) := by decide +kernel
theorem dX4_layAside_26 : decode cX4_layAside 26 = .ok (.getfield 36, 3) := by decide +kernel
theorem dX4_layAside_29 : decode cX4_layAside 29 = .ok (.sipush 20000, 3) := by decide +kernel
theorem dX4_layAside_32 : decode cX4_layAside 32 = .ok (.aload_n 0, 1) := by decide +kernel
theorem dX4_layAside_33 : decode cX4_layAside 33 = .ok (.getfield 18, 3) := by decide +kernel
theorem dX4_layAside_36 : decode cX4_layAside 36 = .ok (.aload_n 0, 1) := by decide +kernel
theorem dX4_layAside_37 : decode cX4_layAside 37 = .ok (.getfield 150, 3) := by decide +kernel
theorem dX4_layAside_40 : decode cX4_layAside 40 = .ok (.iaload, 1) := by decide +kernel
theorem dX4_layAside_41 : decode cX4_layAside 41 = .ok (.iadd, 1) := by decide +kernel
theorem dX4_layAside_42 : decode cX4_layAside 42 = .ok (.invokevirtual 180, 3) := by decide +kernel
theorem dX4_layAside_45 : decode cX4_layAside 45 = .ok (.goto (-45), 3) := by decide +kernel
theorem dX4_layAside_48 : decode cX4_layAside 48 = .ok (.return_, 1) := by decide +kernel
theorem dX5_init_0 : decode cX5_init 0 = .ok (.aload_n 0, 1) := by decide +kernel
theorem dX5_init_1 : decode cX5_init 1 = .ok (.invokespecial 3, 3) := by decide +kernel
theorem dX5_init_4 : decode cX5_init 4 = .ok (.aload_n 0, 1) := by decide +kernel
theorem dX5_init_5 : decode cX5_init 5 = .ok (.bipush 6, 2) := by decide +kernel
theorem dX5_init_7 : decode cX5_init 7 = .ok (.newarray .int, 2) := by decide +kernel
theorem dX5_init_9 : decode cX5_init 9 = .ok (.putfield 9, 3) := by decide +kernel
theorem dX5_init_12 : decode cX5_init 12 = .ok (.aload_n 0, 1) := by decide +kernel
theorem dX5_init_13 : decode cX5_init 13 = .ok (.bipush 6, 2) := by decide +kernel
theorem dX5_init_15 : decode cX5_init 15 = .ok (.newarray .int, 2) := by decide +kernel
theorem dX5_init_17 : decode cX5_init 17 = .ok (.putfield 15, 3) := by decide +kernel
theorem dX5_init_20 : decode cX5_init 20 = .ok (.aload_n 0, 1) := by decide +kernel
theorem dX5_init_21 : decode cX5_init 21 = .ok (.bipush 6, 2) := by decide +kernel
theorem dX5_init_23 : decode cX5_init 23 = .ok (.newarray .int, 2) := by decide +kernel
theorem dX5_init_25 : decode cX5_init 25 = .ok (.putfield 18, 3) := by decide +kernel
theorem dX5_init_28 : decode cX5_init 28 = .ok (.aload_n 0, 1) := by decide +kernel
theorem dX5_init_29 : decode cX5_init 29 = .ok (.bipush 6, 2) := by decide +kernel
theorem dX5_init_31 : decode cX5_init 31 = .ok (.newarray .int, 2) := by decide +kernel
theorem dX5_init_33 : decode cX5_init 33 = .ok (.putfield 21, 3) := by decide +kernel
theorem dX5_init_36 : decode cX5_init 36 = .ok (.aload_n 0, 1) := by decide +kernel
theorem dX5_init_37 : decode cX5_init 37 = .ok (.bipush 36, 2) := by decide +kernel
theorem dX5_init_39 : decode cX5_init 39 = .ok (.newarray .int, 2) := by decide +kernel
theorem dX5_init_41 : decode cX5_init 41 = .ok (.putfield 24, 3) := by decide +kernel
theorem dX5_init_44 : decode cX5_init 44 = .ok (.return_, 1) := by decide +kernel
theorem dX5_begin_0 : decode cX5_begin 0 = .ok (.iconst 0, 1) := by decide +kernel
theorem dX5_begin_1 : decode cX5_begin 1 = .ok (.istore_n 2, 1) := by decide +kernel
theorem dX5_begin_2 : decode cX5_begin 2 = .ok (.iload_n 2, 1) := by decide +kernel
theorem dX5_begin_3 : decode cX5_begin 3 = .ok (.bipush 6, 2) := by decide +kernel
theorem dX5_begin_5 : decode cX5_begin 5 = .ok (.if_icmp .ge 77, 3) := by decide +kernel
theorem dX5_begin_8 : decode cX5_begin 8 = .ok (.iload_n 2, 1) := by decide +kernel
theorem dX5_begin_9 : decode cX5_begin 9 = .ok (.aload_n 1, 1) := by decide +kernel
theorem dX5_begin_10 : decode cX5_begin 10 = .ok (.getfield 27, 3) := by decide +kernel
theorem dX5_begin_13 : decode cX5_begin 13 = .ok (.if_icmp .ge 7, 3) := by decide +kernel
theorem dX5_begin_16 : decode cX5_begin 16 = .ok (.iconst 1, 1) := by decide +kernel
theorem dX5_begin_17 : decode cX5_begin 17 = .ok (.goto 4, 3) := by decide +kernel
theorem dX5_begin_20 : decode cX5_begin 20 = .ok (.iconst 0, 1) := by decide +kernel
theorem dX5_begin_21 : decode cX5_begin 21 = .ok (.istore_n 3, 1) := by decide +kernel
theorem dX5_begin_22 : decode cX5_begin 22 = .ok (.aload_n 0, 1) := by decide +kernel
theorem dX5_begin_23 : decode cX5_begin 23 = .ok (.getfield 9, 3) := by decide +kernel
theorem dX5_begin_26 : decode cX5_begin 26 = .ok (.iload_n 2, 1) := by decide +kernel
theorem dX5_begin_27 : decode cX5_begin 27 = .ok (.iload_n 3, 1) := by decide +kernel
theorem dX5_begin_28 : decode cX5_begin 28 = .ok (.ifCond .eq 12, 3) := by decide +kernel
theorem dX5_begin_31 : decode cX5_begin 31 = .ok (.aload_n 1, 1) := by decide +kernel
theorem dX5_begin_32 : decode cX5_begin 32 = .ok (.getfield 33, 3) := by decide +kernel
theorem dX5_begin_35 : decode cX5_begin 35 = .ok (.iload_n 2, 1) := by decide +kernel
theorem dX5_begin_36 : decode cX5_begin 36 = .ok (.iaload, 1) := by decide +kernel
theorem dX5_begin_37 : decode cX5_begin 37 = .ok (.goto 4, 3) := by decide +kernel
theorem dX5_begin_40 : decode cX5_begin 40 = .ok (.iconst 0, 1) := by decide +kernel
theorem dX5_begin_41 : decode cX5_begin 41 = .ok (.iastore, 1) := by decide +kernel
theorem dX5_begin_42 : decode cX5_begin 42 = .ok (.aload_n 0, 1) := by decide +kernel
theorem dX5_begin_43 : decode cX5_begin 43 = .ok (.getfield 15, 3) := by decide +kernel
theorem dX5_begin_46 : decode cX5_begin 46 = .ok (.iload_n 2, 1) := by decide +kernel
theorem dX5_begin_47 : decode cX5_begin 47 = .ok (.iload_n 3, 1) := by decide +kernel
theorem dX5_begin_48 : decode cX5_begin 48 = .ok (.ifCond .eq 12, 3) := by decide +kernel
theorem dX5_begin_51 : decode cX5_begin 51 = .ok (.aload_n 1, 1) := by decide +kernel
theorem dX5_begin_52 : decode cX5_begin 52 = .ok (.getfield 34, 3) := by decide +kernel
theorem dX5_begin_55 : decode cX5_begin 55 = .ok (.iload_n 2, 1) := by decide +kernel
theorem dX5_begin_56 : decode cX5_begin 56 = .ok (.iaload, 1) := by decide +kernel
theorem dX5_begin_57 : decode cX5_begin 57 = .ok (.goto 4, 3) := by decide +kernel
theorem dX5_begin_60 : decode cX5_begin 60 = .ok (.iconst 0, 1) := by decide +kernel
theorem dX5_begin_61 : decode cX5_begin 61 = .ok (.iastore, 1) := by decide +kernel
theorem dX5_begin_62 : decode cX5_begin 62 = .ok (.aload_n 0, 1) := by decide +kernel
theorem dX5_begin_63 : decode cX5_begin 63 = .ok (.getfield 18, 3) := by decide +kernel
theorem dX5_begin_66 : decode cX5_begin 66 = .ok (.iload_n 2, 1) := by decide +kernel
theorem dX5_begin_67 : decode cX5_begin 67 = .ok (.iconst 0, 1) := by decide +kernel
theorem dX5_begin_68 : decode cX5_begin 68 = .ok (.iastore, 1) := by decide +kernel
theorem dX5_begin_69 : decode cX5_begin 69 = .ok (.aload_n 0, 1) := by decide +kernel
theorem dX5_begin_70 : decode cX5_begin 70 = .ok (.getfield 21, 3) := by decide +kernel
theorem dX5_begin_73 : decode cX5_begin 73 = .ok (.iload_n 2, 1) := by decide +kernel
theorem dX5_begin_74 : decode cX5_begin 74 = .ok (.iconst 0, 1) := by decide +kernel
theorem dX5_begin_75 : decode cX5_begin 75 = .ok (.iastore, 1) := by decide +kernel
theorem dX5_begin_76 : decode cX5_begin 76 = .ok (.iinc 2 1, 3) := by decide +kernel
theorem dX5_begin_79 : decode cX5_begin 79 = .ok (.goto (-77), 3) := by decide +kernel
theorem dX5_begin_82 : decode cX5_begin 82 = .ok (.iconst 0, 1) := by decide +kernel
theorem dX5_begin_83 : decode cX5_begin 83 = .ok (.istore_n 2, 1) := by decide +kernel
theorem dX5_begin_84 : decode cX5_begin 84 = .ok (.iload_n 2, 1) := by decide +kernel
theorem dX5_begin_85 : decode cX5_begin 85 = .ok (.aload_n 0, 1) := by decide +kernel
theorem dX5_begin_86 : decode cX5_begin 86 = .ok (.getfield 24, 3) := by decide +kernel
theorem dX5_begin_89 : decode cX5_begin 89 = .ok (.arraylength, 1) := by decide +kernel
theorem dX5_begin_90 : decode cX5_begin 90 = .ok (.if_icmp .ge 16, 3) := by decide +kernel
theorem dX5_begin_93 : decode cX5_begin 93 = .ok (.aload_n 0, 1) := by decide +kernel
theorem dX5_begin_94 : decode cX5_begin 94 = .ok (.getfield 24, 3) := by decide +kernel
theorem dX5_begin_97 : decode cX5_begin 97 = .ok (.iload_n 2, 1) := by decide +kernel
theorem dX5_begin_98 : decode cX5_begin 98 = .ok (.iconst 0, 1) := by decide +kernel
theorem dX5_begin_99 : decode cX5_begin 99 = .ok (.iastore, 1) := by decide +kernel
theorem dX5_begin_100 : decode cX5_begin 100 = .ok (.iinc 2 1, 3) := by decide +kernel
theorem dX5_begin_103 : decode cX5_begin 103 = .ok (.goto (-19), 3) := by decide +kernel
theorem dX5_begin_106 : decode cX5_begin 106 = .ok (.aload_n 0, 1) := by decide +kernel
theorem dX5_begin_107 : decode cX5_begin 107 = .ok (.iconst 0, 1) := by decide +kernel
theorem dX5_begin_108 : decode cX5_begin 108 = .ok (.putfield 35, 3) := by decide +kernel
theorem dX5_begin_111 : decode cX5_begin 111 = .ok (.aload_n 0, 1) := by decide +kernel
theorem dX5_begin_112 : decode cX5_begin 112 = .ok (.aload_n 1, 1) := by decide +kernel
theorem dX5_begin_113 : decode cX5_begin 113 = .ok (.getfield 38, 3) := by decide +kernel
theorem dX5_begin_116 : decode cX5_begin 116 = .ok (.iconst 3, 1) := by decide +kernel
theorem dX5_begin_117 : decode cX5_begin 117 = .ok (.iaload, 1) := by decide +kernel
theorem dX5_begin_118 : decode cX5_begin 118 = .ok (.putfield 41, 3) := by decide +kernel
theorem dX5_begin_121 : decode cX5_begin 121 = .ok (.return_, 1) := by decide +kernel
theorem dX5_copy_0 : decode cX5_copy 0 = .ok (.iconst 0, 1) := by decide +kernel
theorem dX5_copy_1 : decode cX5_copy 1 = .ok (.istore_n 2, 1) := by decide +kernel
theorem dX5_copy_2 : decode cX5_copy 2 = .ok (.iload_n 2, 1) := by decide +kernel
theorem dX5_copy_3 : decode cX5_copy 3 = .ok (.bipush 6, 2) := by decide +kernel
theorem dX5_copy_5 : decode cX5_copy 5 = .ok (.if_icmp .ge 57, 3) := by decide +kernel
theorem dX5_copy_8 : decode cX5_copy 8 = .ok (.aload_n 0, 1) := by decide +kernel
theorem dX5_copy_9 : decode cX5_copy 9 = .ok (.getfield 9, 3) := by decide +kernel
theorem dX5_copy_12 : decode cX5_copy 12 = .ok (.iload_n 2, 1) := by decide +kernel
theorem dX5_copy_13 : decode cX5_copy 13 = .ok (.aload_n 1, 1) := by decide +kernel
theorem dX5_copy_14 : decode cX5_copy 14 = .ok (.getfield 9, 3) := by decide +kernel
theorem dX5_copy_17 : decode cX5_copy 17 = .ok (.iload_n 2, 1) := by decide +kernel
theorem dX5_copy_18 : decode cX5_copy 18 = .ok (.iaload, 1) := by decide +kernel
theorem dX5_copy_19 : decode cX5_copy 19 = .ok (.iastore, 1) := by decide +kernel
theorem dX5_copy_20 : decode cX5_copy 20 = .ok (.aload_n 0, 1) := by decide +kernel
theorem dX5_copy_21 : decode cX5_copy 21 = .ok (.getfield 15, 3) := by decide +kernel
theorem dX5_copy_24 : decode cX5_copy 24 = .ok (.iload_n 2, 1) := by decide +kernel
theorem dX5_copy_25 : decode cX5_copy 25 = .ok (.aload_n 1, 1) := by decide +kernel
theorem dX5_copy_26 : decode cX5_copy 26 = .ok (.getfield 15, 3) := by decide +kernel
theorem dX5_copy_29 : decode cX5_copy 29 = .ok (.iload_n 2, 1) := by decide +kernel
theorem dX5_copy_30 : decode cX5_copy 30 = .ok (.iaload, 1) := by decide +kernel
theorem dX5_copy_31 : decode cX5_copy 31 = .ok (.iastore, 1) := by decide +kernel
theorem dX5_copy_32 : decode cX5_copy 32 = .ok (.aload_n 0, 1) := by decide +kernel
theorem dX5_copy_33 : decode cX5_copy 33 = .ok (.getfield 18, 3) := by decide +kernel
theorem dX5_copy_36 : decode cX5_copy 36 = .ok (.iload_n 2, 1) := by decide +kernel
theorem dX5_copy_37 : decode cX5_copy 37 = .ok (.aload_n 1, 1) := by decide +kernel
theorem dX5_copy_38 : decode cX5_copy 38 = .ok (.getfield 18, 3) := by decide +kernel
theorem dX5_copy_41 : decode cX5_copy 41 = .ok (.iload_n 2, 1) := by decide +kernel
theorem dX5_copy_42 : decode cX5_copy 42 = .ok (.iaload, 1) := by decide +kernel
theorem dX5_copy_43 : decode cX5_copy 43 = .ok (.iastore, 1) := by decide +kernel
theorem dX5_copy_44 : decode cX5_copy 44 = .ok (.aload_n 0, 1) := by decide +kernel
theorem dX5_copy_45 : decode cX5_copy 45 = .ok (.getfield 21, 3) := by decide +kernel
theorem dX5_copy_48 : decode cX5_copy 48 = .ok (.iload_n 2, 1) := by decide +kernel
theorem dX5_copy_49 : decode cX5_copy 49 = .ok (.aload_n 1, 1) := by decide +kernel
theorem dX5_copy_50 : decode cX5_copy 50 = .ok (.getfield 21, 3) := by decide +kernel
theorem dX5_copy_53 : decode cX5_copy 53 = .ok (.iload_n 2, 1) := by decide +kernel
theorem dX5_copy_54 : decode cX5_copy 54 = .ok (.iaload, 1) := by decide +kernel
theorem dX5_copy_55 : decode cX5_copy 55 = .ok (.iastore, 1) := by decide +kernel
theorem dX5_copy_56 : decode cX5_copy 56 = .ok (.iinc 2 1, 3) := by decide +kernel
theorem dX5_copy_59 : decode cX5_copy 59 = .ok (.goto (-57), 3) := by decide +kernel
theorem dX5_copy_62 : decode cX5_copy 62 = .ok (.aload_n 1, 1) := by decide +kernel
theorem dX5_copy_63 : decode cX5_copy 63 = .ok (.getfield 24, 3) := by decide +kernel
theorem dX5_copy_66 : decode cX5_copy 66 = .ok (.iconst 0, 1) := by decide +kernel
theorem dX5_copy_67 : decode cX5_copy 67 = .ok (.aload_n 0, 1) := by decide +kernel
theorem dX5_copy_68 : decode cX5_copy 68 = .ok (.getfield 24, 3) := by decide +kernel
theorem dX5_copy_71 : decode cX5_copy 71 = .ok (.iconst 0, 1) := by decide +kernel
theorem dX5_copy_72 : decode cX5_copy 72 = .ok (.aload_n 0, 1) := by decide +kernel
theorem dX5_copy_73 : decode cX5_copy 73 = .ok (.getfield 24, 3) := by decide +kernel
theorem dX5_copy_76 : decode cX5_copy 76 = .ok (.arraylength, 1) := by decide +kernel
theorem dX5_copy_77 : decode cX5_copy 77 = .ok (.invokestatic 44, 3) := by decide +kernel
theorem dX5_copy_80 : decode cX5_copy 80 = .ok (.aload_n 0, 1) := by decide +kernel
theorem dX5_copy_81 : decode cX5_copy 81 = .ok (.aload_n 1, 1) := by decide +kernel
theorem dX5_copy_82 : decode cX5_copy 82 = .ok (.getfield 35, 3) := by decide +kernel
theorem dX5_copy_85 : decode cX5_copy 85 = .ok (.putfield 35, 3) := by decide +kernel
theorem dX5_copy_88 : decode cX5_copy 88 = .ok (.aload_n 0, 1) := by decide +kernel
theorem dX5_copy_89 : decode cX5_copy 89 = .ok (.aload_n 1, 1) := by decide +kernel
theorem dX5_copy_90 : decode cX5_copy 90 = .ok (.getfield 41, 3) := by decide +kernel
theorem dX5_copy_93 : decode cX5_copy 93 = .ok (.putfield 41, 3) := by decide +kernel
theorem dX5_copy_96 : decode cX5_copy 96 = .ok (.return_, 1) := by decide +kernel
theorem dX5_strengthen_0 : decode cX5_strengthen 0 = .ok (.iconst 0, 1) := by decide +kernel
theorem dX5_strengthen_1 : decode cX5_strengthen 1 = .ok (.istore_n 2, 1) := by decide +kernel
theorem dX5_strengthen_2 : decode cX5_strengthen 2 = .ok (.iload_n 2, 1) := by decide +kernel
theorem dX5_strengthen_3 : decode cX5_strengthen 3 = .ok (.iload_n 1, 1) := by decide +kernel
theorem dX5_strengthen_4 : decode cX5_strengthen 4 = .ok (.if_icmp .ge 17, 3) := by decide +kernel
theorem dX5_strengthen_7 : decode cX5_strengthen 7 = .ok (.aload_n 0, 1) := by decide +kernel
theorem dX5_strengthen_8 : decode cX5_strengthen 8 = .ok (.getfield 15, 3) := by decide +kernel
theorem dX5_strengthen_11 : decode cX5_strengthen 11 = .ok (.iload_n 2, 1) := by decide +kernel
theorem dX5_strengthen_12 : decode cX5_strengthen 12 = .ok (.bipush 9, 2) := by decide +kernel
theorem dX5_strengthen_14 : decode cX5_strengthen 14 = .ok (.iastore, 1) := by decide +kernel
theorem dX5_strengthen_15 : decode cX5_strengthen 15 = .ok (.iinc 2 1, 3) := by decide +kernel
theorem dX5_strengthen_18 : decode cX5_strengthen 18 = .ok (.goto (-16), 3) := by decide +kernel
theorem dX5_strengthen_21 : decode cX5_strengthen 21 = .ok (.return_, 1) := by decide +kernel
theorem dX5_apart_0 : decode cX5_apart 0 = .ok (.aload_n 0, 1) := by decide +kernel
theorem dX5_apart_1 : decode cX5_apart 1 = .ok (.getfield 9, 3) := by decide +kernel
theorem dX5_apart_4 : decode cX5_apart 4 = .ok (.iload_n 1, 1) := by decide +kernel
theorem dX5_apart_5 : decode cX5_apart 5 = .ok (.iaload, 1) := by decide +kernel
theorem dX5_apart_6 : decode cX5_apart 6 = .ok (.aload_n 0, 1) := by decide +kernel
theorem dX5_apart_7 : decode cX5_apart 7 = .ok (.getfield 9, 3) := by decide +kernel
theorem dX5_apart_10 : decode cX5_apart 10 = .ok (.iload_n 2, 1) := by decide +kernel
theorem dX5_apart_11 : decode cX5_apart 11 = .ok (.iaload, 1) := by decide +kernel
theorem dX5_apart_12 : decode cX5_apart 12 = .ok (.isub, 1) := by decide +kernel
theorem dX5_apart_13 : decode cX5_apart 13 = .ok (.invokestatic 50, 3) := by decide +kernel
theorem dX5_apart_16 : decode cX5_apart 16 = .ok (.ireturn, 1) := by decide +kernel
theorem dX5_timesHeard_0 : decode cX5_timesHeard 0 = .ok (.aload_n 0, 1) := by decide +kernel
theorem dX5_timesHeard_1 : decode cX5_timesHeard 1 = .ok (.getfield 24, 3) := by decide +kernel
theorem dX5_timesHeard_4 : decode cX5_timesHeard 4 = .ok (.iload_n 1, 1) := by decide +kernel
theorem dX5_timesHeard_5 : decode cX5_timesHeard 5 = .ok (.bipush 6, 2) := by decide +kernel
theorem dX5_timesHeard_7 : decode cX5_timesHeard 7 = .ok (.imul, 1) := by decide +kernel
theorem dX5_timesHeard_8 : decode cX5_timesHeard 8 = .ok (.iload_n 2, 1) := by decide +kernel
theorem dX5_timesHeard_9 : decode cX5_timesHeard 9 = .ok (.iadd, 1) := by decide +kernel
theorem dX5_timesHeard_10 : decode cX5_timesHeard 10 = .ok (.iaload, 1) := by decide +kernel
theorem dX5_timesHeard_11 : decode cX5_timesHeard 11 = .ok (.ireturn, 1) := by decide +kernel
theorem dX5_hear_0 : decode cX5_hear 0 = .ok (.iload_n 1, 1) := by decide +kernel
theorem dX5_hear_1 : decode cX5_hear 1 = .ok (.bipush 6, 2) := by decide +kernel
theorem dX5_hear_3 : decode cX5_hear 3 = .ok (.imul, 1) := by decide +kernel
theorem dX5_hear_4 : decode cX5_hear 4 = .ok (.iload_n 2, 1) := by decide +kernel
theorem dX5_hear_5 : decode cX5_hear 5 = .ok (.iadd, 1) := by decide +kernel
theorem dX5_hear_6 : decode cX5_hear 6 = .ok (.istore 4, 2) := by decide +kernel
theorem dX5_hear_8 : decode cX5_hear 8 = .ok (.aload_n 0, 1) := by decide +kernel
theorem dX5_hear_9 : decode cX5_hear 9 = .ok (.getfield 24, 3) := by decide +kernel
theorem dX5_hear_12 : decode cX5_hear 12 = .ok (.iload 4, 2) := by decide +kernel
theorem dX5_hear_14 : decode cX5_hear 14 = .ok (.sipush 999, 3) := by decide +kernel
theorem dX5_hear_17 : decode cX5_hear 17 = .ok (.aload_n 0, 1) := by decide +kernel
theorem dX5_hear_18 : decode cX5_hear 18 = .ok (.getfield 24, 3) := by decide +kernel
theorem dX5_hear_21 : decode cX5_hear 21 = .ok (.iload 4, 2) := by decide +kernel
theorem dX5_hear_23 : decode cX5_hear 23 = .ok (.iaload, 1) := by decide +kernel
theorem dX5_hear_24 : decode cX5_hear 24 = .ok (.iconst 1, 1) := by decide +kernel
theorem dX5_hear_25 : decode cX5_hear 25 = .ok (.iadd, 1) := by decide +kernel
theorem dX5_hear_26 : decode cX5_hear 26 = .ok (.invokestatic 56, 3) := by decide +kernel
theorem dX5_hear_29 : decode cX5_hear 29 = .ok (.iastore, 1) := by decide +kernel
theorem dX5_hear_30 : decode cX5_hear 30 = .ok (.aload_n 0, 1) := by decide +kernel
theorem dX5_hear_31 : decode cX5_hear 31 = .ok (.getfield 21, 3) := by decide +kernel
theorem dX5_hear_34 : decode cX5_hear 34 = .ok (.iload_n 1, 1) := by decide +kernel
theorem dX5_hear_35 : decode cX5_hear 35 = .ok (.iload_n 3, 1) := by decide +kernel
theorem dX5_hear_36 : decode cX5_hear 36 = .ok (.iastore, 1) := by decide +kernel
theorem dX5_hear_37 : decode cX5_hear 37 = .ok (.return_, 1) := by decide +kernel
theorem dX5_isKnown_0 : decode cX5_isKnown 0 = .ok (.aload_n 0, 1) := by decide +kernel
theorem dX5_isKnown_1 : decode cX5_isKnown 1 = .ok (.getfield 18, 3) := by decide +kernel
theorem dX5_isKnown_4 : decode cX5_isKnown 4 = .ok (.iload_n 1, 1) := by decide +kernel
theorem dX5_isKnown_5 : decode cX5_isKnown 5 = .ok (.iaload, 1) := by decide +kernel
theorem dX5_isKnown_6 : decode cX5_isKnown 6 = .ok (.iload_n 2, 1) := by decide +kernel
theorem dX5_isKnown_7 : decode cX5_isKnown 7 = .ok (.ishr, 1) := by decide +kernel
theorem dX5_isKnown_8 : decode cX5_isKnown 8 = .ok (.iconst 1, 1) := by decide +kernel
theorem dX5_isKnown_9 : decode cX5_isKnown 9 = .ok (.iand, 1) := by decide +kernel
theorem dX5_isKnown_10 : decode cX5_isKnown 10 = .ok (.iconst 1, 1) := by decide +kernel
theorem dX5_isKnown_11 : decode cX5_isKnown 11 = .ok (.if_icmp .ne 7, 3) := by decide +kernel
theorem dX5_isKnown_14 : decode cX5_isKnown 14 = .ok (.iconst 1, 1) := by decide +kernel
theorem dX5_isKnown_15 : decode cX5_isKnown 15 = .ok (.goto 4, 3) := by decide +kernel
theorem dX5_isKnown_18 : decode cX5_isKnown 18 = .ok (.iconst 0, 1) := by decide +kernel
theorem dX5_isKnown_19 : decode cX5_isKnown 19 = .ok (.ireturn, 1) := by decide +kernel
theorem dX5_knowersOf_0 : decode cX5_knowersOf 0 = .ok (.iconst 0, 1) := by decide +kernel
theorem dX5_knowersOf_1 : decode cX5_knowersOf 1 = .ok (.istore_n 2, 1) := by decide +kernel
theorem dX5_knowersOf_2 : decode cX5_knowersOf 2 = .ok (.iconst 0, 1) := by decide +kernel
theorem dX5_knowersOf_3 : decode cX5_knowersOf 3 = .ok (.istore_n 3, 1) := by decide +kernel
theorem dX5_knowersOf_4 : decode cX5_knowersOf 4 = .ok (.iload_n 3, 1) := by decide +kernel
theorem dX5_knowersOf_5 : decode cX5_knowersOf 5 = .ok (.bipush 6, 2) := by decide +kernel
theorem dX5_knowersOf_7 : decode cX5_knowersOf 7 = .ok (.if_icmp .ge 24, 3) := by decide +kernel
theorem dX5_knowersOf_10 : decode cX5_knowersOf 10 = .ok (.aload_n 0, 1) := by decide +kernel
theorem dX5_knowersOf_11 : decode cX5_knowersOf 11 = .ok (.iload_n 3, 1) := by decide +kernel
theorem dX5_knowersOf_12 : decode cX5_knowersOf 12 = .ok (.iload_n 1, 1) := by decide +kernel
theorem dX5_knowersOf_13 : decode cX5_knowersOf 13 = .ok (.invokevirtual 60, 3) := by decide +kernel
theorem dX5_knowersOf_16 : decode cX5_knowersOf 16 = .ok (.ifCond .eq 9, 3) := by decide +kernel
theorem dX5_knowersOf_19 : decode cX5_knowersOf 19 = .ok (.iload_n 2, 1) := by decide +kernel
theorem dX5_knowersOf_20 : decode cX5_knowersOf 20 = .ok (.iconst 1, 1) := by decide +kernel
theorem dX5_knowersOf_21 : decode cX5_knowersOf 21 = .ok (.iload_n 3, 1) := by decide +kernel
theorem dX5_knowersOf_22 : decode cX5_knowersOf 22 = .ok (.ishl, 1) := by decide +kernel
theorem dX5_knowersOf_23 : decode cX5_knowersOf 23 = .ok (.ior, 1) := by decide +kernel
theorem dX5_knowersOf_24 : decode cX5_knowersOf 24 = .ok (.istore_n 2, 1) := by decide +kernel
theorem dX5_knowersOf_25 : decode cX5_knowersOf 25 = .ok (.iinc 3 1, 3) := by decide +kernel
theorem dX5_knowersOf_28 : decode cX5_knowersOf 28 = .ok (.goto (-24), 3) := by decide +kernel
theorem dX5_knowersOf_31 : decode cX5_knowersOf 31 = .ok (.iload_n 2, 1) := by decide +kernel
theorem dX5_knowersOf_32 : decode cX5_knowersOf 32 = .ok (.ireturn, 1) := by decide +kernel
theorem dX5_firstTwo_0 : decode cX5_firstTwo 0 = .ok (.iconst 0, 1) := by decide +kernel
theorem dX5_firstTwo_1 : decode cX5_firstTwo 1 = .ok (.istore_n 2, 1) := by decide +kernel
theorem dX5_firstTwo_2 : decode cX5_firstTwo 2 = .ok (.iload_n 2, 1) := by decide +kernel
theorem dX5_firstTwo_3 : decode cX5_firstTwo 3 = .ok (.iload_n 1, 1) := by decide +kernel
theorem dX5_firstTwo_4 : decode cX5_firstTwo 4 = .ok (.if_icmp .ge 49, 3) := by decide +kernel
theorem dX5_firstTwo_7 : decode cX5_firstTwo 7 = .ok (.iload_n 2, 1) := by decide +kernel
theorem dX5_firstTwo_8 : decode cX5_firstTwo 8 = .ok (.iconst 1, 1) := by decide +kernel
theorem dX5_firstTwo_9 : decode cX5_firstTwo 9 = .ok (.iadd, 1) := by decide +kernel
theorem dX5_firstTwo_10 : decode cX5_firstTwo 10 = .ok (.istore_n 3, 1) := by decide +kernel
theorem dX5_firstTwo_11 : decode cX5_firstTwo 11 = .ok (.iload_n 3, 1) := by decide +kernel
theorem dX5_firstTwo_12 : decode cX5_firstTwo 12 = .ok (.iload_n 1, 1) := by decide +kernel
theorem dX5_firstTwo_13 : decode cX5_firstTwo 13 = .ok (.if_icmp .ge 34, 3) := by decide +kernel
theorem dX5_firstTwo_16 : decode cX5_firstTwo 16 = .ok (.aload_n 0, 1) := by decide +kernel
theorem dX5_firstTwo_17 : decode cX5_firstTwo 17 = .ok (.iload_n 2, 1) := by decide +kernel
theorem dX5_firstTwo_18 : decode cX5_firstTwo 18 = .ok (.iload_n 3, 1) := by decide +kernel
theorem dX5_firstTwo_19 : decode cX5_firstTwo 19 = .ok (.invokevirtual 60, 3) := by decide +kernel
theorem dX5_firstTwo_22 : decode cX5_firstTwo 22 = .ok (.ifCond .eq 19, 3) := by decide +kernel
theorem dX5_firstTwo_25 : decode cX5_firstTwo 25 = .ok (.aload_n 0, 1) := by decide +kernel
theorem dX5_firstTwo_26 : decode cX5_firstTwo 26 = .ok (.iload_n 3, 1) := by decide +kernel
theorem dX5_firstTwo_27 : decode cX5_firstTwo 27 = .ok (.iload_n 2, 1) := by decide +kernel
theorem dX5_firstTwo_28 : decode cX5_firstTwo 28 = .ok (.invokevirtual 60, 3) := by decide +kernel
theorem dX5_firstTwo_31 : decode cX5_firstTwo 31 = .ok (.ifCond .eq 10, 3) := by decide +kernel
theorem dX5_firstTwo_34 : decode cX5_firstTwo 34 = .ok (.bipush 10, 2) := by decide +kernel
theorem dX5_firstTwo_36 : decode cX5_firstTwo 36 = .ok (.iload_n 2, 1) := by decide +kernel
theorem dX5_firstTwo_37 : decode cX5_firstTwo 37 = .ok (.imul, 1) := by decide +kernel
theorem dX5_firstTwo_38 : decode cX5_firstTwo 38 = .ok (.iload_n 3, 1) := by decide +kernel
theorem dX5_firstTwo_39 : decode cX5_firstTwo 39 = .ok (.iadd, 1) := by decide +kernel
theorem dX5_firstTwo_40 : decode cX5_firstTwo 40 = .ok (.ireturn, 1) := by decide +kernel
theorem dX5_firstTwo_41 : decode cX5_firstTwo 41 = .ok (.iinc 3 1, 3) := by decide +kernel
theorem dX5_firstTwo_44 : decode cX5_firstTwo 44 = .ok (.goto (-33), 3) := by decide +kernel
theorem dX5_firstTwo_47 : decode cX5_firstTwo 47 = .ok (.iinc 2 1, 3) := by decide +kernel
theorem dX5_firstTwo_50 : decode cX5_firstTwo 50 = .ok (.goto (-48), 3) := by decide +kernel
theorem dX5_firstTwo_53 : decode cX5_firstTwo 53 = .ok (.iconst (-1), 1) := by decide +kernel
theorem dX5_firstTwo_54 : decode cX5_firstTwo 54 = .ok (.ireturn, 1) := by decide +kernel
theorem dX5_pairs_0 : decode cX5_pairs 0 = .ok (.iconst 0, 1) := by decide +kernel
theorem dX5_pairs_1 : decode cX5_pairs 1 = .ok (.istore_n 1, 1) := by decide +kernel
theorem dX5_pairs_2 : decode cX5_pairs 2 = .ok (.iconst 0, 1) := by decide +kernel
theorem dX5_pairs_3 : decode cX5_pairs 3 = .ok (.istore_n 2, 1) := by decide +kernel
theorem dX5_pairs_4 : decode cX5_pairs 4 = .ok (.iload_n 2, 1) := by decide +kernel
theorem dX5_pairs_5 : decode cX5_pairs 5 = .ok (.bipush 6, 2) := by decide +kernel
theorem dX5_pairs_7 : decode cX5_pairs 7 = .ok (.if_icmp .ge 21, 3) := by decide +kernel
theorem dX5_pairs_10 : decode cX5_pairs 10 = .ok (.iload_n 1, 1) := by decide +kernel
theorem dX5_pairs_11 : decode cX5_pairs 11 = .ok (.aload_n 0, 1) := by decide +kernel
theorem dX5_pairs_12 : decode cX5_pairs 12 = .ok (.getfield 18, 3) := by decide +kernel
theorem dX5_pairs_15 : decode cX5_pairs 15 = .ok (.iload_n 2, 1) := by decide +kernel
theorem dX5_pairs_16 : decode cX5_pairs 16 = .ok (.iaload, 1) := by decide +kernel
theorem dX5_pairs_17 : decode cX5_pairs 17 = .ok (.invokestatic 64, 3) := by decide +kernel
theorem dX5_pairs_20 : decode cX5_pairs 20 = .ok (.iadd, 1) := by decide +kernel
theorem dX5_pairs_21 : decode cX5_pairs 21 = .ok (.istore_n 1, 1) := by decide +kernel
theorem dX5_pairs_22 : decode cX5_pairs 22 = .ok (.iinc 2 1, 3) := by decide +kernel
theorem dX5_pairs_25 : decode cX5_pairs 25 = .ok (.goto (-21), 3) := by decide +kernel
theorem dX5_pairs_28 : decode cX5_pairs 28 = .ok (.iload_n 1, 1) := by decide +kernel
theorem dX5_pairs_29 : decode cX5_pairs 29 = .ok (.ireturn, 1) := by decide +kernel
theorem dX5_heardInAll_0 : decode cX5_heardInAll 0 = .ok (.iconst 0, 1) := by decide +kernel
theorem dX5_heardInAll_1 : decode cX5_heardInAll 1 = .ok (.istore_n 1, 1) := by decide +kernel
theorem dX5_heardInAll_2 : decode cX5_heardInAll 2 = .ok (.iconst 0, 1) := by decide +kernel
theorem dX5_heardInAll_3 : decode cX5_heardInAll 3 = .ok (.istore_n 2, 1) := by decide +kernel
theorem dX5_heardInAll_4 : decode cX5_heardInAll 4 = .ok (.iload_n 2, 1) := by decide +kernel
theorem dX5_heardInAll_5 : decode cX5_heardInAll 5 = .ok (.aload_n 0, 1) := by decide +kernel
theorem dX5_heardInAll_6 : decode cX5_heardInAll 6 = .ok (.getfield 24, 3) := by decide +kernel
theorem dX5_heardInAll_9 : decode cX5_heardInAll 9 = .ok (.arraylength, 1) := by decide +kernel
theorem dX5_heardInAll_10 : decode cX5_heardInAll 10 = .ok (.if_icmp .ge 18, 3) := by decide +kernel
theorem dX5_heardInAll_13 : decode cX5_heardInAll 13 = .ok (.iload_n 1, 1) := by decide +kernel
theorem dX5_heardInAll_14 : decode cX5_heardInAll 14 = .ok (.aload_n 0, 1) := by decide +kernel
theorem dX5_heardInAll_15 : decode cX5_heardInAll 15 = .ok (.getfield 24, 3) := by decide +kernel
theorem dX5_heardInAll_18 : decode cX5_heardInAll 18 = .ok (.iload_n 2, 1) := by decide +kernel
theorem dX5_heardInAll_19 : decode cX5_heardInAll 19 = .ok (.iaload, 1) := by decide +kernel
theorem dX5_heardInAll_20 : decode cX5_heardInAll 20 = .ok (.iadd, 1) := by decide +kernel
theorem dX5_heardInAll_21 : decode cX5_heardInAll 21 = .ok (.istore_n 1, 1) := by decide +kernel
theorem dX5_heardInAll_22 : decode cX5_heardInAll 22 = .ok (.iinc 2 1, 3) := by decide +kernel
theorem dX5_heardInAll_25 : decode cX5_heardInAll 25 = .ok (.goto (-21), 3) := by decide +kernel
theorem dX5_heardInAll_28 : decode cX5_heardInAll 28 = .ok (.iload_n 1, 1) := by decide +kernel
theorem dX5_heardInAll_29 : decode cX5_heardInAll 29 = .ok (.ireturn, 1) := by decide +kernel
theorem dX5_gainOfAll_0 : decode cX5_gainOfAll 0 = .ok (.iconst 0, 1) := by decide +kernel
theorem dX5_gainOfAll_1 : decode cX5_gainOfAll 1 = .ok (.istore_n 1, 1) := by decide +kernel
theorem dX5_gainOfAll_2 : decode cX5_gainOfAll 2 = .ok (.iconst 0, 1) := by decide +kernel
theorem dX5_gainOfAll_3 : decode cX5_gainOfAll 3 = .ok (.istore_n 2, 1) := by decide +kernel
theorem dX5_gainOfAll_4 : decode cX5_gainOfAll 4 = .ok (.iload_n 2, 1) := by decide +kernel
theorem dX5_gainOfAll_5 : decode cX5_gainOfAll 5 = .ok (.bipush 6, 2) := by decide +kernel
theorem dX5_gainOfAll_7 : decode cX5_gainOfAll 7 = .ok (.if_icmp .ge 18, 3) := by decide +kernel
theorem dX5_gainOfAll_10 : decode cX5_gainOfAll 10 = .ok (.iload_n 1, 1) := by decide +kernel
theorem dX5_gainOfAll_11 : decode cX5_gainOfAll 11 = .ok (.aload_n 0, 1) := by decide +kernel
theorem dX5_gainOfAll_12 : decode cX5_gainOfAll 12 = .ok (.getfield 15, 3) := by decide +kernel
theorem dX5_gainOfAll_15 : decode cX5_gainOfAll 15 = .ok (.iload_n 2, 1) := by decide +kernel
theorem dX5_gainOfAll_16 : decode cX5_gainOfAll 16 = .ok (.iaload, 1) := by decide +kernel
theorem dX5_gainOfAll_17 : decode cX5_gainOfAll 17 = .ok (.iadd, 1) := by decide +kernel
theorem dX5_gainOfAll_18 : decode cX5_gainOfAll 18 = .ok (.istore_n 1, 1) := by decide +kernel
theorem dX5_gainOfAll_19 : decode cX5_gainOfAll 19 = .ok (.iinc 2 1, 3) := by decide +kernel
theorem dX5_gainOfAll_22 : decode cX5_gainOfAll 22 = .ok (.goto (-18), 3) := by decide +kernel
theorem dX5_gainOfAll_25 : decode cX5_gainOfAll 25 = .ok (.iload_n 1, 1) := by decide +kernel
theorem dX5_gainOfAll_26 : decode cX5_gainOfAll 26 = .ok (.ireturn, 1) := by decide +kernel
theorem dX5_housesAbout_0 : decode cX5_housesAbout 0 = .ok (.iconst 0, 1) := by decide +kernel
theorem dX5_housesAbout_1 : decode cX5_housesAbout 1 = .ok (.istore 4, 2) := by decide +kernel
theorem dX5_housesAbout_3 : decode cX5_housesAbout 3 = .ok (.iconst 0, 1) := by decide +kernel
theorem dX5_housesAbout_4 : decode cX5_housesAbout 4 = .ok (.istore 5, 2) := by decide +kernel
theorem dX5_housesAbout_6 : decode cX5_housesAbout 6 = .ok (.iload 5, 2) := by decide +kernel
theorem dX5_housesAbout_8 : decode cX5_housesAbout 8 = .ok (.iload_n 3, 1) := by decide +kernel
theorem dX5_housesAbout_9 : decode cX5_housesAbout 9 = .ok (.if_icmp .ge 28, 3) := by decide +kernel
theorem dX5_housesAbout_12 : decode cX5_housesAbout 12 = .ok (.aload_n 0, 1) := by decide +kernel
theorem dX5_housesAbout_13 : decode cX5_housesAbout 13 = .ok (.getfield 9, 3) := by decide +kernel
theorem dX5_housesAbout_16 : decode cX5_housesAbout 16 = .ok (.iload 5, 2) := by decide +kernel
theorem dX5_housesAbout_18 : decode cX5_housesAbout 18 = .ok (.iaload, 1) := by decide +kernel
theorem dX5_housesAbout_19 : decode cX5_housesAbout 19 = .ok (.iload_n 1, 1) := by decide +kernel
theorem dX5_housesAbout_20 : decode cX5_housesAbout 20 = .ok (.isub, 1) := by decide +kernel
theorem dX5_housesAbout_21 : decode cX5_housesAbout 21 = .ok (.invokestatic 50, 3) := by decide +kernel
theorem dX5_housesAbout_24 : decode cX5_housesAbout 24 = .ok (.iload_n 2, 1) := by decide +kernel
theorem dX5_housesAbout_25 : decode cX5_housesAbout 25 = .ok (.if_icmp .gt 6, 3) := by decide +kernel
theorem dX5_housesAbout_28 : decode cX5_housesAbout 28 = .ok (.iinc 4 1, 3) := by decide +kernel
theorem dX5_housesAbout_31 : decode cX5_housesAbout 31 = .ok (.iinc 5 1, 3) := by decide +kernel
theorem dX5_housesAbout_34 : decode cX5_housesAbout 34 = .ok (.goto (-28), 3) := by decide +kernel
theorem dX5_housesAbout_37 : decode cX5_housesAbout 37 = .ok (.iload 4, 2) := by decide +kernel
theorem dX5_housesAbout_39 : decode cX5_housesAbout 39 = .ok (.ireturn, 1) := by decide +kernel
theorem dX5_nextNumber_0 : decode cX5_nextNumber 0 = .ok (.aload_n 0, 1) := by decide +kernel
theorem dX5_nextNumber_1 : decode cX5_nextNumber 1 = .ok (.aload_n 0, 1) := by decide +kernel
theorem dX5_nextNumber_2 : decode cX5_nextNumber 2 = .ok (.getfield 41, 3) := by decide +kernel
theorem dX5_nextNumber_5 : decode cX5_nextNumber 5 = .ok (.ldc 69, 2) := by decide +kernel
theorem dX5_nextNumber_7 : decode cX5_nextNumber 7 = .ok (.imul, 1) := by decide +kernel
theorem dX5_nextNumber_8 : decode cX5_nextNumber 8 = .ok (.sipush 12345, 3) := by decide +kernel
theorem dX5_nextNumber_11 : decode cX5_nextNumber 11 = .ok (.iadd, 1) := by decide +kernel
theorem dX5_nextNumber_12 : decode cX5_nextNumber 12 = .ok (.ldc 70, 2) := by decide +kernel
theorem dX5_nextNumber_14 : decode cX5_nextNumber 14 = .ok (.iand, 1) := by decide +kernel
theorem dX5_nextNumber_15 : decode cX5_nextNumber 15 = .ok (.putfield 41, 3) := by decide +kernel
theorem dX5_nextNumber_18 : decode cX5_nextNumber 18 = .ok (.aload_n 0, 1) := by decide +kernel
theorem dX5_nextNumber_19 : decode cX5_nextNumber 19 = .ok (.getfield 41, 3) := by decide +kernel
theorem dX5_nextNumber_22 : decode cX5_nextNumber 22 = .ok (.ldc 71, 2) := by decide +kernel
theorem dX5_nextNumber_24 : decode cX5_nextNumber 24 = .ok (.idiv, 1) := by decide +kernel
theorem dX5_nextNumber_25 : decode cX5_nextNumber 25 = .ok (.ireturn, 1) := by decide +kernel
theorem dX6_init_0 : decode cX6_init 0 = .ok (.aload_n 0, 1) := by decide +kernel
theorem dX6_init_1 : decode cX6_init 1 = .ok (.invokespecial 5, 3) := by decide +kernel
theorem dX6_init_4 : decode cX6_init 4 = .ok (.aload_n 0, 1) := by decide +kernel
theorem dX6_init_5 : decode cX6_init 5 = .ok (.bipush 7, 2) := by decide +kernel
theorem dX6_init_7 : decode cX6_init 7 = .ok (.newarray .long, 2) := by decide +kernel
theorem dX6_init_9 : decode cX6_init 9 = .ok (.putfield 13, 3) := by decide +kernel
theorem dX6_init_12 : decode cX6_init 12 = .ok (.aload_n 0, 1) := by decide +kernel
theorem dX6_init_13 : decode cX6_init 13 = .ok (.bipush 64, 2) := by decide +kernel
theorem dX6_init_15 : decode cX6_init 15 = .ok (.newarray .long, 2) := by decide +kernel
theorem dX6_init_17 : decode cX6_init 17 = .ok (.putfield 17, 3) := by decide +kernel
theorem dX6_init_20 : decode cX6_init 20 = .ok (.return_, 1) := by decide +kernel
theorem dX6_isWorkedOut_0 : decode cX6_isWorkedOut 0 = .ok (.iconst 0, 1) := by decide +kernel
theorem dX6_isWorkedOut_1 : decode cX6_isWorkedOut 1 = .ok (.istore_n 2, 1) := by decide +kernel
theorem dX6_isWorkedOut_2 : decode cX6_isWorkedOut 2 = .ok (.iconst 0, 1) := by decide +kernel
theorem dX6_isWorkedOut_3 : decode cX6_isWorkedOut 3 = .ok (.istore_n 3, 1) := by decide +kernel
theorem dX6_isWorkedOut_4 : decode cX6_isWorkedOut 4 = .ok (.iconst 0, 1) := by decide +kernel
theorem dX6_isWorkedOut_5 : decode cX6_isWorkedOut 5 = .ok (.istore 4, 2) := by decide +kernel
theorem dX6_isWorkedOut_7 : decode cX6_isWorkedOut 7 = .ok (.iload 4, 2) := by decide +kernel
theorem dX6_isWorkedOut_9 : decode cX6_isWorkedOut 9 = .ok (.aload_n 1, 1) := by decide +kernel
theorem dX6_isWorkedOut_10 : decode cX6_isWorkedOut 10 = .ok (.getfield 20, 3) := by decide +kernel
theorem dX6_isWorkedOut_13 : decode cX6_isWorkedOut 13 = .ok (.if_icmp .ge 181, 3) := by decide +kernel
theorem dX6_isWorkedOut_16 : decode cX6_isWorkedOut 16 = .ok (.iload_n 3, 1) := by decide +kernel
theorem dX6_isWorkedOut_17 : decode cX6_isWorkedOut 17 = .ok (.ifCond .ne 177, 3) := by decide +kernel
theorem dX6_isWorkedOut_20 : decode cX6_isWorkedOut 20 = .ok (.aload_n 1, 1) := by decide +kernel
theorem dX6_isWorkedOut_21 : decode cX6_isWorkedOut 21 = .ok (.getfield 24, 3) := by decide +kernel
theorem dX6_isWorkedOut_24 : decode cX6_isWorkedOut 24 = .ok (.iload 4, 2) := by decide +kernel
theorem dX6_isWorkedOut_26 : decode cX6_isWorkedOut 26 = .ok (.iaload, 1) := by decide +kernel
theorem dX6_isWorkedOut_27 : decode cX6_isWorkedOut 27 = .ok (.istore 5, 2) := by decide +kernel
theorem dX6_isWorkedOut_29 : decode cX6_isWorkedOut 29 = .ok (.iload 5, 2) := by decide +kernel
theorem dX6_isWorkedOut_31 : decode cX6_isWorkedOut 31 = .ok (.sipush 20000, 3) := by decide +kernel
theorem dX6_isWorkedOut_34 : decode cX6_isWorkedOut 34 = .ok (.if_icmp .ge 40, 3) := by decide +kernel
theorem dX6_isWorkedOut_37 : decode cX6_isWorkedOut 37 = .ok (.aload_n 0, 1) := by decide +kernel
theorem dX6_isWorkedOut_38 : decode cX6_isWorkedOut 38 = .ok (.getfield 17, 3) := by decide +kernel
theorem dX6_isWorkedOut_41 : decode cX6_isWorkedOut 41 = .ok (.iload_n 2, 1) := by decide +kernel
theorem dX6_isWorkedOut_42 : decode cX6_isWorkedOut 42 = .ok (.iload 5, 2) := by decide +kernel
theorem dX6_isWorkedOut_44 : decode cX6_isWorkedOut 44 = .ok (.sipush 10000, 3) := by decide +kernel
theorem dX6_isWorkedOut_47 : decode cX6_isWorkedOut 47 = .ok (.if_icmp .ge 9, 3) := by decide +kernel
theorem dX6_isWorkedOut_50 : decode cX6_isWorkedOut 50 = .ok (.iload 5, 2) := by decide +kernel
theorem dX6_isWorkedOut_52 : decode cX6_isWorkedOut 52 = .ok (.i2l, 1) := by decide +kernel
theorem dX6_isWorkedOut_53 : decode cX6_isWorkedOut 53 = .ok (.goto 14, 3) := by decide +kernel
theorem dX6_isWorkedOut_56 : decode cX6_isWorkedOut 56 = .ok (.aload_n 0, 1) := by decide +kernel
theorem dX6_isWorkedOut_57 : decode cX6_isWorkedOut 57 = .ok (.getfield 13, 3) := by decide +kernel
theorem dX6_isWorkedOut_60 : decode cX6_isWorkedOut 60 = .ok (.iload 5, 2) := by decide +kernel
theorem dX6_isWorkedOut_62 : decode cX6_isWorkedOut 62 = .ok (.sipush 10000, 3) := by decide +kernel
theorem dX6_isWorkedOut_65 : decode cX6_isWorkedOut 65 = .ok (.isub, 1) := by decide +kernel
theorem dX6_isWorkedOut_66 : decode cX6_isWorkedOut 66 = .ok (.laload, 1) := by decide +kernel
theorem dX6_isWorkedOut_67 : decode cX6_isWorkedOut 67 = .ok (.lastore, 1) := by decide +kernel
theorem dX6_isWorkedOut_68 : decode cX6_isWorkedOut 68 = .ok (.iinc 2 1, 3) := by decide +kernel
theorem dX6_isWorkedOut_71 : decode cX6_isWorkedOut 71 = .ok (.goto 117, 3) := by decide +kernel
theorem dX6_isWorkedOut_74 : decode cX6_isWorkedOut 74 = .ok (.iload 5, 2) := by decide +kernel
theorem dX6_isWorkedOut_76 : decode cX6_isWorkedOut 76 = .ok (.sipush 20002, 3) := by decide +kernel
theorem dX6_isWorkedOut_79 : decode cX6_isWorkedOut 79 = .ok (.if_icmp .ne 37, 3) := by decide +kernel
theorem dX6_isWorkedOut_82 : decode cX6_isWorkedOut 82 = .ok (.iload_n 2, 1) := by decide +kernel
theorem dX6_isWorkedOut_83 : decode cX6_isWorkedOut 83 = .ok (.iconst 1, 1) := by decide +kernel
theorem dX6_isWorkedOut_84 : decode cX6_isWorkedOut 84 = .ok (.if_icmp .lt 32, 3) := by decide +kernel
theorem dX6_isWorkedOut_87 : decode cX6_isWorkedOut 87 = .ok (.aload_n 0, 1) := by decide +kernel
theorem dX6_isWorkedOut_88 : decode cX6_isWorkedOut 88 = .ok (.getfield 17, 3) := by decide +kernel
theorem dX6_isWorkedOut_91 : decode cX6_isWorkedOut 91 = .ok (.iload_n 2, 1) := by decide +kernel
theorem dX6_isWorkedOut_92 : decode cX6_isWorkedOut 92 = .ok (.iconst 1, 1) := by decide +kernel
theorem dX6_isWorkedOut_93 : decode cX6_isWorkedOut 93 = .ok (.isub, 1) := by decide +kernel
theorem dX6_isWorkedOut_94 : decode cX6_isWorkedOut 94 = .ok (.aload_n 0, 1) := by decide +kernel
theorem dX6_isWorkedOut_95 : decode cX6_isWorkedOut 95 = .ok (.getfield 17, 3) := by decide +kernel
theorem dX6_isWorkedOut_98 : decode cX6_isWorkedOut 98 = .ok (.iload_n 2, 1) := by decide +kernel
theorem dX6_isWorkedOut_99 : decode cX6_isWorkedOut 99 = .ok (.iconst 1, 1) := by decide +kernel
theorem dX6_isWorkedOut_100 : decode cX6_isWorkedOut 100 = .ok (.isub, 1) := by decide +kernel
theorem dX6_isWorkedOut_101 : decode cX6_isWorkedOut 101 = .ok (.laload, 1) := by decide +kernel
theorem dX6_isWorkedOut_102 : decode cX6_isWorkedOut 102 = .ok (.lconst 0, 1) := by decide +kernel
theorem dX6_isWorkedOut_103 : decode cX6_isWorkedOut 103 = .ok (.lcmp, 1) := by decide +kernel
theorem dX6_isWorkedOut_104 : decode cX6_isWorkedOut 104 = .ok (.ifCond .ne 7, 3) := by decide +kernel
theorem dX6_isWorkedOut_107 : decode cX6_isWorkedOut 107 = .ok (.lconst 1, 1) := by decide +kernel
theorem dX6_isWorkedOut_108 : decode cX6_isWorkedOut 108 = .ok (.goto 4, 3) := by decide +kernel
theorem dX6_isWorkedOut_111 : decode cX6_isWorkedOut 111 = .ok (.lconst 0, 1) := by decide +kernel
theorem dX6_isWorkedOut_112 : decode cX6_isWorkedOut 112 = .ok (.lastore, 1) := by decide +kernel
theorem dX6_isWorkedOut_113 : decode cX6_isWorkedOut 113 = .ok (.goto 75, 3) := by decide +kernel
theorem dX6_isWorkedOut_116 : decode cX6_isWorkedOut 116 = .ok (.iload_n 2, 1) := by decide +kernel
theorem dX6_isWorkedOut_117 : decode cX6_isWorkedOut 117 = .ok (.iconst 2, 1) := by decide +kernel
theorem dX6_isWorkedOut_118 : decode cX6_isWorkedOut 118 = .ok (.if_icmp .lt 68, 3) := by decide +kernel
theorem dX6_isWorkedOut_121 : decode cX6_isWorkedOut 121 = .ok (.iinc 2 (-1), 3) := by decide +kernel
theorem dX6_isWorkedOut_124 : decode cX6_isWorkedOut 124 = .ok (.iload 5, 2) := by decide +kernel
theorem dX6_isWorkedOut_126 : decode cX6_isWorkedOut 126 = .ok (.sipush 20000, 3) := by decide +kernel
theorem dX6_isWorkedOut_129 : decode cX6_isWorkedOut 129 = .ok (.isub, 1) := by decide +kernel
theorem dX6_isWorkedOut_130 : decode cX6_isWorkedOut 130 = .ok (.aload_n 0, 1) := by decide +kernel
theorem dX6_isWorkedOut_131 : decode cX6_isWorkedOut 131 = .ok (.getfield 17, 3) := by decide +kernel
theorem dX6_isWorkedOut_134 : decode cX6_isWorkedOut 134 = .ok (.iload_n 2, 1) := by decide +kernel
theorem dX6_isWorkedOut_135 : decode cX6_isWorkedOut 135 = .ok (.iconst 1, 1) := by decide +kernel
theorem dX6_isWorkedOut_136 : decode cX6_isWorkedOut 136 = .ok (.isub, 1) := by decide +kernel
theorem dX6_isWorkedOut_137 : decode cX6_isWorkedOut 137 = .ok (.laload, 1) := by decide +kernel
theorem dX6_isWorkedOut_138 : decode cX6_isWorkedOut 138 = .ok (.aload_n 0, 1) := by decide +kernel
theorem dX6_isWorkedOut_139 : decode cX6_isWorkedOut 139 = .ok (.getfield 17, 3) := by decide +kernel
theorem dX6_isWorkedOut_142 : decode cX6_isWorkedOut 142 = .ok (.iload_n 2, 1) := by decide +kernel
theorem dX6_isWorkedOut_143 : decode cX6_isWorkedOut 143 = .ok (.laload, 1) := by decide +kernel
theorem dX6_isWorkedOut_144 : decode cX6_isWorkedOut 144 = .ok (.invokestatic 28, 3) := by decide +kernel
theorem dX6_isWorkedOut_147 : decode cX6_isWorkedOut 147 = .ok (.lstore 6, 2) := by decide +kernel
theorem dX6_isWorkedOut_149 : decode cX6_isWorkedOut 149 = .ok (.lload 6, 2) := by decide +kernel
theorem dX6_isWorkedOut_151 : decode cX6_isWorkedOut 151 = .ok (.ldc2_w 32, 3) := by decide +kernel
theorem dX6_isWorkedOut_154 : decode cX6_isWorkedOut 154 = .ok (.lcmp, 1) := by decide +kernel
theorem dX6_isWorkedOut_155 : decode cX6_isWorkedOut 155 = .ok (.ifCond .gt 12, 3) := by decide +kernel
theorem dX6_isWorkedOut_158 : decode cX6_isWorkedOut 158 = .ok (.lload 6, 2) := by decide +kernel
theorem dX6_isWorkedOut_160 : decode cX6_isWorkedOut 160 = .ok (.ldc2_w 34, 3) := by decide +kernel
theorem dX6_isWorkedOut_163 : decode cX6_isWorkedOut 163 = .ok (.lcmp, 1) := by decide +kernel
theorem dX6_isWorkedOut_164 : decode cX6_isWorkedOut 164 = .ok (.ifCond .ge 7, 3) := by decide +kernel
theorem dX6_isWorkedOut_167 : decode cX6_isWorkedOut 167 = .ok (.iconst 1, 1) := by decide +kernel
theorem dX6_isWorkedOut_168 : decode cX6_isWorkedOut 168 = .ok (.goto 4, 3) := by decide +kernel
theorem dX6_isWorkedOut_171 : decode cX6_isWorkedOut 171 = .ok (.iconst 0, 1) := by decide +kernel
theorem dX6_isWorkedOut_172 : decode cX6_isWorkedOut 172 = .ok (.istore_n 3, 1) := by decide +kernel
theorem dX6_isWorkedOut_173 : decode cX6_isWorkedOut 173 = .ok (.aload_n 0, 1) := by decide +kernel
theorem dX6_isWorkedOut_174 : decode cX6_isWorkedOut 174 = .ok (.getfield 17, 3) := by decide +kernel
theorem dX6_isWorkedOut_177 : decode cX6_isWorkedOut 177 = .ok (.iload_n 2, 1) := by decide +kernel
theorem dX6_isWorkedOut_178 : decode cX6_isWorkedOut 178 = .ok (.iconst 1, 1) := by decide +kernel
theorem dX6_isWorkedOut_179 : decode cX6_isWorkedOut 179 = .ok (.isub, 1) := by decide +kernel
theorem dX6_isWorkedOut_180 : decode cX6_isWorkedOut 180 = .ok (.lload 6, 2) := by decide +kernel
theorem dX6_isWorkedOut_182 : decode cX6_isWorkedOut 182 = .ok (.lastore, 1) := by decide +kernel
theorem dX6_isWorkedOut_183 : decode cX6_isWorkedOut 183 = .ok (.goto 5, 3) := by decide +kernel
theorem dX6_isWorkedOut_186 : decode cX6_isWorkedOut 186 = .ok (.iconst 1, 1) := by decide +kernel
theorem dX6_isWorkedOut_187 : decode cX6_isWorkedOut 187 = .ok (.istore_n 3, 1) := by decide +kernel
theorem dX6_isWorkedOut_188 : decode cX6_isWorkedOut 188 = .ok (.iinc 4 1, 3) := by decide +kernel
theorem dX6_isWorkedOut_191 : decode cX6_isWorkedOut 191 = .ok (.goto (-184), 3) := by decide +kernel
theorem dX6_isWorkedOut_194 : decode cX6_isWorkedOut 194 = .ok (.iload_n 3, 1) := by decide +kernel
theorem dX6_isWorkedOut_195 : decode cX6_isWorkedOut 195 = .ok (.ifCond .ne 8, 3) := by decide +kernel
theorem dX6_isWorkedOut_198 : decode cX6_isWorkedOut 198 = .ok (.iload_n 2, 1) := by decide +kernel
theorem dX6_isWorkedOut_199 : decode cX6_isWorkedOut 199 = .ok (.iconst 1, 1) := by decide +kernel
theorem dX6_isWorkedOut_200 : decode cX6_isWorkedOut 200 = .ok (.if_icmp .eq 5, 3) := by decide +kernel
theorem dX6_isWorkedOut_203 : decode cX6_isWorkedOut 203 = .ok (.iconst 0, 1) := by decide +kernel
theorem dX6_isWorkedOut_204 : decode cX6_isWorkedOut 204 = .ok (.ireturn, 1) := by decide +kernel
theorem dX6_isWorkedOut_205 : decode cX6_isWorkedOut 205 = .ok (.aload_n 0, 1) := by decide +kernel
theorem dX6_isWorkedOut_206 : decode cX6_isWorkedOut 206 = .ok (.aload_n 0, 1) := by decide +kernel
theorem dX6_isWorkedOut_207 : decode cX6_isWorkedOut 207 = .ok (.getfield 17, 3) := by decide +kernel
theorem dX6_isWorkedOut_210 : decode cX6_isWorkedOut 210 = .ok (.iconst 0, 1) := by decide +kernel
theorem dX6_isWorkedOut_211 : decode cX6_isWorkedOut 211 = .ok (.laload, 1) := by decide +kernel
theorem dX6_isWorkedOut_212 : decode cX6_isWorkedOut 212 = .ok (.putfield 36, 3) := by decide +kernel
theorem dX6_isWorkedOut_215 : decode cX6_isWorkedOut 215 = .ok (.iconst 1, 1) := by decide +kernel
theorem dX6_isWorkedOut_216 : decode cX6_isWorkedOut 216 = .ok (.ireturn, 1) := by decide +kernel
theorem dX6_joined_0 : decode cX6_joined 0 = .ok (.iload_n 0, 1) := by decide +kernel
theorem dX6_joined_1 : decode cX6_joined 1 = .ok (.tableswitch 225 0 11 #[63, 81, 225, 99, 111, 123, 135, 147, 159, 171, 175, 179], 63) := by decide +kernel
theorem dX6_joined_64 : decode cX6_joined 64 = .ok (.lload_n 1, 1) := by decide +kernel
theorem dX6_joined_65 : decode cX6_joined 65 = .ok (.lconst 0, 1) := by decide +kernel
theorem dX6_joined_66 : decode cX6_joined 66 = .ok (.lcmp, 1) := by decide +kernel
theorem dX6_joined_67 : decode cX6_joined 67 = .ok (.ifCond .ne 9, 3) := by decide +kernel
theorem dX6_joined_70 : decode cX6_joined 70 = .ok (.lload_n 3, 1) := by decide +kernel
theorem dX6_joined_71 : decode cX6_joined 71 = .ok (.lconst 0, 1) := by decide +kernel
theorem dX6_joined_72 : decode cX6_joined 72 = .ok (.lcmp, 1) := by decide +kernel
theorem dX6_joined_73 : decode cX6_joined 73 = .ok (.ifCond .eq 7, 3) := by decide +kernel
theorem dX6_joined_76 : decode cX6_joined 76 = .ok (.lconst 1, 1) := by decide +kernel
theorem dX6_joined_77 : decode cX6_joined 77 = .ok (.goto 4, 3) := by decide +kernel
theorem dX6_joined_80 : decode cX6_joined 80 = .ok (.lconst 0, 1) := by decide +kernel
theorem dX6_joined_81 : decode cX6_joined 81 = .ok (.lreturn, 1) := by decide +kernel
theorem dX6_joined_82 : decode cX6_joined 82 = .ok (.lload_n 1, 1) := by decide +kernel
theorem dX6_joined_83 : decode cX6_joined 83 = .ok (.lconst 0, 1) := by decide +kernel
theorem dX6_joined_84 : decode cX6_joined 84 = .ok (.lcmp, 1) := by decide +kernel
theorem dX6_joined_85 : decode cX6_joined 85 = .ok (.ifCond .eq 13, 3) := by decide +kernel
theorem dX6_joined_88 : decode cX6_joined 88 = .ok (.lload_n 3, 1) := by decide +kernel
theorem dX6_joined_89 : decode cX6_joined 89 = .ok (.lconst 0, 1) := by decide +kernel
theorem dX6_joined_90 : decode cX6_joined 90 = .ok (.lcmp, 1) := by decide +kernel
theorem dX6_joined_91 : decode cX6_joined 91 = .ok (.ifCond .eq 7, 3) := by decide +kernel
theorem dX6_joined_94 : decode cX6_joined 94 = .ok (.lconst 1, 1) := by decide +kernel
theorem dX6_joined_95 : decode cX6_joined 95 = .ok (.goto 4, 3) := by decide +kernel
theorem dX6_joined_98 : decode cX6_joined 98 = .ok (.lconst 0, 1) := by decide +kernel
theorem dX6_joined_99 : decode cX6_joined 99 = .ok (.lreturn, 1) := by decide +kernel
theorem dX6_joined_100 : decode cX6_joined 100 = .ok (.lload_n 1, 1) := by decide +kernel
theorem dX6_joined_101 : decode cX6_joined 101 = .ok (.lload_n 3, 1) := by decide +kernel
theorem dX6_joined_102 : decode cX6_joined 102 = .ok (.lcmp, 1) := by decide +kernel
theorem dX6_joined_103 : decode cX6_joined 103 = .ok (.ifCond .ge 7, 3) := by decide +kernel
theorem dX6_joined_106 : decode cX6_joined 106 = .ok (.lconst 1, 1) := by decide +kernel
theorem dX6_joined_107 : decode cX6_joined 107 = .ok (.goto 4, 3) := by decide +kernel
theorem dX6_joined_110 : decode cX6_joined 110 = .ok (.lconst 0, 1) := by decide +kernel
theorem dX6_joined_111 : decode cX6_joined 111 = .ok (.lreturn, 1) := by decide +kernel
theorem dX6_joined_112 : decode cX6_joined 112 = .ok (.lload_n 1, 1) := by decide +kernel
theorem dX6_joined_113 : decode cX6_joined 113 = .ok (.lload_n 3, 1) := by decide +kernel
theorem dX6_joined_114 : decode cX6_joined 114 = .ok (.lcmp, 1) := by decide +kernel
theorem dX6_joined_115 : decode cX6_joined 115 = .ok (.ifCond .gt 7, 3) := by decide +kernel
theorem dX6_joined_118 : decode cX6_joined 118 = .ok (.lconst 1, 1) := by decide +kernel
theorem dX6_joined_119 : decode cX6_joined 119 = .ok (.goto 4, 3) := by decide +kernel
theorem dX6_joined_122 : decode cX6_joined 122 = .ok (.lconst 0, 1) := by decide +kernel
theorem dX6_joined_123 : decode cX6_joined 123 = .ok (.lreturn, 1) := by decide +kernel
theorem dX6_joined_124 : decode cX6_joined 124 = .ok (.lload_n 1, 1) := by decide +kernel
theorem dX6_joined_125 : decode cX6_joined 125 = .ok (.lload_n 3, 1) := by decide +kernel
theorem dX6_joined_126 : decode cX6_joined 126 = .ok (.lcmp, 1) := by decide +kernel
theorem dX6_joined_127 : decode cX6_joined 127 = .ok (.ifCond .ne 7, 3) := by decide +kernel
theorem dX6_joined_130 : decode cX6_joined 130 = .ok (.lconst 1, 1) := by decide +kernel
theorem dX6_joined_131 : decode cX6_joined 131 = .ok (.goto 4, 3) := by decide +kernel
theorem dX6_joined_134 : decode cX6_joined 134 = .ok (.lconst 0, 1) := by decide +kernel
theorem dX6_joined_135 : decode cX6_joined 135 = .ok (.lreturn, 1) := by decide +kernel
theorem dX6_joined_136 : decode cX6_joined 136 = .ok (.lload_n 1, 1) := by decide +kernel
theorem dX6_joined_137 : decode cX6_joined 137 = .ok (.lload_n 3, 1) := by decide +kernel
theorem dX6_joined_138 : decode cX6_joined 138 = .ok (.lcmp, 1) := by decide +kernel
theorem dX6_joined_139 : decode cX6_joined 139 = .ok (.ifCond .eq 7, 3) := by decide +kernel
theorem dX6_joined_142 : decode cX6_joined 142 = .ok (.lconst 1, 1) := by decide +kernel
theorem dX6_joined_143 : decode cX6_joined 143 = .ok (.goto 4, 3) := by decide +kernel
theorem dX6_joined_146 : decode cX6_joined 146 = .ok (.lconst 0, 1) := by decide +kernel
theorem dX6_joined_147 : decode cX6_joined 147 = .ok (.lreturn, 1) := by decide +kernel
theorem dX6_joined_148 : decode cX6_joined 148 = .ok (.lload_n 1, 1) := by decide +kernel
theorem dX6_joined_149 : decode cX6_joined 149 = .ok (.lload_n 3, 1) := by decide +kernel
theorem dX6_joined_150 : decode cX6_joined 150 = .ok (.lcmp, 1) := by decide +kernel
theorem dX6_joined_151 : decode cX6_joined 151 = .ok (.ifCond .lt 7, 3) := by decide +kernel
theorem dX6_joined_154 : decode cX6_joined 154 = .ok (.lconst 1, 1) := by decide +kernel
theorem dX6_joined_155 : decode cX6_joined 155 = .ok (.goto 4, 3) := by decide +kernel
theorem dX6_joined_158 : decode cX6_joined 158 = .ok (.lconst 0, 1) := by decide +kernel
theorem dX6_joined_159 : decode cX6_joined 159 = .ok (.lreturn, 1) := by decide +kernel
theorem dX6_joined_160 : decode cX6_joined 160 = .ok (.lload_n 1, 1) := by decide +kernel
theorem dX6_joined_161 : decode cX6_joined 161 = .ok (.lload_n 3, 1) := by decide +kernel
theorem dX6_joined_162 : decode cX6_joined 162 = .ok (.lcmp, 1) := by decide +kernel
theorem dX6_joined_163 : decode cX6_joined 163 = .ok (.ifCond .le 7, 3) := by decide +kernel
theorem dX6_joined_166 : decode cX6_joined 166 = .ok (.lconst 1, 1) := by decide +kernel
theorem dX6_joined_167 : decode cX6_joined 167 = .ok (.goto 4, 3) := by decide +kernel
theorem dX6_joined_170 : decode cX6_joined 170 = .ok (.lconst 0, 1) := by decide +kernel
theorem dX6_joined_171 : decode cX6_joined 171 = .ok (.lreturn, 1) := by decide +kernel
theorem dX6_joined_172 : decode cX6_joined 172 = .ok (.lload_n 1, 1) := by decide +kernel
theorem dX6_joined_173 : decode cX6_joined 173 = .ok (.lload_n 3, 1) := by decide +kernel
theorem dX6_joined_174 : decode cX6_joined 174 = .ok (.ladd, 1) := by decide +kernel
theorem dX6_joined_175 : decode cX6_joined 175 = .ok (.lreturn, 1) := by decide +kernel
theorem dX6_joined_176 : decode cX6_joined 176 = .ok (.lload_n 1, 1) := by decide +kernel
theorem dX6_joined_177 : decode cX6_joined 177 = .ok (.lload_n 3, 1) := by decide +kernel
theorem dX6_joined_178 : decode cX6_joined 178 = .ok (.lsub, 1) := by decide +kernel
theorem dX6_joined_179 : decode cX6_joined 179 = .ok (.lreturn, 1) := by decide +kernel
theorem dX6_joined_180 : decode cX6_joined 180 = .ok (.lload_n 1, 1) := by decide +kernel
theorem dX6_joined_181 : decode cX6_joined 181 = .ok (.lconst 0, 1) := by decide +kernel
theorem dX6_joined_182 : decode cX6_joined 182 = .ok (.lcmp, 1) := by decide +kernel
theorem dX6_joined_183 : decode cX6_joined 183 = .ok (.ifCond .eq 39, 3) := by decide +kernel
theorem dX6_joined_186 : decode cX6_joined 186 = .ok (.lload_n 3, 1) := by decide +kernel
theorem dX6_joined_187 : decode cX6_joined 187 = .ok (.lconst 0, 1) := by decide +kernel
theorem dX6_joined_188 : decode cX6_joined 188 = .ok (.lcmp, 1) := by decide +kernel
theorem dX6_joined_189 : decode cX6_joined 189 = .ok (.ifCond .ge 8, 3) := by decide +kernel
theorem dX6_joined_192 : decode cX6_joined 192 = .ok (.lload_n 3, 1) := by decide +kernel
theorem dX6_joined_193 : decode cX6_joined 193 = .ok (.lneg, 1) := by decide +kernel
theorem dX6_joined_194 : decode cX6_joined 194 = .ok (.goto 4, 3) := by decide +kernel
theorem dX6_joined_197 : decode cX6_joined 197 = .ok (.lload_n 3, 1) := by decide +kernel
theorem dX6_joined_198 : decode cX6_joined 198 = .ok (.ldc2_w 32, 3) := by decide +kernel
theorem dX6_joined_201 : decode cX6_joined 201 = .ok (.lload_n 1, 1) := by decide +kernel
theorem dX6_joined_202 : decode cX6_joined 202 = .ok (.lconst 0, 1) := by decide +kernel
theorem dX6_joined_203 : decode cX6_joined 203 = .ok (.lcmp, 1) := by decide +kernel
theorem dX6_joined_204 : decode cX6_joined 204 = .ok (.ifCond .ge 8, 3) := by decide +kernel
theorem dX6_joined_207 : decode cX6_joined 207 = .ok (.lload_n 1, 1) := by decide +kernel
theorem dX6_joined_208 : decode cX6_joined 208 = .ok (.lneg, 1) := by decide +kernel
theorem dX6_joined_209 : decode cX6_joined 209 = .ok (.goto 4, 3) := by decide +kernel
theorem dX6_joined_212 : decode cX6_joined 212 = .ok (.lload_n 1, 1) := by decide +kernel
theorem dX6_joined_213 : decode cX6_joined 213 = .ok (.ldiv, 1) := by decide +kernel
theorem dX6_joined_214 : decode cX6_joined 214 = .ok (.lcmp, 1) := by decide +kernel
theorem dX6_joined_215 : decode cX6_joined 215 = .ok (.ifCond .le 7, 3) := by decide +kernel
theorem dX6_joined_218 : decode cX6_joined 218 = .ok (.ldc2_w 40, 3) := by decide +kernel
theorem dX6_joined_221 : decode cX6_joined 221 = .ok (.lreturn, 1) := by decide +kernel
theorem dX6_joined_222 : decode cX6_joined 222 = .ok (.lload_n 1, 1) := by decide +kernel
theorem dX6_joined_223 : decode cX6_joined 223 = .ok (.lload_n 3, 1) := by decide +kernel
theorem dX6_joined_224 : decode cX6_joined 224 = .ok (.lmul, 1) := by decide +kernel
theorem dX6_joined_225 : decode cX6_joined 225 = .ok (.lreturn, 1) := by decide +kernel
theorem dX6_joined_226 : decode cX6_joined 226 = .ok (.lload_n 3, 1) := by decide +kernel
theorem dX6_joined_227 : decode cX6_joined 227 = .ok (.lconst 0, 1) := by decide +kernel
theorem dX6_joined_228 : decode cX6_joined 228 = .ok (.lcmp, 1) := by decide +kernel
theorem dX6_joined_229 : decode cX6_joined 229 = .ok (.ifCond .ne 9, 3) := by decide +kernel
theorem dX6_joined_232 : decode cX6_joined 232 = .ok (.ldc2_w 40, 3) := by decide +kernel
theorem dX6_joined_235 : decode cX6_joined 235 = .ok (.goto 6, 3) := by decide +kernel
theorem dX6_joined_238 : decode cX6_joined 238 = .ok (.lload_n 1, 1) := by decide +kernel
theorem dX6_joined_239 : decode cX6_joined 239 = .ok (.lload_n 3, 1) := by decide +kernel
theorem dX6_joined_240 : decode cX6_joined 240 = .ok (.ldiv, 1) := by decide +kernel
theorem dX6_joined_241 : decode cX6_joined 241 = .ok (.lreturn, 1) := by decide +kernel
theorem dX7_init_0 : decode cX7_init 0 = .ok (.aload_n 0, 1) := by decide +kernel
theorem dX7_init_1 : decode cX7_init 1 = .ok (.invokespecial 3, 3) := by decide +kernel
theorem dX7_init_4 : decode cX7_init 4 = .ok (.aload_n 0, 1) := by decide +kernel
theorem dX7_init_5 : decode cX7_init 5 = .ok (.bipush 21, 2) := by decide +kernel
theorem dX7_init_7 : decode cX7_init 7 = .ok (.newarray .int, 2) := by decide +kernel
theorem dX7_init_9 : decode cX7_init 9 = .ok (.putfield 11, 3) := by decide +kernel
theorem dX7_init_12 : decode cX7_init 12 = .ok (.aload_n 0, 1) := by decide +kernel
theorem dX7_init_13 : decode cX7_init 13 = .ok (.sipush 701, 3) := by decide +kernel
theorem dX7_init_16 : decode cX7_init 16 = .ok (.newarray .int, 2) := by decide +kernel
theorem dX7_init_18 : decode cX7_init 18 = .ok (.putfield 15, 3) := by decide +kernel
theorem dX7_init_21 : decode cX7_init 21 = .ok (.aload_n 0, 1) := by decide +kernel
theorem dX7_init_22 : decode cX7_init 22 = .ok (.sipush 701, 3) := by decide +kernel
theorem dX7_init_25 : decode cX7_init 25 = .ok (.newarray .int, 2) := by decide +kernel
theorem dX7_init_27 : decode cX7_init 27 = .ok (.putfield 18, 3) := by decide +kernel
theorem dX7_init_30 : decode cX7_init 30 = .ok (.aload_n 0, 1) := by decide +kernel
theorem dX7_init_31 : decode cX7_init 31 = .ok (.sipush 701, 3) := by decide +kernel
theorem dX7_init_34 : decode cX7_init 34 = .ok (.newarray .int, 2) := by decide +kernel
theorem dX7_init_36 : decode cX7_init 36 = .ok (.putfield 21, 3) := by decide +kernel
theorem dX7_init_39 : decode cX7_init 39 = .ok (.aload_n 0, 1) := by decide +kernel
theorem dX7_init_40 : decode cX7_init 40 = .ok (.iconst 0, 1) := by decide +kernel
theorem dX7_init_41 : decode cX7_init 41 = .ok (.newarray .int, 2) := by decide +kernel
theorem dX7_init_43 : decode cX7_init 43 = .ok (.putfield 24, 3) := by decide +kernel
theorem dX7_init_46 : decode cX7_init 46 = .ok (.iconst 0, 1) := by decide +kernel
theorem dX7_init_47 : decode cX7_init 47 = .ok (.istore_n 1, 1) := by decide +kernel
theorem dX7_init_48 : decode cX7_init 48 = .ok (.iload_n 1, 1) := by decide +kernel
theorem dX7_init_49 : decode cX7_init 49 = .ok (.bipush 21, 2) := by decide +kernel
theorem dX7_init_51 : decode cX7_init 51 = .ok (.if_icmp .ge 77, 3) := by decide +kernel
theorem dX7_init_54 : decode cX7_init 54 = .ok (.iconst 0, 1) := by decide +kernel
theorem dX7_init_55 : decode cX7_init 55 = .ok (.istore_n 2, 1) := by decide +kernel
theorem dX7_init_56 : decode cX7_init 56 = .ok (.iconst 0, 1) := by decide +kernel
theorem dX7_init_57 : decode cX7_init 57 = .ok (.istore_n 3, 1) := by decide +kernel
theorem dX7_init_58 : decode cX7_init 58 = .ok (.iload_n 3, 1) := by decide +kernel
theorem dX7_init_59 : decode cX7_init 59 = .ok (.bipush 6, 2) := by decide +kernel
theorem dX7_init_61 : decode cX7_init 61 = .ok (.if_icmp .ge 54, 3) := by decide +kernel
theorem dX7_init_64 : decode cX7_init 64 = .ok (.iload_n 3, 1) := by decide +kernel
theorem dX7_init_65 : decode cX7_init 65 = .ok (.iconst 5, 1) := by decide +kernel
theorem dX7_init_66 : decode cX7_init 66 = .ok (.if_icmp .ge 16, 3) := by decide +kernel
theorem dX7_init_69 : decode cX7_init 69 = .ok (.ldc 27, 2) := by decide +kernel
theorem dX7_init_71 : decode cX7_init 71 = .ok (.iload_n 1, 1) := by decide +kernel
theorem dX7_init_72 : decode cX7_init 72 = .ok (.iconst 5, 1) := by decide +kernel
theorem dX7_init_73 : decode cX7_init 73 = .ok (.imul, 1) := by decide +kernel
theorem dX7_init_74 : decode cX7_init 74 = .ok (.iload_n 3, 1) := by decide +kernel
theorem dX7_init_75 : decode cX7_init 75 = .ok (.iadd, 1) := by decide +kernel
theorem dX7_init_76 : decode cX7_init 76 = .ok (.invokevirtual 29, 3) := by decide +kernel
theorem dX7_init_79 : decode cX7_init 79 = .ok (.goto 5, 3) := by decide +kernel
theorem dX7_init_82 : decode cX7_init 82 = .ok (.bipush 32, 2) := by decide +kernel
theorem dX7_init_84 : decode cX7_init 84 = .ok (.istore 4, 2) := by decide +kernel
theorem dX7_init_86 : decode cX7_init 86 = .ok (.iload_n 2, 1) := by decide +kernel
theorem dX7_init_87 : decode cX7_init 87 = .ok (.iconst 5, 1) := by decide +kernel
theorem dX7_init_88 : decode cX7_init 88 = .ok (.ishl, 1) := by decide +kernel
theorem dX7_init_89 : decode cX7_init 89 = .ok (.iload 4, 2) := by decide +kernel
theorem dX7_init_91 : decode cX7_init 91 = .ok (.bipush 32, 2) := by decide +kernel
theorem dX7_init_93 : decode cX7_init 93 = .ok (.if_icmp .ne 7, 3) := by decide +kernel
theorem dX7_init_96 : decode cX7_init 96 = .ok (.iconst 0, 1) := by decide +kernel
theorem dX7_init_97 : decode cX7_init 97 = .ok (.goto 10, 3) := by decide +kernel
theorem dX7_init_100 : decode cX7_init 100 = .ok (.iload 4, 2) := by decide +kernel
theorem dX7_init_102 : decode cX7_init 102 = .ok (.bipush 97, 2) := by decide +kernel
theorem dX7_init_104 : decode cX7_init 104 = .ok (.isub, 1) := by decide +kernel
theorem dX7_init_105 : decode cX7_init 105 = .ok (.iconst 1, 1) := by decide +kernel
theorem dX7_init_106 : decode cX7_init 106 = .ok (.iadd, 1) := by decide +kernel
theorem dX7_init_107 : decode cX7_init 107 = .ok (.ior, 1) := by decide +kernel
theorem dX7_init_108 : decode cX7_init 108 = .ok (.istore_n 2, 1) := by decide +kernel
theorem dX7_init_109 : decode cX7_init 109 = .ok (.iinc 3 1, 3) := by decide +kernel
theorem dX7_init_112 : decode cX7_init 112 = .ok (.goto (-54), 3) := by decide +kernel
theorem dX7_init_115 : decode cX7_init 115 = .ok (.aload_n 0, 1) := by decide +kernel
theorem dX7_init_116 : decode cX7_init 116 = .ok (.getfield 11, 3) := by decide +kernel
theorem dX7_init_119 : decode cX7_init 119 = .ok (.iload_n 1, 1) := by decide +kernel
theorem dX7_init_120 : decode cX7_init 120 = .ok (.iload_n 2, 1) := by decide +kernel
theorem dX7_init_121 : decode cX7_init 121 = .ok (.iastore, 1) := by decide +kernel
theorem dX7_init_122 : decode cX7_init 122 = .ok (.iinc 1 1, 3) := by decide +kernel
theorem dX7_init_125 : decode cX7_init 125 = .ok (.goto (-77), 3) := by decide +kernel
theorem dX7_init_128 : decode cX7_init 128 = .ok (.return_, 1) := by decide +kernel
theorem dX7_cut_0 : decode cX7_cut 0 = .ok (.aload_n 0, 1) := by decide +kernel
theorem dX7_cut_1 : decode cX7_cut 1 = .ok (.aload_n 1, 1) := by decide +kernel
theorem dX7_cut_2 : decode cX7_cut 2 = .ok (.putfield 24, 3) := by decide +kernel
theorem dX7_cut_5 : decode cX7_cut 5 = .ok (.aload_n 0, 1) := by decide +kernel
theorem dX7_cut_6 : decode cX7_cut 6 = .ok (.iload_n 2, 1) := by decide +kernel
theorem dX7_cut_7 : decode cX7_cut 7 = .ok (.aload_n 1, 1) := by decide +kernel
theorem dX7_cut_8 : decode cX7_cut 8 = .ok (.arraylength, 1) := by decide +kernel
theorem dX7_cut_9 : decode cX7_cut 9 = .ok (.invokestatic 35, 3) := by decide +kernel
theorem dX7_cut_12 : decode cX7_cut 12 = .ok (.sipush 700, 3) := by decide +kernel
theorem dX7_cut_15 : decode cX7_cut 15 = .ok (.invokestatic 35, 3) := by decide +kernel
theorem dX7_cut_18 : decode cX7_cut 18 = .ok (.putfield 41, 3) := by decide +kernel
theorem dX7_cut_21 : decode cX7_cut 21 = .ok (.aload_n 0, 1) := by decide +kernel
theorem dX7_cut_22 : decode cX7_cut 22 = .ok (.iconst 0, 1) := by decide +kernel
theorem dX7_cut_23 : decode cX7_cut 23 = .ok (.putfield 45, 3) := by decide +kernel
theorem dX7_cut_26 : decode cX7_cut 26 = .ok (.aload_n 0, 1) := by decide +kernel
theorem dX7_cut_27 : decode cX7_cut 27 = .ok (.iconst 0, 1) := by decide +kernel
theorem dX7_cut_28 : decode cX7_cut 28 = .ok (.putfield 48, 3) := by decide +kernel
theorem dX7_cut_31 : decode cX7_cut 31 = .ok (.iconst 0, 1) := by decide +kernel
theorem dX7_cut_32 : decode cX7_cut 32 = .ok (.istore_n 3, 1) := by decide +kernel
theorem dX7_cut_33 : decode cX7_cut 33 = .ok (.iload_n 3, 1) := by decide +kernel
theorem dX7_cut_34 : decode cX7_cut 34 = .ok (.sipush 700, 3) := by decide +kernel
theorem dX7_cut_37 : decode cX7_cut 37 = .ok (.if_icmp .ge 106, 3) := by decide +kernel
theorem dX7_cut_40 : decode cX7_cut 40 = .ok (.aload_n 0, 1) := by decide +kernel
theorem dX7_cut_41 : decode cX7_cut 41 = .ok (.getfield 45, 3) := by decide +kernel
theorem dX7_cut_44 : decode cX7_cut 44 = .ok (.aload_n 0, 1) := by decide +kernel
theorem dX7_cut_45 : decode cX7_cut 45 = .ok (.getfield 41, 3) := by decide +kernel
theorem dX7_cut_48 : decode cX7_cut 48 = .ok (.if_icmp .ge 95, 3) := by decide +kernel
theorem dX7_cut_51 : decode cX7_cut 51 = .ok (.aload_n 0, 1) := by decide +kernel
theorem dX7_cut_52 : decode cX7_cut 52 = .ok (.getfield 24, 3) := by decide +kernel
theorem dX7_cut_55 : decode cX7_cut 55 = .ok (.aload_n 0, 1) := by decide +kernel
theorem dX7_cut_56 : decode cX7_cut 56 = .ok (.getfield 45, 3) := by decide +kernel
theorem dX7_cut_59 : decode cX7_cut 59 = .ok (.iaload, 1) := by decide +kernel
theorem dX7_cut_60 : decode cX7_cut 60 = .ok (.istore 4, 2) := by decide +kernel
theorem dX7_cut_62 : decode cX7_cut 62 = .ok (.iload 4, 2) := by decide +kernel
theorem dX7_cut_64 : decode cX7_cut 64 = .ok (.bipush 32, 2) := by decide +kernel
theorem dX7_cut_66 : decode cX7_cut 66 = .ok (.if_icmp .eq 10, 3) := by decide +kernel
theorem dX7_cut_69 : decode cX7_cut 69 = .ok (.iload 4, 2) := by decide +kernel
theorem dX7_cut_71 : decode cX7_cut 71 = .ok (.bipush 10, 2) := by decide +kernel
theorem dX7_cut_73 : decode cX7_cut 73 = .ok (.if_icmp .ne 16, 3) := by decide +kernel
theorem dX7_cut_76 : decode cX7_cut 76 = .ok (.aload_n 0, 1) := by decide +kernel
theorem dX7_cut_77 : decode cX7_cut 77 = .ok (.dup, 1) := by decide +kernel
theorem dX7_cut_78 : decode cX7_cut 78 = .ok (.getfield 45, 3) := by decide +kernel
theorem dX7_cut_81 : decode cX7_cut 81 = .ok (.iconst 1, 1) := by decide +kernel
theorem dX7_cut_82 : decode cX7_cut 82 = .ok (.iadd, 1) := by decide +kernel
theorem dX7_cut_83 : decode cX7_cut 83 = .ok (.putfield 45, 3) := by decide +kernel
theorem dX7_cut_86 : decode cX7_cut 86 = .ok (.goto 51, 3) := by decide +kernel
theorem dX7_cut_89 : decode cX7_cut 89 = .ok (.iload 4, 2) := by decide +kernel
theorem dX7_cut_91 : decode cX7_cut 91 = .ok (.bipush 97, 2) := by decide +kernel
theorem dX7_cut_93 : decode cX7_cut 93 = .ok (.if_icmp .lt 17, 3) := by decide +kernel
theorem dX7_cut_96 : decode cX7_cut 96 = .ok (.iload 4, 2) := by decide +kernel
theorem dX7_cut_98 : decode cX7_cut 98 = .ok (.bipush 122, 2) := by decide +kernel
theorem dX7_cut_100 : decode cX7_cut 100 = .ok (.if_icmp .gt 10, 3) := by decide +kernel
theorem dX7_cut_103 : decode cX7_cut 103 = .ok (.aload_n 0, 1) := by decide +kernel
theorem dX7_cut_104 : decode cX7_cut 104 = .ok (.invokevirtual 51, 3) := by decide +kernel
theorem dX7_cut_107 : decode cX7_cut 107 = .ok (.goto 30, 3) := by decide +kernel
theorem dX7_cut_110 : decode cX7_cut 110 = .ok (.iload 4, 2) := by decide +kernel
theorem dX7_cut_112 : decode cX7_cut 112 = .ok (.bipush 48, 2) := by decide +kernel
theorem dX7_cut_114 : decode cX7_cut 114 = .ok (.if_icmp .lt 17, 3) := by decide +kernel
theorem dX7_cut_117 : decode cX7_cut 117 = .ok (.iload 4, 2) := by decide +kernel
theorem dX7_cut_119 : decode cX7_cut 119 = .ok (.bipush 57, 2) := by decide +kernel
theorem dX7_cut_121 : decode cX7_cut 121 = .ok (.if_icmp .gt 10, 3) := by decide +kernel
theorem dX7_cut_124 : decode cX7_cut 124 = .ok (.aload_n 0, 1) := by decide +kernel
theorem dX7_cut_125 : decode cX7_cut 125 = .ok (.invokevirtual 54, 3) := by decide +kernel
theorem dX7_cut_128 : decode cX7_cut 128 = .ok (.goto 9, 3) := by decide +kernel
theorem dX7_cut_131 : decode cX7_cut 131 = .ok (.aload_n 0, 1) := by decide +kernel
theorem dX7_cut_132 : decode cX7_cut 132 = .ok (.iload 4, 2) := by decide +kernel
theorem dX7_cut_134 : decode cX7_cut 134 = .ok (.invokevirtual 57, 3) := by decide +kernel
theorem dX7_cut_137 : decode cX7_cut 137 = .ok (.iinc 3 1, 3) := by decide +kernel
theorem dX7_cut_140 : decode cX7_cut 140 = .ok (.goto (-107), 3) := by decide +kernel
theorem dX7_cut_143 : decode cX7_cut 143 = .ok (.aload_n 0, 1) := by decide +kernel
theorem dX7_cut_144 : decode cX7_cut 144 = .ok (.iconst 0, 1) := by decide +kernel
theorem dX7_cut_145 : decode cX7_cut 145 = .ok (.aload_n 0, 1) := by decide +kernel
theorem dX7_cut_146 : decode cX7_cut 146 = .ok (.getfield 41, 3) := by decide +kernel
theorem dX7_cut_149 : decode cX7_cut 149 = .ok (.iconst 0, 1) := by decide +kernel
theorem dX7_cut_150 : decode cX7_cut 150 = .ok (.invokevirtual 61, 3) := by decide +kernel
theorem dX7_cut_153 : decode cX7_cut 153 = .ok (.aload_n 0, 1) := by decide +kernel
theorem dX7_cut_154 : decode cX7_cut 154 = .ok (.iconst (-1), 1) := by decide +kernel
theorem dX7_cut_155 : decode cX7_cut 155 = .ok (.putfield 65, 3) := by decide +kernel
theorem dX7_cut_158 : decode cX7_cut 158 = .ok (.aload_n 0, 1) := by decide +kernel
theorem dX7_cut_159 : decode cX7_cut 159 = .ok (.invokevirtual 68, 3) := by decide +kernel
theorem dX7_cut_162 : decode cX7_cut 162 = .ok (.return_, 1) := by decide +kernel
theorem dX7_add_0 : decode cX7_add 0 = .ok (.aload_n 0, 1) := by decide +kernel
theorem dX7_add_1 : decode cX7_add 1 = .ok (.getfield 15, 3) := by decide +kernel
theorem dX7_add_4 : decode cX7_add 4 = .ok (.aload_n 0, 1) := by decide +kernel
theorem dX7_add_5 : decode cX7_add 5 = .ok (.getfield 48, 3) := by decide +kernel
theorem dX7_add_8 : decode cX7_add 8 = .ok (.iload_n 1, 1) := by decide +kernel
theorem dX7_add_9 : decode cX7_add 9 = .ok (.iastore, 1) := by decide +kernel
theorem dX7_add_10 : decode cX7_add 10 = .ok (.aload_n 0, 1) := by decide +kernel
theorem dX7_add_11 : decode cX7_add 11 = .ok (.getfield 18, 3) := by decide +kernel
theorem dX7_add_14 : decode cX7_add 14 = .ok (.aload_n 0, 1) := by decide +kernel
theorem dX7_add_15 : decode cX7_add 15 = .ok (.getfield 48, 3) := by decide +kernel
theorem dX7_add_18 : decode cX7_add 18 = .ok (.iload_n 2, 1) := by decide +kernel
theorem dX7_add_19 : decode cX7_add 19 = .ok (.iastore, 1) := by decide +kernel
theorem dX7_add_20 : decode cX7_add 20 = .ok (.aload_n 0, 1) := by decide +kernel
theorem dX7_add_21 : decode cX7_add 21 = .ok (.getfield 21, 3) := by decide +kernel
theorem dX7_add_24 : decode cX7_add 24 = .ok (.aload_n 0, 1) := by decide +kernel
theorem dX7_add_25 : decode cX7_add 25 = .ok (.getfield 48, 3) := by decide +kernel
theorem dX7_add_28 : decode cX7_add 28 = .ok (.iload_n 3, 1) := by decide +kernel
theorem dX7_add_29 : decode cX7_add 29 = .ok (.iastore, 1) := by decide +kernel
theorem dX7_add_30 : decode cX7_add 30 = .ok (.aload_n 0, 1) := by decide +kernel
theorem dX7_add_31 : decode cX7_add 31 = .ok (.dup, 1) := by decide +kernel
theorem dX7_add_32 : decode cX7_add 32 = .ok (.getfield 48, 3) := by decide +kernel
theorem dX7_add_35 : decode cX7_add 35 = .ok (.iconst 1, 1) := by decide +kernel
theorem dX7_add_36 : decode cX7_add 36 = .ok (.iadd, 1) := by decide +kernel
theorem dX7_add_37 : decode cX7_add 37 = .ok (.putfield 48, 3) := by decide +kernel
theorem dX7_add_40 : decode cX7_add 40 = .ok (.return_, 1) := by decide +kernel
theorem dX7_cutWord_0 : decode cX7_cutWord 0 = .ok (.aload_n 0, 1) := by decide +kernel
theorem dX7_cutWord_1 : decode cX7_cutWord 1 = .ok (.getfield 45, 3) := by decide +kernel
theorem dX7_cutWord_4 : decode cX7_cutWord 4 = .ok (.istore_n 1, 1) := by decide +kernel
theorem dX7_cutWord_5 : decode cX7_cutWord 5 = .ok (.iconst 0, 1) := by decide +kernel
theorem dX7_cutWord_6 : decode cX7_cutWord 6 = .ok (.istore_n 2, 1) := by decide +kernel
theorem dX7_cutWord_7 : decode cX7_cutWord 7 = .ok (.aload_n 0, 1) := by decide +kernel
theorem dX7_cutWord_8 : decode cX7_cutWord 8 = .ok (.getfield 45, 3) := by decide +kernel
theorem dX7_cutWord_11 : decode cX7_cutWord 11 = .ok (.aload_n 0, 1) := by decide +kernel
theorem dX7_cutWord_12 : decode cX7_cutWord 12 = .ok (.getfield 41, 3) := by decide +kernel
theorem dX7_cutWord_15 : decode cX7_cutWord 15 = .ok (.if_icmp .ge 74, 3) := by decide +kernel
theorem dX7_cutWord_18 : decode cX7_cutWord 18 = .ok (.aload_n 0, 1) := by decide +kernel
theorem dX7_cutWord_19 : decode cX7_cutWord 19 = .ok (.getfield 24, 3) := by decide +kernel
theorem dX7_cutWord_22 : decode cX7_cutWord 22 = .ok (.aload_n 0, 1) := by decide +kernel
theorem dX7_cutWord_23 : decode cX7_cutWord 23 = .ok (.getfield 45, 3) := by decide +kernel
theorem dX7_cutWord_26 : decode cX7_cutWord 26 = .ok (.iaload, 1) := by decide +kernel
theorem dX7_cutWord_27 : decode cX7_cutWord 27 = .ok (.bipush 97, 2) := by decide +kernel
theorem dX7_cutWord_29 : decode cX7_cutWord 29 = .ok (.if_icmp .lt 60, 3) := by decide +kernel
theorem dX7_cutWord_32 : decode cX7_cutWord 32 = .ok (.aload_n 0, 1) := by decide +kernel
theorem dX7_cutWord_33 : decode cX7_cutWord 33 = .ok (.getfield 24, 3) := by decide +kernel
theorem dX7_cutWord_36 : decode cX7_cutWord 36 = .ok (.aload_n 0, 1) := by decide +kernel
theorem dX7_cutWord_37 : decode cX7_cutWord 37 = .ok (.getfield 45, 3) := by decide +kernel
theorem dX7_cutWord_40 : decode cX7_cutWord 40 = .ok (.iaload, 1) := by decide +kernel
theorem dX7_cutWord_41 : decode cX7_cutWord 41 = .ok (.bipush 122, 2) := by decide +kernel
theorem dX7_cutWord_43 : decode cX7_cutWord 43 = .ok (.if_icmp .gt 46, 3) := by decide +kernel
theorem dX7_cutWord_46 : decode cX7_cutWord 46 = .ok (.aload_n 0, 1) := by decide +kernel
theorem dX7_cutWord_47 : decode cX7_cutWord 47 = .ok (.getfield 45, 3) := by decide +kernel
theorem dX7_cutWord_50 : decode cX7_cutWord 50 = .ok (.iload_n 1, 1) := by decide +kernel
theorem dX7_cutWord_51 : decode cX7_cutWord 51 = .ok (.isub, 1) := by decide +kernel
theorem dX7_cutWord_52 : decode cX7_cutWord 52 = .ok (.bipush 6, 2) := by decide +kernel
theorem dX7_cutWord_54 : decode cX7_cutWord 54 = .ok (.if_icmp .ge 22, 3) := by decide +kernel
theorem dX7_cutWord_57 : decode cX7_cutWord 57 = .ok (.iload_n 2, 1) := by decide +kernel
theorem dX7_cutWord_58 : decode cX7_cutWord 58 = .ok (.iconst 5, 1) := by decide +kernel
theorem dX7_cutWord_59 : decode cX7_cutWord 59 = .ok (.ishl, 1) := by decide +kernel
theorem dX7_cutWord_60 : decode cX7_cutWord 60 = .ok (.aload_n 0, 1) := by decide +kernel
theorem dX7_cutWord_61 : decode cX7_cutWord 61 = .ok (.getfield 24, 3) := by decide +kernel
theorem dX7_cutWord_64 : decode cX7_cutWord 64 = .ok (.aload_n 0, 1) := by decide +kernel
theorem dX7_cutWord_65 : decode cX7_cutWord 65 = .ok (.getfield 45, 3) := by decide +kernel
theorem dX7_cutWord_68 : decode cX7_cutWord 68 = .ok (.iaload, 1) := by decide +kernel
theorem dX7_cutWord_69 : decode cX7_cutWord 69 = .ok (.bipush 97, 2) := by decide +kernel
theorem dX7_cutWord_71 : decode cX7_cutWord 71 = .ok (.isub, 1) := by decide +kernel
theorem dX7_cutWord_72 : decode cX7_cutWord 72 = .ok (.iconst 1, 1) := by decide +kernel
theorem dX7_cutWord_73 : decode cX7_cutWord 73 = .ok (.iadd, 1) := by decide +kernel
theorem dX7_cutWord_74 : decode cX7_cutWord 74 = .ok (.ior, 1) := by decide +kernel
theorem dX7_cutWord_75 : decode cX7_cutWord 75 = .ok (.istore_n 2, 1) := by decide +kernel
theorem dX7_cutWord_76 : decode cX7_cutWord 76 = .ok (.aload_n 0, 1) := by decide +kernel
theorem dX7_cutWord_77 : decode cX7_cutWord 77 = .ok (.dup, 1) := by decide +kernel
theorem dX7_cutWord_78 : decode cX7_cutWord 78 = .ok (.getfield 45, 3) := by decide +kernel
theorem dX7_cutWord_81 : decode cX7_cutWord 81 = .ok (.iconst 1, 1) := by decide +kernel
theorem dX7_cutWord_82 : decode cX7_cutWord 82 = .ok (.iadd, 1) := by decide +kernel
theorem dX7_cutWord_83 : decode cX7_cutWord 83 = .ok (.putfield 45, 3) := by decide +kernel
theorem dX7_cutWord_86 : decode cX7_cutWord 86 = .ok (.goto (-79), 3) := by decide +kernel
theorem dX7_cutWord_89 : decode cX7_cutWord 89 = .ok (.aload_n 0, 1) := by decide +kernel
theorem dX7_cutWord_90 : decode cX7_cutWord 90 = .ok (.getfield 45, 3) := by decide +kernel
theorem dX7_cutWord_93 : decode cX7_cutWord 93 = .ok (.iload_n 1, 1) := by decide +kernel
theorem dX7_cutWord_94 : decode cX7_cutWord 94 = .ok (.isub, 1) := by decide +kernel
theorem dX7_cutWord_95 : decode cX7_cutWord 95 = .ok (.bipush 6, 2) := by decide +kernel
theorem dX7_cutWord_97 : decode cX7_cutWord 97 = .ok (.if_icmp .le 11, 3) := by decide +kernel
theorem dX7_cutWord_100 : decode cX7_cutWord 100 = .ok (.aload_n 0, 1) := by decide +kernel
theorem dX7_cutWord_101 : decode cX7_cutWord 101 = .ok (.iconst 1, 1) := by decide +kernel
theorem dX7_cutWord_102 : decode cX7_cutWord 102 = .ok (.iload_n 1, 1) := by decide +kernel
theorem dX7_cutWord_103 : decode cX7_cutWord 103 = .ok (.iconst 0, 1) := by decide +kernel
theorem dX7_cutWord_104 : decode cX7_cutWord 104 = .ok (.invokevirtual 61, 3) := by decide +kernel
theorem dX7_cutWord_107 : decode cX7_cutWord 107 = .ok (.return_, 1) := by decide +kernel
theorem dX7_cutWord_108 : decode cX7_cutWord 108 = .ok (.iload_n 2, 1) := by decide +kernel
theorem dX7_cutWord_109 : decode cX7_cutWord 109 = .ok (.iconst 5, 1) := by decide +kernel
theorem dX7_cutWord_110 : decode cX7_cutWord 110 = .ok (.bipush 6, 2) := by decide +kernel
theorem dX7_cutWord_112 : decode cX7_cutWord 112 = .ok (.aload_n 0, 1) := by decide +kernel
theorem dX7_cutWord_113 : decode cX7_cutWord 113 = .ok (.getfield 45, 3) := by decide +kernel
theorem dX7_cutWord_116 : decode cX7_cutWord 116 = .ok (.iload_n 1, 1) := by decide +kernel
theorem dX7_cutWord_117 : decode cX7_cutWord 117 = .ok (.isub, 1) := by decide +kernel
theorem dX7_cutWord_118 : decode cX7_cutWord 118 = .ok (.isub, 1) := by decide +kernel
theorem dX7_cutWord_119 : decode cX7_cutWord 119 = .ok (.imul, 1) := by decide +kernel
theorem dX7_cutWord_120 : decode cX7_cutWord 120 = .ok (.ishl, 1) := by decide +kernel
theorem dX7_cutWord_121 : decode cX7_cutWord 121 = .ok (.istore_n 2, 1) := by decide +kernel
theorem dX7_cutWord_122 : decode cX7_cutWord 122 = .ok (.aload_n 0, 1) := by decide +kernel
theorem dX7_cutWord_123 : decode cX7_cutWord 123 = .ok (.iload_n 2, 1) := by decide +kernel
theorem dX7_cutWord_124 : decode cX7_cutWord 124 = .ok (.invokevirtual 71, 3) := by decide +kernel
theorem dX7_cutWord_127 : decode cX7_cutWord 127 = .ok (.istore_n 3, 1) := by decide +kernel
theorem dX7_cutWord_128 : decode cX7_cutWord 128 = .ok (.iload_n 3, 1) := by decide +kernel
theorem dX7_cutWord_129 : decode cX7_cutWord 129 = .ok (.iconst (-1), 1) := by decide +kernel
theorem dX7_cutWord_130 : decode cX7_cutWord 130 = .ok (.if_icmp .eq 13, 3) := by decide +kernel
theorem dX7_cutWord_133 : decode cX7_cutWord 133 = .ok (.aload_n 0, 1) := by decide +kernel
theorem dX7_cutWord_134 : decode cX7_cutWord 134 = .ok (.iconst 3, 1) := by decide +kernel
theorem dX7_cutWord_135 : decode cX7_cutWord 135 = .ok (.iload_n 1, 1) := by decide +kernel
theorem dX7_cutWord_136 : decode cX7_cutWord 136 = .ok (.iload_n 3, 1) := by decide +kernel
theorem dX7_cutWord_137 : decode cX7_cutWord 137 = .ok (.invokevirtual 61, 3) := by decide +kernel
theorem dX7_cutWord_140 : decode cX7_cutWord 140 = .ok (.goto 10, 3) := by decide +kernel
theorem dX7_cutWord_143 : decode cX7_cutWord 143 = .ok (.aload_n 0, 1) := by decide +kernel
theorem dX7_cutWord_144 : decode cX7_cutWord 144 = .ok (.iconst 2, 1) := by decide +kernel
theorem dX7_cutWord_145 : decode cX7_cutWord 145 = .ok (.iload_n 1, 1) := by decide +kernel
theorem dX7_cutWord_146 : decode cX7_cutWord 146 = .ok (.iload_n 2, 1) := by decide +kernel
theorem dX7_cutWord_147 : decode cX7_cutWord 147 = .ok (.invokevirtual 61, 3) := by decide +kernel
theorem dX7_cutWord_150 : decode cX7_cutWord 150 = .ok (.return_, 1) := by decide +kernel
theorem dX7_wordOf_0 : decode cX7_wordOf 0 = .ok (.iconst 0, 1) := by decide +kernel
theorem dX7_wordOf_1 : decode cX7_wordOf 1 = .ok (.istore_n 2, 1) := by decide +kernel
theorem dX7_wordOf_2 : decode cX7_wordOf 2 = .ok (.iload_n 2, 1) := by decide +kernel
theorem dX7_wordOf_3 : decode cX7_wordOf 3 = .ok (.bipush 21, 2) := by decide +kernel
theorem dX7_wordOf_5 : decode cX7_wordOf 5 = .ok (.if_icmp .ge 21, 3) := by decide +kernel
theorem dX7_wordOf_8 : decode cX7_wordOf 8 = .ok (.aload_n 0, 1) := by decide +kernel
theorem dX7_wordOf_9 : decode cX7_wordOf 9 = .ok (.getfield 11, 3) := by decide +kernel
theorem dX7_wordOf_12 : decode cX7_wordOf 12 = .ok (.iload_n 2, 1) := by decide +kernel
theorem dX7_wordOf_13 : decode cX7_wordOf 13 = .ok (.iaload, 1) := by decide +kernel
theorem dX7_wordOf_14 : decode cX7_wordOf 14 = .ok (.iload_n 1, 1) := by decide +kernel
theorem dX7_wordOf_15 : decode cX7_wordOf 15 = .ok (.if_icmp .ne 5, 3) := by decide +kernel
theorem dX7_wordOf_18 : decode cX7_wordOf 18 = .ok (.iload_n 2, 1) := by decide +kernel
theorem dX7_wordOf_19 : decode cX7_wordOf 19 = .ok (.ireturn, 1) := by decide +kernel
theorem dX7_wordOf_20 : decode cX7_wordOf 20 = .ok (.iinc 2 1, 3) := by decide +kernel
theorem dX7_wordOf_23 : decode cX7_wordOf 23 = .ok (.goto (-21), 3) := by decide +kernel
theorem dX7_wordOf_26 : decode cX7_wordOf 26 = .ok (.iconst (-1), 1) := by decide +kernel
theorem dX7_wordOf_27 : decode cX7_wordOf 27 = .ok (.ireturn, 1) := by decide +kernel
theorem dX7_cutNumber_0 : decode cX7_cutNumber 0 = .ok (.aload_n 0, 1) := by decide +kernel
theorem dX7_cutNumber_1 : decode cX7_cutNumber 1 = .ok (.getfield 45, 3) := by decide +kernel
theorem dX7_cutNumber_4 : decode cX7_cutNumber 4 = .ok (.istore_n 1, 1) := by decide +kernel
theorem dX7_cutNumber_5 : decode cX7_cutNumber 5 = .ok (.iconst 0, 1) := by decide +kernel
theorem dX7_cutNumber_6 : decode cX7_cutNumber 6 = .ok (.istore_n 2, 1) := by decide +kernel
theorem dX7_cutNumber_7 : decode cX7_cutNumber 7 = .ok (.aload_n 0, 1) := by decide +kernel
theorem dX7_cutNumber_8 : decode cX7_cutNumber 8 = .ok (.getfield 45, 3) := by decide +kernel
theorem dX7_cutNumber_11 : decode cX7_cutNumber 11 = .ok (.aload_n 0, 1) := by decide +kernel
theorem dX7_cutNumber_12 : decode cX7_cutNumber 12 = .ok (.getfield 41, 3) := by decide +kernel
theorem dX7_cutNumber_15 : decode cX7_cutNumber 15 = .ok (.if_icmp .ge 67, 3) := by decide +kernel
theorem dX7_cutNumber_18 : decode cX7_cutNumber 18 = .ok (.aload_n 0, 1) := by decide +kernel
theorem dX7_cutNumber_19 : decode cX7_cutNumber 19 = .ok (.getfield 24, 3) := by decide +kernel
theorem dX7_cutNumber_22 : decode cX7_cutNumber 22 = .ok (.aload_n 0, 1) := by decide +kernel
theorem dX7_cutNumber_23 : decode cX7_cutNumber 23 = .ok (.getfield 45, 3) := by decide +kernel
theorem dX7_cutNumber_26 : decode cX7_cutNumber 26 = .ok (.iaload, 1) := by decide +kernel
theorem dX7_cutNumber_27 : decode cX7_cutNumber 27 = .ok (.bipush 48, 2) := by decide +kernel
theorem dX7_cutNumber_29 : decode cX7_cutNumber 29 = .ok (.if_icmp .lt 53, 3) := by decide +kernel
theorem dX7_cutNumber_32 : decode cX7_cutNumber 32 = .ok (.aload_n 0, 1) := by decide +kernel
theorem dX7_cutNumber_33 : decode cX7_cutNumber 33 = .ok (.getfield 24, 3) := by decide +kernel
theorem dX7_cutNumber_36 : decode cX7_cutNumber 36 = .ok (.aload_n 0, 1) := by decide +kernel
theorem dX7_cutNumber_37 : decode cX7_cutNumber 37 = .ok (.getfield 45, 3) := by decide +kernel
theorem dX7_cutNumber_40 : decode cX7_cutNumber 40 = .ok (.iaload, 1) := by decide +kernel
theorem dX7_cutNumber_41 : decode cX7_cutNumber 41 = .ok (.bipush 57, 2) := by decide +kernel
theorem dX7_cutNumber_43 : decode cX7_cutNumber 43 = .ok (.if_icmp .gt 39, 3) := by decide +kernel
theorem dX7_cutNumber_46 : decode cX7_cutNumber 46 = .ok (.ldc 75, 2) := by decide +kernel
theorem dX7_cutNumber_48 : decode cX7_cutNumber 48 = .ok (.iload_n 2, 1) := by decide +kernel
theorem dX7_cutNumber_49 : decode cX7_cutNumber 49 = .ok (.bipush 10, 2) := by decide +kernel
theorem dX7_cutNumber_51 : decode cX7_cutNumber 51 = .ok (.imul, 1) := by decide +kernel
theorem dX7_cutNumber_52 : decode cX7_cutNumber 52 = .ok (.aload_n 0, 1) := by decide +kernel
theorem dX7_cutNumber_53 : decode cX7_cutNumber 53 = .ok (.getfield 24, 3) := by decide +kernel
theorem dX7_cutNumber_56 : decode cX7_cutNumber 56 = .ok (.aload_n 0, 1) := by decide +kernel
theorem dX7_cutNumber_57 : decode cX7_cutNumber 57 = .ok (.getfield 45, 3) := by decide +kernel
theorem dX7_cutNumber_60 : decode cX7_cutNumber 60 = .ok (.iaload, 1) := by decide +kernel
theorem dX7_cutNumber_61 : decode cX7_cutNumber 61 = .ok (.iadd, 1) := by decide +kernel
theorem dX7_cutNumber_62 : decode cX7_cutNumber 62 = .ok (.bipush 48, 2) := by decide +kernel
theorem dX7_cutNumber_64 : decode cX7_cutNumber 64 = .ok (.isub, 1) := by decide +kernel
theorem dX7_cutNumber_65 : decode cX7_cutNumber 65 = .ok (.invokestatic 35, 3) := by decide +kernel
theorem dX7_cutNumber_68 : decode cX7_cutNumber 68 = .ok (.istore_n 2, 1) := by decide +kernel
theorem dX7_cutNumber_69 : decode cX7_cutNumber 69 = .ok (.aload_n 0, 1) := by decide +kernel
theorem dX7_cutNumber_70 : decode cX7_cutNumber 70 = .ok (.dup, 1) := by decide +kernel
theorem dX7_cutNumber_71 : decode cX7_cutNumber 71 = .ok (.getfield 45, 3) := by decide +kernel
theorem dX7_cutNumber_74 : decode cX7_cutNumber 74 = .ok (.iconst 1, 1) := by decide +kernel
theorem dX7_cutNumber_75 : decode cX7_cutNumber 75 = .ok (.iadd, 1) := by decide +kernel
theorem dX7_cutNumber_76 : decode cX7_cutNumber 76 = .ok (.putfield 45, 3) := by decide +kernel
theorem dX7_cutNumber_79 : decode cX7_cutNumber 79 = .ok (.goto (-72), 3) := by decide +kernel
theorem dX7_cutNumber_82 : decode cX7_cutNumber 82 = .ok (.aload_n 0, 1) := by decide +kernel
theorem dX7_cutNumber_83 : decode cX7_cutNumber 83 = .ok (.iconst 4, 1) := by decide +kernel
theorem dX7_cutNumber_84 : decode cX7_cutNumber 84 = .ok (.iload_n 1, 1) := by decide +kernel
theorem dX7_cutNumber_85 : decode cX7_cutNumber 85 = .ok (.iload_n 2, 1) := by decide +kernel
theorem dX7_cutNumber_86 : decode cX7_cutNumber 86 = .ok (.invokevirtual 61, 3) := by decide +kernel
theorem dX7_cutNumber_89 : decode cX7_cutNumber 89 = .ok (.return_, 1) := by decide +kernel
theorem dX7_cutSign_0 : decode cX7_cutSign 0 = .ok (.aload_n 0, 1) := by decide +kernel
theorem dX7_cutSign_1 : decode cX7_cutSign 1 = .ok (.getfield 45, 3) := by decide +kernel
theorem dX7_cutSign_4 : decode cX7_cutSign 4 = .ok (.istore_n 2, 1) := by decide +kernel
theorem dX7_cutSign_5 : decode cX7_cutSign 5 = .ok (.aload_n 0, 1) := by decide +kernel
theorem dX7_cutSign_6 : decode cX7_cutSign 6 = .ok (.getfield 45, 3) := by decide +kernel
theorem dX7_cutSign_9 : decode cX7_cutSign 9 = .ok (.iconst 1, 1) := by decide +kernel
theorem dX7_cutSign_10 : decode cX7_cutSign 10 = .ok (.iadd, 1) := by decide +kernel
theorem dX7_cutSign_11 : decode cX7_cutSign 11 = .ok (.aload_n 0, 1) := by decide +kernel
theorem dX7_cutSign_12 : decode cX7_cutSign 12 = .ok (.getfield 41, 3) := by decide +kernel
theorem dX7_cutSign_15 : decode cX7_cutSign 15 = .ok (.if_icmp .ge 17, 3) := by decide +kernel
theorem dX7_cutSign_18 : decode cX7_cutSign 18 = .ok (.aload_n 0, 1) := by decide +kernel
theorem dX7_cutSign_19 : decode cX7_cutSign 19 = .ok (.getfield 24, 3) := by decide +kernel
theorem dX7_cutSign_22 : decode cX7_cutSign 22 = .ok (.aload_n 0, 1) := by decide +kernel
theorem dX7_cutSign_23 : decode cX7_cutSign 23 = .ok (.getfield 45, 3) := by decide +kernel
theorem dX7_cutSign_26 : decode cX7_cutSign 26 = .ok (.iconst 1, 1) := by decide +kernel
theorem dX7_cutSign_27 : decode cX7_cutSign 27 = .ok (.iadd, 1) := by decide +kernel
theorem dX7_cutSign_28 : decode cX7_cutSign 28 = .ok (.iaload, 1) := by decide +kernel
theorem dX7_cutSign_29 : decode cX7_cutSign 29 = .ok (.goto 4, 3) := by decide +kernel
theorem dX7_cutSign_32 : decode cX7_cutSign 32 = .ok (.iconst 0, 1) := by decide +kernel
theorem dX7_cutSign_33 : decode cX7_cutSign 33 = .ok (.istore_n 3, 1) := by decide +kernel
theorem dX7_cutSign_34 : decode cX7_cutSign 34 = .ok (.iload_n 1, 1) := by decide +kernel
theorem dX7_cutSign_35 : decode cX7_cutSign 35 = .ok (.iload_n 3, 1) := by decide +kernel
theorem dX7_cutSign_36 : decode cX7_cutSign 36 = .ok (.invokestatic 76, 3) := by decide +kernel
theorem dX7_cutSign_39 : decode cX7_cutSign 39 = .ok (.istore 4, 2) := by decide +kernel
theorem dX7_cutSign_41 : decode cX7_cutSign 41 = .ok (.iload 4, 2) := by decide +kernel
theorem dX7_cutSign_43 : decode cX7_cutSign 43 = .ok (.iconst 4, 1) := by decide +kernel
theorem dX7_cutSign_44 : decode cX7_cutSign 44 = .ok (.if_icmp .eq 17, 3) := by decide +kernel
theorem dX7_cutSign_47 : decode cX7_cutSign 47 = .ok (.iload 4, 2) := by decide +kernel
theorem dX7_cutSign_49 : decode cX7_cutSign 49 = .ok (.bipush 6, 2) := by decide +kernel
theorem dX7_cutSign_51 : decode cX7_cutSign 51 = .ok (.if_icmp .eq 10, 3) := by decide +kernel
theorem dX7_cutSign_54 : decode cX7_cutSign 54 = .ok (.iload 4, 2) := by decide +kernel
theorem dX7_cutSign_56 : decode cX7_cutSign 56 = .ok (.bipush 7, 2) := by decide +kernel
theorem dX7_cutSign_58 : decode cX7_cutSign 58 = .ok (.if_icmp .ne 7, 3) := by decide +kernel
theorem dX7_cutSign_61 : decode cX7_cutSign 61 = .ok (.iconst 1, 1) := by decide +kernel
theorem dX7_cutSign_62 : decode cX7_cutSign 62 = .ok (.goto 4, 3) := by decide +kernel
theorem dX7_cutSign_65 : decode cX7_cutSign 65 = .ok (.iconst 0, 1) := by decide +kernel
theorem dX7_cutSign_66 : decode cX7_cutSign 66 = .ok (.istore 5, 2) := by decide +kernel
theorem dX7_cutSign_68 : decode cX7_cutSign 68 = .ok (.aload_n 0, 1) := by decide +kernel
theorem dX7_cutSign_69 : decode cX7_cutSign 69 = .ok (.dup, 1) := by decide +kernel
theorem dX7_cutSign_70 : decode cX7_cutSign 70 = .ok (.getfield 45, 3) := by decide +kernel
theorem dX7_cutSign_73 : decode cX7_cutSign 73 = .ok (.iload 5, 2) := by decide +kernel
theorem dX7_cutSign_75 : decode cX7_cutSign 75 = .ok (.ifCond .eq 7, 3) := by decide +kernel
theorem dX7_cutSign_78 : decode cX7_cutSign 78 = .ok (.iconst 2, 1) := by decide +kernel
theorem dX7_cutSign_79 : decode cX7_cutSign 79 = .ok (.goto 4, 3) := by decide +kernel
theorem dX7_cutSign_82 : decode cX7_cutSign 82 = .ok (.iconst 1, 1) := by decide +kernel
theorem dX7_cutSign_83 : decode cX7_cutSign 83 = .ok (.iadd, 1) := by decide +kernel
theorem dX7_cutSign_84 : decode cX7_cutSign 84 = .ok (.putfield 45, 3) := by decide +kernel
theorem dX7_cutSign_87 : decode cX7_cutSign 87 = .ok (.aload_n 0, 1) := by decide +kernel
theorem dX7_cutSign_88 : decode cX7_cutSign 88 = .ok (.iload 4, 2) := by decide +kernel
theorem dX7_cutSign_90 : decode cX7_cutSign 90 = .ok (.iconst (-1), 1) := by decide +kernel
theorem dX7_cutSign_91 : decode cX7_cutSign 91 = .ok (.if_icmp .ne 7, 3) := by decide +kernel
theorem dX7_cutSign_94 : decode cX7_cutSign 94 = .ok (.iconst 1, 1) := by decide +kernel
theorem dX7_cutSign_95 : decode cX7_cutSign 95 = .ok (.goto 4, 3) := by decide +kernel
theorem dX7_cutSign_98 : decode cX7_cutSign 98 = .ok (.iconst 5, 1) := by decide +kernel
theorem dX7_cutSign_99 : decode cX7_cutSign 99 = .ok (.iload_n 2, 1) := by decide +kernel
theorem dX7_cutSign_100 : decode cX7_cutSign 100 = .ok (.iload 4, 2) := by decide +kernel
theorem dX7_cutSign_102 : decode cX7_cutSign 102 = .ok (.invokevirtual 61, 3) := by decide +kernel
theorem dX7_cutSign_105 : decode cX7_cutSign 105 = .ok (.return_, 1) := by decide +kernel
theorem dX7_signOf_0 : decode cX7_signOf 0 = .ok (.iload_n 0, 1) := by decide +kernel
theorem dX7_signOf_1 : decode cX7_signOf 1 = .ok (.tableswitch 167 40 62 #[158, 161, 152, 146, 167, 149, 167, 155, 167, 167, 167, 167, 167, 167, 167, 167, 167, 167, 167, 164, 107, 144, 130], 107) := by decide +kernel
theorem dX7_signOf_108 : decode cX7_signOf 108 = .ok (.iload_n 1, 1) := by decide +kernel
theorem dX7_signOf_109 : decode cX7_signOf 109 = .ok (.bipush 61, 2) := by decide +kernel
theorem dX7_signOf_111 : decode cX7_signOf 111 = .ok (.if_icmp .ne 7, 3) := by decide +kernel
theorem dX7_signOf_114 : decode cX7_signOf 114 = .ok (.iconst 4, 1) := by decide +kernel
theorem dX7_signOf_115 : decode cX7_signOf 115 = .ok (.goto 15, 3) := by decide +kernel
theorem dX7_signOf_118 : decode cX7_signOf 118 = .ok (.iload_n 1, 1) := by decide +kernel
theorem dX7_signOf_119 : decode cX7_signOf 119 = .ok (.bipush 62, 2) := by decide +kernel
theorem dX7_signOf_121 : decode cX7_signOf 121 = .ok (.if_icmp .ne 8, 3) := by decide +kernel
theorem dX7_signOf_124 : decode cX7_signOf 124 = .ok (.bipush 6, 2) := by decide +kernel
theorem dX7_signOf_126 : decode cX7_signOf 126 = .ok (.goto 4, 3) := by decide +kernel
theorem dX7_signOf_129 : decode cX7_signOf 129 = .ok (.iconst 3, 1) := by decide +kernel
theorem dX7_signOf_130 : decode cX7_signOf 130 = .ok (.ireturn, 1) := by decide +kernel
theorem dX7_signOf_131 : decode cX7_signOf 131 = .ok (.iload_n 1, 1) := by decide +kernel
theorem dX7_signOf_132 : decode cX7_signOf 132 = .ok (.bipush 61, 2) := by decide +kernel
theorem dX7_signOf_134 : decode cX7_signOf 134 = .ok (.if_icmp .ne 8, 3) := by decide +kernel
theorem dX7_signOf_137 : decode cX7_signOf 137 = .ok (.bipush 7, 2) := by decide +kernel
theorem dX7_signOf_139 : decode cX7_signOf 139 = .ok (.goto 5, 3) := by decide +kernel
theorem dX7_signOf_142 : decode cX7_signOf 142 = .ok (.bipush 8, 2) := by decide +kernel
theorem dX7_signOf_144 : decode cX7_signOf 144 = .ok (.ireturn, 1) := by decide +kernel
theorem dX7_signOf_145 : decode cX7_signOf 145 = .ok (.iconst 5, 1) := by decide +kernel
theorem dX7_signOf_146 : decode cX7_signOf 146 = .ok (.ireturn, 1) := by decide +kernel
theorem dX7_signOf_147 : decode cX7_signOf 147 = .ok (.bipush 9, 2) := by decide +kernel
theorem dX7_signOf_149 : decode cX7_signOf 149 = .ok (.ireturn, 1) := by decide +kernel
theorem dX7_signOf_150 : decode cX7_signOf 150 = .ok (.bipush 10, 2) := by decide +kernel
theorem dX7_signOf_152 : decode cX7_signOf 152 = .ok (.ireturn, 1) := by decide +kernel
theorem dX7_signOf_153 : decode cX7_signOf 153 = .ok (.bipush 11, 2) := by decide +kernel
theorem dX7_signOf_155 : decode cX7_signOf 155 = .ok (.ireturn, 1) := by decide +kernel
theorem dX7_signOf_156 : decode cX7_signOf 156 = .ok (.bipush 12, 2) := by decide +kernel
theorem dX7_signOf_158 : decode cX7_signOf 158 = .ok (.ireturn, 1) := by decide +kernel
theorem dX7_signOf_159 : decode cX7_signOf 159 = .ok (.bipush 13, 2) := by decide +kernel
theorem dX7_signOf_161 : decode cX7_signOf 161 = .ok (.ireturn, 1) := by decide +kernel
theorem dX7_signOf_162 : decode cX7_signOf 162 = .ok (.bipush 14, 2) := by decide +kernel
theorem dX7_signOf_164 : decode cX7_signOf 164 = .ok (.ireturn, 1) := by decide +kernel
theorem dX7_signOf_165 : decode cX7_signOf 165 = .ok (.bipush 15, 2) := by decide +kernel
theorem dX7_signOf_167 : decode cX7_signOf 167 = .ok (.ireturn, 1) := by decide +kernel
theorem dX7_signOf_168 : decode cX7_signOf 168 = .ok (.iconst (-1), 1) := by decide +kernel
theorem dX7_signOf_169 : decode cX7_signOf 169 = .ok (.ireturn, 1) := by decide +kernel
theorem dX7_isWord_0 : decode cX7_isWord 0 = .ok (.aload_n 0, 1) := by decide +kernel
theorem dX7_isWord_1 : decode cX7_isWord 1 = .ok (.getfield 81, 3) := by decide +kernel
theorem dX7_isWord_4 : decode cX7_isWord 4 = .ok (.iconst 3, 1) := by decide +kernel
theorem dX7_isWord_5 : decode cX7_isWord 5 = .ok (.if_icmp .ne 15, 3) := by decide +kernel
theorem dX7_isWord_8 : decode cX7_isWord 8 = .ok (.aload_n 0, 1) := by decide +kernel
theorem dX7_isWord_9 : decode cX7_isWord 9 = .ok (.getfield 84, 3) := by decide +kernel
theorem dX7_isWord_12 : decode cX7_isWord 12 = .ok (.iload_n 1, 1) := by decide +kernel
theorem dX7_isWord_13 : decode cX7_isWord 13 = .ok (.if_icmp .ne 7, 3) := by decide +kernel
theorem dX7_isWord_16 : decode cX7_isWord 16 = .ok (.iconst 1, 1) := by decide +kernel
theorem dX7_isWord_17 : decode cX7_isWord 17 = .ok (.goto 4, 3) := by decide +kernel
theorem dX7_isWord_20 : decode cX7_isWord 20 = .ok (.iconst 0, 1) := by decide +kernel
theorem dX7_isWord_21 : decode cX7_isWord 21 = .ok (.ireturn, 1) := by decide +kernel
theorem dX7_isSign_0 : decode cX7_isSign 0 = .ok (.aload_n 0, 1) := by decide +kernel
theorem dX7_isSign_1 : decode cX7_isSign 1 = .ok (.getfield 81, 3) := by decide +kernel
theorem dX7_isSign_4 : decode cX7_isSign 4 = .ok (.iconst 5, 1) := by decide +kernel
theorem dX7_isSign_5 : decode cX7_isSign 5 = .ok (.if_icmp .ne 15, 3) := by decide +kernel
theorem dX7_isSign_8 : decode cX7_isSign 8 = .ok (.aload_n 0, 1) := by decide +kernel
theorem dX7_isSign_9 : decode cX7_isSign 9 = .ok (.getfield 84, 3) := by decide +kernel
theorem dX7_isSign_12 : decode cX7_isSign 12 = .ok (.iload_n 1, 1) := by decide +kernel
theorem dX7_isSign_13 : decode cX7_isSign 13 = .ok (.if_icmp .ne 7, 3) := by decide +kernel
theorem dX7_isSign_16 : decode cX7_isSign 16 = .ok (.iconst 1, 1) := by decide +kernel
theorem dX7_isSign_17 : decode cX7_isSign 17 = .ok (.goto 4, 3) := by decide +kernel
theorem dX7_isSign_20 : decode cX7_isSign 20 = .ok (.iconst 0, 1) := by decide +kernel
theorem dX7_isSign_21 : decode cX7_isSign 21 = .ok (.ireturn, 1) := by decide +kernel
theorem dX7_step_0 : decode cX7_step 0 = .ok (.aload_n 0, 1) := by decide +kernel
theorem dX7_step_1 : decode cX7_step 1 = .ok (.getfield 65, 3) := by decide +kernel
theorem dX7_step_4 : decode cX7_step 4 = .ok (.aload_n 0, 1) := by decide +kernel
theorem dX7_step_5 : decode cX7_step 5 = .ok (.getfield 48, 3) := by decide +kernel
theorem dX7_step_8 : decode cX7_step 8 = .ok (.iconst 1, 1) := by decide +kernel
theorem dX7_step_9 : decode cX7_step 9 = .ok (.isub, 1) := by decide +kernel
theorem dX7_step_10 : decode cX7_step 10 = .ok (.if_icmp .ge 13, 3) := by decide +kernel
theorem dX7_step_13 : decode cX7_step 13 = .ok (.aload_n 0, 1) := by decide +kernel
theorem dX7_step_14 : decode cX7_step 14 = .ok (.dup, 1) := by decide +kernel
theorem dX7_step_15 : decode cX7_step 15 = .ok (.getfield 65, 3) := by decide +kernel
theorem dX7_step_18 : decode cX7_step 18 = .ok (.iconst 1, 1) := by decide +kernel
theorem dX7_step_19 : decode cX7_step 19 = .ok (.iadd, 1) := by decide +kernel
theorem dX7_step_20 : decode cX7_step 20 = .ok (.putfield 65, 3) := by decide +kernel
theorem dX7_step_23 : decode cX7_step 23 = .ok (.aload_n 0, 1) := by decide +kernel
theorem dX7_step_24 : decode cX7_step 24 = .ok (.aload_n 0, 1) := by decide +kernel
theorem dX7_step_25 : decode cX7_step 25 = .ok (.getfield 15, 3) := by decide +kernel
theorem dX7_step_28 : decode cX7_step 28 = .ok (.aload_n 0, 1) := by decide +kernel
theorem dX7_step_29 : decode cX7_step 29 = .ok (.getfield 65, 3) := by decide +kernel
theorem dX7_step_32 : decode cX7_step 32 = .ok (.iaload, 1) := by decide +kernel
theorem dX7_step_33 : decode cX7_step 33 = .ok (.putfield 81, 3) := by decide +kernel
theorem dX7_step_36 : decode cX7_step 36 = .ok (.aload_n 0, 1) := by decide +kernel
theorem dX7_step_37 : decode cX7_step 37 = .ok (.aload_n 0, 1) := by decide +kernel
theorem dX7_step_38 : decode cX7_step 38 = .ok (.getfield 18, 3) := by decide +kernel
theorem dX7_step_41 : decode cX7_step 41 = .ok (.aload_n 0, 1) := by decide +kernel
theorem dX7_step_42 : decode cX7_step 42 = .ok (.getfield 65, 3) := by decide +kernel
theorem dX7_step_45 : decode cX7_step 45 = .ok (.iaload, 1) := by decide +kernel
theorem dX7_step_46 : decode cX7_step 46 = .ok (.putfield 87, 3) := by decide +kernel
theorem dX7_step_49 : decode cX7_step 49 = .ok (.aload_n 0, 1) := by decide +kernel
theorem dX7_step_50 : decode cX7_step 50 = .ok (.aload_n 0, 1) := by decide +kernel
theorem dX7_step_51 : decode cX7_step 51 = .ok (.getfield 21, 3) := by decide +kernel
theorem dX7_step_54 : decode cX7_step 54 = .ok (.aload_n 0, 1) := by decide +kernel
theorem dX7_step_55 : decode cX7_step 55 = .ok (.getfield 65, 3) := by decide +kernel
theorem dX7_step_58 : decode cX7_step 58 = .ok (.iaload, 1) := by decide +kernel
theorem dX7_step_59 : decode cX7_step 59 = .ok (.putfield 84, 3) := by decide +kernel
theorem dX7_step_62 : decode cX7_step 62 = .ok (.return_, 1) := by decide +kernel
theorem dX8_init_0 : decode cX8_init 0 = .ok (.aload_n 0, 1) := by decide +kernel
theorem dX8_init_1 : decode cX8_init 1 = .ok (.invokespecial 3, 3) := by decide +kernel
theorem dX8_init_4 : decode cX8_init 4 = .ok (.aload_n 0, 1) := by decide +kernel
theorem dX8_init_5 : decode cX8_init 5 = .ok (.bipush 6, 2) := by decide +kernel
theorem dX8_init_7 : decode cX8_init 7 = .ok (.newarray .int, 2) := by decide +kernel
theorem dX8_init_9 : decode cX8_init 9 = .ok (.putfield 9, 3) := by decide +kernel
theorem dX8_init_12 : decode cX8_init 12 = .ok (.aload_n 0, 1) := by decide +kernel
theorem dX8_init_13 : decode cX8_init 13 = .ok (.bipush 6, 2) := by decide +kernel
theorem dX8_init_15 : decode cX8_init 15 = .ok (.newarray .int, 2) := by decide +kernel
theorem dX8_init_17 : decode cX8_init 17 = .ok (.putfield 15, 3) := by decide +kernel
theorem dX8_init_20 : decode cX8_init 20 = .ok (.aload_n 0, 1) := by decide +kernel
theorem dX8_init_21 : decode cX8_init 21 = .ok (.bipush 6, 2) := by decide +kernel
theorem dX8_init_23 : decode cX8_init 23 = .ok (.newarray .int, 2) := by decide +kernel
theorem dX8_init_25 : decode cX8_init 25 = .ok (.putfield 18, 3) := by decide +kernel
theorem dX8_init_28 : decode cX8_init 28 = .ok (.aload_n 0, 1) := by decide +kernel
theorem dX8_init_29 : decode cX8_init 29 = .ok (.bipush 10, 2) := by decide +kernel
theorem dX8_init_31 : decode cX8_init 31 = .ok (.newarray .int, 2) := by decide +kernel
theorem dX8_init_33 : decode cX8_init 33 = .ok (.putfield 21, 3) := by decide +kernel
theorem dX8_init_36 : decode cX8_init 36 = .ok (.aload_n 0, 1) := by decide +kernel
theorem dX8_init_37 : decode cX8_init 37 = .ok (.bipush 10, 2) := by decide +kernel
theorem dX8_init_39 : decode cX8_init 39 = .ok (.newarray .int, 2) := by decide +kernel
theorem dX8_init_41 : decode cX8_init 41 = .ok (.putfield 24, 3) := by decide +kernel
theorem dX8_init_44 : decode cX8_init 44 = .ok (.aload_n 0, 1) := by decide +kernel
theorem dX8_init_45 : decode cX8_init 45 = .ok (.bipush 10, 2) := by decide +kernel
theorem dX8_init_47 : decode cX8_init 47 = .ok (.newarray .int, 2) := by decide +kernel
theorem dX8_init_49 : decode cX8_init 49 = .ok (.putfield 27, 3) := by decide +kernel
theorem dX8_init_52 : decode cX8_init 52 = .ok (.aload_n 0, 1) := by decide +kernel
theorem dX8_init_53 : decode cX8_init 53 = .ok (.bipush 12, 2) := by decide +kernel
theorem dX8_init_55 : decode cX8_init 55 = .ok (.newarray .int, 2) := by decide +kernel
theorem dX8_init_57 : decode cX8_init 57 = .ok (.putfield 30, 3) := by decide +kernel
theorem dX8_init_60 : decode cX8_init 60 = .ok (.aload_n 0, 1) := by decide +kernel
theorem dX8_init_61 : decode cX8_init 61 = .ok (.bipush 12, 2) := by decide +kernel
theorem dX8_init_63 : decode cX8_init 63 = .ok (.newarray .int, 2) := by decide +kernel
theorem dX8_init_65 : decode cX8_init 65 = .ok (.putfield 33, 3) := by decide +kernel
theorem dX8_init_68 : decode cX8_init 68 = .ok (.aload_n 0, 1) := by decide +kernel
theorem dX8_init_69 : decode cX8_init 69 = .ok (.bipush 12, 2) := by decide +kernel
theorem dX8_init_71 : decode cX8_init 71 = .ok (.newarray .int, 2) := by decide +kernel
theorem dX8_init_73 : decode cX8_init 73 = .ok (.putfield 36, 3) := by decide +kernel
theorem dX8_init_76 : decode cX8_init 76 = .ok (.aload_n 0, 1) := by decide +kernel
theorem dX8_init_77 : decode cX8_init 77 = .ok (.iconst 4, 1) := by decide +kernel
theorem dX8_init_78 : decode cX8_init 78 = .ok (.newarray .int, 2) := by decide +kernel
theorem dX8_init_80 : decode cX8_init 80 = .ok (.putfield 39, 3) := by decide +kernel
theorem dX8_init_83 : decode cX8_init 83 = .ok (.aload_n 0, 1) := by decide +kernel
theorem dX8_init_84 : decode cX8_init 84 = .ok (.iconst 4, 1) := by decide +kernel
theorem dX8_init_85 : decode cX8_init 85 = .ok (.newarray .boolean, 2) := by decide +kernel
theorem dX8_init_87 : decode cX8_init 87 = .ok (.putfield 42, 3) := by decide +kernel
theorem dX8_init_90 : decode cX8_init 90 = .ok (.aload_n 0, 1) := by decide +kernel
theorem dX8_init_91 : decode cX8_init 91 = .ok (.iconst 3, 1) := by decide +kernel
theorem dX8_init_92 : decode cX8_init 92 = .ok (.anewarray 46, 3) := by decide +kernel
theorem dX8_init_95 : decode cX8_init 95 = .ok (.putfield 48, 3) := by decide +kernel
theorem dX8_init_98 : decode cX8_init 98 = .ok (.iconst 0, 1) := by decide +kernel
theorem dX8_init_99 : decode cX8_init 99 = .ok (.istore_n 1, 1) := by decide +kernel
theorem dX8_init_100 : decode cX8_init 100 = .ok (.iload_n 1, 1) := by decide +kernel
theorem dX8_init_101 : decode cX8_init 101 = .ok (.iconst 3, 1) := by decide +kernel
theorem dX8_init_102 : decode cX8_init 102 = .ok (.if_icmp .ge 22, 3) := by decide +kernel
theorem dX8_init_105 : decode cX8_init 105 = .ok (.aload_n 0, 1) := by decide +kernel
theorem dX8_init_106 : decode cX8_init 106 = .ok (.getfield 48, 3) := by decide +kernel
theorem dX8_init_109 : decode cX8_init 109 = .ok (.iload_n 1, 1) := by decide +kernel
theorem dX8_init_110 : decode cX8_init 110 = .ok (.new 46, 3) := by decide +kernel
theorem dX8_init_113 : decode cX8_init 113 = .ok (.dup, 1) := by decide +kernel
theorem dX8_init_114 : decode cX8_init 114 = .ok (.invokespecial 52, 3) := by decide +kernel
theorem dX8_init_117 : decode cX8_init 117 = .ok (.aastore, 1) := by decide +kernel
theorem dX8_init_118 : decode cX8_init 118 = .ok (.iinc 1 1, 3) := by decide +kernel
theorem dX8_init_121 : decode cX8_init 121 = .ok (.goto (-21), 3) := by decide +kernel
theorem dX8_init_124 : decode cX8_init 124 = .ok (.aload_n 0, 1) := by decide +kernel
theorem dX8_init_125 : decode cX8_init 125 = .ok (.invokevirtual 53, 3) := by decide +kernel
theorem dX8_init_128 : decode cX8_init 128 = .ok (.return_, 1) := by decide +kernel
theorem dX8_clear_0 : decode cX8_clear 0 = .ok (.aload_n 0, 1) := by decide +kernel
theorem dX8_clear_1 : decode cX8_clear 1 = .ok (.iconst 0, 1) := by decide +kernel
theorem dX8_clear_2 : decode cX8_clear 2 = .ok (.putfield 56, 3) := by decide +kernel
theorem dX8_clear_5 : decode cX8_clear 5 = .ok (.aload_n 0, 1) := by decide +kernel
theorem dX8_clear_6 : decode cX8_clear 6 = .ok (.iconst 0, 1) := by decide +kernel
theorem dX8_clear_7 : decode cX8_clear 7 = .ok (.putfield 60, 3) := by decide +kernel
theorem dX8_clear_10 : decode cX8_clear 10 = .ok (.aload_n 0, 1) := by decide +kernel
theorem dX8_clear_11 : decode cX8_clear 11 = .ok (.iconst 0, 1) := by decide +kernel
theorem dX8_clear_12 : decode cX8_clear 12 = .ok (.putfield 63, 3) := by decide +kernel
theorem dX8_clear_15 : decode cX8_clear 15 = .ok (.aload_n 0, 1) := by decide +kernel
theorem dX8_clear_16 : decode cX8_clear 16 = .ok (.iconst 0, 1) := by decide +kernel
theorem dX8_clear_17 : decode cX8_clear 17 = .ok (.putfield 66, 3) := by decide +kernel
theorem dX8_clear_20 : decode cX8_clear 20 = .ok (.aload_n 0, 1) := by decide +kernel
theorem dX8_clear_21 : decode cX8_clear 21 = .ok (.iconst 0, 1) := by decide +kernel
theorem dX8_clear_22 : decode cX8_clear 22 = .ok (.putfield 69, 3) := by decide +kernel
theorem dX8_clear_25 : decode cX8_clear 25 = .ok (.iconst 0, 1) := by decide +kernel
theorem dX8_clear_26 : decode cX8_clear 26 = .ok (.istore_n 1, 1) := by decide +kernel
theorem dX8_clear_27 : decode cX8_clear 27 = .ok (.iload_n 1, 1) := by decide +kernel
theorem dX8_clear_28 : decode cX8_clear 28 = .ok (.iconst 4, 1) := by decide +kernel
theorem dX8_clear_29 : decode cX8_clear 29 = .ok (.if_icmp .ge 16, 3) := by decide +kernel
theorem dX8_clear_32 : decode cX8_clear 32 = .ok (.aload_n 0, 1) := by decide +kernel
theorem dX8_clear_33 : decode cX8_clear 33 = .ok (.getfield 42, 3) := by decide +kernel
theorem dX8_clear_36 : decode cX8_clear 36 = .ok (.iload_n 1, 1) := by decide +kernel
theorem dX8_clear_37 : decode cX8_clear 37 = .ok (.iconst 0, 1) := by decide +kernel
theorem dX8_clear_38 : decode cX8_clear 38 = .ok (.bastore, 1) := by decide +kernel
theorem dX8_clear_39 : decode cX8_clear 39 = .ok (.iinc 1 1, 3) := by decide +kernel
theorem dX8_clear_42 : decode cX8_clear 42 = .ok (.goto (-15), 3) := by decide +kernel
theorem dX8_clear_45 : decode cX8_clear 45 = .ok (.aload_n 0, 1) := by decide +kernel
theorem dX8_clear_46 : decode cX8_clear 46 = .ok (.getfield 39, 3) := by decide +kernel
theorem dX8_clear_49 : decode cX8_clear 49 = .ok (.iconst 0, 1) := by decide +kernel
theorem dX8_clear_50 : decode cX8_clear 50 = .ok (.iconst 3, 1) := by decide +kernel
theorem dX8_clear_51 : decode cX8_clear 51 = .ok (.iastore, 1) := by decide +kernel
theorem dX8_clear_52 : decode cX8_clear 52 = .ok (.aload_n 0, 1) := by decide +kernel
theorem dX8_clear_53 : decode cX8_clear 53 = .ok (.getfield 39, 3) := by decide +kernel
theorem dX8_clear_56 : decode cX8_clear 56 = .ok (.iconst 1, 1) := by decide +kernel
theorem dX8_clear_57 : decode cX8_clear 57 = .ok (.iconst 2, 1) := by decide +kernel
theorem dX8_clear_58 : decode cX8_clear 58 = .ok (.iastore, 1) := by decide +kernel
theorem dX8_clear_59 : decode cX8_clear 59 = .ok (.aload_n 0, 1) := by decide +kernel
theorem dX8_clear_60 : decode cX8_clear 60 = .ok (.getfield 39, 3) := by decide +kernel
theorem dX8_clear_63 : decode cX8_clear 63 = .ok (.iconst 2, 1) := by decide +kernel
theorem dX8_clear_64 : decode cX8_clear 64 = .ok (.iconst 0, 1) := by decide +kernel
theorem dX8_clear_65 : decode cX8_clear 65 = .ok (.iastore, 1) := by decide +kernel
theorem dX8_clear_66 : decode cX8_clear 66 = .ok (.aload_n 0, 1) := by decide +kernel
theorem dX8_clear_67 : decode cX8_clear 67 = .ok (.getfield 39, 3) := by decide +kernel
theorem dX8_clear_70 : decode cX8_clear 70 = .ok (.iconst 3, 1) := by decide +kernel
theorem dX8_clear_71 : decode cX8_clear 71 = .ok (.iconst 0, 1) := by decide +kernel
theorem dX8_clear_72 : decode cX8_clear 72 = .ok (.iastore, 1) := by decide +kernel
theorem dX8_clear_73 : decode cX8_clear 73 = .ok (.iconst 0, 1) := by decide +kernel
theorem dX8_clear_74 : decode cX8_clear 74 = .ok (.istore_n 1, 1) := by decide +kernel
theorem dX8_clear_75 : decode cX8_clear 75 = .ok (.iload_n 1, 1) := by decide +kernel
theorem dX8_clear_76 : decode cX8_clear 76 = .ok (.iconst 3, 1) := by decide +kernel
theorem dX8_clear_77 : decode cX8_clear 77 = .ok (.if_icmp .ge 19, 3) := by decide +kernel
theorem dX8_clear_80 : decode cX8_clear 80 = .ok (.aload_n 0, 1) := by decide +kernel
theorem dX8_clear_81 : decode cX8_clear 81 = .ok (.getfield 48, 3) := by decide +kernel
theorem dX8_clear_84 : decode cX8_clear 84 = .ok (.iload_n 1, 1) := by decide +kernel
theorem dX8_clear_85 : decode cX8_clear 85 = .ok (.aaload, 1) := by decide +kernel
theorem dX8_clear_86 : decode cX8_clear 86 = .ok (.iconst 0, 1) := by decide +kernel
theorem dX8_clear_87 : decode cX8_clear 87 = .ok (.putfield 72, 3) := by decide +kernel
theorem dX8_clear_90 : decode cX8_clear 90 = .ok (.iinc 1 1, 3) := by decide +kernel
theorem dX8_clear_93 : decode cX8_clear 93 = .ok (.goto (-18), 3) := by decide +kernel
theorem dX8_clear_96 : decode cX8_clear 96 = .ok (.return_, 1) := by decide +kernel
theorem dX8_addHouse_0 : decode cX8_addHouse 0 = .ok (.aload_n 0, 1) := by decide +kernel
theorem dX8_addHouse_1 : decode cX8_addHouse 1 = .ok (.getfield 9, 3) := by decide +kernel
theorem dX8_addHouse_4 : decode cX8_addHouse 4 = .ok (.aload_n 0, 1) := by decide +kernel
theorem dX8_addHouse_5 : decode cX8_addHouse 5 = .ok (.getfield 63, 3) := by decide +kernel
theorem dX8_addHouse_8 : decode cX8_addHouse 8 = .ok (.iload_n 1, 1) := by decide +kernel
theorem dX8_addHouse_9 : decode cX8_addHouse 9 = .ok (.iastore, 1) := by decide +kernel
theorem dX8_addHouse_10 : decode cX8_addHouse 10 = .ok (.aload_n 0, 1) := by decide +kernel
theorem dX8_addHouse_11 : decode cX8_addHouse 11 = .ok (.getfield 15, 3) := by decide +kernel
theorem dX8_addHouse_14 : decode cX8_addHouse 14 = .ok (.aload_n 0, 1) := by decide +kernel
theorem dX8_addHouse_15 : decode cX8_addHouse 15 = .ok (.getfield 63, 3) := by decide +kernel
theorem dX8_addHouse_18 : decode cX8_addHouse 18 = .ok (.iload_n 2, 1) := by decide +kernel
theorem dX8_addHouse_19 : decode cX8_addHouse 19 = .ok (.iastore, 1) := by decide +kernel
theorem dX8_addHouse_20 : decode cX8_addHouse 20 = .ok (.aload_n 0, 1) := by decide +kernel
theorem dX8_addHouse_21 : decode cX8_addHouse 21 = .ok (.getfield 18, 3) := by decide +kernel
theorem dX8_addHouse_24 : decode cX8_addHouse 24 = .ok (.aload_n 0, 1) := by decide +kernel
theorem dX8_addHouse_25 : decode cX8_addHouse 25 = .ok (.getfield 63, 3) := by decide +kernel
theorem dX8_addHouse_28 : decode cX8_addHouse 28 = .ok (.iload_n 3, 1) := by decide +kernel
theorem dX8_addHouse_29 : decode cX8_addHouse 29 = .ok (.iastore, 1) := by decide +kernel
theorem dX8_addHouse_30 : decode cX8_addHouse 30 = .ok (.aload_n 0, 1) := by decide +kernel
theorem dX8_addHouse_31 : decode cX8_addHouse 31 = .ok (.dup, 1) := by decide +kernel
theorem dX8_addHouse_32 : decode cX8_addHouse 32 = .ok (.getfield 63, 3) := by decide +kernel
theorem dX8_addHouse_35 : decode cX8_addHouse 35 = .ok (.iconst 1, 1) := by decide +kernel
theorem dX8_addHouse_36 : decode cX8_addHouse 36 = .ok (.iadd, 1) := by decide +kernel
theorem dX8_addHouse_37 : decode cX8_addHouse 37 = .ok (.putfield 63, 3) := by decide +kernel
theorem dX8_addHouse_40 : decode cX8_addHouse 40 = .ok (.return_, 1) := by decide +kernel
theorem dX8_addTurn_0 : decode cX8_addTurn 0 = .ok (.aload_n 0, 1) := by decide +kernel
theorem dX8_addTurn_1 : decode cX8_addTurn 1 = .ok (.getfield 21, 3) := by decide +kernel
theorem dX8_addTurn_4 : decode cX8_addTurn 4 = .ok (.aload_n 0, 1) := by decide +kernel
theorem dX8_addTurn_5 : decode cX8_addTurn 5 = .ok (.getfield 66, 3) := by decide +kernel
theorem dX8_addTurn_8 : decode cX8_addTurn 8 = .ok (.iload_n 1, 1) := by decide +kernel
theorem dX8_addTurn_9 : decode cX8_addTurn 9 = .ok (.iastore, 1) := by decide +kernel
theorem dX8_addTurn_10 : decode cX8_addTurn 10 = .ok (.aload_n 0, 1) := by decide +kernel
theorem dX8_addTurn_11 : decode cX8_addTurn 11 = .ok (.getfield 24, 3) := by decide +kernel
theorem dX8_addTurn_14 : decode cX8_addTurn 14 = .ok (.aload_n 0, 1) := by decide +kernel
theorem dX8_addTurn_15 : decode cX8_addTurn 15 = .ok (.getfield 66, 3) := by decide +kernel
theorem dX8_addTurn_18 : decode cX8_addTurn 18 = .ok (.iload_n 2, 1) := by decide +kernel
theorem dX8_addTurn_19 : decode cX8_addTurn 19 = .ok (.iastore, 1) := by decide +kernel
theorem dX8_addTurn_20 : decode cX8_addTurn 20 = .ok (.aload_n 0, 1) := by decide +kernel
theorem dX8_addTurn_21 : decode cX8_addTurn 21 = .ok (.getfield 27, 3) := by decide +kernel
theorem dX8_addTurn_24 : decode cX8_addTurn 24 = .ok (.aload_n 0, 1) := by decide +kernel
theorem dX8_addTurn_25 : decode cX8_addTurn 25 = .ok (.getfield 66, 3) := by decide +kernel
theorem dX8_addTurn_28 : decode cX8_addTurn 28 = .ok (.iload_n 3, 1) := by decide +kernel
theorem dX8_addTurn_29 : decode cX8_addTurn 29 = .ok (.iastore, 1) := by decide +kernel
theorem dX8_addTurn_30 : decode cX8_addTurn 30 = .ok (.aload_n 0, 1) := by decide +kernel
theorem dX8_addTurn_31 : decode cX8_addTurn 31 = .ok (.dup, 1) := by decide +kernel
theorem dX8_addTurn_32 : decode cX8_addTurn 32 = .ok (.getfield 66, 3) := by decide +kernel
theorem dX8_addTurn_35 : decode cX8_addTurn 35 = .ok (.iconst 1, 1) := by decide +kernel
theorem dX8_addTurn_36 : decode cX8_addTurn 36 = .ok (.iadd, 1) := by decide +kernel
theorem dX8_addTurn_37 : decode cX8_addTurn 37 = .ok (.putfield 66, 3) := by decide +kernel
theorem dX8_addTurn_40 : decode cX8_addTurn 40 = .ok (.return_, 1) := by decide +kernel
theorem dX8_addSound_0 : decode cX8_addSound 0 = .ok (.aload_n 0, 1) := by decide +kernel
theorem dX8_addSound_1 : decode cX8_addSound 1 = .ok (.getfield 30, 3) := by decide +kernel
theorem dX8_addSound_4 : decode cX8_addSound 4 = .ok (.aload_n 0, 1) := by decide +kernel
theorem dX8_addSound_5 : decode cX8_addSound 5 = .ok (.getfield 69, 3) := by decide +kernel
theorem dX8_addSound_8 : decode cX8_addSound 8 = .ok (.iload_n 1, 1) := by decide +kernel
theorem dX8_addSound_9 : decode cX8_addSound 9 = .ok (.iastore, 1) := by decide +kernel
theorem dX8_addSound_10 : decode cX8_addSound 10 = .ok (.aload_n 0, 1) := by decide +kernel
theorem dX8_addSound_11 : decode cX8_addSound 11 = .ok (.getfield 33, 3) := by decide +kernel
theorem dX8_addSound_14 : decode cX8_addSound 14 = .ok (.aload_n 0, 1) := by decide +kernel
theorem dX8_addSound_15 : decode cX8_addSound 15 = .ok (.getfield 69, 3) := by decide +kernel
theorem dX8_addSound_18 : decode cX8_addSound 18 = .ok (.iload_n 2, 1) := by decide +kernel
theorem dX8_addSound_19 : decode cX8_addSound 19 = .ok (.iastore, 1) := by decide +kernel
theorem dX8_addSound_20 : decode cX8_addSound 20 = .ok (.aload_n 0, 1) := by decide +kernel
theorem dX8_addSound_21 : decode cX8_addSound 21 = .ok (.getfield 36, 3) := by decide +kernel
theorem dX8_addSound_24 : decode cX8_addSound 24 = .ok (.aload_n 0, 1) := by decide +kernel
theorem dX8_addSound_25 : decode cX8_addSound 25 = .ok (.getfield 69, 3) := by decide +kernel
theorem dX8_addSound_28 : decode cX8_addSound 28 = .ok (.iload_n 3, 1) := by decide +kernel
theorem dX8_addSound_29 : decode cX8_addSound 29 = .ok (.iastore, 1) := by decide +kernel
theorem dX8_addSound_30 : decode cX8_addSound 30 = .ok (.aload_n 0, 1) := by decide +kernel
theorem dX8_addSound_31 : decode cX8_addSound 31 = .ok (.dup, 1) := by decide +kernel
theorem dX8_addSound_32 : decode cX8_addSound 32 = .ok (.getfield 69, 3) := by decide +kernel
theorem dX8_addSound_35 : decode cX8_addSound 35 = .ok (.iconst 1, 1) := by decide +kernel
theorem dX8_addSound_36 : decode cX8_addSound 36 = .ok (.iadd, 1) := by decide +kernel
theorem dX8_addSound_37 : decode cX8_addSound 37 = .ok (.putfield 69, 3) := by decide +kernel
theorem dX8_addSound_40 : decode cX8_addSound 40 = .ok (.return_, 1) := by decide +kernel
theorem dX8_houseOf_0 : decode cX8_houseOf 0 = .ok (.iconst 0, 1) := by decide +kernel
theorem dX8_houseOf_1 : decode cX8_houseOf 1 = .ok (.istore_n 2, 1) := by decide +kernel
theorem dX8_houseOf_2 : decode cX8_houseOf 2 = .ok (.iload_n 2, 1) := by decide +kernel
theorem dX8_houseOf_3 : decode cX8_houseOf 3 = .ok (.aload_n 0, 1) := by decide +kernel
theorem dX8_houseOf_4 : decode cX8_houseOf 4 = .ok (.getfield 63, 3) := by decide +kernel
theorem dX8_houseOf_7 : decode cX8_houseOf 7 = .ok (.if_icmp .ge 21, 3) := by decide +kernel
theorem dX8_houseOf_10 : decode cX8_houseOf 10 = .ok (.aload_n 0, 1) := by decide +kernel
theorem dX8_houseOf_11 : decode cX8_houseOf 11 = .ok (.getfield 9, 3) := by decide +kernel
theorem dX8_houseOf_14 : decode cX8_houseOf 14 = .ok (.iload_n 2, 1) := by decide +kernel
theorem dX8_houseOf_15 : decode cX8_houseOf 15 = .ok (.iaload, 1) := by decide +kernel
theorem dX8_houseOf_16 : decode cX8_houseOf 16 = .ok (.iload_n 1, 1) := by decide +kernel
theorem dX8_houseOf_17 : decode cX8_houseOf 17 = .ok (.if_icmp .ne 5, 3) := by decide +kernel
theorem dX8_houseOf_20 : decode cX8_houseOf 20 = .ok (.iload_n 2, 1) := by decide +kernel
theorem dX8_houseOf_21 : decode cX8_houseOf 21 = .ok (.ireturn, 1) := by decide +kernel
theorem dX8_houseOf_22 : decode cX8_houseOf 22 = .ok (.iinc 2 1, 3) := by decide +kernel
theorem dX8_houseOf_25 : decode cX8_houseOf 25 = .ok (.goto (-23), 3) := by decide +kernel
theorem dX8_houseOf_28 : decode cX8_houseOf 28 = .ok (.iconst (-1), 1) := by decide +kernel
theorem dX8_houseOf_29 : decode cX8_houseOf 29 = .ok (.ireturn, 1) := by decide +kernel
theorem dX8_kindAt_0 : decode cX8_kindAt 0 = .ok (.iconst 0, 1) := by decide +kernel
theorem dX8_kindAt_1 : decode cX8_kindAt 1 = .ok (.istore_n 3, 1) := by decide +kernel
theorem dX8_kindAt_2 : decode cX8_kindAt 2 = .ok (.iload_n 3, 1) := by decide +kernel
theorem dX8_kindAt_3 : decode cX8_kindAt 3 = .ok (.aload_n 0, 1) := by decide +kernel
theorem dX8_kindAt_4 : decode cX8_kindAt 4 = .ok (.getfield 69, 3) := by decide +kernel
theorem dX8_kindAt_7 : decode cX8_kindAt 7 = .ok (.if_icmp .ge 36, 3) := by decide +kernel
theorem dX8_kindAt_10 : decode cX8_kindAt 10 = .ok (.aload_n 0, 1) := by decide +kernel
theorem dX8_kindAt_11 : decode cX8_kindAt 11 = .ok (.getfield 30, 3) := by decide +kernel
theorem dX8_kindAt_14 : decode cX8_kindAt 14 = .ok (.iload_n 3, 1) := by decide +kernel
theorem dX8_kindAt_15 : decode cX8_kindAt 15 = .ok (.iaload, 1) := by decide +kernel
theorem dX8_kindAt_16 : decode cX8_kindAt 16 = .ok (.iload_n 1, 1) := by decide +kernel
theorem dX8_kindAt_17 : decode cX8_kindAt 17 = .ok (.if_icmp .ne 20, 3) := by decide +kernel
theorem dX8_kindAt_20 : decode cX8_kindAt 20 = .ok (.aload_n 0, 1) := by decide +kernel
theorem dX8_kindAt_21 : decode cX8_kindAt 21 = .ok (.getfield 33, 3) := by decide +kernel
theorem dX8_kindAt_24 : decode cX8_kindAt 24 = .ok (.iload_n 3, 1) := by decide +kernel
theorem dX8_kindAt_25 : decode cX8_kindAt 25 = .ok (.iaload, 1) := by decide +kernel
theorem dX8_kindAt_26 : decode cX8_kindAt 26 = .ok (.iload_n 2, 1) := by decide +kernel
theorem dX8_kindAt_27 : decode cX8_kindAt 27 = .ok (.if_icmp .ne 10, 3) := by decide +kernel
theorem dX8_kindAt_30 : decode cX8_kindAt 30 = .ok (.aload_n 0, 1) := by decide +kernel
theorem dX8_kindAt_31 : decode cX8_kindAt 31 = .ok (.getfield 36, 3) := by decide +kernel
theorem dX8_kindAt_34 : decode cX8_kindAt 34 = .ok (.iload_n 3, 1) := by decide +kernel
theorem dX8_kindAt_35 : decode cX8_kindAt 35 = .ok (.iaload, 1) := by decide +kernel
theorem dX8_kindAt_36 : decode cX8_kindAt 36 = .ok (.ireturn, 1) := by decide +kernel
theorem dX8_kindAt_37 : decode cX8_kindAt 37 = .ok (.iinc 3 1, 3) := by decide +kernel
theorem dX8_kindAt_40 : decode cX8_kindAt 40 = .ok (.goto (-38), 3) := by decide +kernel
theorem dX8_kindAt_43 : decode cX8_kindAt 43 = .ok (.iconst 0, 1) := by decide +kernel
theorem dX8_kindAt_44 : decode cX8_kindAt 44 = .ok (.ireturn, 1) := by decide +kernel
theorem dX8_soundsOf_0 : decode cX8_soundsOf 0 = .ok (.iconst 0, 1) := by decide +kernel
theorem dX8_soundsOf_1 : decode cX8_soundsOf 1 = .ok (.istore_n 2, 1) := by decide +kernel
theorem dX8_soundsOf_2 : decode cX8_soundsOf 2 = .ok (.iconst 0, 1) := by decide +kernel
theorem dX8_soundsOf_3 : decode cX8_soundsOf 3 = .ok (.istore_n 3, 1) := by decide +kernel
theorem dX8_soundsOf_4 : decode cX8_soundsOf 4 = .ok (.iload_n 3, 1) := by decide +kernel
theorem dX8_soundsOf_5 : decode cX8_soundsOf 5 = .ok (.aload_n 0, 1) := by decide +kernel
theorem dX8_soundsOf_6 : decode cX8_soundsOf 6 = .ok (.getfield 69, 3) := by decide +kernel
theorem dX8_soundsOf_9 : decode cX8_soundsOf 9 = .ok (.if_icmp .ge 22, 3) := by decide +kernel
theorem dX8_soundsOf_12 : decode cX8_soundsOf 12 = .ok (.aload_n 0, 1) := by decide +kernel
theorem dX8_soundsOf_13 : decode cX8_soundsOf 13 = .ok (.getfield 30, 3) := by decide +kernel
theorem dX8_soundsOf_16 : decode cX8_soundsOf 16 = .ok (.iload_n 3, 1) := by decide +kernel
theorem dX8_soundsOf_17 : decode cX8_soundsOf 17 = .ok (.iaload, 1) := by decide +kernel
theorem dX8_soundsOf_18 : decode cX8_soundsOf 18 = .ok (.iload_n 1, 1) := by decide +kernel
theorem dX8_soundsOf_19 : decode cX8_soundsOf 19 = .ok (.if_icmp .ne 6, 3) := by decide +kernel
theorem dX8_soundsOf_22 : decode cX8_soundsOf 22 = .ok (.iinc 2 1, 3) := by decide +kernel
theorem dX8_soundsOf_25 : decode cX8_soundsOf 25 = .ok (.iinc 3 1, 3) := by decide +kernel
theorem dX8_soundsOf_28 : decode cX8_soundsOf 28 = .ok (.goto (-24), 3) := by decide +kernel
theorem dX8_soundsOf_31 : decode cX8_soundsOf 31 = .ok (.iload_n 2, 1) := by decide +kernel
theorem dX8_soundsOf_32 : decode cX8_soundsOf 32 = .ok (.ireturn, 1) := by decide +kernel
theorem dX8_alike_0 : decode cX8_alike 0 = .ok (.iconst 0, 1) := by decide +kernel
theorem dX8_alike_1 : decode cX8_alike 1 = .ok (.istore 4, 2) := by decide +kernel
theorem dX8_alike_3 : decode cX8_alike 3 = .ok (.iconst 0, 1) := by decide +kernel
theorem dX8_alike_4 : decode cX8_alike 4 = .ok (.istore 5, 2) := by decide +kernel
theorem dX8_alike_6 : decode cX8_alike 6 = .ok (.iload 5, 2) := by decide +kernel
theorem dX8_alike_8 : decode cX8_alike 8 = .ok (.aload_n 0, 1) := by decide +kernel
theorem dX8_alike_9 : decode cX8_alike 9 = .ok (.getfield 69, 3) := by decide +kernel
theorem dX8_alike_12 : decode cX8_alike 12 = .ok (.if_icmp .ge 47, 3) := by decide +kernel
theorem dX8_alike_15 : decode cX8_alike 15 = .ok (.aload_n 0, 1) := by decide +kernel
theorem dX8_alike_16 : decode cX8_alike 16 = .ok (.getfield 30, 3) := by decide +kernel
theorem dX8_alike_19 : decode cX8_alike 19 = .ok (.iload 5, 2) := by decide +kernel
theorem dX8_alike_21 : decode cX8_alike 21 = .ok (.iaload, 1) := by decide +kernel
theorem dX8_alike_22 : decode cX8_alike 22 = .ok (.iload_n 1, 1) := by decide +kernel
theorem dX8_alike_23 : decode cX8_alike 23 = .ok (.if_icmp .ne 30, 3) := by decide +kernel
theorem dX8_alike_26 : decode cX8_alike 26 = .ok (.aload_n 0, 1) := by decide +kernel
theorem dX8_alike_27 : decode cX8_alike 27 = .ok (.iload_n 2, 1) := by decide +kernel
theorem dX8_alike_28 : decode cX8_alike 28 = .ok (.aload_n 0, 1) := by decide +kernel
theorem dX8_alike_29 : decode cX8_alike 29 = .ok (.getfield 33, 3) := by decide +kernel
theorem dX8_alike_32 : decode cX8_alike 32 = .ok (.iload 5, 2) := by decide +kernel
theorem dX8_alike_34 : decode cX8_alike 34 = .ok (.iaload, 1) := by decide +kernel
theorem dX8_alike_35 : decode cX8_alike 35 = .ok (.iload_n 3, 1) := by decide +kernel
theorem dX8_alike_36 : decode cX8_alike 36 = .ok (.iadd, 1) := by decide +kernel
theorem dX8_alike_37 : decode cX8_alike 37 = .ok (.invokevirtual 75, 3) := by decide +kernel
theorem dX8_alike_40 : decode cX8_alike 40 = .ok (.aload_n 0, 1) := by decide +kernel
theorem dX8_alike_41 : decode cX8_alike 41 = .ok (.getfield 36, 3) := by decide +kernel
theorem dX8_alike_44 : decode cX8_alike 44 = .ok (.iload 5, 2) := by decide +kernel
theorem dX8_alike_46 : decode cX8_alike 46 = .ok (.iaload, 1) := by decide +kernel
theorem dX8_alike_47 : decode cX8_alike 47 = .ok (.if_icmp .ne 6, 3) := by decide +kernel
theorem dX8_alike_50 : decode cX8_alike 50 = .ok (.iinc 4 1, 3) := by decide +kernel
theorem dX8_alike_53 : decode cX8_alike 53 = .ok (.iinc 5 1, 3) := by decide +kernel
theorem dX8_alike_56 : decode cX8_alike 56 = .ok (.goto (-50), 3) := by decide +kernel
theorem dX8_alike_59 : decode cX8_alike 59 = .ok (.iload 4, 2) := by decide +kernel
theorem dX8_alike_61 : decode cX8_alike 61 = .ok (.ireturn, 1) := by decide +kernel
theorem dX8_mostAlike_0 : decode cX8_mostAlike 0 = .ok (.iconst 0, 1) := by decide +kernel
theorem dX8_mostAlike_1 : decode cX8_mostAlike 1 = .ok (.istore_n 3, 1) := by decide +kernel
theorem dX8_mostAlike_2 : decode cX8_mostAlike 2 = .ok (.iconst 0, 1) := by decide +kernel
theorem dX8_mostAlike_3 : decode cX8_mostAlike 3 = .ok (.istore 4, 2) := by decide +kernel
theorem dX8_mostAlike_5 : decode cX8_mostAlike 5 = .ok (.iload 4, 2) := by decide +kernel
theorem dX8_mostAlike_7 : decode cX8_mostAlike 7 = .ok (.bipush 9, 2) := by decide +kernel
theorem dX8_mostAlike_9 : decode cX8_mostAlike 9 = .ok (.if_icmp .gt 62, 3) := by decide +kernel
theorem dX8_mostAlike_12 : decode cX8_mostAlike 12 = .ok (.iconst 0, 1) := by decide +kernel
theorem dX8_mostAlike_13 : decode cX8_mostAlike 13 = .ok (.istore 5, 2) := by decide +kernel
theorem dX8_mostAlike_15 : decode cX8_mostAlike 15 = .ok (.iconst 0, 1) := by decide +kernel
theorem dX8_mostAlike_16 : decode cX8_mostAlike 16 = .ok (.istore 6, 2) := by decide +kernel
theorem dX8_mostAlike_18 : decode cX8_mostAlike 18 = .ok (.iload 6, 2) := by decide +kernel
theorem dX8_mostAlike_20 : decode cX8_mostAlike 20 = .ok (.aload_n 0, 1) := by decide +kernel
theorem dX8_mostAlike_21 : decode cX8_mostAlike 21 = .ok (.getfield 63, 3) := by decide +kernel
theorem dX8_mostAlike_24 : decode cX8_mostAlike 24 = .ok (.if_icmp .ge 34, 3) := by decide +kernel
theorem dX8_mostAlike_27 : decode cX8_mostAlike 27 = .ok (.iload_n 1, 1) := by decide +kernel
theorem dX8_mostAlike_28 : decode cX8_mostAlike 28 = .ok (.iload 6, 2) := by decide +kernel
theorem dX8_mostAlike_30 : decode cX8_mostAlike 30 = .ok (.ishr, 1) := by decide +kernel
theorem dX8_mostAlike_31 : decode cX8_mostAlike 31 = .ok (.iconst 1, 1) := by decide +kernel
theorem dX8_mostAlike_32 : decode cX8_mostAlike 32 = .ok (.iand, 1) := by decide +kernel
theorem dX8_mostAlike_33 : decode cX8_mostAlike 33 = .ok (.iconst 1, 1) := by decide +kernel
theorem dX8_mostAlike_34 : decode cX8_mostAlike 34 = .ok (.if_icmp .ne 18, 3) := by decide +kernel
theorem dX8_mostAlike_37 : decode cX8_mostAlike 37 = .ok (.aload_n 0, 1) := by decide +kernel
theorem dX8_mostAlike_38 : decode cX8_mostAlike 38 = .ok (.iload 6, 2) := by decide +kernel
theorem dX8_mostAlike_40 : decode cX8_mostAlike 40 = .ok (.iload_n 2, 1) := by decide +kernel
theorem dX8_mostAlike_41 : decode cX8_mostAlike 41 = .ok (.invokevirtual 75, 3) := by decide +kernel
theorem dX8_mostAlike_44 : decode cX8_mostAlike 44 = .ok (.iload 4, 2) := by decide +kernel
theorem dX8_mostAlike_46 : decode cX8_mostAlike 46 = .ok (.if_icmp .ne 6, 3) := by decide +kernel
theorem dX8_mostAlike_49 : decode cX8_mostAlike 49 = .ok (.iinc 5 1, 3) := by decide +kernel
theorem dX8_mostAlike_52 : decode cX8_mostAlike 52 = .ok (.iinc 6 1, 3) := by decide +kernel
theorem dX8_mostAlike_55 : decode cX8_mostAlike 55 = .ok (.goto (-37), 3) := by decide +kernel
theorem dX8_mostAlike_58 : decode cX8_mostAlike 58 = .ok (.iload_n 3, 1) := by decide +kernel
theorem dX8_mostAlike_59 : decode cX8_mostAlike 59 = .ok (.iload 5, 2) := by decide +kernel
theorem dX8_mostAlike_61 : decode cX8_mostAlike 61 = .ok (.invokestatic 79, 3) := by decide +kernel
theorem dX8_mostAlike_64 : decode cX8_mostAlike 64 = .ok (.istore_n 3, 1) := by decide +kernel
theorem dX8_mostAlike_65 : decode cX8_mostAlike 65 = .ok (.iinc 4 1, 3) := by decide +kernel
theorem dX8_mostAlike_68 : decode cX8_mostAlike 68 = .ok (.goto (-63), 3) := by decide +kernel
theorem dX8_mostAlike_71 : decode cX8_mostAlike 71 = .ok (.iload_n 3, 1) := by decide +kernel
theorem dX8_mostAlike_72 : decode cX8_mostAlike 72 = .ok (.ireturn, 1) := by decide +kernel
theorem dX9_init_0 : decode cX9_init 0 = .ok (.aload_n 0, 1) := by decide +kernel
theorem dX9_init_1 : decode cX9_init 1 = .ok (.invokespecial 3, 3) := by decide +kernel
theorem dX9_init_4 : decode cX9_init 4 = .ok (.aload_n 0, 1) := by decide +kernel
theorem dX9_init_5 : decode cX9_init 5 = .ok (.bipush 20, 2) := by decide +kernel
theorem dX9_init_7 : decode cX9_init 7 = .ok (.anewarray 9, 3) := by decide +kernel
theorem dX9_init_10 : decode cX9_init 10 = .ok (.putfield 11, 3) := by decide +kernel
theorem dX9_init_13 : decode cX9_init 13 = .ok (.iconst 0, 1) := by decide +kernel
theorem dX9_init_14 : decode cX9_init 14 = .ok (.istore_n 1, 1) := by decide +kernel
theorem dX9_init_15 : decode cX9_init 15 = .ok (.iload_n 1, 1) := by decide +kernel
theorem dX9_init_16 : decode cX9_init 16 = .ok (.bipush 20, 2) := by decide +kernel
theorem dX9_init_18 : decode cX9_init 18 = .ok (.if_icmp .ge 22, 3) := by decide +kernel
theorem dX9_init_21 : decode cX9_init 21 = .ok (.aload_n 0, 1) := by decide +kernel
theorem dX9_init_22 : decode cX9_init 22 = .ok (.getfield 11, 3) := by decide +kernel
theorem dX9_init_25 : decode cX9_init 25 = .ok (.iload_n 1, 1) := by decide +kernel
theorem dX9_init_26 : decode cX9_init 26 = .ok (.new 9, 3) := by decide +kernel
theorem dX9_init_29 : decode cX9_init 29 = .ok (.dup, 1) := by decide +kernel
theorem dX9_init_30 : decode cX9_init 30 = .ok (.invokespecial 17, 3) := by decide +kernel
theorem dX9_init_33 : decode cX9_init 33 = .ok (.aastore, 1) := by decide +kernel
theorem dX9_init_34 : decode cX9_init 34 = .ok (.iinc 1 1, 3) := by decide +kernel
theorem dX9_init_37 : decode cX9_init 37 = .ok (.goto (-22), 3) := by decide +kernel
theorem dX9_init_40 : decode cX9_init 40 = .ok (.return_, 1) := by decide +kernel
theorem dX9_clear_0 : decode cX9_clear 0 = .ok (.aload_n 0, 1) := by decide +kernel
theorem dX9_clear_1 : decode cX9_clear 1 = .ok (.iconst 0, 1) := by decide +kernel
theorem dX9_clear_2 : decode cX9_clear 2 = .ok (.putfield 18, 3) := by decide +kernel
theorem dX9_clear_5 : decode cX9_clear 5 = .ok (.return_, 1) := by decide +kernel
theorem dX9_push_0 : decode cX9_push 0 = .ok (.aload_n 0, 1) := by decide +kernel
theorem dX9_push_1 : decode cX9_push 1 = .ok (.getfield 11, 3) := by decide +kernel
theorem dX9_push_4 : decode cX9_push 4 = .ok (.aload_n 0, 1) := by decide +kernel
theorem dX9_push_5 : decode cX9_push 5 = .ok (.getfield 22, 3) := by decide +kernel
theorem dX9_push_8 : decode cX9_push 8 = .ok (.aaload, 1) := by decide +kernel
theorem dX9_push_9 : decode cX9_push 9 = .ok (.aload_n 1, 1) := by decide +kernel
theorem dX9_push_10 : decode cX9_push 10 = .ok (.invokevirtual 25, 3) := by decide +kernel
theorem dX9_push_13 : decode cX9_push 13 = .ok (.aload_n 0, 1) := by decide +kernel
theorem dX9_push_14 : decode cX9_push 14 = .ok (.aload_n 0, 1) := by decide +kernel
theorem dX9_push_15 : decode cX9_push 15 = .ok (.getfield 22, 3) := by decide +kernel
theorem dX9_push_18 : decode cX9_push 18 = .ok (.iconst 1, 1) := by decide +kernel
theorem dX9_push_19 : decode cX9_push 19 = .ok (.iadd, 1) := by decide +kernel
theorem dX9_push_20 : decode cX9_push 20 = .ok (.bipush 20, 2) := by decide +kernel
theorem dX9_push_22 : decode cX9_push 22 = .ok (.irem, 1) := by decide +kernel
theorem dX9_push_23 : decode cX9_push 23 = .ok (.putfield 22, 3) := by decide +kernel
theorem dX9_push_26 : decode cX9_push 26 = .ok (.aload_n 0, 1) := by decide +kernel
theorem dX9_push_27 : decode cX9_push 27 = .ok (.bipush 20, 2) := by decide +kernel
theorem dX9_push_29 : decode cX9_push 29 = .ok (.aload_n 0, 1) := by decide +kernel
theorem dX9_push_30 : decode cX9_push 30 = .ok (.getfield 18, 3) := by decide +kernel
theorem dX9_push_33 : decode cX9_push 33 = .ok (.iconst 1, 1) := by decide +kernel
theorem dX9_push_34 : decode cX9_push 34 = .ok (.iadd, 1) := by decide +kernel
theorem dX9_push_35 : decode cX9_push 35 = .ok (.invokestatic 29, 3) := by decide +kernel
theorem dX9_push_38 : decode cX9_push 38 = .ok (.putfield 18, 3) := by decide +kernel
theorem dX9_push_41 : decode cX9_push 41 = .ok (.return_, 1) := by decide +kernel
theorem dX9_pop_0 : decode cX9_pop 0 = .ok (.aload_n 0, 1) := by decide +kernel
theorem dX9_pop_1 : decode cX9_pop 1 = .ok (.getfield 18, 3) := by decide +kernel
theorem dX9_pop_4 : decode cX9_pop 4 = .ok (.ifCond .ne 5, 3) := by decide +kernel
theorem dX9_pop_7 : decode cX9_pop 7 = .ok (.iconst 0, 1) := by decide +kernel
theorem dX9_pop_8 : decode cX9_pop 8 = .ok (.ireturn, 1) := by decide +kernel
theorem dX9_pop_9 : decode cX9_pop 9 = .ok (.aload_n 0, 1) := by decide +kernel
theorem dX9_pop_10 : decode cX9_pop 10 = .ok (.aload_n 0, 1) := by decide +kernel
theorem dX9_pop_11 : decode cX9_pop 11 = .ok (.getfield 22, 3) := by decide +kernel
theorem dX9_pop_14 : decode cX9_pop 14 = .ok (.bipush 20, 2) := by decide +kernel
theorem dX9_pop_16 : decode cX9_pop 16 = .ok (.iadd, 1) := by decide +kernel
theorem dX9_pop_17 : decode cX9_pop 17 = .ok (.iconst 1, 1) := by decide +kernel
theorem dX9_pop_18 : decode cX9_pop 18 = .ok (.isub, 1) := by decide +kernel
theorem dX9_pop_19 : decode cX9_pop 19 = .ok (.bipush 20, 2) := by decide +kernel
theorem dX9_pop_21 : decode cX9_pop 21 = .ok (.irem, 1) := by decide +kernel
theorem dX9_pop_22 : decode cX9_pop 22 = .ok (.putfield 22, 3) := by decide +kernel
theorem dX9_pop_25 : decode cX9_pop 25 = .ok (.aload_n 0, 1) := by decide +kernel
theorem dX9_pop_26 : decode cX9_pop 26 = .ok (.dup, 1) := by decide +kernel
theorem dX9_pop_27 : decode cX9_pop 27 = .ok (.getfield 18, 3) := by decide +kernel
theorem dX9_pop_30 : decode cX9_pop 30 = .ok (.iconst 1, 1) := by decide +kernel
theorem dX9_pop_31 : decode cX9_pop 31 = .ok (.isub, 1) := by decide +kernel
theorem dX9_pop_32 : decode cX9_pop 32 = .ok (.putfield 18, 3) := by decide +kernel
theorem dX9_pop_35 : decode cX9_pop 35 = .ok (.aload_n 1, 1) := by decide +kernel
theorem dX9_pop_36 : decode cX9_pop 36 = .ok (.aload_n 0, 1) := by decide +kernel
theorem dX9_pop_37 : decode cX9_pop 37 = .ok (.getfield 11, 3) := by decide +kernel
theorem dX9_pop_40 : decode cX9_pop 40 = .ok (.aload_n 0, 1) := by decide +kernel
theorem dX9_pop_41 : decode cX9_pop 41 = .ok (.getfield 22, 3) := by decide +kernel
theorem dX9_pop_44 : decode cX9_pop 44 = .ok (.aaload, 1) := by decide +kernel
theorem dX9_pop_45 : decode cX9_pop 45 = .ok (.invokevirtual 25, 3) := by decide +kernel
theorem dX9_pop_48 : decode cX9_pop 48 = .ok (.iconst 1, 1) := by decide +kernel
theorem dX9_pop_49 : decode cX9_pop 49 = .ok (.ireturn, 1) := by decide +kernel
theorem dX10_init_0 : decode cX10_init 0 = .ok (.aload_n 0, 1) := by decide +kernel
theorem dX10_init_1 : decode cX10_init 1 = .ok (.invokespecial 1, 3) := by decide +kernel
theorem dX10_init_4 : decode cX10_init 4 = .ok (.aload_n 0, 1) := by decide +kernel
theorem dX10_init_5 : decode cX10_init 5 = .ok (.sipush 700, 3) := by decide +kernel
theorem dX10_init_8 : decode cX10_init 8 = .ok (.newarray .int, 2) := by decide +kernel
theorem dX10_init_10 : decode cX10_init 10 = .ok (.putfield 9, 3) := by decide +kernel
theorem dX10_init_13 : decode cX10_init 13 = .ok (.aload_n 0, 1) := by decide +kernel
theorem dX10_init_14 : decode cX10_init 14 = .ok (.new 13, 3) := by decide +kernel
theorem dX10_init_17 : decode cX10_init 17 = .ok (.dup, 1) := by decide +kernel
theorem dX10_init_18 : decode cX10_init 18 = .ok (.invokespecial 15, 3) := by decide +kernel
theorem dX10_init_21 : decode cX10_init 21 = .ok (.putfield 16, 3) := by decide +kernel
theorem dX10_init_24 : decode cX10_init 24 = .ok (.aload_n 0, 1) := by decide +kernel
theorem dX10_init_25 : decode cX10_init 25 = .ok (.new 13, 3) := by decide +kernel
theorem dX10_init_28 : decode cX10_init 28 = .ok (.dup, 1) := by decide +kernel
theorem dX10_init_29 : decode cX10_init 29 = .ok (.invokespecial 15, 3) := by decide +kernel
theorem dX10_init_32 : decode cX10_init 32 = .ok (.putfield 20, 3) := by decide +kernel
theorem dX10_init_35 : decode cX10_init 35 = .ok (.aload_n 0, 1) := by decide +kernel
theorem dX10_init_36 : decode cX10_init 36 = .ok (.new 23, 3) := by decide +kernel
theorem dX10_init_39 : decode cX10_init 39 = .ok (.dup, 1) := by decide +kernel
theorem dX10_init_40 : decode cX10_init 40 = .ok (.aload_n 0, 1) := by decide +kernel
theorem dX10_init_41 : decode cX10_init 41 = .ok (.getfield 20, 3) := by decide +kernel
theorem dX10_init_44 : decode cX10_init 44 = .ok (.invokespecial 25, 3) := by decide +kernel
theorem dX10_init_47 : decode cX10_init 47 = .ok (.putfield 28, 3) := by decide +kernel
theorem dX10_init_50 : decode cX10_init 50 = .ok (.aload_n 0, 1) := by decide +kernel
theorem dX10_init_51 : decode cX10_init 51 = .ok (.new 32, 3) := by decide +kernel
theorem dX10_init_54 : decode cX10_init 54 = .ok (.dup, 1) := by decide +kernel
theorem dX10_init_55 : decode cX10_init 55 = .ok (.aload_n 0, 1) := by decide +kernel
theorem dX10_init_56 : decode cX10_init 56 = .ok (.getfield 16, 3) := by decide +kernel
theorem dX10_init_59 : decode cX10_init 59 = .ok (.invokespecial 34, 3) := by decide +kernel
theorem dX10_init_62 : decode cX10_init 62 = .ok (.putfield 35, 3) := by decide +kernel
theorem dX10_init_65 : decode cX10_init 65 = .ok (.aload_n 0, 1) := by decide +kernel
theorem dX10_init_66 : decode cX10_init 66 = .ok (.new 39, 3) := by decide +kernel
theorem dX10_init_69 : decode cX10_init 69 = .ok (.dup, 1) := by decide +kernel
theorem dX10_init_70 : decode cX10_init 70 = .ok (.aload_n 0, 1) := by decide +kernel
theorem dX10_init_71 : decode cX10_init 71 = .ok (.getfield 35, 3) := by decide +kernel
theorem dX10_init_74 : decode cX10_init 74 = .ok (.invokespecial 41, 3) := by decide +kernel
theorem dX10_init_77 : decode cX10_init 77 = .ok (.putfield 44, 3) := by decide +kernel
theorem dX10_init_80 : decode cX10_init 80 = .ok (.aload_n 0, 1) := by decide +kernel
theorem dX10_init_81 : decode cX10_init 81 = .ok (.new 48, 3) := by decide +kernel
theorem dX10_init_84 : decode cX10_init 84 = .ok (.dup, 1) := by decide +kernel
theorem dX10_init_85 : decode cX10_init 85 = .ok (.invokespecial 50, 3) := by decide +kernel
theorem dX10_init_88 : decode cX10_init 88 = .ok (.putfield 51, 3) := by decide +kernel
theorem dX10_init_91 : decode cX10_init 91 = .ok (.aload_n 0, 1) := by decide +kernel
theorem dX10_init_92 : decode cX10_init 92 = .ok (.new 48, 3) := by decide +kernel
theorem dX10_init_95 : decode cX10_init 95 = .ok (.dup, 1) := by decide +kernel
theorem dX10_init_96 : decode cX10_init 96 = .ok (.invokespecial 50, 3) := by decide +kernel
theorem dX10_init_99 : decode cX10_init 99 = .ok (.putfield 55, 3) := by decide +kernel
theorem dX10_init_102 : decode cX10_init 102 = .ok (.aload_n 0, 1) := by decide +kernel
theorem dX10_init_103 : decode cX10_init 103 = .ok (.new 48, 3) := by decide +kernel
theorem dX10_init_106 : decode cX10_init 106 = .ok (.dup, 1) := by decide +kernel
theorem dX10_init_107 : decode cX10_init 107 = .ok (.invokespecial 50, 3) := by decide +kernel
theorem dX10_init_110 : decode cX10_init 110 = .ok (.putfield 58, 3) := by decide +kernel
theorem dX10_init_113 : decode cX10_init 113 = .ok (.aload_n 0, 1) := by decide +kernel
theorem dX10_init_114 : decode cX10_init 114 = .ok (.new 61, 3) := by decide +kernel
theorem dX10_init_117 : decode cX10_init 117 = .ok (.dup, 1) := by decide +kernel
theorem dX10_init_118 : decode cX10_init 118 = .ok (.invokespecial 63, 3) := by decide +kernel
theorem dX10_init_121 : decode cX10_init 121 = .ok (.putfield 64, 3) := by decide +kernel
theorem dX10_init_124 : decode cX10_init 124 = .ok (.aload_n 0, 1) := by decide +kernel
theorem dX10_init_125 : decode cX10_init 125 = .ok (.new 68, 3) := by decide +kernel
theorem dX10_init_128 : decode cX10_init 128 = .ok (.dup, 1) := by decide +kernel
theorem dX10_init_129 : decode cX10_init 129 = .ok (.invokespecial 70, 3) := by decide +kernel
theorem dX10_init_132 : decode cX10_init 132 = .ok (.putfield 71, 3) := by decide +kernel
theorem dX10_init_135 : decode cX10_init 135 = .ok (.aload_n 0, 1) := by decide +kernel
theorem dX10_init_136 : decode cX10_init 136 = .ok (.bipush 6, 2) := by decide +kernel
theorem dX10_init_138 : decode cX10_init 138 = .ok (.newarray .int, 2) := by decide +kernel
theorem dX10_init_140 : decode cX10_init 140 = .ok (.putfield 75, 3) := by decide +kernel
theorem dX10_init_143 : decode cX10_init 143 = .ok (.aload_n 0, 1) := by decide +kernel
theorem dX10_init_144 : decode cX10_init 144 = .ok (.getfield 35, 3) := by decide +kernel
theorem dX10_init_147 : decode cX10_init 147 = .ok (.invokevirtual 78, 3) := by decide +kernel
theorem dX10_init_150 : decode cX10_init 150 = .ok (.aload_n 0, 1) := by decide +kernel
theorem dX10_init_151 : decode cX10_init 151 = .ok (.getfield 51, 3) := by decide +kernel
theorem dX10_init_154 : decode cX10_init 154 = .ok (.aload_n 0, 1) := by decide +kernel
theorem dX10_init_155 : decode cX10_init 155 = .ok (.getfield 16, 3) := by decide +kernel
theorem dX10_init_158 : decode cX10_init 158 = .ok (.invokevirtual 81, 3) := by decide +kernel
theorem dX10_init_161 : decode cX10_init 161 = .ok (.return_, 1) := by decide +kernel
theorem dX10_feed_0 : decode cX10_feed 0 = .ok (.aload_n 0, 1) := by decide +kernel
theorem dX10_feed_1 : decode cX10_feed 1 = .ok (.getfield 84, 3) := by decide +kernel
theorem dX10_feed_4 : decode cX10_feed 4 = .ok (.bipush 20, 2) := by decide +kernel
theorem dX10_feed_6 : decode cX10_feed 6 = .ok (.iadd, 1) := by decide +kernel
theorem dX10_feed_7 : decode cX10_feed 7 = .ok (.sipush 700, 3) := by decide +kernel
theorem dX10_feed_10 : decode cX10_feed 10 = .ok (.if_icmp .le 5, 3) := by decide +kernel
theorem dX10_feed_13 : decode cX10_feed 13 = .ok (.iconst (-1), 1) := by decide +kernel
theorem dX10_feed_14 : decode cX10_feed 14 = .ok (.ireturn, 1) := by decide +kernel
theorem dX10_feed_15 : decode cX10_feed 15 = .ok (.aload_n 0, 1) := by decide +kernel
theorem dX10_feed_16 : decode cX10_feed 16 = .ok (.iload_n 1, 1) := by decide +kernel
theorem dX10_feed_17 : decode cX10_feed 17 = .ok (.invokevirtual 88, 3) := by decide +kernel
theorem dX10_feed_20 : decode cX10_feed 20 = .ok (.aload_n 0, 1) := by decide +kernel
theorem dX10_feed_21 : decode cX10_feed 21 = .ok (.iload_n 2, 1) := by decide +kernel
theorem dX10_feed_22 : decode cX10_feed 22 = .ok (.invokevirtual 88, 3) := by decide +kernel
theorem dX10_feed_25 : decode cX10_feed 25 = .ok (.aload_n 0, 1) := by decide +kernel
theorem dX10_feed_26 : decode cX10_feed 26 = .ok (.iload_n 3, 1) := by decide +kernel
theorem dX10_feed_27 : decode cX10_feed 27 = .ok (.invokevirtual 88, 3) := by decide +kernel
theorem dX10_feed_30 : decode cX10_feed 30 = .ok (.aload_n 0, 1) := by decide +kernel
theorem dX10_feed_31 : decode cX10_feed 31 = .ok (.iload 4, 2) := by decide +kernel
theorem dX10_feed_33 : decode cX10_feed 33 = .ok (.invokevirtual 88, 3) := by decide +kernel
theorem dX10_feed_36 : decode cX10_feed 36 = .ok (.aload_n 0, 1) := by decide +kernel
theorem dX10_feed_37 : decode cX10_feed 37 = .ok (.iload 5, 2) := by decide +kernel
theorem dX10_feed_39 : decode cX10_feed 39 = .ok (.invokevirtual 88, 3) := by decide +kernel
theorem dX10_feed_42 : decode cX10_feed 42 = .ok (.aload_n 0, 1) := by decide +kernel
theorem dX10_feed_43 : decode cX10_feed 43 = .ok (.getfield 84, 3) := by decide +kernel
theorem dX10_feed_46 : decode cX10_feed 46 = .ok (.ireturn, 1) := by decide +kernel
theorem dX10_tapeNumber_0 : decode cX10_tapeNumber 0 = .ok (.bipush 24, 2) := by decide +kernel
theorem dX10_tapeNumber_2 : decode cX10_tapeNumber 2 = .ok (.istore_n 2, 1) := by decide +kernel
theorem dX10_tapeNumber_3 : decode cX10_tapeNumber 3 = .ok (.iload_n 2, 1) := by decide +kernel
theorem dX10_tapeNumber_4 : decode cX10_tapeNumber 4 = .ok (.ifCond .lt 35, 3) := by decide +kernel
theorem dX10_tapeNumber_7 : decode cX10_tapeNumber 7 = .ok (.aload_n 0, 1) := by decide +kernel
theorem dX10_tapeNumber_8 : decode cX10_tapeNumber 8 = .ok (.getfield 9, 3) := by decide +kernel
theorem dX10_tapeNumber_11 : decode cX10_tapeNumber 11 = .ok (.aload_n 0, 1) := by decide +kernel
theorem dX10_tapeNumber_12 : decode cX10_tapeNumber 12 = .ok (.getfield 84, 3) := by decide +kernel
theorem dX10_tapeNumber_15 : decode cX10_tapeNumber 15 = .ok (.iload_n 1, 1) := by decide +kernel
theorem dX10_tapeNumber_16 : decode cX10_tapeNumber 16 = .ok (.iload_n 2, 1) := by decide +kernel
theorem dX10_tapeNumber_17 : decode cX10_tapeNumber 17 = .ok (.iushr, 1) := by decide +kernel
theorem dX10_tapeNumber_18 : decode cX10_tapeNumber 18 = .ok (.sipush 255, 3) := by decide +kernel
theorem dX10_tapeNumber_21 : decode cX10_tapeNumber 21 = .ok (.iand, 1) := by decide +kernel
theorem dX10_tapeNumber_22 : decode cX10_tapeNumber 22 = .ok (.iastore, 1) := by decide +kernel
theorem dX10_tapeNumber_23 : decode cX10_tapeNumber 23 = .ok (.aload_n 0, 1) := by decide +kernel
theorem dX10_tapeNumber_24 : decode cX10_tapeNumber 24 = .ok (.dup, 1) := by decide +kernel
theorem dX10_tapeNumber_25 : decode cX10_tapeNumber 25 = .ok (.getfield 84, 3) := by decide +kernel
theorem dX10_tapeNumber_28 : decode cX10_tapeNumber 28 = .ok (.iconst 1, 1) := by decide +kernel
theorem dX10_tapeNumber_29 : decode cX10_tapeNumber 29 = .ok (.iadd, 1) := by decide +kernel
theorem dX10_tapeNumber_30 : decode cX10_tapeNumber 30 = .ok (.putfield 84, 3) := by decide +kernel
theorem dX10_tapeNumber_33 : decode cX10_tapeNumber 33 = .ok (.iinc 2 (-8), 3) := by decide +kernel
theorem dX10_tapeNumber_36 : decode cX10_tapeNumber 36 = .ok (.goto (-33), 3) := by decide +kernel
theorem dX10_tapeNumber_39 : decode cX10_tapeNumber 39 = .ok (.return_, 1) := by decide +kernel
theorem dX10_text_0 : decode cX10_text 0 = .ok (.iload_n 1, 1) := by decide +kernel
theorem dX10_text_1 : decode cX10_text 1 = .ok (.ifCond .lt 11, 3) := by decide +kernel
theorem dX10_text_4 : decode cX10_text 4 = .ok (.iload_n 1, 1) := by decide +kernel
theorem dX10_text_5 : decode cX10_text 5 = .ok (.aload_n 0, 1) := by decide +kernel
theorem dX10_text_6 : decode cX10_text 6 = .ok (.getfield 84, 3) := by decide +kernel
theorem dX10_text_9 : decode cX10_text 9 = .ok (.if_icmp .le 6, 3) := by decide +kernel
theorem dX10_text_12 : decode cX10_text 12 = .ok (.bipush (-2), 2) := by decide +kernel
theorem dX10_text_14 : decode cX10_text 14 = .ok (.ireturn, 1) := by decide +kernel
theorem dX10_text_15 : decode cX10_text 15 = .ok (.aload_n 0, 1) := by decide +kernel
theorem dX10_text_16 : decode cX10_text 16 = .ok (.iconst 0, 1) := by decide +kernel
theorem dX10_text_17 : decode cX10_text 17 = .ok (.putfield 84, 3) := by decide +kernel
theorem dX10_text_20 : decode cX10_text 20 = .ok (.aload_n 0, 1) := by decide +kernel
theorem dX10_text_21 : decode cX10_text 21 = .ok (.getfield 28, 3) := by decide +kernel
theorem dX10_text_24 : decode cX10_text 24 = .ok (.aload_n 0, 1) := by decide +kernel
theorem dX10_text_25 : decode cX10_text 25 = .ok (.getfield 9, 3) := by decide +kernel
theorem dX10_text_28 : decode cX10_text 28 = .ok (.iload_n 1, 1) := by decide +kernel
theorem dX10_text_29 : decode cX10_text 29 = .ok (.aload_n 0, 1) := by decide +kernel
theorem dX10_text_30 : decode cX10_text 30 = .ok (.getfield 20, 3) := by decide +kernel
theorem dX10_text_33 : decode cX10_text 33 = .ok (.invokevirtual 92, 3) := by decide +kernel
theorem dX10_text_36 : decode cX10_text 36 = .ok (.ifCond .ne 5, 3) := by decide +kernel
theorem dX10_text_39 : decode cX10_text 39 = .ok (.iconst (-1), 1) := by decide +kernel
theorem dX10_text_40 : decode cX10_text 40 = .ok (.ireturn, 1) := by decide +kernel
theorem dX10_text_41 : decode cX10_text 41 = .ok (.aload_n 0, 1) := by decide +kernel
theorem dX10_text_42 : decode cX10_text 42 = .ok (.getfield 16, 3) := by decide +kernel
theorem dX10_text_45 : decode cX10_text 45 = .ok (.astore_n 2, 1) := by decide +kernel
theorem dX10_text_46 : decode cX10_text 46 = .ok (.aload_n 0, 1) := by decide +kernel
theorem dX10_text_47 : decode cX10_text 47 = .ok (.aload_n 0, 1) := by decide +kernel
theorem dX10_text_48 : decode cX10_text 48 = .ok (.getfield 20, 3) := by decide +kernel
theorem dX10_text_51 : decode cX10_text 51 = .ok (.putfield 16, 3) := by decide +kernel
theorem dX10_text_54 : decode cX10_text 54 = .ok (.aload_n 0, 1) := by decide +kernel
theorem dX10_text_55 : decode cX10_text 55 = .ok (.aload_n 2, 1) := by decide +kernel
theorem dX10_text_56 : decode cX10_text 56 = .ok (.putfield 20, 3) := by decide +kernel
theorem dX10_text_59 : decode cX10_text 59 = .ok (.aload_n 0, 1) := by decide +kernel
theorem dX10_text_60 : decode cX10_text 60 = .ok (.getfield 35, 3) := by decide +kernel
theorem dX10_text_63 : decode cX10_text 63 = .ok (.aload_n 0, 1) := by decide +kernel
theorem dX10_text_64 : decode cX10_text 64 = .ok (.getfield 16, 3) := by decide +kernel
theorem dX10_text_67 : decode cX10_text 67 = .ok (.putfield 96, 3) := by decide +kernel
theorem dX10_text_70 : decode cX10_text 70 = .ok (.aload_n 0, 1) := by decide +kernel
theorem dX10_text_71 : decode cX10_text 71 = .ok (.getfield 35, 3) := by decide +kernel
theorem dX10_text_74 : decode cX10_text 74 = .ok (.invokevirtual 78, 3) := by decide +kernel
theorem dX10_text_77 : decode cX10_text 77 = .ok (.aload_n 0, 1) := by decide +kernel
theorem dX10_text_78 : decode cX10_text 78 = .ok (.getfield 51, 3) := by decide +kernel
theorem dX10_text_81 : decode cX10_text 81 = .ok (.aload_n 0, 1) := by decide +kernel
theorem dX10_text_82 : decode cX10_text 82 = .ok (.getfield 16, 3) := by decide +kernel
theorem dX10_text_85 : decode cX10_text 85 = .ok (.invokevirtual 81, 3) := by decide +kernel
theorem dX10_text_88 : decode cX10_text 88 = .ok (.aload_n 0, 1) := by decide +kernel
theorem dX10_text_89 : decode cX10_text 89 = .ok (.getfield 71, 3) := by decide +kernel
theorem dX10_text_92 : decode cX10_text 92 = .ok (.invokevirtual 97, 3) := by decide +kernel
theorem dX10_text_95 : decode cX10_text 95 = .ok (.aload_n 0, 1) := by decide +kernel
theorem dX10_text_96 : decode cX10_text 96 = .ok (.getfield 64, 3) := by decide +kernel
theorem dX10_text_99 : decode cX10_text 99 = .ok (.invokevirtual 100, 3) := by decide +kernel
theorem dX10_text_102 : decode cX10_text 102 = .ok (.aload_n 0, 1) := by decide +kernel
theorem dX10_text_103 : decode cX10_text 103 = .ok (.iconst 0, 1) := by decide +kernel
theorem dX10_text_104 : decode cX10_text 104 = .ok (.putfield 101, 3) := by decide +kernel
theorem dX10_text_107 : decode cX10_text 107 = .ok (.aload_n 0, 1) := by decide +kernel
theorem dX10_text_108 : decode cX10_text 108 = .ok (.getfield 16, 3) := by decide +kernel
theorem dX10_text_111 : decode cX10_text 111 = .ok (.getfield 105, 3) := by decide +kernel
theorem dX10_text_114 : decode cX10_text 114 = .ok (.ireturn, 1) := by decide +kernel
theorem dX10_fault_0 : decode cX10_fault 0 = .ok (.iload_n 1, 1) := by decide +kernel
theorem dX10_fault_1 : decode cX10_fault 1 = .ok (.lookupswitch 43 #[(0, 27), (1, 35)], 27) := by decide +kernel
theorem dX10_fault_28 : decode cX10_fault 28 = .ok (.aload_n 0, 1) := by decide +kernel
theorem dX10_fault_29 : decode cX10_fault 29 = .ok (.getfield 28, 3) := by decide +kernel
theorem dX10_fault_32 : decode cX10_fault 32 = .ok (.getfield 108, 3) := by decide +kernel
theorem dX10_fault_35 : decode cX10_fault 35 = .ok (.ireturn, 1) := by decide +kernel
theorem dX10_fault_36 : decode cX10_fault 36 = .ok (.aload_n 0, 1) := by decide +kernel
theorem dX10_fault_37 : decode cX10_fault 37 = .ok (.getfield 28, 3) := by decide +kernel
theorem dX10_fault_40 : decode cX10_fault 40 = .ok (.getfield 111, 3) := by decide +kernel
theorem dX10_fault_43 : decode cX10_fault 43 = .ok (.ireturn, 1) := by decide +kernel
theorem dX10_fault_44 : decode cX10_fault 44 = .ok (.iconst (-1), 1) := by decide +kernel
theorem dX10_fault_45 : decode cX10_fault 45 = .ok (.ireturn, 1) := by decide +kernel
theorem dX10_named_0 : decode cX10_named 0 = .ok (.aload_n 0, 1) := by decide +kernel
theorem dX10_named_1 : decode cX10_named 1 = .ok (.getfield 16, 3) := by decide +kernel
theorem dX10_named_4 : decode cX10_named 4 = .ok (.iload_n 1, 1) := by decide +kernel
theorem dX10_named_5 : decode cX10_named 5 = .ok (.invokevirtual 114, 3) := by decide +kernel
theorem dX10_named_8 : decode cX10_named 8 = .ok (.ireturn, 1) := by decide +kernel
theorem dX10_isHouse_0 : decode cX10_isHouse 0 = .ok (.iload_n 1, 1) := by decide +kernel
theorem dX10_isHouse_1 : decode cX10_isHouse 1 = .ok (.ifCond .lt 18, 3) := by decide +kernel
theorem dX10_isHouse_4 : decode cX10_isHouse 4 = .ok (.iload_n 1, 1) := by decide +kernel
theorem dX10_isHouse_5 : decode cX10_isHouse 5 = .ok (.aload_n 0, 1) := by decide +kernel
theorem dX10_isHouse_6 : decode cX10_isHouse 6 = .ok (.getfield 16, 3) := by decide +kernel
theorem dX10_isHouse_9 : decode cX10_isHouse 9 = .ok (.getfield 118, 3) := by decide +kernel
theorem dX10_isHouse_12 : decode cX10_isHouse 12 = .ok (.if_icmp .ge 7, 3) := by decide +kernel
theorem dX10_isHouse_15 : decode cX10_isHouse 15 = .ok (.iconst 1, 1) := by decide +kernel
theorem dX10_isHouse_16 : decode cX10_isHouse 16 = .ok (.goto 4, 3) := by decide +kernel
theorem dX10_isHouse_19 : decode cX10_isHouse 19 = .ok (.iconst 0, 1) := by decide +kernel
theorem dX10_isHouse_20 : decode cX10_isHouse 20 = .ok (.ireturn, 1) := by decide +kernel
theorem dX10_areTwo_0 : decode cX10_areTwo 0 = .ok (.aload_n 0, 1) := by decide +kernel
theorem dX10_areTwo_1 : decode cX10_areTwo 1 = .ok (.iload_n 1, 1) := by decide +kernel
theorem dX10_areTwo_2 : decode cX10_areTwo 2 = .ok (.invokevirtual 121, 3) := by decide +kernel
theorem dX10_areTwo_5 : decode cX10_areTwo 5 = .ok (.ifCond .eq 20, 3) := by decide +kernel
theorem dX10_areTwo_8 : decode cX10_areTwo 8 = .ok (.aload_n 0, 1) := by decide +kernel
theorem dX10_areTwo_9 : decode cX10_areTwo 9 = .ok (.iload_n 2, 1) := by decide +kernel
theorem dX10_areTwo_10 : decode cX10_areTwo 10 = .ok (.invokevirtual 121, 3) := by decide +kernel
theorem dX10_areTwo_13 : decode cX10_areTwo 13 = .ok (.ifCond .eq 12, 3) := by decide +kernel
theorem dX10_areTwo_16 : decode cX10_areTwo 16 = .ok (.iload_n 1, 1) := by decide +kernel
theorem dX10_areTwo_17 : decode cX10_areTwo 17 = .ok (.iload_n 2, 1) := by decide +kernel
theorem dX10_areTwo_18 : decode cX10_areTwo 18 = .ok (.if_icmp .eq 7, 3) := by decide +kernel
theorem dX10_areTwo_21 : decode cX10_areTwo 21 = .ok (.iconst 1, 1) := by decide +kernel
theorem dX10_areTwo_22 : decode cX10_areTwo 22 = .ok (.goto 4, 3) := by decide +kernel
theorem dX10_areTwo_25 : decode cX10_areTwo 25 = .ok (.iconst 0, 1) := by decide +kernel
theorem dX10_areTwo_26 : decode cX10_areTwo 26 = .ok (.ireturn, 1) := by decide +kernel
theorem dX10_isWithin_0 : decode cX10_isWithin 0 = .ok (.iload_n 0, 1) := by decide +kernel
theorem dX10_isWithin_1 : decode cX10_isWithin 1 = .ok (.iload_n 1, 1) := by decide +kernel
theorem dX10_isWithin_2 : decode cX10_isWithin 2 = .ok (.if_icmp .lt 12, 3) := by decide +kernel
theorem dX10_isWithin_5 : decode cX10_isWithin 5 = .ok (.iload_n 0, 1) := by decide +kernel
theorem dX10_isWithin_6 : decode cX10_isWithin 6 = .ok (.iload_n 2, 1) := by decide +kernel
theorem dX10_isWithin_7 : decode cX10_isWithin 7 = .ok (.if_icmp .gt 7, 3) := by decide +kernel
theorem dX10_isWithin_10 : decode cX10_isWithin 10 = .ok (.iconst 1, 1) := by decide +kernel
theorem dX10_isWithin_11 : decode cX10_isWithin 11 = .ok (.goto 4, 3) := by decide +kernel
theorem dX10_isWithin_14 : decode cX10_isWithin 14 = .ok (.iconst 0, 1) := by decide +kernel
theorem dX10_isWithin_15 : decode cX10_isWithin 15 = .ok (.ireturn, 1) := by decide +kernel
theorem dX10_house_0 : decode cX10_house 0 = .ok (.aload_n 0, 1) := by decide +kernel
theorem dX10_house_1 : decode cX10_house 1 = .ok (.iload_n 1, 1) := by decide +kernel
theorem dX10_house_2 : decode cX10_house 2 = .ok (.invokevirtual 121, 3) := by decide +kernel
theorem dX10_house_5 : decode cX10_house 5 = .ok (.ifCond .ne 13, 3) := by decide +kernel
theorem dX10_house_8 : decode cX10_house 8 = .ok (.new 125, 3) := by decide +kernel
theorem dX10_house_11 : decode cX10_house 11 = .ok (.dup, 1) := by decide +kernel
theorem dX10_house_12 : decode cX10_house 12 = .ok (.ldc 127, 2) := by decide +kernel
theorem dX10_house_14 : decode cX10_house 14 = .ok (.invokespecial 129, 3) := by decide +kernel
theorem dX10_house_17 : decode cX10_house 17 = .ok (.athrow, 1) := by decide +kernel
theorem dX10_house_18 : decode cX10_house 18 = .ok (.iload_n 2, 1) := by decide +kernel
theorem dX10_house_19 : decode cX10_house 19 = .ok (.tableswitch 116 0 6 #[41, 51, 61, 74, 87, 97, 106], 41) := by decide +kernel
theorem dX10_house_60 : decode cX10_house 60 = .ok (.aload_n 0, 1) := by decide +kernel
theorem dX10_house_61 : decode cX10_house 61 = .ok (.getfield 51, 3) := by decide +kernel
theorem dX10_house_64 : decode cX10_house 64 = .ok (.getfield 132, 3) := by decide +kernel
theorem dX10_house_67 : decode cX10_house 67 = .ok (.iload_n 1, 1) := by decide +kernel
theorem dX10_house_68 : decode cX10_house 68 = .ok (.iaload, 1) := by decide +kernel
theorem dX10_house_69 : decode cX10_house 69 = .ok (.ireturn, 1) := by decide +kernel
theorem dX10_house_70 : decode cX10_house 70 = .ok (.aload_n 0, 1) := by decide +kernel
theorem dX10_house_71 : decode cX10_house 71 = .ok (.getfield 51, 3) := by decide +kernel
theorem dX10_house_74 : decode cX10_house 74 = .ok (.getfield 135, 3) := by decide +kernel
theorem dX10_house_77 : decode cX10_house 77 = .ok (.iload_n 1, 1) := by decide +kernel
theorem dX10_house_78 : decode cX10_house 78 = .ok (.iaload, 1) := by decide +kernel
theorem dX10_house_79 : decode cX10_house 79 = .ok (.ireturn, 1) := by decide +kernel
theorem dX10_house_80 : decode cX10_house 80 = .ok (.aload_n 0, 1) := by decide +kernel
theorem dX10_house_81 : decode cX10_house 81 = .ok (.getfield 35, 3) := by decide +kernel
theorem dX10_house_84 : decode cX10_house 84 = .ok (.aload_n 0, 1) := by decide +kernel
theorem dX10_house_85 : decode cX10_house 85 = .ok (.getfield 51, 3) := by decide +kernel
theorem dX10_house_88 : decode cX10_house 88 = .ok (.iload_n 1, 1) := by decide +kernel
theorem dX10_house_89 : decode cX10_house 89 = .ok (.invokevirtual 138, 3) := by decide +kernel
theorem dX10_house_92 : decode cX10_house 92 = .ok (.ireturn, 1) := by decide +kernel
theorem dX10_house_93 : decode cX10_house 93 = .ok (.aload_n 0, 1) := by decide +kernel
theorem dX10_house_94 : decode cX10_house 94 = .ok (.getfield 35, 3) := by decide +kernel
theorem dX10_house_97 : decode cX10_house 97 = .ok (.aload_n 0, 1) := by decide +kernel
theorem dX10_house_98 : decode cX10_house 98 = .ok (.getfield 51, 3) := by decide +kernel
theorem dX10_house_101 : decode cX10_house 101 = .ok (.iload_n 1, 1) := by decide +kernel
theorem dX10_house_102 : decode cX10_house 102 = .ok (.invokevirtual 142, 3) := by decide +kernel
theorem dX10_house_105 : decode cX10_house 105 = .ok (.ireturn, 1) := by decide +kernel
theorem dX10_house_106 : decode cX10_house 106 = .ok (.aload_n 0, 1) := by decide +kernel
theorem dX10_house_107 : decode cX10_house 107 = .ok (.getfield 51, 3) := by decide +kernel
theorem dX10_house_110 : decode cX10_house 110 = .ok (.getfield 145, 3) := by decide +kernel
theorem dX10_house_113 : decode cX10_house 113 = .ok (.iload_n 1, 1) := by decide +kernel
theorem dX10_house_114 : decode cX10_house 114 = .ok (.iaload, 1) := by decide +kernel
theorem dX10_house_115 : decode cX10_house 115 = .ok (.ireturn, 1) := by decide +kernel
theorem dX10_house_116 : decode cX10_house 116 = .ok (.aload_n 0, 1) := by decide +kernel
theorem dX10_house_117 : decode cX10_house 117 = .ok (.getfield 51, 3) := by decide +kernel
theorem dX10_house_120 : decode cX10_house 120 = .ok (.iload_n 1, 1) := by decide +kernel
theorem dX10_house_121 : decode cX10_house 121 = .ok (.invokevirtual 148, 3) := by decide +kernel
theorem dX10_house_124 : decode cX10_house 124 = .ok (.ireturn, 1) := by decide +kernel
theorem dX10_house_125 : decode cX10_house 125 = .ok (.aload_n 0, 1) := by decide +kernel
theorem dX10_house_126 : decode cX10_house 126 = .ok (.getfield 51, 3) := by decide +kernel
theorem dX10_house_129 : decode cX10_house 129 = .ok (.getfield 151, 3) := by decide +kernel
theorem dX10_house_132 : decode cX10_house 132 = .ok (.iload_n 1, 1) := by decide +kernel
theorem dX10_house_133 : decode cX10_house 133 = .ok (.iaload, 1) := by decide +kernel
theorem dX10_house_134 : decode cX10_house 134 = .ok (.ireturn, 1) := by decide +kernel
theorem dX10_house_135 : decode cX10_house 135 = .ok (.new 154, 3) := by decide +kernel
theorem dX10_house_138 : decode cX10_house 138 = .ok (.dup, 1) := by decide +kernel
theorem dX10_house_139 : decode cX10_house 139 = .ok (.ldc 156, 2) := by decide +kernel
theorem dX10_house_141 : decode cX10_house 141 = .ok (.invokespecial 158, 3) := by decide +kernel
theorem dX10_house_144 : decode cX10_house 144 = .ok (.athrow, 1) := by decide +kernel
theorem dX10_heard_0 : decode cX10_heard 0 = .ok (.aload_n 0, 1) := by decide +kernel
theorem dX10_heard_1 : decode cX10_heard 1 = .ok (.iload_n 1, 1) := by decide +kernel
theorem dX10_heard_2 : decode cX10_heard 2 = .ok (.iload_n 2, 1) := by decide +kernel
theorem dX10_heard_3 : decode cX10_heard 3 = .ok (.invokevirtual 159, 3) := by decide +kernel
theorem dX10_heard_6 : decode cX10_heard 6 = .ok (.ifCond .eq 15, 3) := by decide +kernel
theorem dX10_heard_9 : decode cX10_heard 9 = .ok (.aload_n 0, 1) := by decide +kernel
theorem dX10_heard_10 : decode cX10_heard 10 = .ok (.getfield 51, 3) := by decide +kernel
theorem dX10_heard_13 : decode cX10_heard 13 = .ok (.iload_n 1, 1) := by decide +kernel
theorem dX10_heard_14 : decode cX10_heard 14 = .ok (.iload_n 2, 1) := by decide +kernel
theorem dX10_heard_15 : decode cX10_heard 15 = .ok (.invokevirtual 163, 3) := by decide +kernel
theorem dX10_heard_18 : decode cX10_heard 18 = .ok (.goto 4, 3) := by decide +kernel
theorem dX10_heard_21 : decode cX10_heard 21 = .ok (.iconst (-1), 1) := by decide +kernel
theorem dX10_heard_22 : decode cX10_heard 22 = .ok (.ireturn, 1) := by decide +kernel
theorem dX10_sound_0 : decode cX10_sound 0 = .ok (.aload_n 0, 1) := by decide +kernel
theorem dX10_sound_1 : decode cX10_sound 1 = .ok (.iload_n 1, 1) := by decide +kernel
theorem dX10_sound_2 : decode cX10_sound 2 = .ok (.invokevirtual 121, 3) := by decide +kernel
theorem dX10_sound_5 : decode cX10_sound 5 = .ok (.ifCond .eq 13, 3) := by decide +kernel
theorem dX10_sound_8 : decode cX10_sound 8 = .ok (.iload_n 2, 1) := by decide +kernel
theorem dX10_sound_9 : decode cX10_sound 9 = .ok (.iconst 0, 1) := by decide +kernel
theorem dX10_sound_10 : decode cX10_sound 10 = .ok (.bipush 99, 2) := by decide +kernel
theorem dX10_sound_12 : decode cX10_sound 12 = .ok (.invokestatic 167, 3) := by decide +kernel
theorem dX10_sound_15 : decode cX10_sound 15 = .ok (.ifCond .ne 5, 3) := by decide +kernel
theorem dX10_sound_18 : decode cX10_sound 18 = .ok (.iconst (-1), 1) := by decide +kernel
theorem dX10_sound_19 : decode cX10_sound 19 = .ok (.ireturn, 1) := by decide +kernel
theorem dX10_sound_20 : decode cX10_sound 20 = .ok (.aload_n 0, 1) := by decide +kernel
theorem dX10_sound_21 : decode cX10_sound 21 = .ok (.getfield 16, 3) := by decide +kernel
theorem dX10_sound_24 : decode cX10_sound 24 = .ok (.iload_n 1, 1) := by decide +kernel
theorem dX10_sound_25 : decode cX10_sound 25 = .ok (.iload_n 2, 1) := by decide +kernel
theorem dX10_sound_26 : decode cX10_sound 26 = .ok (.invokevirtual 171, 3) := by decide +kernel
theorem dX10_sound_29 : decode cX10_sound 29 = .ok (.ireturn, 1) := by decide +kernel
theorem dX10_law_0 : decode cX10_law 0 = .ok (.iload_n 1, 1) := by decide +kernel
theorem dX10_law_1 : decode cX10_law 1 = .ok (.iconst 0, 1) := by decide +kernel
theorem dX10_law_2 : decode cX10_law 2 = .ok (.iconst 2, 1) := by decide +kernel
theorem dX10_law_3 : decode cX10_law 3 = .ok (.invokestatic 167, 3) := by decide +kernel
theorem dX10_law_6 : decode cX10_law 6 = .ok (.ifCond .eq 11, 3) := by decide +kernel
theorem dX10_law_9 : decode cX10_law 9 = .ok (.aload_n 0, 1) := by decide +kernel
theorem dX10_law_10 : decode cX10_law 10 = .ok (.iload_n 2, 1) := by decide +kernel
theorem dX10_law_11 : decode cX10_law 11 = .ok (.invokevirtual 121, 3) := by decide +kernel
theorem dX10_law_14 : decode cX10_law 14 = .ok (.ifCond .ne 7, 3) := by decide +kernel
theorem dX10_law_17 : decode cX10_law 17 = .ok (.ldc2_w 176, 3) := by decide +kernel
theorem dX10_law_20 : decode cX10_law 20 = .ok (.lreturn, 1) := by decide +kernel
theorem dX10_law_21 : decode cX10_law 21 = .ok (.iload_n 1, 1) := by decide +kernel
theorem dX10_law_22 : decode cX10_law 22 = .ok (.iconst 2, 1) := by decide +kernel
theorem dX10_law_23 : decode cX10_law 23 = .ok (.if_icmp .ne 16, 3) := by decide +kernel
theorem dX10_law_26 : decode cX10_law 26 = .ok (.aload_n 0, 1) := by decide +kernel
theorem dX10_law_27 : decode cX10_law 27 = .ok (.getfield 35, 3) := by decide +kernel
theorem dX10_law_30 : decode cX10_law 30 = .ok (.aload_n 0, 1) := by decide +kernel
theorem dX10_law_31 : decode cX10_law 31 = .ok (.getfield 51, 3) := by decide +kernel
theorem dX10_law_34 : decode cX10_law 34 = .ok (.iload_n 2, 1) := by decide +kernel
theorem dX10_law_35 : decode cX10_law 35 = .ok (.invokevirtual 178, 3) := by decide +kernel
theorem dX10_law_38 : decode cX10_law 38 = .ok (.lreturn, 1) := by decide +kernel
theorem dX10_law_39 : decode cX10_law 39 = .ok (.aload_n 0, 1) := by decide +kernel
theorem dX10_law_40 : decode cX10_law 40 = .ok (.iload_n 2, 1) := by decide +kernel
theorem dX10_law_41 : decode cX10_law 41 = .ok (.iload_n 3, 1) := by decide +kernel
theorem dX10_law_42 : decode cX10_law 42 = .ok (.invokevirtual 159, 3) := by decide +kernel
theorem dX10_law_45 : decode cX10_law 45 = .ok (.ifCond .eq 20, 3) := by decide +kernel
theorem dX10_law_48 : decode cX10_law 48 = .ok (.aload_n 0, 1) := by decide +kernel
theorem dX10_law_49 : decode cX10_law 49 = .ok (.getfield 35, 3) := by decide +kernel
theorem dX10_law_52 : decode cX10_law 52 = .ok (.aload_n 0, 1) := by decide +kernel
theorem dX10_law_53 : decode cX10_law 53 = .ok (.getfield 51, 3) := by decide +kernel
theorem dX10_law_56 : decode cX10_law 56 = .ok (.iload_n 1, 1) := by decide +kernel
theorem dX10_law_57 : decode cX10_law 57 = .ok (.iload_n 2, 1) := by decide +kernel
theorem dX10_law_58 : decode cX10_law 58 = .ok (.iload_n 3, 1) := by decide +kernel
theorem dX10_law_59 : decode cX10_law 59 = .ok (.invokevirtual 182, 3) := by decide +kernel
theorem dX10_law_62 : decode cX10_law 62 = .ok (.goto 6, 3) := by decide +kernel
theorem dX10_law_65 : decode cX10_law 65 = .ok (.ldc2_w 176, 3) := by decide +kernel
theorem dX10_law_68 : decode cX10_law 68 = .ok (.lreturn, 1) := by decide +kernel
theorem dX10_count_0 : decode cX10_count 0 = .ok (.iload_n 1, 1) := by decide +kernel
theorem dX10_count_1 : decode cX10_count 1 = .ok (.tableswitch 147 0 10 #[59, 67, 75, 83, 91, 99, 107, 115, 123, 131, 139], 59) := by decide +kernel
theorem dX10_count_60 : decode cX10_count 60 = .ok (.aload_n 0, 1) := by decide +kernel
theorem dX10_count_61 : decode cX10_count 61 = .ok (.getfield 16, 3) := by decide +kernel
theorem dX10_count_64 : decode cX10_count 64 = .ok (.getfield 118, 3) := by decide +kernel
theorem dX10_count_67 : decode cX10_count 67 = .ok (.ireturn, 1) := by decide +kernel
theorem dX10_count_68 : decode cX10_count 68 = .ok (.aload_n 0, 1) := by decide +kernel
theorem dX10_count_69 : decode cX10_count 69 = .ok (.getfield 16, 3) := by decide +kernel
theorem dX10_count_72 : decode cX10_count 72 = .ok (.getfield 186, 3) := by decide +kernel
theorem dX10_count_75 : decode cX10_count 75 = .ok (.ireturn, 1) := by decide +kernel
theorem dX10_count_76 : decode cX10_count 76 = .ok (.aload_n 0, 1) := by decide +kernel
theorem dX10_count_77 : decode cX10_count 77 = .ok (.getfield 16, 3) := by decide +kernel
theorem dX10_count_80 : decode cX10_count 80 = .ok (.getfield 189, 3) := by decide +kernel
theorem dX10_count_83 : decode cX10_count 83 = .ok (.ireturn, 1) := by decide +kernel
theorem dX10_count_84 : decode cX10_count 84 = .ok (.aload_n 0, 1) := by decide +kernel
theorem dX10_count_85 : decode cX10_count 85 = .ok (.getfield 16, 3) := by decide +kernel
theorem dX10_count_88 : decode cX10_count 88 = .ok (.getfield 192, 3) := by decide +kernel
theorem dX10_count_91 : decode cX10_count 91 = .ok (.ireturn, 1) := by decide +kernel
theorem dX10_count_92 : decode cX10_count 92 = .ok (.aload_n 0, 1) := by decide +kernel
theorem dX10_count_93 : decode cX10_count 93 = .ok (.getfield 51, 3) := by decide +kernel
theorem dX10_count_96 : decode cX10_count 96 = .ok (.getfield 195, 3) := by decide +kernel
theorem dX10_count_99 : decode cX10_count 99 = .ok (.ireturn, 1) := by decide +kernel
theorem dX10_count_100 : decode cX10_count 100 = .ok (.aload_n 0, 1) := by decide +kernel
theorem dX10_count_101 : decode cX10_count 101 = .ok (.getfield 51, 3) := by decide +kernel
theorem dX10_count_104 : decode cX10_count 104 = .ok (.invokevirtual 198, 3) := by decide +kernel
theorem dX10_count_107 : decode cX10_count 107 = .ok (.ireturn, 1) := by decide +kernel
theorem dX10_count_108 : decode cX10_count 108 = .ok (.aload_n 0, 1) := by decide +kernel
theorem dX10_count_109 : decode cX10_count 109 = .ok (.getfield 51, 3) := by decide +kernel
theorem dX10_count_112 : decode cX10_count 112 = .ok (.invokevirtual 202, 3) := by decide +kernel
theorem dX10_count_115 : decode cX10_count 115 = .ok (.ireturn, 1) := by decide +kernel
theorem dX10_count_116 : decode cX10_count 116 = .ok (.aload_n 0, 1) := by decide +kernel
theorem dX10_count_117 : decode cX10_count 117 = .ok (.getfield 51, 3) := by decide +kernel
theorem dX10_count_120 : decode cX10_count 120 = .ok (.invokevirtual 205, 3) := by decide +kernel
theorem dX10_count_123 : decode cX10_count 123 = .ok (.ireturn, 1) := by decide +kernel
theorem dX10_count_124 : decode cX10_count 124 = .ok (.aload_n 0, 1) := by decide +kernel
theorem dX10_count_125 : decode cX10_count 125 = .ok (.getfield 71, 3) := by decide +kernel
theorem dX10_count_128 : decode cX10_count 128 = .ok (.getfield 208, 3) := by decide +kernel
theorem dX10_count_131 : decode cX10_count 131 = .ok (.ireturn, 1) := by decide +kernel
theorem dX10_count_132 : decode cX10_count 132 = .ok (.aload_n 0, 1) := by decide +kernel
theorem dX10_count_133 : decode cX10_count 133 = .ok (.getfield 71, 3) := by decide +kernel
theorem dX10_count_136 : decode cX10_count 136 = .ok (.invokevirtual 211, 3) := by decide +kernel
theorem dX10_count_139 : decode cX10_count 139 = .ok (.ireturn, 1) := by decide +kernel
theorem dX10_count_140 : decode cX10_count 140 = .ok (.aload_n 0, 1) := by decide +kernel
theorem dX10_count_141 : decode cX10_count 141 = .ok (.getfield 64, 3) := by decide +kernel
theorem dX10_count_144 : decode cX10_count 144 = .ok (.getfield 214, 3) := by decide +kernel
theorem dX10_count_147 : decode cX10_count 147 = .ok (.ireturn, 1) := by decide +kernel
theorem dX10_count_148 : decode cX10_count 148 = .ok (.iconst (-1), 1) := by decide +kernel
theorem dX10_count_149 : decode cX10_count 149 = .ok (.ireturn, 1) := by decide +kernel
theorem dX10_turn_0 : decode cX10_turn 0 = .ok (.aload_n 0, 1) := by decide +kernel
theorem dX10_turn_1 : decode cX10_turn 1 = .ok (.iload_n 1, 1) := by decide +kernel
theorem dX10_turn_2 : decode cX10_turn 2 = .ok (.invokevirtual 121, 3) := by decide +kernel
theorem dX10_turn_5 : decode cX10_turn 5 = .ok (.ifCond .eq 26, 3) := by decide +kernel
theorem dX10_turn_8 : decode cX10_turn 8 = .ok (.iload_n 2, 1) := by decide +kernel
theorem dX10_turn_9 : decode cX10_turn 9 = .ok (.iconst 0, 1) := by decide +kernel
theorem dX10_turn_10 : decode cX10_turn 10 = .ok (.bipush 99, 2) := by decide +kernel
theorem dX10_turn_12 : decode cX10_turn 12 = .ok (.invokestatic 167, 3) := by decide +kernel
theorem dX10_turn_15 : decode cX10_turn 15 = .ok (.ifCond .eq 16, 3) := by decide +kernel
theorem dX10_turn_18 : decode cX10_turn 18 = .ok (.aload_n 0, 1) := by decide +kernel
theorem dX10_turn_19 : decode cX10_turn 19 = .ok (.getfield 51, 3) := by decide +kernel
theorem dX10_turn_22 : decode cX10_turn 22 = .ok (.getfield 132, 3) := by decide +kernel
theorem dX10_turn_25 : decode cX10_turn 25 = .ok (.iload_n 1, 1) := by decide +kernel
theorem dX10_turn_26 : decode cX10_turn 26 = .ok (.iaload, 1) := by decide +kernel
theorem dX10_turn_27 : decode cX10_turn 27 = .ok (.iload_n 2, 1) := by decide +kernel
theorem dX10_turn_28 : decode cX10_turn 28 = .ok (.if_icmp .ne 5, 3) := by decide +kernel
theorem dX10_turn_31 : decode cX10_turn 31 = .ok (.iconst 0, 1) := by decide +kernel
theorem dX10_turn_32 : decode cX10_turn 32 = .ok (.ireturn, 1) := by decide +kernel
theorem dX10_turn_33 : decode cX10_turn 33 = .ok (.aload_n 0, 1) := by decide +kernel
theorem dX10_turn_34 : decode cX10_turn 34 = .ok (.getfield 64, 3) := by decide +kernel
theorem dX10_turn_37 : decode cX10_turn 37 = .ok (.aload_n 0, 1) := by decide +kernel
theorem dX10_turn_38 : decode cX10_turn 38 = .ok (.getfield 51, 3) := by decide +kernel
theorem dX10_turn_41 : decode cX10_turn 41 = .ok (.invokevirtual 215, 3) := by decide +kernel
theorem dX10_turn_44 : decode cX10_turn 44 = .ok (.aload_n 0, 1) := by decide +kernel
theorem dX10_turn_45 : decode cX10_turn 45 = .ok (.getfield 51, 3) := by decide +kernel
theorem dX10_turn_48 : decode cX10_turn 48 = .ok (.getfield 132, 3) := by decide +kernel
theorem dX10_turn_51 : decode cX10_turn 51 = .ok (.iload_n 1, 1) := by decide +kernel
theorem dX10_turn_52 : decode cX10_turn 52 = .ok (.iload_n 2, 1) := by decide +kernel
theorem dX10_turn_53 : decode cX10_turn 53 = .ok (.iastore, 1) := by decide +kernel
theorem dX10_turn_54 : decode cX10_turn 54 = .ok (.iconst 1, 1) := by decide +kernel
theorem dX10_turn_55 : decode cX10_turn 55 = .ok (.ireturn, 1) := by decide +kernel
theorem dX10_make_0 : decode cX10_make 0 = .ok (.aload_n 0, 1) := by decide +kernel
theorem dX10_make_1 : decode cX10_make 1 = .ok (.iload_n 1, 1) := by decide +kernel
theorem dX10_make_2 : decode cX10_make 2 = .ok (.invokevirtual 121, 3) := by decide +kernel
theorem dX10_make_5 : decode cX10_make 5 = .ok (.ifCond .eq 13, 3) := by decide +kernel
theorem dX10_make_8 : decode cX10_make 8 = .ok (.iload_n 2, 1) := by decide +kernel
theorem dX10_make_9 : decode cX10_make 9 = .ok (.iconst 1, 1) := by decide +kernel
theorem dX10_make_10 : decode cX10_make 10 = .ok (.bipush 9, 2) := by decide +kernel
theorem dX10_make_12 : decode cX10_make 12 = .ok (.invokestatic 167, 3) := by decide +kernel
theorem dX10_make_15 : decode cX10_make 15 = .ok (.ifCond .ne 5, 3) := by decide +kernel
theorem dX10_make_18 : decode cX10_make 18 = .ok (.iconst (-1), 1) := by decide +kernel
theorem dX10_make_19 : decode cX10_make 19 = .ok (.ireturn, 1) := by decide +kernel
theorem dX10_make_20 : decode cX10_make 20 = .ok (.aload_n 0, 1) := by decide +kernel
theorem dX10_make_21 : decode cX10_make 21 = .ok (.getfield 64, 3) := by decide +kernel
theorem dX10_make_24 : decode cX10_make 24 = .ok (.aload_n 0, 1) := by decide +kernel
theorem dX10_make_25 : decode cX10_make 25 = .ok (.getfield 51, 3) := by decide +kernel
theorem dX10_make_28 : decode cX10_make 28 = .ok (.invokevirtual 215, 3) := by decide +kernel
theorem dX10_make_31 : decode cX10_make 31 = .ok (.aload_n 0, 1) := by decide +kernel
theorem dX10_make_32 : decode cX10_make 32 = .ok (.getfield 35, 3) := by decide +kernel
theorem dX10_make_35 : decode cX10_make 35 = .ok (.aload_n 0, 1) := by decide +kernel
theorem dX10_make_36 : decode cX10_make 36 = .ok (.getfield 51, 3) := by decide +kernel
theorem dX10_make_39 : decode cX10_make 39 = .ok (.iload_n 1, 1) := by decide +kernel
theorem dX10_make_40 : decode cX10_make 40 = .ok (.iload_n 2, 1) := by decide +kernel
theorem dX10_make_41 : decode cX10_make 41 = .ok (.invokevirtual 219, 3) := by decide +kernel
theorem dX10_make_44 : decode cX10_make 44 = .ok (.ireturn, 1) := by decide +kernel
theorem dX10_valve_0 : decode cX10_valve 0 = .ok (.aload_n 0, 1) := by decide +kernel
theorem dX10_valve_1 : decode cX10_valve 1 = .ok (.iload_n 1, 1) := by decide +kernel
theorem dX10_valve_2 : decode cX10_valve 2 = .ok (.invokevirtual 121, 3) := by decide +kernel
theorem dX10_valve_5 : decode cX10_valve 5 = .ok (.ifCond .ne 5, 3) := by decide +kernel
theorem dX10_valve_8 : decode cX10_valve 8 = .ok (.iconst (-1), 1) := by decide +kernel
theorem dX10_valve_9 : decode cX10_valve 9 = .ok (.ireturn, 1) := by decide +kernel
theorem dX10_valve_10 : decode cX10_valve 10 = .ok (.aload_n 0, 1) := by decide +kernel
theorem dX10_valve_11 : decode cX10_valve 11 = .ok (.getfield 51, 3) := by decide +kernel
theorem dX10_valve_14 : decode cX10_valve 14 = .ok (.getfield 135, 3) := by decide +kernel
theorem dX10_valve_17 : decode cX10_valve 17 = .ok (.iload_n 1, 1) := by decide +kernel
theorem dX10_valve_18 : decode cX10_valve 18 = .ok (.iaload, 1) := by decide +kernel
theorem dX10_valve_19 : decode cX10_valve 19 = .ok (.aload_n 0, 1) := by decide +kernel
theorem dX10_valve_20 : decode cX10_valve 20 = .ok (.getfield 16, 3) := by decide +kernel
theorem dX10_valve_23 : decode cX10_valve 23 = .ok (.getfield 223, 3) := by decide +kernel
theorem dX10_valve_26 : decode cX10_valve 26 = .ok (.iload_n 1, 1) := by decide +kernel
theorem dX10_valve_27 : decode cX10_valve 27 = .ok (.iaload, 1) := by decide +kernel
theorem dX10_valve_28 : decode cX10_valve 28 = .ok (.if_icmp .ne 6, 3) := by decide +kernel
theorem dX10_valve_31 : decode cX10_valve 31 = .ok (.bipush (-2), 2) := by decide +kernel
theorem dX10_valve_33 : decode cX10_valve 33 = .ok (.ireturn, 1) := by decide +kernel
theorem dX10_valve_34 : decode cX10_valve 34 = .ok (.aload_n 0, 1) := by decide +kernel
theorem dX10_valve_35 : decode cX10_valve 35 = .ok (.getfield 64, 3) := by decide +kernel
theorem dX10_valve_38 : decode cX10_valve 38 = .ok (.aload_n 0, 1) := by decide +kernel
theorem dX10_valve_39 : decode cX10_valve 39 = .ok (.getfield 51, 3) := by decide +kernel
theorem dX10_valve_42 : decode cX10_valve 42 = .ok (.invokevirtual 215, 3) := by decide +kernel
theorem dX10_valve_45 : decode cX10_valve 45 = .ok (.aload_n 0, 1) := by decide +kernel
theorem dX10_valve_46 : decode cX10_valve 46 = .ok (.getfield 51, 3) := by decide +kernel
theorem dX10_valve_49 : decode cX10_valve 49 = .ok (.getfield 135, 3) := by decide +kernel
theorem dX10_valve_52 : decode cX10_valve 52 = .ok (.iload_n 1, 1) := by decide +kernel
theorem dX10_valve_53 : decode cX10_valve 53 = .ok (.aload_n 0, 1) := by decide +kernel
theorem dX10_valve_54 : decode cX10_valve 54 = .ok (.getfield 16, 3) := by decide +kernel
theorem dX10_valve_57 : decode cX10_valve 57 = .ok (.getfield 223, 3) := by decide +kernel
theorem dX10_valve_60 : decode cX10_valve 60 = .ok (.iload_n 1, 1) := by decide +kernel
theorem dX10_valve_61 : decode cX10_valve 61 = .ok (.iaload, 1) := by decide +kernel
theorem dX10_valve_62 : decode cX10_valve 62 = .ok (.iastore, 1) := by decide +kernel
theorem dX10_valve_63 : decode cX10_valve 63 = .ok (.aload_n 0, 1) := by decide +kernel
theorem dX10_valve_64 : decode cX10_valve 64 = .ok (.getfield 51, 3) := by decide +kernel
theorem dX10_valve_67 : decode cX10_valve 67 = .ok (.getfield 135, 3) := by decide +kernel
theorem dX10_valve_70 : decode cX10_valve 70 = .ok (.iload_n 1, 1) := by decide +kernel
theorem dX10_valve_71 : decode cX10_valve 71 = .ok (.iaload, 1) := by decide +kernel
theorem dX10_valve_72 : decode cX10_valve 72 = .ok (.ireturn, 1) := by decide +kernel
theorem dX10_go_0 : decode cX10_go 0 = .ok (.iload_n 1, 1) := by decide +kernel
theorem dX10_go_1 : decode cX10_go 1 = .ok (.iconst 0, 1) := by decide +kernel
theorem dX10_go_2 : decode cX10_go 2 = .ok (.bipush 99, 2) := by decide +kernel
theorem dX10_go_4 : decode cX10_go 4 = .ok (.invokestatic 167, 3) := by decide +kernel
theorem dX10_go_7 : decode cX10_go 7 = .ok (.ifCond .eq 18, 3) := by decide +kernel
theorem dX10_go_10 : decode cX10_go 10 = .ok (.aload_n 0, 1) := by decide +kernel
theorem dX10_go_11 : decode cX10_go 11 = .ok (.getfield 51, 3) := by decide +kernel
theorem dX10_go_14 : decode cX10_go 14 = .ok (.getfield 195, 3) := by decide +kernel
theorem dX10_go_17 : decode cX10_go 17 = .ok (.iload_n 1, 1) := by decide +kernel
theorem dX10_go_18 : decode cX10_go 18 = .ok (.iadd, 1) := by decide +kernel
theorem dX10_go_19 : decode cX10_go 19 = .ok (.sipush 9000, 3) := by decide +kernel
theorem dX10_go_22 : decode cX10_go 22 = .ok (.if_icmp .le 5, 3) := by decide +kernel
theorem dX10_go_25 : decode cX10_go 25 = .ok (.iconst (-1), 1) := by decide +kernel
theorem dX10_go_26 : decode cX10_go 26 = .ok (.ireturn, 1) := by decide +kernel
theorem dX10_go_27 : decode cX10_go 27 = .ok (.iload_n 1, 1) := by decide +kernel
theorem dX10_go_28 : decode cX10_go 28 = .ok (.ifCond .le 29, 3) := by decide +kernel
theorem dX10_go_31 : decode cX10_go 31 = .ok (.aload_n 0, 1) := by decide +kernel
theorem dX10_go_32 : decode cX10_go 32 = .ok (.getfield 64, 3) := by decide +kernel
theorem dX10_go_35 : decode cX10_go 35 = .ok (.invokevirtual 100, 3) := by decide +kernel
theorem dX10_go_38 : decode cX10_go 38 = .ok (.aload_n 0, 1) := by decide +kernel
theorem dX10_go_39 : decode cX10_go 39 = .ok (.getfield 35, 3) := by decide +kernel
theorem dX10_go_42 : decode cX10_go 42 = .ok (.invokevirtual 224, 3) := by decide +kernel
theorem dX10_go_45 : decode cX10_go 45 = .ok (.aload_n 0, 1) := by decide +kernel
theorem dX10_go_46 : decode cX10_go 46 = .ok (.getfield 35, 3) := by decide +kernel
theorem dX10_go_49 : decode cX10_go 49 = .ok (.aload_n 0, 1) := by decide +kernel
theorem dX10_go_50 : decode cX10_go 50 = .ok (.getfield 51, 3) := by decide +kernel
theorem dX10_go_53 : decode cX10_go 53 = .ok (.iload_n 1, 1) := by decide +kernel
theorem dX10_go_54 : decode cX10_go 54 = .ok (.invokevirtual 227, 3) := by decide +kernel
theorem dX10_go_57 : decode cX10_go 57 = .ok (.aload_n 0, 1) := by decide +kernel
theorem dX10_go_58 : decode cX10_go 58 = .ok (.getfield 51, 3) := by decide +kernel
theorem dX10_go_61 : decode cX10_go 61 = .ok (.getfield 195, 3) := by decide +kernel
theorem dX10_go_64 : decode cX10_go 64 = .ok (.ireturn, 1) := by decide +kernel
theorem dX10_undo_0 : decode cX10_undo 0 = .ok (.aload_n 0, 1) := by decide +kernel
theorem dX10_undo_1 : decode cX10_undo 1 = .ok (.getfield 64, 3) := by decide +kernel
theorem dX10_undo_4 : decode cX10_undo 4 = .ok (.aload_n 0, 1) := by decide +kernel
theorem dX10_undo_5 : decode cX10_undo 5 = .ok (.getfield 51, 3) := by decide +kernel
theorem dX10_undo_8 : decode cX10_undo 8 = .ok (.invokevirtual 231, 3) := by decide +kernel
theorem dX10_undo_11 : decode cX10_undo 11 = .ok (.ifCond .eq 13, 3) := by decide +kernel
theorem dX10_undo_14 : decode cX10_undo 14 = .ok (.aload_n 0, 1) := by decide +kernel
theorem dX10_undo_15 : decode cX10_undo 15 = .ok (.getfield 64, 3) := by decide +kernel
theorem dX10_undo_18 : decode cX10_undo 18 = .ok (.getfield 214, 3) := by decide +kernel
theorem dX10_undo_21 : decode cX10_undo 21 = .ok (.goto 4, 3) := by decide +kernel
theorem dX10_undo_24 : decode cX10_undo 24 = .ok (.iconst (-1), 1) := by decide +kernel
theorem dX10_undo_25 : decode cX10_undo 25 = .ok (.ireturn, 1) := by decide +kernel
theorem dX10_keep_0 : decode cX10_keep 0 = .ok (.aload_n 0, 1) := by decide +kernel
theorem dX10_keep_1 : decode cX10_keep 1 = .ok (.getfield 58, 3) := by decide +kernel
theorem dX10_keep_4 : decode cX10_keep 4 = .ok (.aload_n 0, 1) := by decide +kernel
theorem dX10_keep_5 : decode cX10_keep 5 = .ok (.getfield 51, 3) := by decide +kernel
theorem dX10_keep_8 : decode cX10_keep 8 = .ok (.invokevirtual 235, 3) := by decide +kernel
theorem dX10_keep_11 : decode cX10_keep 11 = .ok (.aload_n 0, 1) := by decide +kernel
theorem dX10_keep_12 : decode cX10_keep 12 = .ok (.iconst 1, 1) := by decide +kernel
theorem dX10_keep_13 : decode cX10_keep 13 = .ok (.putfield 101, 3) := by decide +kernel
theorem dX10_keep_16 : decode cX10_keep 16 = .ok (.aload_n 0, 1) := by decide +kernel
theorem dX10_keep_17 : decode cX10_keep 17 = .ok (.getfield 51, 3) := by decide +kernel
theorem dX10_keep_20 : decode cX10_keep 20 = .ok (.getfield 195, 3) := by decide +kernel
theorem dX10_keep_23 : decode cX10_keep 23 = .ok (.ireturn, 1) := by decide +kernel
theorem dX10_back_0 : decode cX10_back 0 = .ok (.aload_n 0, 1) := by decide +kernel
theorem dX10_back_1 : decode cX10_back 1 = .ok (.getfield 101, 3) := by decide +kernel
theorem dX10_back_4 : decode cX10_back 4 = .ok (.ifCond .ne 5, 3) := by decide +kernel
theorem dX10_back_7 : decode cX10_back 7 = .ok (.iconst (-1), 1) := by decide +kernel
theorem dX10_back_8 : decode cX10_back 8 = .ok (.ireturn, 1) := by decide +kernel
theorem dX10_back_9 : decode cX10_back 9 = .ok (.aload_n 0, 1) := by decide +kernel
theorem dX10_back_10 : decode cX10_back 10 = .ok (.getfield 51, 3) := by decide +kernel
theorem dX10_back_13 : decode cX10_back 13 = .ok (.aload_n 0, 1) := by decide +kernel
theorem dX10_back_14 : decode cX10_back 14 = .ok (.getfield 58, 3) := by decide +kernel
theorem dX10_back_17 : decode cX10_back 17 = .ok (.invokevirtual 235, 3) := by decide +kernel
theorem dX10_back_20 : decode cX10_back 20 = .ok (.aload_n 0, 1) := by decide +kernel
theorem dX10_back_21 : decode cX10_back 21 = .ok (.getfield 64, 3) := by decide +kernel
theorem dX10_back_24 : decode cX10_back 24 = .ok (.invokevirtual 100, 3) := by decide +kernel
theorem dX10_back_27 : decode cX10_back 27 = .ok (.aload_n 0, 1) := by decide +kernel
theorem dX10_back_28 : decode cX10_back 28 = .ok (.getfield 51, 3) := by decide +kernel
theorem dX10_back_31 : decode cX10_back 31 = .ok (.getfield 195, 3) := by decide +kernel
theorem dX10_back_34 : decode cX10_back 34 = .ok (.ireturn, 1) := by decide +kernel
theorem dX10_guessAsItGoes_0 : decode cX10_guessAsItGoes 0 = .ok (.aload_n 0, 1) := by decide +kernel
theorem dX10_guessAsItGoes_1 : decode cX10_guessAsItGoes 1 = .ok (.getfield 55, 3) := by decide +kernel
theorem dX10_guessAsItGoes_4 : decode cX10_guessAsItGoes 4 = .ok (.aload_n 0, 1) := by decide +kernel
theorem dX10_guessAsItGoes_5 : decode cX10_guessAsItGoes 5 = .ok (.getfield 51, 3) := by decide +kernel
theorem dX10_guessAsItGoes_8 : decode cX10_guessAsItGoes 8 = .ok (.invokevirtual 235, 3) := by decide +kernel
theorem dX10_guessAsItGoes_11 : decode cX10_guessAsItGoes 11 = .ok (.aload_n 0, 1) := by decide +kernel
theorem dX10_guessAsItGoes_12 : decode cX10_guessAsItGoes 12 = .ok (.getfield 35, 3) := by decide +kernel
theorem dX10_guessAsItGoes_15 : decode cX10_guessAsItGoes 15 = .ok (.invokevirtual 78, 3) := by decide +kernel
theorem dX10_guessAsItGoes_18 : decode cX10_guessAsItGoes 18 = .ok (.return_, 1) := by decide +kernel
theorem dX10_ahead_0 : decode cX10_ahead 0 = .ok (.iload_n 1, 1) := by decide +kernel
theorem dX10_ahead_1 : decode cX10_ahead 1 = .ok (.iconst 0, 1) := by decide +kernel
theorem dX10_ahead_2 : decode cX10_ahead 2 = .ok (.bipush 99, 2) := by decide +kernel
theorem dX10_ahead_4 : decode cX10_ahead 4 = .ok (.invokestatic 167, 3) := by decide +kernel
theorem dX10_ahead_7 : decode cX10_ahead 7 = .ok (.ifCond .eq 25, 3) := by decide +kernel
theorem dX10_ahead_10 : decode cX10_ahead 10 = .ok (.iload_n 2, 1) := by decide +kernel
theorem dX10_ahead_11 : decode cX10_ahead 11 = .ok (.iconst 0, 1) := by decide +kernel
theorem dX10_ahead_12 : decode cX10_ahead 12 = .ok (.iconst 3, 1) := by decide +kernel
theorem dX10_ahead_13 : decode cX10_ahead 13 = .ok (.invokestatic 167, 3) := by decide +kernel
theorem dX10_ahead_16 : decode cX10_ahead 16 = .ok (.ifCond .eq 16, 3) := by decide +kernel
theorem dX10_ahead_19 : decode cX10_ahead 19 = .ok (.iload_n 2, 1) := by decide +kernel
theorem dX10_ahead_20 : decode cX10_ahead 20 = .ok (.iconst 2, 1) := by decide +kernel
theorem dX10_ahead_21 : decode cX10_ahead 21 = .ok (.if_icmp .lt 13, 3) := by decide +kernel
theorem dX10_ahead_24 : decode cX10_ahead 24 = .ok (.aload_n 0, 1) := by decide +kernel
theorem dX10_ahead_25 : decode cX10_ahead 25 = .ok (.iload_n 3, 1) := by decide +kernel
theorem dX10_ahead_26 : decode cX10_ahead 26 = .ok (.invokevirtual 121, 3) := by decide +kernel
theorem dX10_ahead_29 : decode cX10_ahead 29 = .ok (.ifCond .ne 5, 3) := by decide +kernel
theorem dX10_ahead_32 : decode cX10_ahead 32 = .ok (.iconst (-1), 1) := by decide +kernel
theorem dX10_ahead_33 : decode cX10_ahead 33 = .ok (.ireturn, 1) := by decide +kernel
theorem dX10_ahead_34 : decode cX10_ahead 34 = .ok (.aload_n 0, 1) := by decide +kernel
theorem dX10_ahead_35 : decode cX10_ahead 35 = .ok (.invokevirtual 238, 3) := by decide +kernel
theorem dX10_ahead_38 : decode cX10_ahead 38 = .ok (.aload_n 0, 1) := by decide +kernel
theorem dX10_ahead_39 : decode cX10_ahead 39 = .ok (.getfield 35, 3) := by decide +kernel
theorem dX10_ahead_42 : decode cX10_ahead 42 = .ok (.aload_n 0, 1) := by decide +kernel
theorem dX10_ahead_43 : decode cX10_ahead 43 = .ok (.getfield 55, 3) := by decide +kernel
theorem dX10_ahead_46 : decode cX10_ahead 46 = .ok (.iload_n 1, 1) := by decide +kernel
theorem dX10_ahead_47 : decode cX10_ahead 47 = .ok (.invokevirtual 227, 3) := by decide +kernel
theorem dX10_ahead_50 : decode cX10_ahead 50 = .ok (.iload_n 2, 1) := by decide +kernel
theorem dX10_ahead_51 : decode cX10_ahead 51 = .ok (.tableswitch 67 0 2 #[25, 41, 57], 25) := by decide +kernel
theorem dX10_ahead_76 : decode cX10_ahead 76 = .ok (.aload_n 0, 1) := by decide +kernel
theorem dX10_ahead_77 : decode cX10_ahead 77 = .ok (.getfield 55, 3) := by decide +kernel
theorem dX10_ahead_80 : decode cX10_ahead 80 = .ok (.invokevirtual 198, 3) := by decide +kernel
theorem dX10_ahead_83 : decode cX10_ahead 83 = .ok (.aload_n 0, 1) := by decide +kernel
theorem dX10_ahead_84 : decode cX10_ahead 84 = .ok (.getfield 51, 3) := by decide +kernel
theorem dX10_ahead_87 : decode cX10_ahead 87 = .ok (.invokevirtual 198, 3) := by decide +kernel
theorem dX10_ahead_90 : decode cX10_ahead 90 = .ok (.isub, 1) := by decide +kernel
theorem dX10_ahead_91 : decode cX10_ahead 91 = .ok (.ireturn, 1) := by decide +kernel
theorem dX10_ahead_92 : decode cX10_ahead 92 = .ok (.aload_n 0, 1) := by decide +kernel
theorem dX10_ahead_93 : decode cX10_ahead 93 = .ok (.getfield 55, 3) := by decide +kernel
theorem dX10_ahead_96 : decode cX10_ahead 96 = .ok (.invokevirtual 202, 3) := by decide +kernel
theorem dX10_ahead_99 : decode cX10_ahead 99 = .ok (.aload_n 0, 1) := by decide +kernel
theorem dX10_ahead_100 : decode cX10_ahead 100 = .ok (.getfield 51, 3) := by decide +kernel
theorem dX10_ahead_103 : decode cX10_ahead 103 = .ok (.invokevirtual 202, 3) := by decide +kernel
theorem dX10_ahead_106 : decode cX10_ahead 106 = .ok (.isub, 1) := by decide +kernel
theorem dX10_ahead_107 : decode cX10_ahead 107 = .ok (.ireturn, 1) := by decide +kernel
theorem dX10_ahead_108 : decode cX10_ahead 108 = .ok (.aload_n 0, 1) := by decide +kernel
theorem dX10_ahead_109 : decode cX10_ahead 109 = .ok (.getfield 55, 3) := by decide +kernel
theorem dX10_ahead_112 : decode cX10_ahead 112 = .ok (.getfield 132, 3) := by decide +kernel
theorem dX10_ahead_115 : decode cX10_ahead 115 = .ok (.iload_n 3, 1) := by decide +kernel
theorem dX10_ahead_116 : decode cX10_ahead 116 = .ok (.iaload, 1) := by decide +kernel
theorem dX10_ahead_117 : decode cX10_ahead 117 = .ok (.ireturn, 1) := by decide +kernel
theorem dX10_ahead_118 : decode cX10_ahead 118 = .ok (.aload_n 0, 1) := by decide +kernel
theorem dX10_ahead_119 : decode cX10_ahead 119 = .ok (.getfield 55, 3) := by decide +kernel
theorem dX10_ahead_122 : decode cX10_ahead 122 = .ok (.getfield 135, 3) := by decide +kernel
theorem dX10_ahead_125 : decode cX10_ahead 125 = .ok (.iload_n 3, 1) := by decide +kernel
theorem dX10_ahead_126 : decode cX10_ahead 126 = .ok (.iaload, 1) := by decide +kernel
theorem dX10_ahead_127 : decode cX10_ahead 127 = .ok (.ireturn, 1) := by decide +kernel
theorem dX10_first_0 : decode cX10_first 0 = .ok (.iload_n 1, 1) := by decide +kernel
theorem dX10_first_1 : decode cX10_first 1 = .ok (.iconst 0, 1) := by decide +kernel
theorem dX10_first_2 : decode cX10_first 2 = .ok (.iconst 1, 1) := by decide +kernel
theorem dX10_first_3 : decode cX10_first 3 = .ok (.invokestatic 167, 3) := by decide +kernel
theorem dX10_first_6 : decode cX10_first 6 = .ok (.ifCond .ne 5, 3) := by decide +kernel
theorem dX10_first_9 : decode cX10_first 9 = .ok (.iconst (-1), 1) := by decide +kernel
theorem dX10_first_10 : decode cX10_first 10 = .ok (.ireturn, 1) := by decide +kernel
theorem dX10_first_11 : decode cX10_first 11 = .ok (.aload_n 0, 1) := by decide +kernel
theorem dX10_first_12 : decode cX10_first 12 = .ok (.invokevirtual 238, 3) := by decide +kernel
theorem dX10_first_15 : decode cX10_first 15 = .ok (.aload_n 0, 1) := by decide +kernel
theorem dX10_first_16 : decode cX10_first 16 = .ok (.getfield 55, 3) := by decide +kernel
theorem dX10_first_19 : decode cX10_first 19 = .ok (.aload_n 0, 1) := by decide +kernel
theorem dX10_first_20 : decode cX10_first 20 = .ok (.getfield 16, 3) := by decide +kernel
theorem dX10_first_23 : decode cX10_first 23 = .ok (.getfield 118, 3) := by decide +kernel
theorem dX10_first_26 : decode cX10_first 26 = .ok (.invokevirtual 241, 3) := by decide +kernel
theorem dX10_first_29 : decode cX10_first 29 = .ok (.istore_n 2, 1) := by decide +kernel
theorem dX10_first_30 : decode cX10_first 30 = .ok (.iconst 0, 1) := by decide +kernel
theorem dX10_first_31 : decode cX10_first 31 = .ok (.istore_n 3, 1) := by decide +kernel
theorem dX10_first_32 : decode cX10_first 32 = .ok (.iload_n 2, 1) := by decide +kernel
theorem dX10_first_33 : decode cX10_first 33 = .ok (.iconst (-1), 1) := by decide +kernel
theorem dX10_first_34 : decode cX10_first 34 = .ok (.if_icmp .ne 42, 3) := by decide +kernel
theorem dX10_first_37 : decode cX10_first 37 = .ok (.iload_n 3, 1) := by decide +kernel
theorem dX10_first_38 : decode cX10_first 38 = .ok (.bipush 99, 2) := by decide +kernel
theorem dX10_first_40 : decode cX10_first 40 = .ok (.if_icmp .ge 36, 3) := by decide +kernel
theorem dX10_first_43 : decode cX10_first 43 = .ok (.aload_n 0, 1) := by decide +kernel
theorem dX10_first_44 : decode cX10_first 44 = .ok (.getfield 35, 3) := by decide +kernel
theorem dX10_first_47 : decode cX10_first 47 = .ok (.aload_n 0, 1) := by decide +kernel
theorem dX10_first_48 : decode cX10_first 48 = .ok (.getfield 55, 3) := by decide +kernel
theorem dX10_first_51 : decode cX10_first 51 = .ok (.iconst 1, 1) := by decide +kernel
theorem dX10_first_52 : decode cX10_first 52 = .ok (.invokevirtual 227, 3) := by decide +kernel
theorem dX10_first_55 : decode cX10_first 55 = .ok (.iinc 3 1, 3) := by decide +kernel
theorem dX10_first_58 : decode cX10_first 58 = .ok (.aload_n 0, 1) := by decide +kernel
theorem dX10_first_59 : decode cX10_first 59 = .ok (.getfield 55, 3) := by decide +kernel
theorem dX10_first_62 : decode cX10_first 62 = .ok (.aload_n 0, 1) := by decide +kernel
theorem dX10_first_63 : decode cX10_first 63 = .ok (.getfield 16, 3) := by decide +kernel
theorem dX10_first_66 : decode cX10_first 66 = .ok (.getfield 118, 3) := by decide +kernel
theorem dX10_first_69 : decode cX10_first 69 = .ok (.invokevirtual 241, 3) := by decide +kernel
theorem dX10_first_72 : decode cX10_first 72 = .ok (.istore_n 2, 1) := by decide +kernel
theorem dX10_first_73 : decode cX10_first 73 = .ok (.goto (-41), 3) := by decide +kernel
theorem dX10_first_76 : decode cX10_first 76 = .ok (.iload_n 2, 1) := by decide +kernel
theorem dX10_first_77 : decode cX10_first 77 = .ok (.iconst (-1), 1) := by decide +kernel
theorem dX10_first_78 : decode cX10_first 78 = .ok (.if_icmp .ne 6, 3) := by decide +kernel
theorem dX10_first_81 : decode cX10_first 81 = .ok (.bipush (-2), 2) := by decide +kernel
theorem dX10_first_83 : decode cX10_first 83 = .ok (.ireturn, 1) := by decide +kernel
theorem dX10_first_84 : decode cX10_first 84 = .ok (.iload_n 1, 1) := by decide +kernel
theorem dX10_first_85 : decode cX10_first 85 = .ok (.ifCond .ne 7, 3) := by decide +kernel
theorem dX10_first_88 : decode cX10_first 88 = .ok (.iload_n 3, 1) := by decide +kernel
theorem dX10_first_89 : decode cX10_first 89 = .ok (.goto 4, 3) := by decide +kernel
