theorem dX0_init_0 : decode cX0_init 0 = .ok (.aload_n 0, 1) := by decide +kernel
theorem dX0_init_1 : decode cX0_init 1 = .ok (.invokespecial 3, 3) := by decide +kernel
theorem dX0_init_4 : decode cX0_init 4 = .ok (.aload_n 0, 1) := by decide +kernel
theorem dX0_init_5 : decode cX0_init 5 = .ok (.bipush 40, 2) := by decide +kernel
theorem dX0_init_7 : decode cX0_init 7 = .ok (.newarray .int, 2) := by decide +kernel
theorem dX0_init_9 : decode cX0_init 9 = .ok (.putfield 9, 3) := by decide +kernel
theorem dX0_init_12 : decode cX0_init 12 = .ok (.aload_n 0, 1) := by decide +kernel
theorem dX0_init_13 : decode cX0_init 13 = .ok (.bipush 40, 2) := by decide +kernel
theorem dX0_init_15 : decode cX0_init 15 = .ok (.newarray .int, 2) := by decide +kernel
theorem dX0_init_17 : decode cX0_init 17 = .ok (.putfield 15, 3) := by decide +kernel
theorem dX0_init_20 : decode cX0_init 20 = .ok (.aload_n 0, 1) := by decide +kernel
theorem dX0_init_21 : decode cX0_init 21 = .ok (.iconst 3, 1) := by decide +kernel
theorem dX0_init_22 : decode cX0_init 22 = .ok (.newarray .int, 2) := by decide +kernel
theorem dX0_init_24 : decode cX0_init 24 = .ok (.putfield 18, 3) := by decide +kernel
theorem dX0_init_27 : decode cX0_init 27 = .ok (.aload_n 0, 1) := by decide +kernel
theorem dX0_init_28 : decode cX0_init 28 = .ok (.bipush 7, 2) := by decide +kernel
theorem dX0_init_30 : decode cX0_init 30 = .ok (.newarray .int, 2) := by decide +kernel
theorem dX0_init_32 : decode cX0_init 32 = .ok (.putfield 21, 3) := by decide +kernel
theorem dX0_init_35 : decode cX0_init 35 = .ok (.aload_n 0, 1) := by decide +kernel
theorem dX0_init_36 : decode cX0_init 36 = .ok (.iconst 1, 1) := by decide +kernel
theorem dX0_init_37 : decode cX0_init 37 = .ok (.putfield 24, 3) := by decide +kernel
theorem dX0_init_40 : decode cX0_init 40 = .ok (.return_, 1) := by decide +kernel
theorem dX0_freshen_0 : decode cX0_freshen 0 = .ok (.iconst 0, 1) := by decide +kernel
theorem dX0_freshen_1 : decode cX0_freshen 1 = .ok (.istore_n 1, 1) := by decide +kernel
theorem dX0_freshen_2 : decode cX0_freshen 2 = .ok (.iload_n 1, 1) := by decide +kernel
theorem dX0_freshen_3 : decode cX0_freshen 3 = .ok (.bipush 40, 2) := by decide +kernel
theorem dX0_freshen_5 : decode cX0_freshen 5 = .ok (.if_icmp .ge 23, 3) := by decide +kernel
theorem dX0_freshen_8 : decode cX0_freshen 8 = .ok (.aload_n 0, 1) := by decide +kernel
theorem dX0_freshen_9 : decode cX0_freshen 9 = .ok (.getfield 9, 3) := by decide +kernel
theorem dX0_freshen_12 : decode cX0_freshen 12 = .ok (.iload_n 1, 1) := by decide +kernel
theorem dX0_freshen_13 : decode cX0_freshen 13 = .ok (.iconst 0, 1) := by decide +kernel
theorem dX0_freshen_14 : decode cX0_freshen 14 = .ok (.iastore, 1) := by decide +kernel
theorem dX0_freshen_15 : decode cX0_freshen 15 = .ok (.aload_n 0, 1) := by decide +kernel
theorem dX0_freshen_16 : decode cX0_freshen 16 = .ok (.getfield 15, 3) := by decide +kernel
theorem dX0_freshen_19 : decode cX0_freshen 19 = .ok (.iload_n 1, 1) := by decide +kernel
theorem dX0_freshen_20 : decode cX0_freshen 20 = .ok (.iconst 0, 1) := by decide +kernel
theorem dX0_freshen_21 : decode cX0_freshen 21 = .ok (.iastore, 1) := by decide +kernel
theorem dX0_freshen_22 : decode cX0_freshen 22 = .ok (.iinc 1 1, 3) := by decide +kernel
theorem dX0_freshen_25 : decode cX0_freshen 25 = .ok (.goto (-23), 3) := by decide +kernel
theorem dX0_freshen_28 : decode cX0_freshen 28 = .ok (.iconst 0, 1) := by decide +kernel
theorem dX0_freshen_29 : decode cX0_freshen 29 = .ok (.istore_n 1, 1) := by decide +kernel
theorem dX0_freshen_30 : decode cX0_freshen 30 = .ok (.iload_n 1, 1) := by decide +kernel
theorem dX0_freshen_31 : decode cX0_freshen 31 = .ok (.iconst 3, 1) := by decide +kernel
theorem dX0_freshen_32 : decode cX0_freshen 32 = .ok (.if_icmp .ge 16, 3) := by decide +kernel
theorem dX0_freshen_35 : decode cX0_freshen 35 = .ok (.aload_n 0, 1) := by decide +kernel
theorem dX0_freshen_36 : decode cX0_freshen 36 = .ok (.getfield 18, 3) := by decide +kernel
theorem dX0_freshen_39 : decode cX0_freshen 39 = .ok (.iload_n 1, 1) := by decide +kernel
theorem dX0_freshen_40 : decode cX0_freshen 40 = .ok (.iconst 0, 1) := by decide +kernel
theorem dX0_freshen_41 : decode cX0_freshen 41 = .ok (.iastore, 1) := by decide +kernel
theorem dX0_freshen_42 : decode cX0_freshen 42 = .ok (.iinc 1 1, 3) := by decide +kernel
theorem dX0_freshen_45 : decode cX0_freshen 45 = .ok (.goto (-15), 3) := by decide +kernel
theorem dX0_freshen_48 : decode cX0_freshen 48 = .ok (.aload_n 0, 1) := by decide +kernel
theorem dX0_freshen_49 : decode cX0_freshen 49 = .ok (.lconst 0, 1) := by decide +kernel
theorem dX0_freshen_50 : decode cX0_freshen 50 = .ok (.putfield 28, 3) := by decide +kernel
theorem dX0_freshen_53 : decode cX0_freshen 53 = .ok (.aload_n 0, 1) := by decide +kernel
theorem dX0_freshen_54 : decode cX0_freshen 54 = .ok (.lconst 0, 1) := by decide +kernel
theorem dX0_freshen_55 : decode cX0_freshen 55 = .ok (.putfield 32, 3) := by decide +kernel
theorem dX0_freshen_58 : decode cX0_freshen 58 = .ok (.aload_n 0, 1) := by decide +kernel
theorem dX0_freshen_59 : decode cX0_freshen 59 = .ok (.iconst 0, 1) := by decide +kernel
theorem dX0_freshen_60 : decode cX0_freshen 60 = .ok (.putfield 35, 3) := by decide +kernel
theorem dX0_freshen_63 : decode cX0_freshen 63 = .ok (.aload_n 0, 1) := by decide +kernel
theorem dX0_freshen_64 : decode cX0_freshen 64 = .ok (.iconst 0, 1) := by decide +kernel
theorem dX0_freshen_65 : decode cX0_freshen 65 = .ok (.putfield 38, 3) := by decide +kernel
theorem dX0_freshen_68 : decode cX0_freshen 68 = .ok (.return_, 1) := by decide +kernel
theorem dX0_copy_0 : decode cX0_copy 0 = .ok (.iconst 0, 1) := by decide +kernel
theorem dX0_copy_1 : decode cX0_copy 1 = .ok (.istore_n 2, 1) := by decide +kernel
theorem dX0_copy_2 : decode cX0_copy 2 = .ok (.iload_n 2, 1) := by decide +kernel
theorem dX0_copy_3 : decode cX0_copy 3 = .ok (.bipush 40, 2) := by decide +kernel
theorem dX0_copy_5 : decode cX0_copy 5 = .ok (.if_icmp .ge 33, 3) := by decide +kernel
theorem dX0_copy_8 : decode cX0_copy 8 = .ok (.aload_n 0, 1) := by decide +kernel
theorem dX0_copy_9 : decode cX0_copy 9 = .ok (.getfield 9, 3) := by decide +kernel
theorem dX0_copy_12 : decode cX0_copy 12 = .ok (.iload_n 2, 1) := by decide +kernel
theorem dX0_copy_13 : decode cX0_copy 13 = .ok (.aload_n 1, 1) := by decide +kernel
theorem dX0_copy_14 : decode cX0_copy 14 = .ok (.getfield 9, 3) := by decide +kernel
theorem dX0_copy_17 : decode cX0_copy 17 = .ok (.iload_n 2, 1) := by decide +kernel
theorem dX0_copy_18 : decode cX0_copy 18 = .ok (.iaload, 1) := by decide +kernel
theorem dX0_copy_19 : decode cX0_copy 19 = .ok (.iastore, 1) := by decide +kernel
theorem dX0_copy_20 : decode cX0_copy 20 = .ok (.aload_n 0, 1) := by decide +kernel
theorem dX0_copy_21 : decode cX0_copy 21 = .ok (.getfield 15, 3) := by decide +kernel
theorem dX0_copy_24 : decode cX0_copy 24 = .ok (.iload_n 2, 1) := by decide +kernel
theorem dX0_copy_25 : decode cX0_copy 25 = .ok (.aload_n 1, 1) := by decide +kernel
theorem dX0_copy_26 : decode cX0_copy 26 = .ok (.getfield 15, 3) := by decide +kernel
theorem dX0_copy_29 : decode cX0_copy 29 = .ok (.iload_n 2, 1) := by decide +kernel
theorem dX0_copy_30 : decode cX0_copy 30 = .ok (.iaload, 1) := by decide +kernel
theorem dX0_copy_31 : decode cX0_copy 31 = .ok (.iastore, 1) := by decide +kernel
theorem dX0_copy_32 : decode cX0_copy 32 = .ok (.iinc 2 1, 3) := by decide +kernel
theorem dX0_copy_35 : decode cX0_copy 35 = .ok (.goto (-33), 3) := by decide +kernel
theorem dX0_copy_38 : decode cX0_copy 38 = .ok (.iconst 0, 1) := by decide +kernel
theorem dX0_copy_39 : decode cX0_copy 39 = .ok (.istore_n 2, 1) := by decide +kernel
theorem dX0_copy_40 : decode cX0_copy 40 = .ok (.iload_n 2, 1) := by decide +kernel
theorem dX0_copy_41 : decode cX0_copy 41 = .ok (.iconst 3, 1) := by decide +kernel
theorem dX0_copy_42 : decode cX0_copy 42 = .ok (.if_icmp .ge 21, 3) := by decide +kernel
theorem dX0_copy_45 : decode cX0_copy 45 = .ok (.aload_n 0, 1) := by decide +kernel
theorem dX0_copy_46 : decode cX0_copy 46 = .ok (.getfield 18, 3) := by decide +kernel
theorem dX0_copy_49 : decode cX0_copy 49 = .ok (.iload_n 2, 1) := by decide +kernel
theorem dX0_copy_50 : decode cX0_copy 50 = .ok (.aload_n 1, 1) := by decide +kernel
theorem dX0_copy_51 : decode cX0_copy 51 = .ok (.getfield 18, 3) := by decide +kernel
theorem dX0_copy_54 : decode cX0_copy 54 = .ok (.iload_n 2, 1) := by decide +kernel
theorem dX0_copy_55 : decode cX0_copy 55 = .ok (.iaload, 1) := by decide +kernel
theorem dX0_copy_56 : decode cX0_copy 56 = .ok (.iastore, 1) := by decide +kernel
theorem dX0_copy_57 : decode cX0_copy 57 = .ok (.iinc 2 1, 3) := by decide +kernel
theorem dX0_copy_60 : decode cX0_copy 60 = .ok (.goto (-20), 3) := by decide +kernel
theorem dX0_copy_63 : decode cX0_copy 63 = .ok (.aload_n 0, 1) := by decide +kernel
theorem dX0_copy_64 : decode cX0_copy 64 = .ok (.aload_n 1, 1) := by decide +kernel
theorem dX0_copy_65 : decode cX0_copy 65 = .ok (.getfield 28, 3) := by decide +kernel
theorem dX0_copy_68 : decode cX0_copy 68 = .ok (.putfield 28, 3) := by decide +kernel
theorem dX0_copy_71 : decode cX0_copy 71 = .ok (.aload_n 0, 1) := by decide +kernel
theorem dX0_copy_72 : decode cX0_copy 72 = .ok (.aload_n 1, 1) := by decide +kernel
theorem dX0_copy_73 : decode cX0_copy 73 = .ok (.getfield 32, 3) := by decide +kernel
theorem dX0_copy_76 : decode cX0_copy 76 = .ok (.putfield 32, 3) := by decide +kernel
theorem dX0_copy_79 : decode cX0_copy 79 = .ok (.aload_n 0, 1) := by decide +kernel
theorem dX0_copy_80 : decode cX0_copy 80 = .ok (.aload_n 1, 1) := by decide +kernel
theorem dX0_copy_81 : decode cX0_copy 81 = .ok (.getfield 35, 3) := by decide +kernel
theorem dX0_copy_84 : decode cX0_copy 84 = .ok (.putfield 35, 3) := by decide +kernel
theorem dX0_copy_87 : decode cX0_copy 87 = .ok (.aload_n 0, 1) := by decide +kernel
theorem dX0_copy_88 : decode cX0_copy 88 = .ok (.aload_n 1, 1) := by decide +kernel
theorem dX0_copy_89 : decode cX0_copy 89 = .ok (.getfield 38, 3) := by decide +kernel
theorem dX0_copy_92 : decode cX0_copy 92 = .ok (.putfield 38, 3) := by decide +kernel
theorem dX0_copy_95 : decode cX0_copy 95 = .ok (.aload_n 0, 1) := by decide +kernel
theorem dX0_copy_96 : decode cX0_copy 96 = .ok (.aload_n 1, 1) := by decide +kernel
theorem dX0_copy_97 : decode cX0_copy 97 = .ok (.getfield 24, 3) := by decide +kernel
theorem dX0_copy_100 : decode cX0_copy 100 = .ok (.putfield 24, 3) := by decide +kernel
theorem dX0_copy_103 : decode cX0_copy 103 = .ok (.return_, 1) := by decide +kernel
theorem dX0_stateOf_0 : decode cX0_stateOf 0 = .ok (.iload_n 1, 1) := by decide +kernel
theorem dX0_stateOf_1 : decode cX0_stateOf 1 = .ok (.ifCond .lt 18, 3) := by decide +kernel
theorem dX0_stateOf_4 : decode cX0_stateOf 4 = .ok (.iload_n 1, 1) := by decide +kernel
theorem dX0_stateOf_5 : decode cX0_stateOf 5 = .ok (.bipush 40, 2) := by decide +kernel
theorem dX0_stateOf_7 : decode cX0_stateOf 7 = .ok (.if_icmp .ge 12, 3) := by decide +kernel
theorem dX0_stateOf_10 : decode cX0_stateOf 10 = .ok (.aload_n 0, 1) := by decide +kernel
theorem dX0_stateOf_11 : decode cX0_stateOf 11 = .ok (.getfield 9, 3) := by decide +kernel
theorem dX0_stateOf_14 : decode cX0_stateOf 14 = .ok (.iload_n 1, 1) := by decide +kernel
theorem dX0_stateOf_15 : decode cX0_stateOf 15 = .ok (.iaload, 1) := by decide +kernel
theorem dX0_stateOf_16 : decode cX0_stateOf 16 = .ok (.goto 4, 3) := by decide +kernel
theorem dX0_stateOf_19 : decode cX0_stateOf 19 = .ok (.iconst (-1), 1) := by decide +kernel
theorem dX0_stateOf_20 : decode cX0_stateOf 20 = .ok (.ireturn, 1) := by decide +kernel
theorem dX0_risesOf_0 : decode cX0_risesOf 0 = .ok (.iload_n 1, 1) := by decide +kernel
theorem dX0_risesOf_1 : decode cX0_risesOf 1 = .ok (.ifCond .lt 18, 3) := by decide +kernel
theorem dX0_risesOf_4 : decode cX0_risesOf 4 = .ok (.iload_n 1, 1) := by decide +kernel
theorem dX0_risesOf_5 : decode cX0_risesOf 5 = .ok (.bipush 40, 2) := by decide +kernel
theorem dX0_risesOf_7 : decode cX0_risesOf 7 = .ok (.if_icmp .ge 12, 3) := by decide +kernel
theorem dX0_risesOf_10 : decode cX0_risesOf 10 = .ok (.aload_n 0, 1) := by decide +kernel
theorem dX0_risesOf_11 : decode cX0_risesOf 11 = .ok (.getfield 15, 3) := by decide +kernel
theorem dX0_risesOf_14 : decode cX0_risesOf 14 = .ok (.iload_n 1, 1) := by decide +kernel
theorem dX0_risesOf_15 : decode cX0_risesOf 15 = .ok (.iaload, 1) := by decide +kernel
theorem dX0_risesOf_16 : decode cX0_risesOf 16 = .ok (.goto 4, 3) := by decide +kernel
theorem dX0_risesOf_19 : decode cX0_risesOf 19 = .ok (.iconst (-1), 1) := by decide +kernel
theorem dX0_risesOf_20 : decode cX0_risesOf 20 = .ok (.ireturn, 1) := by decide +kernel
theorem dX0_risenBy_0 : decode cX0_risenBy 0 = .ok (.iload_n 1, 1) := by decide +kernel
theorem dX0_risenBy_1 : decode cX0_risenBy 1 = .ok (.ifCond .lt 17, 3) := by decide +kernel
theorem dX0_risenBy_4 : decode cX0_risenBy 4 = .ok (.iload_n 1, 1) := by decide +kernel
theorem dX0_risenBy_5 : decode cX0_risenBy 5 = .ok (.iconst 3, 1) := by decide +kernel
theorem dX0_risenBy_6 : decode cX0_risenBy 6 = .ok (.if_icmp .ge 12, 3) := by decide +kernel
theorem dX0_risenBy_9 : decode cX0_risenBy 9 = .ok (.aload_n 0, 1) := by decide +kernel
theorem dX0_risenBy_10 : decode cX0_risenBy 10 = .ok (.getfield 18, 3) := by decide +kernel
theorem dX0_risenBy_13 : decode cX0_risenBy 13 = .ok (.iload_n 1, 1) := by decide +kernel
theorem dX0_risenBy_14 : decode cX0_risenBy 14 = .ok (.iaload, 1) := by decide +kernel
theorem dX0_risenBy_15 : decode cX0_risenBy 15 = .ok (.goto 4, 3) := by decide +kernel
theorem dX0_risenBy_18 : decode cX0_risenBy 18 = .ok (.iconst (-1), 1) := by decide +kernel
theorem dX0_risenBy_19 : decode cX0_risenBy 19 = .ok (.ireturn, 1) := by decide +kernel
theorem dX0_raise_0 : decode cX0_raise 0 = .ok (.iconst 0, 1) := by decide +kernel
theorem dX0_raise_1 : decode cX0_raise 1 = .ok (.istore 4, 2) := by decide +kernel
theorem dX0_raise_3 : decode cX0_raise 3 = .ok (.iconst 0, 1) := by decide +kernel
theorem dX0_raise_4 : decode cX0_raise 4 = .ok (.istore 5, 2) := by decide +kernel
theorem dX0_raise_6 : decode cX0_raise 6 = .ok (.iload 5, 2) := by decide +kernel
theorem dX0_raise_8 : decode cX0_raise 8 = .ok (.bipush 40, 2) := by decide +kernel
theorem dX0_raise_10 : decode cX0_raise 10 = .ok (.if_icmp .ge 85, 3) := by decide +kernel
theorem dX0_raise_13 : decode cX0_raise 13 = .ok (.lload_n 2, 1) := by decide +kernel
theorem dX0_raise_14 : decode cX0_raise 14 = .ok (.aload_n 1, 1) := by decide +kernel
theorem dX0_raise_15 : decode cX0_raise 15 = .ok (.getfield 41, 3) := by decide +kernel
theorem dX0_raise_18 : decode cX0_raise 18 = .ok (.ldc2_w 46, 3) := by decide +kernel
theorem dX0_raise_21 : decode cX0_raise 21 = .ok (.lxor, 1) := by decide +kernel
theorem dX0_raise_22 : decode cX0_raise 22 = .ok (.land, 1) := by decide +kernel
theorem dX0_raise_23 : decode cX0_raise 23 = .ok (.iload 5, 2) := by decide +kernel
theorem dX0_raise_25 : decode cX0_raise 25 = .ok (.invokestatic 48, 3) := by decide +kernel
theorem dX0_raise_28 : decode cX0_raise 28 = .ok (.ifCond .eq 61, 3) := by decide +kernel
theorem dX0_raise_31 : decode cX0_raise 31 = .ok (.aload_n 0, 1) := by decide +kernel
theorem dX0_raise_32 : decode cX0_raise 32 = .ok (.getfield 9, 3) := by decide +kernel
theorem dX0_raise_35 : decode cX0_raise 35 = .ok (.iload 5, 2) := by decide +kernel
theorem dX0_raise_37 : decode cX0_raise 37 = .ok (.iaload, 1) := by decide +kernel
theorem dX0_raise_38 : decode cX0_raise 38 = .ok (.ifCond .ne 51, 3) := by decide +kernel
theorem dX0_raise_41 : decode cX0_raise 41 = .ok (.aload_n 0, 1) := by decide +kernel
theorem dX0_raise_42 : decode cX0_raise 42 = .ok (.getfield 9, 3) := by decide +kernel
theorem dX0_raise_45 : decode cX0_raise 45 = .ok (.iload 5, 2) := by decide +kernel
theorem dX0_raise_47 : decode cX0_raise 47 = .ok (.iconst 1, 1) := by decide +kernel
theorem dX0_raise_48 : decode cX0_raise 48 = .ok (.iastore, 1) := by decide +kernel
theorem dX0_raise_49 : decode cX0_raise 49 = .ok (.aload_n 0, 1) := by decide +kernel
theorem dX0_raise_50 : decode cX0_raise 50 = .ok (.getfield 15, 3) := by decide +kernel
theorem dX0_raise_53 : decode cX0_raise 53 = .ok (.iload 5, 2) := by decide +kernel
theorem dX0_raise_55 : decode cX0_raise 55 = .ok (.dup2, 1) := by decide +kernel
theorem dX0_raise_56 : decode cX0_raise 56 = .ok (.iaload, 1) := by decide +kernel
theorem dX0_raise_57 : decode cX0_raise 57 = .ok (.iconst 1, 1) := by decide +kernel
theorem dX0_raise_58 : decode cX0_raise 58 = .ok (.iadd, 1) := by decide +kernel
theorem dX0_raise_59 : decode cX0_raise 59 = .ok (.iastore, 1) := by decide +kernel
theorem dX0_raise_60 : decode cX0_raise 60 = .ok (.aload_n 0, 1) := by decide +kernel
theorem dX0_raise_61 : decode cX0_raise 61 = .ok (.dup, 1) := by decide +kernel
theorem dX0_raise_62 : decode cX0_raise 62 = .ok (.getfield 28, 3) := by decide +kernel
theorem dX0_raise_65 : decode cX0_raise 65 = .ok (.lconst 1, 1) := by decide +kernel
theorem dX0_raise_66 : decode cX0_raise 66 = .ok (.iload 5, 2) := by decide +kernel
theorem dX0_raise_68 : decode cX0_raise 68 = .ok (.lshl, 1) := by decide +kernel
theorem dX0_raise_69 : decode cX0_raise 69 = .ok (.lor, 1) := by decide +kernel
theorem dX0_raise_70 : decode cX0_raise 70 = .ok (.putfield 28, 3) := by decide +kernel
theorem dX0_raise_73 : decode cX0_raise 73 = .ok (.aload_n 0, 1) := by decide +kernel
theorem dX0_raise_74 : decode cX0_raise 74 = .ok (.dup, 1) := by decide +kernel
theorem dX0_raise_75 : decode cX0_raise 75 = .ok (.getfield 32, 3) := by decide +kernel
theorem dX0_raise_78 : decode cX0_raise 78 = .ok (.lconst 1, 1) := by decide +kernel
theorem dX0_raise_79 : decode cX0_raise 79 = .ok (.iload 5, 2) := by decide +kernel
theorem dX0_raise_81 : decode cX0_raise 81 = .ok (.lshl, 1) := by decide +kernel
theorem dX0_raise_82 : decode cX0_raise 82 = .ok (.lor, 1) := by decide +kernel
theorem dX0_raise_83 : decode cX0_raise 83 = .ok (.putfield 32, 3) := by decide +kernel
theorem dX0_raise_86 : decode cX0_raise 86 = .ok (.iinc 4 1, 3) := by decide +kernel
theorem dX0_raise_89 : decode cX0_raise 89 = .ok (.iinc 5 1, 3) := by decide +kernel
theorem dX0_raise_92 : decode cX0_raise 92 = .ok (.goto (-86), 3) := by decide +kernel
theorem dX0_raise_95 : decode cX0_raise 95 = .ok (.aload_n 0, 1) := by decide +kernel
theorem dX0_raise_96 : decode cX0_raise 96 = .ok (.dup, 1) := by decide +kernel
theorem dX0_raise_97 : decode cX0_raise 97 = .ok (.getfield 38, 3) := by decide +kernel
theorem dX0_raise_100 : decode cX0_raise 100 = .ok (.iconst 1, 1) := by decide +kernel
theorem dX0_raise_101 : decode cX0_raise 101 = .ok (.iadd, 1) := by decide +kernel
theorem dX0_raise_102 : decode cX0_raise 102 = .ok (.putfield 38, 3) := by decide +kernel
theorem dX0_raise_105 : decode cX0_raise 105 = .ok (.iload 4, 2) := by decide +kernel
theorem dX0_raise_107 : decode cX0_raise 107 = .ok (.ireturn, 1) := by decide +kernel
theorem dX0_willing_0 : decode cX0_willing 0 = .ok (.aload_n 0, 1) := by decide +kernel
theorem dX0_willing_1 : decode cX0_willing 1 = .ok (.getfield 21, 3) := by decide +kernel
theorem dX0_willing_4 : decode cX0_willing 4 = .ok (.iconst 2, 1) := by decide +kernel
theorem dX0_willing_5 : decode cX0_willing 5 = .ok (.aload_n 1, 1) := by decide +kernel
theorem dX0_willing_6 : decode cX0_willing 6 = .ok (.aload_n 0, 1) := by decide +kernel
theorem dX0_willing_7 : decode cX0_willing 7 = .ok (.getfield 35, 3) := by decide +kernel
theorem dX0_willing_10 : decode cX0_willing 10 = .ok (.iconst 1, 1) := by decide +kernel
theorem dX0_willing_11 : decode cX0_willing 11 = .ok (.iadd, 1) := by decide +kernel
theorem dX0_willing_12 : decode cX0_willing 12 = .ok (.invokevirtual 52, 3) := by decide +kernel
theorem dX0_willing_15 : decode cX0_willing 15 = .ok (.iastore, 1) := by decide +kernel
theorem dX0_willing_16 : decode cX0_willing 16 = .ok (.aload_n 0, 1) := by decide +kernel
theorem dX0_willing_17 : decode cX0_willing 17 = .ok (.getfield 21, 3) := by decide +kernel
theorem dX0_willing_20 : decode cX0_willing 20 = .ok (.iconst 3, 1) := by decide +kernel
theorem dX0_willing_21 : decode cX0_willing 21 = .ok (.aload_n 0, 1) := by decide +kernel
theorem dX0_willing_22 : decode cX0_willing 22 = .ok (.getfield 38, 3) := by decide +kernel
theorem dX0_willing_25 : decode cX0_willing 25 = .ok (.iastore, 1) := by decide +kernel
theorem dX0_willing_26 : decode cX0_willing 26 = .ok (.aload_n 0, 1) := by decide +kernel
theorem dX0_willing_27 : decode cX0_willing 27 = .ok (.getfield 21, 3) := by decide +kernel
theorem dX0_willing_30 : decode cX0_willing 30 = .ok (.iconst 5, 1) := by decide +kernel
theorem dX0_willing_31 : decode cX0_willing 31 = .ok (.aload_n 0, 1) := by decide +kernel
theorem dX0_willing_32 : decode cX0_willing 32 = .ok (.getfield 28, 3) := by decide +kernel
theorem dX0_willing_35 : decode cX0_willing 35 = .ok (.invokestatic 56, 3) := by decide +kernel
theorem dX0_willing_38 : decode cX0_willing 38 = .ok (.iastore, 1) := by decide +kernel
theorem dX0_willing_39 : decode cX0_willing 39 = .ok (.aload_n 0, 1) := by decide +kernel
theorem dX0_willing_40 : decode cX0_willing 40 = .ok (.getfield 21, 3) := by decide +kernel
theorem dX0_willing_43 : decode cX0_willing 43 = .ok (.bipush 6, 2) := by decide +kernel
theorem dX0_willing_45 : decode cX0_willing 45 = .ok (.aload_n 0, 1) := by decide +kernel
theorem dX0_willing_46 : decode cX0_willing 46 = .ok (.getfield 35, 3) := by decide +kernel
theorem dX0_willing_49 : decode cX0_willing 49 = .ok (.iconst 1, 1) := by decide +kernel
theorem dX0_willing_50 : decode cX0_willing 50 = .ok (.iadd, 1) := by decide +kernel
theorem dX0_willing_51 : decode cX0_willing 51 = .ok (.iastore, 1) := by decide +kernel
theorem dX0_willing_52 : decode cX0_willing 52 = .ok (.aload_n 1, 1) := by decide +kernel
theorem dX0_willing_53 : decode cX0_willing 53 = .ok (.getfield 41, 3) := by decide +kernel
theorem dX0_willing_56 : decode cX0_willing 56 = .ok (.lload_n 2, 1) := by decide +kernel
theorem dX0_willing_57 : decode cX0_willing 57 = .ok (.lor, 1) := by decide +kernel
theorem dX0_willing_58 : decode cX0_willing 58 = .ok (.lstore 4, 2) := by decide +kernel
theorem dX0_willing_60 : decode cX0_willing 60 = .ok (.lconst 0, 1) := by decide +kernel
theorem dX0_willing_61 : decode cX0_willing 61 = .ok (.lstore 6, 2) := by decide +kernel
theorem dX0_willing_63 : decode cX0_willing 63 = .ok (.iconst 0, 1) := by decide +kernel
theorem dX0_willing_64 : decode cX0_willing 64 = .ok (.istore 8, 2) := by decide +kernel
theorem dX0_willing_66 : decode cX0_willing 66 = .ok (.iload 8, 2) := by decide +kernel
theorem dX0_willing_68 : decode cX0_willing 68 = .ok (.bipush 40, 2) := by decide +kernel
theorem dX0_willing_70 : decode cX0_willing 70 = .ok (.if_icmp .ge 81, 3) := by decide +kernel
theorem dX0_willing_73 : decode cX0_willing 73 = .ok (.iload 8, 2) := by decide +kernel
theorem dX0_willing_75 : decode cX0_willing 75 = .ok (.aload_n 1, 1) := by decide +kernel
theorem dX0_willing_76 : decode cX0_willing 76 = .ok (.getfield 62, 3) := by decide +kernel
theorem dX0_willing_79 : decode cX0_willing 79 = .ok (.if_icmp .ge 72, 3) := by decide +kernel
theorem dX0_willing_82 : decode cX0_willing 82 = .ok (.aload_n 0, 1) := by decide +kernel
theorem dX0_willing_83 : decode cX0_willing 83 = .ok (.getfield 9, 3) := by decide +kernel
theorem dX0_willing_86 : decode cX0_willing 86 = .ok (.iload 8, 2) := by decide +kernel
theorem dX0_willing_88 : decode cX0_willing 88 = .ok (.iaload, 1) := by decide +kernel
theorem dX0_willing_89 : decode cX0_willing 89 = .ok (.ifCond .ne 56, 3) := by decide +kernel
theorem dX0_willing_92 : decode cX0_willing 92 = .ok (.lload 4, 2) := by decide +kernel
theorem dX0_willing_94 : decode cX0_willing 94 = .ok (.iload 8, 2) := by decide +kernel
theorem dX0_willing_96 : decode cX0_willing 96 = .ok (.invokestatic 48, 3) := by decide +kernel
theorem dX0_willing_99 : decode cX0_willing 99 = .ok (.ifCond .ne 46, 3) := by decide +kernel
theorem dX0_willing_102 : decode cX0_willing 102 = .ok (.aload_n 0, 1) := by decide +kernel
theorem dX0_willing_103 : decode cX0_willing 103 = .ok (.aload_n 1, 1) := by decide +kernel
theorem dX0_willing_104 : decode cX0_willing 104 = .ok (.iload 8, 2) := by decide +kernel
theorem dX0_willing_106 : decode cX0_willing 106 = .ok (.invokevirtual 65, 3) := by decide +kernel
theorem dX0_willing_109 : decode cX0_willing 109 = .ok (.aload_n 0, 1) := by decide +kernel
theorem dX0_willing_110 : decode cX0_willing 110 = .ok (.getfield 21, 3) := by decide +kernel
theorem dX0_willing_113 : decode cX0_willing 113 = .ok (.iconst 4, 1) := by decide +kernel
theorem dX0_willing_114 : decode cX0_willing 114 = .ok (.aload_n 0, 1) := by decide +kernel
theorem dX0_willing_115 : decode cX0_willing 115 = .ok (.getfield 15, 3) := by decide +kernel
theorem dX0_willing_118 : decode cX0_willing 118 = .ok (.iload 8, 2) := by decide +kernel
theorem dX0_willing_120 : decode cX0_willing 120 = .ok (.iaload, 1) := by decide +kernel
theorem dX0_willing_121 : decode cX0_willing 121 = .ok (.iastore, 1) := by decide +kernel
theorem dX0_willing_122 : decode cX0_willing 122 = .ok (.aload_n 1, 1) := by decide +kernel
theorem dX0_willing_123 : decode cX0_willing 123 = .ok (.getfield 69, 3) := by decide +kernel
theorem dX0_willing_126 : decode cX0_willing 126 = .ok (.aload_n 0, 1) := by decide +kernel
theorem dX0_willing_127 : decode cX0_willing 127 = .ok (.getfield 21, 3) := by decide +kernel
theorem dX0_willing_130 : decode cX0_willing 130 = .ok (.invokevirtual 73, 3) := by decide +kernel
theorem dX0_willing_133 : decode cX0_willing 133 = .ok (.ifCond .eq 12, 3) := by decide +kernel
theorem dX0_willing_136 : decode cX0_willing 136 = .ok (.lload 6, 2) := by decide +kernel
theorem dX0_willing_138 : decode cX0_willing 138 = .ok (.lconst 1, 1) := by decide +kernel
theorem dX0_willing_139 : decode cX0_willing 139 = .ok (.iload 8, 2) := by decide +kernel
theorem dX0_willing_141 : decode cX0_willing 141 = .ok (.lshl, 1) := by decide +kernel
theorem dX0_willing_142 : decode cX0_willing 142 = .ok (.lor, 1) := by decide +kernel
theorem dX0_willing_143 : decode cX0_willing 143 = .ok (.lstore 6, 2) := by decide +kernel
theorem dX0_willing_145 : decode cX0_willing 145 = .ok (.iinc 8 1, 3) := by decide +kernel
theorem dX0_willing_148 : decode cX0_willing 148 = .ok (.goto (-82), 3) := by decide +kernel
theorem dX0_willing_151 : decode cX0_willing 151 = .ok (.lload 6, 2) := by decide +kernel
theorem dX0_willing_153 : decode cX0_willing 153 = .ok (.lreturn, 1) := by decide +kernel
theorem dX0_lookAround_0 : decode cX0_lookAround 0 = .ok (.aload_n 1, 1) := by decide +kernel
theorem dX0_lookAround_1 : decode cX0_lookAround 1 = .ok (.aload_n 1, 1) := by decide +kernel
theorem dX0_lookAround_2 : decode cX0_lookAround 2 = .ok (.getfield 79, 3) := by decide +kernel
theorem dX0_lookAround_5 : decode cX0_lookAround 5 = .ok (.invokevirtual 82, 3) := by decide +kernel
theorem dX0_lookAround_8 : decode cX0_lookAround 8 = .ok (.istore_n 3, 1) := by decide +kernel
theorem dX0_lookAround_9 : decode cX0_lookAround 9 = .ok (.aload_n 1, 1) := by decide +kernel
theorem dX0_lookAround_10 : decode cX0_lookAround 10 = .ok (.aload_n 0, 1) := by decide +kernel
theorem dX0_lookAround_11 : decode cX0_lookAround 11 = .ok (.getfield 32, 3) := by decide +kernel
theorem dX0_lookAround_14 : decode cX0_lookAround 14 = .ok (.aload_n 1, 1) := by decide +kernel
theorem dX0_lookAround_15 : decode cX0_lookAround 15 = .ok (.getfield 62, 3) := by decide +kernel
theorem dX0_lookAround_18 : decode cX0_lookAround 18 = .ok (.iload_n 2, 1) := by decide +kernel
theorem dX0_lookAround_19 : decode cX0_lookAround 19 = .ok (.isub, 1) := by decide +kernel
theorem dX0_lookAround_20 : decode cX0_lookAround 20 = .ok (.invokevirtual 85, 3) := by decide +kernel
theorem dX0_lookAround_23 : decode cX0_lookAround 23 = .ok (.lstore 4, 2) := by decide +kernel
theorem dX0_lookAround_25 : decode cX0_lookAround 25 = .ok (.aload_n 0, 1) := by decide +kernel
theorem dX0_lookAround_26 : decode cX0_lookAround 26 = .ok (.getfield 21, 3) := by decide +kernel
theorem dX0_lookAround_29 : decode cX0_lookAround 29 = .ok (.iconst 0, 1) := by decide +kernel
theorem dX0_lookAround_30 : decode cX0_lookAround 30 = .ok (.lload 4, 2) := by decide +kernel
theorem dX0_lookAround_32 : decode cX0_lookAround 32 = .ok (.aload_n 1, 1) := by decide +kernel
theorem dX0_lookAround_33 : decode cX0_lookAround 33 = .ok (.getfield 62, 3) := by decide +kernel
theorem dX0_lookAround_36 : decode cX0_lookAround 36 = .ok (.iload_n 3, 1) := by decide +kernel
theorem dX0_lookAround_37 : decode cX0_lookAround 37 = .ok (.isub, 1) := by decide +kernel
theorem dX0_lookAround_38 : decode cX0_lookAround 38 = .ok (.lushr, 1) := by decide +kernel
theorem dX0_lookAround_39 : decode cX0_lookAround 39 = .ok (.invokestatic 56, 3) := by decide +kernel
theorem dX0_lookAround_42 : decode cX0_lookAround 42 = .ok (.iastore, 1) := by decide +kernel
theorem dX0_lookAround_43 : decode cX0_lookAround 43 = .ok (.aload_n 0, 1) := by decide +kernel
theorem dX0_lookAround_44 : decode cX0_lookAround 44 = .ok (.getfield 21, 3) := by decide +kernel
theorem dX0_lookAround_47 : decode cX0_lookAround 47 = .ok (.iconst 1, 1) := by decide +kernel
theorem dX0_lookAround_48 : decode cX0_lookAround 48 = .ok (.lload 4, 2) := by decide +kernel
theorem dX0_lookAround_50 : decode cX0_lookAround 50 = .ok (.iconst 1, 1) := by decide +kernel
theorem dX0_lookAround_51 : decode cX0_lookAround 51 = .ok (.lushr, 1) := by decide +kernel
theorem dX0_lookAround_52 : decode cX0_lookAround 52 = .ok (.lconst 1, 1) := by decide +kernel
theorem dX0_lookAround_53 : decode cX0_lookAround 53 = .ok (.iload_n 3, 1) := by decide +kernel
theorem dX0_lookAround_54 : decode cX0_lookAround 54 = .ok (.lshl, 1) := by decide +kernel
theorem dX0_lookAround_55 : decode cX0_lookAround 55 = .ok (.lconst 1, 1) := by decide +kernel
theorem dX0_lookAround_56 : decode cX0_lookAround 56 = .ok (.lsub, 1) := by decide +kernel
theorem dX0_lookAround_57 : decode cX0_lookAround 57 = .ok (.land, 1) := by decide +kernel
theorem dX0_lookAround_58 : decode cX0_lookAround 58 = .ok (.invokestatic 56, 3) := by decide +kernel
theorem dX0_lookAround_61 : decode cX0_lookAround 61 = .ok (.iastore, 1) := by decide +kernel
theorem dX0_lookAround_62 : decode cX0_lookAround 62 = .ok (.return_, 1) := by decide +kernel
theorem dX0_liveOn_0 : decode cX0_liveOn 0 = .ok (.aload_n 0, 1) := by decide +kernel
theorem dX0_liveOn_1 : decode cX0_liveOn 1 = .ok (.aload_n 0, 1) := by decide +kernel
theorem dX0_liveOn_2 : decode cX0_liveOn 2 = .ok (.aload_n 1, 1) := by decide +kernel
theorem dX0_liveOn_3 : decode cX0_liveOn 3 = .ok (.aload_n 1, 1) := by decide +kernel
theorem dX0_liveOn_4 : decode cX0_liveOn 4 = .ok (.getfield 89, 3) := by decide +kernel
theorem dX0_liveOn_7 : decode cX0_liveOn 7 = .ok (.invokevirtual 92, 3) := by decide +kernel
theorem dX0_liveOn_10 : decode cX0_liveOn 10 = .ok (.aload_n 1, 1) := by decide +kernel
theorem dX0_liveOn_11 : decode cX0_liveOn 11 = .ok (.getfield 96, 3) := by decide +kernel
theorem dX0_liveOn_14 : decode cX0_liveOn 14 = .ok (.invokevirtual 99, 3) := by decide +kernel
theorem dX0_liveOn_17 : decode cX0_liveOn 17 = .ok (.lstore_n 2, 1) := by decide +kernel
theorem dX0_liveOn_18 : decode cX0_liveOn 18 = .ok (.aload_n 0, 1) := by decide +kernel
theorem dX0_liveOn_19 : decode cX0_liveOn 19 = .ok (.aload_n 1, 1) := by decide +kernel
theorem dX0_liveOn_20 : decode cX0_liveOn 20 = .ok (.lload_n 2, 1) := by decide +kernel
theorem dX0_liveOn_21 : decode cX0_liveOn 21 = .ok (.invokevirtual 102, 3) := by decide +kernel
theorem dX0_liveOn_24 : decode cX0_liveOn 24 = .ok (.aload_n 0, 1) := by decide +kernel
theorem dX0_liveOn_25 : decode cX0_liveOn 25 = .ok (.aload_n 1, 1) := by decide +kernel
theorem dX0_liveOn_26 : decode cX0_liveOn 26 = .ok (.lload_n 2, 1) := by decide +kernel
theorem dX0_liveOn_27 : decode cX0_liveOn 27 = .ok (.invokevirtual 106, 3) := by decide +kernel
theorem dX0_liveOn_30 : decode cX0_liveOn 30 = .ok (.lload_n 2, 1) := by decide +kernel
theorem dX0_liveOn_31 : decode cX0_liveOn 31 = .ok (.lreturn, 1) := by decide +kernel
theorem dX0_dreamOn_0 : decode cX0_dreamOn 0 = .ok (.aload_n 0, 1) := by decide +kernel
theorem dX0_dreamOn_1 : decode cX0_dreamOn 1 = .ok (.aload_n 1, 1) := by decide +kernel
theorem dX0_dreamOn_2 : decode cX0_dreamOn 2 = .ok (.lload_n 2, 1) := by decide +kernel
theorem dX0_dreamOn_3 : decode cX0_dreamOn 3 = .ok (.invokevirtual 92, 3) := by decide +kernel
theorem dX0_dreamOn_6 : decode cX0_dreamOn 6 = .ok (.lstore 4, 2) := by decide +kernel
theorem dX0_dreamOn_8 : decode cX0_dreamOn 8 = .ok (.aload_n 0, 1) := by decide +kernel
theorem dX0_dreamOn_9 : decode cX0_dreamOn 9 = .ok (.aload_n 1, 1) := by decide +kernel
theorem dX0_dreamOn_10 : decode cX0_dreamOn 10 = .ok (.lload 4, 2) := by decide +kernel
theorem dX0_dreamOn_12 : decode cX0_dreamOn 12 = .ok (.invokevirtual 106, 3) := by decide +kernel
theorem dX0_dreamOn_15 : decode cX0_dreamOn 15 = .ok (.lload 4, 2) := by decide +kernel
theorem dX0_dreamOn_17 : decode cX0_dreamOn 17 = .ok (.lreturn, 1) := by decide +kernel
theorem dX0_tillNobodyUp_0 : decode cX0_tillNobodyUp 0 = .ok (.iconst 0, 1) := by decide +kernel
theorem dX0_tillNobodyUp_1 : decode cX0_tillNobodyUp 1 = .ok (.istore 5, 2) := by decide +kernel
theorem dX0_tillNobodyUp_3 : decode cX0_tillNobodyUp 3 = .ok (.iload 5, 2) := by decide +kernel
theorem dX0_tillNobodyUp_5 : decode cX0_tillNobodyUp 5 = .ok (.iload 4, 2) := by decide +kernel
theorem dX0_tillNobodyUp_7 : decode cX0_tillNobodyUp 7 = .ok (.if_icmp .ge 25, 3) := by decide +kernel
theorem dX0_tillNobodyUp_10 : decode cX0_tillNobodyUp 10 = .ok (.aload_n 0, 1) := by decide +kernel
theorem dX0_tillNobodyUp_11 : decode cX0_tillNobodyUp 11 = .ok (.getfield 28, 3) := by decide +kernel
theorem dX0_tillNobodyUp_14 : decode cX0_tillNobodyUp 14 = .ok (.lconst 0, 1) := by decide +kernel
theorem dX0_tillNobodyUp_15 : decode cX0_tillNobodyUp 15 = .ok (.lcmp, 1) := by decide +kernel
theorem dX0_tillNobodyUp_16 : decode cX0_tillNobodyUp 16 = .ok (.ifCond .eq 16, 3) := by decide +kernel
theorem dX0_tillNobodyUp_19 : decode cX0_tillNobodyUp 19 = .ok (.aload_n 0, 1) := by decide +kernel
theorem dX0_tillNobodyUp_20 : decode cX0_tillNobodyUp 20 = .ok (.aload_n 1, 1) := by decide +kernel
theorem dX0_tillNobodyUp_21 : decode cX0_tillNobodyUp 21 = .ok (.lload_n 2, 1) := by decide +kernel
theorem dX0_tillNobodyUp_22 : decode cX0_tillNobodyUp 22 = .ok (.invokevirtual 109, 3) := by decide +kernel
theorem dX0_tillNobodyUp_25 : decode cX0_tillNobodyUp 25 = .ok (.pop2, 1) := by decide +kernel
theorem dX0_tillNobodyUp_26 : decode cX0_tillNobodyUp 26 = .ok (.iinc 5 1, 3) := by decide +kernel
theorem dX0_tillNobodyUp_29 : decode cX0_tillNobodyUp 29 = .ok (.goto (-26), 3) := by decide +kernel
theorem dX0_tillNobodyUp_32 : decode cX0_tillNobodyUp 32 = .ok (.iload 5, 2) := by decide +kernel
theorem dX0_tillNobodyUp_34 : decode cX0_tillNobodyUp 34 = .ok (.ireturn, 1) := by decide +kernel
theorem dX0_withoutTheShy_0 : decode cX0_withoutTheShy 0 = .ok (.lload_n 1, 1) := by decide +kernel
theorem dX0_withoutTheShy_1 : decode cX0_withoutTheShy 1 = .ok (.lstore 4, 2) := by decide +kernel
theorem dX0_withoutTheShy_3 : decode cX0_withoutTheShy 3 = .ok (.iload_n 3, 1) := by decide +kernel
theorem dX0_withoutTheShy_4 : decode cX0_withoutTheShy 4 = .ok (.ifCond .ne 6, 3) := by decide +kernel
theorem dX0_withoutTheShy_7 : decode cX0_withoutTheShy 7 = .ok (.lload 4, 2) := by decide +kernel
theorem dX0_withoutTheShy_9 : decode cX0_withoutTheShy 9 = .ok (.lreturn, 1) := by decide +kernel
theorem dX0_withoutTheShy_10 : decode cX0_withoutTheShy 10 = .ok (.iconst 0, 1) := by decide +kernel
theorem dX0_withoutTheShy_11 : decode cX0_withoutTheShy 11 = .ok (.istore 6, 2) := by decide +kernel
theorem dX0_withoutTheShy_13 : decode cX0_withoutTheShy 13 = .ok (.iload 6, 2) := by decide +kernel
theorem dX0_withoutTheShy_15 : decode cX0_withoutTheShy 15 = .ok (.bipush 40, 2) := by decide +kernel
theorem dX0_withoutTheShy_17 : decode cX0_withoutTheShy 17 = .ok (.if_icmp .ge 39, 3) := by decide +kernel
theorem dX0_withoutTheShy_20 : decode cX0_withoutTheShy 20 = .ok (.lload_n 1, 1) := by decide +kernel
theorem dX0_withoutTheShy_21 : decode cX0_withoutTheShy 21 = .ok (.iload 6, 2) := by decide +kernel
theorem dX0_withoutTheShy_23 : decode cX0_withoutTheShy 23 = .ok (.invokestatic 48, 3) := by decide +kernel
theorem dX0_withoutTheShy_26 : decode cX0_withoutTheShy 26 = .ok (.ifCond .eq 24, 3) := by decide +kernel
theorem dX0_withoutTheShy_29 : decode cX0_withoutTheShy 29 = .ok (.aload_n 0, 1) := by decide +kernel
theorem dX0_withoutTheShy_30 : decode cX0_withoutTheShy 30 = .ok (.invokevirtual 112, 3) := by decide +kernel
theorem dX0_withoutTheShy_33 : decode cX0_withoutTheShy 33 = .ok (.iload_n 3, 1) := by decide +kernel
theorem dX0_withoutTheShy_34 : decode cX0_withoutTheShy 34 = .ok (.if_icmp .ge 16, 3) := by decide +kernel
theorem dX0_withoutTheShy_37 : decode cX0_withoutTheShy 37 = .ok (.lload 4, 2) := by decide +kernel
theorem dX0_withoutTheShy_39 : decode cX0_withoutTheShy 39 = .ok (.lconst 1, 1) := by decide +kernel
theorem dX0_withoutTheShy_40 : decode cX0_withoutTheShy 40 = .ok (.iload 6, 2) := by decide +kernel
theorem dX0_withoutTheShy_42 : decode cX0_withoutTheShy 42 = .ok (.lshl, 1) := by decide +kernel
theorem dX0_withoutTheShy_43 : decode cX0_withoutTheShy 43 = .ok (.ldc2_w 46, 3) := by decide +kernel
theorem dX0_withoutTheShy_46 : decode cX0_withoutTheShy 46 = .ok (.lxor, 1) := by decide +kernel
theorem dX0_withoutTheShy_47 : decode cX0_withoutTheShy 47 = .ok (.land, 1) := by decide +kernel
theorem dX0_withoutTheShy_48 : decode cX0_withoutTheShy 48 = .ok (.lstore 4, 2) := by decide +kernel
theorem dX0_withoutTheShy_50 : decode cX0_withoutTheShy 50 = .ok (.iinc 6 1, 3) := by decide +kernel
theorem dX0_withoutTheShy_53 : decode cX0_withoutTheShy 53 = .ok (.goto (-40), 3) := by decide +kernel
theorem dX0_withoutTheShy_56 : decode cX0_withoutTheShy 56 = .ok (.lload 4, 2) := by decide +kernel
theorem dX0_withoutTheShy_58 : decode cX0_withoutTheShy 58 = .ok (.lreturn, 1) := by decide +kernel
theorem dX0_drawOfTen_0 : decode cX0_drawOfTen 0 = .ok (.aload_n 0, 1) := by decide +kernel
theorem dX0_drawOfTen_1 : decode cX0_drawOfTen 1 = .ok (.aload_n 0, 1) := by decide +kernel
theorem dX0_drawOfTen_2 : decode cX0_drawOfTen 2 = .ok (.getfield 24, 3) := by decide +kernel
theorem dX0_drawOfTen_5 : decode cX0_drawOfTen 5 = .ok (.ldc 116, 2) := by decide +kernel
theorem dX0_drawOfTen_7 : decode cX0_drawOfTen 7 = .ok (.imul, 1) := by decide +kernel
theorem dX0_drawOfTen_8 : decode cX0_drawOfTen 8 = .ok (.sipush 12345, 3) := by decide +kernel
theorem dX0_drawOfTen_11 : decode cX0_drawOfTen 11 = .ok (.iadd, 1) := by decide +kernel
theorem dX0_drawOfTen_12 : decode cX0_drawOfTen 12 = .ok (.putfield 24, 3) := by decide +kernel
theorem dX0_drawOfTen_15 : decode cX0_drawOfTen 15 = .ok (.aload_n 0, 1) := by decide +kernel
theorem dX0_drawOfTen_16 : decode cX0_drawOfTen 16 = .ok (.getfield 24, 3) := by decide +kernel
theorem dX0_drawOfTen_19 : decode cX0_drawOfTen 19 = .ok (.bipush 16, 2) := by decide +kernel
theorem dX0_drawOfTen_21 : decode cX0_drawOfTen 21 = .ok (.iushr, 1) := by decide +kernel
theorem dX0_drawOfTen_22 : decode cX0_drawOfTen 22 = .ok (.bipush 10, 2) := by decide +kernel
theorem dX0_drawOfTen_24 : decode cX0_drawOfTen 24 = .ok (.irem, 1) := by decide +kernel
theorem dX0_drawOfTen_25 : decode cX0_drawOfTen 25 = .ok (.ireturn, 1) := by decide +kernel
theorem dX0_countWays_0 : decode cX0_countWays 0 = .ok (.iconst 0, 1) := by decide +kernel
theorem dX0_countWays_1 : decode cX0_countWays 1 = .ok (.istore 4, 2) := by decide +kernel
theorem dX0_countWays_3 : decode cX0_countWays 3 = .ok (.iload 4, 2) := by decide +kernel
theorem dX0_countWays_5 : decode cX0_countWays 5 = .ok (.bipush 40, 2) := by decide +kernel
theorem dX0_countWays_7 : decode cX0_countWays 7 = .ok (.if_icmp .ge 44, 3) := by decide +kernel
theorem dX0_countWays_10 : decode cX0_countWays 10 = .ok (.lload_n 2, 1) := by decide +kernel
theorem dX0_countWays_11 : decode cX0_countWays 11 = .ok (.iload 4, 2) := by decide +kernel
theorem dX0_countWays_13 : decode cX0_countWays 13 = .ok (.invokestatic 48, 3) := by decide +kernel
theorem dX0_countWays_16 : decode cX0_countWays 16 = .ok (.ifCond .eq 29, 3) := by decide +kernel
theorem dX0_countWays_19 : decode cX0_countWays 19 = .ok (.aload_n 0, 1) := by decide +kernel
theorem dX0_countWays_20 : decode cX0_countWays 20 = .ok (.aload_n 1, 1) := by decide +kernel
theorem dX0_countWays_21 : decode cX0_countWays 21 = .ok (.iload 4, 2) := by decide +kernel
theorem dX0_countWays_23 : decode cX0_countWays 23 = .ok (.invokevirtual 65, 3) := by decide +kernel
theorem dX0_countWays_26 : decode cX0_countWays 26 = .ok (.aload_n 0, 1) := by decide +kernel
theorem dX0_countWays_27 : decode cX0_countWays 27 = .ok (.aload_n 0, 1) := by decide +kernel
theorem dX0_countWays_28 : decode cX0_countWays 28 = .ok (.getfield 21, 3) := by decide +kernel
theorem dX0_countWays_31 : decode cX0_countWays 31 = .ok (.iconst 0, 1) := by decide +kernel
theorem dX0_countWays_32 : decode cX0_countWays 32 = .ok (.iaload, 1) := by decide +kernel
theorem dX0_countWays_33 : decode cX0_countWays 33 = .ok (.aload_n 0, 1) := by decide +kernel
theorem dX0_countWays_34 : decode cX0_countWays 34 = .ok (.getfield 21, 3) := by decide +kernel
theorem dX0_countWays_37 : decode cX0_countWays 37 = .ok (.iconst 1, 1) := by decide +kernel
theorem dX0_countWays_38 : decode cX0_countWays 38 = .ok (.iaload, 1) := by decide +kernel
theorem dX0_countWays_39 : decode cX0_countWays 39 = .ok (.invokestatic 117, 3) := by decide +kernel
theorem dX0_countWays_42 : decode cX0_countWays 42 = .ok (.invokevirtual 121, 3) := by decide +kernel
theorem dX0_countWays_45 : decode cX0_countWays 45 = .ok (.iinc 4 1, 3) := by decide +kernel
theorem dX0_countWays_48 : decode cX0_countWays 48 = .ok (.goto (-45), 3) := by decide +kernel
theorem dX0_countWays_51 : decode cX0_countWays 51 = .ok (.return_, 1) := by decide +kernel
theorem dX0_countWay_0 : decode cX0_countWay 0 = .ok (.iload_n 1, 1) := by decide +kernel
theorem dX0_countWay_1 : decode cX0_countWay 1 = .ok (.ifCond .lt 18, 3) := by decide +kernel
theorem dX0_countWay_4 : decode cX0_countWay 4 = .ok (.iload_n 1, 1) := by decide +kernel
theorem dX0_countWay_5 : decode cX0_countWay 5 = .ok (.iconst 3, 1) := by decide +kernel
theorem dX0_countWay_6 : decode cX0_countWay 6 = .ok (.if_icmp .ge 13, 3) := by decide +kernel
theorem dX0_countWay_9 : decode cX0_countWay 9 = .ok (.aload_n 0, 1) := by decide +kernel
theorem dX0_countWay_10 : decode cX0_countWay 10 = .ok (.getfield 18, 3) := by decide +kernel
theorem dX0_countWay_13 : decode cX0_countWay 13 = .ok (.iload_n 1, 1) := by decide +kernel
theorem dX0_countWay_14 : decode cX0_countWay 14 = .ok (.dup2, 1) := by decide +kernel
theorem dX0_countWay_15 : decode cX0_countWay 15 = .ok (.iaload, 1) := by decide +kernel
theorem dX0_countWay_16 : decode cX0_countWay 16 = .ok (.iconst 1, 1) := by decide +kernel
theorem dX0_countWay_17 : decode cX0_countWay 17 = .ok (.iadd, 1) := by decide +kernel
theorem dX0_countWay_18 : decode cX0_countWay 18 = .ok (.iastore, 1) := by decide +kernel
theorem dX0_countWay_19 : decode cX0_countWay 19 = .ok (.return_, 1) := by decide +kernel
theorem dX0_wayOf_0 : decode cX0_wayOf 0 = .ok (.iload_n 0, 1) := by decide +kernel
theorem dX0_wayOf_1 : decode cX0_wayOf 1 = .ok (.ifCond .le 9, 3) := by decide +kernel
theorem dX0_wayOf_4 : decode cX0_wayOf 4 = .ok (.iload_n 1, 1) := by decide +kernel
theorem dX0_wayOf_5 : decode cX0_wayOf 5 = .ok (.ifCond .ne 5, 3) := by decide +kernel
theorem dX0_wayOf_8 : decode cX0_wayOf 8 = .ok (.iconst 0, 1) := by decide +kernel
theorem dX0_wayOf_9 : decode cX0_wayOf 9 = .ok (.ireturn, 1) := by decide +kernel
theorem dX0_wayOf_10 : decode cX0_wayOf 10 = .ok (.iload_n 1, 1) := by decide +kernel
theorem dX0_wayOf_11 : decode cX0_wayOf 11 = .ok (.ifCond .le 11, 3) := by decide +kernel
theorem dX0_wayOf_14 : decode cX0_wayOf 14 = .ok (.iload_n 0, 1) := by decide +kernel
theorem dX0_wayOf_15 : decode cX0_wayOf 15 = .ok (.ifCond .ne 7, 3) := by decide +kernel
theorem dX0_wayOf_18 : decode cX0_wayOf 18 = .ok (.iconst 1, 1) := by decide +kernel
theorem dX0_wayOf_19 : decode cX0_wayOf 19 = .ok (.goto 4, 3) := by decide +kernel
theorem dX0_wayOf_22 : decode cX0_wayOf 22 = .ok (.iconst 2, 1) := by decide +kernel
theorem dX0_wayOf_23 : decode cX0_wayOf 23 = .ok (.ireturn, 1) := by decide +kernel
theorem dX0_move_0 : decode cX0_move 0 = .ok (.aload_n 0, 1) := by decide +kernel
theorem dX0_move_1 : decode cX0_move 1 = .ok (.lload_n 2, 1) := by decide +kernel
theorem dX0_move_2 : decode cX0_move 2 = .ok (.putfield 28, 3) := by decide +kernel
theorem dX0_move_5 : decode cX0_move 5 = .ok (.aload_n 0, 1) := by decide +kernel
theorem dX0_move_6 : decode cX0_move 6 = .ok (.lload_n 2, 1) := by decide +kernel
theorem dX0_move_7 : decode cX0_move 7 = .ok (.putfield 32, 3) := by decide +kernel
theorem dX0_move_10 : decode cX0_move 10 = .ok (.iconst 0, 1) := by decide +kernel
theorem dX0_move_11 : decode cX0_move 11 = .ok (.istore 4, 2) := by decide +kernel
theorem dX0_move_13 : decode cX0_move 13 = .ok (.iload 4, 2) := by decide +kernel
theorem dX0_move_15 : decode cX0_move 15 = .ok (.bipush 40, 2) := by decide +kernel
theorem dX0_move_17 : decode cX0_move 17 = .ok (.if_icmp .ge 116, 3) := by decide +kernel
theorem dX0_move_20 : decode cX0_move 20 = .ok (.iload 4, 2) := by decide +kernel
theorem dX0_move_22 : decode cX0_move 22 = .ok (.aload_n 1, 1) := by decide +kernel
theorem dX0_move_23 : decode cX0_move 23 = .ok (.getfield 62, 3) := by decide +kernel
theorem dX0_move_26 : decode cX0_move 26 = .ok (.if_icmp .ge 107, 3) := by decide +kernel
theorem dX0_move_29 : decode cX0_move 29 = .ok (.lload_n 2, 1) := by decide +kernel
theorem dX0_move_30 : decode cX0_move 30 = .ok (.iload 4, 2) := by decide +kernel
theorem dX0_move_32 : decode cX0_move 32 = .ok (.invokestatic 48, 3) := by decide +kernel
theorem dX0_move_35 : decode cX0_move 35 = .ok (.ifCond .eq 25, 3) := by decide +kernel
theorem dX0_move_38 : decode cX0_move 38 = .ok (.aload_n 0, 1) := by decide +kernel
theorem dX0_move_39 : decode cX0_move 39 = .ok (.getfield 9, 3) := by decide +kernel
theorem dX0_move_42 : decode cX0_move 42 = .ok (.iload 4, 2) := by decide +kernel
theorem dX0_move_44 : decode cX0_move 44 = .ok (.iconst 1, 1) := by decide +kernel
theorem dX0_move_45 : decode cX0_move 45 = .ok (.iastore, 1) := by decide +kernel
theorem dX0_move_46 : decode cX0_move 46 = .ok (.aload_n 0, 1) := by decide +kernel
theorem dX0_move_47 : decode cX0_move 47 = .ok (.getfield 15, 3) := by decide +kernel
theorem dX0_move_50 : decode cX0_move 50 = .ok (.iload 4, 2) := by decide +kernel
theorem dX0_move_52 : decode cX0_move 52 = .ok (.dup2, 1) := by decide +kernel
theorem dX0_move_53 : decode cX0_move 53 = .ok (.iaload, 1) := by decide +kernel
theorem dX0_move_54 : decode cX0_move 54 = .ok (.iconst 1, 1) := by decide +kernel
theorem dX0_move_55 : decode cX0_move 55 = .ok (.iadd, 1) := by decide +kernel
theorem dX0_move_56 : decode cX0_move 56 = .ok (.iastore, 1) := by decide +kernel
theorem dX0_move_57 : decode cX0_move 57 = .ok (.goto 70, 3) := by decide +kernel
theorem dX0_move_60 : decode cX0_move 60 = .ok (.aload_n 0, 1) := by decide +kernel
theorem dX0_move_61 : decode cX0_move 61 = .ok (.getfield 9, 3) := by decide +kernel
theorem dX0_move_64 : decode cX0_move 64 = .ok (.iload 4, 2) := by decide +kernel
theorem dX0_move_66 : decode cX0_move 66 = .ok (.iaload, 1) := by decide +kernel
theorem dX0_move_67 : decode cX0_move 67 = .ok (.ifCond .eq 60, 3) := by decide +kernel
theorem dX0_move_70 : decode cX0_move 70 = .ok (.aload_n 0, 1) := by decide +kernel
theorem dX0_move_71 : decode cX0_move 71 = .ok (.getfield 9, 3) := by decide +kernel
theorem dX0_move_74 : decode cX0_move 74 = .ok (.iload 4, 2) := by decide +kernel
theorem dX0_move_76 : decode cX0_move 76 = .ok (.aload_n 1, 1) := by decide +kernel
theorem dX0_move_77 : decode cX0_move 77 = .ok (.aload_n 0, 1) := by decide +kernel
theorem dX0_move_78 : decode cX0_move 78 = .ok (.getfield 9, 3) := by decide +kernel
theorem dX0_move_81 : decode cX0_move 81 = .ok (.iload 4, 2) := by decide +kernel
theorem dX0_move_83 : decode cX0_move 83 = .ok (.iaload, 1) := by decide +kernel
theorem dX0_move_84 : decode cX0_move 84 = .ok (.invokestatic 125, 3) := by decide +kernel
theorem dX0_move_87 : decode cX0_move 87 = .ok (.iastore, 1) := by decide +kernel
theorem dX0_move_88 : decode cX0_move 88 = .ok (.aload_n 0, 1) := by decide +kernel
theorem dX0_move_89 : decode cX0_move 89 = .ok (.dup, 1) := by decide +kernel
theorem dX0_move_90 : decode cX0_move 90 = .ok (.getfield 28, 3) := by decide +kernel
theorem dX0_move_93 : decode cX0_move 93 = .ok (.aload_n 0, 1) := by decide +kernel
theorem dX0_move_94 : decode cX0_move 94 = .ok (.getfield 9, 3) := by decide +kernel
theorem dX0_move_97 : decode cX0_move 97 = .ok (.iload 4, 2) := by decide +kernel
theorem dX0_move_99 : decode cX0_move 99 = .ok (.iaload, 1) := by decide +kernel
theorem dX0_move_100 : decode cX0_move 100 = .ok (.ifCond .eq 22, 3) := by decide +kernel
theorem dX0_move_103 : decode cX0_move 103 = .ok (.aload_n 0, 1) := by decide +kernel
theorem dX0_move_104 : decode cX0_move 104 = .ok (.getfield 9, 3) := by decide +kernel
theorem dX0_move_107 : decode cX0_move 107 = .ok (.iload 4, 2) := by decide +kernel
theorem dX0_move_109 : decode cX0_move 109 = .ok (.iaload, 1) := by decide +kernel
theorem dX0_move_110 : decode cX0_move 110 = .ok (.bipush 10, 2) := by decide +kernel
theorem dX0_move_112 : decode cX0_move 112 = .ok (.if_icmp .ge 10, 3) := by decide +kernel
theorem dX0_move_115 : decode cX0_move 115 = .ok (.lconst 1, 1) := by decide +kernel
theorem dX0_move_116 : decode cX0_move 116 = .ok (.iload 4, 2) := by decide +kernel
theorem dX0_move_118 : decode cX0_move 118 = .ok (.lshl, 1) := by decide +kernel
theorem dX0_move_119 : decode cX0_move 119 = .ok (.goto 4, 3) := by decide +kernel
theorem dX0_move_122 : decode cX0_move 122 = .ok (.lconst 0, 1) := by decide +kernel
theorem dX0_move_123 : decode cX0_move 123 = .ok (.lor, 1) := by decide +kernel
theorem dX0_move_124 : decode cX0_move 124 = .ok (.putfield 28, 3) := by decide +kernel
theorem dX0_move_127 : decode cX0_move 127 = .ok (.iinc 4 1, 3) := by decide +kernel
theorem dX0_move_130 : decode cX0_move 130 = .ok (.goto (-117), 3) := by decide +kernel
theorem dX0_move_133 : decode cX0_move 133 = .ok (.aload_n 0, 1) := by decide +kernel
theorem dX0_move_134 : decode cX0_move 134 = .ok (.dup, 1) := by decide +kernel
theorem dX0_move_135 : decode cX0_move 135 = .ok (.getfield 35, 3) := by decide +kernel
theorem dX0_move_138 : decode cX0_move 138 = .ok (.iconst 1, 1) := by decide +kernel
theorem dX0_move_139 : decode cX0_move 139 = .ok (.iadd, 1) := by decide +kernel
theorem dX0_move_140 : decode cX0_move 140 = .ok (.putfield 35, 3) := by decide +kernel
theorem dX0_move_143 : decode cX0_move 143 = .ok (.return_, 1) := by decide +kernel
theorem dX0_stateBehind_0 : decode cX0_stateBehind 0 = .ok (.iload_n 1, 1) := by decide +kernel
theorem dX0_stateBehind_1 : decode cX0_stateBehind 1 = .ok (.bipush 10, 2) := by decide +kernel
theorem dX0_stateBehind_3 : decode cX0_stateBehind 3 = .ok (.if_icmp .ge 29, 3) := by decide +kernel
theorem dX0_stateBehind_6 : decode cX0_stateBehind 6 = .ok (.iload_n 1, 1) := by decide +kernel
theorem dX0_stateBehind_7 : decode cX0_stateBehind 7 = .ok (.aload_n 0, 1) := by decide +kernel
theorem dX0_stateBehind_8 : decode cX0_stateBehind 8 = .ok (.getfield 129, 3) := by decide +kernel
theorem dX0_stateBehind_11 : decode cX0_stateBehind 11 = .ok (.if_icmp .ge 7, 3) := by decide +kernel
theorem dX0_stateBehind_14 : decode cX0_stateBehind 14 = .ok (.iload_n 1, 1) := by decide +kernel
theorem dX0_stateBehind_15 : decode cX0_stateBehind 15 = .ok (.iconst 1, 1) := by decide +kernel
theorem dX0_stateBehind_16 : decode cX0_stateBehind 16 = .ok (.iadd, 1) := by decide +kernel
theorem dX0_stateBehind_17 : decode cX0_stateBehind 17 = .ok (.ireturn, 1) := by decide +kernel
theorem dX0_stateBehind_18 : decode cX0_stateBehind 18 = .ok (.aload_n 0, 1) := by decide +kernel
theorem dX0_stateBehind_19 : decode cX0_stateBehind 19 = .ok (.getfield 132, 3) := by decide +kernel
theorem dX0_stateBehind_22 : decode cX0_stateBehind 22 = .ok (.ifCond .le 8, 3) := by decide +kernel
theorem dX0_stateBehind_25 : decode cX0_stateBehind 25 = .ok (.bipush 11, 2) := by decide +kernel
theorem dX0_stateBehind_27 : decode cX0_stateBehind 27 = .ok (.goto 4, 3) := by decide +kernel
theorem dX0_stateBehind_30 : decode cX0_stateBehind 30 = .ok (.iconst 0, 1) := by decide +kernel
theorem dX0_stateBehind_31 : decode cX0_stateBehind 31 = .ok (.ireturn, 1) := by decide +kernel
theorem dX0_stateBehind_32 : decode cX0_stateBehind 32 = .ok (.iload_n 1, 1) := by decide +kernel
theorem dX0_stateBehind_33 : decode cX0_stateBehind 33 = .ok (.bipush 10, 2) := by decide +kernel
theorem dX0_stateBehind_35 : decode cX0_stateBehind 35 = .ok (.isub, 1) := by decide +kernel
theorem dX0_stateBehind_36 : decode cX0_stateBehind 36 = .ok (.aload_n 0, 1) := by decide +kernel
theorem dX0_stateBehind_37 : decode cX0_stateBehind 37 = .ok (.getfield 132, 3) := by decide +kernel
theorem dX0_stateBehind_40 : decode cX0_stateBehind 40 = .ok (.if_icmp .ge 9, 3) := by decide +kernel
theorem dX0_stateBehind_43 : decode cX0_stateBehind 43 = .ok (.iload_n 1, 1) := by decide +kernel
theorem dX0_stateBehind_44 : decode cX0_stateBehind 44 = .ok (.iconst 1, 1) := by decide +kernel
theorem dX0_stateBehind_45 : decode cX0_stateBehind 45 = .ok (.iadd, 1) := by decide +kernel
theorem dX0_stateBehind_46 : decode cX0_stateBehind 46 = .ok (.goto 4, 3) := by decide +kernel
theorem dX0_stateBehind_49 : decode cX0_stateBehind 49 = .ok (.iconst 0, 1) := by decide +kernel
theorem dX0_stateBehind_50 : decode cX0_stateBehind 50 = .ok (.ireturn, 1) := by decide +kernel
theorem dX1_init_0 : decode cX1_init 0 = .ok (.aload_n 0, 1) := by decide +kernel
theorem dX1_init_1 : decode cX1_init 1 = .ok (.invokespecial 3, 3) := by decide +kernel
theorem dX1_init_4 : decode cX1_init 4 = .ok (.aload_n 0, 1) := by decide +kernel
theorem dX1_init_5 : decode cX1_init 5 = .ok (.bipush 60, 2) := by decide +kernel
theorem dX1_init_7 : decode cX1_init 7 = .ok (.newarray .int, 2) := by decide +kernel
theorem dX1_init_9 : decode cX1_init 9 = .ok (.putfield 9, 3) := by decide +kernel
theorem dX1_init_12 : decode cX1_init 12 = .ok (.aload_n 0, 1) := by decide +kernel
theorem dX1_init_13 : decode cX1_init 13 = .ok (.bipush 60, 2) := by decide +kernel
theorem dX1_init_15 : decode cX1_init 15 = .ok (.newarray .long, 2) := by decide +kernel
theorem dX1_init_17 : decode cX1_init 17 = .ok (.putfield 15, 3) := by decide +kernel
theorem dX1_init_20 : decode cX1_init 20 = .ok (.aload_n 0, 1) := by decide +kernel
theorem dX1_init_21 : decode cX1_init 21 = .ok (.bipush 60, 2) := by decide +kernel
theorem dX1_init_23 : decode cX1_init 23 = .ok (.newarray .int, 2) := by decide +kernel
theorem dX1_init_25 : decode cX1_init 25 = .ok (.putfield 19, 3) := by decide +kernel
theorem dX1_init_28 : decode cX1_init 28 = .ok (.aload_n 0, 1) := by decide +kernel
theorem dX1_init_29 : decode cX1_init 29 = .ok (.bipush 60, 2) := by decide +kernel
theorem dX1_init_31 : decode cX1_init 31 = .ok (.newarray .int, 2) := by decide +kernel
theorem dX1_init_33 : decode cX1_init 33 = .ok (.putfield 22, 3) := by decide +kernel
theorem dX1_init_36 : decode cX1_init 36 = .ok (.aload_n 0, 1) := by decide +kernel
theorem dX1_init_37 : decode cX1_init 37 = .ok (.bipush 40, 2) := by decide +kernel
theorem dX1_init_39 : decode cX1_init 39 = .ok (.newarray .boolean, 2) := by decide +kernel
theorem dX1_init_41 : decode cX1_init 41 = .ok (.putfield 25, 3) := by decide +kernel
theorem dX1_init_44 : decode cX1_init 44 = .ok (.aload_n 0, 1) := by decide +kernel
theorem dX1_init_45 : decode cX1_init 45 = .ok (.bipush 40, 2) := by decide +kernel
theorem dX1_init_47 : decode cX1_init 47 = .ok (.newarray .long, 2) := by decide +kernel
theorem dX1_init_49 : decode cX1_init 49 = .ok (.putfield 29, 3) := by decide +kernel
theorem dX1_init_52 : decode cX1_init 52 = .ok (.aload_n 0, 1) := by decide +kernel
theorem dX1_init_53 : decode cX1_init 53 = .ok (.iconst (-1), 1) := by decide +kernel
theorem dX1_init_54 : decode cX1_init 54 = .ok (.putfield 32, 3) := by decide +kernel
theorem dX1_init_57 : decode cX1_init 57 = .ok (.aload_n 0, 1) := by decide +kernel
theorem dX1_init_58 : decode cX1_init 58 = .ok (.iconst (-1), 1) := by decide +kernel
theorem dX1_init_59 : decode cX1_init 59 = .ok (.putfield 36, 3) := by decide +kernel
theorem dX1_init_62 : decode cX1_init 62 = .ok (.return_, 1) := by decide +kernel
theorem dX1_forget_0 : decode cX1_forget 0 = .ok (.aload_n 0, 1) := by decide +kernel
theorem dX1_forget_1 : decode cX1_forget 1 = .ok (.iconst 0, 1) := by decide +kernel
theorem dX1_forget_2 : decode cX1_forget 2 = .ok (.putfield 39, 3) := by decide +kernel
theorem dX1_forget_5 : decode cX1_forget 5 = .ok (.return_, 1) := by decide +kernel
theorem dX1_tell_0 : decode cX1_tell 0 = .ok (.aload_n 0, 1) := by decide +kernel
theorem dX1_tell_1 : decode cX1_tell 1 = .ok (.getfield 39, 3) := by decide +kernel
theorem dX1_tell_4 : decode cX1_tell 4 = .ok (.ifCond .lt 12, 3) := by decide +kernel
theorem dX1_tell_7 : decode cX1_tell 7 = .ok (.aload_n 0, 1) := by decide +kernel
theorem dX1_tell_8 : decode cX1_tell 8 = .ok (.getfield 39, 3) := by decide +kernel
theorem dX1_tell_11 : decode cX1_tell 11 = .ok (.bipush 60, 2) := by decide +kernel
theorem dX1_tell_13 : decode cX1_tell 13 = .ok (.if_icmp .lt 5, 3) := by decide +kernel
theorem dX1_tell_16 : decode cX1_tell 16 = .ok (.iconst (-1), 1) := by decide +kernel
theorem dX1_tell_17 : decode cX1_tell 17 = .ok (.ireturn, 1) := by decide +kernel
theorem dX1_tell_18 : decode cX1_tell 18 = .ok (.aload_n 0, 1) := by decide +kernel
theorem dX1_tell_19 : decode cX1_tell 19 = .ok (.getfield 9, 3) := by decide +kernel
theorem dX1_tell_22 : decode cX1_tell 22 = .ok (.aload_n 0, 1) := by decide +kernel
theorem dX1_tell_23 : decode cX1_tell 23 = .ok (.getfield 39, 3) := by decide +kernel
theorem dX1_tell_26 : decode cX1_tell 26 = .ok (.iload_n 1, 1) := by decide +kernel
theorem dX1_tell_27 : decode cX1_tell 27 = .ok (.iastore, 1) := by decide +kernel
theorem dX1_tell_28 : decode cX1_tell 28 = .ok (.aload_n 0, 1) := by decide +kernel
theorem dX1_tell_29 : decode cX1_tell 29 = .ok (.getfield 15, 3) := by decide +kernel
theorem dX1_tell_32 : decode cX1_tell 32 = .ok (.aload_n 0, 1) := by decide +kernel
theorem dX1_tell_33 : decode cX1_tell 33 = .ok (.getfield 39, 3) := by decide +kernel
theorem dX1_tell_36 : decode cX1_tell 36 = .ok (.lload_n 2, 1) := by decide +kernel
theorem dX1_tell_37 : decode cX1_tell 37 = .ok (.lastore, 1) := by decide +kernel
theorem dX1_tell_38 : decode cX1_tell 38 = .ok (.aload_n 0, 1) := by decide +kernel
theorem dX1_tell_39 : decode cX1_tell 39 = .ok (.getfield 19, 3) := by decide +kernel
theorem dX1_tell_42 : decode cX1_tell 42 = .ok (.aload_n 0, 1) := by decide +kernel
theorem dX1_tell_43 : decode cX1_tell 43 = .ok (.getfield 39, 3) := by decide +kernel
theorem dX1_tell_46 : decode cX1_tell 46 = .ok (.aload_n 0, 1) := by decide +kernel
theorem dX1_tell_47 : decode cX1_tell 47 = .ok (.getfield 42, 3) := by decide +kernel
theorem dX1_tell_50 : decode cX1_tell 50 = .ok (.iastore, 1) := by decide +kernel
theorem dX1_tell_51 : decode cX1_tell 51 = .ok (.aload_n 0, 1) := by decide +kernel
theorem dX1_tell_52 : decode cX1_tell 52 = .ok (.getfield 22, 3) := by decide +kernel
theorem dX1_tell_55 : decode cX1_tell 55 = .ok (.aload_n 0, 1) := by decide +kernel
theorem dX1_tell_56 : decode cX1_tell 56 = .ok (.getfield 39, 3) := by decide +kernel
theorem dX1_tell_59 : decode cX1_tell 59 = .ok (.iconst (-1), 1) := by decide +kernel
theorem dX1_tell_60 : decode cX1_tell 60 = .ok (.iastore, 1) := by decide +kernel
theorem dX1_tell_61 : decode cX1_tell 61 = .ok (.aload_n 0, 1) := by decide +kernel
theorem dX1_tell_62 : decode cX1_tell 62 = .ok (.dup, 1) := by decide +kernel
theorem dX1_tell_63 : decode cX1_tell 63 = .ok (.getfield 39, 3) := by decide +kernel
theorem dX1_tell_66 : decode cX1_tell 66 = .ok (.iconst 1, 1) := by decide +kernel
theorem dX1_tell_67 : decode cX1_tell 67 = .ok (.iadd, 1) := by decide +kernel
theorem dX1_tell_68 : decode cX1_tell 68 = .ok (.putfield 39, 3) := by decide +kernel
theorem dX1_tell_71 : decode cX1_tell 71 = .ok (.aload_n 0, 1) := by decide +kernel
theorem dX1_tell_72 : decode cX1_tell 72 = .ok (.getfield 39, 3) := by decide +kernel
theorem dX1_tell_75 : decode cX1_tell 75 = .ok (.iconst 1, 1) := by decide +kernel
theorem dX1_tell_76 : decode cX1_tell 76 = .ok (.isub, 1) := by decide +kernel
theorem dX1_tell_77 : decode cX1_tell 77 = .ok (.ireturn, 1) := by decide +kernel
theorem dX1_takeBack_0 : decode cX1_takeBack 0 = .ok (.iload_n 1, 1) := by decide +kernel
theorem dX1_takeBack_1 : decode cX1_takeBack 1 = .ok (.ifCond .lt 27, 3) := by decide +kernel
theorem dX1_takeBack_4 : decode cX1_takeBack 4 = .ok (.iload_n 1, 1) := by decide +kernel
theorem dX1_takeBack_5 : decode cX1_takeBack 5 = .ok (.aload_n 0, 1) := by decide +kernel
theorem dX1_takeBack_6 : decode cX1_takeBack 6 = .ok (.getfield 39, 3) := by decide +kernel
theorem dX1_takeBack_9 : decode cX1_takeBack 9 = .ok (.if_icmp .ge 19, 3) := by decide +kernel
theorem dX1_takeBack_12 : decode cX1_takeBack 12 = .ok (.iload_n 1, 1) := by decide +kernel
theorem dX1_takeBack_13 : decode cX1_takeBack 13 = .ok (.bipush 60, 2) := by decide +kernel
theorem dX1_takeBack_15 : decode cX1_takeBack 15 = .ok (.if_icmp .ge 13, 3) := by decide +kernel
theorem dX1_takeBack_18 : decode cX1_takeBack 18 = .ok (.aload_n 0, 1) := by decide +kernel
theorem dX1_takeBack_19 : decode cX1_takeBack 19 = .ok (.getfield 22, 3) := by decide +kernel
theorem dX1_takeBack_22 : decode cX1_takeBack 22 = .ok (.iload_n 1, 1) := by decide +kernel
theorem dX1_takeBack_23 : decode cX1_takeBack 23 = .ok (.iaload, 1) := by decide +kernel
theorem dX1_takeBack_24 : decode cX1_takeBack 24 = .ok (.iconst (-1), 1) := by decide +kernel
theorem dX1_takeBack_25 : decode cX1_takeBack 25 = .ok (.if_icmp .eq 5, 3) := by decide +kernel
theorem dX1_takeBack_28 : decode cX1_takeBack 28 = .ok (.iconst 0, 1) := by decide +kernel
theorem dX1_takeBack_29 : decode cX1_takeBack 29 = .ok (.ireturn, 1) := by decide +kernel
theorem dX1_takeBack_30 : decode cX1_takeBack 30 = .ok (.aload_n 0, 1) := by decide +kernel
theorem dX1_takeBack_31 : decode cX1_takeBack 31 = .ok (.getfield 22, 3) := by decide +kernel
theorem dX1_takeBack_34 : decode cX1_takeBack 34 = .ok (.iload_n 1, 1) := by decide +kernel
theorem dX1_takeBack_35 : decode cX1_takeBack 35 = .ok (.aload_n 0, 1) := by decide +kernel
theorem dX1_takeBack_36 : decode cX1_takeBack 36 = .ok (.getfield 42, 3) := by decide +kernel
theorem dX1_takeBack_39 : decode cX1_takeBack 39 = .ok (.iastore, 1) := by decide +kernel
theorem dX1_takeBack_40 : decode cX1_takeBack 40 = .ok (.iconst 1, 1) := by decide +kernel
theorem dX1_takeBack_41 : decode cX1_takeBack 41 = .ok (.ireturn, 1) := by decide +kernel
theorem dX1_recall_0 : decode cX1_recall 0 = .ok (.iconst 0, 1) := by decide +kernel
theorem dX1_recall_1 : decode cX1_recall 1 = .ok (.istore_n 2, 1) := by decide +kernel
theorem dX1_recall_2 : decode cX1_recall 2 = .ok (.iload_n 2, 1) := by decide +kernel
theorem dX1_recall_3 : decode cX1_recall 3 = .ok (.bipush 40, 2) := by decide +kernel
theorem dX1_recall_5 : decode cX1_recall 5 = .ok (.if_icmp .ge 16, 3) := by decide +kernel
theorem dX1_recall_8 : decode cX1_recall 8 = .ok (.aload_n 0, 1) := by decide +kernel
theorem dX1_recall_9 : decode cX1_recall 9 = .ok (.getfield 25, 3) := by decide +kernel
theorem dX1_recall_12 : decode cX1_recall 12 = .ok (.iload_n 2, 1) := by decide +kernel
theorem dX1_recall_13 : decode cX1_recall 13 = .ok (.iconst 0, 1) := by decide +kernel
theorem dX1_recall_14 : decode cX1_recall 14 = .ok (.bastore, 1) := by decide +kernel
theorem dX1_recall_15 : decode cX1_recall 15 = .ok (.iinc 2 1, 3) := by decide +kernel
theorem dX1_recall_18 : decode cX1_recall 18 = .ok (.goto (-16), 3) := by decide +kernel
theorem dX1_recall_21 : decode cX1_recall 21 = .ok (.iconst 0, 1) := by decide +kernel
theorem dX1_recall_22 : decode cX1_recall 22 = .ok (.istore_n 2, 1) := by decide +kernel
theorem dX1_recall_23 : decode cX1_recall 23 = .ok (.iload_n 2, 1) := by decide +kernel
theorem dX1_recall_24 : decode cX1_recall 24 = .ok (.aload_n 0, 1) := by decide +kernel
theorem dX1_recall_25 : decode cX1_recall 25 = .ok (.getfield 39, 3) := by decide +kernel
theorem dX1_recall_28 : decode cX1_recall 28 = .ok (.if_icmp .ge 60, 3) := by decide +kernel
theorem dX1_recall_31 : decode cX1_recall 31 = .ok (.iload_n 2, 1) := by decide +kernel
theorem dX1_recall_32 : decode cX1_recall 32 = .ok (.bipush 60, 2) := by decide +kernel
theorem dX1_recall_34 : decode cX1_recall 34 = .ok (.if_icmp .ge 54, 3) := by decide +kernel
theorem dX1_recall_37 : decode cX1_recall 37 = .ok (.aload_n 0, 1) := by decide +kernel
theorem dX1_recall_38 : decode cX1_recall 38 = .ok (.getfield 9, 3) := by decide +kernel
theorem dX1_recall_41 : decode cX1_recall 41 = .ok (.iload_n 2, 1) := by decide +kernel
theorem dX1_recall_42 : decode cX1_recall 42 = .ok (.iaload, 1) := by decide +kernel
theorem dX1_recall_43 : decode cX1_recall 43 = .ok (.istore_n 3, 1) := by decide +kernel
theorem dX1_recall_44 : decode cX1_recall 44 = .ok (.aload_n 0, 1) := by decide +kernel
theorem dX1_recall_45 : decode cX1_recall 45 = .ok (.iload_n 2, 1) := by decide +kernel
theorem dX1_recall_46 : decode cX1_recall 46 = .ok (.iload_n 1, 1) := by decide +kernel
theorem dX1_recall_47 : decode cX1_recall 47 = .ok (.invokevirtual 45, 3) := by decide +kernel
theorem dX1_recall_50 : decode cX1_recall 50 = .ok (.ifCond .eq 32, 3) := by decide +kernel
theorem dX1_recall_53 : decode cX1_recall 53 = .ok (.iload_n 3, 1) := by decide +kernel
theorem dX1_recall_54 : decode cX1_recall 54 = .ok (.ifCond .lt 28, 3) := by decide +kernel
theorem dX1_recall_57 : decode cX1_recall 57 = .ok (.iload_n 3, 1) := by decide +kernel
theorem dX1_recall_58 : decode cX1_recall 58 = .ok (.bipush 40, 2) := by decide +kernel
theorem dX1_recall_60 : decode cX1_recall 60 = .ok (.if_icmp .ge 22, 3) := by decide +kernel
theorem dX1_recall_63 : decode cX1_recall 63 = .ok (.aload_n 0, 1) := by decide +kernel
theorem dX1_recall_64 : decode cX1_recall 64 = .ok (.getfield 25, 3) := by decide +kernel
theorem dX1_recall_67 : decode cX1_recall 67 = .ok (.iload_n 3, 1) := by decide +kernel
theorem dX1_recall_68 : decode cX1_recall 68 = .ok (.iconst 1, 1) := by decide +kernel
theorem dX1_recall_69 : decode cX1_recall 69 = .ok (.bastore, 1) := by decide +kernel
theorem dX1_recall_70 : decode cX1_recall 70 = .ok (.aload_n 0, 1) := by decide +kernel
theorem dX1_recall_71 : decode cX1_recall 71 = .ok (.getfield 29, 3) := by decide +kernel
theorem dX1_recall_74 : decode cX1_recall 74 = .ok (.iload_n 3, 1) := by decide +kernel
theorem dX1_recall_75 : decode cX1_recall 75 = .ok (.aload_n 0, 1) := by decide +kernel
theorem dX1_recall_76 : decode cX1_recall 76 = .ok (.getfield 15, 3) := by decide +kernel
theorem dX1_recall_79 : decode cX1_recall 79 = .ok (.iload_n 2, 1) := by decide +kernel
theorem dX1_recall_80 : decode cX1_recall 80 = .ok (.laload, 1) := by decide +kernel
theorem dX1_recall_81 : decode cX1_recall 81 = .ok (.lastore, 1) := by decide +kernel
theorem dX1_recall_82 : decode cX1_recall 82 = .ok (.iinc 2 1, 3) := by decide +kernel
theorem dX1_recall_85 : decode cX1_recall 85 = .ok (.goto (-62), 3) := by decide +kernel
theorem dX1_recall_88 : decode cX1_recall 88 = .ok (.aload_n 0, 1) := by decide +kernel
theorem dX1_recall_89 : decode cX1_recall 89 = .ok (.iconst (-1), 1) := by decide +kernel
theorem dX1_recall_90 : decode cX1_recall 90 = .ok (.putfield 32, 3) := by decide +kernel
theorem dX1_recall_93 : decode cX1_recall 93 = .ok (.aload_n 0, 1) := by decide +kernel
theorem dX1_recall_94 : decode cX1_recall 94 = .ok (.iconst (-1), 1) := by decide +kernel
theorem dX1_recall_95 : decode cX1_recall 95 = .ok (.putfield 36, 3) := by decide +kernel
theorem dX1_recall_98 : decode cX1_recall 98 = .ok (.iconst 0, 1) := by decide +kernel
theorem dX1_recall_99 : decode cX1_recall 99 = .ok (.istore_n 2, 1) := by decide +kernel
theorem dX1_recall_100 : decode cX1_recall 100 = .ok (.iload_n 2, 1) := by decide +kernel
theorem dX1_recall_101 : decode cX1_recall 101 = .ok (.bipush 40, 2) := by decide +kernel
theorem dX1_recall_103 : decode cX1_recall 103 = .ok (.if_icmp .ge 43, 3) := by decide +kernel
theorem dX1_recall_106 : decode cX1_recall 106 = .ok (.aload_n 0, 1) := by decide +kernel
theorem dX1_recall_107 : decode cX1_recall 107 = .ok (.getfield 25, 3) := by decide +kernel
theorem dX1_recall_110 : decode cX1_recall 110 = .ok (.iload_n 2, 1) := by decide +kernel
theorem dX1_recall_111 : decode cX1_recall 111 = .ok (.baload, 1) := by decide +kernel
theorem dX1_recall_112 : decode cX1_recall 112 = .ok (.ifCond .eq 28, 3) := by decide +kernel
theorem dX1_recall_115 : decode cX1_recall 115 = .ok (.aload_n 0, 1) := by decide +kernel
theorem dX1_recall_116 : decode cX1_recall 116 = .ok (.aload_n 0, 1) := by decide +kernel
theorem dX1_recall_117 : decode cX1_recall 117 = .ok (.getfield 32, 3) := by decide +kernel
theorem dX1_recall_120 : decode cX1_recall 120 = .ok (.iconst (-1), 1) := by decide +kernel
theorem dX1_recall_121 : decode cX1_recall 121 = .ok (.if_icmp .ne 7, 3) := by decide +kernel
theorem dX1_recall_124 : decode cX1_recall 124 = .ok (.iload_n 2, 1) := by decide +kernel
theorem dX1_recall_125 : decode cX1_recall 125 = .ok (.goto 7, 3) := by decide +kernel
theorem dX1_recall_128 : decode cX1_recall 128 = .ok (.aload_n 0, 1) := by decide +kernel
theorem dX1_recall_129 : decode cX1_recall 129 = .ok (.getfield 32, 3) := by decide +kernel
theorem dX1_recall_132 : decode cX1_recall 132 = .ok (.putfield 32, 3) := by decide +kernel
theorem dX1_recall_135 : decode cX1_recall 135 = .ok (.aload_n 0, 1) := by decide +kernel
theorem dX1_recall_136 : decode cX1_recall 136 = .ok (.iload_n 2, 1) := by decide +kernel
theorem dX1_recall_137 : decode cX1_recall 137 = .ok (.putfield 36, 3) := by decide +kernel
theorem dX1_recall_140 : decode cX1_recall 140 = .ok (.iinc 2 1, 3) := by decide +kernel
theorem dX1_recall_143 : decode cX1_recall 143 = .ok (.goto (-43), 3) := by decide +kernel
theorem dX1_recall_146 : decode cX1_recall 146 = .ok (.return_, 1) := by decide +kernel
theorem dX1_counts_0 : decode cX1_counts 0 = .ok (.aload_n 0, 1) := by decide +kernel
theorem dX1_counts_1 : decode cX1_counts 1 = .ok (.getfield 22, 3) := by decide +kernel
theorem dX1_counts_4 : decode cX1_counts 4 = .ok (.iload_n 1, 1) := by decide +kernel
theorem dX1_counts_5 : decode cX1_counts 5 = .ok (.iaload, 1) := by decide +kernel
theorem dX1_counts_6 : decode cX1_counts 6 = .ok (.iconst (-1), 1) := by decide +kernel
theorem dX1_counts_7 : decode cX1_counts 7 = .ok (.if_icmp .eq 17, 3) := by decide +kernel
theorem dX1_counts_10 : decode cX1_counts 10 = .ok (.aload_n 0, 1) := by decide +kernel
theorem dX1_counts_11 : decode cX1_counts 11 = .ok (.getfield 22, 3) := by decide +kernel
theorem dX1_counts_14 : decode cX1_counts 14 = .ok (.iload_n 1, 1) := by decide +kernel
theorem dX1_counts_15 : decode cX1_counts 15 = .ok (.iaload, 1) := by decide +kernel
theorem dX1_counts_16 : decode cX1_counts 16 = .ok (.iload_n 2, 1) := by decide +kernel
theorem dX1_counts_17 : decode cX1_counts 17 = .ok (.if_icmp .gt 7, 3) := by decide +kernel
theorem dX1_counts_20 : decode cX1_counts 20 = .ok (.iconst 1, 1) := by decide +kernel
theorem dX1_counts_21 : decode cX1_counts 21 = .ok (.goto 4, 3) := by decide +kernel
theorem dX1_counts_24 : decode cX1_counts 24 = .ok (.iconst 0, 1) := by decide +kernel
theorem dX1_counts_25 : decode cX1_counts 25 = .ok (.istore_n 3, 1) := by decide +kernel
theorem dX1_counts_26 : decode cX1_counts 26 = .ok (.aload_n 0, 1) := by decide +kernel
theorem dX1_counts_27 : decode cX1_counts 27 = .ok (.getfield 19, 3) := by decide +kernel
theorem dX1_counts_30 : decode cX1_counts 30 = .ok (.iload_n 1, 1) := by decide +kernel
theorem dX1_counts_31 : decode cX1_counts 31 = .ok (.iaload, 1) := by decide +kernel
theorem dX1_counts_32 : decode cX1_counts 32 = .ok (.iload_n 2, 1) := by decide +kernel
theorem dX1_counts_33 : decode cX1_counts 33 = .ok (.if_icmp .gt 11, 3) := by decide +kernel
theorem dX1_counts_36 : decode cX1_counts 36 = .ok (.iload_n 3, 1) := by decide +kernel
theorem dX1_counts_37 : decode cX1_counts 37 = .ok (.ifCond .ne 7, 3) := by decide +kernel
theorem dX1_counts_40 : decode cX1_counts 40 = .ok (.iconst 1, 1) := by decide +kernel
theorem dX1_counts_41 : decode cX1_counts 41 = .ok (.goto 4, 3) := by decide +kernel
theorem dX1_counts_44 : decode cX1_counts 44 = .ok (.iconst 0, 1) := by decide +kernel
theorem dX1_counts_45 : decode cX1_counts 45 = .ok (.ireturn, 1) := by decide +kernel
theorem dX1_let_0 : decode cX1_let 0 = .ok (.aload_n 0, 1) := by decide +kernel
theorem dX1_let_1 : decode cX1_let 1 = .ok (.getfield 32, 3) := by decide +kernel
theorem dX1_let_4 : decode cX1_let 4 = .ok (.ifCond .lt 12, 3) := by decide +kernel
theorem dX1_let_7 : decode cX1_let 7 = .ok (.aload_n 0, 1) := by decide +kernel
theorem dX1_let_8 : decode cX1_let 8 = .ok (.getfield 32, 3) := by decide +kernel
theorem dX1_let_11 : decode cX1_let 11 = .ok (.bipush 40, 2) := by decide +kernel
theorem dX1_let_13 : decode cX1_let 13 = .ok (.if_icmp .lt 5, 3) := by decide +kernel
theorem dX1_let_16 : decode cX1_let 16 = .ok (.iconst 1, 1) := by decide +kernel
theorem dX1_let_17 : decode cX1_let 17 = .ok (.ireturn, 1) := by decide +kernel
theorem dX1_let_18 : decode cX1_let 18 = .ok (.aload_n 0, 1) := by decide +kernel
theorem dX1_let_19 : decode cX1_let 19 = .ok (.getfield 29, 3) := by decide +kernel
theorem dX1_let_22 : decode cX1_let 22 = .ok (.aload_n 0, 1) := by decide +kernel
theorem dX1_let_23 : decode cX1_let 23 = .ok (.getfield 32, 3) := by decide +kernel
theorem dX1_let_26 : decode cX1_let 26 = .ok (.laload, 1) := by decide +kernel
theorem dX1_let_27 : decode cX1_let 27 = .ok (.aload_n 1, 1) := by decide +kernel
theorem dX1_let_28 : decode cX1_let 28 = .ok (.getfield 49, 3) := by decide +kernel
theorem dX1_let_31 : decode cX1_let 31 = .ok (.getfield 55, 3) := by decide +kernel
theorem dX1_let_34 : decode cX1_let 34 = .ok (.land, 1) := by decide +kernel
theorem dX1_let_35 : decode cX1_let 35 = .ok (.lconst 0, 1) := by decide +kernel
theorem dX1_let_36 : decode cX1_let 36 = .ok (.lcmp, 1) := by decide +kernel
theorem dX1_let_37 : decode cX1_let 37 = .ok (.ifCond .eq 5, 3) := by decide +kernel
theorem dX1_let_40 : decode cX1_let 40 = .ok (.iconst 0, 1) := by decide +kernel
theorem dX1_let_41 : decode cX1_let 41 = .ok (.ireturn, 1) := by decide +kernel
theorem dX1_let_42 : decode cX1_let 42 = .ok (.aload_n 1, 1) := by decide +kernel
theorem dX1_let_43 : decode cX1_let 43 = .ok (.aload_n 0, 1) := by decide +kernel
theorem dX1_let_44 : decode cX1_let 44 = .ok (.getfield 29, 3) := by decide +kernel
theorem dX1_let_47 : decode cX1_let 47 = .ok (.aload_n 0, 1) := by decide +kernel
theorem dX1_let_48 : decode cX1_let 48 = .ok (.getfield 32, 3) := by decide +kernel
theorem dX1_let_51 : decode cX1_let 51 = .ok (.laload, 1) := by decide +kernel
theorem dX1_let_52 : decode cX1_let 52 = .ok (.invokevirtual 61, 3) := by decide +kernel
theorem dX1_let_55 : decode cX1_let 55 = .ok (.aload_n 0, 1) := by decide +kernel
theorem dX1_let_56 : decode cX1_let 56 = .ok (.getfield 32, 3) := by decide +kernel
theorem dX1_let_59 : decode cX1_let 59 = .ok (.iconst 1, 1) := by decide +kernel
theorem dX1_let_60 : decode cX1_let 60 = .ok (.iadd, 1) := by decide +kernel
theorem dX1_let_61 : decode cX1_let 61 = .ok (.istore_n 2, 1) := by decide +kernel
theorem dX1_let_62 : decode cX1_let 62 = .ok (.iload_n 2, 1) := by decide +kernel
theorem dX1_let_63 : decode cX1_let 63 = .ok (.aload_n 0, 1) := by decide +kernel
theorem dX1_let_64 : decode cX1_let 64 = .ok (.getfield 36, 3) := by decide +kernel
theorem dX1_let_67 : decode cX1_let 67 = .ok (.if_icmp .gt 44, 3) := by decide +kernel
theorem dX1_let_70 : decode cX1_let 70 = .ok (.iload_n 2, 1) := by decide +kernel
theorem dX1_let_71 : decode cX1_let 71 = .ok (.bipush 40, 2) := by decide +kernel
theorem dX1_let_73 : decode cX1_let 73 = .ok (.if_icmp .ge 38, 3) := by decide +kernel
theorem dX1_let_76 : decode cX1_let 76 = .ok (.aload_n 1, 1) := by decide +kernel
theorem dX1_let_77 : decode cX1_let 77 = .ok (.invokevirtual 65, 3) := by decide +kernel
theorem dX1_let_80 : decode cX1_let 80 = .ok (.aload_n 0, 1) := by decide +kernel
theorem dX1_let_81 : decode cX1_let 81 = .ok (.getfield 25, 3) := by decide +kernel
theorem dX1_let_84 : decode cX1_let 84 = .ok (.iload_n 2, 1) := by decide +kernel
theorem dX1_let_85 : decode cX1_let 85 = .ok (.baload, 1) := by decide +kernel
theorem dX1_let_86 : decode cX1_let 86 = .ok (.ifCond .eq 19, 3) := by decide +kernel
theorem dX1_let_89 : decode cX1_let 89 = .ok (.aload_n 1, 1) := by decide +kernel
theorem dX1_let_90 : decode cX1_let 90 = .ok (.invokevirtual 68, 3) := by decide +kernel
theorem dX1_let_93 : decode cX1_let 93 = .ok (.aload_n 0, 1) := by decide +kernel
theorem dX1_let_94 : decode cX1_let 94 = .ok (.getfield 29, 3) := by decide +kernel
theorem dX1_let_97 : decode cX1_let 97 = .ok (.iload_n 2, 1) := by decide +kernel
theorem dX1_let_98 : decode cX1_let 98 = .ok (.laload, 1) := by decide +kernel
theorem dX1_let_99 : decode cX1_let 99 = .ok (.lcmp, 1) := by decide +kernel
theorem dX1_let_100 : decode cX1_let 100 = .ok (.ifCond .eq 5, 3) := by decide +kernel
theorem dX1_let_103 : decode cX1_let 103 = .ok (.iconst 0, 1) := by decide +kernel
theorem dX1_let_104 : decode cX1_let 104 = .ok (.ireturn, 1) := by decide +kernel
theorem dX1_let_105 : decode cX1_let 105 = .ok (.iinc 2 1, 3) := by decide +kernel
theorem dX1_let_108 : decode cX1_let 108 = .ok (.goto (-46), 3) := by decide +kernel
theorem dX1_let_111 : decode cX1_let 111 = .ok (.iconst 1, 1) := by decide +kernel
theorem dX1_let_112 : decode cX1_let 112 = .ok (.ireturn, 1) := by decide +kernel
theorem dX1_shownBy_0 : decode cX1_shownBy 0 = .ok (.aload_n 0, 1) := by decide +kernel
theorem dX1_shownBy_1 : decode cX1_shownBy 1 = .ok (.getfield 32, 3) := by decide +kernel
theorem dX1_shownBy_4 : decode cX1_shownBy 4 = .ok (.ifCond .lt 12, 3) := by decide +kernel
theorem dX1_shownBy_7 : decode cX1_shownBy 7 = .ok (.aload_n 0, 1) := by decide +kernel
theorem dX1_shownBy_8 : decode cX1_shownBy 8 = .ok (.getfield 32, 3) := by decide +kernel
theorem dX1_shownBy_11 : decode cX1_shownBy 11 = .ok (.bipush 40, 2) := by decide +kernel
theorem dX1_shownBy_13 : decode cX1_shownBy 13 = .ok (.if_icmp .lt 5, 3) := by decide +kernel
theorem dX1_shownBy_16 : decode cX1_shownBy 16 = .ok (.lconst 0, 1) := by decide +kernel
theorem dX1_shownBy_17 : decode cX1_shownBy 17 = .ok (.lreturn, 1) := by decide +kernel
theorem dX1_shownBy_18 : decode cX1_shownBy 18 = .ok (.aload_n 1, 1) := by decide +kernel
theorem dX1_shownBy_19 : decode cX1_shownBy 19 = .ok (.aload_n 0, 1) := by decide +kernel
theorem dX1_shownBy_20 : decode cX1_shownBy 20 = .ok (.getfield 29, 3) := by decide +kernel
theorem dX1_shownBy_23 : decode cX1_shownBy 23 = .ok (.aload_n 0, 1) := by decide +kernel
theorem dX1_shownBy_24 : decode cX1_shownBy 24 = .ok (.getfield 32, 3) := by decide +kernel
theorem dX1_shownBy_27 : decode cX1_shownBy 27 = .ok (.laload, 1) := by decide +kernel
theorem dX1_shownBy_28 : decode cX1_shownBy 28 = .ok (.invokevirtual 61, 3) := by decide +kernel
theorem dX1_shownBy_31 : decode cX1_shownBy 31 = .ok (.aload_n 0, 1) := by decide +kernel
theorem dX1_shownBy_32 : decode cX1_shownBy 32 = .ok (.getfield 32, 3) := by decide +kernel
theorem dX1_shownBy_35 : decode cX1_shownBy 35 = .ok (.istore_n 3, 1) := by decide +kernel
theorem dX1_shownBy_36 : decode cX1_shownBy 36 = .ok (.iload_n 3, 1) := by decide +kernel
theorem dX1_shownBy_37 : decode cX1_shownBy 37 = .ok (.iload_n 2, 1) := by decide +kernel
theorem dX1_shownBy_38 : decode cX1_shownBy 38 = .ok (.if_icmp .ge 19, 3) := by decide +kernel
theorem dX1_shownBy_41 : decode cX1_shownBy 41 = .ok (.iload_n 3, 1) := by decide +kernel
theorem dX1_shownBy_42 : decode cX1_shownBy 42 = .ok (.bipush 40, 2) := by decide +kernel
theorem dX1_shownBy_44 : decode cX1_shownBy 44 = .ok (.if_icmp .ge 13, 3) := by decide +kernel
theorem dX1_shownBy_47 : decode cX1_shownBy 47 = .ok (.aload_n 1, 1) := by decide +kernel
theorem dX1_shownBy_48 : decode cX1_shownBy 48 = .ok (.invokevirtual 65, 3) := by decide +kernel
theorem dX1_shownBy_51 : decode cX1_shownBy 51 = .ok (.iinc 3 1, 3) := by decide +kernel
theorem dX1_shownBy_54 : decode cX1_shownBy 54 = .ok (.goto (-18), 3) := by decide +kernel
theorem dX1_shownBy_57 : decode cX1_shownBy 57 = .ok (.aload_n 1, 1) := by decide +kernel
theorem dX1_shownBy_58 : decode cX1_shownBy 58 = .ok (.invokevirtual 68, 3) := by decide +kernel
theorem dX1_shownBy_61 : decode cX1_shownBy 61 = .ok (.lreturn, 1) := by decide +kernel
theorem dX2_init_0 : decode cX2_init 0 = .ok (.aload_n 0, 1) := by decide +kernel
theorem dX2_init_1 : decode cX2_init 1 = .ok (.invokespecial 3, 3) := by decide +kernel
theorem dX2_init_4 : decode cX2_init 4 = .ok (.aload_n 0, 1) := by decide +kernel
theorem dX2_init_5 : decode cX2_init 5 = .ok (.sipush 260, 3) := by decide +kernel
theorem dX2_init_8 : decode cX2_init 8 = .ok (.newarray .int, 2) := by decide +kernel
theorem dX2_init_10 : decode cX2_init 10 = .ok (.putfield 9, 3) := by decide +kernel
theorem dX2_init_13 : decode cX2_init 13 = .ok (.aload_n 0, 1) := by decide +kernel
theorem dX2_init_14 : decode cX2_init 14 = .ok (.bipush 30, 2) := by decide +kernel
theorem dX2_init_16 : decode cX2_init 16 = .ok (.newarray .int, 2) := by decide +kernel
theorem dX2_init_18 : decode cX2_init 18 = .ok (.putfield 15, 3) := by decide +kernel
theorem dX2_init_21 : decode cX2_init 21 = .ok (.return_, 1) := by decide +kernel
theorem dX2_clear_0 : decode cX2_clear 0 = .ok (.aload_n 0, 1) := by decide +kernel
theorem dX2_clear_1 : decode cX2_clear 1 = .ok (.iconst 0, 1) := by decide +kernel
theorem dX2_clear_2 : decode cX2_clear 2 = .ok (.putfield 18, 3) := by decide +kernel
theorem dX2_clear_5 : decode cX2_clear 5 = .ok (.aload_n 0, 1) := by decide +kernel
theorem dX2_clear_6 : decode cX2_clear 6 = .ok (.iconst 0, 1) := by decide +kernel
theorem dX2_clear_7 : decode cX2_clear 7 = .ok (.putfield 22, 3) := by decide +kernel
theorem dX2_clear_10 : decode cX2_clear 10 = .ok (.return_, 1) := by decide +kernel
theorem dX2_add_0 : decode cX2_add 0 = .ok (.aload_n 0, 1) := by decide +kernel
theorem dX2_add_1 : decode cX2_add 1 = .ok (.getfield 18, 3) := by decide +kernel
theorem dX2_add_4 : decode cX2_add 4 = .ok (.ifCond .lt 35, 3) := by decide +kernel
theorem dX2_add_7 : decode cX2_add 7 = .ok (.aload_n 0, 1) := by decide +kernel
theorem dX2_add_8 : decode cX2_add 8 = .ok (.getfield 18, 3) := by decide +kernel
theorem dX2_add_11 : decode cX2_add 11 = .ok (.aload_n 0, 1) := by decide +kernel
theorem dX2_add_12 : decode cX2_add 12 = .ok (.getfield 9, 3) := by decide +kernel
theorem dX2_add_15 : decode cX2_add 15 = .ok (.arraylength, 1) := by decide +kernel
theorem dX2_add_16 : decode cX2_add 16 = .ok (.if_icmp .ge 23, 3) := by decide +kernel
theorem dX2_add_19 : decode cX2_add 19 = .ok (.aload_n 0, 1) := by decide +kernel
theorem dX2_add_20 : decode cX2_add 20 = .ok (.getfield 9, 3) := by decide +kernel
theorem dX2_add_23 : decode cX2_add 23 = .ok (.aload_n 0, 1) := by decide +kernel
theorem dX2_add_24 : decode cX2_add 24 = .ok (.getfield 18, 3) := by decide +kernel
theorem dX2_add_27 : decode cX2_add 27 = .ok (.iload_n 1, 1) := by decide +kernel
theorem dX2_add_28 : decode cX2_add 28 = .ok (.iastore, 1) := by decide +kernel
theorem dX2_add_29 : decode cX2_add 29 = .ok (.aload_n 0, 1) := by decide +kernel
theorem dX2_add_30 : decode cX2_add 30 = .ok (.dup, 1) := by decide +kernel
theorem dX2_add_31 : decode cX2_add 31 = .ok (.getfield 18, 3) := by decide +kernel
theorem dX2_add_34 : decode cX2_add 34 = .ok (.iconst 1, 1) := by decide +kernel
theorem dX2_add_35 : decode cX2_add 35 = .ok (.iadd, 1) := by decide +kernel
theorem dX2_add_36 : decode cX2_add 36 = .ok (.putfield 18, 3) := by decide +kernel
theorem dX2_add_39 : decode cX2_add 39 = .ok (.return_, 1) := by decide +kernel
theorem dX2_addUnit_0 : decode cX2_addUnit 0 = .ok (.aload_n 0, 1) := by decide +kernel
theorem dX2_addUnit_1 : decode cX2_addUnit 1 = .ok (.iload_n 1, 1) := by decide +kernel
theorem dX2_addUnit_2 : decode cX2_addUnit 2 = .ok (.invokevirtual 25, 3) := by decide +kernel
theorem dX2_addUnit_5 : decode cX2_addUnit 5 = .ok (.aload_n 0, 1) := by decide +kernel
theorem dX2_addUnit_6 : decode cX2_addUnit 6 = .ok (.dup, 1) := by decide +kernel
theorem dX2_addUnit_7 : decode cX2_addUnit 7 = .ok (.getfield 22, 3) := by decide +kernel
theorem dX2_addUnit_10 : decode cX2_addUnit 10 = .ok (.iconst 1, 1) := by decide +kernel
theorem dX2_addUnit_11 : decode cX2_addUnit 11 = .ok (.iadd, 1) := by decide +kernel
theorem dX2_addUnit_12 : decode cX2_addUnit 12 = .ok (.putfield 22, 3) := by decide +kernel
theorem dX2_addUnit_15 : decode cX2_addUnit 15 = .ok (.return_, 1) := by decide +kernel
theorem dX2_worth_0 : decode cX2_worth 0 = .ok (.iconst 0, 1) := by decide +kernel
theorem dX2_worth_1 : decode cX2_worth 1 = .ok (.istore_n 2, 1) := by decide +kernel
theorem dX2_worth_2 : decode cX2_worth 2 = .ok (.iconst 0, 1) := by decide +kernel
theorem dX2_worth_3 : decode cX2_worth 3 = .ok (.istore_n 3, 1) := by decide +kernel
theorem dX2_worth_4 : decode cX2_worth 4 = .ok (.iload_n 3, 1) := by decide +kernel
theorem dX2_worth_5 : decode cX2_worth 5 = .ok (.aload_n 0, 1) := by decide +kernel
theorem dX2_worth_6 : decode cX2_worth 6 = .ok (.getfield 18, 3) := by decide +kernel
theorem dX2_worth_9 : decode cX2_worth 9 = .ok (.if_icmp .ge 155, 3) := by decide +kernel
theorem dX2_worth_12 : decode cX2_worth 12 = .ok (.iload_n 3, 1) := by decide +kernel
theorem dX2_worth_13 : decode cX2_worth 13 = .ok (.aload_n 0, 1) := by decide +kernel
theorem dX2_worth_14 : decode cX2_worth 14 = .ok (.getfield 9, 3) := by decide +kernel
theorem dX2_worth_17 : decode cX2_worth 17 = .ok (.arraylength, 1) := by decide +kernel
theorem dX2_worth_18 : decode cX2_worth 18 = .ok (.if_icmp .ge 146, 3) := by decide +kernel
theorem dX2_worth_21 : decode cX2_worth 21 = .ok (.aload_n 0, 1) := by decide +kernel
theorem dX2_worth_22 : decode cX2_worth 22 = .ok (.getfield 9, 3) := by decide +kernel
theorem dX2_worth_25 : decode cX2_worth 25 = .ok (.iload_n 3, 1) := by decide +kernel
theorem dX2_worth_26 : decode cX2_worth 26 = .ok (.iaload, 1) := by decide +kernel
theorem dX2_worth_27 : decode cX2_worth 27 = .ok (.istore 4, 2) := by decide +kernel
theorem dX2_worth_29 : decode cX2_worth 29 = .ok (.iload 4, 2) := by decide +kernel
theorem dX2_worth_31 : decode cX2_worth 31 = .ok (.sipush 20000, 3) := by decide +kernel
theorem dX2_worth_34 : decode cX2_worth 34 = .ok (.if_icmp .ge 47, 3) := by decide +kernel
theorem dX2_worth_37 : decode cX2_worth 37 = .ok (.iload_n 2, 1) := by decide +kernel
theorem dX2_worth_38 : decode cX2_worth 38 = .ok (.aload_n 0, 1) := by decide +kernel
theorem dX2_worth_39 : decode cX2_worth 39 = .ok (.getfield 15, 3) := by decide +kernel
theorem dX2_worth_42 : decode cX2_worth 42 = .ok (.arraylength, 1) := by decide +kernel
theorem dX2_worth_43 : decode cX2_worth 43 = .ok (.if_icmp .ge 115, 3) := by decide +kernel
theorem dX2_worth_46 : decode cX2_worth 46 = .ok (.aload_n 0, 1) := by decide +kernel
theorem dX2_worth_47 : decode cX2_worth 47 = .ok (.getfield 15, 3) := by decide +kernel
theorem dX2_worth_50 : decode cX2_worth 50 = .ok (.iload_n 2, 1) := by decide +kernel
theorem dX2_worth_51 : decode cX2_worth 51 = .ok (.iload 4, 2) := by decide +kernel
theorem dX2_worth_53 : decode cX2_worth 53 = .ok (.sipush 10000, 3) := by decide +kernel
theorem dX2_worth_56 : decode cX2_worth 56 = .ok (.if_icmp .ge 8, 3) := by decide +kernel
theorem dX2_worth_59 : decode cX2_worth 59 = .ok (.iload 4, 2) := by decide +kernel
theorem dX2_worth_61 : decode cX2_worth 61 = .ok (.goto 13, 3) := by decide +kernel
theorem dX2_worth_64 : decode cX2_worth 64 = .ok (.aload_n 1, 1) := by decide +kernel
theorem dX2_worth_65 : decode cX2_worth 65 = .ok (.iload 4, 2) := by decide +kernel
theorem dX2_worth_67 : decode cX2_worth 67 = .ok (.sipush 10000, 3) := by decide +kernel
theorem dX2_worth_70 : decode cX2_worth 70 = .ok (.isub, 1) := by decide +kernel
theorem dX2_worth_71 : decode cX2_worth 71 = .ok (.invokestatic 29, 3) := by decide +kernel
theorem dX2_worth_74 : decode cX2_worth 74 = .ok (.iastore, 1) := by decide +kernel
theorem dX2_worth_75 : decode cX2_worth 75 = .ok (.iinc 2 1, 3) := by decide +kernel
theorem dX2_worth_78 : decode cX2_worth 78 = .ok (.goto 80, 3) := by decide +kernel
theorem dX2_worth_81 : decode cX2_worth 81 = .ok (.iload 4, 2) := by decide +kernel
theorem dX2_worth_83 : decode cX2_worth 83 = .ok (.sipush 20000, 3) := by decide +kernel
theorem dX2_worth_86 : decode cX2_worth 86 = .ok (.if_icmp .ne 35, 3) := by decide +kernel
theorem dX2_worth_89 : decode cX2_worth 89 = .ok (.iload_n 2, 1) := by decide +kernel
theorem dX2_worth_90 : decode cX2_worth 90 = .ok (.iconst 1, 1) := by decide +kernel
theorem dX2_worth_91 : decode cX2_worth 91 = .ok (.if_icmp .lt 67, 3) := by decide +kernel
theorem dX2_worth_94 : decode cX2_worth 94 = .ok (.aload_n 0, 1) := by decide +kernel
theorem dX2_worth_95 : decode cX2_worth 95 = .ok (.getfield 15, 3) := by decide +kernel
theorem dX2_worth_98 : decode cX2_worth 98 = .ok (.iload_n 2, 1) := by decide +kernel
theorem dX2_worth_99 : decode cX2_worth 99 = .ok (.iconst 1, 1) := by decide +kernel
theorem dX2_worth_100 : decode cX2_worth 100 = .ok (.isub, 1) := by decide +kernel
theorem dX2_worth_101 : decode cX2_worth 101 = .ok (.aload_n 0, 1) := by decide +kernel
theorem dX2_worth_102 : decode cX2_worth 102 = .ok (.getfield 15, 3) := by decide +kernel
theorem dX2_worth_105 : decode cX2_worth 105 = .ok (.iload_n 2, 1) := by decide +kernel
theorem dX2_worth_106 : decode cX2_worth 106 = .ok (.iconst 1, 1) := by decide +kernel
theorem dX2_worth_107 : decode cX2_worth 107 = .ok (.isub, 1) := by decide +kernel
theorem dX2_worth_108 : decode cX2_worth 108 = .ok (.iaload, 1) := by decide +kernel
theorem dX2_worth_109 : decode cX2_worth 109 = .ok (.ifCond .ne 7, 3) := by decide +kernel
theorem dX2_worth_112 : decode cX2_worth 112 = .ok (.iconst 1, 1) := by decide +kernel
theorem dX2_worth_113 : decode cX2_worth 113 = .ok (.goto 4, 3) := by decide +kernel
theorem dX2_worth_116 : decode cX2_worth 116 = .ok (.iconst 0, 1) := by decide +kernel
theorem dX2_worth_117 : decode cX2_worth 117 = .ok (.iastore, 1) := by decide +kernel
theorem dX2_worth_118 : decode cX2_worth 118 = .ok (.goto 40, 3) := by decide +kernel
theorem dX2_worth_121 : decode cX2_worth 121 = .ok (.iload_n 2, 1) := by decide +kernel
theorem dX2_worth_122 : decode cX2_worth 122 = .ok (.iconst 2, 1) := by decide +kernel
theorem dX2_worth_123 : decode cX2_worth 123 = .ok (.if_icmp .lt 35, 3) := by decide +kernel
theorem dX2_worth_126 : decode cX2_worth 126 = .ok (.aload_n 0, 1) := by decide +kernel
theorem dX2_worth_127 : decode cX2_worth 127 = .ok (.getfield 15, 3) := by decide +kernel
theorem dX2_worth_130 : decode cX2_worth 130 = .ok (.iload_n 2, 1) := by decide +kernel
theorem dX2_worth_131 : decode cX2_worth 131 = .ok (.iconst 2, 1) := by decide +kernel
theorem dX2_worth_132 : decode cX2_worth 132 = .ok (.isub, 1) := by decide +kernel
theorem dX2_worth_133 : decode cX2_worth 133 = .ok (.iload 4, 2) := by decide +kernel
theorem dX2_worth_135 : decode cX2_worth 135 = .ok (.aload_n 0, 1) := by decide +kernel
theorem dX2_worth_136 : decode cX2_worth 136 = .ok (.getfield 15, 3) := by decide +kernel
theorem dX2_worth_139 : decode cX2_worth 139 = .ok (.iload_n 2, 1) := by decide +kernel
theorem dX2_worth_140 : decode cX2_worth 140 = .ok (.iconst 2, 1) := by decide +kernel
theorem dX2_worth_141 : decode cX2_worth 141 = .ok (.isub, 1) := by decide +kernel
theorem dX2_worth_142 : decode cX2_worth 142 = .ok (.iaload, 1) := by decide +kernel
theorem dX2_worth_143 : decode cX2_worth 143 = .ok (.aload_n 0, 1) := by decide +kernel
theorem dX2_worth_144 : decode cX2_worth 144 = .ok (.getfield 15, 3) := by decide +kernel
theorem dX2_worth_147 : decode cX2_worth 147 = .ok (.iload_n 2, 1) := by decide +kernel
theorem dX2_worth_148 : decode cX2_worth 148 = .ok (.iconst 1, 1) := by decide +kernel
theorem dX2_worth_149 : decode cX2_worth 149 = .ok (.isub, 1) := by decide +kernel
theorem dX2_worth_150 : decode cX2_worth 150 = .ok (.iaload, 1) := by decide +kernel
theorem dX2_worth_151 : decode cX2_worth 151 = .ok (.invokestatic 33, 3) := by decide +kernel
theorem dX2_worth_154 : decode cX2_worth 154 = .ok (.iastore, 1) := by decide +kernel
theorem dX2_worth_155 : decode cX2_worth 155 = .ok (.iinc 2 (-1), 3) := by decide +kernel
theorem dX2_worth_158 : decode cX2_worth 158 = .ok (.iinc 3 1, 3) := by decide +kernel
theorem dX2_worth_161 : decode cX2_worth 161 = .ok (.goto (-157), 3) := by decide +kernel
theorem dX2_worth_164 : decode cX2_worth 164 = .ok (.aload_n 0, 1) := by decide +kernel
theorem dX2_worth_165 : decode cX2_worth 165 = .ok (.getfield 15, 3) := by decide +kernel
theorem dX2_worth_168 : decode cX2_worth 168 = .ok (.iconst 0, 1) := by decide +kernel
theorem dX2_worth_169 : decode cX2_worth 169 = .ok (.iaload, 1) := by decide +kernel
theorem dX2_worth_170 : decode cX2_worth 170 = .ok (.ireturn, 1) := by decide +kernel
theorem dX2_lookedUp_0 : decode cX2_lookedUp 0 = .ok (.iload_n 1, 1) := by decide +kernel
theorem dX2_lookedUp_1 : decode cX2_lookedUp 1 = .ok (.ifCond .lt 15, 3) := by decide +kernel
theorem dX2_lookedUp_4 : decode cX2_lookedUp 4 = .ok (.iload_n 1, 1) := by decide +kernel
theorem dX2_lookedUp_5 : decode cX2_lookedUp 5 = .ok (.aload_n 0, 1) := by decide +kernel
theorem dX2_lookedUp_6 : decode cX2_lookedUp 6 = .ok (.arraylength, 1) := by decide +kernel
theorem dX2_lookedUp_7 : decode cX2_lookedUp 7 = .ok (.if_icmp .ge 9, 3) := by decide +kernel
theorem dX2_lookedUp_10 : decode cX2_lookedUp 10 = .ok (.aload_n 0, 1) := by decide +kernel
theorem dX2_lookedUp_11 : decode cX2_lookedUp 11 = .ok (.iload_n 1, 1) := by decide +kernel
theorem dX2_lookedUp_12 : decode cX2_lookedUp 12 = .ok (.iaload, 1) := by decide +kernel
theorem dX2_lookedUp_13 : decode cX2_lookedUp 13 = .ok (.goto 4, 3) := by decide +kernel
theorem dX2_lookedUp_16 : decode cX2_lookedUp 16 = .ok (.iconst 0, 1) := by decide +kernel
theorem dX2_lookedUp_17 : decode cX2_lookedUp 17 = .ok (.ireturn, 1) := by decide +kernel
theorem dX2_joined_0 : decode cX2_joined 0 = .ok (.iload_n 0, 1) := by decide +kernel
theorem dX2_joined_1 : decode cX2_joined 1 = .ok (.tableswitch 112 20001 20007 #[43, 57, 71, 82, 93, 104, 108], 43) := by decide +kernel
theorem dX2_joined_44 : decode cX2_joined 44 = .ok (.iload_n 1, 1) := by decide +kernel
theorem dX2_joined_45 : decode cX2_joined 45 = .ok (.ifCond .eq 11, 3) := by decide +kernel
theorem dX2_joined_48 : decode cX2_joined 48 = .ok (.iload_n 2, 1) := by decide +kernel
theorem dX2_joined_49 : decode cX2_joined 49 = .ok (.ifCond .eq 7, 3) := by decide +kernel
theorem dX2_joined_52 : decode cX2_joined 52 = .ok (.iconst 1, 1) := by decide +kernel
theorem dX2_joined_53 : decode cX2_joined 53 = .ok (.goto 4, 3) := by decide +kernel
theorem dX2_joined_56 : decode cX2_joined 56 = .ok (.iconst 0, 1) := by decide +kernel
theorem dX2_joined_57 : decode cX2_joined 57 = .ok (.ireturn, 1) := by decide +kernel
theorem dX2_joined_58 : decode cX2_joined 58 = .ok (.iload_n 1, 1) := by decide +kernel
theorem dX2_joined_59 : decode cX2_joined 59 = .ok (.ifCond .ne 7, 3) := by decide +kernel
theorem dX2_joined_62 : decode cX2_joined 62 = .ok (.iload_n 2, 1) := by decide +kernel
theorem dX2_joined_63 : decode cX2_joined 63 = .ok (.ifCond .eq 7, 3) := by decide +kernel
theorem dX2_joined_66 : decode cX2_joined 66 = .ok (.iconst 1, 1) := by decide +kernel
theorem dX2_joined_67 : decode cX2_joined 67 = .ok (.goto 4, 3) := by decide +kernel
theorem dX2_joined_70 : decode cX2_joined 70 = .ok (.iconst 0, 1) := by decide +kernel
theorem dX2_joined_71 : decode cX2_joined 71 = .ok (.ireturn, 1) := by decide +kernel
theorem dX2_joined_72 : decode cX2_joined 72 = .ok (.iload_n 1, 1) := by decide +kernel
theorem dX2_joined_73 : decode cX2_joined 73 = .ok (.iload_n 2, 1) := by decide +kernel
theorem dX2_joined_74 : decode cX2_joined 74 = .ok (.if_icmp .ge 7, 3) := by decide +kernel
theorem dX2_joined_77 : decode cX2_joined 77 = .ok (.iconst 1, 1) := by decide +kernel
theorem dX2_joined_78 : decode cX2_joined 78 = .ok (.goto 4, 3) := by decide +kernel
theorem dX2_joined_81 : decode cX2_joined 81 = .ok (.iconst 0, 1) := by decide +kernel
theorem dX2_joined_82 : decode cX2_joined 82 = .ok (.ireturn, 1) := by decide +kernel
theorem dX2_joined_83 : decode cX2_joined 83 = .ok (.iload_n 1, 1) := by decide +kernel
theorem dX2_joined_84 : decode cX2_joined 84 = .ok (.iload_n 2, 1) := by decide +kernel
theorem dX2_joined_85 : decode cX2_joined 85 = .ok (.if_icmp .le 7, 3) := by decide +kernel
theorem dX2_joined_88 : decode cX2_joined 88 = .ok (.iconst 1, 1) := by decide +kernel
theorem dX2_joined_89 : decode cX2_joined 89 = .ok (.goto 4, 3) := by decide +kernel
theorem dX2_joined_92 : decode cX2_joined 92 = .ok (.iconst 0, 1) := by decide +kernel
theorem dX2_joined_93 : decode cX2_joined 93 = .ok (.ireturn, 1) := by decide +kernel
theorem dX2_joined_94 : decode cX2_joined 94 = .ok (.iload_n 1, 1) := by decide +kernel
theorem dX2_joined_95 : decode cX2_joined 95 = .ok (.iload_n 2, 1) := by decide +kernel
theorem dX2_joined_96 : decode cX2_joined 96 = .ok (.if_icmp .ne 7, 3) := by decide +kernel
theorem dX2_joined_99 : decode cX2_joined 99 = .ok (.iconst 1, 1) := by decide +kernel
theorem dX2_joined_100 : decode cX2_joined 100 = .ok (.goto 4, 3) := by decide +kernel
theorem dX2_joined_103 : decode cX2_joined 103 = .ok (.iconst 0, 1) := by decide +kernel
theorem dX2_joined_104 : decode cX2_joined 104 = .ok (.ireturn, 1) := by decide +kernel
theorem dX2_joined_105 : decode cX2_joined 105 = .ok (.iload_n 1, 1) := by decide +kernel
theorem dX2_joined_106 : decode cX2_joined 106 = .ok (.iload_n 2, 1) := by decide +kernel
theorem dX2_joined_107 : decode cX2_joined 107 = .ok (.iadd, 1) := by decide +kernel
theorem dX2_joined_108 : decode cX2_joined 108 = .ok (.ireturn, 1) := by decide +kernel
theorem dX2_joined_109 : decode cX2_joined 109 = .ok (.iload_n 1, 1) := by decide +kernel
theorem dX2_joined_110 : decode cX2_joined 110 = .ok (.iload_n 2, 1) := by decide +kernel
theorem dX2_joined_111 : decode cX2_joined 111 = .ok (.isub, 1) := by decide +kernel
theorem dX2_joined_112 : decode cX2_joined 112 = .ok (.ireturn, 1) := by decide +kernel
theorem dX2_joined_113 : decode cX2_joined 113 = .ok (.iload_n 1, 1) := by decide +kernel
theorem dX2_joined_114 : decode cX2_joined 114 = .ok (.iload_n 2, 1) := by decide +kernel
theorem dX2_joined_115 : decode cX2_joined 115 = .ok (.imul, 1) := by decide +kernel
theorem dX2_joined_116 : decode cX2_joined 116 = .ok (.ireturn, 1) := by decide +kernel
theorem dX3_init_0 : decode cX3_init 0 = .ok (.aload_n 0, 1) := by decide +kernel
theorem dX3_init_1 : decode cX3_init 1 = .ok (.invokespecial 1, 3) := by decide +kernel
theorem dX3_init_4 : decode cX3_init 4 = .ok (.aload_n 0, 1) := by decide +kernel
theorem dX3_init_5 : decode cX3_init 5 = .ok (.aload_n 1, 1) := by decide +kernel
theorem dX3_init_6 : decode cX3_init 6 = .ok (.putfield 7, 3) := by decide +kernel
theorem dX3_init_9 : decode cX3_init 9 = .ok (.return_, 1) := by decide +kernel
theorem dX3_take_0 : decode cX3_take 0 = .ok (.aload_n 0, 1) := by decide +kernel
theorem dX3_take_1 : decode cX3_take 1 = .ok (.aload_n 2, 1) := by decide +kernel
theorem dX3_take_2 : decode cX3_take 2 = .ok (.putfield 7, 3) := by decide +kernel
theorem dX3_take_5 : decode cX3_take 5 = .ok (.aload_n 0, 1) := by decide +kernel
theorem dX3_take_6 : decode cX3_take 6 = .ok (.iload_n 1, 1) := by decide +kernel
theorem dX3_take_7 : decode cX3_take 7 = .ok (.iconst 4, 1) := by decide +kernel
theorem dX3_take_8 : decode cX3_take 8 = .ok (.irem, 1) := by decide +kernel
theorem dX3_take_9 : decode cX3_take 9 = .ok (.putfield 13, 3) := by decide +kernel
theorem dX3_take_12 : decode cX3_take 12 = .ok (.aload_n 0, 1) := by decide +kernel
theorem dX3_take_13 : decode cX3_take 13 = .ok (.iload_n 1, 1) := by decide +kernel
theorem dX3_take_14 : decode cX3_take 14 = .ok (.iconst 4, 1) := by decide +kernel
theorem dX3_take_15 : decode cX3_take 15 = .ok (.idiv, 1) := by decide +kernel
theorem dX3_take_16 : decode cX3_take 16 = .ok (.iconst 3, 1) := by decide +kernel
theorem dX3_take_17 : decode cX3_take 17 = .ok (.irem, 1) := by decide +kernel
theorem dX3_take_18 : decode cX3_take 18 = .ok (.iconst 1, 1) := by decide +kernel
theorem dX3_take_19 : decode cX3_take 19 = .ok (.iadd, 1) := by decide +kernel
theorem dX3_take_20 : decode cX3_take 20 = .ok (.putfield 17, 3) := by decide +kernel
theorem dX3_take_23 : decode cX3_take 23 = .ok (.aload_n 0, 1) := by decide +kernel
theorem dX3_take_24 : decode cX3_take 24 = .ok (.iload_n 1, 1) := by decide +kernel
theorem dX3_take_25 : decode cX3_take 25 = .ok (.bipush 12, 2) := by decide +kernel
theorem dX3_take_27 : decode cX3_take 27 = .ok (.idiv, 1) := by decide +kernel
theorem dX3_take_28 : decode cX3_take 28 = .ok (.iconst 3, 1) := by decide +kernel
theorem dX3_take_29 : decode cX3_take 29 = .ok (.irem, 1) := by decide +kernel
theorem dX3_take_30 : decode cX3_take 30 = .ok (.iconst 1, 1) := by decide +kernel
theorem dX3_take_31 : decode cX3_take 31 = .ok (.iadd, 1) := by decide +kernel
theorem dX3_take_32 : decode cX3_take 32 = .ok (.putfield 20, 3) := by decide +kernel
theorem dX3_take_35 : decode cX3_take 35 = .ok (.aload_n 0, 1) := by decide +kernel
theorem dX3_take_36 : decode cX3_take 36 = .ok (.aload_n 2, 1) := by decide +kernel
theorem dX3_take_37 : decode cX3_take 37 = .ok (.iload_n 1, 1) := by decide +kernel
theorem dX3_take_38 : decode cX3_take 38 = .ok (.bipush 36, 2) := by decide +kernel
theorem dX3_take_40 : decode cX3_take 40 = .ok (.idiv, 1) := by decide +kernel
theorem dX3_take_41 : decode cX3_take 41 = .ok (.iconst 3, 1) := by decide +kernel
theorem dX3_take_42 : decode cX3_take 42 = .ok (.irem, 1) := by decide +kernel
theorem dX3_take_43 : decode cX3_take 43 = .ok (.iconst 1, 1) := by decide +kernel
theorem dX3_take_44 : decode cX3_take 44 = .ok (.iadd, 1) := by decide +kernel
theorem dX3_take_45 : decode cX3_take 45 = .ok (.invokevirtual 23, 3) := by decide +kernel
theorem dX3_take_48 : decode cX3_take 48 = .ok (.putfield 29, 3) := by decide +kernel
theorem dX3_take_51 : decode cX3_take 51 = .ok (.iload_n 1, 1) := by decide +kernel
theorem dX3_take_52 : decode cX3_take 52 = .ok (.bipush 108, 2) := by decide +kernel
theorem dX3_take_54 : decode cX3_take 54 = .ok (.idiv, 1) := by decide +kernel
theorem dX3_take_55 : decode cX3_take 55 = .ok (.istore_n 3, 1) := by decide +kernel
theorem dX3_take_56 : decode cX3_take 56 = .ok (.aload_n 0, 1) := by decide +kernel
theorem dX3_take_57 : decode cX3_take 57 = .ok (.iload_n 3, 1) := by decide +kernel
theorem dX3_take_58 : decode cX3_take 58 = .ok (.iconst 1, 1) := by decide +kernel
theorem dX3_take_59 : decode cX3_take 59 = .ok (.if_icmp .eq 7, 3) := by decide +kernel
theorem dX3_take_62 : decode cX3_take 62 = .ok (.iconst 1, 1) := by decide +kernel
theorem dX3_take_63 : decode cX3_take 63 = .ok (.goto 4, 3) := by decide +kernel
theorem dX3_take_66 : decode cX3_take 66 = .ok (.iconst 0, 1) := by decide +kernel
theorem dX3_take_67 : decode cX3_take 67 = .ok (.putfield 32, 3) := by decide +kernel
theorem dX3_take_70 : decode cX3_take 70 = .ok (.aload_n 0, 1) := by decide +kernel
theorem dX3_take_71 : decode cX3_take 71 = .ok (.iload_n 3, 1) := by decide +kernel
theorem dX3_take_72 : decode cX3_take 72 = .ok (.ifCond .eq 7, 3) := by decide +kernel
theorem dX3_take_75 : decode cX3_take 75 = .ok (.iconst 1, 1) := by decide +kernel
theorem dX3_take_76 : decode cX3_take 76 = .ok (.goto 4, 3) := by decide +kernel
theorem dX3_take_79 : decode cX3_take 79 = .ok (.iconst 0, 1) := by decide +kernel
theorem dX3_take_80 : decode cX3_take 80 = .ok (.putfield 36, 3) := by decide +kernel
theorem dX3_take_83 : decode cX3_take 83 = .ok (.return_, 1) := by decide +kernel
theorem dX3_begin_0 : decode cX3_begin 0 = .ok (.aload_n 0, 1) := by decide +kernel
theorem dX3_begin_1 : decode cX3_begin 1 = .ok (.lload_n 1, 1) := by decide +kernel
theorem dX3_begin_2 : decode cX3_begin 2 = .ok (.putfield 39, 3) := by decide +kernel
theorem dX3_begin_5 : decode cX3_begin 5 = .ok (.aload_n 0, 1) := by decide +kernel
theorem dX3_begin_6 : decode cX3_begin 6 = .ok (.lconst 0, 1) := by decide +kernel
theorem dX3_begin_7 : decode cX3_begin 7 = .ok (.putfield 43, 3) := by decide +kernel
theorem dX3_begin_10 : decode cX3_begin 10 = .ok (.aload_n 0, 1) := by decide +kernel
theorem dX3_begin_11 : decode cX3_begin 11 = .ok (.lconst 0, 1) := by decide +kernel
theorem dX3_begin_12 : decode cX3_begin 12 = .ok (.putfield 46, 3) := by decide +kernel
theorem dX3_begin_15 : decode cX3_begin 15 = .ok (.aload_n 0, 1) := by decide +kernel
theorem dX3_begin_16 : decode cX3_begin 16 = .ok (.lconst 0, 1) := by decide +kernel
theorem dX3_begin_17 : decode cX3_begin 17 = .ok (.putfield 49, 3) := by decide +kernel
theorem dX3_begin_20 : decode cX3_begin 20 = .ok (.aload_n 0, 1) := by decide +kernel
theorem dX3_begin_21 : decode cX3_begin 21 = .ok (.lconst 0, 1) := by decide +kernel
theorem dX3_begin_22 : decode cX3_begin 22 = .ok (.putfield 52, 3) := by decide +kernel
theorem dX3_begin_25 : decode cX3_begin 25 = .ok (.aload_n 0, 1) := by decide +kernel
theorem dX3_begin_26 : decode cX3_begin 26 = .ok (.lconst 0, 1) := by decide +kernel
theorem dX3_begin_27 : decode cX3_begin 27 = .ok (.putfield 55, 3) := by decide +kernel
theorem dX3_begin_30 : decode cX3_begin 30 = .ok (.return_, 1) := by decide +kernel
theorem dX3_allUp_0 : decode cX3_allUp 0 = .ok (.aload_n 0, 1) := by decide +kernel
theorem dX3_allUp_1 : decode cX3_allUp 1 = .ok (.getfield 39, 3) := by decide +kernel
theorem dX3_allUp_4 : decode cX3_allUp 4 = .ok (.aload_n 0, 1) := by decide +kernel
theorem dX3_allUp_5 : decode cX3_allUp 5 = .ok (.getfield 43, 3) := by decide +kernel
theorem dX3_allUp_8 : decode cX3_allUp 8 = .ok (.lor, 1) := by decide +kernel
theorem dX3_allUp_9 : decode cX3_allUp 9 = .ok (.aload_n 0, 1) := by decide +kernel
theorem dX3_allUp_10 : decode cX3_allUp 10 = .ok (.getfield 46, 3) := by decide +kernel
theorem dX3_allUp_13 : decode cX3_allUp 13 = .ok (.lor, 1) := by decide +kernel
theorem dX3_allUp_14 : decode cX3_allUp 14 = .ok (.lreturn, 1) := by decide +kernel
theorem dX3_goOn_0 : decode cX3_goOn 0 = .ok (.aload_n 0, 1) := by decide +kernel
theorem dX3_goOn_1 : decode cX3_goOn 1 = .ok (.invokevirtual 58, 3) := by decide +kernel
theorem dX3_goOn_4 : decode cX3_goOn 4 = .ok (.aload_n 0, 1) := by decide +kernel
theorem dX3_goOn_5 : decode cX3_goOn 5 = .ok (.getfield 49, 3) := by decide +kernel
theorem dX3_goOn_8 : decode cX3_goOn 8 = .ok (.lor, 1) := by decide +kernel
theorem dX3_goOn_9 : decode cX3_goOn 9 = .ok (.aload_n 0, 1) := by decide +kernel
theorem dX3_goOn_10 : decode cX3_goOn 10 = .ok (.getfield 52, 3) := by decide +kernel
theorem dX3_goOn_13 : decode cX3_goOn 13 = .ok (.lor, 1) := by decide +kernel
theorem dX3_goOn_14 : decode cX3_goOn 14 = .ok (.aload_n 0, 1) := by decide +kernel
theorem dX3_goOn_15 : decode cX3_goOn 15 = .ok (.getfield 55, 3) := by decide +kernel
theorem dX3_goOn_18 : decode cX3_goOn 18 = .ok (.lor, 1) := by decide +kernel
theorem dX3_goOn_19 : decode cX3_goOn 19 = .ok (.lstore_n 1, 1) := by decide +kernel
theorem dX3_goOn_20 : decode cX3_goOn 20 = .ok (.aload_n 0, 1) := by decide +kernel
theorem dX3_goOn_21 : decode cX3_goOn 21 = .ok (.invokevirtual 62, 3) := by decide +kernel
theorem dX3_goOn_24 : decode cX3_goOn 24 = .ok (.lload_n 1, 1) := by decide +kernel
theorem dX3_goOn_25 : decode cX3_goOn 25 = .ok (.aload_n 0, 1) := by decide +kernel
theorem dX3_goOn_26 : decode cX3_goOn 26 = .ok (.getfield 7, 3) := by decide +kernel
theorem dX3_goOn_29 : decode cX3_goOn 29 = .ok (.getfield 65, 3) := by decide +kernel
theorem dX3_goOn_32 : decode cX3_goOn 32 = .ok (.lor, 1) := by decide +kernel
theorem dX3_goOn_33 : decode cX3_goOn 33 = .ok (.aload_n 0, 1) := by decide +kernel
theorem dX3_goOn_34 : decode cX3_goOn 34 = .ok (.getfield 7, 3) := by decide +kernel
theorem dX3_goOn_37 : decode cX3_goOn 37 = .ok (.getfield 68, 3) := by decide +kernel
theorem dX3_goOn_40 : decode cX3_goOn 40 = .ok (.lor, 1) := by decide +kernel
theorem dX3_goOn_41 : decode cX3_goOn 41 = .ok (.ldc2_w 71, 3) := by decide +kernel
theorem dX3_goOn_44 : decode cX3_goOn 44 = .ok (.lxor, 1) := by decide +kernel
theorem dX3_goOn_45 : decode cX3_goOn 45 = .ok (.land, 1) := by decide +kernel
theorem dX3_goOn_46 : decode cX3_goOn 46 = .ok (.lstore_n 3, 1) := by decide +kernel
theorem dX3_goOn_47 : decode cX3_goOn 47 = .ok (.aload_n 0, 1) := by decide +kernel
theorem dX3_goOn_48 : decode cX3_goOn 48 = .ok (.getfield 17, 3) := by decide +kernel
theorem dX3_goOn_51 : decode cX3_goOn 51 = .ok (.iconst 1, 1) := by decide +kernel
theorem dX3_goOn_52 : decode cX3_goOn 52 = .ok (.if_icmp .ne 10, 3) := by decide +kernel
theorem dX3_goOn_55 : decode cX3_goOn 55 = .ok (.aload_n 0, 1) := by decide +kernel
theorem dX3_goOn_56 : decode cX3_goOn 56 = .ok (.getfield 39, 3) := by decide +kernel
theorem dX3_goOn_59 : decode cX3_goOn 59 = .ok (.goto 22, 3) := by decide +kernel
theorem dX3_goOn_62 : decode cX3_goOn 62 = .ok (.aload_n 0, 1) := by decide +kernel
theorem dX3_goOn_63 : decode cX3_goOn 63 = .ok (.getfield 17, 3) := by decide +kernel
theorem dX3_goOn_66 : decode cX3_goOn 66 = .ok (.iconst 2, 1) := by decide +kernel
theorem dX3_goOn_67 : decode cX3_goOn 67 = .ok (.if_icmp .ne 10, 3) := by decide +kernel
theorem dX3_goOn_70 : decode cX3_goOn 70 = .ok (.aload_n 0, 1) := by decide +kernel
theorem dX3_goOn_71 : decode cX3_goOn 71 = .ok (.getfield 43, 3) := by decide +kernel
theorem dX3_goOn_74 : decode cX3_goOn 74 = .ok (.goto 7, 3) := by decide +kernel
theorem dX3_goOn_77 : decode cX3_goOn 77 = .ok (.aload_n 0, 1) := by decide +kernel
theorem dX3_goOn_78 : decode cX3_goOn 78 = .ok (.getfield 46, 3) := by decide +kernel
theorem dX3_goOn_81 : decode cX3_goOn 81 = .ok (.lstore 5, 2) := by decide +kernel
theorem dX3_goOn_83 : decode cX3_goOn 83 = .ok (.aload_n 0, 1) := by decide +kernel
theorem dX3_goOn_84 : decode cX3_goOn 84 = .ok (.aload_n 0, 1) := by decide +kernel
theorem dX3_goOn_85 : decode cX3_goOn 85 = .ok (.getfield 13, 3) := by decide +kernel
theorem dX3_goOn_88 : decode cX3_goOn 88 = .ok (.iconst 2, 1) := by decide +kernel
theorem dX3_goOn_89 : decode cX3_goOn 89 = .ok (.if_icmp .le 10, 3) := by decide +kernel
theorem dX3_goOn_92 : decode cX3_goOn 92 = .ok (.aload_n 0, 1) := by decide +kernel
theorem dX3_goOn_93 : decode cX3_goOn 93 = .ok (.getfield 52, 3) := by decide +kernel
theorem dX3_goOn_96 : decode cX3_goOn 96 = .ok (.goto 4, 3) := by decide +kernel
theorem dX3_goOn_99 : decode cX3_goOn 99 = .ok (.lconst 0, 1) := by decide +kernel
theorem dX3_goOn_100 : decode cX3_goOn 100 = .ok (.putfield 55, 3) := by decide +kernel
theorem dX3_goOn_103 : decode cX3_goOn 103 = .ok (.aload_n 0, 1) := by decide +kernel
theorem dX3_goOn_104 : decode cX3_goOn 104 = .ok (.aload_n 0, 1) := by decide +kernel
theorem dX3_goOn_105 : decode cX3_goOn 105 = .ok (.getfield 13, 3) := by decide +kernel
theorem dX3_goOn_108 : decode cX3_goOn 108 = .ok (.iconst 1, 1) := by decide +kernel
theorem dX3_goOn_109 : decode cX3_goOn 109 = .ok (.if_icmp .le 10, 3) := by decide +kernel
theorem dX3_goOn_112 : decode cX3_goOn 112 = .ok (.aload_n 0, 1) := by decide +kernel
theorem dX3_goOn_113 : decode cX3_goOn 113 = .ok (.getfield 49, 3) := by decide +kernel
theorem dX3_goOn_116 : decode cX3_goOn 116 = .ok (.goto 4, 3) := by decide +kernel
theorem dX3_goOn_119 : decode cX3_goOn 119 = .ok (.lconst 0, 1) := by decide +kernel
theorem dX3_goOn_120 : decode cX3_goOn 120 = .ok (.putfield 52, 3) := by decide +kernel
theorem dX3_goOn_123 : decode cX3_goOn 123 = .ok (.aload_n 0, 1) := by decide +kernel
theorem dX3_goOn_124 : decode cX3_goOn 124 = .ok (.aload_n 0, 1) := by decide +kernel
theorem dX3_goOn_125 : decode cX3_goOn 125 = .ok (.getfield 13, 3) := by decide +kernel
theorem dX3_goOn_128 : decode cX3_goOn 128 = .ok (.ifCond .le 8, 3) := by decide +kernel
theorem dX3_goOn_131 : decode cX3_goOn 131 = .ok (.lload 5, 2) := by decide +kernel
theorem dX3_goOn_133 : decode cX3_goOn 133 = .ok (.goto 4, 3) := by decide +kernel
theorem dX3_goOn_136 : decode cX3_goOn 136 = .ok (.lconst 0, 1) := by decide +kernel
theorem dX3_goOn_137 : decode cX3_goOn 137 = .ok (.putfield 49, 3) := by decide +kernel
theorem dX3_goOn_140 : decode cX3_goOn 140 = .ok (.aload_n 0, 1) := by decide +kernel
theorem dX3_goOn_141 : decode cX3_goOn 141 = .ok (.aload_n 0, 1) := by decide +kernel
theorem dX3_goOn_142 : decode cX3_goOn 142 = .ok (.getfield 17, 3) := by decide +kernel
theorem dX3_goOn_145 : decode cX3_goOn 145 = .ok (.iconst 2, 1) := by decide +kernel
theorem dX3_goOn_146 : decode cX3_goOn 146 = .ok (.if_icmp .le 10, 3) := by decide +kernel
theorem dX3_goOn_149 : decode cX3_goOn 149 = .ok (.aload_n 0, 1) := by decide +kernel
theorem dX3_goOn_150 : decode cX3_goOn 150 = .ok (.getfield 43, 3) := by decide +kernel
theorem dX3_goOn_153 : decode cX3_goOn 153 = .ok (.goto 4, 3) := by decide +kernel
theorem dX3_goOn_156 : decode cX3_goOn 156 = .ok (.lconst 0, 1) := by decide +kernel
theorem dX3_goOn_157 : decode cX3_goOn 157 = .ok (.putfield 46, 3) := by decide +kernel
theorem dX3_goOn_160 : decode cX3_goOn 160 = .ok (.aload_n 0, 1) := by decide +kernel
theorem dX3_goOn_161 : decode cX3_goOn 161 = .ok (.aload_n 0, 1) := by decide +kernel
theorem dX3_goOn_162 : decode cX3_goOn 162 = .ok (.getfield 17, 3) := by decide +kernel
theorem dX3_goOn_165 : decode cX3_goOn 165 = .ok (.iconst 1, 1) := by decide +kernel
theorem dX3_goOn_166 : decode cX3_goOn 166 = .ok (.if_icmp .le 10, 3) := by decide +kernel
theorem dX3_goOn_169 : decode cX3_goOn 169 = .ok (.aload_n 0, 1) := by decide +kernel
theorem dX3_goOn_170 : decode cX3_goOn 170 = .ok (.getfield 39, 3) := by decide +kernel
theorem dX3_goOn_173 : decode cX3_goOn 173 = .ok (.goto 4, 3) := by decide +kernel
theorem dX3_goOn_176 : decode cX3_goOn 176 = .ok (.lconst 0, 1) := by decide +kernel
theorem dX3_goOn_177 : decode cX3_goOn 177 = .ok (.putfield 43, 3) := by decide +kernel
theorem dX3_goOn_180 : decode cX3_goOn 180 = .ok (.aload_n 0, 1) := by decide +kernel
theorem dX3_goOn_181 : decode cX3_goOn 181 = .ok (.lload_n 3, 1) := by decide +kernel
theorem dX3_goOn_182 : decode cX3_goOn 182 = .ok (.putfield 39, 3) := by decide +kernel
theorem dX3_goOn_185 : decode cX3_goOn 185 = .ok (.return_, 1) := by decide +kernel
theorem dX3_thoseWhoSee_0 : decode cX3_thoseWhoSee 0 = .ok (.lconst 0, 1) := by decide +kernel
theorem dX3_thoseWhoSee_1 : decode cX3_thoseWhoSee 1 = .ok (.lstore_n 1, 1) := by decide +kernel
theorem dX3_thoseWhoSee_2 : decode cX3_thoseWhoSee 2 = .ok (.lconst 0, 1) := by decide +kernel
theorem dX3_thoseWhoSee_3 : decode cX3_thoseWhoSee 3 = .ok (.lstore_n 3, 1) := by decide +kernel
theorem dX3_thoseWhoSee_4 : decode cX3_thoseWhoSee 4 = .ok (.lconst 0, 1) := by decide +kernel
theorem dX3_thoseWhoSee_5 : decode cX3_thoseWhoSee 5 = .ok (.lstore 5, 2) := by decide +kernel
theorem dX3_thoseWhoSee_7 : decode cX3_thoseWhoSee 7 = .ok (.iconst 0, 1) := by decide +kernel
theorem dX3_thoseWhoSee_8 : decode cX3_thoseWhoSee 8 = .ok (.istore 7, 2) := by decide +kernel
theorem dX3_thoseWhoSee_10 : decode cX3_thoseWhoSee 10 = .ok (.iload 7, 2) := by decide +kernel
theorem dX3_thoseWhoSee_12 : decode cX3_thoseWhoSee 12 = .ok (.iconst 2, 1) := by decide +kernel
theorem dX3_thoseWhoSee_13 : decode cX3_thoseWhoSee 13 = .ok (.aload_n 0, 1) := by decide +kernel
theorem dX3_thoseWhoSee_14 : decode cX3_thoseWhoSee 14 = .ok (.getfield 29, 3) := by decide +kernel
theorem dX3_thoseWhoSee_17 : decode cX3_thoseWhoSee 17 = .ok (.imul, 1) := by decide +kernel
theorem dX3_thoseWhoSee_18 : decode cX3_thoseWhoSee 18 = .ok (.if_icmp .ge 107, 3) := by decide +kernel
theorem dX3_thoseWhoSee_21 : decode cX3_thoseWhoSee 21 = .ok (.iload 7, 2) := by decide +kernel
theorem dX3_thoseWhoSee_23 : decode cX3_thoseWhoSee 23 = .ok (.iconst 2, 1) := by decide +kernel
theorem dX3_thoseWhoSee_24 : decode cX3_thoseWhoSee 24 = .ok (.idiv, 1) := by decide +kernel
theorem dX3_thoseWhoSee_25 : decode cX3_thoseWhoSee 25 = .ok (.iconst 1, 1) := by decide +kernel
theorem dX3_thoseWhoSee_26 : decode cX3_thoseWhoSee 26 = .ok (.iadd, 1) := by decide +kernel
theorem dX3_thoseWhoSee_27 : decode cX3_thoseWhoSee 27 = .ok (.istore 8, 2) := by decide +kernel
theorem dX3_thoseWhoSee_29 : decode cX3_thoseWhoSee 29 = .ok (.iload 7, 2) := by decide +kernel
theorem dX3_thoseWhoSee_31 : decode cX3_thoseWhoSee 31 = .ok (.iconst 2, 1) := by decide +kernel
theorem dX3_thoseWhoSee_32 : decode cX3_thoseWhoSee 32 = .ok (.irem, 1) := by decide +kernel
theorem dX3_thoseWhoSee_33 : decode cX3_thoseWhoSee 33 = .ok (.ifCond .ne 7, 3) := by decide +kernel
theorem dX3_thoseWhoSee_36 : decode cX3_thoseWhoSee 36 = .ok (.iconst 1, 1) := by decide +kernel
theorem dX3_thoseWhoSee_37 : decode cX3_thoseWhoSee 37 = .ok (.goto 4, 3) := by decide +kernel
theorem dX3_thoseWhoSee_40 : decode cX3_thoseWhoSee 40 = .ok (.iconst 0, 1) := by decide +kernel
theorem dX3_thoseWhoSee_41 : decode cX3_thoseWhoSee 41 = .ok (.istore 9, 2) := by decide +kernel
theorem dX3_thoseWhoSee_43 : decode cX3_thoseWhoSee 43 = .ok (.iload 9, 2) := by decide +kernel
theorem dX3_thoseWhoSee_45 : decode cX3_thoseWhoSee 45 = .ok (.ifCond .eq 13, 3) := by decide +kernel
theorem dX3_thoseWhoSee_48 : decode cX3_thoseWhoSee 48 = .ok (.aload_n 0, 1) := by decide +kernel
theorem dX3_thoseWhoSee_49 : decode cX3_thoseWhoSee 49 = .ok (.getfield 32, 3) := by decide +kernel
theorem dX3_thoseWhoSee_52 : decode cX3_thoseWhoSee 52 = .ok (.ifCond .eq 67, 3) := by decide +kernel
theorem dX3_thoseWhoSee_55 : decode cX3_thoseWhoSee 55 = .ok (.goto 10, 3) := by decide +kernel
theorem dX3_thoseWhoSee_58 : decode cX3_thoseWhoSee 58 = .ok (.aload_n 0, 1) := by decide +kernel
theorem dX3_thoseWhoSee_59 : decode cX3_thoseWhoSee 59 = .ok (.getfield 36, 3) := by decide +kernel
theorem dX3_thoseWhoSee_62 : decode cX3_thoseWhoSee 62 = .ok (.ifCond .eq 57, 3) := by decide +kernel
theorem dX3_thoseWhoSee_65 : decode cX3_thoseWhoSee 65 = .ok (.aload_n 0, 1) := by decide +kernel
theorem dX3_thoseWhoSee_66 : decode cX3_thoseWhoSee 66 = .ok (.getfield 7, 3) := by decide +kernel
theorem dX3_thoseWhoSee_69 : decode cX3_thoseWhoSee 69 = .ok (.aload_n 0, 1) := by decide +kernel
theorem dX3_thoseWhoSee_70 : decode cX3_thoseWhoSee 70 = .ok (.getfield 39, 3) := by decide +kernel
theorem dX3_thoseWhoSee_73 : decode cX3_thoseWhoSee 73 = .ok (.iload 9, 2) := by decide +kernel
theorem dX3_thoseWhoSee_75 : decode cX3_thoseWhoSee 75 = .ok (.ifCond .eq 8, 3) := by decide +kernel
theorem dX3_thoseWhoSee_78 : decode cX3_thoseWhoSee 78 = .ok (.iload 8, 2) := by decide +kernel
theorem dX3_thoseWhoSee_80 : decode cX3_thoseWhoSee 80 = .ok (.goto 13, 3) := by decide +kernel
theorem dX3_thoseWhoSee_83 : decode cX3_thoseWhoSee 83 = .ok (.aload_n 0, 1) := by decide +kernel
theorem dX3_thoseWhoSee_84 : decode cX3_thoseWhoSee 84 = .ok (.getfield 7, 3) := by decide +kernel
theorem dX3_thoseWhoSee_87 : decode cX3_thoseWhoSee 87 = .ok (.getfield 73, 3) := by decide +kernel
theorem dX3_thoseWhoSee_90 : decode cX3_thoseWhoSee 90 = .ok (.iload 8, 2) := by decide +kernel
theorem dX3_thoseWhoSee_92 : decode cX3_thoseWhoSee 92 = .ok (.isub, 1) := by decide +kernel
theorem dX3_thoseWhoSee_93 : decode cX3_thoseWhoSee 93 = .ok (.invokevirtual 76, 3) := by decide +kernel
theorem dX3_thoseWhoSee_96 : decode cX3_thoseWhoSee 96 = .ok (.lstore 10, 2) := by decide +kernel
theorem dX3_thoseWhoSee_98 : decode cX3_thoseWhoSee 98 = .ok (.lload 5, 2) := by decide +kernel
theorem dX3_thoseWhoSee_100 : decode cX3_thoseWhoSee 100 = .ok (.lload_n 3, 1) := by decide +kernel
theorem dX3_thoseWhoSee_101 : decode cX3_thoseWhoSee 101 = .ok (.lload 10, 2) := by decide +kernel
theorem dX3_thoseWhoSee_103 : decode cX3_thoseWhoSee 103 = .ok (.land, 1) := by decide +kernel
theorem dX3_thoseWhoSee_104 : decode cX3_thoseWhoSee 104 = .ok (.lor, 1) := by decide +kernel
theorem dX3_thoseWhoSee_105 : decode cX3_thoseWhoSee 105 = .ok (.lstore 5, 2) := by decide +kernel
theorem dX3_thoseWhoSee_107 : decode cX3_thoseWhoSee 107 = .ok (.lload_n 3, 1) := by decide +kernel
theorem dX3_thoseWhoSee_108 : decode cX3_thoseWhoSee 108 = .ok (.lload_n 1, 1) := by decide +kernel
theorem dX3_thoseWhoSee_109 : decode cX3_thoseWhoSee 109 = .ok (.lload 10, 2) := by decide +kernel
theorem dX3_thoseWhoSee_111 : decode cX3_thoseWhoSee 111 = .ok (.land, 1) := by decide +kernel
theorem dX3_thoseWhoSee_112 : decode cX3_thoseWhoSee 112 = .ok (.lor, 1) := by decide +kernel
theorem dX3_thoseWhoSee_113 : decode cX3_thoseWhoSee 113 = .ok (.lstore_n 3, 1) := by decide +kernel
theorem dX3_thoseWhoSee_114 : decode cX3_thoseWhoSee 114 = .ok (.lload_n 1, 1) := by decide +kernel
theorem dX3_thoseWhoSee_115 : decode cX3_thoseWhoSee 115 = .ok (.lload 10, 2) := by decide +kernel
theorem dX3_thoseWhoSee_117 : decode cX3_thoseWhoSee 117 = .ok (.lor, 1) := by decide +kernel
theorem dX3_thoseWhoSee_118 : decode cX3_thoseWhoSee 118 = .ok (.lstore_n 1, 1) := by decide +kernel
theorem dX3_thoseWhoSee_119 : decode cX3_thoseWhoSee 119 = .ok (.iinc 7 1, 3) := by decide +kernel
theorem dX3_thoseWhoSee_122 : decode cX3_thoseWhoSee 122 = .ok (.goto (-112), 3) := by decide +kernel
theorem dX3_thoseWhoSee_125 : decode cX3_thoseWhoSee 125 = .ok (.aload_n 0, 1) := by decide +kernel
theorem dX3_thoseWhoSee_126 : decode cX3_thoseWhoSee 126 = .ok (.getfield 20, 3) := by decide +kernel
theorem dX3_thoseWhoSee_129 : decode cX3_thoseWhoSee 129 = .ok (.iconst 1, 1) := by decide +kernel
theorem dX3_thoseWhoSee_130 : decode cX3_thoseWhoSee 130 = .ok (.if_icmp .ne 7, 3) := by decide +kernel
theorem dX3_thoseWhoSee_133 : decode cX3_thoseWhoSee 133 = .ok (.lload_n 1, 1) := by decide +kernel
theorem dX3_thoseWhoSee_134 : decode cX3_thoseWhoSee 134 = .ok (.goto 17, 3) := by decide +kernel
theorem dX3_thoseWhoSee_137 : decode cX3_thoseWhoSee 137 = .ok (.aload_n 0, 1) := by decide +kernel
theorem dX3_thoseWhoSee_138 : decode cX3_thoseWhoSee 138 = .ok (.getfield 20, 3) := by decide +kernel
theorem dX3_thoseWhoSee_141 : decode cX3_thoseWhoSee 141 = .ok (.iconst 2, 1) := by decide +kernel
theorem dX3_thoseWhoSee_142 : decode cX3_thoseWhoSee 142 = .ok (.if_icmp .ne 7, 3) := by decide +kernel
theorem dX3_thoseWhoSee_145 : decode cX3_thoseWhoSee 145 = .ok (.lload_n 3, 1) := by decide +kernel
theorem dX3_thoseWhoSee_146 : decode cX3_thoseWhoSee 146 = .ok (.goto 5, 3) := by decide +kernel
theorem dX3_thoseWhoSee_149 : decode cX3_thoseWhoSee 149 = .ok (.lload 5, 2) := by decide +kernel
theorem dX3_thoseWhoSee_151 : decode cX3_thoseWhoSee 151 = .ok (.lreturn, 1) := by decide +kernel
