theorem dX5_init_0 : decode cX5_init 0 = .ok (.aload_n 0, 1) := by decide +kernel
theorem dX5_init_1 : decode cX5_init 1 = .ok (.invokespecial 3, 3) := by decide +kernel
theorem dX5_init_4 : decode cX5_init 4 = .ok (.aload_n 0, 1) := by decide +kernel
theorem dX5_init_5 : decode cX5_init 5 = .ok (.new 9, 3) := by decide +kernel
theorem dX5_init_8 : decode cX5_init 8 = .ok (.dup, 1) := by decide +kernel
theorem dX5_init_9 : decode cX5_init 9 = .ok (.invokespecial 11, 3) := by decide +kernel
theorem dX5_init_12 : decode cX5_init 12 = .ok (.putfield 12, 3) := by decide +kernel
theorem dX5_init_15 : decode cX5_init 15 = .ok (.aload_n 0, 1) := by decide +kernel
theorem dX5_init_16 : decode cX5_init 16 = .ok (.bipush 6, 2) := by decide +kernel
theorem dX5_init_18 : decode cX5_init 18 = .ok (.newarray .int, 2) := by decide +kernel
theorem dX5_init_20 : decode cX5_init 20 = .ok (.putfield 18, 3) := by decide +kernel
theorem dX5_init_23 : decode cX5_init 23 = .ok (.aload_n 0, 1) := by decide +kernel
theorem dX5_init_24 : decode cX5_init 24 = .ok (.bipush 6, 2) := by decide +kernel
theorem dX5_init_26 : decode cX5_init 26 = .ok (.newarray .int, 2) := by decide +kernel
theorem dX5_init_28 : decode cX5_init 28 = .ok (.putfield 22, 3) := by decide +kernel
theorem dX5_init_31 : decode cX5_init 31 = .ok (.aload_n 0, 1) := by decide +kernel
theorem dX5_init_32 : decode cX5_init 32 = .ok (.bipush 6, 2) := by decide +kernel
theorem dX5_init_34 : decode cX5_init 34 = .ok (.newarray .int, 2) := by decide +kernel
theorem dX5_init_36 : decode cX5_init 36 = .ok (.putfield 25, 3) := by decide +kernel
theorem dX5_init_39 : decode cX5_init 39 = .ok (.aload_n 0, 1) := by decide +kernel
theorem dX5_init_40 : decode cX5_init 40 = .ok (.invokevirtual 28, 3) := by decide +kernel
theorem dX5_init_43 : decode cX5_init 43 = .ok (.return_, 1) := by decide +kernel
theorem dX5_empty_0 : decode cX5_empty 0 = .ok (.aload_n 0, 1) := by decide +kernel
theorem dX5_empty_1 : decode cX5_empty 1 = .ok (.iconst 0, 1) := by decide +kernel
theorem dX5_empty_2 : decode cX5_empty 2 = .ok (.putfield 31, 3) := by decide +kernel
theorem dX5_empty_5 : decode cX5_empty 5 = .ok (.aload_n 0, 1) := by decide +kernel
theorem dX5_empty_6 : decode cX5_empty 6 = .ok (.bipush 24, 2) := by decide +kernel
theorem dX5_empty_8 : decode cX5_empty 8 = .ok (.putfield 35, 3) := by decide +kernel
theorem dX5_empty_11 : decode cX5_empty 11 = .ok (.aload_n 0, 1) := by decide +kernel
theorem dX5_empty_12 : decode cX5_empty 12 = .ok (.lconst 0, 1) := by decide +kernel
theorem dX5_empty_13 : decode cX5_empty 13 = .ok (.putfield 38, 3) := by decide +kernel
theorem dX5_empty_16 : decode cX5_empty 16 = .ok (.aload_n 0, 1) := by decide +kernel
theorem dX5_empty_17 : decode cX5_empty 17 = .ok (.lconst 0, 1) := by decide +kernel
theorem dX5_empty_18 : decode cX5_empty 18 = .ok (.putfield 42, 3) := by decide +kernel
theorem dX5_empty_21 : decode cX5_empty 21 = .ok (.aload_n 0, 1) := by decide +kernel
theorem dX5_empty_22 : decode cX5_empty 22 = .ok (.lconst 0, 1) := by decide +kernel
theorem dX5_empty_23 : decode cX5_empty 23 = .ok (.putfield 45, 3) := by decide +kernel
theorem dX5_empty_26 : decode cX5_empty 26 = .ok (.aload_n 0, 1) := by decide +kernel
theorem dX5_empty_27 : decode cX5_empty 27 = .ok (.iconst 2, 1) := by decide +kernel
theorem dX5_empty_28 : decode cX5_empty 28 = .ok (.putfield 48, 3) := by decide +kernel
theorem dX5_empty_31 : decode cX5_empty 31 = .ok (.aload_n 0, 1) := by decide +kernel
theorem dX5_empty_32 : decode cX5_empty 32 = .ok (.iconst 4, 1) := by decide +kernel
theorem dX5_empty_33 : decode cX5_empty 33 = .ok (.putfield 51, 3) := by decide +kernel
theorem dX5_empty_36 : decode cX5_empty 36 = .ok (.aload_n 0, 1) := by decide +kernel
theorem dX5_empty_37 : decode cX5_empty 37 = .ok (.iconst 2, 1) := by decide +kernel
theorem dX5_empty_38 : decode cX5_empty 38 = .ok (.putfield 54, 3) := by decide +kernel
theorem dX5_empty_41 : decode cX5_empty 41 = .ok (.aload_n 0, 1) := by decide +kernel
theorem dX5_empty_42 : decode cX5_empty 42 = .ok (.iconst 0, 1) := by decide +kernel
theorem dX5_empty_43 : decode cX5_empty 43 = .ok (.putfield 57, 3) := by decide +kernel
theorem dX5_empty_46 : decode cX5_empty 46 = .ok (.aload_n 0, 1) := by decide +kernel
theorem dX5_empty_47 : decode cX5_empty 47 = .ok (.getfield 12, 3) := by decide +kernel
theorem dX5_empty_50 : decode cX5_empty 50 = .ok (.invokevirtual 60, 3) := by decide +kernel
theorem dX5_empty_53 : decode cX5_empty 53 = .ok (.aload_n 0, 1) := by decide +kernel
theorem dX5_empty_54 : decode cX5_empty 54 = .ok (.getfield 12, 3) := by decide +kernel
theorem dX5_empty_57 : decode cX5_empty 57 = .ok (.sipush 10000, 3) := by decide +kernel
theorem dX5_empty_60 : decode cX5_empty 60 = .ok (.invokevirtual 63, 3) := by decide +kernel
theorem dX5_empty_63 : decode cX5_empty 63 = .ok (.aload_n 0, 1) := by decide +kernel
theorem dX5_empty_64 : decode cX5_empty 64 = .ok (.getfield 12, 3) := by decide +kernel
theorem dX5_empty_67 : decode cX5_empty 67 = .ok (.iconst 0, 1) := by decide +kernel
theorem dX5_empty_68 : decode cX5_empty 68 = .ok (.invokevirtual 63, 3) := by decide +kernel
theorem dX5_empty_71 : decode cX5_empty 71 = .ok (.aload_n 0, 1) := by decide +kernel
theorem dX5_empty_72 : decode cX5_empty 72 = .ok (.getfield 12, 3) := by decide +kernel
theorem dX5_empty_75 : decode cX5_empty 75 = .ok (.sipush 20004, 3) := by decide +kernel
theorem dX5_empty_78 : decode cX5_empty 78 = .ok (.invokevirtual 67, 3) := by decide +kernel
theorem dX5_empty_81 : decode cX5_empty 81 = .ok (.return_, 1) := by decide +kernel
theorem dX5_has_0 : decode cX5_has 0 = .ok (.iload_n 1, 1) := by decide +kernel
theorem dX5_has_1 : decode cX5_has 1 = .ok (.ifCond .lt 15, 3) := by decide +kernel
theorem dX5_has_4 : decode cX5_has 4 = .ok (.iload_n 1, 1) := by decide +kernel
theorem dX5_has_5 : decode cX5_has 5 = .ok (.aload_n 0, 1) := by decide +kernel
theorem dX5_has_6 : decode cX5_has 6 = .ok (.getfield 35, 3) := by decide +kernel
theorem dX5_has_9 : decode cX5_has 9 = .ok (.if_icmp .ge 7, 3) := by decide +kernel
theorem dX5_has_12 : decode cX5_has 12 = .ok (.iconst 1, 1) := by decide +kernel
theorem dX5_has_13 : decode cX5_has 13 = .ok (.goto 4, 3) := by decide +kernel
theorem dX5_has_16 : decode cX5_has 16 = .ok (.iconst 0, 1) := by decide +kernel
theorem dX5_has_17 : decode cX5_has 17 = .ok (.ireturn, 1) := by decide +kernel
theorem dX5_everySeat_0 : decode cX5_everySeat 0 = .ok (.lconst 1, 1) := by decide +kernel
theorem dX5_everySeat_1 : decode cX5_everySeat 1 = .ok (.aload_n 0, 1) := by decide +kernel
theorem dX5_everySeat_2 : decode cX5_everySeat 2 = .ok (.getfield 35, 3) := by decide +kernel
theorem dX5_everySeat_5 : decode cX5_everySeat 5 = .ok (.lshl, 1) := by decide +kernel
theorem dX5_everySeat_6 : decode cX5_everySeat 6 = .ok (.lconst 1, 1) := by decide +kernel
theorem dX5_everySeat_7 : decode cX5_everySeat 7 = .ok (.lsub, 1) := by decide +kernel
theorem dX5_everySeat_8 : decode cX5_everySeat 8 = .ok (.lreturn, 1) := by decide +kernel
theorem dX5_seatsFrom_0 : decode cX5_seatsFrom 0 = .ok (.aload_n 0, 1) := by decide +kernel
theorem dX5_seatsFrom_1 : decode cX5_seatsFrom 1 = .ok (.lconst 1, 1) := by decide +kernel
theorem dX5_seatsFrom_2 : decode cX5_seatsFrom 2 = .ok (.iload_n 2, 1) := by decide +kernel
theorem dX5_seatsFrom_3 : decode cX5_seatsFrom 3 = .ok (.aload_n 0, 1) := by decide +kernel
theorem dX5_seatsFrom_4 : decode cX5_seatsFrom 4 = .ok (.getfield 35, 3) := by decide +kernel
theorem dX5_seatsFrom_7 : decode cX5_seatsFrom 7 = .ok (.invokestatic 70, 3) := by decide +kernel
theorem dX5_seatsFrom_10 : decode cX5_seatsFrom 10 = .ok (.lshl, 1) := by decide +kernel
theorem dX5_seatsFrom_11 : decode cX5_seatsFrom 11 = .ok (.lconst 1, 1) := by decide +kernel
theorem dX5_seatsFrom_12 : decode cX5_seatsFrom 12 = .ok (.lsub, 1) := by decide +kernel
theorem dX5_seatsFrom_13 : decode cX5_seatsFrom 13 = .ok (.iload_n 1, 1) := by decide +kernel
theorem dX5_seatsFrom_14 : decode cX5_seatsFrom 14 = .ok (.invokevirtual 76, 3) := by decide +kernel
theorem dX5_seatsFrom_17 : decode cX5_seatsFrom 17 = .ok (.lreturn, 1) := by decide +kernel
theorem dX5_turned_0 : decode cX5_turned 0 = .ok (.lload_n 1, 1) := by decide +kernel
theorem dX5_turned_1 : decode cX5_turned 1 = .ok (.iload_n 3, 1) := by decide +kernel
theorem dX5_turned_2 : decode cX5_turned 2 = .ok (.lshl, 1) := by decide +kernel
theorem dX5_turned_3 : decode cX5_turned 3 = .ok (.lload_n 1, 1) := by decide +kernel
theorem dX5_turned_4 : decode cX5_turned 4 = .ok (.aload_n 0, 1) := by decide +kernel
theorem dX5_turned_5 : decode cX5_turned 5 = .ok (.getfield 35, 3) := by decide +kernel
theorem dX5_turned_8 : decode cX5_turned 8 = .ok (.iload_n 3, 1) := by decide +kernel
theorem dX5_turned_9 : decode cX5_turned 9 = .ok (.isub, 1) := by decide +kernel
theorem dX5_turned_10 : decode cX5_turned 10 = .ok (.lushr, 1) := by decide +kernel
theorem dX5_turned_11 : decode cX5_turned 11 = .ok (.lor, 1) := by decide +kernel
theorem dX5_turned_12 : decode cX5_turned 12 = .ok (.aload_n 0, 1) := by decide +kernel
theorem dX5_turned_13 : decode cX5_turned 13 = .ok (.invokevirtual 80, 3) := by decide +kernel
theorem dX5_turned_16 : decode cX5_turned 16 = .ok (.land, 1) := by decide +kernel
theorem dX5_turned_17 : decode cX5_turned 17 = .ok (.lreturn, 1) := by decide +kernel
theorem dX5_sightOf_0 : decode cX5_sightOf 0 = .ok (.iload_n 1, 1) := by decide +kernel
theorem dX5_sightOf_1 : decode cX5_sightOf 1 = .ok (.aload_n 0, 1) := by decide +kernel
theorem dX5_sightOf_2 : decode cX5_sightOf 2 = .ok (.getfield 35, 3) := by decide +kernel
theorem dX5_sightOf_5 : decode cX5_sightOf 5 = .ok (.iconst 1, 1) := by decide +kernel
theorem dX5_sightOf_6 : decode cX5_sightOf 6 = .ok (.isub, 1) := by decide +kernel
theorem dX5_sightOf_7 : decode cX5_sightOf 7 = .ok (.iconst 2, 1) := by decide +kernel
theorem dX5_sightOf_8 : decode cX5_sightOf 8 = .ok (.idiv, 1) := by decide +kernel
theorem dX5_sightOf_9 : decode cX5_sightOf 9 = .ok (.invokestatic 70, 3) := by decide +kernel
theorem dX5_sightOf_12 : decode cX5_sightOf 12 = .ok (.ireturn, 1) := by decide +kernel
theorem dX5_addSlack_0 : decode cX5_addSlack 0 = .ok (.aload_n 0, 1) := by decide +kernel
theorem dX5_addSlack_1 : decode cX5_addSlack 1 = .ok (.getfield 31, 3) := by decide +kernel
theorem dX5_addSlack_4 : decode cX5_addSlack 4 = .ok (.ifCond .lt 52, 3) := by decide +kernel
theorem dX5_addSlack_7 : decode cX5_addSlack 7 = .ok (.aload_n 0, 1) := by decide +kernel
theorem dX5_addSlack_8 : decode cX5_addSlack 8 = .ok (.getfield 31, 3) := by decide +kernel
theorem dX5_addSlack_11 : decode cX5_addSlack 11 = .ok (.bipush 6, 2) := by decide +kernel
theorem dX5_addSlack_13 : decode cX5_addSlack 13 = .ok (.if_icmp .ge 43, 3) := by decide +kernel
theorem dX5_addSlack_16 : decode cX5_addSlack 16 = .ok (.aload_n 0, 1) := by decide +kernel
theorem dX5_addSlack_17 : decode cX5_addSlack 17 = .ok (.getfield 18, 3) := by decide +kernel
theorem dX5_addSlack_20 : decode cX5_addSlack 20 = .ok (.aload_n 0, 1) := by decide +kernel
theorem dX5_addSlack_21 : decode cX5_addSlack 21 = .ok (.getfield 31, 3) := by decide +kernel
theorem dX5_addSlack_24 : decode cX5_addSlack 24 = .ok (.iload_n 1, 1) := by decide +kernel
theorem dX5_addSlack_25 : decode cX5_addSlack 25 = .ok (.iastore, 1) := by decide +kernel
theorem dX5_addSlack_26 : decode cX5_addSlack 26 = .ok (.aload_n 0, 1) := by decide +kernel
theorem dX5_addSlack_27 : decode cX5_addSlack 27 = .ok (.getfield 22, 3) := by decide +kernel
theorem dX5_addSlack_30 : decode cX5_addSlack 30 = .ok (.aload_n 0, 1) := by decide +kernel
theorem dX5_addSlack_31 : decode cX5_addSlack 31 = .ok (.getfield 31, 3) := by decide +kernel
theorem dX5_addSlack_34 : decode cX5_addSlack 34 = .ok (.iload_n 2, 1) := by decide +kernel
theorem dX5_addSlack_35 : decode cX5_addSlack 35 = .ok (.iastore, 1) := by decide +kernel
theorem dX5_addSlack_36 : decode cX5_addSlack 36 = .ok (.aload_n 0, 1) := by decide +kernel
theorem dX5_addSlack_37 : decode cX5_addSlack 37 = .ok (.getfield 25, 3) := by decide +kernel
theorem dX5_addSlack_40 : decode cX5_addSlack 40 = .ok (.aload_n 0, 1) := by decide +kernel
theorem dX5_addSlack_41 : decode cX5_addSlack 41 = .ok (.getfield 31, 3) := by decide +kernel
theorem dX5_addSlack_44 : decode cX5_addSlack 44 = .ok (.iload_n 3, 1) := by decide +kernel
theorem dX5_addSlack_45 : decode cX5_addSlack 45 = .ok (.iastore, 1) := by decide +kernel
theorem dX5_addSlack_46 : decode cX5_addSlack 46 = .ok (.aload_n 0, 1) := by decide +kernel
theorem dX5_addSlack_47 : decode cX5_addSlack 47 = .ok (.dup, 1) := by decide +kernel
theorem dX5_addSlack_48 : decode cX5_addSlack 48 = .ok (.getfield 31, 3) := by decide +kernel
theorem dX5_addSlack_51 : decode cX5_addSlack 51 = .ok (.iconst 1, 1) := by decide +kernel
theorem dX5_addSlack_52 : decode cX5_addSlack 52 = .ok (.iadd, 1) := by decide +kernel
theorem dX5_addSlack_53 : decode cX5_addSlack 53 = .ok (.putfield 31, 3) := by decide +kernel
theorem dX5_addSlack_56 : decode cX5_addSlack 56 = .ok (.return_, 1) := by decide +kernel
theorem dX5_slackIn_0 : decode cX5_slackIn 0 = .ok (.iconst 0, 1) := by decide +kernel
theorem dX5_slackIn_1 : decode cX5_slackIn 1 = .ok (.istore_n 2, 1) := by decide +kernel
theorem dX5_slackIn_2 : decode cX5_slackIn 2 = .ok (.iload_n 2, 1) := by decide +kernel
theorem dX5_slackIn_3 : decode cX5_slackIn 3 = .ok (.aload_n 0, 1) := by decide +kernel
theorem dX5_slackIn_4 : decode cX5_slackIn 4 = .ok (.getfield 31, 3) := by decide +kernel
theorem dX5_slackIn_7 : decode cX5_slackIn 7 = .ok (.if_icmp .ge 42, 3) := by decide +kernel
theorem dX5_slackIn_10 : decode cX5_slackIn 10 = .ok (.iload_n 2, 1) := by decide +kernel
theorem dX5_slackIn_11 : decode cX5_slackIn 11 = .ok (.bipush 6, 2) := by decide +kernel
theorem dX5_slackIn_13 : decode cX5_slackIn 13 = .ok (.if_icmp .ge 36, 3) := by decide +kernel
theorem dX5_slackIn_16 : decode cX5_slackIn 16 = .ok (.iload_n 1, 1) := by decide +kernel
theorem dX5_slackIn_17 : decode cX5_slackIn 17 = .ok (.aload_n 0, 1) := by decide +kernel
theorem dX5_slackIn_18 : decode cX5_slackIn 18 = .ok (.getfield 18, 3) := by decide +kernel
theorem dX5_slackIn_21 : decode cX5_slackIn 21 = .ok (.iload_n 2, 1) := by decide +kernel
theorem dX5_slackIn_22 : decode cX5_slackIn 22 = .ok (.iaload, 1) := by decide +kernel
theorem dX5_slackIn_23 : decode cX5_slackIn 23 = .ok (.if_icmp .lt 20, 3) := by decide +kernel
theorem dX5_slackIn_26 : decode cX5_slackIn 26 = .ok (.iload_n 1, 1) := by decide +kernel
theorem dX5_slackIn_27 : decode cX5_slackIn 27 = .ok (.aload_n 0, 1) := by decide +kernel
theorem dX5_slackIn_28 : decode cX5_slackIn 28 = .ok (.getfield 22, 3) := by decide +kernel
theorem dX5_slackIn_31 : decode cX5_slackIn 31 = .ok (.iload_n 2, 1) := by decide +kernel
theorem dX5_slackIn_32 : decode cX5_slackIn 32 = .ok (.iaload, 1) := by decide +kernel
theorem dX5_slackIn_33 : decode cX5_slackIn 33 = .ok (.if_icmp .gt 10, 3) := by decide +kernel
theorem dX5_slackIn_36 : decode cX5_slackIn 36 = .ok (.aload_n 0, 1) := by decide +kernel
theorem dX5_slackIn_37 : decode cX5_slackIn 37 = .ok (.getfield 25, 3) := by decide +kernel
theorem dX5_slackIn_40 : decode cX5_slackIn 40 = .ok (.iload_n 2, 1) := by decide +kernel
theorem dX5_slackIn_41 : decode cX5_slackIn 41 = .ok (.iaload, 1) := by decide +kernel
theorem dX5_slackIn_42 : decode cX5_slackIn 42 = .ok (.ireturn, 1) := by decide +kernel
theorem dX5_slackIn_43 : decode cX5_slackIn 43 = .ok (.iinc 2 1, 3) := by decide +kernel
theorem dX5_slackIn_46 : decode cX5_slackIn 46 = .ok (.goto (-44), 3) := by decide +kernel
theorem dX5_slackIn_49 : decode cX5_slackIn 49 = .ok (.iconst 0, 1) := by decide +kernel
theorem dX5_slackIn_50 : decode cX5_slackIn 50 = .ok (.ireturn, 1) := by decide +kernel
theorem dX5_widest_0 : decode cX5_widest 0 = .ok (.lload_n 1, 1) := by decide +kernel
theorem dX5_widest_1 : decode cX5_widest 1 = .ok (.lstore_n 3, 1) := by decide +kernel
theorem dX5_widest_2 : decode cX5_widest 2 = .ok (.iconst 0, 1) := by decide +kernel
theorem dX5_widest_3 : decode cX5_widest 3 = .ok (.istore 5, 2) := by decide +kernel
theorem dX5_widest_5 : decode cX5_widest 5 = .ok (.iload 5, 2) := by decide +kernel
theorem dX5_widest_7 : decode cX5_widest 7 = .ok (.aload_n 0, 1) := by decide +kernel
theorem dX5_widest_8 : decode cX5_widest 8 = .ok (.getfield 35, 3) := by decide +kernel
theorem dX5_widest_11 : decode cX5_widest 11 = .ok (.if_icmp .ge 24, 3) := by decide +kernel
theorem dX5_widest_14 : decode cX5_widest 14 = .ok (.lload_n 3, 1) := by decide +kernel
theorem dX5_widest_15 : decode cX5_widest 15 = .ok (.lconst 0, 1) := by decide +kernel
theorem dX5_widest_16 : decode cX5_widest 16 = .ok (.lcmp, 1) := by decide +kernel
theorem dX5_widest_17 : decode cX5_widest 17 = .ok (.ifCond .eq 18, 3) := by decide +kernel
theorem dX5_widest_20 : decode cX5_widest 20 = .ok (.lload_n 3, 1) := by decide +kernel
theorem dX5_widest_21 : decode cX5_widest 21 = .ok (.aload_n 0, 1) := by decide +kernel
theorem dX5_widest_22 : decode cX5_widest 22 = .ok (.lload_n 3, 1) := by decide +kernel
theorem dX5_widest_23 : decode cX5_widest 23 = .ok (.iconst 1, 1) := by decide +kernel
theorem dX5_widest_24 : decode cX5_widest 24 = .ok (.invokevirtual 76, 3) := by decide +kernel
theorem dX5_widest_27 : decode cX5_widest 27 = .ok (.land, 1) := by decide +kernel
theorem dX5_widest_28 : decode cX5_widest 28 = .ok (.lstore_n 3, 1) := by decide +kernel
theorem dX5_widest_29 : decode cX5_widest 29 = .ok (.iinc 5 1, 3) := by decide +kernel
theorem dX5_widest_32 : decode cX5_widest 32 = .ok (.goto (-27), 3) := by decide +kernel
theorem dX5_widest_35 : decode cX5_widest 35 = .ok (.iload 5, 2) := by decide +kernel
theorem dX5_widest_37 : decode cX5_widest 37 = .ok (.ireturn, 1) := by decide +kernel
theorem dX5_stretches_0 : decode cX5_stretches 0 = .ok (.lload_n 1, 1) := by decide +kernel
theorem dX5_stretches_1 : decode cX5_stretches 1 = .ok (.aload_n 0, 1) := by decide +kernel
theorem dX5_stretches_2 : decode cX5_stretches 2 = .ok (.invokevirtual 80, 3) := by decide +kernel
theorem dX5_stretches_5 : decode cX5_stretches 5 = .ok (.lcmp, 1) := by decide +kernel
theorem dX5_stretches_6 : decode cX5_stretches 6 = .ok (.ifCond .ne 5, 3) := by decide +kernel
theorem dX5_stretches_9 : decode cX5_stretches 9 = .ok (.iconst 1, 1) := by decide +kernel
theorem dX5_stretches_10 : decode cX5_stretches 10 = .ok (.ireturn, 1) := by decide +kernel
theorem dX5_stretches_11 : decode cX5_stretches 11 = .ok (.lload_n 1, 1) := by decide +kernel
theorem dX5_stretches_12 : decode cX5_stretches 12 = .ok (.aload_n 0, 1) := by decide +kernel
theorem dX5_stretches_13 : decode cX5_stretches 13 = .ok (.lload_n 1, 1) := by decide +kernel
theorem dX5_stretches_14 : decode cX5_stretches 14 = .ok (.iconst 1, 1) := by decide +kernel
theorem dX5_stretches_15 : decode cX5_stretches 15 = .ok (.invokevirtual 76, 3) := by decide +kernel
theorem dX5_stretches_18 : decode cX5_stretches 18 = .ok (.ldc2_w 84, 3) := by decide +kernel
theorem dX5_stretches_21 : decode cX5_stretches 21 = .ok (.lxor, 1) := by decide +kernel
theorem dX5_stretches_22 : decode cX5_stretches 22 = .ok (.land, 1) := by decide +kernel
theorem dX5_stretches_23 : decode cX5_stretches 23 = .ok (.invokestatic 86, 3) := by decide +kernel
theorem dX5_stretches_26 : decode cX5_stretches 26 = .ok (.ireturn, 1) := by decide +kernel
theorem dX7_init_0 : decode cX7_init 0 = .ok (.aload_n 0, 1) := by decide +kernel
theorem dX7_init_1 : decode cX7_init 1 = .ok (.invokespecial 3, 3) := by decide +kernel
theorem dX7_init_4 : decode cX7_init 4 = .ok (.aload_n 0, 1) := by decide +kernel
theorem dX7_init_5 : decode cX7_init 5 = .ok (.new 9, 3) := by decide +kernel
theorem dX7_init_8 : decode cX7_init 8 = .ok (.dup, 1) := by decide +kernel
theorem dX7_init_9 : decode cX7_init 9 = .ok (.invokespecial 11, 3) := by decide +kernel
theorem dX7_init_12 : decode cX7_init 12 = .ok (.putfield 12, 3) := by decide +kernel
theorem dX7_init_15 : decode cX7_init 15 = .ok (.aload_n 0, 1) := by decide +kernel
theorem dX7_init_16 : decode cX7_init 16 = .ok (.new 16, 3) := by decide +kernel
theorem dX7_init_19 : decode cX7_init 19 = .ok (.dup, 1) := by decide +kernel
theorem dX7_init_20 : decode cX7_init 20 = .ok (.invokespecial 18, 3) := by decide +kernel
theorem dX7_init_23 : decode cX7_init 23 = .ok (.putfield 19, 3) := by decide +kernel
theorem dX7_init_26 : decode cX7_init 26 = .ok (.aload_n 0, 1) := by decide +kernel
theorem dX7_init_27 : decode cX7_init 27 = .ok (.new 16, 3) := by decide +kernel
theorem dX7_init_30 : decode cX7_init 30 = .ok (.dup, 1) := by decide +kernel
theorem dX7_init_31 : decode cX7_init 31 = .ok (.invokespecial 18, 3) := by decide +kernel
theorem dX7_init_34 : decode cX7_init 34 = .ok (.putfield 23, 3) := by decide +kernel
theorem dX7_init_37 : decode cX7_init 37 = .ok (.aload_n 0, 1) := by decide +kernel
theorem dX7_init_38 : decode cX7_init 38 = .ok (.new 26, 3) := by decide +kernel
theorem dX7_init_41 : decode cX7_init 41 = .ok (.dup, 1) := by decide +kernel
theorem dX7_init_42 : decode cX7_init 42 = .ok (.aload_n 0, 1) := by decide +kernel
theorem dX7_init_43 : decode cX7_init 43 = .ok (.getfield 12, 3) := by decide +kernel
theorem dX7_init_46 : decode cX7_init 46 = .ok (.aload_n 0, 1) := by decide +kernel
theorem dX7_init_47 : decode cX7_init 47 = .ok (.getfield 23, 3) := by decide +kernel
theorem dX7_init_50 : decode cX7_init 50 = .ok (.invokespecial 28, 3) := by decide +kernel
theorem dX7_init_53 : decode cX7_init 53 = .ok (.putfield 31, 3) := by decide +kernel
theorem dX7_init_56 : decode cX7_init 56 = .ok (.aload_n 0, 1) := by decide +kernel
theorem dX7_init_57 : decode cX7_init 57 = .ok (.new 35, 3) := by decide +kernel
theorem dX7_init_60 : decode cX7_init 60 = .ok (.dup, 1) := by decide +kernel
theorem dX7_init_61 : decode cX7_init 61 = .ok (.invokespecial 37, 3) := by decide +kernel
theorem dX7_init_64 : decode cX7_init 64 = .ok (.putfield 38, 3) := by decide +kernel
theorem dX7_init_67 : decode cX7_init 67 = .ok (.aload_n 0, 1) := by decide +kernel
theorem dX7_init_68 : decode cX7_init 68 = .ok (.new 35, 3) := by decide +kernel
theorem dX7_init_71 : decode cX7_init 71 = .ok (.dup, 1) := by decide +kernel
theorem dX7_init_72 : decode cX7_init 72 = .ok (.invokespecial 37, 3) := by decide +kernel
theorem dX7_init_75 : decode cX7_init 75 = .ok (.putfield 42, 3) := by decide +kernel
theorem dX7_init_78 : decode cX7_init 78 = .ok (.aload_n 0, 1) := by decide +kernel
theorem dX7_init_79 : decode cX7_init 79 = .ok (.iconst 3, 1) := by decide +kernel
theorem dX7_init_80 : decode cX7_init 80 = .ok (.anewarray 35, 3) := by decide +kernel
theorem dX7_init_83 : decode cX7_init 83 = .ok (.putfield 45, 3) := by decide +kernel
theorem dX7_init_86 : decode cX7_init 86 = .ok (.aload_n 0, 1) := by decide +kernel
theorem dX7_init_87 : decode cX7_init 87 = .ok (.iconst 3, 1) := by decide +kernel
theorem dX7_init_88 : decode cX7_init 88 = .ok (.newarray .boolean, 2) := by decide +kernel
theorem dX7_init_90 : decode cX7_init 90 = .ok (.putfield 49, 3) := by decide +kernel
theorem dX7_init_93 : decode cX7_init 93 = .ok (.aload_n 0, 1) := by decide +kernel
theorem dX7_init_94 : decode cX7_init 94 = .ok (.new 53, 3) := by decide +kernel
theorem dX7_init_97 : decode cX7_init 97 = .ok (.dup, 1) := by decide +kernel
theorem dX7_init_98 : decode cX7_init 98 = .ok (.invokespecial 55, 3) := by decide +kernel
theorem dX7_init_101 : decode cX7_init 101 = .ok (.putfield 56, 3) := by decide +kernel
theorem dX7_init_104 : decode cX7_init 104 = .ok (.aload_n 0, 1) := by decide +kernel
theorem dX7_init_105 : decode cX7_init 105 = .ok (.new 60, 3) := by decide +kernel
theorem dX7_init_108 : decode cX7_init 108 = .ok (.dup, 1) := by decide +kernel
theorem dX7_init_109 : decode cX7_init 109 = .ok (.aload_n 0, 1) := by decide +kernel
theorem dX7_init_110 : decode cX7_init 110 = .ok (.getfield 19, 3) := by decide +kernel
theorem dX7_init_113 : decode cX7_init 113 = .ok (.invokespecial 62, 3) := by decide +kernel
theorem dX7_init_116 : decode cX7_init 116 = .ok (.putfield 65, 3) := by decide +kernel
theorem dX7_init_119 : decode cX7_init 119 = .ok (.aload_n 0, 1) := by decide +kernel
theorem dX7_init_120 : decode cX7_init 120 = .ok (.new 60, 3) := by decide +kernel
theorem dX7_init_123 : decode cX7_init 123 = .ok (.dup, 1) := by decide +kernel
theorem dX7_init_124 : decode cX7_init 124 = .ok (.aload_n 0, 1) := by decide +kernel
theorem dX7_init_125 : decode cX7_init 125 = .ok (.getfield 19, 3) := by decide +kernel
theorem dX7_init_128 : decode cX7_init 128 = .ok (.invokespecial 62, 3) := by decide +kernel
theorem dX7_init_131 : decode cX7_init 131 = .ok (.putfield 69, 3) := by decide +kernel
theorem dX7_init_134 : decode cX7_init 134 = .ok (.aload_n 0, 1) := by decide +kernel
theorem dX7_init_135 : decode cX7_init 135 = .ok (.bipush 16, 2) := by decide +kernel
theorem dX7_init_137 : decode cX7_init 137 = .ok (.newarray .long, 2) := by decide +kernel
theorem dX7_init_139 : decode cX7_init 139 = .ok (.putfield 72, 3) := by decide +kernel
theorem dX7_init_142 : decode cX7_init 142 = .ok (.iconst 0, 1) := by decide +kernel
theorem dX7_init_143 : decode cX7_init 143 = .ok (.istore_n 1, 1) := by decide +kernel
theorem dX7_init_144 : decode cX7_init 144 = .ok (.iload_n 1, 1) := by decide +kernel
theorem dX7_init_145 : decode cX7_init 145 = .ok (.aload_n 0, 1) := by decide +kernel
theorem dX7_init_146 : decode cX7_init 146 = .ok (.getfield 45, 3) := by decide +kernel
theorem dX7_init_149 : decode cX7_init 149 = .ok (.arraylength, 1) := by decide +kernel
theorem dX7_init_150 : decode cX7_init 150 = .ok (.if_icmp .ge 22, 3) := by decide +kernel
theorem dX7_init_153 : decode cX7_init 153 = .ok (.aload_n 0, 1) := by decide +kernel
theorem dX7_init_154 : decode cX7_init 154 = .ok (.getfield 45, 3) := by decide +kernel
theorem dX7_init_157 : decode cX7_init 157 = .ok (.iload_n 1, 1) := by decide +kernel
theorem dX7_init_158 : decode cX7_init 158 = .ok (.new 35, 3) := by decide +kernel
theorem dX7_init_161 : decode cX7_init 161 = .ok (.dup, 1) := by decide +kernel
theorem dX7_init_162 : decode cX7_init 162 = .ok (.invokespecial 37, 3) := by decide +kernel
theorem dX7_init_165 : decode cX7_init 165 = .ok (.aastore, 1) := by decide +kernel
theorem dX7_init_166 : decode cX7_init 166 = .ok (.iinc 1 1, 3) := by decide +kernel
theorem dX7_init_169 : decode cX7_init 169 = .ok (.goto (-25), 3) := by decide +kernel
theorem dX7_init_172 : decode cX7_init 172 = .ok (.return_, 1) := by decide +kernel
theorem dX7_feed_0 : decode cX7_feed 0 = .ok (.aload_n 0, 1) := by decide +kernel
theorem dX7_feed_1 : decode cX7_feed 1 = .ok (.getfield 12, 3) := by decide +kernel
theorem dX7_feed_4 : decode cX7_feed 4 = .ok (.getfield 76, 3) := by decide +kernel
theorem dX7_feed_7 : decode cX7_feed 7 = .ok (.sipush 780, 3) := by decide +kernel
theorem dX7_feed_10 : decode cX7_feed 10 = .ok (.if_icmp .le 5, 3) := by decide +kernel
theorem dX7_feed_13 : decode cX7_feed 13 = .ok (.iconst (-1), 1) := by decide +kernel
theorem dX7_feed_14 : decode cX7_feed 14 = .ok (.ireturn, 1) := by decide +kernel
theorem dX7_feed_15 : decode cX7_feed 15 = .ok (.aload_n 0, 1) := by decide +kernel
theorem dX7_feed_16 : decode cX7_feed 16 = .ok (.getfield 12, 3) := by decide +kernel
theorem dX7_feed_19 : decode cX7_feed 19 = .ok (.iload_n 1, 1) := by decide +kernel
theorem dX7_feed_20 : decode cX7_feed 20 = .ok (.invokevirtual 80, 3) := by decide +kernel
theorem dX7_feed_23 : decode cX7_feed 23 = .ok (.aload_n 0, 1) := by decide +kernel
theorem dX7_feed_24 : decode cX7_feed 24 = .ok (.getfield 12, 3) := by decide +kernel
theorem dX7_feed_27 : decode cX7_feed 27 = .ok (.iload_n 2, 1) := by decide +kernel
theorem dX7_feed_28 : decode cX7_feed 28 = .ok (.invokevirtual 80, 3) := by decide +kernel
theorem dX7_feed_31 : decode cX7_feed 31 = .ok (.aload_n 0, 1) := by decide +kernel
theorem dX7_feed_32 : decode cX7_feed 32 = .ok (.getfield 12, 3) := by decide +kernel
theorem dX7_feed_35 : decode cX7_feed 35 = .ok (.iload_n 3, 1) := by decide +kernel
theorem dX7_feed_36 : decode cX7_feed 36 = .ok (.invokevirtual 80, 3) := by decide +kernel
theorem dX7_feed_39 : decode cX7_feed 39 = .ok (.aload_n 0, 1) := by decide +kernel
theorem dX7_feed_40 : decode cX7_feed 40 = .ok (.getfield 12, 3) := by decide +kernel
theorem dX7_feed_43 : decode cX7_feed 43 = .ok (.iload 4, 2) := by decide +kernel
theorem dX7_feed_45 : decode cX7_feed 45 = .ok (.invokevirtual 80, 3) := by decide +kernel
theorem dX7_feed_48 : decode cX7_feed 48 = .ok (.aload_n 0, 1) := by decide +kernel
theorem dX7_feed_49 : decode cX7_feed 49 = .ok (.getfield 12, 3) := by decide +kernel
theorem dX7_feed_52 : decode cX7_feed 52 = .ok (.iload 5, 2) := by decide +kernel
theorem dX7_feed_54 : decode cX7_feed 54 = .ok (.invokevirtual 80, 3) := by decide +kernel
theorem dX7_feed_57 : decode cX7_feed 57 = .ok (.aload_n 0, 1) := by decide +kernel
theorem dX7_feed_58 : decode cX7_feed 58 = .ok (.getfield 12, 3) := by decide +kernel
theorem dX7_feed_61 : decode cX7_feed 61 = .ok (.getfield 76, 3) := by decide +kernel
theorem dX7_feed_64 : decode cX7_feed 64 = .ok (.ireturn, 1) := by decide +kernel
theorem dX7_end_0 : decode cX7_end 0 = .ok (.iload_n 1, 1) := by decide +kernel
theorem dX7_end_1 : decode cX7_end 1 = .ok (.ifCond .lt 14, 3) := by decide +kernel
theorem dX7_end_4 : decode cX7_end 4 = .ok (.iload_n 1, 1) := by decide +kernel
theorem dX7_end_5 : decode cX7_end 5 = .ok (.aload_n 0, 1) := by decide +kernel
theorem dX7_end_6 : decode cX7_end 6 = .ok (.getfield 12, 3) := by decide +kernel
theorem dX7_end_9 : decode cX7_end 9 = .ok (.getfield 76, 3) := by decide +kernel
theorem dX7_end_12 : decode cX7_end 12 = .ok (.if_icmp .le 5, 3) := by decide +kernel
theorem dX7_end_15 : decode cX7_end 15 = .ok (.iconst (-1), 1) := by decide +kernel
theorem dX7_end_16 : decode cX7_end 16 = .ok (.ireturn, 1) := by decide +kernel
theorem dX7_end_17 : decode cX7_end 17 = .ok (.aload_n 0, 1) := by decide +kernel
theorem dX7_end_18 : decode cX7_end 18 = .ok (.getfield 12, 3) := by decide +kernel
theorem dX7_end_21 : decode cX7_end 21 = .ok (.iload_n 1, 1) := by decide +kernel
theorem dX7_end_22 : decode cX7_end 22 = .ok (.putfield 76, 3) := by decide +kernel
theorem dX7_end_25 : decode cX7_end 25 = .ok (.iload_n 1, 1) := by decide +kernel
theorem dX7_end_26 : decode cX7_end 26 = .ok (.ireturn, 1) := by decide +kernel
theorem dX7_ring_0 : decode cX7_ring 0 = .ok (.aload_n 0, 1) := by decide +kernel
theorem dX7_ring_1 : decode cX7_ring 1 = .ok (.getfield 31, 3) := by decide +kernel
theorem dX7_ring_4 : decode cX7_ring 4 = .ok (.aload_n 0, 1) := by decide +kernel
theorem dX7_ring_5 : decode cX7_ring 5 = .ok (.getfield 23, 3) := by decide +kernel
theorem dX7_ring_8 : decode cX7_ring 8 = .ok (.invokevirtual 84, 3) := by decide +kernel
theorem dX7_ring_11 : decode cX7_ring 11 = .ok (.istore_n 1, 1) := by decide +kernel
theorem dX7_ring_12 : decode cX7_ring 12 = .ok (.aload_n 0, 1) := by decide +kernel
theorem dX7_ring_13 : decode cX7_ring 13 = .ok (.getfield 12, 3) := by decide +kernel
theorem dX7_ring_16 : decode cX7_ring 16 = .ok (.iconst 0, 1) := by decide +kernel
theorem dX7_ring_17 : decode cX7_ring 17 = .ok (.putfield 76, 3) := by decide +kernel
theorem dX7_ring_20 : decode cX7_ring 20 = .ok (.iload_n 1, 1) := by decide +kernel
theorem dX7_ring_21 : decode cX7_ring 21 = .ok (.ifCond .ne 5, 3) := by decide +kernel
theorem dX7_ring_24 : decode cX7_ring 24 = .ok (.iconst (-1), 1) := by decide +kernel
theorem dX7_ring_25 : decode cX7_ring 25 = .ok (.ireturn, 1) := by decide +kernel
theorem dX7_ring_26 : decode cX7_ring 26 = .ok (.aload_n 0, 1) := by decide +kernel
theorem dX7_ring_27 : decode cX7_ring 27 = .ok (.getfield 19, 3) := by decide +kernel
theorem dX7_ring_30 : decode cX7_ring 30 = .ok (.astore_n 2, 1) := by decide +kernel
theorem dX7_ring_31 : decode cX7_ring 31 = .ok (.aload_n 0, 1) := by decide +kernel
theorem dX7_ring_32 : decode cX7_ring 32 = .ok (.aload_n 0, 1) := by decide +kernel
theorem dX7_ring_33 : decode cX7_ring 33 = .ok (.getfield 23, 3) := by decide +kernel
theorem dX7_ring_36 : decode cX7_ring 36 = .ok (.putfield 19, 3) := by decide +kernel
theorem dX7_ring_39 : decode cX7_ring 39 = .ok (.aload_n 0, 1) := by decide +kernel
theorem dX7_ring_40 : decode cX7_ring 40 = .ok (.aload_n 2, 1) := by decide +kernel
theorem dX7_ring_41 : decode cX7_ring 41 = .ok (.putfield 23, 3) := by decide +kernel
theorem dX7_ring_44 : decode cX7_ring 44 = .ok (.aload_n 0, 1) := by decide +kernel
theorem dX7_ring_45 : decode cX7_ring 45 = .ok (.getfield 38, 3) := by decide +kernel
theorem dX7_ring_48 : decode cX7_ring 48 = .ok (.invokevirtual 88, 3) := by decide +kernel
theorem dX7_ring_51 : decode cX7_ring 51 = .ok (.aload_n 0, 1) := by decide +kernel
theorem dX7_ring_52 : decode cX7_ring 52 = .ok (.getfield 56, 3) := by decide +kernel
theorem dX7_ring_55 : decode cX7_ring 55 = .ok (.invokevirtual 91, 3) := by decide +kernel
theorem dX7_ring_58 : decode cX7_ring 58 = .ok (.iconst 0, 1) := by decide +kernel
theorem dX7_ring_59 : decode cX7_ring 59 = .ok (.istore_n 3, 1) := by decide +kernel
theorem dX7_ring_60 : decode cX7_ring 60 = .ok (.iload_n 3, 1) := by decide +kernel
theorem dX7_ring_61 : decode cX7_ring 61 = .ok (.aload_n 0, 1) := by decide +kernel
theorem dX7_ring_62 : decode cX7_ring 62 = .ok (.getfield 49, 3) := by decide +kernel
theorem dX7_ring_65 : decode cX7_ring 65 = .ok (.arraylength, 1) := by decide +kernel
theorem dX7_ring_66 : decode cX7_ring 66 = .ok (.if_icmp .ge 16, 3) := by decide +kernel
theorem dX7_ring_69 : decode cX7_ring 69 = .ok (.aload_n 0, 1) := by decide +kernel
theorem dX7_ring_70 : decode cX7_ring 70 = .ok (.getfield 49, 3) := by decide +kernel
theorem dX7_ring_73 : decode cX7_ring 73 = .ok (.iload_n 3, 1) := by decide +kernel
theorem dX7_ring_74 : decode cX7_ring 74 = .ok (.iconst 0, 1) := by decide +kernel
theorem dX7_ring_75 : decode cX7_ring 75 = .ok (.bastore, 1) := by decide +kernel
theorem dX7_ring_76 : decode cX7_ring 76 = .ok (.iinc 3 1, 3) := by decide +kernel
theorem dX7_ring_79 : decode cX7_ring 79 = .ok (.goto (-19), 3) := by decide +kernel
theorem dX7_ring_82 : decode cX7_ring 82 = .ok (.aload_n 0, 1) := by decide +kernel
theorem dX7_ring_83 : decode cX7_ring 83 = .ok (.getfield 19, 3) := by decide +kernel
theorem dX7_ring_86 : decode cX7_ring 86 = .ok (.getfield 94, 3) := by decide +kernel
theorem dX7_ring_89 : decode cX7_ring 89 = .ok (.ireturn, 1) := by decide +kernel
theorem dX7_fault_0 : decode cX7_fault 0 = .ok (.iload_n 1, 1) := by decide +kernel
theorem dX7_fault_1 : decode cX7_fault 1 = .ok (.ifCond .ne 11, 3) := by decide +kernel
theorem dX7_fault_4 : decode cX7_fault 4 = .ok (.aload_n 0, 1) := by decide +kernel
theorem dX7_fault_5 : decode cX7_fault 5 = .ok (.getfield 31, 3) := by decide +kernel
theorem dX7_fault_8 : decode cX7_fault 8 = .ok (.getfield 97, 3) := by decide +kernel
theorem dX7_fault_11 : decode cX7_fault 11 = .ok (.ireturn, 1) := by decide +kernel
theorem dX7_fault_12 : decode cX7_fault 12 = .ok (.iload_n 1, 1) := by decide +kernel
theorem dX7_fault_13 : decode cX7_fault 13 = .ok (.iconst 1, 1) := by decide +kernel
theorem dX7_fault_14 : decode cX7_fault 14 = .ok (.if_icmp .ne 13, 3) := by decide +kernel
theorem dX7_fault_17 : decode cX7_fault 17 = .ok (.aload_n 0, 1) := by decide +kernel
theorem dX7_fault_18 : decode cX7_fault 18 = .ok (.getfield 31, 3) := by decide +kernel
theorem dX7_fault_21 : decode cX7_fault 21 = .ok (.getfield 100, 3) := by decide +kernel
theorem dX7_fault_24 : decode cX7_fault 24 = .ok (.goto 4, 3) := by decide +kernel
theorem dX7_fault_27 : decode cX7_fault 27 = .ok (.iconst (-1), 1) := by decide +kernel
theorem dX7_fault_28 : decode cX7_fault 28 = .ok (.ireturn, 1) := by decide +kernel
theorem dX7_tryNow_0 : decode cX7_tryNow 0 = .ok (.aload_n 0, 1) := by decide +kernel
theorem dX7_tryNow_1 : decode cX7_tryNow 1 = .ok (.getfield 38, 3) := by decide +kernel
theorem dX7_tryNow_4 : decode cX7_tryNow 4 = .ok (.aload_n 0, 1) := by decide +kernel
theorem dX7_tryNow_5 : decode cX7_tryNow 5 = .ok (.getfield 19, 3) := by decide +kernel
theorem dX7_tryNow_8 : decode cX7_tryNow 8 = .ok (.aload_n 0, 1) := by decide +kernel
theorem dX7_tryNow_9 : decode cX7_tryNow 9 = .ok (.getfield 19, 3) := by decide +kernel
theorem dX7_tryNow_12 : decode cX7_tryNow 12 = .ok (.getfield 103, 3) := by decide +kernel
theorem dX7_tryNow_15 : decode cX7_tryNow 15 = .ok (.invokevirtual 107, 3) := by decide +kernel
theorem dX7_tryNow_18 : decode cX7_tryNow 18 = .ok (.ireturn, 1) := by decide +kernel
theorem dX7_run_0 : decode cX7_run 0 = .ok (.iload_n 1, 1) := by decide +kernel
theorem dX7_run_1 : decode cX7_run 1 = .ok (.ifCond .lt 24, 3) := by decide +kernel
theorem dX7_run_4 : decode cX7_run 4 = .ok (.iload_n 1, 1) := by decide +kernel
theorem dX7_run_5 : decode cX7_run 5 = .ok (.sipush 400, 3) := by decide +kernel
theorem dX7_run_8 : decode cX7_run 8 = .ok (.if_icmp .gt 17, 3) := by decide +kernel
theorem dX7_run_11 : decode cX7_run 11 = .ok (.iload_n 1, 1) := by decide +kernel
theorem dX7_run_12 : decode cX7_run 12 = .ok (.ldc 111, 2) := by decide +kernel
theorem dX7_run_14 : decode cX7_run 14 = .ok (.aload_n 0, 1) := by decide +kernel
theorem dX7_run_15 : decode cX7_run 15 = .ok (.getfield 38, 3) := by decide +kernel
theorem dX7_run_18 : decode cX7_run 18 = .ok (.getfield 112, 3) := by decide +kernel
theorem dX7_run_21 : decode cX7_run 21 = .ok (.isub, 1) := by decide +kernel
theorem dX7_run_22 : decode cX7_run 22 = .ok (.if_icmp .le 5, 3) := by decide +kernel
theorem dX7_run_25 : decode cX7_run 25 = .ok (.iconst (-1), 1) := by decide +kernel
theorem dX7_run_26 : decode cX7_run 26 = .ok (.ireturn, 1) := by decide +kernel
theorem dX7_run_27 : decode cX7_run 27 = .ok (.iconst 0, 1) := by decide +kernel
theorem dX7_run_28 : decode cX7_run 28 = .ok (.istore_n 2, 1) := by decide +kernel
theorem dX7_run_29 : decode cX7_run 29 = .ok (.iconst 0, 1) := by decide +kernel
theorem dX7_run_30 : decode cX7_run 30 = .ok (.istore_n 3, 1) := by decide +kernel
theorem dX7_run_31 : decode cX7_run 31 = .ok (.iload_n 3, 1) := by decide +kernel
theorem dX7_run_32 : decode cX7_run 32 = .ok (.iload_n 1, 1) := by decide +kernel
theorem dX7_run_33 : decode cX7_run 33 = .ok (.if_icmp .ge 26, 3) := by decide +kernel
theorem dX7_run_36 : decode cX7_run 36 = .ok (.iload_n 2, 1) := by decide +kernel
theorem dX7_run_37 : decode cX7_run 37 = .ok (.aload_n 0, 1) := by decide +kernel
theorem dX7_run_38 : decode cX7_run 38 = .ok (.getfield 38, 3) := by decide +kernel
theorem dX7_run_41 : decode cX7_run 41 = .ok (.aload_n 0, 1) := by decide +kernel
theorem dX7_run_42 : decode cX7_run 42 = .ok (.getfield 19, 3) := by decide +kernel
theorem dX7_run_45 : decode cX7_run 45 = .ok (.invokevirtual 115, 3) := by decide +kernel
theorem dX7_run_48 : decode cX7_run 48 = .ok (.invokestatic 119, 3) := by decide +kernel
theorem dX7_run_51 : decode cX7_run 51 = .ok (.iadd, 1) := by decide +kernel
theorem dX7_run_52 : decode cX7_run 52 = .ok (.istore_n 2, 1) := by decide +kernel
theorem dX7_run_53 : decode cX7_run 53 = .ok (.iinc 3 1, 3) := by decide +kernel
theorem dX7_run_56 : decode cX7_run 56 = .ok (.goto (-25), 3) := by decide +kernel
theorem dX7_run_59 : decode cX7_run 59 = .ok (.iload_n 2, 1) := by decide +kernel
theorem dX7_run_60 : decode cX7_run 60 = .ok (.ireturn, 1) := by decide +kernel
theorem dX7_seat_0 : decode cX7_seat 0 = .ok (.aload_n 0, 1) := by decide +kernel
theorem dX7_seat_1 : decode cX7_seat 1 = .ok (.getfield 19, 3) := by decide +kernel
theorem dX7_seat_4 : decode cX7_seat 4 = .ok (.iload_n 1, 1) := by decide +kernel
theorem dX7_seat_5 : decode cX7_seat 5 = .ok (.invokevirtual 125, 3) := by decide +kernel
theorem dX7_seat_8 : decode cX7_seat 8 = .ok (.ifCond .ne 5, 3) := by decide +kernel
theorem dX7_seat_11 : decode cX7_seat 11 = .ok (.iconst (-1), 1) := by decide +kernel
theorem dX7_seat_12 : decode cX7_seat 12 = .ok (.ireturn, 1) := by decide +kernel
theorem dX7_seat_13 : decode cX7_seat 13 = .ok (.aload_n 0, 1) := by decide +kernel
theorem dX7_seat_14 : decode cX7_seat 14 = .ok (.getfield 19, 3) := by decide +kernel
theorem dX7_seat_17 : decode cX7_seat 17 = .ok (.getfield 129, 3) := by decide +kernel
theorem dX7_seat_20 : decode cX7_seat 20 = .ok (.iload_n 1, 1) := by decide +kernel
theorem dX7_seat_21 : decode cX7_seat 21 = .ok (.invokestatic 132, 3) := by decide +kernel
theorem dX7_seat_24 : decode cX7_seat 24 = .ok (.istore_n 3, 1) := by decide +kernel
theorem dX7_seat_25 : decode cX7_seat 25 = .ok (.iload_n 2, 1) := by decide +kernel
theorem dX7_seat_26 : decode cX7_seat 26 = .ok (.tableswitch 95 0 3 #[30, 48, 57, 80], 30) := by decide +kernel
theorem dX7_seat_56 : decode cX7_seat 56 = .ok (.iload_n 3, 1) := by decide +kernel
theorem dX7_seat_57 : decode cX7_seat 57 = .ok (.ifCond .eq 8, 3) := by decide +kernel
theorem dX7_seat_60 : decode cX7_seat 60 = .ok (.bipush 40, 2) := by decide +kernel
theorem dX7_seat_62 : decode cX7_seat 62 = .ok (.goto 11, 3) := by decide +kernel
theorem dX7_seat_65 : decode cX7_seat 65 = .ok (.aload_n 0, 1) := by decide +kernel
theorem dX7_seat_66 : decode cX7_seat 66 = .ok (.getfield 38, 3) := by decide +kernel
theorem dX7_seat_69 : decode cX7_seat 69 = .ok (.iload_n 1, 1) := by decide +kernel
theorem dX7_seat_70 : decode cX7_seat 70 = .ok (.invokevirtual 136, 3) := by decide +kernel
theorem dX7_seat_73 : decode cX7_seat 73 = .ok (.ireturn, 1) := by decide +kernel
theorem dX7_seat_74 : decode cX7_seat 74 = .ok (.aload_n 0, 1) := by decide +kernel
theorem dX7_seat_75 : decode cX7_seat 75 = .ok (.getfield 38, 3) := by decide +kernel
theorem dX7_seat_78 : decode cX7_seat 78 = .ok (.iload_n 1, 1) := by decide +kernel
theorem dX7_seat_79 : decode cX7_seat 79 = .ok (.invokevirtual 140, 3) := by decide +kernel
theorem dX7_seat_82 : decode cX7_seat 82 = .ok (.ireturn, 1) := by decide +kernel
theorem dX7_seat_83 : decode cX7_seat 83 = .ok (.iload_n 3, 1) := by decide +kernel
theorem dX7_seat_84 : decode cX7_seat 84 = .ok (.ifCond .eq 7, 3) := by decide +kernel
theorem dX7_seat_87 : decode cX7_seat 87 = .ok (.iconst 2, 1) := by decide +kernel
theorem dX7_seat_88 : decode cX7_seat 88 = .ok (.goto 17, 3) := by decide +kernel
theorem dX7_seat_91 : decode cX7_seat 91 = .ok (.aload_n 0, 1) := by decide +kernel
theorem dX7_seat_92 : decode cX7_seat 92 = .ok (.getfield 19, 3) := by decide +kernel
theorem dX7_seat_95 : decode cX7_seat 95 = .ok (.getfield 143, 3) := by decide +kernel
theorem dX7_seat_98 : decode cX7_seat 98 = .ok (.iload_n 1, 1) := by decide +kernel
theorem dX7_seat_99 : decode cX7_seat 99 = .ok (.invokestatic 132, 3) := by decide +kernel
theorem dX7_seat_102 : decode cX7_seat 102 = .ok (.invokestatic 146, 3) := by decide +kernel
theorem dX7_seat_105 : decode cX7_seat 105 = .ok (.ireturn, 1) := by decide +kernel
theorem dX7_seat_106 : decode cX7_seat 106 = .ok (.aload_n 0, 1) := by decide +kernel
theorem dX7_seat_107 : decode cX7_seat 107 = .ok (.getfield 19, 3) := by decide +kernel
theorem dX7_seat_110 : decode cX7_seat 110 = .ok (.getfield 103, 3) := by decide +kernel
theorem dX7_seat_113 : decode cX7_seat 113 = .ok (.iload_n 1, 1) := by decide +kernel
theorem dX7_seat_114 : decode cX7_seat 114 = .ok (.invokestatic 132, 3) := by decide +kernel
theorem dX7_seat_117 : decode cX7_seat 117 = .ok (.invokestatic 146, 3) := by decide +kernel
theorem dX7_seat_120 : decode cX7_seat 120 = .ok (.ireturn, 1) := by decide +kernel
theorem dX7_seat_121 : decode cX7_seat 121 = .ok (.iconst (-1), 1) := by decide +kernel
theorem dX7_seat_122 : decode cX7_seat 122 = .ok (.ireturn, 1) := by decide +kernel
theorem dX7_would_0 : decode cX7_would 0 = .ok (.aload_n 0, 1) := by decide +kernel
theorem dX7_would_1 : decode cX7_would 1 = .ok (.getfield 38, 3) := by decide +kernel
theorem dX7_would_4 : decode cX7_would 4 = .ok (.aload_n 0, 1) := by decide +kernel
theorem dX7_would_5 : decode cX7_would 5 = .ok (.getfield 19, 3) := by decide +kernel
theorem dX7_would_8 : decode cX7_would 8 = .ok (.aload_n 0, 1) := by decide +kernel
theorem dX7_would_9 : decode cX7_would 9 = .ok (.getfield 19, 3) := by decide +kernel
theorem dX7_would_12 : decode cX7_would 12 = .ok (.getfield 143, 3) := by decide +kernel
theorem dX7_would_15 : decode cX7_would 15 = .ok (.invokevirtual 150, 3) := by decide +kernel
theorem dX7_would_18 : decode cX7_would 18 = .ok (.invokestatic 119, 3) := by decide +kernel
theorem dX7_would_21 : decode cX7_would 21 = .ok (.ireturn, 1) := by decide +kernel
theorem dX7_way_0 : decode cX7_way 0 = .ok (.aload_n 0, 1) := by decide +kernel
theorem dX7_way_1 : decode cX7_way 1 = .ok (.getfield 38, 3) := by decide +kernel
theorem dX7_way_4 : decode cX7_way 4 = .ok (.iload_n 1, 1) := by decide +kernel
theorem dX7_way_5 : decode cX7_way 5 = .ok (.invokevirtual 154, 3) := by decide +kernel
theorem dX7_way_8 : decode cX7_way 8 = .ok (.ireturn, 1) := by decide +kernel
theorem dX7_wide_0 : decode cX7_wide 0 = .ok (.aload_n 0, 1) := by decide +kernel
theorem dX7_wide_1 : decode cX7_wide 1 = .ok (.getfield 19, 3) := by decide +kernel
theorem dX7_wide_4 : decode cX7_wide 4 = .ok (.aload_n 0, 1) := by decide +kernel
theorem dX7_wide_5 : decode cX7_wide 5 = .ok (.getfield 38, 3) := by decide +kernel
theorem dX7_wide_8 : decode cX7_wide 8 = .ok (.getfield 157, 3) := by decide +kernel
theorem dX7_wide_11 : decode cX7_wide 11 = .ok (.invokevirtual 160, 3) := by decide +kernel
theorem dX7_wide_14 : decode cX7_wide 14 = .ok (.ireturn, 1) := by decide +kernel
theorem dX7_waves_0 : decode cX7_waves 0 = .ok (.aload_n 0, 1) := by decide +kernel
theorem dX7_waves_1 : decode cX7_waves 1 = .ok (.getfield 19, 3) := by decide +kernel
theorem dX7_waves_4 : decode cX7_waves 4 = .ok (.aload_n 0, 1) := by decide +kernel
theorem dX7_waves_5 : decode cX7_waves 5 = .ok (.getfield 38, 3) := by decide +kernel
theorem dX7_waves_8 : decode cX7_waves 8 = .ok (.getfield 157, 3) := by decide +kernel
theorem dX7_waves_11 : decode cX7_waves 11 = .ok (.invokevirtual 163, 3) := by decide +kernel
theorem dX7_waves_14 : decode cX7_waves 14 = .ok (.ireturn, 1) := by decide +kernel
theorem dX7_till_0 : decode cX7_till 0 = .ok (.aload_n 0, 1) := by decide +kernel
theorem dX7_till_1 : decode cX7_till 1 = .ok (.getfield 19, 3) := by decide +kernel
theorem dX7_till_4 : decode cX7_till 4 = .ok (.iload_n 1, 1) := by decide +kernel
theorem dX7_till_5 : decode cX7_till 5 = .ok (.invokevirtual 125, 3) := by decide +kernel
theorem dX7_till_8 : decode cX7_till 8 = .ok (.ifCond .eq 14, 3) := by decide +kernel
theorem dX7_till_11 : decode cX7_till 11 = .ok (.iload_n 2, 1) := by decide +kernel
theorem dX7_till_12 : decode cX7_till 12 = .ok (.iconst 1, 1) := by decide +kernel
theorem dX7_till_13 : decode cX7_till 13 = .ok (.if_icmp .lt 9, 3) := by decide +kernel
theorem dX7_till_16 : decode cX7_till 16 = .ok (.iload_n 2, 1) := by decide +kernel
theorem dX7_till_17 : decode cX7_till 17 = .ok (.bipush 9, 2) := by decide +kernel
theorem dX7_till_19 : decode cX7_till 19 = .ok (.if_icmp .le 5, 3) := by decide +kernel
theorem dX7_till_22 : decode cX7_till 22 = .ok (.iconst (-1), 1) := by decide +kernel
theorem dX7_till_23 : decode cX7_till 23 = .ok (.ireturn, 1) := by decide +kernel
theorem dX7_till_24 : decode cX7_till 24 = .ok (.aload_n 0, 1) := by decide +kernel
theorem dX7_till_25 : decode cX7_till 25 = .ok (.getfield 42, 3) := by decide +kernel
theorem dX7_till_28 : decode cX7_till 28 = .ok (.aload_n 0, 1) := by decide +kernel
theorem dX7_till_29 : decode cX7_till 29 = .ok (.getfield 38, 3) := by decide +kernel
theorem dX7_till_32 : decode cX7_till 32 = .ok (.invokevirtual 166, 3) := by decide +kernel
theorem dX7_till_35 : decode cX7_till 35 = .ok (.iconst 0, 1) := by decide +kernel
theorem dX7_till_36 : decode cX7_till 36 = .ok (.istore_n 3, 1) := by decide +kernel
theorem dX7_till_37 : decode cX7_till 37 = .ok (.iconst 1, 1) := by decide +kernel
theorem dX7_till_38 : decode cX7_till 38 = .ok (.istore 4, 2) := by decide +kernel
theorem dX7_till_40 : decode cX7_till 40 = .ok (.iload 4, 2) := by decide +kernel
theorem dX7_till_42 : decode cX7_till 42 = .ok (.sipush 400, 3) := by decide +kernel
theorem dX7_till_45 : decode cX7_till 45 = .ok (.if_icmp .gt 45, 3) := by decide +kernel
theorem dX7_till_48 : decode cX7_till 48 = .ok (.aload_n 0, 1) := by decide +kernel
theorem dX7_till_49 : decode cX7_till 49 = .ok (.getfield 42, 3) := by decide +kernel
theorem dX7_till_52 : decode cX7_till 52 = .ok (.aload_n 0, 1) := by decide +kernel
theorem dX7_till_53 : decode cX7_till 53 = .ok (.getfield 19, 3) := by decide +kernel
theorem dX7_till_56 : decode cX7_till 56 = .ok (.aload_n 0, 1) := by decide +kernel
theorem dX7_till_57 : decode cX7_till 57 = .ok (.getfield 19, 3) := by decide +kernel
theorem dX7_till_60 : decode cX7_till 60 = .ok (.getfield 143, 3) := by decide +kernel
theorem dX7_till_63 : decode cX7_till 63 = .ok (.invokevirtual 170, 3) := by decide +kernel
theorem dX7_till_66 : decode cX7_till 66 = .ok (.iload_n 1, 1) := by decide +kernel
theorem dX7_till_67 : decode cX7_till 67 = .ok (.invokestatic 132, 3) := by decide +kernel
theorem dX7_till_70 : decode cX7_till 70 = .ok (.ifCond .eq 6, 3) := by decide +kernel
theorem dX7_till_73 : decode cX7_till 73 = .ok (.iinc 3 1, 3) := by decide +kernel
theorem dX7_till_76 : decode cX7_till 76 = .ok (.iload_n 3, 1) := by decide +kernel
theorem dX7_till_77 : decode cX7_till 77 = .ok (.iload_n 2, 1) := by decide +kernel
theorem dX7_till_78 : decode cX7_till 78 = .ok (.if_icmp .ne 6, 3) := by decide +kernel
theorem dX7_till_81 : decode cX7_till 81 = .ok (.iload 4, 2) := by decide +kernel
theorem dX7_till_83 : decode cX7_till 83 = .ok (.ireturn, 1) := by decide +kernel
theorem dX7_till_84 : decode cX7_till 84 = .ok (.iinc 4 1, 3) := by decide +kernel
theorem dX7_till_87 : decode cX7_till 87 = .ok (.goto (-47), 3) := by decide +kernel
theorem dX7_till_90 : decode cX7_till 90 = .ok (.iconst (-1), 1) := by decide +kernel
theorem dX7_till_91 : decode cX7_till 91 = .ok (.ireturn, 1) := by decide +kernel
theorem dX7_dies_0 : decode cX7_dies 0 = .ok (.aload_n 0, 1) := by decide +kernel
theorem dX7_dies_1 : decode cX7_dies 1 = .ok (.getfield 42, 3) := by decide +kernel
theorem dX7_dies_4 : decode cX7_dies 4 = .ok (.aload_n 0, 1) := by decide +kernel
theorem dX7_dies_5 : decode cX7_dies 5 = .ok (.getfield 38, 3) := by decide +kernel
theorem dX7_dies_8 : decode cX7_dies 8 = .ok (.invokevirtual 166, 3) := by decide +kernel
theorem dX7_dies_11 : decode cX7_dies 11 = .ok (.aload_n 0, 1) := by decide +kernel
theorem dX7_dies_12 : decode cX7_dies 12 = .ok (.getfield 42, 3) := by decide +kernel
theorem dX7_dies_15 : decode cX7_dies 15 = .ok (.aload_n 0, 1) := by decide +kernel
theorem dX7_dies_16 : decode cX7_dies 16 = .ok (.getfield 19, 3) := by decide +kernel
theorem dX7_dies_19 : decode cX7_dies 19 = .ok (.aload_n 0, 1) := by decide +kernel
theorem dX7_dies_20 : decode cX7_dies 20 = .ok (.getfield 19, 3) := by decide +kernel
theorem dX7_dies_23 : decode cX7_dies 23 = .ok (.getfield 143, 3) := by decide +kernel
theorem dX7_dies_26 : decode cX7_dies 26 = .ok (.sipush 401, 3) := by decide +kernel
theorem dX7_dies_29 : decode cX7_dies 29 = .ok (.invokevirtual 173, 3) := by decide +kernel
theorem dX7_dies_32 : decode cX7_dies 32 = .ok (.istore_n 1, 1) := by decide +kernel
theorem dX7_dies_33 : decode cX7_dies 33 = .ok (.iload_n 1, 1) := by decide +kernel
theorem dX7_dies_34 : decode cX7_dies 34 = .ok (.sipush 400, 3) := by decide +kernel
theorem dX7_dies_37 : decode cX7_dies 37 = .ok (.if_icmp .le 7, 3) := by decide +kernel
theorem dX7_dies_40 : decode cX7_dies 40 = .ok (.iconst (-1), 1) := by decide +kernel
theorem dX7_dies_41 : decode cX7_dies 41 = .ok (.goto 4, 3) := by decide +kernel
theorem dX7_dies_44 : decode cX7_dies 44 = .ok (.iload_n 1, 1) := by decide +kernel
theorem dX7_dies_45 : decode cX7_dies 45 = .ok (.ireturn, 1) := by decide +kernel
theorem dX7_lives_0 : decode cX7_lives 0 = .ok (.aload_n 0, 1) := by decide +kernel
theorem dX7_lives_1 : decode cX7_lives 1 = .ok (.getfield 19, 3) := by decide +kernel
theorem dX7_lives_4 : decode cX7_lives 4 = .ok (.iload_n 1, 1) := by decide +kernel
theorem dX7_lives_5 : decode cX7_lives 5 = .ok (.invokevirtual 125, 3) := by decide +kernel
theorem dX7_lives_8 : decode cX7_lives 8 = .ok (.ifCond .eq 11, 3) := by decide +kernel
theorem dX7_lives_11 : decode cX7_lives 11 = .ok (.aload_n 0, 1) := by decide +kernel
theorem dX7_lives_12 : decode cX7_lives 12 = .ok (.iload_n 2, 1) := by decide +kernel
theorem dX7_lives_13 : decode cX7_lives 13 = .ok (.invokevirtual 177, 3) := by decide +kernel
theorem dX7_lives_16 : decode cX7_lives 16 = .ok (.ifCond .ne 5, 3) := by decide +kernel
theorem dX7_lives_19 : decode cX7_lives 19 = .ok (.iconst (-1), 1) := by decide +kernel
theorem dX7_lives_20 : decode cX7_lives 20 = .ok (.ireturn, 1) := by decide +kernel
theorem dX7_lives_21 : decode cX7_lives 21 = .ok (.aload_n 0, 1) := by decide +kernel
theorem dX7_lives_22 : decode cX7_lives 22 = .ok (.aload_n 0, 1) := by decide +kernel
theorem dX7_lives_23 : decode cX7_lives 23 = .ok (.getfield 19, 3) := by decide +kernel
theorem dX7_lives_26 : decode cX7_lives 26 = .ok (.iload_n 1, 1) := by decide +kernel
theorem dX7_lives_27 : decode cX7_lives 27 = .ok (.iload_n 2, 1) := by decide +kernel
theorem dX7_lives_28 : decode cX7_lives 28 = .ok (.invokevirtual 180, 3) := by decide +kernel
theorem dX7_lives_31 : decode cX7_lives 31 = .ok (.aload_n 0, 1) := by decide +kernel
theorem dX7_lives_32 : decode cX7_lives 32 = .ok (.getfield 19, 3) := by decide +kernel
theorem dX7_lives_35 : decode cX7_lives 35 = .ok (.getfield 143, 3) := by decide +kernel
theorem dX7_lives_38 : decode cX7_lives 38 = .ok (.invokevirtual 184, 3) := by decide +kernel
theorem dX7_lives_41 : decode cX7_lives 41 = .ok (.ireturn, 1) := by decide +kernel
theorem dX7_fewest_0 : decode cX7_fewest 0 = .ok (.aload_n 0, 1) := by decide +kernel
theorem dX7_fewest_1 : decode cX7_fewest 1 = .ok (.getfield 19, 3) := by decide +kernel
theorem dX7_fewest_4 : decode cX7_fewest 4 = .ok (.iload_n 1, 1) := by decide +kernel
theorem dX7_fewest_5 : decode cX7_fewest 5 = .ok (.invokevirtual 125, 3) := by decide +kernel
theorem dX7_fewest_8 : decode cX7_fewest 8 = .ok (.ifCond .ne 5, 3) := by decide +kernel
theorem dX7_fewest_11 : decode cX7_fewest 11 = .ok (.iconst (-1), 1) := by decide +kernel
theorem dX7_fewest_12 : decode cX7_fewest 12 = .ok (.ireturn, 1) := by decide +kernel
theorem dX7_fewest_13 : decode cX7_fewest 13 = .ok (.iconst 1, 1) := by decide +kernel
theorem dX7_fewest_14 : decode cX7_fewest 14 = .ok (.istore_n 2, 1) := by decide +kernel
theorem dX7_fewest_15 : decode cX7_fewest 15 = .ok (.iload_n 2, 1) := by decide +kernel
theorem dX7_fewest_16 : decode cX7_fewest 16 = .ok (.bipush 12, 2) := by decide +kernel
theorem dX7_fewest_18 : decode cX7_fewest 18 = .ok (.if_icmp .gt 45, 3) := by decide +kernel
theorem dX7_fewest_21 : decode cX7_fewest 21 = .ok (.aload_n 0, 1) := by decide +kernel
theorem dX7_fewest_22 : decode cX7_fewest 22 = .ok (.iload_n 2, 1) := by decide +kernel
theorem dX7_fewest_23 : decode cX7_fewest 23 = .ok (.invokevirtual 177, 3) := by decide +kernel
theorem dX7_fewest_26 : decode cX7_fewest 26 = .ok (.ifCond .eq 37, 3) := by decide +kernel
theorem dX7_fewest_29 : decode cX7_fewest 29 = .ok (.aload_n 0, 1) := by decide +kernel
theorem dX7_fewest_30 : decode cX7_fewest 30 = .ok (.aload_n 0, 1) := by decide +kernel
theorem dX7_fewest_31 : decode cX7_fewest 31 = .ok (.getfield 19, 3) := by decide +kernel
theorem dX7_fewest_34 : decode cX7_fewest 34 = .ok (.iload_n 1, 1) := by decide +kernel
theorem dX7_fewest_35 : decode cX7_fewest 35 = .ok (.iload_n 2, 1) := by decide +kernel
theorem dX7_fewest_36 : decode cX7_fewest 36 = .ok (.invokevirtual 180, 3) := by decide +kernel
theorem dX7_fewest_39 : decode cX7_fewest 39 = .ok (.aload_n 0, 1) := by decide +kernel
theorem dX7_fewest_40 : decode cX7_fewest 40 = .ok (.getfield 19, 3) := by decide +kernel
theorem dX7_fewest_43 : decode cX7_fewest 43 = .ok (.getfield 143, 3) := by decide +kernel
theorem dX7_fewest_46 : decode cX7_fewest 46 = .ok (.invokevirtual 184, 3) := by decide +kernel
theorem dX7_fewest_49 : decode cX7_fewest 49 = .ok (.sipush 200, 3) := by decide +kernel
theorem dX7_fewest_52 : decode cX7_fewest 52 = .ok (.if_icmp .ne 5, 3) := by decide +kernel
theorem dX7_fewest_55 : decode cX7_fewest 55 = .ok (.iload_n 2, 1) := by decide +kernel
theorem dX7_fewest_56 : decode cX7_fewest 56 = .ok (.ireturn, 1) := by decide +kernel
theorem dX7_fewest_57 : decode cX7_fewest 57 = .ok (.iinc 2 1, 3) := by decide +kernel
theorem dX7_fewest_60 : decode cX7_fewest 60 = .ok (.goto (-45), 3) := by decide +kernel
theorem dX7_fewest_63 : decode cX7_fewest 63 = .ok (.iconst (-1), 1) := by decide +kernel
theorem dX7_fewest_64 : decode cX7_fewest 64 = .ok (.ireturn, 1) := by decide +kernel
theorem dX7_best_0 : decode cX7_best 0 = .ok (.aload_n 0, 1) := by decide +kernel
theorem dX7_best_1 : decode cX7_best 1 = .ok (.iload_n 1, 1) := by decide +kernel
theorem dX7_best_2 : decode cX7_best 2 = .ok (.invokevirtual 177, 3) := by decide +kernel
theorem dX7_best_5 : decode cX7_best 5 = .ok (.ifCond .eq 12, 3) := by decide +kernel
theorem dX7_best_8 : decode cX7_best 8 = .ok (.iload_n 2, 1) := by decide +kernel
theorem dX7_best_9 : decode cX7_best 9 = .ok (.ifCond .lt 8, 3) := by decide +kernel
theorem dX7_best_12 : decode cX7_best 12 = .ok (.iload_n 2, 1) := by decide +kernel
theorem dX7_best_13 : decode cX7_best 13 = .ok (.iconst 1, 1) := by decide +kernel
theorem dX7_best_14 : decode cX7_best 14 = .ok (.if_icmp .le 5, 3) := by decide +kernel
theorem dX7_best_17 : decode cX7_best 17 = .ok (.iconst (-1), 1) := by decide +kernel
theorem dX7_best_18 : decode cX7_best 18 = .ok (.ireturn, 1) := by decide +kernel
theorem dX7_best_19 : decode cX7_best 19 = .ok (.iconst 0, 1) := by decide +kernel
theorem dX7_best_20 : decode cX7_best 20 = .ok (.istore_n 3, 1) := by decide +kernel
theorem dX7_best_21 : decode cX7_best 21 = .ok (.iconst (-1), 1) := by decide +kernel
theorem dX7_best_22 : decode cX7_best 22 = .ok (.istore 4, 2) := by decide +kernel
theorem dX7_best_24 : decode cX7_best 24 = .ok (.iconst 0, 1) := by decide +kernel
theorem dX7_best_25 : decode cX7_best 25 = .ok (.istore 5, 2) := by decide +kernel
theorem dX7_best_27 : decode cX7_best 27 = .ok (.iload 5, 2) := by decide +kernel
theorem dX7_best_29 : decode cX7_best 29 = .ok (.aload_n 0, 1) := by decide +kernel
theorem dX7_best_30 : decode cX7_best 30 = .ok (.getfield 19, 3) := by decide +kernel
theorem dX7_best_33 : decode cX7_best 33 = .ok (.getfield 94, 3) := by decide +kernel
theorem dX7_best_36 : decode cX7_best 36 = .ok (.if_icmp .ge 54, 3) := by decide +kernel
theorem dX7_best_39 : decode cX7_best 39 = .ok (.iload 4, 2) := by decide +kernel
theorem dX7_best_41 : decode cX7_best 41 = .ok (.sipush 200, 3) := by decide +kernel
theorem dX7_best_44 : decode cX7_best 44 = .ok (.if_icmp .ge 46, 3) := by decide +kernel
theorem dX7_best_47 : decode cX7_best 47 = .ok (.aload_n 0, 1) := by decide +kernel
theorem dX7_best_48 : decode cX7_best 48 = .ok (.aload_n 0, 1) := by decide +kernel
theorem dX7_best_49 : decode cX7_best 49 = .ok (.getfield 19, 3) := by decide +kernel
theorem dX7_best_52 : decode cX7_best 52 = .ok (.iload 5, 2) := by decide +kernel
theorem dX7_best_54 : decode cX7_best 54 = .ok (.iload_n 1, 1) := by decide +kernel
theorem dX7_best_55 : decode cX7_best 55 = .ok (.invokevirtual 180, 3) := by decide +kernel
theorem dX7_best_58 : decode cX7_best 58 = .ok (.aload_n 0, 1) := by decide +kernel
theorem dX7_best_59 : decode cX7_best 59 = .ok (.getfield 19, 3) := by decide +kernel
theorem dX7_best_62 : decode cX7_best 62 = .ok (.getfield 143, 3) := by decide +kernel
theorem dX7_best_65 : decode cX7_best 65 = .ok (.invokevirtual 184, 3) := by decide +kernel
theorem dX7_best_68 : decode cX7_best 68 = .ok (.istore 6, 2) := by decide +kernel
theorem dX7_best_70 : decode cX7_best 70 = .ok (.iload 6, 2) := by decide +kernel
theorem dX7_best_72 : decode cX7_best 72 = .ok (.iload 4, 2) := by decide +kernel
theorem dX7_best_74 : decode cX7_best 74 = .ok (.if_icmp .le 10, 3) := by decide +kernel
theorem dX7_best_77 : decode cX7_best 77 = .ok (.iload 6, 2) := by decide +kernel
theorem dX7_best_79 : decode cX7_best 79 = .ok (.istore 4, 2) := by decide +kernel
theorem dX7_best_81 : decode cX7_best 81 = .ok (.iload 5, 2) := by decide +kernel
theorem dX7_best_83 : decode cX7_best 83 = .ok (.istore_n 3, 1) := by decide +kernel
theorem dX7_best_84 : decode cX7_best 84 = .ok (.iinc 5 1, 3) := by decide +kernel
theorem dX7_best_87 : decode cX7_best 87 = .ok (.goto (-60), 3) := by decide +kernel
theorem dX7_best_90 : decode cX7_best 90 = .ok (.iload_n 2, 1) := by decide +kernel
theorem dX7_best_91 : decode cX7_best 91 = .ok (.ifCond .ne 7, 3) := by decide +kernel
theorem dX7_best_94 : decode cX7_best 94 = .ok (.iload_n 3, 1) := by decide +kernel
theorem dX7_best_95 : decode cX7_best 95 = .ok (.goto 5, 3) := by decide +kernel
theorem dX7_best_98 : decode cX7_best 98 = .ok (.iload 4, 2) := by decide +kernel
theorem dX7_best_100 : decode cX7_best 100 = .ok (.ireturn, 1) := by decide +kernel
theorem dX7_jumps_0 : decode cX7_jumps 0 = .ok (.aload_n 0, 1) := by decide +kernel
theorem dX7_jumps_1 : decode cX7_jumps 1 = .ok (.getfield 19, 3) := by decide +kernel
theorem dX7_jumps_4 : decode cX7_jumps 4 = .ok (.iload_n 1, 1) := by decide +kernel
theorem dX7_jumps_5 : decode cX7_jumps 5 = .ok (.invokevirtual 125, 3) := by decide +kernel
theorem dX7_jumps_8 : decode cX7_jumps 8 = .ok (.ifCond .eq 22, 3) := by decide +kernel
theorem dX7_jumps_11 : decode cX7_jumps 11 = .ok (.aload_n 0, 1) := by decide +kernel
theorem dX7_jumps_12 : decode cX7_jumps 12 = .ok (.iload_n 2, 1) := by decide +kernel
theorem dX7_jumps_13 : decode cX7_jumps 13 = .ok (.invokevirtual 177, 3) := by decide +kernel
theorem dX7_jumps_16 : decode cX7_jumps 16 = .ok (.ifCond .eq 14, 3) := by decide +kernel
theorem dX7_jumps_19 : decode cX7_jumps 19 = .ok (.aload_n 0, 1) := by decide +kernel
theorem dX7_jumps_20 : decode cX7_jumps 20 = .ok (.getfield 19, 3) := by decide +kernel
theorem dX7_jumps_23 : decode cX7_jumps 23 = .ok (.iload_n 3, 1) := by decide +kernel
theorem dX7_jumps_24 : decode cX7_jumps 24 = .ok (.invokevirtual 125, 3) := by decide +kernel
theorem dX7_jumps_27 : decode cX7_jumps 27 = .ok (.ifCond .ne 5, 3) := by decide +kernel
theorem dX7_jumps_30 : decode cX7_jumps 30 = .ok (.iconst (-1), 1) := by decide +kernel
theorem dX7_jumps_31 : decode cX7_jumps 31 = .ok (.ireturn, 1) := by decide +kernel
theorem dX7_jumps_32 : decode cX7_jumps 32 = .ok (.aload_n 0, 1) := by decide +kernel
theorem dX7_jumps_33 : decode cX7_jumps 33 = .ok (.getfield 19, 3) := by decide +kernel
theorem dX7_jumps_36 : decode cX7_jumps 36 = .ok (.iload_n 1, 1) := by decide +kernel
theorem dX7_jumps_37 : decode cX7_jumps 37 = .ok (.iload_n 2, 1) := by decide +kernel
theorem dX7_jumps_38 : decode cX7_jumps 38 = .ok (.invokevirtual 180, 3) := by decide +kernel
theorem dX7_jumps_41 : decode cX7_jumps 41 = .ok (.lstore 4, 2) := by decide +kernel
theorem dX7_jumps_43 : decode cX7_jumps 43 = .ok (.aload_n 0, 1) := by decide +kernel
theorem dX7_jumps_44 : decode cX7_jumps 44 = .ok (.lload 4, 2) := by decide +kernel
theorem dX7_jumps_46 : decode cX7_jumps 46 = .ok (.aload_n 0, 1) := by decide +kernel
theorem dX7_jumps_47 : decode cX7_jumps 47 = .ok (.getfield 19, 3) := by decide +kernel
theorem dX7_jumps_50 : decode cX7_jumps 50 = .ok (.getfield 143, 3) := by decide +kernel
theorem dX7_jumps_53 : decode cX7_jumps 53 = .ok (.invokevirtual 184, 3) := by decide +kernel
theorem dX7_jumps_56 : decode cX7_jumps 56 = .ok (.sipush 200, 3) := by decide +kernel
theorem dX7_jumps_59 : decode cX7_jumps 59 = .ok (.if_icmp .ge 5, 3) := by decide +kernel
theorem dX7_jumps_62 : decode cX7_jumps 62 = .ok (.iconst (-1), 1) := by decide +kernel
theorem dX7_jumps_63 : decode cX7_jumps 63 = .ok (.ireturn, 1) := by decide +kernel
theorem dX7_jumps_64 : decode cX7_jumps 64 = .ok (.bipush 9, 2) := by decide +kernel
theorem dX7_jumps_66 : decode cX7_jumps 66 = .ok (.istore 6, 2) := by decide +kernel
theorem dX7_jumps_68 : decode cX7_jumps 68 = .ok (.iload 6, 2) := by decide +kernel
theorem dX7_jumps_70 : decode cX7_jumps 70 = .ok (.ifCond .le 42, 3) := by decide +kernel
theorem dX7_jumps_73 : decode cX7_jumps 73 = .ok (.aload_n 0, 1) := by decide +kernel
theorem dX7_jumps_74 : decode cX7_jumps 74 = .ok (.lload 4, 2) := by decide +kernel
theorem dX7_jumps_76 : decode cX7_jumps 76 = .ok (.aload_n 0, 1) := by decide +kernel
theorem dX7_jumps_77 : decode cX7_jumps 77 = .ok (.getfield 19, 3) := by decide +kernel
theorem dX7_jumps_80 : decode cX7_jumps 80 = .ok (.getfield 143, 3) := by decide +kernel
theorem dX7_jumps_83 : decode cX7_jumps 83 = .ok (.aload_n 0, 1) := by decide +kernel
theorem dX7_jumps_84 : decode cX7_jumps 84 = .ok (.getfield 19, 3) := by decide +kernel
theorem dX7_jumps_87 : decode cX7_jumps 87 = .ok (.iload_n 3, 1) := by decide +kernel
theorem dX7_jumps_88 : decode cX7_jumps 88 = .ok (.iload 6, 2) := by decide +kernel
theorem dX7_jumps_90 : decode cX7_jumps 90 = .ok (.invokevirtual 180, 3) := by decide +kernel
theorem dX7_jumps_93 : decode cX7_jumps 93 = .ok (.lor, 1) := by decide +kernel
theorem dX7_jumps_94 : decode cX7_jumps 94 = .ok (.invokevirtual 184, 3) := by decide +kernel
theorem dX7_jumps_97 : decode cX7_jumps 97 = .ok (.sipush 200, 3) := by decide +kernel
theorem dX7_jumps_100 : decode cX7_jumps 100 = .ok (.if_icmp .ne 6, 3) := by decide +kernel
theorem dX7_jumps_103 : decode cX7_jumps 103 = .ok (.iload 6, 2) := by decide +kernel
theorem dX7_jumps_105 : decode cX7_jumps 105 = .ok (.ireturn, 1) := by decide +kernel
theorem dX7_jumps_106 : decode cX7_jumps 106 = .ok (.iinc 6 (-1), 3) := by decide +kernel
theorem dX7_jumps_109 : decode cX7_jumps 109 = .ok (.goto (-41), 3) := by decide +kernel
theorem dX7_jumps_112 : decode cX7_jumps 112 = .ok (.iconst 0, 1) := by decide +kernel
theorem dX7_jumps_113 : decode cX7_jumps 113 = .ok (.ireturn, 1) := by decide +kernel
theorem dX7_meet_0 : decode cX7_meet 0 = .ok (.aload_n 0, 1) := by decide +kernel
theorem dX7_meet_1 : decode cX7_meet 1 = .ok (.getfield 19, 3) := by decide +kernel
theorem dX7_meet_4 : decode cX7_meet 4 = .ok (.iload_n 1, 1) := by decide +kernel
theorem dX7_meet_5 : decode cX7_meet 5 = .ok (.invokevirtual 125, 3) := by decide +kernel
theorem dX7_meet_8 : decode cX7_meet 8 = .ok (.ifCond .eq 22, 3) := by decide +kernel
theorem dX7_meet_11 : decode cX7_meet 11 = .ok (.aload_n 0, 1) := by decide +kernel
theorem dX7_meet_12 : decode cX7_meet 12 = .ok (.getfield 19, 3) := by decide +kernel
theorem dX7_meet_15 : decode cX7_meet 15 = .ok (.iload_n 2, 1) := by decide +kernel
theorem dX7_meet_16 : decode cX7_meet 16 = .ok (.invokevirtual 125, 3) := by decide +kernel
theorem dX7_meet_19 : decode cX7_meet 19 = .ok (.ifCond .eq 11, 3) := by decide +kernel
theorem dX7_meet_22 : decode cX7_meet 22 = .ok (.aload_n 0, 1) := by decide +kernel
theorem dX7_meet_23 : decode cX7_meet 23 = .ok (.iload_n 3, 1) := by decide +kernel
theorem dX7_meet_24 : decode cX7_meet 24 = .ok (.invokevirtual 177, 3) := by decide +kernel
theorem dX7_meet_27 : decode cX7_meet 27 = .ok (.ifCond .ne 5, 3) := by decide +kernel
theorem dX7_meet_30 : decode cX7_meet 30 = .ok (.iconst (-1), 1) := by decide +kernel
theorem dX7_meet_31 : decode cX7_meet 31 = .ok (.ireturn, 1) := by decide +kernel
theorem dX7_meet_32 : decode cX7_meet 32 = .ok (.aload_n 0, 1) := by decide +kernel
theorem dX7_meet_33 : decode cX7_meet 33 = .ok (.getfield 42, 3) := by decide +kernel
theorem dX7_meet_36 : decode cX7_meet 36 = .ok (.invokevirtual 88, 3) := by decide +kernel
theorem dX7_meet_39 : decode cX7_meet 39 = .ok (.aload_n 0, 1) := by decide +kernel
theorem dX7_meet_40 : decode cX7_meet 40 = .ok (.getfield 42, 3) := by decide +kernel
theorem dX7_meet_43 : decode cX7_meet 43 = .ok (.aload_n 0, 1) := by decide +kernel
theorem dX7_meet_44 : decode cX7_meet 44 = .ok (.getfield 19, 3) := by decide +kernel
theorem dX7_meet_47 : decode cX7_meet 47 = .ok (.aload_n 0, 1) := by decide +kernel
theorem dX7_meet_48 : decode cX7_meet 48 = .ok (.getfield 19, 3) := by decide +kernel
theorem dX7_meet_51 : decode cX7_meet 51 = .ok (.iload_n 1, 1) := by decide +kernel
theorem dX7_meet_52 : decode cX7_meet 52 = .ok (.iload_n 3, 1) := by decide +kernel
theorem dX7_meet_53 : decode cX7_meet 53 = .ok (.invokevirtual 180, 3) := by decide +kernel
theorem dX7_meet_56 : decode cX7_meet 56 = .ok (.aload_n 0, 1) := by decide +kernel
theorem dX7_meet_57 : decode cX7_meet 57 = .ok (.getfield 19, 3) := by decide +kernel
theorem dX7_meet_60 : decode cX7_meet 60 = .ok (.iload_n 2, 1) := by decide +kernel
theorem dX7_meet_61 : decode cX7_meet 61 = .ok (.iload_n 3, 1) := by decide +kernel
theorem dX7_meet_62 : decode cX7_meet 62 = .ok (.invokevirtual 180, 3) := by decide +kernel
theorem dX7_meet_65 : decode cX7_meet 65 = .ok (.lor, 1) := by decide +kernel
theorem dX7_meet_66 : decode cX7_meet 66 = .ok (.invokevirtual 107, 3) := by decide +kernel
theorem dX7_meet_69 : decode cX7_meet 69 = .ok (.pop, 1) := by decide +kernel
theorem dX7_meet_70 : decode cX7_meet 70 = .ok (.iconst 0, 1) := by decide +kernel
theorem dX7_meet_71 : decode cX7_meet 71 = .ok (.istore 4, 2) := by decide +kernel
theorem dX7_meet_73 : decode cX7_meet 73 = .ok (.iload 4, 2) := by decide +kernel
theorem dX7_meet_75 : decode cX7_meet 75 = .ok (.bipush 60, 2) := by decide +kernel
theorem dX7_meet_77 : decode cX7_meet 77 = .ok (.if_icmp .ge 28, 3) := by decide +kernel
theorem dX7_meet_80 : decode cX7_meet 80 = .ok (.aload_n 0, 1) := by decide +kernel
theorem dX7_meet_81 : decode cX7_meet 81 = .ok (.getfield 42, 3) := by decide +kernel
theorem dX7_meet_84 : decode cX7_meet 84 = .ok (.aload_n 0, 1) := by decide +kernel
theorem dX7_meet_85 : decode cX7_meet 85 = .ok (.getfield 19, 3) := by decide +kernel
theorem dX7_meet_88 : decode cX7_meet 88 = .ok (.aload_n 0, 1) := by decide +kernel
theorem dX7_meet_89 : decode cX7_meet 89 = .ok (.getfield 19, 3) := by decide +kernel
theorem dX7_meet_92 : decode cX7_meet 92 = .ok (.getfield 143, 3) := by decide +kernel
theorem dX7_meet_95 : decode cX7_meet 95 = .ok (.invokevirtual 170, 3) := by decide +kernel
theorem dX7_meet_98 : decode cX7_meet 98 = .ok (.pop2, 1) := by decide +kernel
theorem dX7_meet_99 : decode cX7_meet 99 = .ok (.iinc 4 1, 3) := by decide +kernel
theorem dX7_meet_102 : decode cX7_meet 102 = .ok (.goto (-29), 3) := by decide +kernel
theorem dX7_meet_105 : decode cX7_meet 105 = .ok (.aload_n 0, 1) := by decide +kernel
theorem dX7_meet_106 : decode cX7_meet 106 = .ok (.getfield 19, 3) := by decide +kernel
theorem dX7_meet_109 : decode cX7_meet 109 = .ok (.aload_n 0, 1) := by decide +kernel
theorem dX7_meet_110 : decode cX7_meet 110 = .ok (.getfield 42, 3) := by decide +kernel
theorem dX7_meet_113 : decode cX7_meet 113 = .ok (.getfield 157, 3) := by decide +kernel
theorem dX7_meet_116 : decode cX7_meet 116 = .ok (.invokevirtual 163, 3) := by decide +kernel
theorem dX7_meet_119 : decode cX7_meet 119 = .ok (.ireturn, 1) := by decide +kernel
theorem dX7_odds_0 : decode cX7_odds 0 = .ok (.iload_n 1, 1) := by decide +kernel
theorem dX7_odds_1 : decode cX7_odds 1 = .ok (.ifCond .lt 18, 3) := by decide +kernel
theorem dX7_odds_4 : decode cX7_odds 4 = .ok (.iload_n 1, 1) := by decide +kernel
theorem dX7_odds_5 : decode cX7_odds 5 = .ok (.bipush 40, 2) := by decide +kernel
theorem dX7_odds_7 : decode cX7_odds 7 = .ok (.if_icmp .gt 12, 3) := by decide +kernel
theorem dX7_odds_10 : decode cX7_odds 10 = .ok (.iload_n 2, 1) := by decide +kernel
theorem dX7_odds_11 : decode cX7_odds 11 = .ok (.ifCond .lt 8, 3) := by decide +kernel
theorem dX7_odds_14 : decode cX7_odds 14 = .ok (.iload_n 2, 1) := by decide +kernel
theorem dX7_odds_15 : decode cX7_odds 15 = .ok (.iconst 1, 1) := by decide +kernel
theorem dX7_odds_16 : decode cX7_odds 16 = .ok (.if_icmp .le 7, 3) := by decide +kernel
theorem dX7_odds_19 : decode cX7_odds 19 = .ok (.ldc2_w 188, 3) := by decide +kernel
theorem dX7_odds_22 : decode cX7_odds 22 = .ok (.lreturn, 1) := by decide +kernel
theorem dX7_odds_23 : decode cX7_odds 23 = .ok (.aload_n 0, 1) := by decide +kernel
theorem dX7_odds_24 : decode cX7_odds 24 = .ok (.invokevirtual 190, 3) := by decide +kernel
theorem dX7_odds_27 : decode cX7_odds 27 = .ok (.istore_n 3, 1) := by decide +kernel
theorem dX7_odds_28 : decode cX7_odds 28 = .ok (.iload_n 3, 1) := by decide +kernel
theorem dX7_odds_29 : decode cX7_odds 29 = .ok (.bipush 15, 2) := by decide +kernel
theorem dX7_odds_31 : decode cX7_odds 31 = .ok (.if_icmp .le 7, 3) := by decide +kernel
theorem dX7_odds_34 : decode cX7_odds 34 = .ok (.ldc2_w 194, 3) := by decide +kernel
theorem dX7_odds_37 : decode cX7_odds 37 = .ok (.lreturn, 1) := by decide +kernel
theorem dX7_odds_38 : decode cX7_odds 38 = .ok (.aload_n 0, 1) := by decide +kernel
theorem dX7_odds_39 : decode cX7_odds 39 = .ok (.iload_n 1, 1) := by decide +kernel
theorem dX7_odds_40 : decode cX7_odds 40 = .ok (.iload_n 3, 1) := by decide +kernel
theorem dX7_odds_41 : decode cX7_odds 41 = .ok (.invokevirtual 196, 3) := by decide +kernel
theorem dX7_odds_44 : decode cX7_odds 44 = .ok (.lstore 4, 2) := by decide +kernel
theorem dX7_odds_46 : decode cX7_odds 46 = .ok (.lconst 1, 1) := by decide +kernel
theorem dX7_odds_47 : decode cX7_odds 47 = .ok (.lstore 6, 2) := by decide +kernel
theorem dX7_odds_49 : decode cX7_odds 49 = .ok (.iconst 0, 1) := by decide +kernel
theorem dX7_odds_50 : decode cX7_odds 50 = .ok (.istore 8, 2) := by decide +kernel
theorem dX7_odds_52 : decode cX7_odds 52 = .ok (.iload 8, 2) := by decide +kernel
theorem dX7_odds_54 : decode cX7_odds 54 = .ok (.iload_n 3, 1) := by decide +kernel
theorem dX7_odds_55 : decode cX7_odds 55 = .ok (.if_icmp .ge 17, 3) := by decide +kernel
theorem dX7_odds_58 : decode cX7_odds 58 = .ok (.lload 6, 2) := by decide +kernel
theorem dX7_odds_60 : decode cX7_odds 60 = .ok (.ldc2_w 199, 3) := by decide +kernel
theorem dX7_odds_63 : decode cX7_odds 63 = .ok (.lmul, 1) := by decide +kernel
theorem dX7_odds_64 : decode cX7_odds 64 = .ok (.lstore 6, 2) := by decide +kernel
theorem dX7_odds_66 : decode cX7_odds 66 = .ok (.iinc 8 1, 3) := by decide +kernel
theorem dX7_odds_69 : decode cX7_odds 69 = .ok (.goto (-17), 3) := by decide +kernel
theorem dX7_odds_72 : decode cX7_odds 72 = .ok (.lload 4, 2) := by decide +kernel
theorem dX7_odds_74 : decode cX7_odds 74 = .ok (.lload 6, 2) := by decide +kernel
theorem dX7_odds_76 : decode cX7_odds 76 = .ok (.invokestatic 201, 3) := by decide +kernel
theorem dX7_odds_79 : decode cX7_odds 79 = .ok (.lstore 8, 2) := by decide +kernel
theorem dX7_odds_81 : decode cX7_odds 81 = .ok (.lload 8, 2) := by decide +kernel
theorem dX7_odds_83 : decode cX7_odds 83 = .ok (.lconst 0, 1) := by decide +kernel
theorem dX7_odds_84 : decode cX7_odds 84 = .ok (.lcmp, 1) := by decide +kernel
theorem dX7_odds_85 : decode cX7_odds 85 = .ok (.ifCond .ne 7, 3) := by decide +kernel
theorem dX7_odds_88 : decode cX7_odds 88 = .ok (.ldc2_w 188, 3) := by decide +kernel
theorem dX7_odds_91 : decode cX7_odds 91 = .ok (.lreturn, 1) := by decide +kernel
theorem dX7_odds_92 : decode cX7_odds 92 = .ok (.iload_n 2, 1) := by decide +kernel
theorem dX7_odds_93 : decode cX7_odds 93 = .ok (.ifCond .ne 11, 3) := by decide +kernel
theorem dX7_odds_96 : decode cX7_odds 96 = .ok (.lload 4, 2) := by decide +kernel
theorem dX7_odds_98 : decode cX7_odds 98 = .ok (.lload 8, 2) := by decide +kernel
theorem dX7_odds_100 : decode cX7_odds 100 = .ok (.ldiv, 1) := by decide +kernel
theorem dX7_odds_101 : decode cX7_odds 101 = .ok (.goto 8, 3) := by decide +kernel
theorem dX7_odds_104 : decode cX7_odds 104 = .ok (.lload 6, 2) := by decide +kernel
theorem dX7_odds_106 : decode cX7_odds 106 = .ok (.lload 8, 2) := by decide +kernel
theorem dX7_odds_108 : decode cX7_odds 108 = .ok (.ldiv, 1) := by decide +kernel
theorem dX7_odds_109 : decode cX7_odds 109 = .ok (.lreturn, 1) := by decide +kernel
theorem dX7_film_0 : decode cX7_film 0 = .ok (.iload_n 1, 1) := by decide +kernel
theorem dX7_film_1 : decode cX7_film 1 = .ok (.ifCond .lt 27, 3) := by decide +kernel
theorem dX7_film_4 : decode cX7_film 4 = .ok (.iload_n 1, 1) := by decide +kernel
theorem dX7_film_5 : decode cX7_film 5 = .ok (.bipush 40, 2) := by decide +kernel
theorem dX7_film_7 : decode cX7_film 7 = .ok (.if_icmp .ge 21, 3) := by decide +kernel
theorem dX7_film_10 : decode cX7_film 10 = .ok (.lload_n 2, 1) := by decide +kernel
theorem dX7_film_11 : decode cX7_film 11 = .ok (.aload_n 0, 1) := by decide +kernel
theorem dX7_film_12 : decode cX7_film 12 = .ok (.getfield 19, 3) := by decide +kernel
theorem dX7_film_15 : decode cX7_film 15 = .ok (.invokevirtual 205, 3) := by decide +kernel
theorem dX7_film_18 : decode cX7_film 18 = .ok (.ldc2_w 188, 3) := by decide +kernel
theorem dX7_film_21 : decode cX7_film 21 = .ok (.lxor, 1) := by decide +kernel
theorem dX7_film_22 : decode cX7_film 22 = .ok (.land, 1) := by decide +kernel
theorem dX7_film_23 : decode cX7_film 23 = .ok (.lconst 0, 1) := by decide +kernel
theorem dX7_film_24 : decode cX7_film 24 = .ok (.lcmp, 1) := by decide +kernel
theorem dX7_film_25 : decode cX7_film 25 = .ok (.ifCond .eq 5, 3) := by decide +kernel
theorem dX7_film_28 : decode cX7_film 28 = .ok (.iconst (-1), 1) := by decide +kernel
theorem dX7_film_29 : decode cX7_film 29 = .ok (.ireturn, 1) := by decide +kernel
theorem dX7_film_30 : decode cX7_film 30 = .ok (.aload_n 0, 1) := by decide +kernel
theorem dX7_film_31 : decode cX7_film 31 = .ok (.getfield 56, 3) := by decide +kernel
theorem dX7_film_34 : decode cX7_film 34 = .ok (.iload_n 1, 1) := by decide +kernel
theorem dX7_film_35 : decode cX7_film 35 = .ok (.lload_n 2, 1) := by decide +kernel
theorem dX7_film_36 : decode cX7_film 36 = .ok (.invokevirtual 209, 3) := by decide +kernel
theorem dX7_film_39 : decode cX7_film 39 = .ok (.ireturn, 1) := by decide +kernel
theorem dX7_untell_0 : decode cX7_untell 0 = .ok (.aload_n 0, 1) := by decide +kernel
theorem dX7_untell_1 : decode cX7_untell 1 = .ok (.getfield 56, 3) := by decide +kernel
theorem dX7_untell_4 : decode cX7_untell 4 = .ok (.iload_n 1, 1) := by decide +kernel
theorem dX7_untell_5 : decode cX7_untell 5 = .ok (.invokevirtual 213, 3) := by decide +kernel
theorem dX7_untell_8 : decode cX7_untell 8 = .ok (.ireturn, 1) := by decide +kernel
theorem dX7_later_0 : decode cX7_later 0 = .ok (.iload_n 1, 1) := by decide +kernel
theorem dX7_later_1 : decode cX7_later 1 = .ok (.ifCond .lt 24, 3) := by decide +kernel
theorem dX7_later_4 : decode cX7_later 4 = .ok (.iload_n 1, 1) := by decide +kernel
theorem dX7_later_5 : decode cX7_later 5 = .ok (.sipush 1000, 3) := by decide +kernel
theorem dX7_later_8 : decode cX7_later 8 = .ok (.if_icmp .gt 17, 3) := by decide +kernel
theorem dX7_later_11 : decode cX7_later 11 = .ok (.iload_n 1, 1) := by decide +kernel
theorem dX7_later_12 : decode cX7_later 12 = .ok (.ldc 216, 2) := by decide +kernel
theorem dX7_later_14 : decode cX7_later 14 = .ok (.aload_n 0, 1) := by decide +kernel
theorem dX7_later_15 : decode cX7_later 15 = .ok (.getfield 56, 3) := by decide +kernel
theorem dX7_later_18 : decode cX7_later 18 = .ok (.getfield 217, 3) := by decide +kernel
theorem dX7_later_21 : decode cX7_later 21 = .ok (.isub, 1) := by decide +kernel
theorem dX7_later_22 : decode cX7_later 22 = .ok (.if_icmp .le 5, 3) := by decide +kernel
theorem dX7_later_25 : decode cX7_later 25 = .ok (.iconst (-1), 1) := by decide +kernel
theorem dX7_later_26 : decode cX7_later 26 = .ok (.ireturn, 1) := by decide +kernel
theorem dX7_later_27 : decode cX7_later 27 = .ok (.aload_n 0, 1) := by decide +kernel
theorem dX7_later_28 : decode cX7_later 28 = .ok (.getfield 56, 3) := by decide +kernel
theorem dX7_later_31 : decode cX7_later 31 = .ok (.dup, 1) := by decide +kernel
theorem dX7_later_32 : decode cX7_later 32 = .ok (.getfield 217, 3) := by decide +kernel
theorem dX7_later_35 : decode cX7_later 35 = .ok (.iload_n 1, 1) := by decide +kernel
theorem dX7_later_36 : decode cX7_later 36 = .ok (.iadd, 1) := by decide +kernel
theorem dX7_later_37 : decode cX7_later 37 = .ok (.putfield 217, 3) := by decide +kernel
theorem dX7_later_40 : decode cX7_later 40 = .ok (.aload_n 0, 1) := by decide +kernel
theorem dX7_later_41 : decode cX7_later 41 = .ok (.getfield 56, 3) := by decide +kernel
theorem dX7_later_44 : decode cX7_later 44 = .ok (.getfield 217, 3) := by decide +kernel
theorem dX7_later_47 : decode cX7_later 47 = .ok (.ireturn, 1) := by decide +kernel
theorem dX7_fits_0 : decode cX7_fits 0 = .ok (.aload_n 0, 1) := by decide +kernel
theorem dX7_fits_1 : decode cX7_fits 1 = .ok (.getfield 56, 3) := by decide +kernel
theorem dX7_fits_4 : decode cX7_fits 4 = .ok (.iload_n 1, 1) := by decide +kernel
theorem dX7_fits_5 : decode cX7_fits 5 = .ok (.invokevirtual 220, 3) := by decide +kernel
theorem dX7_fits_8 : decode cX7_fits 8 = .ok (.iconst 0, 1) := by decide +kernel
theorem dX7_fits_9 : decode cX7_fits 9 = .ok (.istore_n 2, 1) := by decide +kernel
theorem dX7_fits_10 : decode cX7_fits 10 = .ok (.iconst 0, 1) := by decide +kernel
theorem dX7_fits_11 : decode cX7_fits 11 = .ok (.istore_n 3, 1) := by decide +kernel
theorem dX7_fits_12 : decode cX7_fits 12 = .ok (.iload_n 3, 1) := by decide +kernel
theorem dX7_fits_13 : decode cX7_fits 13 = .ok (.sipush 324, 3) := by decide +kernel
theorem dX7_fits_16 : decode cX7_fits 16 = .ok (.if_icmp .ge 20, 3) := by decide +kernel
theorem dX7_fits_19 : decode cX7_fits 19 = .ok (.iload_n 2, 1) := by decide +kernel
theorem dX7_fits_20 : decode cX7_fits 20 = .ok (.aload_n 0, 1) := by decide +kernel
theorem dX7_fits_21 : decode cX7_fits 21 = .ok (.iload_n 3, 1) := by decide +kernel
theorem dX7_fits_22 : decode cX7_fits 22 = .ok (.invokevirtual 223, 3) := by decide +kernel
theorem dX7_fits_25 : decode cX7_fits 25 = .ok (.invokestatic 146, 3) := by decide +kernel
theorem dX7_fits_28 : decode cX7_fits 28 = .ok (.iadd, 1) := by decide +kernel
theorem dX7_fits_29 : decode cX7_fits 29 = .ok (.istore_n 2, 1) := by decide +kernel
theorem dX7_fits_30 : decode cX7_fits 30 = .ok (.iinc 3 1, 3) := by decide +kernel
theorem dX7_fits_33 : decode cX7_fits 33 = .ok (.goto (-21), 3) := by decide +kernel
theorem dX7_fits_36 : decode cX7_fits 36 = .ok (.iload_n 2, 1) := by decide +kernel
theorem dX7_fits_37 : decode cX7_fits 37 = .ok (.ireturn, 1) := by decide +kernel
theorem dX7_fit_0 : decode cX7_fit 0 = .ok (.iload_n 1, 1) := by decide +kernel
theorem dX7_fit_1 : decode cX7_fit 1 = .ok (.ifCond .lt 10, 3) := by decide +kernel
theorem dX7_fit_4 : decode cX7_fit 4 = .ok (.iload_n 1, 1) := by decide +kernel
theorem dX7_fit_5 : decode cX7_fit 5 = .ok (.sipush 324, 3) := by decide +kernel
theorem dX7_fit_8 : decode cX7_fit 8 = .ok (.if_icmp .lt 5, 3) := by decide +kernel
theorem dX7_fit_11 : decode cX7_fit 11 = .ok (.iconst (-1), 1) := by decide +kernel
theorem dX7_fit_12 : decode cX7_fit 12 = .ok (.ireturn, 1) := by decide +kernel
theorem dX7_fit_13 : decode cX7_fit 13 = .ok (.aload_n 0, 1) := by decide +kernel
theorem dX7_fit_14 : decode cX7_fit 14 = .ok (.getfield 56, 3) := by decide +kernel
theorem dX7_fit_17 : decode cX7_fit 17 = .ok (.iload_n 2, 1) := by decide +kernel
theorem dX7_fit_18 : decode cX7_fit 18 = .ok (.invokevirtual 220, 3) := by decide +kernel
theorem dX7_fit_21 : decode cX7_fit 21 = .ok (.iconst 0, 1) := by decide +kernel
theorem dX7_fit_22 : decode cX7_fit 22 = .ok (.istore_n 3, 1) := by decide +kernel
theorem dX7_fit_23 : decode cX7_fit 23 = .ok (.iconst 0, 1) := by decide +kernel
theorem dX7_fit_24 : decode cX7_fit 24 = .ok (.istore 4, 2) := by decide +kernel
theorem dX7_fit_26 : decode cX7_fit 26 = .ok (.iload 4, 2) := by decide +kernel
theorem dX7_fit_28 : decode cX7_fit 28 = .ok (.sipush 324, 3) := by decide +kernel
theorem dX7_fit_31 : decode cX7_fit 31 = .ok (.if_icmp .ge 29, 3) := by decide +kernel
theorem dX7_fit_34 : decode cX7_fit 34 = .ok (.aload_n 0, 1) := by decide +kernel
theorem dX7_fit_35 : decode cX7_fit 35 = .ok (.iload 4, 2) := by decide +kernel
theorem dX7_fit_37 : decode cX7_fit 37 = .ok (.invokevirtual 223, 3) := by decide +kernel
theorem dX7_fit_40 : decode cX7_fit 40 = .ok (.ifCond .eq 14, 3) := by decide +kernel
theorem dX7_fit_43 : decode cX7_fit 43 = .ok (.iload_n 3, 1) := by decide +kernel
theorem dX7_fit_44 : decode cX7_fit 44 = .ok (.iload_n 1, 1) := by decide +kernel
theorem dX7_fit_45 : decode cX7_fit 45 = .ok (.if_icmp .ne 6, 3) := by decide +kernel
theorem dX7_fit_48 : decode cX7_fit 48 = .ok (.iload 4, 2) := by decide +kernel
theorem dX7_fit_50 : decode cX7_fit 50 = .ok (.ireturn, 1) := by decide +kernel
theorem dX7_fit_51 : decode cX7_fit 51 = .ok (.iinc 3 1, 3) := by decide +kernel
theorem dX7_fit_54 : decode cX7_fit 54 = .ok (.iinc 4 1, 3) := by decide +kernel
theorem dX7_fit_57 : decode cX7_fit 57 = .ok (.goto (-31), 3) := by decide +kernel
theorem dX7_fit_60 : decode cX7_fit 60 = .ok (.iconst (-1), 1) := by decide +kernel
theorem dX7_fit_61 : decode cX7_fit 61 = .ok (.ireturn, 1) := by decide +kernel
theorem dX7_sure_0 : decode cX7_sure 0 = .ok (.aload_n 0, 1) := by decide +kernel
theorem dX7_sure_1 : decode cX7_sure 1 = .ok (.getfield 56, 3) := by decide +kernel
theorem dX7_sure_4 : decode cX7_sure 4 = .ok (.iload_n 3, 1) := by decide +kernel
theorem dX7_sure_5 : decode cX7_sure 5 = .ok (.invokevirtual 220, 3) := by decide +kernel
theorem dX7_sure_8 : decode cX7_sure 8 = .ok (.aload_n 0, 1) := by decide +kernel
theorem dX7_sure_9 : decode cX7_sure 9 = .ok (.getfield 19, 3) := by decide +kernel
theorem dX7_sure_12 : decode cX7_sure 12 = .ok (.iload_n 1, 1) := by decide +kernel
theorem dX7_sure_13 : decode cX7_sure 13 = .ok (.invokevirtual 125, 3) := by decide +kernel
theorem dX7_sure_16 : decode cX7_sure 16 = .ok (.ifCond .eq 31, 3) := by decide +kernel
theorem dX7_sure_19 : decode cX7_sure 19 = .ok (.aload_n 0, 1) := by decide +kernel
theorem dX7_sure_20 : decode cX7_sure 20 = .ok (.getfield 56, 3) := by decide +kernel
theorem dX7_sure_23 : decode cX7_sure 23 = .ok (.getfield 226, 3) := by decide +kernel
theorem dX7_sure_26 : decode cX7_sure 26 = .ok (.iconst (-1), 1) := by decide +kernel
theorem dX7_sure_27 : decode cX7_sure 27 = .ok (.if_icmp .eq 20, 3) := by decide +kernel
theorem dX7_sure_30 : decode cX7_sure 30 = .ok (.iload_n 2, 1) := by decide +kernel
theorem dX7_sure_31 : decode cX7_sure 31 = .ok (.aload_n 0, 1) := by decide +kernel
theorem dX7_sure_32 : decode cX7_sure 32 = .ok (.getfield 56, 3) := by decide +kernel
theorem dX7_sure_35 : decode cX7_sure 35 = .ok (.getfield 226, 3) := by decide +kernel
theorem dX7_sure_38 : decode cX7_sure 38 = .ok (.if_icmp .lt 9, 3) := by decide +kernel
theorem dX7_sure_41 : decode cX7_sure 41 = .ok (.iload_n 2, 1) := by decide +kernel
theorem dX7_sure_42 : decode cX7_sure 42 = .ok (.bipush 40, 2) := by decide +kernel
theorem dX7_sure_44 : decode cX7_sure 44 = .ok (.if_icmp .lt 5, 3) := by decide +kernel
theorem dX7_sure_47 : decode cX7_sure 47 = .ok (.iconst (-1), 1) := by decide +kernel
theorem dX7_sure_48 : decode cX7_sure 48 = .ok (.ireturn, 1) := by decide +kernel
theorem dX7_sure_49 : decode cX7_sure 49 = .ok (.iconst 0, 1) := by decide +kernel
theorem dX7_sure_50 : decode cX7_sure 50 = .ok (.istore 4, 2) := by decide +kernel
theorem dX7_sure_52 : decode cX7_sure 52 = .ok (.iconst 0, 1) := by decide +kernel
theorem dX7_sure_53 : decode cX7_sure 53 = .ok (.istore 5, 2) := by decide +kernel
theorem dX7_sure_55 : decode cX7_sure 55 = .ok (.iconst 0, 1) := by decide +kernel
theorem dX7_sure_56 : decode cX7_sure 56 = .ok (.istore 6, 2) := by decide +kernel
theorem dX7_sure_58 : decode cX7_sure 58 = .ok (.iload 6, 2) := by decide +kernel
theorem dX7_sure_60 : decode cX7_sure 60 = .ok (.sipush 324, 3) := by decide +kernel
theorem dX7_sure_63 : decode cX7_sure 63 = .ok (.if_icmp .ge 45, 3) := by decide +kernel
theorem dX7_sure_66 : decode cX7_sure 66 = .ok (.aload_n 0, 1) := by decide +kernel
theorem dX7_sure_67 : decode cX7_sure 67 = .ok (.iload 6, 2) := by decide +kernel
theorem dX7_sure_69 : decode cX7_sure 69 = .ok (.invokevirtual 223, 3) := by decide +kernel
theorem dX7_sure_72 : decode cX7_sure 72 = .ok (.ifCond .eq 30, 3) := by decide +kernel
theorem dX7_sure_75 : decode cX7_sure 75 = .ok (.iinc 4 1, 3) := by decide +kernel
theorem dX7_sure_78 : decode cX7_sure 78 = .ok (.iload 5, 2) := by decide +kernel
theorem dX7_sure_80 : decode cX7_sure 80 = .ok (.aload_n 0, 1) := by decide +kernel
theorem dX7_sure_81 : decode cX7_sure 81 = .ok (.getfield 56, 3) := by decide +kernel
theorem dX7_sure_84 : decode cX7_sure 84 = .ok (.aload_n 0, 1) := by decide +kernel
theorem dX7_sure_85 : decode cX7_sure 85 = .ok (.getfield 65, 3) := by decide +kernel
theorem dX7_sure_88 : decode cX7_sure 88 = .ok (.iload_n 2, 1) := by decide +kernel
theorem dX7_sure_89 : decode cX7_sure 89 = .ok (.invokevirtual 229, 3) := by decide +kernel
theorem dX7_sure_92 : decode cX7_sure 92 = .ok (.iload_n 1, 1) := by decide +kernel
theorem dX7_sure_93 : decode cX7_sure 93 = .ok (.invokestatic 132, 3) := by decide +kernel
theorem dX7_sure_96 : decode cX7_sure 96 = .ok (.invokestatic 146, 3) := by decide +kernel
theorem dX7_sure_99 : decode cX7_sure 99 = .ok (.iadd, 1) := by decide +kernel
theorem dX7_sure_100 : decode cX7_sure 100 = .ok (.istore 5, 2) := by decide +kernel
theorem dX7_sure_102 : decode cX7_sure 102 = .ok (.iinc 6 1, 3) := by decide +kernel
theorem dX7_sure_105 : decode cX7_sure 105 = .ok (.goto (-47), 3) := by decide +kernel
theorem dX7_sure_108 : decode cX7_sure 108 = .ok (.iload 4, 2) := by decide +kernel
theorem dX7_sure_110 : decode cX7_sure 110 = .ok (.ifCond .ne 5, 3) := by decide +kernel
theorem dX7_sure_113 : decode cX7_sure 113 = .ok (.iconst (-1), 1) := by decide +kernel
theorem dX7_sure_114 : decode cX7_sure 114 = .ok (.ireturn, 1) := by decide +kernel
theorem dX7_sure_115 : decode cX7_sure 115 = .ok (.iload 5, 2) := by decide +kernel
theorem dX7_sure_117 : decode cX7_sure 117 = .ok (.iload 4, 2) := by decide +kernel
theorem dX7_sure_119 : decode cX7_sure 119 = .ok (.if_icmp .ne 5, 3) := by decide +kernel
theorem dX7_sure_122 : decode cX7_sure 122 = .ok (.iconst 1, 1) := by decide +kernel
theorem dX7_sure_123 : decode cX7_sure 123 = .ok (.ireturn, 1) := by decide +kernel
theorem dX7_sure_124 : decode cX7_sure 124 = .ok (.iload 5, 2) := by decide +kernel
theorem dX7_sure_126 : decode cX7_sure 126 = .ok (.ifCond .ne 7, 3) := by decide +kernel
theorem dX7_sure_129 : decode cX7_sure 129 = .ok (.iconst 0, 1) := by decide +kernel
theorem dX7_sure_130 : decode cX7_sure 130 = .ok (.goto 4, 3) := by decide +kernel
theorem dX7_sure_133 : decode cX7_sure 133 = .ok (.iconst 2, 1) := by decide +kernel
theorem dX7_sure_134 : decode cX7_sure 134 = .ok (.ireturn, 1) := by decide +kernel
theorem dX7_same_0 : decode cX7_same 0 = .ok (.iload_n 1, 1) := by decide +kernel
theorem dX7_same_1 : decode cX7_same 1 = .ok (.ifCond .lt 21, 3) := by decide +kernel
theorem dX7_same_4 : decode cX7_same 4 = .ok (.iload_n 1, 1) := by decide +kernel
theorem dX7_same_5 : decode cX7_same 5 = .ok (.sipush 324, 3) := by decide +kernel
theorem dX7_same_8 : decode cX7_same 8 = .ok (.if_icmp .ge 14, 3) := by decide +kernel
theorem dX7_same_11 : decode cX7_same 11 = .ok (.iload_n 2, 1) := by decide +kernel
theorem dX7_same_12 : decode cX7_same 12 = .ok (.ifCond .lt 10, 3) := by decide +kernel
theorem dX7_same_15 : decode cX7_same 15 = .ok (.iload_n 2, 1) := by decide +kernel
theorem dX7_same_16 : decode cX7_same 16 = .ok (.sipush 324, 3) := by decide +kernel
theorem dX7_same_19 : decode cX7_same 19 = .ok (.if_icmp .lt 5, 3) := by decide +kernel
theorem dX7_same_22 : decode cX7_same 22 = .ok (.iconst (-1), 1) := by decide +kernel
theorem dX7_same_23 : decode cX7_same 23 = .ok (.ireturn, 1) := by decide +kernel
theorem dX7_same_24 : decode cX7_same 24 = .ok (.aload_n 0, 1) := by decide +kernel
theorem dX7_same_25 : decode cX7_same 25 = .ok (.getfield 65, 3) := by decide +kernel
theorem dX7_same_28 : decode cX7_same 28 = .ok (.iload_n 1, 1) := by decide +kernel
theorem dX7_same_29 : decode cX7_same 29 = .ok (.aload_n 0, 1) := by decide +kernel
theorem dX7_same_30 : decode cX7_same 30 = .ok (.getfield 19, 3) := by decide +kernel
theorem dX7_same_33 : decode cX7_same 33 = .ok (.invokevirtual 233, 3) := by decide +kernel
theorem dX7_same_36 : decode cX7_same 36 = .ok (.aload_n 0, 1) := by decide +kernel
theorem dX7_same_37 : decode cX7_same 37 = .ok (.getfield 69, 3) := by decide +kernel
theorem dX7_same_40 : decode cX7_same 40 = .ok (.iload_n 2, 1) := by decide +kernel
theorem dX7_same_41 : decode cX7_same 41 = .ok (.aload_n 0, 1) := by decide +kernel
theorem dX7_same_42 : decode cX7_same 42 = .ok (.getfield 19, 3) := by decide +kernel
theorem dX7_same_45 : decode cX7_same 45 = .ok (.invokevirtual 233, 3) := by decide +kernel
theorem dX7_same_48 : decode cX7_same 48 = .ok (.iconst 1, 1) := by decide +kernel
theorem dX7_same_49 : decode cX7_same 49 = .ok (.istore_n 3, 1) := by decide +kernel
theorem dX7_same_50 : decode cX7_same 50 = .ok (.iload_n 3, 1) := by decide +kernel
theorem dX7_same_51 : decode cX7_same 51 = .ok (.iconst 3, 1) := by decide +kernel
theorem dX7_same_52 : decode cX7_same 52 = .ok (.if_icmp .gt 61, 3) := by decide +kernel
theorem dX7_same_55 : decode cX7_same 55 = .ok (.iconst 0, 1) := by decide +kernel
theorem dX7_same_56 : decode cX7_same 56 = .ok (.istore 4, 2) := by decide +kernel
theorem dX7_same_58 : decode cX7_same 58 = .ok (.iload 4, 2) := by decide +kernel
theorem dX7_same_60 : decode cX7_same 60 = .ok (.aload_n 0, 1) := by decide +kernel
theorem dX7_same_61 : decode cX7_same 61 = .ok (.getfield 19, 3) := by decide +kernel
theorem dX7_same_64 : decode cX7_same 64 = .ok (.getfield 94, 3) := by decide +kernel
theorem dX7_same_67 : decode cX7_same 67 = .ok (.if_icmp .ge 40, 3) := by decide +kernel
theorem dX7_same_70 : decode cX7_same 70 = .ok (.aload_n 0, 1) := by decide +kernel
theorem dX7_same_71 : decode cX7_same 71 = .ok (.aload_n 0, 1) := by decide +kernel
theorem dX7_same_72 : decode cX7_same 72 = .ok (.getfield 19, 3) := by decide +kernel
theorem dX7_same_75 : decode cX7_same 75 = .ok (.iload 4, 2) := by decide +kernel
theorem dX7_same_77 : decode cX7_same 77 = .ok (.iload_n 3, 1) := by decide +kernel
theorem dX7_same_78 : decode cX7_same 78 = .ok (.invokevirtual 180, 3) := by decide +kernel
theorem dX7_same_81 : decode cX7_same 81 = .ok (.aload_n 0, 1) := by decide +kernel
theorem dX7_same_82 : decode cX7_same 82 = .ok (.getfield 19, 3) := by decide +kernel
theorem dX7_same_85 : decode cX7_same 85 = .ok (.getfield 129, 3) := by decide +kernel
theorem dX7_same_88 : decode cX7_same 88 = .ok (.ldc2_w 188, 3) := by decide +kernel
theorem dX7_same_91 : decode cX7_same 91 = .ok (.lxor, 1) := by decide +kernel
theorem dX7_same_92 : decode cX7_same 92 = .ok (.land, 1) := by decide +kernel
theorem dX7_same_93 : decode cX7_same 93 = .ok (.invokevirtual 237, 3) := by decide +kernel
theorem dX7_same_96 : decode cX7_same 96 = .ok (.ifCond .ne 5, 3) := by decide +kernel
theorem dX7_same_99 : decode cX7_same 99 = .ok (.iconst 0, 1) := by decide +kernel
theorem dX7_same_100 : decode cX7_same 100 = .ok (.ireturn, 1) := by decide +kernel
theorem dX7_same_101 : decode cX7_same 101 = .ok (.iinc 4 1, 3) := by decide +kernel
theorem dX7_same_104 : decode cX7_same 104 = .ok (.goto (-46), 3) := by decide +kernel
theorem dX7_same_107 : decode cX7_same 107 = .ok (.iinc 3 1, 3) := by decide +kernel
theorem dX7_same_110 : decode cX7_same 110 = .ok (.goto (-60), 3) := by decide +kernel
theorem dX7_same_113 : decode cX7_same 113 = .ok (.iconst 1, 1) := by decide +kernel
theorem dX7_same_114 : decode cX7_same 114 = .ok (.ireturn, 1) := by decide +kernel
theorem dX7_image_0 : decode cX7_image 0 = .ok (.aload_n 0, 1) := by decide +kernel
theorem dX7_image_1 : decode cX7_image 1 = .ok (.iload_n 1, 1) := by decide +kernel
theorem dX7_image_2 : decode cX7_image 2 = .ok (.invokevirtual 241, 3) := by decide +kernel
theorem dX7_image_5 : decode cX7_image 5 = .ok (.ifCond .ne 5, 3) := by decide +kernel
theorem dX7_image_8 : decode cX7_image 8 = .ok (.iconst (-1), 1) := by decide +kernel
theorem dX7_image_9 : decode cX7_image 9 = .ok (.ireturn, 1) := by decide +kernel
theorem dX7_image_10 : decode cX7_image 10 = .ok (.aload_n 0, 1) := by decide +kernel
theorem dX7_image_11 : decode cX7_image 11 = .ok (.getfield 45, 3) := by decide +kernel
theorem dX7_image_14 : decode cX7_image 14 = .ok (.iload_n 1, 1) := by decide +kernel
theorem dX7_image_15 : decode cX7_image 15 = .ok (.aaload, 1) := by decide +kernel
theorem dX7_image_16 : decode cX7_image 16 = .ok (.aload_n 0, 1) := by decide +kernel
theorem dX7_image_17 : decode cX7_image 17 = .ok (.getfield 38, 3) := by decide +kernel
theorem dX7_image_20 : decode cX7_image 20 = .ok (.invokevirtual 166, 3) := by decide +kernel
theorem dX7_image_23 : decode cX7_image 23 = .ok (.aload_n 0, 1) := by decide +kernel
theorem dX7_image_24 : decode cX7_image 24 = .ok (.getfield 49, 3) := by decide +kernel
theorem dX7_image_27 : decode cX7_image 27 = .ok (.iload_n 1, 1) := by decide +kernel
theorem dX7_image_28 : decode cX7_image 28 = .ok (.iconst 1, 1) := by decide +kernel
theorem dX7_image_29 : decode cX7_image 29 = .ok (.bastore, 1) := by decide +kernel
theorem dX7_image_30 : decode cX7_image 30 = .ok (.aload_n 0, 1) := by decide +kernel
theorem dX7_image_31 : decode cX7_image 31 = .ok (.getfield 38, 3) := by decide +kernel
theorem dX7_image_34 : decode cX7_image 34 = .ok (.getfield 112, 3) := by decide +kernel
theorem dX7_image_37 : decode cX7_image 37 = .ok (.ireturn, 1) := by decide +kernel
theorem dX7_back_0 : decode cX7_back 0 = .ok (.aload_n 0, 1) := by decide +kernel
theorem dX7_back_1 : decode cX7_back 1 = .ok (.iload_n 1, 1) := by decide +kernel
theorem dX7_back_2 : decode cX7_back 2 = .ok (.invokevirtual 241, 3) := by decide +kernel
theorem dX7_back_5 : decode cX7_back 5 = .ok (.ifCond .eq 12, 3) := by decide +kernel
theorem dX7_back_8 : decode cX7_back 8 = .ok (.aload_n 0, 1) := by decide +kernel
theorem dX7_back_9 : decode cX7_back 9 = .ok (.getfield 49, 3) := by decide +kernel
theorem dX7_back_12 : decode cX7_back 12 = .ok (.iload_n 1, 1) := by decide +kernel
theorem dX7_back_13 : decode cX7_back 13 = .ok (.baload, 1) := by decide +kernel
theorem dX7_back_14 : decode cX7_back 14 = .ok (.ifCond .ne 5, 3) := by decide +kernel
theorem dX7_back_17 : decode cX7_back 17 = .ok (.iconst (-1), 1) := by decide +kernel
theorem dX7_back_18 : decode cX7_back 18 = .ok (.ireturn, 1) := by decide +kernel
theorem dX7_back_19 : decode cX7_back 19 = .ok (.aload_n 0, 1) := by decide +kernel
theorem dX7_back_20 : decode cX7_back 20 = .ok (.getfield 38, 3) := by decide +kernel
theorem dX7_back_23 : decode cX7_back 23 = .ok (.aload_n 0, 1) := by decide +kernel
theorem dX7_back_24 : decode cX7_back 24 = .ok (.getfield 45, 3) := by decide +kernel
theorem dX7_back_27 : decode cX7_back 27 = .ok (.iload_n 1, 1) := by decide +kernel
theorem dX7_back_28 : decode cX7_back 28 = .ok (.aaload, 1) := by decide +kernel
theorem dX7_back_29 : decode cX7_back 29 = .ok (.invokevirtual 166, 3) := by decide +kernel
theorem dX7_back_32 : decode cX7_back 32 = .ok (.aload_n 0, 1) := by decide +kernel
theorem dX7_back_33 : decode cX7_back 33 = .ok (.getfield 38, 3) := by decide +kernel
theorem dX7_back_36 : decode cX7_back 36 = .ok (.getfield 112, 3) := by decide +kernel
theorem dX7_back_39 : decode cX7_back 39 = .ok (.ireturn, 1) := by decide +kernel
theorem dX7_seed_0 : decode cX7_seed 0 = .ok (.aload_n 0, 1) := by decide +kernel
theorem dX7_seed_1 : decode cX7_seed 1 = .ok (.getfield 38, 3) := by decide +kernel
theorem dX7_seed_4 : decode cX7_seed 4 = .ok (.getfield 244, 3) := by decide +kernel
theorem dX7_seed_7 : decode cX7_seed 7 = .ok (.istore_n 2, 1) := by decide +kernel
theorem dX7_seed_8 : decode cX7_seed 8 = .ok (.aload_n 0, 1) := by decide +kernel
theorem dX7_seed_9 : decode cX7_seed 9 = .ok (.getfield 38, 3) := by decide +kernel
theorem dX7_seed_12 : decode cX7_seed 12 = .ok (.iload_n 1, 1) := by decide +kernel
theorem dX7_seed_13 : decode cX7_seed 13 = .ok (.putfield 244, 3) := by decide +kernel
theorem dX7_seed_16 : decode cX7_seed 16 = .ok (.iload_n 2, 1) := by decide +kernel
theorem dX7_seed_17 : decode cX7_seed 17 = .ok (.ireturn, 1) := by decide +kernel
theorem dX7_about_0 : decode cX7_about 0 = .ok (.iload_n 1, 1) := by decide +kernel
theorem dX7_about_1 : decode cX7_about 1 = .ok (.tableswitch 129 0 8 #[51, 59, 67, 75, 86, 94, 102, 110, 118], 51) := by decide +kernel
theorem dX7_about_52 : decode cX7_about 52 = .ok (.aload_n 0, 1) := by decide +kernel
theorem dX7_about_53 : decode cX7_about 53 = .ok (.getfield 19, 3) := by decide +kernel
theorem dX7_about_56 : decode cX7_about 56 = .ok (.getfield 94, 3) := by decide +kernel
theorem dX7_about_59 : decode cX7_about 59 = .ok (.ireturn, 1) := by decide +kernel
theorem dX7_about_60 : decode cX7_about 60 = .ok (.aload_n 0, 1) := by decide +kernel
theorem dX7_about_61 : decode cX7_about 61 = .ok (.getfield 38, 3) := by decide +kernel
theorem dX7_about_64 : decode cX7_about 64 = .ok (.getfield 112, 3) := by decide +kernel
theorem dX7_about_67 : decode cX7_about 67 = .ok (.ireturn, 1) := by decide +kernel
theorem dX7_about_68 : decode cX7_about 68 = .ok (.aload_n 0, 1) := by decide +kernel
theorem dX7_about_69 : decode cX7_about 69 = .ok (.getfield 38, 3) := by decide +kernel
theorem dX7_about_72 : decode cX7_about 72 = .ok (.getfield 247, 3) := by decide +kernel
theorem dX7_about_75 : decode cX7_about 75 = .ok (.ireturn, 1) := by decide +kernel
theorem dX7_about_76 : decode cX7_about 76 = .ok (.aload_n 0, 1) := by decide +kernel
theorem dX7_about_77 : decode cX7_about 77 = .ok (.getfield 38, 3) := by decide +kernel
theorem dX7_about_80 : decode cX7_about 80 = .ok (.getfield 157, 3) := by decide +kernel
theorem dX7_about_83 : decode cX7_about 83 = .ok (.invokestatic 119, 3) := by decide +kernel
theorem dX7_about_86 : decode cX7_about 86 = .ok (.ireturn, 1) := by decide +kernel
theorem dX7_about_87 : decode cX7_about 87 = .ok (.aload_n 0, 1) := by decide +kernel
theorem dX7_about_88 : decode cX7_about 88 = .ok (.getfield 56, 3) := by decide +kernel
theorem dX7_about_91 : decode cX7_about 91 = .ok (.getfield 250, 3) := by decide +kernel
theorem dX7_about_94 : decode cX7_about 94 = .ok (.ireturn, 1) := by decide +kernel
theorem dX7_about_95 : decode cX7_about 95 = .ok (.aload_n 0, 1) := by decide +kernel
theorem dX7_about_96 : decode cX7_about 96 = .ok (.getfield 56, 3) := by decide +kernel
theorem dX7_about_99 : decode cX7_about 99 = .ok (.getfield 217, 3) := by decide +kernel
theorem dX7_about_102 : decode cX7_about 102 = .ok (.ireturn, 1) := by decide +kernel
theorem dX7_about_103 : decode cX7_about 103 = .ok (.aload_n 0, 1) := by decide +kernel
theorem dX7_about_104 : decode cX7_about 104 = .ok (.getfield 12, 3) := by decide +kernel
theorem dX7_about_107 : decode cX7_about 107 = .ok (.getfield 76, 3) := by decide +kernel
theorem dX7_about_110 : decode cX7_about 110 = .ok (.ireturn, 1) := by decide +kernel
theorem dX7_about_111 : decode cX7_about 111 = .ok (.aload_n 0, 1) := by decide +kernel
theorem dX7_about_112 : decode cX7_about 112 = .ok (.getfield 38, 3) := by decide +kernel
theorem dX7_about_115 : decode cX7_about 115 = .ok (.getfield 244, 3) := by decide +kernel
theorem dX7_about_118 : decode cX7_about 118 = .ok (.ireturn, 1) := by decide +kernel
theorem dX7_about_119 : decode cX7_about 119 = .ok (.aload_n 0, 1) := by decide +kernel
theorem dX7_about_120 : decode cX7_about 120 = .ok (.getfield 19, 3) := by decide +kernel
theorem dX7_about_123 : decode cX7_about 123 = .ok (.getfield 253, 3) := by decide +kernel
theorem dX7_about_126 : decode cX7_about 126 = .ok (.getfield 257, 3) := by decide +kernel
theorem dX7_about_129 : decode cX7_about 129 = .ok (.ireturn, 1) := by decide +kernel
theorem dX7_about_130 : decode cX7_about 130 = .ok (.iconst (-1), 1) := by decide +kernel
theorem dX7_about_131 : decode cX7_about 131 = .ok (.ireturn, 1) := by decide +kernel
theorem dX7_isBox_0 : decode cX7_isBox 0 = .ok (.iload_n 1, 1) := by decide +kernel
theorem dX7_isBox_1 : decode cX7_isBox 1 = .ok (.ifCond .lt 21, 3) := by decide +kernel
theorem dX7_isBox_4 : decode cX7_isBox 4 = .ok (.iload_n 1, 1) := by decide +kernel
theorem dX7_isBox_5 : decode cX7_isBox 5 = .ok (.iconst 3, 1) := by decide +kernel
theorem dX7_isBox_6 : decode cX7_isBox 6 = .ok (.if_icmp .ge 16, 3) := by decide +kernel
theorem dX7_isBox_9 : decode cX7_isBox 9 = .ok (.aload_n 0, 1) := by decide +kernel
theorem dX7_isBox_10 : decode cX7_isBox 10 = .ok (.getfield 45, 3) := by decide +kernel
theorem dX7_isBox_13 : decode cX7_isBox 13 = .ok (.iload_n 1, 1) := by decide +kernel
theorem dX7_isBox_14 : decode cX7_isBox 14 = .ok (.aaload, 1) := by decide +kernel
theorem dX7_isBox_15 : decode cX7_isBox 15 = .ok (.ifnull 7, 3) := by decide +kernel
theorem dX7_isBox_18 : decode cX7_isBox 18 = .ok (.iconst 1, 1) := by decide +kernel
theorem dX7_isBox_19 : decode cX7_isBox 19 = .ok (.goto 4, 3) := by decide +kernel
theorem dX7_isBox_22 : decode cX7_isBox 22 = .ok (.iconst 0, 1) := by decide +kernel
theorem dX7_isBox_23 : decode cX7_isBox 23 = .ok (.ireturn, 1) := by decide +kernel
theorem dX7_canTry_0 : decode cX7_canTry 0 = .ok (.iload_n 1, 1) := by decide +kernel
theorem dX7_canTry_1 : decode cX7_canTry 1 = .ok (.iconst 1, 1) := by decide +kernel
theorem dX7_canTry_2 : decode cX7_canTry 2 = .ok (.if_icmp .lt 24, 3) := by decide +kernel
theorem dX7_canTry_5 : decode cX7_canTry 5 = .ok (.iload_n 1, 1) := by decide +kernel
theorem dX7_canTry_6 : decode cX7_canTry 6 = .ok (.bipush 12, 2) := by decide +kernel
theorem dX7_canTry_8 : decode cX7_canTry 8 = .ok (.if_icmp .gt 18, 3) := by decide +kernel
theorem dX7_canTry_11 : decode cX7_canTry 11 = .ok (.iload_n 1, 1) := by decide +kernel
theorem dX7_canTry_12 : decode cX7_canTry 12 = .ok (.aload_n 0, 1) := by decide +kernel
theorem dX7_canTry_13 : decode cX7_canTry 13 = .ok (.getfield 19, 3) := by decide +kernel
theorem dX7_canTry_16 : decode cX7_canTry 16 = .ok (.getfield 94, 3) := by decide +kernel
theorem dX7_canTry_19 : decode cX7_canTry 19 = .ok (.if_icmp .gt 7, 3) := by decide +kernel
theorem dX7_canTry_22 : decode cX7_canTry 22 = .ok (.iconst 1, 1) := by decide +kernel
theorem dX7_canTry_23 : decode cX7_canTry 23 = .ok (.goto 4, 3) := by decide +kernel
theorem dX7_canTry_26 : decode cX7_canTry 26 = .ok (.iconst 0, 1) := by decide +kernel
theorem dX7_canTry_27 : decode cX7_canTry 27 = .ok (.ireturn, 1) := by decide +kernel
theorem dX7_lifeOf_0 : decode cX7_lifeOf 0 = .ok (.aload_n 0, 1) := by decide +kernel
theorem dX7_lifeOf_1 : decode cX7_lifeOf 1 = .ok (.getfield 42, 3) := by decide +kernel
theorem dX7_lifeOf_4 : decode cX7_lifeOf 4 = .ok (.invokevirtual 88, 3) := by decide +kernel
theorem dX7_lifeOf_7 : decode cX7_lifeOf 7 = .ok (.aload_n 0, 1) := by decide +kernel
theorem dX7_lifeOf_8 : decode cX7_lifeOf 8 = .ok (.getfield 42, 3) := by decide +kernel
theorem dX7_lifeOf_11 : decode cX7_lifeOf 11 = .ok (.aload_n 0, 1) := by decide +kernel
theorem dX7_lifeOf_12 : decode cX7_lifeOf 12 = .ok (.getfield 19, 3) := by decide +kernel
theorem dX7_lifeOf_15 : decode cX7_lifeOf 15 = .ok (.lload_n 1, 1) := by decide +kernel
theorem dX7_lifeOf_16 : decode cX7_lifeOf 16 = .ok (.invokevirtual 107, 3) := by decide +kernel
theorem dX7_lifeOf_19 : decode cX7_lifeOf 19 = .ok (.pop, 1) := by decide +kernel
theorem dX7_lifeOf_20 : decode cX7_lifeOf 20 = .ok (.aload_n 0, 1) := by decide +kernel
theorem dX7_lifeOf_21 : decode cX7_lifeOf 21 = .ok (.getfield 42, 3) := by decide +kernel
theorem dX7_lifeOf_24 : decode cX7_lifeOf 24 = .ok (.aload_n 0, 1) := by decide +kernel
theorem dX7_lifeOf_25 : decode cX7_lifeOf 25 = .ok (.getfield 19, 3) := by decide +kernel
theorem dX7_lifeOf_28 : decode cX7_lifeOf 28 = .ok (.lload_n 3, 1) := by decide +kernel
theorem dX7_lifeOf_29 : decode cX7_lifeOf 29 = .ok (.sipush 200, 3) := by decide +kernel
theorem dX7_lifeOf_32 : decode cX7_lifeOf 32 = .ok (.invokevirtual 173, 3) := by decide +kernel
theorem dX7_lifeOf_35 : decode cX7_lifeOf 35 = .ok (.ireturn, 1) := by decide +kernel
theorem dX7_chancesOfAtLeast_0 : decode cX7_chancesOfAtLeast 0 = .ok (.iconst 0, 1) := by decide +kernel
theorem dX7_chancesOfAtLeast_1 : decode cX7_chancesOfAtLeast 1 = .ok (.istore_n 3, 1) := by decide +kernel
theorem dX7_chancesOfAtLeast_2 : decode cX7_chancesOfAtLeast 2 = .ok (.iload_n 3, 1) := by decide +kernel
theorem dX7_chancesOfAtLeast_3 : decode cX7_chancesOfAtLeast 3 = .ok (.aload_n 0, 1) := by decide +kernel
theorem dX7_chancesOfAtLeast_4 : decode cX7_chancesOfAtLeast 4 = .ok (.getfield 72, 3) := by decide +kernel
theorem dX7_chancesOfAtLeast_7 : decode cX7_chancesOfAtLeast 7 = .ok (.arraylength, 1) := by decide +kernel
theorem dX7_chancesOfAtLeast_8 : decode cX7_chancesOfAtLeast 8 = .ok (.if_icmp .ge 24, 3) := by decide +kernel
theorem dX7_chancesOfAtLeast_11 : decode cX7_chancesOfAtLeast 11 = .ok (.aload_n 0, 1) := by decide +kernel
theorem dX7_chancesOfAtLeast_12 : decode cX7_chancesOfAtLeast 12 = .ok (.getfield 72, 3) := by decide +kernel
theorem dX7_chancesOfAtLeast_15 : decode cX7_chancesOfAtLeast 15 = .ok (.iload_n 3, 1) := by decide +kernel
theorem dX7_chancesOfAtLeast_16 : decode cX7_chancesOfAtLeast 16 = .ok (.iload_n 3, 1) := by decide +kernel
theorem dX7_chancesOfAtLeast_17 : decode cX7_chancesOfAtLeast 17 = .ok (.ifCond .ne 7, 3) := by decide +kernel
theorem dX7_chancesOfAtLeast_20 : decode cX7_chancesOfAtLeast 20 = .ok (.lconst 1, 1) := by decide +kernel
theorem dX7_chancesOfAtLeast_21 : decode cX7_chancesOfAtLeast 21 = .ok (.goto 4, 3) := by decide +kernel
theorem dX7_chancesOfAtLeast_24 : decode cX7_chancesOfAtLeast 24 = .ok (.lconst 0, 1) := by decide +kernel
theorem dX7_chancesOfAtLeast_25 : decode cX7_chancesOfAtLeast 25 = .ok (.lastore, 1) := by decide +kernel
theorem dX7_chancesOfAtLeast_26 : decode cX7_chancesOfAtLeast 26 = .ok (.iinc 3 1, 3) := by decide +kernel
theorem dX7_chancesOfAtLeast_29 : decode cX7_chancesOfAtLeast 29 = .ok (.goto (-27), 3) := by decide +kernel
theorem dX7_chancesOfAtLeast_32 : decode cX7_chancesOfAtLeast 32 = .ok (.iconst 0, 1) := by decide +kernel
theorem dX7_chancesOfAtLeast_33 : decode cX7_chancesOfAtLeast 33 = .ok (.istore_n 3, 1) := by decide +kernel
theorem dX7_chancesOfAtLeast_34 : decode cX7_chancesOfAtLeast 34 = .ok (.iload_n 3, 1) := by decide +kernel
theorem dX7_chancesOfAtLeast_35 : decode cX7_chancesOfAtLeast 35 = .ok (.iload_n 2, 1) := by decide +kernel
theorem dX7_chancesOfAtLeast_36 : decode cX7_chancesOfAtLeast 36 = .ok (.if_icmp .ge 87, 3) := by decide +kernel
theorem dX7_chancesOfAtLeast_39 : decode cX7_chancesOfAtLeast 39 = .ok (.aload_n 0, 1) := by decide +kernel
theorem dX7_chancesOfAtLeast_40 : decode cX7_chancesOfAtLeast 40 = .ok (.getfield 72, 3) := by decide +kernel
theorem dX7_chancesOfAtLeast_43 : decode cX7_chancesOfAtLeast 43 = .ok (.arraylength, 1) := by decide +kernel
theorem dX7_chancesOfAtLeast_44 : decode cX7_chancesOfAtLeast 44 = .ok (.iconst 1, 1) := by decide +kernel
theorem dX7_chancesOfAtLeast_45 : decode cX7_chancesOfAtLeast 45 = .ok (.isub, 1) := by decide +kernel
theorem dX7_chancesOfAtLeast_46 : decode cX7_chancesOfAtLeast 46 = .ok (.istore 4, 2) := by decide +kernel
theorem dX7_chancesOfAtLeast_48 : decode cX7_chancesOfAtLeast 48 = .ok (.iload 4, 2) := by decide +kernel
theorem dX7_chancesOfAtLeast_50 : decode cX7_chancesOfAtLeast 50 = .ok (.ifCond .lt 67, 3) := by decide +kernel
theorem dX7_chancesOfAtLeast_53 : decode cX7_chancesOfAtLeast 53 = .ok (.iload 4, 2) := by decide +kernel
theorem dX7_chancesOfAtLeast_55 : decode cX7_chancesOfAtLeast 55 = .ok (.ifCond .le 15, 3) := by decide +kernel
theorem dX7_chancesOfAtLeast_58 : decode cX7_chancesOfAtLeast 58 = .ok (.aload_n 0, 1) := by decide +kernel
theorem dX7_chancesOfAtLeast_59 : decode cX7_chancesOfAtLeast 59 = .ok (.getfield 72, 3) := by decide +kernel
theorem dX7_chancesOfAtLeast_62 : decode cX7_chancesOfAtLeast 62 = .ok (.iload 4, 2) := by decide +kernel
theorem dX7_chancesOfAtLeast_64 : decode cX7_chancesOfAtLeast 64 = .ok (.iconst 1, 1) := by decide +kernel
theorem dX7_chancesOfAtLeast_65 : decode cX7_chancesOfAtLeast 65 = .ok (.isub, 1) := by decide +kernel
theorem dX7_chancesOfAtLeast_66 : decode cX7_chancesOfAtLeast 66 = .ok (.laload, 1) := by decide +kernel
theorem dX7_chancesOfAtLeast_67 : decode cX7_chancesOfAtLeast 67 = .ok (.goto 4, 3) := by decide +kernel
theorem dX7_chancesOfAtLeast_70 : decode cX7_chancesOfAtLeast 70 = .ok (.lconst 0, 1) := by decide +kernel
theorem dX7_chancesOfAtLeast_71 : decode cX7_chancesOfAtLeast 71 = .ok (.lstore 5, 2) := by decide +kernel
theorem dX7_chancesOfAtLeast_73 : decode cX7_chancesOfAtLeast 73 = .ok (.aload_n 0, 1) := by decide +kernel
theorem dX7_chancesOfAtLeast_74 : decode cX7_chancesOfAtLeast 74 = .ok (.getfield 72, 3) := by decide +kernel
theorem dX7_chancesOfAtLeast_77 : decode cX7_chancesOfAtLeast 77 = .ok (.iload 4, 2) := by decide +kernel
theorem dX7_chancesOfAtLeast_79 : decode cX7_chancesOfAtLeast 79 = .ok (.aload_n 0, 1) := by decide +kernel
theorem dX7_chancesOfAtLeast_80 : decode cX7_chancesOfAtLeast 80 = .ok (.getfield 72, 3) := by decide +kernel
theorem dX7_chancesOfAtLeast_83 : decode cX7_chancesOfAtLeast 83 = .ok (.iload 4, 2) := by decide +kernel
theorem dX7_chancesOfAtLeast_85 : decode cX7_chancesOfAtLeast 85 = .ok (.laload, 1) := by decide +kernel
theorem dX7_chancesOfAtLeast_86 : decode cX7_chancesOfAtLeast 86 = .ok (.aload_n 0, 1) := by decide +kernel
theorem dX7_chancesOfAtLeast_87 : decode cX7_chancesOfAtLeast 87 = .ok (.getfield 19, 3) := by decide +kernel
theorem dX7_chancesOfAtLeast_90 : decode cX7_chancesOfAtLeast 90 = .ok (.getfield 262, 3) := by decide +kernel
theorem dX7_chancesOfAtLeast_93 : decode cX7_chancesOfAtLeast 93 = .ok (.i2l, 1) := by decide +kernel
theorem dX7_chancesOfAtLeast_94 : decode cX7_chancesOfAtLeast 94 = .ok (.lmul, 1) := by decide +kernel
theorem dX7_chancesOfAtLeast_95 : decode cX7_chancesOfAtLeast 95 = .ok (.lload 5, 2) := by decide +kernel
theorem dX7_chancesOfAtLeast_97 : decode cX7_chancesOfAtLeast 97 = .ok (.bipush 10, 2) := by decide +kernel
theorem dX7_chancesOfAtLeast_99 : decode cX7_chancesOfAtLeast 99 = .ok (.aload_n 0, 1) := by decide +kernel
theorem dX7_chancesOfAtLeast_100 : decode cX7_chancesOfAtLeast 100 = .ok (.getfield 19, 3) := by decide +kernel
theorem dX7_chancesOfAtLeast_103 : decode cX7_chancesOfAtLeast 103 = .ok (.getfield 262, 3) := by decide +kernel
theorem dX7_chancesOfAtLeast_106 : decode cX7_chancesOfAtLeast 106 = .ok (.isub, 1) := by decide +kernel
theorem dX7_chancesOfAtLeast_107 : decode cX7_chancesOfAtLeast 107 = .ok (.i2l, 1) := by decide +kernel
theorem dX7_chancesOfAtLeast_108 : decode cX7_chancesOfAtLeast 108 = .ok (.lmul, 1) := by decide +kernel
theorem dX7_chancesOfAtLeast_109 : decode cX7_chancesOfAtLeast 109 = .ok (.ladd, 1) := by decide +kernel
theorem dX7_chancesOfAtLeast_110 : decode cX7_chancesOfAtLeast 110 = .ok (.lastore, 1) := by decide +kernel
theorem dX7_chancesOfAtLeast_111 : decode cX7_chancesOfAtLeast 111 = .ok (.iinc 4 (-1), 3) := by decide +kernel
theorem dX7_chancesOfAtLeast_114 : decode cX7_chancesOfAtLeast 114 = .ok (.goto (-66), 3) := by decide +kernel
theorem dX7_chancesOfAtLeast_117 : decode cX7_chancesOfAtLeast 117 = .ok (.iinc 3 1, 3) := by decide +kernel
theorem dX7_chancesOfAtLeast_120 : decode cX7_chancesOfAtLeast 120 = .ok (.goto (-86), 3) := by decide +kernel
theorem dX7_chancesOfAtLeast_123 : decode cX7_chancesOfAtLeast 123 = .ok (.lconst 0, 1) := by decide +kernel
theorem dX7_chancesOfAtLeast_124 : decode cX7_chancesOfAtLeast 124 = .ok (.lstore_n 3, 1) := by decide +kernel
theorem dX7_chancesOfAtLeast_125 : decode cX7_chancesOfAtLeast 125 = .ok (.iconst 0, 1) := by decide +kernel
theorem dX7_chancesOfAtLeast_126 : decode cX7_chancesOfAtLeast 126 = .ok (.istore 5, 2) := by decide +kernel
theorem dX7_chancesOfAtLeast_128 : decode cX7_chancesOfAtLeast 128 = .ok (.iload 5, 2) := by decide +kernel
theorem dX7_chancesOfAtLeast_130 : decode cX7_chancesOfAtLeast 130 = .ok (.aload_n 0, 1) := by decide +kernel
theorem dX7_chancesOfAtLeast_131 : decode cX7_chancesOfAtLeast 131 = .ok (.getfield 72, 3) := by decide +kernel
theorem dX7_chancesOfAtLeast_134 : decode cX7_chancesOfAtLeast 134 = .ok (.arraylength, 1) := by decide +kernel
theorem dX7_chancesOfAtLeast_135 : decode cX7_chancesOfAtLeast 135 = .ok (.if_icmp .ge 29, 3) := by decide +kernel
theorem dX7_chancesOfAtLeast_138 : decode cX7_chancesOfAtLeast 138 = .ok (.lload_n 3, 1) := by decide +kernel
theorem dX7_chancesOfAtLeast_139 : decode cX7_chancesOfAtLeast 139 = .ok (.iload 5, 2) := by decide +kernel
theorem dX7_chancesOfAtLeast_141 : decode cX7_chancesOfAtLeast 141 = .ok (.iload_n 1, 1) := by decide +kernel
theorem dX7_chancesOfAtLeast_142 : decode cX7_chancesOfAtLeast 142 = .ok (.if_icmp .lt 13, 3) := by decide +kernel
theorem dX7_chancesOfAtLeast_145 : decode cX7_chancesOfAtLeast 145 = .ok (.aload_n 0, 1) := by decide +kernel
theorem dX7_chancesOfAtLeast_146 : decode cX7_chancesOfAtLeast 146 = .ok (.getfield 72, 3) := by decide +kernel
theorem dX7_chancesOfAtLeast_149 : decode cX7_chancesOfAtLeast 149 = .ok (.iload 5, 2) := by decide +kernel
theorem dX7_chancesOfAtLeast_151 : decode cX7_chancesOfAtLeast 151 = .ok (.laload, 1) := by decide +kernel
theorem dX7_chancesOfAtLeast_152 : decode cX7_chancesOfAtLeast 152 = .ok (.goto 4, 3) := by decide +kernel
theorem dX7_chancesOfAtLeast_155 : decode cX7_chancesOfAtLeast 155 = .ok (.lconst 0, 1) := by decide +kernel
theorem dX7_chancesOfAtLeast_156 : decode cX7_chancesOfAtLeast 156 = .ok (.ladd, 1) := by decide +kernel
theorem dX7_chancesOfAtLeast_157 : decode cX7_chancesOfAtLeast 157 = .ok (.lstore_n 3, 1) := by decide +kernel
theorem dX7_chancesOfAtLeast_158 : decode cX7_chancesOfAtLeast 158 = .ok (.iinc 5 1, 3) := by decide +kernel
theorem dX7_chancesOfAtLeast_161 : decode cX7_chancesOfAtLeast 161 = .ok (.goto (-33), 3) := by decide +kernel
theorem dX7_chancesOfAtLeast_164 : decode cX7_chancesOfAtLeast 164 = .ok (.lload_n 3, 1) := by decide +kernel
theorem dX7_chancesOfAtLeast_165 : decode cX7_chancesOfAtLeast 165 = .ok (.lreturn, 1) := by decide +kernel
theorem dX7_greatestDivisor_0 : decode cX7_greatestDivisor 0 = .ok (.lload_n 0, 1) := by decide +kernel
theorem dX7_greatestDivisor_1 : decode cX7_greatestDivisor 1 = .ok (.lstore 4, 2) := by decide +kernel
theorem dX7_greatestDivisor_3 : decode cX7_greatestDivisor 3 = .ok (.lload_n 2, 1) := by decide +kernel
theorem dX7_greatestDivisor_4 : decode cX7_greatestDivisor 4 = .ok (.lstore 6, 2) := by decide +kernel
theorem dX7_greatestDivisor_6 : decode cX7_greatestDivisor 6 = .ok (.iconst 0, 1) := by decide +kernel
theorem dX7_greatestDivisor_7 : decode cX7_greatestDivisor 7 = .ok (.istore 8, 2) := by decide +kernel
theorem dX7_greatestDivisor_9 : decode cX7_greatestDivisor 9 = .ok (.iload 8, 2) := by decide +kernel
theorem dX7_greatestDivisor_11 : decode cX7_greatestDivisor 11 = .ok (.sipush 128, 3) := by decide +kernel
theorem dX7_greatestDivisor_14 : decode cX7_greatestDivisor 14 = .ok (.if_icmp .ge 31, 3) := by decide +kernel
theorem dX7_greatestDivisor_17 : decode cX7_greatestDivisor 17 = .ok (.lload 6, 2) := by decide +kernel
theorem dX7_greatestDivisor_19 : decode cX7_greatestDivisor 19 = .ok (.lconst 0, 1) := by decide +kernel
theorem dX7_greatestDivisor_20 : decode cX7_greatestDivisor 20 = .ok (.lcmp, 1) := by decide +kernel
theorem dX7_greatestDivisor_21 : decode cX7_greatestDivisor 21 = .ok (.ifCond .eq 24, 3) := by decide +kernel
theorem dX7_greatestDivisor_24 : decode cX7_greatestDivisor 24 = .ok (.lload 4, 2) := by decide +kernel
theorem dX7_greatestDivisor_26 : decode cX7_greatestDivisor 26 = .ok (.lload 6, 2) := by decide +kernel
theorem dX7_greatestDivisor_28 : decode cX7_greatestDivisor 28 = .ok (.lrem, 1) := by decide +kernel
theorem dX7_greatestDivisor_29 : decode cX7_greatestDivisor 29 = .ok (.lstore 9, 2) := by decide +kernel
theorem dX7_greatestDivisor_31 : decode cX7_greatestDivisor 31 = .ok (.lload 6, 2) := by decide +kernel
theorem dX7_greatestDivisor_33 : decode cX7_greatestDivisor 33 = .ok (.lstore 4, 2) := by decide +kernel
theorem dX7_greatestDivisor_35 : decode cX7_greatestDivisor 35 = .ok (.lload 9, 2) := by decide +kernel
theorem dX7_greatestDivisor_37 : decode cX7_greatestDivisor 37 = .ok (.lstore 6, 2) := by decide +kernel
theorem dX7_greatestDivisor_39 : decode cX7_greatestDivisor 39 = .ok (.iinc 8 1, 3) := by decide +kernel
theorem dX7_greatestDivisor_42 : decode cX7_greatestDivisor 42 = .ok (.goto (-33), 3) := by decide +kernel
theorem dX7_greatestDivisor_45 : decode cX7_greatestDivisor 45 = .ok (.lload 4, 2) := by decide +kernel
theorem dX7_greatestDivisor_47 : decode cX7_greatestDivisor 47 = .ok (.lreturn, 1) := by decide +kernel
theorem dX7_letByFilms_0 : decode cX7_letByFilms 0 = .ok (.aload_n 0, 1) := by decide +kernel
theorem dX7_letByFilms_1 : decode cX7_letByFilms 1 = .ok (.getfield 65, 3) := by decide +kernel
theorem dX7_letByFilms_4 : decode cX7_letByFilms 4 = .ok (.iload_n 1, 1) := by decide +kernel
theorem dX7_letByFilms_5 : decode cX7_letByFilms 5 = .ok (.aload_n 0, 1) := by decide +kernel
theorem dX7_letByFilms_6 : decode cX7_letByFilms 6 = .ok (.getfield 19, 3) := by decide +kernel
theorem dX7_letByFilms_9 : decode cX7_letByFilms 9 = .ok (.invokevirtual 233, 3) := by decide +kernel
theorem dX7_letByFilms_12 : decode cX7_letByFilms 12 = .ok (.aload_n 0, 1) := by decide +kernel
theorem dX7_letByFilms_13 : decode cX7_letByFilms 13 = .ok (.getfield 56, 3) := by decide +kernel
theorem dX7_letByFilms_16 : decode cX7_letByFilms 16 = .ok (.aload_n 0, 1) := by decide +kernel
theorem dX7_letByFilms_17 : decode cX7_letByFilms 17 = .ok (.getfield 65, 3) := by decide +kernel
theorem dX7_letByFilms_20 : decode cX7_letByFilms 20 = .ok (.invokevirtual 265, 3) := by decide +kernel
theorem dX7_letByFilms_23 : decode cX7_letByFilms 23 = .ok (.ireturn, 1) := by decide +kernel
theorem dX7_goAlike_0 : decode cX7_goAlike 0 = .ok (.aload_n 0, 1) := by decide +kernel
theorem dX7_goAlike_1 : decode cX7_goAlike 1 = .ok (.getfield 65, 3) := by decide +kernel
theorem dX7_goAlike_4 : decode cX7_goAlike 4 = .ok (.lload_n 1, 1) := by decide +kernel
theorem dX7_goAlike_5 : decode cX7_goAlike 5 = .ok (.invokevirtual 269, 3) := by decide +kernel
theorem dX7_goAlike_8 : decode cX7_goAlike 8 = .ok (.aload_n 0, 1) := by decide +kernel
theorem dX7_goAlike_9 : decode cX7_goAlike 9 = .ok (.getfield 69, 3) := by decide +kernel
theorem dX7_goAlike_12 : decode cX7_goAlike 12 = .ok (.lload_n 1, 1) := by decide +kernel
theorem dX7_goAlike_13 : decode cX7_goAlike 13 = .ok (.invokevirtual 269, 3) := by decide +kernel
theorem dX7_goAlike_16 : decode cX7_goAlike 16 = .ok (.iconst 0, 1) := by decide +kernel
theorem dX7_goAlike_17 : decode cX7_goAlike 17 = .ok (.istore_n 3, 1) := by decide +kernel
theorem dX7_goAlike_18 : decode cX7_goAlike 18 = .ok (.iload_n 3, 1) := by decide +kernel
theorem dX7_goAlike_19 : decode cX7_goAlike 19 = .ok (.bipush 60, 2) := by decide +kernel
theorem dX7_goAlike_21 : decode cX7_goAlike 21 = .ok (.if_icmp .ge 43, 3) := by decide +kernel
theorem dX7_goAlike_24 : decode cX7_goAlike 24 = .ok (.aload_n 0, 1) := by decide +kernel
theorem dX7_goAlike_25 : decode cX7_goAlike 25 = .ok (.getfield 65, 3) := by decide +kernel
theorem dX7_goAlike_28 : decode cX7_goAlike 28 = .ok (.invokevirtual 273, 3) := by decide +kernel
theorem dX7_goAlike_31 : decode cX7_goAlike 31 = .ok (.aload_n 0, 1) := by decide +kernel
theorem dX7_goAlike_32 : decode cX7_goAlike 32 = .ok (.getfield 69, 3) := by decide +kernel
theorem dX7_goAlike_35 : decode cX7_goAlike 35 = .ok (.invokevirtual 273, 3) := by decide +kernel
theorem dX7_goAlike_38 : decode cX7_goAlike 38 = .ok (.aload_n 0, 1) := by decide +kernel
theorem dX7_goAlike_39 : decode cX7_goAlike 39 = .ok (.getfield 65, 3) := by decide +kernel
theorem dX7_goAlike_42 : decode cX7_goAlike 42 = .ok (.invokevirtual 276, 3) := by decide +kernel
theorem dX7_goAlike_45 : decode cX7_goAlike 45 = .ok (.aload_n 0, 1) := by decide +kernel
theorem dX7_goAlike_46 : decode cX7_goAlike 46 = .ok (.getfield 69, 3) := by decide +kernel
theorem dX7_goAlike_49 : decode cX7_goAlike 49 = .ok (.invokevirtual 276, 3) := by decide +kernel
theorem dX7_goAlike_52 : decode cX7_goAlike 52 = .ok (.lcmp, 1) := by decide +kernel
theorem dX7_goAlike_53 : decode cX7_goAlike 53 = .ok (.ifCond .eq 5, 3) := by decide +kernel
theorem dX7_goAlike_56 : decode cX7_goAlike 56 = .ok (.iconst 0, 1) := by decide +kernel
theorem dX7_goAlike_57 : decode cX7_goAlike 57 = .ok (.ireturn, 1) := by decide +kernel
theorem dX7_goAlike_58 : decode cX7_goAlike 58 = .ok (.iinc 3 1, 3) := by decide +kernel
theorem dX7_goAlike_61 : decode cX7_goAlike 61 = .ok (.goto (-43), 3) := by decide +kernel
theorem dX7_goAlike_64 : decode cX7_goAlike 64 = .ok (.iconst 1, 1) := by decide +kernel
theorem dX7_goAlike_65 : decode cX7_goAlike 65 = .ok (.ireturn, 1) := by decide +kernel
theorem dX7_holds_0 : decode cX7_holds 0 = .ok (.lload_n 0, 1) := by decide +kernel
theorem dX7_holds_1 : decode cX7_holds 1 = .ok (.iload_n 2, 1) := by decide +kernel
theorem dX7_holds_2 : decode cX7_holds 2 = .ok (.lushr, 1) := by decide +kernel
theorem dX7_holds_3 : decode cX7_holds 3 = .ok (.lconst 1, 1) := by decide +kernel
theorem dX7_holds_4 : decode cX7_holds 4 = .ok (.land, 1) := by decide +kernel
theorem dX7_holds_5 : decode cX7_holds 5 = .ok (.lconst 0, 1) := by decide +kernel
theorem dX7_holds_6 : decode cX7_holds 6 = .ok (.lcmp, 1) := by decide +kernel
theorem dX7_holds_7 : decode cX7_holds 7 = .ok (.ifCond .eq 7, 3) := by decide +kernel
theorem dX7_holds_10 : decode cX7_holds 10 = .ok (.iconst 1, 1) := by decide +kernel
theorem dX7_holds_11 : decode cX7_holds 11 = .ok (.goto 4, 3) := by decide +kernel
theorem dX7_holds_14 : decode cX7_holds 14 = .ok (.iconst 0, 1) := by decide +kernel
theorem dX7_holds_15 : decode cX7_holds 15 = .ok (.ireturn, 1) := by decide +kernel
theorem dX7_oneIf_0 : decode cX7_oneIf 0 = .ok (.iload_n 0, 1) := by decide +kernel
theorem dX7_oneIf_1 : decode cX7_oneIf 1 = .ok (.ifCond .eq 7, 3) := by decide +kernel
theorem dX7_oneIf_4 : decode cX7_oneIf 4 = .ok (.iconst 1, 1) := by decide +kernel
theorem dX7_oneIf_5 : decode cX7_oneIf 5 = .ok (.goto 4, 3) := by decide +kernel
theorem dX7_oneIf_8 : decode cX7_oneIf 8 = .ok (.iconst 0, 1) := by decide +kernel
theorem dX7_oneIf_9 : decode cX7_oneIf 9 = .ok (.ireturn, 1) := by decide +kernel
