theorem dX8_life_31 : decode cX8_life 31 = .ok (.ireturn, 1) := by decide +kernel
theorem dX8_livesBy_0 : decode cX8_livesBy 0 = .ok (.aload_n 0, 1) := by decide +kernel
theorem dX8_livesBy_1 : decode cX8_livesBy 1 = .ok (.invokevirtual 444, 3) := by decide +kernel
theorem dX8_livesBy_4 : decode cX8_livesBy 4 = .ok (.aload_n 0, 1) := by decide +kernel
theorem dX8_livesBy_5 : decode cX8_livesBy 5 = .ok (.invokevirtual 157, 3) := by decide +kernel
theorem dX8_livesBy_8 : decode cX8_livesBy 8 = .ok (.aload_n 0, 1) := by decide +kernel
theorem dX8_livesBy_9 : decode cX8_livesBy 9 = .ok (.iload_n 1, 1) := by decide +kernel
theorem dX8_livesBy_10 : decode cX8_livesBy 10 = .ok (.iload_n 2, 1) := by decide +kernel
theorem dX8_livesBy_11 : decode cX8_livesBy 11 = .ok (.invokevirtual 450, 3) := by decide +kernel
theorem dX8_livesBy_14 : decode cX8_livesBy 14 = .ok (.aload_n 0, 1) := by decide +kernel
theorem dX8_livesBy_15 : decode cX8_livesBy 15 = .ok (.iconst 1, 1) := by decide +kernel
theorem dX8_livesBy_16 : decode cX8_livesBy 16 = .ok (.putfield 384, 3) := by decide +kernel
theorem dX8_livesBy_19 : decode cX8_livesBy 19 = .ok (.iconst 0, 1) := by decide +kernel
theorem dX8_livesBy_20 : decode cX8_livesBy 20 = .ok (.istore 5, 2) := by decide +kernel
theorem dX8_livesBy_22 : decode cX8_livesBy 22 = .ok (.iload 5, 2) := by decide +kernel
theorem dX8_livesBy_24 : decode cX8_livesBy 24 = .ok (.iload 4, 2) := by decide +kernel
theorem dX8_livesBy_26 : decode cX8_livesBy 26 = .ok (.if_icmp .ge 23, 3) := by decide +kernel
theorem dX8_livesBy_29 : decode cX8_livesBy 29 = .ok (.aload_n 0, 1) := by decide +kernel
theorem dX8_livesBy_30 : decode cX8_livesBy 30 = .ok (.getfield 93, 3) := by decide +kernel
theorem dX8_livesBy_33 : decode cX8_livesBy 33 = .ok (.aload_n 0, 1) := by decide +kernel
theorem dX8_livesBy_34 : decode cX8_livesBy 34 = .ok (.iload_n 3, 1) := by decide +kernel
theorem dX8_livesBy_35 : decode cX8_livesBy 35 = .ok (.iload 5, 2) := by decide +kernel
theorem dX8_livesBy_37 : decode cX8_livesBy 37 = .ok (.iadd, 1) := by decide +kernel
theorem dX8_livesBy_38 : decode cX8_livesBy 38 = .ok (.invokevirtual 396, 3) := by decide +kernel
theorem dX8_livesBy_41 : decode cX8_livesBy 41 = .ok (.iconst 1, 1) := by decide +kernel
theorem dX8_livesBy_42 : decode cX8_livesBy 42 = .ok (.bastore, 1) := by decide +kernel
theorem dX8_livesBy_43 : decode cX8_livesBy 43 = .ok (.iinc 5 1, 3) := by decide +kernel
theorem dX8_livesBy_46 : decode cX8_livesBy 46 = .ok (.goto (-24), 3) := by decide +kernel
theorem dX8_livesBy_49 : decode cX8_livesBy 49 = .ok (.aload_n 0, 1) := by decide +kernel
theorem dX8_livesBy_50 : decode cX8_livesBy 50 = .ok (.invokevirtual 453, 3) := by decide +kernel
theorem dX8_livesBy_53 : decode cX8_livesBy 53 = .ok (.istore 5, 2) := by decide +kernel
theorem dX8_livesBy_55 : decode cX8_livesBy 55 = .ok (.aload_n 0, 1) := by decide +kernel
theorem dX8_livesBy_56 : decode cX8_livesBy 56 = .ok (.invokevirtual 447, 3) := by decide +kernel
theorem dX8_livesBy_59 : decode cX8_livesBy 59 = .ok (.iload 5, 2) := by decide +kernel
theorem dX8_livesBy_61 : decode cX8_livesBy 61 = .ok (.ireturn, 1) := by decide +kernel
theorem dX8_isMany_0 : decode cX8_isMany 0 = .ok (.iload_n 1, 1) := by decide +kernel
theorem dX8_isMany_1 : decode cX8_isMany 1 = .ok (.iconst 1, 1) := by decide +kernel
theorem dX8_isMany_2 : decode cX8_isMany 2 = .ok (.if_icmp .lt 21, 3) := by decide +kernel
theorem dX8_isMany_5 : decode cX8_isMany 5 = .ok (.iload_n 1, 1) := by decide +kernel
theorem dX8_isMany_6 : decode cX8_isMany 6 = .ok (.bipush 12, 2) := by decide +kernel
theorem dX8_isMany_8 : decode cX8_isMany 8 = .ok (.if_icmp .gt 15, 3) := by decide +kernel
theorem dX8_isMany_11 : decode cX8_isMany 11 = .ok (.iload_n 1, 1) := by decide +kernel
theorem dX8_isMany_12 : decode cX8_isMany 12 = .ok (.aload_n 0, 1) := by decide +kernel
theorem dX8_isMany_13 : decode cX8_isMany 13 = .ok (.getfield 151, 3) := by decide +kernel
theorem dX8_isMany_16 : decode cX8_isMany 16 = .ok (.if_icmp .gt 7, 3) := by decide +kernel
theorem dX8_isMany_19 : decode cX8_isMany 19 = .ok (.iconst 1, 1) := by decide +kernel
theorem dX8_isMany_20 : decode cX8_isMany 20 = .ok (.goto 4, 3) := by decide +kernel
theorem dX8_isMany_23 : decode cX8_isMany 23 = .ok (.iconst 0, 1) := by decide +kernel
theorem dX8_isMany_24 : decode cX8_isMany 24 = .ok (.ireturn, 1) := by decide +kernel
theorem dX8_lives_0 : decode cX8_lives 0 = .ok (.aload_n 0, 1) := by decide +kernel
theorem dX8_lives_1 : decode cX8_lives 1 = .ok (.iload_n 1, 1) := by decide +kernel
theorem dX8_lives_2 : decode cX8_lives 2 = .ok (.invokevirtual 435, 3) := by decide +kernel
theorem dX8_lives_5 : decode cX8_lives 5 = .ok (.ifCond .eq 22, 3) := by decide +kernel
theorem dX8_lives_8 : decode cX8_lives 8 = .ok (.aload_n 0, 1) := by decide +kernel
theorem dX8_lives_9 : decode cX8_lives 9 = .ok (.iload_n 2, 1) := by decide +kernel
theorem dX8_lives_10 : decode cX8_lives 10 = .ok (.invokevirtual 456, 3) := by decide +kernel
theorem dX8_lives_13 : decode cX8_lives 13 = .ok (.ifCond .eq 14, 3) := by decide +kernel
theorem dX8_lives_16 : decode cX8_lives 16 = .ok (.aload_n 0, 1) := by decide +kernel
theorem dX8_lives_17 : decode cX8_lives 17 = .ok (.iload_n 1, 1) := by decide +kernel
theorem dX8_lives_18 : decode cX8_lives 18 = .ok (.iload_n 2, 1) := by decide +kernel
theorem dX8_lives_19 : decode cX8_lives 19 = .ok (.iconst 0, 1) := by decide +kernel
theorem dX8_lives_20 : decode cX8_lives 20 = .ok (.iconst 0, 1) := by decide +kernel
theorem dX8_lives_21 : decode cX8_lives 21 = .ok (.invokevirtual 459, 3) := by decide +kernel
theorem dX8_lives_24 : decode cX8_lives 24 = .ok (.goto 4, 3) := by decide +kernel
theorem dX8_lives_27 : decode cX8_lives 27 = .ok (.iconst (-1), 1) := by decide +kernel
theorem dX8_lives_28 : decode cX8_lives 28 = .ok (.ireturn, 1) := by decide +kernel
theorem dX8_fewest_0 : decode cX8_fewest 0 = .ok (.aload_n 0, 1) := by decide +kernel
theorem dX8_fewest_1 : decode cX8_fewest 1 = .ok (.iload_n 1, 1) := by decide +kernel
theorem dX8_fewest_2 : decode cX8_fewest 2 = .ok (.invokevirtual 435, 3) := by decide +kernel
theorem dX8_fewest_5 : decode cX8_fewest 5 = .ok (.ifCond .ne 5, 3) := by decide +kernel
theorem dX8_fewest_8 : decode cX8_fewest 8 = .ok (.iconst (-1), 1) := by decide +kernel
theorem dX8_fewest_9 : decode cX8_fewest 9 = .ok (.ireturn, 1) := by decide +kernel
theorem dX8_fewest_10 : decode cX8_fewest 10 = .ok (.iconst 1, 1) := by decide +kernel
theorem dX8_fewest_11 : decode cX8_fewest 11 = .ok (.istore_n 2, 1) := by decide +kernel
theorem dX8_fewest_12 : decode cX8_fewest 12 = .ok (.aload_n 0, 1) := by decide +kernel
theorem dX8_fewest_13 : decode cX8_fewest 13 = .ok (.iload_n 2, 1) := by decide +kernel
theorem dX8_fewest_14 : decode cX8_fewest 14 = .ok (.invokevirtual 456, 3) := by decide +kernel
theorem dX8_fewest_17 : decode cX8_fewest 17 = .ok (.ifCond .eq 25, 3) := by decide +kernel
theorem dX8_fewest_20 : decode cX8_fewest 20 = .ok (.aload_n 0, 1) := by decide +kernel
theorem dX8_fewest_21 : decode cX8_fewest 21 = .ok (.iload_n 1, 1) := by decide +kernel
theorem dX8_fewest_22 : decode cX8_fewest 22 = .ok (.iload_n 2, 1) := by decide +kernel
theorem dX8_fewest_23 : decode cX8_fewest 23 = .ok (.iconst 0, 1) := by decide +kernel
theorem dX8_fewest_24 : decode cX8_fewest 24 = .ok (.iconst 0, 1) := by decide +kernel
theorem dX8_fewest_25 : decode cX8_fewest 25 = .ok (.invokevirtual 459, 3) := by decide +kernel
theorem dX8_fewest_28 : decode cX8_fewest 28 = .ok (.sipush 200, 3) := by decide +kernel
theorem dX8_fewest_31 : decode cX8_fewest 31 = .ok (.if_icmp .ne 5, 3) := by decide +kernel
theorem dX8_fewest_34 : decode cX8_fewest 34 = .ok (.iload_n 2, 1) := by decide +kernel
theorem dX8_fewest_35 : decode cX8_fewest 35 = .ok (.ireturn, 1) := by decide +kernel
theorem dX8_fewest_36 : decode cX8_fewest 36 = .ok (.iinc 2 1, 3) := by decide +kernel
theorem dX8_fewest_39 : decode cX8_fewest 39 = .ok (.goto (-27), 3) := by decide +kernel
theorem dX8_fewest_42 : decode cX8_fewest 42 = .ok (.iconst (-1), 1) := by decide +kernel
theorem dX8_fewest_43 : decode cX8_fewest 43 = .ok (.ireturn, 1) := by decide +kernel
theorem dX8_best_0 : decode cX8_best 0 = .ok (.aload_n 0, 1) := by decide +kernel
theorem dX8_best_1 : decode cX8_best 1 = .ok (.iload_n 1, 1) := by decide +kernel
theorem dX8_best_2 : decode cX8_best 2 = .ok (.invokevirtual 456, 3) := by decide +kernel
theorem dX8_best_5 : decode cX8_best 5 = .ok (.ifCond .eq 12, 3) := by decide +kernel
theorem dX8_best_8 : decode cX8_best 8 = .ok (.iload_n 2, 1) := by decide +kernel
theorem dX8_best_9 : decode cX8_best 9 = .ok (.ifCond .lt 8, 3) := by decide +kernel
theorem dX8_best_12 : decode cX8_best 12 = .ok (.iload_n 2, 1) := by decide +kernel
theorem dX8_best_13 : decode cX8_best 13 = .ok (.iconst 1, 1) := by decide +kernel
theorem dX8_best_14 : decode cX8_best 14 = .ok (.if_icmp .le 5, 3) := by decide +kernel
theorem dX8_best_17 : decode cX8_best 17 = .ok (.iconst (-1), 1) := by decide +kernel
theorem dX8_best_18 : decode cX8_best 18 = .ok (.ireturn, 1) := by decide +kernel
theorem dX8_best_19 : decode cX8_best 19 = .ok (.iconst 0, 1) := by decide +kernel
theorem dX8_best_20 : decode cX8_best 20 = .ok (.istore_n 3, 1) := by decide +kernel
theorem dX8_best_21 : decode cX8_best 21 = .ok (.iconst (-1), 1) := by decide +kernel
theorem dX8_best_22 : decode cX8_best 22 = .ok (.istore 4, 2) := by decide +kernel
theorem dX8_best_24 : decode cX8_best 24 = .ok (.iconst 0, 1) := by decide +kernel
theorem dX8_best_25 : decode cX8_best 25 = .ok (.istore 5, 2) := by decide +kernel
theorem dX8_best_27 : decode cX8_best 27 = .ok (.iload 5, 2) := by decide +kernel
theorem dX8_best_29 : decode cX8_best 29 = .ok (.aload_n 0, 1) := by decide +kernel
theorem dX8_best_30 : decode cX8_best 30 = .ok (.getfield 151, 3) := by decide +kernel
theorem dX8_best_33 : decode cX8_best 33 = .ok (.if_icmp .ge 37, 3) := by decide +kernel
theorem dX8_best_36 : decode cX8_best 36 = .ok (.aload_n 0, 1) := by decide +kernel
theorem dX8_best_37 : decode cX8_best 37 = .ok (.iload 5, 2) := by decide +kernel
theorem dX8_best_39 : decode cX8_best 39 = .ok (.iload_n 1, 1) := by decide +kernel
theorem dX8_best_40 : decode cX8_best 40 = .ok (.iconst 0, 1) := by decide +kernel
theorem dX8_best_41 : decode cX8_best 41 = .ok (.iconst 0, 1) := by decide +kernel
theorem dX8_best_42 : decode cX8_best 42 = .ok (.invokevirtual 459, 3) := by decide +kernel
theorem dX8_best_45 : decode cX8_best 45 = .ok (.istore 6, 2) := by decide +kernel
theorem dX8_best_47 : decode cX8_best 47 = .ok (.iload 6, 2) := by decide +kernel
theorem dX8_best_49 : decode cX8_best 49 = .ok (.iload 4, 2) := by decide +kernel
theorem dX8_best_51 : decode cX8_best 51 = .ok (.if_icmp .gt 6, 3) := by decide +kernel
theorem dX8_best_54 : decode cX8_best 54 = .ok (.goto 10, 3) := by decide +kernel
theorem dX8_best_57 : decode cX8_best 57 = .ok (.iload 6, 2) := by decide +kernel
theorem dX8_best_59 : decode cX8_best 59 = .ok (.istore 4, 2) := by decide +kernel
theorem dX8_best_61 : decode cX8_best 61 = .ok (.iload 5, 2) := by decide +kernel
theorem dX8_best_63 : decode cX8_best 63 = .ok (.istore_n 3, 1) := by decide +kernel
theorem dX8_best_64 : decode cX8_best 64 = .ok (.iinc 5 1, 3) := by decide +kernel
theorem dX8_best_67 : decode cX8_best 67 = .ok (.goto (-40), 3) := by decide +kernel
theorem dX8_best_70 : decode cX8_best 70 = .ok (.iload_n 2, 1) := by decide +kernel
theorem dX8_best_71 : decode cX8_best 71 = .ok (.ifCond .ne 7, 3) := by decide +kernel
theorem dX8_best_74 : decode cX8_best 74 = .ok (.iload_n 3, 1) := by decide +kernel
theorem dX8_best_75 : decode cX8_best 75 = .ok (.goto 5, 3) := by decide +kernel
theorem dX8_best_78 : decode cX8_best 78 = .ok (.iload 4, 2) := by decide +kernel
theorem dX8_best_80 : decode cX8_best 80 = .ok (.ireturn, 1) := by decide +kernel
theorem dX8_jumps_0 : decode cX8_jumps 0 = .ok (.aload_n 0, 1) := by decide +kernel
theorem dX8_jumps_1 : decode cX8_jumps 1 = .ok (.iload_n 1, 1) := by decide +kernel
theorem dX8_jumps_2 : decode cX8_jumps 2 = .ok (.invokevirtual 435, 3) := by decide +kernel
theorem dX8_jumps_5 : decode cX8_jumps 5 = .ok (.ifCond .eq 33, 3) := by decide +kernel
theorem dX8_jumps_8 : decode cX8_jumps 8 = .ok (.aload_n 0, 1) := by decide +kernel
theorem dX8_jumps_9 : decode cX8_jumps 9 = .ok (.iload_n 3, 1) := by decide +kernel
theorem dX8_jumps_10 : decode cX8_jumps 10 = .ok (.invokevirtual 435, 3) := by decide +kernel
theorem dX8_jumps_13 : decode cX8_jumps 13 = .ok (.ifCond .eq 25, 3) := by decide +kernel
theorem dX8_jumps_16 : decode cX8_jumps 16 = .ok (.aload_n 0, 1) := by decide +kernel
theorem dX8_jumps_17 : decode cX8_jumps 17 = .ok (.iload_n 2, 1) := by decide +kernel
theorem dX8_jumps_18 : decode cX8_jumps 18 = .ok (.invokevirtual 456, 3) := by decide +kernel
theorem dX8_jumps_21 : decode cX8_jumps 21 = .ok (.ifCond .eq 17, 3) := by decide +kernel
theorem dX8_jumps_24 : decode cX8_jumps 24 = .ok (.aload_n 0, 1) := by decide +kernel
theorem dX8_jumps_25 : decode cX8_jumps 25 = .ok (.iload_n 1, 1) := by decide +kernel
theorem dX8_jumps_26 : decode cX8_jumps 26 = .ok (.iload_n 2, 1) := by decide +kernel
theorem dX8_jumps_27 : decode cX8_jumps 27 = .ok (.iload_n 3, 1) := by decide +kernel
theorem dX8_jumps_28 : decode cX8_jumps 28 = .ok (.iconst 0, 1) := by decide +kernel
theorem dX8_jumps_29 : decode cX8_jumps 29 = .ok (.invokevirtual 459, 3) := by decide +kernel
theorem dX8_jumps_32 : decode cX8_jumps 32 = .ok (.sipush 200, 3) := by decide +kernel
theorem dX8_jumps_35 : decode cX8_jumps 35 = .ok (.if_icmp .ge 5, 3) := by decide +kernel
theorem dX8_jumps_38 : decode cX8_jumps 38 = .ok (.iconst (-1), 1) := by decide +kernel
theorem dX8_jumps_39 : decode cX8_jumps 39 = .ok (.ireturn, 1) := by decide +kernel
theorem dX8_jumps_40 : decode cX8_jumps 40 = .ok (.bipush 9, 2) := by decide +kernel
theorem dX8_jumps_42 : decode cX8_jumps 42 = .ok (.istore 4, 2) := by decide +kernel
theorem dX8_jumps_44 : decode cX8_jumps 44 = .ok (.iload 4, 2) := by decide +kernel
theorem dX8_jumps_46 : decode cX8_jumps 46 = .ok (.ifCond .le 24, 3) := by decide +kernel
theorem dX8_jumps_49 : decode cX8_jumps 49 = .ok (.aload_n 0, 1) := by decide +kernel
theorem dX8_jumps_50 : decode cX8_jumps 50 = .ok (.iload_n 1, 1) := by decide +kernel
theorem dX8_jumps_51 : decode cX8_jumps 51 = .ok (.iload_n 2, 1) := by decide +kernel
theorem dX8_jumps_52 : decode cX8_jumps 52 = .ok (.iload_n 3, 1) := by decide +kernel
theorem dX8_jumps_53 : decode cX8_jumps 53 = .ok (.iload 4, 2) := by decide +kernel
theorem dX8_jumps_55 : decode cX8_jumps 55 = .ok (.invokevirtual 459, 3) := by decide +kernel
theorem dX8_jumps_58 : decode cX8_jumps 58 = .ok (.sipush 200, 3) := by decide +kernel
theorem dX8_jumps_61 : decode cX8_jumps 61 = .ok (.if_icmp .ge 9, 3) := by decide +kernel
theorem dX8_jumps_64 : decode cX8_jumps 64 = .ok (.iinc 4 (-1), 3) := by decide +kernel
theorem dX8_jumps_67 : decode cX8_jumps 67 = .ok (.goto (-23), 3) := by decide +kernel
theorem dX8_jumps_70 : decode cX8_jumps 70 = .ok (.iload 4, 2) := by decide +kernel
theorem dX8_jumps_72 : decode cX8_jumps 72 = .ok (.ireturn, 1) := by decide +kernel
theorem dX8_meet_0 : decode cX8_meet 0 = .ok (.aload_n 0, 1) := by decide +kernel
theorem dX8_meet_1 : decode cX8_meet 1 = .ok (.iload_n 1, 1) := by decide +kernel
theorem dX8_meet_2 : decode cX8_meet 2 = .ok (.invokevirtual 435, 3) := by decide +kernel
theorem dX8_meet_5 : decode cX8_meet 5 = .ok (.ifCond .eq 19, 3) := by decide +kernel
theorem dX8_meet_8 : decode cX8_meet 8 = .ok (.aload_n 0, 1) := by decide +kernel
theorem dX8_meet_9 : decode cX8_meet 9 = .ok (.iload_n 2, 1) := by decide +kernel
theorem dX8_meet_10 : decode cX8_meet 10 = .ok (.invokevirtual 435, 3) := by decide +kernel
theorem dX8_meet_13 : decode cX8_meet 13 = .ok (.ifCond .eq 11, 3) := by decide +kernel
theorem dX8_meet_16 : decode cX8_meet 16 = .ok (.aload_n 0, 1) := by decide +kernel
theorem dX8_meet_17 : decode cX8_meet 17 = .ok (.iload_n 3, 1) := by decide +kernel
theorem dX8_meet_18 : decode cX8_meet 18 = .ok (.invokevirtual 456, 3) := by decide +kernel
theorem dX8_meet_21 : decode cX8_meet 21 = .ok (.ifCond .ne 5, 3) := by decide +kernel
theorem dX8_meet_24 : decode cX8_meet 24 = .ok (.iconst (-1), 1) := by decide +kernel
theorem dX8_meet_25 : decode cX8_meet 25 = .ok (.ireturn, 1) := by decide +kernel
theorem dX8_meet_26 : decode cX8_meet 26 = .ok (.aload_n 0, 1) := by decide +kernel
theorem dX8_meet_27 : decode cX8_meet 27 = .ok (.invokevirtual 444, 3) := by decide +kernel
theorem dX8_meet_30 : decode cX8_meet 30 = .ok (.aload_n 0, 1) := by decide +kernel
theorem dX8_meet_31 : decode cX8_meet 31 = .ok (.invokevirtual 157, 3) := by decide +kernel
theorem dX8_meet_34 : decode cX8_meet 34 = .ok (.aload_n 0, 1) := by decide +kernel
theorem dX8_meet_35 : decode cX8_meet 35 = .ok (.iload_n 1, 1) := by decide +kernel
theorem dX8_meet_36 : decode cX8_meet 36 = .ok (.iload_n 3, 1) := by decide +kernel
theorem dX8_meet_37 : decode cX8_meet 37 = .ok (.invokevirtual 450, 3) := by decide +kernel
theorem dX8_meet_40 : decode cX8_meet 40 = .ok (.aload_n 0, 1) := by decide +kernel
theorem dX8_meet_41 : decode cX8_meet 41 = .ok (.iload_n 2, 1) := by decide +kernel
theorem dX8_meet_42 : decode cX8_meet 42 = .ok (.iload_n 3, 1) := by decide +kernel
theorem dX8_meet_43 : decode cX8_meet 43 = .ok (.invokevirtual 450, 3) := by decide +kernel
theorem dX8_meet_46 : decode cX8_meet 46 = .ok (.aload_n 0, 1) := by decide +kernel
theorem dX8_meet_47 : decode cX8_meet 47 = .ok (.iconst 1, 1) := by decide +kernel
theorem dX8_meet_48 : decode cX8_meet 48 = .ok (.putfield 384, 3) := by decide +kernel
theorem dX8_meet_51 : decode cX8_meet 51 = .ok (.iconst 0, 1) := by decide +kernel
theorem dX8_meet_52 : decode cX8_meet 52 = .ok (.istore 4, 2) := by decide +kernel
theorem dX8_meet_54 : decode cX8_meet 54 = .ok (.iconst 0, 1) := by decide +kernel
theorem dX8_meet_55 : decode cX8_meet 55 = .ok (.istore 5, 2) := by decide +kernel
theorem dX8_meet_57 : decode cX8_meet 57 = .ok (.iload 5, 2) := by decide +kernel
theorem dX8_meet_59 : decode cX8_meet 59 = .ok (.bipush 60, 2) := by decide +kernel
theorem dX8_meet_61 : decode cX8_meet 61 = .ok (.if_icmp .ge 16, 3) := by decide +kernel
theorem dX8_meet_64 : decode cX8_meet 64 = .ok (.aload_n 0, 1) := by decide +kernel
theorem dX8_meet_65 : decode cX8_meet 65 = .ok (.iconst 0, 1) := by decide +kernel
theorem dX8_meet_66 : decode cX8_meet 66 = .ok (.invokevirtual 431, 3) := by decide +kernel
theorem dX8_meet_69 : decode cX8_meet 69 = .ok (.istore 4, 2) := by decide +kernel
theorem dX8_meet_71 : decode cX8_meet 71 = .ok (.iinc 5 1, 3) := by decide +kernel
theorem dX8_meet_74 : decode cX8_meet 74 = .ok (.goto (-17), 3) := by decide +kernel
theorem dX8_meet_77 : decode cX8_meet 77 = .ok (.aload_n 0, 1) := by decide +kernel
theorem dX8_meet_78 : decode cX8_meet 78 = .ok (.invokevirtual 441, 3) := by decide +kernel
theorem dX8_meet_81 : decode cX8_meet 81 = .ok (.istore 5, 2) := by decide +kernel
theorem dX8_meet_83 : decode cX8_meet 83 = .ok (.aload_n 0, 1) := by decide +kernel
theorem dX8_meet_84 : decode cX8_meet 84 = .ok (.invokevirtual 447, 3) := by decide +kernel
theorem dX8_meet_87 : decode cX8_meet 87 = .ok (.iload 5, 2) := by decide +kernel
theorem dX8_meet_89 : decode cX8_meet 89 = .ok (.ireturn, 1) := by decide +kernel
theorem dX8_common_0 : decode cX8_common 0 = .ok (.lload_n 0, 1) := by decide +kernel
theorem dX8_common_1 : decode cX8_common 1 = .ok (.lstore 4, 2) := by decide +kernel
theorem dX8_common_3 : decode cX8_common 3 = .ok (.lload_n 2, 1) := by decide +kernel
theorem dX8_common_4 : decode cX8_common 4 = .ok (.lstore 6, 2) := by decide +kernel
theorem dX8_common_6 : decode cX8_common 6 = .ok (.lload 6, 2) := by decide +kernel
theorem dX8_common_8 : decode cX8_common 8 = .ok (.lconst 0, 1) := by decide +kernel
theorem dX8_common_9 : decode cX8_common 9 = .ok (.lcmp, 1) := by decide +kernel
theorem dX8_common_10 : decode cX8_common 10 = .ok (.ifCond .le 21, 3) := by decide +kernel
theorem dX8_common_13 : decode cX8_common 13 = .ok (.lload 4, 2) := by decide +kernel
theorem dX8_common_15 : decode cX8_common 15 = .ok (.lload 6, 2) := by decide +kernel
theorem dX8_common_17 : decode cX8_common 17 = .ok (.lrem, 1) := by decide +kernel
theorem dX8_common_18 : decode cX8_common 18 = .ok (.lstore 8, 2) := by decide +kernel
theorem dX8_common_20 : decode cX8_common 20 = .ok (.lload 6, 2) := by decide +kernel
theorem dX8_common_22 : decode cX8_common 22 = .ok (.lstore 4, 2) := by decide +kernel
theorem dX8_common_24 : decode cX8_common 24 = .ok (.lload 8, 2) := by decide +kernel
theorem dX8_common_26 : decode cX8_common 26 = .ok (.lstore 6, 2) := by decide +kernel
theorem dX8_common_28 : decode cX8_common 28 = .ok (.goto (-22), 3) := by decide +kernel
theorem dX8_common_31 : decode cX8_common 31 = .ok (.lload 4, 2) := by decide +kernel
theorem dX8_common_33 : decode cX8_common 33 = .ok (.lreturn, 1) := by decide +kernel
theorem dX8_odds_0 : decode cX8_odds 0 = .ok (.iload_n 1, 1) := by decide +kernel
theorem dX8_odds_1 : decode cX8_odds 1 = .ok (.ifCond .lt 18, 3) := by decide +kernel
theorem dX8_odds_4 : decode cX8_odds 4 = .ok (.iload_n 1, 1) := by decide +kernel
theorem dX8_odds_5 : decode cX8_odds 5 = .ok (.bipush 40, 2) := by decide +kernel
theorem dX8_odds_7 : decode cX8_odds 7 = .ok (.if_icmp .gt 12, 3) := by decide +kernel
theorem dX8_odds_10 : decode cX8_odds 10 = .ok (.iload_n 2, 1) := by decide +kernel
theorem dX8_odds_11 : decode cX8_odds 11 = .ok (.ifCond .lt 8, 3) := by decide +kernel
theorem dX8_odds_14 : decode cX8_odds 14 = .ok (.iload_n 2, 1) := by decide +kernel
theorem dX8_odds_15 : decode cX8_odds 15 = .ok (.iconst 1, 1) := by decide +kernel
theorem dX8_odds_16 : decode cX8_odds 16 = .ok (.if_icmp .le 7, 3) := by decide +kernel
theorem dX8_odds_19 : decode cX8_odds 19 = .ok (.ldc2_w 463, 3) := by decide +kernel
theorem dX8_odds_22 : decode cX8_odds 22 = .ok (.lreturn, 1) := by decide +kernel
theorem dX8_odds_23 : decode cX8_odds 23 = .ok (.aload_n 0, 1) := by decide +kernel
theorem dX8_odds_24 : decode cX8_odds 24 = .ok (.invokevirtual 438, 3) := by decide +kernel
theorem dX8_odds_27 : decode cX8_odds 27 = .ok (.istore_n 3, 1) := by decide +kernel
theorem dX8_odds_28 : decode cX8_odds 28 = .ok (.iload_n 3, 1) := by decide +kernel
theorem dX8_odds_29 : decode cX8_odds 29 = .ok (.bipush 15, 2) := by decide +kernel
theorem dX8_odds_31 : decode cX8_odds 31 = .ok (.if_icmp .le 7, 3) := by decide +kernel
theorem dX8_odds_34 : decode cX8_odds 34 = .ok (.ldc2_w 465, 3) := by decide +kernel
theorem dX8_odds_37 : decode cX8_odds 37 = .ok (.lreturn, 1) := by decide +kernel
theorem dX8_odds_38 : decode cX8_odds 38 = .ok (.lconst 1, 1) := by decide +kernel
theorem dX8_odds_39 : decode cX8_odds 39 = .ok (.lstore 4, 2) := by decide +kernel
theorem dX8_odds_41 : decode cX8_odds 41 = .ok (.iconst 0, 1) := by decide +kernel
theorem dX8_odds_42 : decode cX8_odds 42 = .ok (.istore 6, 2) := by decide +kernel
theorem dX8_odds_44 : decode cX8_odds 44 = .ok (.iload 6, 2) := by decide +kernel
theorem dX8_odds_46 : decode cX8_odds 46 = .ok (.iload_n 3, 1) := by decide +kernel
theorem dX8_odds_47 : decode cX8_odds 47 = .ok (.if_icmp .ge 17, 3) := by decide +kernel
theorem dX8_odds_50 : decode cX8_odds 50 = .ok (.lload 4, 2) := by decide +kernel
theorem dX8_odds_52 : decode cX8_odds 52 = .ok (.ldc2_w 467, 3) := by decide +kernel
theorem dX8_odds_55 : decode cX8_odds 55 = .ok (.lmul, 1) := by decide +kernel
theorem dX8_odds_56 : decode cX8_odds 56 = .ok (.lstore 4, 2) := by decide +kernel
theorem dX8_odds_58 : decode cX8_odds 58 = .ok (.iinc 6 1, 3) := by decide +kernel
theorem dX8_odds_61 : decode cX8_odds 61 = .ok (.goto (-17), 3) := by decide +kernel
theorem dX8_odds_64 : decode cX8_odds 64 = .ok (.lconst 0, 1) := by decide +kernel
theorem dX8_odds_65 : decode cX8_odds 65 = .ok (.lstore 6, 2) := by decide +kernel
theorem dX8_odds_67 : decode cX8_odds 67 = .ok (.lconst 1, 1) := by decide +kernel
theorem dX8_odds_68 : decode cX8_odds 68 = .ok (.lstore 8, 2) := by decide +kernel
theorem dX8_odds_70 : decode cX8_odds 70 = .ok (.iconst 0, 1) := by decide +kernel
theorem dX8_odds_71 : decode cX8_odds 71 = .ok (.istore 10, 2) := by decide +kernel
theorem dX8_odds_73 : decode cX8_odds 73 = .ok (.iload 10, 2) := by decide +kernel
theorem dX8_odds_75 : decode cX8_odds 75 = .ok (.iload_n 3, 1) := by decide +kernel
theorem dX8_odds_76 : decode cX8_odds 76 = .ok (.if_icmp .gt 85, 3) := by decide +kernel
theorem dX8_odds_79 : decode cX8_odds 79 = .ok (.lload 8, 2) := by decide +kernel
theorem dX8_odds_81 : decode cX8_odds 81 = .ok (.lstore 11, 2) := by decide +kernel
theorem dX8_odds_83 : decode cX8_odds 83 = .ok (.iconst 0, 1) := by decide +kernel
theorem dX8_odds_84 : decode cX8_odds 84 = .ok (.istore 13, 2) := by decide +kernel
theorem dX8_odds_86 : decode cX8_odds 86 = .ok (.iload 13, 2) := by decide +kernel
theorem dX8_odds_88 : decode cX8_odds 88 = .ok (.iload_n 3, 1) := by decide +kernel
theorem dX8_odds_89 : decode cX8_odds 89 = .ok (.if_icmp .ge 37, 3) := by decide +kernel
theorem dX8_odds_92 : decode cX8_odds 92 = .ok (.lload 11, 2) := by decide +kernel
theorem dX8_odds_94 : decode cX8_odds 94 = .ok (.iload 13, 2) := by decide +kernel
theorem dX8_odds_96 : decode cX8_odds 96 = .ok (.iload 10, 2) := by decide +kernel
theorem dX8_odds_98 : decode cX8_odds 98 = .ok (.if_icmp .ge 14, 3) := by decide +kernel
theorem dX8_odds_101 : decode cX8_odds 101 = .ok (.bipush 10, 2) := by decide +kernel
theorem dX8_odds_103 : decode cX8_odds 103 = .ok (.aload_n 0, 1) := by decide +kernel
theorem dX8_odds_104 : decode cX8_odds 104 = .ok (.getfield 363, 3) := by decide +kernel
theorem dX8_odds_107 : decode cX8_odds 107 = .ok (.isub, 1) := by decide +kernel
theorem dX8_odds_108 : decode cX8_odds 108 = .ok (.i2l, 1) := by decide +kernel
theorem dX8_odds_109 : decode cX8_odds 109 = .ok (.goto 8, 3) := by decide +kernel
theorem dX8_odds_112 : decode cX8_odds 112 = .ok (.aload_n 0, 1) := by decide +kernel
theorem dX8_odds_113 : decode cX8_odds 113 = .ok (.getfield 363, 3) := by decide +kernel
theorem dX8_odds_116 : decode cX8_odds 116 = .ok (.i2l, 1) := by decide +kernel
theorem dX8_odds_117 : decode cX8_odds 117 = .ok (.lmul, 1) := by decide +kernel
theorem dX8_odds_118 : decode cX8_odds 118 = .ok (.lstore 11, 2) := by decide +kernel
theorem dX8_odds_120 : decode cX8_odds 120 = .ok (.iinc 13 1, 3) := by decide +kernel
theorem dX8_odds_123 : decode cX8_odds 123 = .ok (.goto (-37), 3) := by decide +kernel
theorem dX8_odds_126 : decode cX8_odds 126 = .ok (.iload 10, 2) := by decide +kernel
theorem dX8_odds_128 : decode cX8_odds 128 = .ok (.iload_n 1, 1) := by decide +kernel
theorem dX8_odds_129 : decode cX8_odds 129 = .ok (.if_icmp .lt 10, 3) := by decide +kernel
theorem dX8_odds_132 : decode cX8_odds 132 = .ok (.lload 6, 2) := by decide +kernel
theorem dX8_odds_134 : decode cX8_odds 134 = .ok (.lload 11, 2) := by decide +kernel
theorem dX8_odds_136 : decode cX8_odds 136 = .ok (.ladd, 1) := by decide +kernel
theorem dX8_odds_137 : decode cX8_odds 137 = .ok (.lstore 6, 2) := by decide +kernel
theorem dX8_odds_139 : decode cX8_odds 139 = .ok (.lload 8, 2) := by decide +kernel
theorem dX8_odds_141 : decode cX8_odds 141 = .ok (.iload_n 3, 1) := by decide +kernel
theorem dX8_odds_142 : decode cX8_odds 142 = .ok (.iload 10, 2) := by decide +kernel
theorem dX8_odds_144 : decode cX8_odds 144 = .ok (.isub, 1) := by decide +kernel
theorem dX8_odds_145 : decode cX8_odds 145 = .ok (.i2l, 1) := by decide +kernel
theorem dX8_odds_146 : decode cX8_odds 146 = .ok (.lmul, 1) := by decide +kernel
theorem dX8_odds_147 : decode cX8_odds 147 = .ok (.iload 10, 2) := by decide +kernel
theorem dX8_odds_149 : decode cX8_odds 149 = .ok (.iconst 1, 1) := by decide +kernel
theorem dX8_odds_150 : decode cX8_odds 150 = .ok (.iadd, 1) := by decide +kernel
theorem dX8_odds_151 : decode cX8_odds 151 = .ok (.i2l, 1) := by decide +kernel
theorem dX8_odds_152 : decode cX8_odds 152 = .ok (.ldiv, 1) := by decide +kernel
theorem dX8_odds_153 : decode cX8_odds 153 = .ok (.lstore 8, 2) := by decide +kernel
theorem dX8_odds_155 : decode cX8_odds 155 = .ok (.iinc 10 1, 3) := by decide +kernel
theorem dX8_odds_158 : decode cX8_odds 158 = .ok (.goto (-85), 3) := by decide +kernel
theorem dX8_odds_161 : decode cX8_odds 161 = .ok (.lload 4, 2) := by decide +kernel
theorem dX8_odds_163 : decode cX8_odds 163 = .ok (.lload 6, 2) := by decide +kernel
theorem dX8_odds_165 : decode cX8_odds 165 = .ok (.invokestatic 469, 3) := by decide +kernel
theorem dX8_odds_168 : decode cX8_odds 168 = .ok (.lstore 10, 2) := by decide +kernel
theorem dX8_odds_170 : decode cX8_odds 170 = .ok (.iload_n 2, 1) := by decide +kernel
theorem dX8_odds_171 : decode cX8_odds 171 = .ok (.ifCond .ne 11, 3) := by decide +kernel
theorem dX8_odds_174 : decode cX8_odds 174 = .ok (.lload 6, 2) := by decide +kernel
theorem dX8_odds_176 : decode cX8_odds 176 = .ok (.lload 10, 2) := by decide +kernel
theorem dX8_odds_178 : decode cX8_odds 178 = .ok (.ldiv, 1) := by decide +kernel
theorem dX8_odds_179 : decode cX8_odds 179 = .ok (.goto 8, 3) := by decide +kernel
theorem dX8_odds_182 : decode cX8_odds 182 = .ok (.lload 4, 2) := by decide +kernel
theorem dX8_odds_184 : decode cX8_odds 184 = .ok (.lload 10, 2) := by decide +kernel
theorem dX8_odds_186 : decode cX8_odds 186 = .ok (.ldiv, 1) := by decide +kernel
theorem dX8_odds_187 : decode cX8_odds 187 = .ok (.lreturn, 1) := by decide +kernel
theorem dX8_film_0 : decode cX8_film 0 = .ok (.iload_n 1, 1) := by decide +kernel
theorem dX8_film_1 : decode cX8_film 1 = .ok (.ifCond .lt 29, 3) := by decide +kernel
theorem dX8_film_4 : decode cX8_film 4 = .ok (.iload_n 1, 1) := by decide +kernel
theorem dX8_film_5 : decode cX8_film 5 = .ok (.bipush 40, 2) := by decide +kernel
theorem dX8_film_7 : decode cX8_film 7 = .ok (.if_icmp .ge 23, 3) := by decide +kernel
theorem dX8_film_10 : decode cX8_film 10 = .ok (.lload_n 2, 1) := by decide +kernel
theorem dX8_film_11 : decode cX8_film 11 = .ok (.aload_n 0, 1) := by decide +kernel
theorem dX8_film_12 : decode cX8_film 12 = .ok (.getfield 151, 3) := by decide +kernel
theorem dX8_film_15 : decode cX8_film 15 = .ok (.lshr, 1) := by decide +kernel
theorem dX8_film_16 : decode cX8_film 16 = .ok (.lconst 0, 1) := by decide +kernel
theorem dX8_film_17 : decode cX8_film 17 = .ok (.lcmp, 1) := by decide +kernel
theorem dX8_film_18 : decode cX8_film 18 = .ok (.ifCond .ne 12, 3) := by decide +kernel
theorem dX8_film_21 : decode cX8_film 21 = .ok (.aload_n 0, 1) := by decide +kernel
theorem dX8_film_22 : decode cX8_film 22 = .ok (.getfield 378, 3) := by decide +kernel
theorem dX8_film_25 : decode cX8_film 25 = .ok (.bipush 60, 2) := by decide +kernel
theorem dX8_film_27 : decode cX8_film 27 = .ok (.if_icmp .ne 5, 3) := by decide +kernel
theorem dX8_film_30 : decode cX8_film 30 = .ok (.iconst (-1), 1) := by decide +kernel
theorem dX8_film_31 : decode cX8_film 31 = .ok (.ireturn, 1) := by decide +kernel
theorem dX8_film_32 : decode cX8_film 32 = .ok (.aload_n 0, 1) := by decide +kernel
theorem dX8_film_33 : decode cX8_film 33 = .ok (.getfield 99, 3) := by decide +kernel
theorem dX8_film_36 : decode cX8_film 36 = .ok (.aload_n 0, 1) := by decide +kernel
theorem dX8_film_37 : decode cX8_film 37 = .ok (.getfield 378, 3) := by decide +kernel
theorem dX8_film_40 : decode cX8_film 40 = .ok (.iload_n 1, 1) := by decide +kernel
theorem dX8_film_41 : decode cX8_film 41 = .ok (.iastore, 1) := by decide +kernel
theorem dX8_film_42 : decode cX8_film 42 = .ok (.aload_n 0, 1) := by decide +kernel
theorem dX8_film_43 : decode cX8_film 43 = .ok (.getfield 108, 3) := by decide +kernel
theorem dX8_film_46 : decode cX8_film 46 = .ok (.aload_n 0, 1) := by decide +kernel
theorem dX8_film_47 : decode cX8_film 47 = .ok (.getfield 378, 3) := by decide +kernel
theorem dX8_film_50 : decode cX8_film 50 = .ok (.lload_n 2, 1) := by decide +kernel
theorem dX8_film_51 : decode cX8_film 51 = .ok (.lastore, 1) := by decide +kernel
theorem dX8_film_52 : decode cX8_film 52 = .ok (.aload_n 0, 1) := by decide +kernel
theorem dX8_film_53 : decode cX8_film 53 = .ok (.getfield 102, 3) := by decide +kernel
theorem dX8_film_56 : decode cX8_film 56 = .ok (.aload_n 0, 1) := by decide +kernel
theorem dX8_film_57 : decode cX8_film 57 = .ok (.getfield 378, 3) := by decide +kernel
theorem dX8_film_60 : decode cX8_film 60 = .ok (.aload_n 0, 1) := by decide +kernel
theorem dX8_film_61 : decode cX8_film 61 = .ok (.getfield 473, 3) := by decide +kernel
theorem dX8_film_64 : decode cX8_film 64 = .ok (.iastore, 1) := by decide +kernel
theorem dX8_film_65 : decode cX8_film 65 = .ok (.aload_n 0, 1) := by decide +kernel
theorem dX8_film_66 : decode cX8_film 66 = .ok (.getfield 105, 3) := by decide +kernel
theorem dX8_film_69 : decode cX8_film 69 = .ok (.aload_n 0, 1) := by decide +kernel
theorem dX8_film_70 : decode cX8_film 70 = .ok (.getfield 378, 3) := by decide +kernel
theorem dX8_film_73 : decode cX8_film 73 = .ok (.iconst (-1), 1) := by decide +kernel
theorem dX8_film_74 : decode cX8_film 74 = .ok (.iastore, 1) := by decide +kernel
theorem dX8_film_75 : decode cX8_film 75 = .ok (.aload_n 0, 1) := by decide +kernel
theorem dX8_film_76 : decode cX8_film 76 = .ok (.dup, 1) := by decide +kernel
theorem dX8_film_77 : decode cX8_film 77 = .ok (.getfield 378, 3) := by decide +kernel
theorem dX8_film_80 : decode cX8_film 80 = .ok (.iconst 1, 1) := by decide +kernel
theorem dX8_film_81 : decode cX8_film 81 = .ok (.iadd, 1) := by decide +kernel
theorem dX8_film_82 : decode cX8_film 82 = .ok (.putfield 378, 3) := by decide +kernel
theorem dX8_film_85 : decode cX8_film 85 = .ok (.aload_n 0, 1) := by decide +kernel
theorem dX8_film_86 : decode cX8_film 86 = .ok (.getfield 378, 3) := by decide +kernel
theorem dX8_film_89 : decode cX8_film 89 = .ok (.iconst 1, 1) := by decide +kernel
theorem dX8_film_90 : decode cX8_film 90 = .ok (.isub, 1) := by decide +kernel
theorem dX8_film_91 : decode cX8_film 91 = .ok (.ireturn, 1) := by decide +kernel
theorem dX8_untell_0 : decode cX8_untell 0 = .ok (.iload_n 1, 1) := by decide +kernel
theorem dX8_untell_1 : decode cX8_untell 1 = .ok (.ifCond .lt 20, 3) := by decide +kernel
theorem dX8_untell_4 : decode cX8_untell 4 = .ok (.iload_n 1, 1) := by decide +kernel
theorem dX8_untell_5 : decode cX8_untell 5 = .ok (.aload_n 0, 1) := by decide +kernel
theorem dX8_untell_6 : decode cX8_untell 6 = .ok (.getfield 378, 3) := by decide +kernel
theorem dX8_untell_9 : decode cX8_untell 9 = .ok (.if_icmp .ge 12, 3) := by decide +kernel
theorem dX8_untell_12 : decode cX8_untell 12 = .ok (.aload_n 0, 1) := by decide +kernel
theorem dX8_untell_13 : decode cX8_untell 13 = .ok (.getfield 105, 3) := by decide +kernel
theorem dX8_untell_16 : decode cX8_untell 16 = .ok (.iload_n 1, 1) := by decide +kernel
theorem dX8_untell_17 : decode cX8_untell 17 = .ok (.iaload, 1) := by decide +kernel
theorem dX8_untell_18 : decode cX8_untell 18 = .ok (.ifCond .lt 5, 3) := by decide +kernel
theorem dX8_untell_21 : decode cX8_untell 21 = .ok (.iconst 0, 1) := by decide +kernel
theorem dX8_untell_22 : decode cX8_untell 22 = .ok (.ireturn, 1) := by decide +kernel
theorem dX8_untell_23 : decode cX8_untell 23 = .ok (.aload_n 0, 1) := by decide +kernel
theorem dX8_untell_24 : decode cX8_untell 24 = .ok (.getfield 105, 3) := by decide +kernel
theorem dX8_untell_27 : decode cX8_untell 27 = .ok (.iload_n 1, 1) := by decide +kernel
theorem dX8_untell_28 : decode cX8_untell 28 = .ok (.aload_n 0, 1) := by decide +kernel
theorem dX8_untell_29 : decode cX8_untell 29 = .ok (.getfield 473, 3) := by decide +kernel
theorem dX8_untell_32 : decode cX8_untell 32 = .ok (.iastore, 1) := by decide +kernel
theorem dX8_untell_33 : decode cX8_untell 33 = .ok (.iconst 1, 1) := by decide +kernel
theorem dX8_untell_34 : decode cX8_untell 34 = .ok (.ireturn, 1) := by decide +kernel
theorem dX8_later_0 : decode cX8_later 0 = .ok (.iload_n 1, 1) := by decide +kernel
theorem dX8_later_1 : decode cX8_later 1 = .ok (.ifCond .lt 22, 3) := by decide +kernel
theorem dX8_later_4 : decode cX8_later 4 = .ok (.iload_n 1, 1) := by decide +kernel
theorem dX8_later_5 : decode cX8_later 5 = .ok (.sipush 1000, 3) := by decide +kernel
theorem dX8_later_8 : decode cX8_later 8 = .ok (.if_icmp .gt 15, 3) := by decide +kernel
theorem dX8_later_11 : decode cX8_later 11 = .ok (.aload_n 0, 1) := by decide +kernel
theorem dX8_later_12 : decode cX8_later 12 = .ok (.getfield 473, 3) := by decide +kernel
theorem dX8_later_15 : decode cX8_later 15 = .ok (.iload_n 1, 1) := by decide +kernel
theorem dX8_later_16 : decode cX8_later 16 = .ok (.iadd, 1) := by decide +kernel
theorem dX8_later_17 : decode cX8_later 17 = .ok (.ldc_w 476, 3) := by decide +kernel
theorem dX8_later_20 : decode cX8_later 20 = .ok (.if_icmp .le 5, 3) := by decide +kernel
theorem dX8_later_23 : decode cX8_later 23 = .ok (.iconst (-1), 1) := by decide +kernel
theorem dX8_later_24 : decode cX8_later 24 = .ok (.ireturn, 1) := by decide +kernel
theorem dX8_later_25 : decode cX8_later 25 = .ok (.aload_n 0, 1) := by decide +kernel
theorem dX8_later_26 : decode cX8_later 26 = .ok (.dup, 1) := by decide +kernel
theorem dX8_later_27 : decode cX8_later 27 = .ok (.getfield 473, 3) := by decide +kernel
theorem dX8_later_30 : decode cX8_later 30 = .ok (.iload_n 1, 1) := by decide +kernel
theorem dX8_later_31 : decode cX8_later 31 = .ok (.iadd, 1) := by decide +kernel
theorem dX8_later_32 : decode cX8_later 32 = .ok (.putfield 473, 3) := by decide +kernel
theorem dX8_later_35 : decode cX8_later 35 = .ok (.aload_n 0, 1) := by decide +kernel
theorem dX8_later_36 : decode cX8_later 36 = .ok (.getfield 473, 3) := by decide +kernel
theorem dX8_later_39 : decode cX8_later 39 = .ok (.ireturn, 1) := by decide +kernel
theorem dX8_layOut_0 : decode cX8_layOut 0 = .ok (.iconst 1, 1) := by decide +kernel
theorem dX8_layOut_1 : decode cX8_layOut 1 = .ok (.istore_n 2, 1) := by decide +kernel
theorem dX8_layOut_2 : decode cX8_layOut 2 = .ok (.aload_n 0, 1) := by decide +kernel
theorem dX8_layOut_3 : decode cX8_layOut 3 = .ok (.iconst (-1), 1) := by decide +kernel
theorem dX8_layOut_4 : decode cX8_layOut 4 = .ok (.putfield 477, 3) := by decide +kernel
theorem dX8_layOut_7 : decode cX8_layOut 7 = .ok (.iconst 0, 1) := by decide +kernel
theorem dX8_layOut_8 : decode cX8_layOut 8 = .ok (.istore_n 3, 1) := by decide +kernel
theorem dX8_layOut_9 : decode cX8_layOut 9 = .ok (.iload_n 3, 1) := by decide +kernel
theorem dX8_layOut_10 : decode cX8_layOut 10 = .ok (.bipush 40, 2) := by decide +kernel
theorem dX8_layOut_12 : decode cX8_layOut 12 = .ok (.if_icmp .ge 16, 3) := by decide +kernel
theorem dX8_layOut_15 : decode cX8_layOut 15 = .ok (.aload_n 0, 1) := by decide +kernel
theorem dX8_layOut_16 : decode cX8_layOut 16 = .ok (.getfield 115, 3) := by decide +kernel
theorem dX8_layOut_19 : decode cX8_layOut 19 = .ok (.iload_n 3, 1) := by decide +kernel
theorem dX8_layOut_20 : decode cX8_layOut 20 = .ok (.iconst 0, 1) := by decide +kernel
theorem dX8_layOut_21 : decode cX8_layOut 21 = .ok (.bastore, 1) := by decide +kernel
theorem dX8_layOut_22 : decode cX8_layOut 22 = .ok (.iinc 3 1, 3) := by decide +kernel
theorem dX8_layOut_25 : decode cX8_layOut 25 = .ok (.goto (-16), 3) := by decide +kernel
theorem dX8_layOut_28 : decode cX8_layOut 28 = .ok (.iconst 0, 1) := by decide +kernel
theorem dX8_layOut_29 : decode cX8_layOut 29 = .ok (.istore_n 3, 1) := by decide +kernel
theorem dX8_layOut_30 : decode cX8_layOut 30 = .ok (.iload_n 3, 1) := by decide +kernel
theorem dX8_layOut_31 : decode cX8_layOut 31 = .ok (.aload_n 0, 1) := by decide +kernel
theorem dX8_layOut_32 : decode cX8_layOut 32 = .ok (.getfield 378, 3) := by decide +kernel
theorem dX8_layOut_35 : decode cX8_layOut 35 = .ok (.if_icmp .ge 70, 3) := by decide +kernel
theorem dX8_layOut_38 : decode cX8_layOut 38 = .ok (.aload_n 0, 1) := by decide +kernel
theorem dX8_layOut_39 : decode cX8_layOut 39 = .ok (.getfield 102, 3) := by decide +kernel
theorem dX8_layOut_42 : decode cX8_layOut 42 = .ok (.iload_n 3, 1) := by decide +kernel
theorem dX8_layOut_43 : decode cX8_layOut 43 = .ok (.iaload, 1) := by decide +kernel
theorem dX8_layOut_44 : decode cX8_layOut 44 = .ok (.iload_n 1, 1) := by decide +kernel
theorem dX8_layOut_45 : decode cX8_layOut 45 = .ok (.if_icmp .gt 54, 3) := by decide +kernel
theorem dX8_layOut_48 : decode cX8_layOut 48 = .ok (.aload_n 0, 1) := by decide +kernel
theorem dX8_layOut_49 : decode cX8_layOut 49 = .ok (.getfield 105, 3) := by decide +kernel
theorem dX8_layOut_52 : decode cX8_layOut 52 = .ok (.iload_n 3, 1) := by decide +kernel
theorem dX8_layOut_53 : decode cX8_layOut 53 = .ok (.iaload, 1) := by decide +kernel
theorem dX8_layOut_54 : decode cX8_layOut 54 = .ok (.ifCond .lt 16, 3) := by decide +kernel
theorem dX8_layOut_57 : decode cX8_layOut 57 = .ok (.aload_n 0, 1) := by decide +kernel
theorem dX8_layOut_58 : decode cX8_layOut 58 = .ok (.getfield 105, 3) := by decide +kernel
theorem dX8_layOut_61 : decode cX8_layOut 61 = .ok (.iload_n 3, 1) := by decide +kernel
theorem dX8_layOut_62 : decode cX8_layOut 62 = .ok (.iaload, 1) := by decide +kernel
theorem dX8_layOut_63 : decode cX8_layOut 63 = .ok (.iload_n 1, 1) := by decide +kernel
theorem dX8_layOut_64 : decode cX8_layOut 64 = .ok (.if_icmp .gt 6, 3) := by decide +kernel
theorem dX8_layOut_67 : decode cX8_layOut 67 = .ok (.goto 32, 3) := by decide +kernel
theorem dX8_layOut_70 : decode cX8_layOut 70 = .ok (.aload_n 0, 1) := by decide +kernel
theorem dX8_layOut_71 : decode cX8_layOut 71 = .ok (.getfield 115, 3) := by decide +kernel
theorem dX8_layOut_74 : decode cX8_layOut 74 = .ok (.aload_n 0, 1) := by decide +kernel
theorem dX8_layOut_75 : decode cX8_layOut 75 = .ok (.getfield 99, 3) := by decide +kernel
theorem dX8_layOut_78 : decode cX8_layOut 78 = .ok (.iload_n 3, 1) := by decide +kernel
theorem dX8_layOut_79 : decode cX8_layOut 79 = .ok (.iaload, 1) := by decide +kernel
theorem dX8_layOut_80 : decode cX8_layOut 80 = .ok (.iconst 1, 1) := by decide +kernel
theorem dX8_layOut_81 : decode cX8_layOut 81 = .ok (.bastore, 1) := by decide +kernel
theorem dX8_layOut_82 : decode cX8_layOut 82 = .ok (.aload_n 0, 1) := by decide +kernel
theorem dX8_layOut_83 : decode cX8_layOut 83 = .ok (.getfield 112, 3) := by decide +kernel
theorem dX8_layOut_86 : decode cX8_layOut 86 = .ok (.aload_n 0, 1) := by decide +kernel
theorem dX8_layOut_87 : decode cX8_layOut 87 = .ok (.getfield 99, 3) := by decide +kernel
theorem dX8_layOut_90 : decode cX8_layOut 90 = .ok (.iload_n 3, 1) := by decide +kernel
theorem dX8_layOut_91 : decode cX8_layOut 91 = .ok (.iaload, 1) := by decide +kernel
theorem dX8_layOut_92 : decode cX8_layOut 92 = .ok (.aload_n 0, 1) := by decide +kernel
theorem dX8_layOut_93 : decode cX8_layOut 93 = .ok (.getfield 108, 3) := by decide +kernel
theorem dX8_layOut_96 : decode cX8_layOut 96 = .ok (.iload_n 3, 1) := by decide +kernel
theorem dX8_layOut_97 : decode cX8_layOut 97 = .ok (.laload, 1) := by decide +kernel
theorem dX8_layOut_98 : decode cX8_layOut 98 = .ok (.lastore, 1) := by decide +kernel
theorem dX8_layOut_99 : decode cX8_layOut 99 = .ok (.iinc 3 1, 3) := by decide +kernel
theorem dX8_layOut_102 : decode cX8_layOut 102 = .ok (.goto (-72), 3) := by decide +kernel
theorem dX8_layOut_105 : decode cX8_layOut 105 = .ok (.bipush 39, 2) := by decide +kernel
theorem dX8_layOut_107 : decode cX8_layOut 107 = .ok (.istore_n 3, 1) := by decide +kernel
theorem dX8_layOut_108 : decode cX8_layOut 108 = .ok (.iload_n 3, 1) := by decide +kernel
theorem dX8_layOut_109 : decode cX8_layOut 109 = .ok (.ifCond .lt 93, 3) := by decide +kernel
theorem dX8_layOut_112 : decode cX8_layOut 112 = .ok (.aload_n 0, 1) := by decide +kernel
theorem dX8_layOut_113 : decode cX8_layOut 113 = .ok (.aload_n 0, 1) := by decide +kernel
theorem dX8_layOut_114 : decode cX8_layOut 114 = .ok (.getfield 115, 3) := by decide +kernel
theorem dX8_layOut_117 : decode cX8_layOut 117 = .ok (.iload_n 3, 1) := by decide +kernel
theorem dX8_layOut_118 : decode cX8_layOut 118 = .ok (.baload, 1) := by decide +kernel
theorem dX8_layOut_119 : decode cX8_layOut 119 = .ok (.ifCond .eq 7, 3) := by decide +kernel
theorem dX8_layOut_122 : decode cX8_layOut 122 = .ok (.iload_n 3, 1) := by decide +kernel
theorem dX8_layOut_123 : decode cX8_layOut 123 = .ok (.goto 7, 3) := by decide +kernel
theorem dX8_layOut_126 : decode cX8_layOut 126 = .ok (.aload_n 0, 1) := by decide +kernel
theorem dX8_layOut_127 : decode cX8_layOut 127 = .ok (.getfield 477, 3) := by decide +kernel
theorem dX8_layOut_130 : decode cX8_layOut 130 = .ok (.putfield 477, 3) := by decide +kernel
theorem dX8_layOut_133 : decode cX8_layOut 133 = .ok (.iconst 0, 1) := by decide +kernel
theorem dX8_layOut_134 : decode cX8_layOut 134 = .ok (.istore 4, 2) := by decide +kernel
theorem dX8_layOut_136 : decode cX8_layOut 136 = .ok (.iload 4, 2) := by decide +kernel
theorem dX8_layOut_138 : decode cX8_layOut 138 = .ok (.aload_n 0, 1) := by decide +kernel
theorem dX8_layOut_139 : decode cX8_layOut 139 = .ok (.getfield 151, 3) := by decide +kernel
theorem dX8_layOut_142 : decode cX8_layOut 142 = .ok (.if_icmp .ge 54, 3) := by decide +kernel
theorem dX8_layOut_145 : decode cX8_layOut 145 = .ok (.aload_n 0, 1) := by decide +kernel
theorem dX8_layOut_146 : decode cX8_layOut 146 = .ok (.getfield 115, 3) := by decide +kernel
theorem dX8_layOut_149 : decode cX8_layOut 149 = .ok (.iload_n 3, 1) := by decide +kernel
theorem dX8_layOut_150 : decode cX8_layOut 150 = .ok (.baload, 1) := by decide +kernel
theorem dX8_layOut_151 : decode cX8_layOut 151 = .ok (.ifCond .eq 45, 3) := by decide +kernel
theorem dX8_layOut_154 : decode cX8_layOut 154 = .ok (.iload_n 2, 1) := by decide +kernel
theorem dX8_layOut_155 : decode cX8_layOut 155 = .ok (.ifCond .eq 33, 3) := by decide +kernel
theorem dX8_layOut_158 : decode cX8_layOut 158 = .ok (.aload_n 0, 1) := by decide +kernel
theorem dX8_layOut_159 : decode cX8_layOut 159 = .ok (.getfield 30, 3) := by decide +kernel
theorem dX8_layOut_162 : decode cX8_layOut 162 = .ok (.iload 4, 2) := by decide +kernel
theorem dX8_layOut_164 : decode cX8_layOut 164 = .ok (.baload, 1) := by decide +kernel
theorem dX8_layOut_165 : decode cX8_layOut 165 = .ok (.ifCond .eq 19, 3) := by decide +kernel
theorem dX8_layOut_168 : decode cX8_layOut 168 = .ok (.aload_n 0, 1) := by decide +kernel
theorem dX8_layOut_169 : decode cX8_layOut 169 = .ok (.getfield 112, 3) := by decide +kernel
theorem dX8_layOut_172 : decode cX8_layOut 172 = .ok (.iload_n 3, 1) := by decide +kernel
theorem dX8_layOut_173 : decode cX8_layOut 173 = .ok (.laload, 1) := by decide +kernel
theorem dX8_layOut_174 : decode cX8_layOut 174 = .ok (.iload 4, 2) := by decide +kernel
theorem dX8_layOut_176 : decode cX8_layOut 176 = .ok (.lshr, 1) := by decide +kernel
theorem dX8_layOut_177 : decode cX8_layOut 177 = .ok (.lconst 1, 1) := by decide +kernel
theorem dX8_layOut_178 : decode cX8_layOut 178 = .ok (.land, 1) := by decide +kernel
theorem dX8_layOut_179 : decode cX8_layOut 179 = .ok (.lconst 1, 1) := by decide +kernel
theorem dX8_layOut_180 : decode cX8_layOut 180 = .ok (.lcmp, 1) := by decide +kernel
theorem dX8_layOut_181 : decode cX8_layOut 181 = .ok (.ifCond .eq 7, 3) := by decide +kernel
theorem dX8_layOut_184 : decode cX8_layOut 184 = .ok (.iconst 1, 1) := by decide +kernel
theorem dX8_layOut_185 : decode cX8_layOut 185 = .ok (.goto 4, 3) := by decide +kernel
theorem dX8_layOut_188 : decode cX8_layOut 188 = .ok (.iconst 0, 1) := by decide +kernel
theorem dX8_layOut_189 : decode cX8_layOut 189 = .ok (.istore_n 2, 1) := by decide +kernel
theorem dX8_layOut_190 : decode cX8_layOut 190 = .ok (.iinc 4 1, 3) := by decide +kernel
theorem dX8_layOut_193 : decode cX8_layOut 193 = .ok (.goto (-57), 3) := by decide +kernel
theorem dX8_layOut_196 : decode cX8_layOut 196 = .ok (.iinc 3 (-1), 3) := by decide +kernel
theorem dX8_layOut_199 : decode cX8_layOut 199 = .ok (.goto (-91), 3) := by decide +kernel
theorem dX8_layOut_202 : decode cX8_layOut 202 = .ok (.iload_n 2, 1) := by decide +kernel
theorem dX8_layOut_203 : decode cX8_layOut 203 = .ok (.ireturn, 1) := by decide +kernel
theorem dX8_startPlain_0 : decode cX8_startPlain 0 = .ok (.iconst 0, 1) := by decide +kernel
theorem dX8_startPlain_1 : decode cX8_startPlain 1 = .ok (.istore 4, 2) := by decide +kernel
theorem dX8_startPlain_3 : decode cX8_startPlain 3 = .ok (.iload 4, 2) := by decide +kernel
theorem dX8_startPlain_5 : decode cX8_startPlain 5 = .ok (.aload_n 0, 1) := by decide +kernel
theorem dX8_startPlain_6 : decode cX8_startPlain 6 = .ok (.getfield 151, 3) := by decide +kernel
theorem dX8_startPlain_9 : decode cX8_startPlain 9 = .ok (.if_icmp .ge 52, 3) := by decide +kernel
theorem dX8_startPlain_12 : decode cX8_startPlain 12 = .ok (.aload_n 0, 1) := by decide +kernel
theorem dX8_startPlain_13 : decode cX8_startPlain 13 = .ok (.getfield 121, 3) := by decide +kernel
theorem dX8_startPlain_16 : decode cX8_startPlain 16 = .ok (.bipush 40, 2) := by decide +kernel
theorem dX8_startPlain_18 : decode cX8_startPlain 18 = .ok (.iload_n 1, 1) := by decide +kernel
theorem dX8_startPlain_19 : decode cX8_startPlain 19 = .ok (.imul, 1) := by decide +kernel
theorem dX8_startPlain_20 : decode cX8_startPlain 20 = .ok (.iload 4, 2) := by decide +kernel
theorem dX8_startPlain_22 : decode cX8_startPlain 22 = .ok (.iadd, 1) := by decide +kernel
theorem dX8_startPlain_23 : decode cX8_startPlain 23 = .ok (.aload_n 0, 1) := by decide +kernel
theorem dX8_startPlain_24 : decode cX8_startPlain 24 = .ok (.getfield 30, 3) := by decide +kernel
theorem dX8_startPlain_27 : decode cX8_startPlain 27 = .ok (.iload 4, 2) := by decide +kernel
theorem dX8_startPlain_29 : decode cX8_startPlain 29 = .ok (.baload, 1) := by decide +kernel
theorem dX8_startPlain_30 : decode cX8_startPlain 30 = .ok (.ifCond .eq 8, 3) := by decide +kernel
theorem dX8_startPlain_33 : decode cX8_startPlain 33 = .ok (.bipush 40, 2) := by decide +kernel
theorem dX8_startPlain_35 : decode cX8_startPlain 35 = .ok (.goto 19, 3) := by decide +kernel
theorem dX8_startPlain_38 : decode cX8_startPlain 38 = .ok (.lload_n 2, 1) := by decide +kernel
theorem dX8_startPlain_39 : decode cX8_startPlain 39 = .ok (.iload 4, 2) := by decide +kernel
theorem dX8_startPlain_41 : decode cX8_startPlain 41 = .ok (.lshr, 1) := by decide +kernel
theorem dX8_startPlain_42 : decode cX8_startPlain 42 = .ok (.lconst 1, 1) := by decide +kernel
theorem dX8_startPlain_43 : decode cX8_startPlain 43 = .ok (.land, 1) := by decide +kernel
theorem dX8_startPlain_44 : decode cX8_startPlain 44 = .ok (.lconst 1, 1) := by decide +kernel
theorem dX8_startPlain_45 : decode cX8_startPlain 45 = .ok (.lcmp, 1) := by decide +kernel
theorem dX8_startPlain_46 : decode cX8_startPlain 46 = .ok (.ifCond .ne 7, 3) := by decide +kernel
theorem dX8_startPlain_49 : decode cX8_startPlain 49 = .ok (.iconst 1, 1) := by decide +kernel
theorem dX8_startPlain_50 : decode cX8_startPlain 50 = .ok (.goto 4, 3) := by decide +kernel
theorem dX8_startPlain_53 : decode cX8_startPlain 53 = .ok (.iconst 0, 1) := by decide +kernel
theorem dX8_startPlain_54 : decode cX8_startPlain 54 = .ok (.iastore, 1) := by decide +kernel
theorem dX8_startPlain_55 : decode cX8_startPlain 55 = .ok (.iinc 4 1, 3) := by decide +kernel
theorem dX8_startPlain_58 : decode cX8_startPlain 58 = .ok (.goto (-55), 3) := by decide +kernel
theorem dX8_startPlain_61 : decode cX8_startPlain 61 = .ok (.return_, 1) := by decide +kernel
theorem dX8_stepPlain_0 : decode cX8_stepPlain 0 = .ok (.iload_n 2, 1) := by decide +kernel
theorem dX8_stepPlain_1 : decode cX8_stepPlain 1 = .ok (.iconst 4, 1) := by decide +kernel
theorem dX8_stepPlain_2 : decode cX8_stepPlain 2 = .ok (.irem, 1) := by decide +kernel
theorem dX8_stepPlain_3 : decode cX8_stepPlain 3 = .ok (.istore_n 3, 1) := by decide +kernel
theorem dX8_stepPlain_4 : decode cX8_stepPlain 4 = .ok (.iload_n 2, 1) := by decide +kernel
theorem dX8_stepPlain_5 : decode cX8_stepPlain 5 = .ok (.iconst 4, 1) := by decide +kernel
theorem dX8_stepPlain_6 : decode cX8_stepPlain 6 = .ok (.idiv, 1) := by decide +kernel
theorem dX8_stepPlain_7 : decode cX8_stepPlain 7 = .ok (.iconst 3, 1) := by decide +kernel
theorem dX8_stepPlain_8 : decode cX8_stepPlain 8 = .ok (.irem, 1) := by decide +kernel
theorem dX8_stepPlain_9 : decode cX8_stepPlain 9 = .ok (.iconst 1, 1) := by decide +kernel
theorem dX8_stepPlain_10 : decode cX8_stepPlain 10 = .ok (.iadd, 1) := by decide +kernel
theorem dX8_stepPlain_11 : decode cX8_stepPlain 11 = .ok (.istore 4, 2) := by decide +kernel
theorem dX8_stepPlain_13 : decode cX8_stepPlain 13 = .ok (.iload_n 2, 1) := by decide +kernel
theorem dX8_stepPlain_14 : decode cX8_stepPlain 14 = .ok (.bipush 12, 2) := by decide +kernel
theorem dX8_stepPlain_16 : decode cX8_stepPlain 16 = .ok (.idiv, 1) := by decide +kernel
theorem dX8_stepPlain_17 : decode cX8_stepPlain 17 = .ok (.iconst 3, 1) := by decide +kernel
theorem dX8_stepPlain_18 : decode cX8_stepPlain 18 = .ok (.irem, 1) := by decide +kernel
theorem dX8_stepPlain_19 : decode cX8_stepPlain 19 = .ok (.iconst 1, 1) := by decide +kernel
theorem dX8_stepPlain_20 : decode cX8_stepPlain 20 = .ok (.iadd, 1) := by decide +kernel
theorem dX8_stepPlain_21 : decode cX8_stepPlain 21 = .ok (.istore 5, 2) := by decide +kernel
theorem dX8_stepPlain_23 : decode cX8_stepPlain 23 = .ok (.iload_n 2, 1) := by decide +kernel
theorem dX8_stepPlain_24 : decode cX8_stepPlain 24 = .ok (.bipush 36, 2) := by decide +kernel
theorem dX8_stepPlain_26 : decode cX8_stepPlain 26 = .ok (.idiv, 1) := by decide +kernel
theorem dX8_stepPlain_27 : decode cX8_stepPlain 27 = .ok (.iconst 3, 1) := by decide +kernel
theorem dX8_stepPlain_28 : decode cX8_stepPlain 28 = .ok (.irem, 1) := by decide +kernel
theorem dX8_stepPlain_29 : decode cX8_stepPlain 29 = .ok (.iconst 1, 1) := by decide +kernel
theorem dX8_stepPlain_30 : decode cX8_stepPlain 30 = .ok (.iadd, 1) := by decide +kernel
theorem dX8_stepPlain_31 : decode cX8_stepPlain 31 = .ok (.istore 6, 2) := by decide +kernel
theorem dX8_stepPlain_33 : decode cX8_stepPlain 33 = .ok (.iload_n 2, 1) := by decide +kernel
theorem dX8_stepPlain_34 : decode cX8_stepPlain 34 = .ok (.bipush 108, 2) := by decide +kernel
theorem dX8_stepPlain_36 : decode cX8_stepPlain 36 = .ok (.idiv, 1) := by decide +kernel
theorem dX8_stepPlain_37 : decode cX8_stepPlain 37 = .ok (.istore 7, 2) := by decide +kernel
theorem dX8_stepPlain_39 : decode cX8_stepPlain 39 = .ok (.iconst 0, 1) := by decide +kernel
theorem dX8_stepPlain_40 : decode cX8_stepPlain 40 = .ok (.istore 8, 2) := by decide +kernel
theorem dX8_stepPlain_42 : decode cX8_stepPlain 42 = .ok (.iload 8, 2) := by decide +kernel
theorem dX8_stepPlain_44 : decode cX8_stepPlain 44 = .ok (.aload_n 0, 1) := by decide +kernel
theorem dX8_stepPlain_45 : decode cX8_stepPlain 45 = .ok (.getfield 151, 3) := by decide +kernel
theorem dX8_stepPlain_48 : decode cX8_stepPlain 48 = .ok (.if_icmp .ge 28, 3) := by decide +kernel
theorem dX8_stepPlain_51 : decode cX8_stepPlain 51 = .ok (.aload_n 0, 1) := by decide +kernel
theorem dX8_stepPlain_52 : decode cX8_stepPlain 52 = .ok (.getfield 127, 3) := by decide +kernel
theorem dX8_stepPlain_55 : decode cX8_stepPlain 55 = .ok (.iload 8, 2) := by decide +kernel
theorem dX8_stepPlain_57 : decode cX8_stepPlain 57 = .ok (.aload_n 0, 1) := by decide +kernel
theorem dX8_stepPlain_58 : decode cX8_stepPlain 58 = .ok (.getfield 121, 3) := by decide +kernel
theorem dX8_stepPlain_61 : decode cX8_stepPlain 61 = .ok (.bipush 40, 2) := by decide +kernel
theorem dX8_stepPlain_63 : decode cX8_stepPlain 63 = .ok (.iload_n 1, 1) := by decide +kernel
theorem dX8_stepPlain_64 : decode cX8_stepPlain 64 = .ok (.imul, 1) := by decide +kernel
theorem dX8_stepPlain_65 : decode cX8_stepPlain 65 = .ok (.iload 8, 2) := by decide +kernel
theorem dX8_stepPlain_67 : decode cX8_stepPlain 67 = .ok (.iadd, 1) := by decide +kernel
theorem dX8_stepPlain_68 : decode cX8_stepPlain 68 = .ok (.iaload, 1) := by decide +kernel
theorem dX8_stepPlain_69 : decode cX8_stepPlain 69 = .ok (.iastore, 1) := by decide +kernel
theorem dX8_stepPlain_70 : decode cX8_stepPlain 70 = .ok (.iinc 8 1, 3) := by decide +kernel
theorem dX8_stepPlain_73 : decode cX8_stepPlain 73 = .ok (.goto (-31), 3) := by decide +kernel
theorem dX8_stepPlain_76 : decode cX8_stepPlain 76 = .ok (.iconst 0, 1) := by decide +kernel
theorem dX8_stepPlain_77 : decode cX8_stepPlain 77 = .ok (.istore 8, 2) := by decide +kernel
theorem dX8_stepPlain_79 : decode cX8_stepPlain 79 = .ok (.iload 8, 2) := by decide +kernel
theorem dX8_stepPlain_81 : decode cX8_stepPlain 81 = .ok (.aload_n 0, 1) := by decide +kernel
theorem dX8_stepPlain_82 : decode cX8_stepPlain 82 = .ok (.getfield 151, 3) := by decide +kernel
theorem dX8_stepPlain_85 : decode cX8_stepPlain 85 = .ok (.if_icmp .ge 112, 3) := by decide +kernel
theorem dX8_stepPlain_88 : decode cX8_stepPlain 88 = .ok (.iload 7, 2) := by decide +kernel
theorem dX8_stepPlain_90 : decode cX8_stepPlain 90 = .ok (.iconst 1, 1) := by decide +kernel
theorem dX8_stepPlain_91 : decode cX8_stepPlain 91 = .ok (.if_icmp .ne 7, 3) := by decide +kernel
theorem dX8_stepPlain_94 : decode cX8_stepPlain 94 = .ok (.iconst 0, 1) := by decide +kernel
theorem dX8_stepPlain_95 : decode cX8_stepPlain 95 = .ok (.goto 16, 3) := by decide +kernel
theorem dX8_stepPlain_98 : decode cX8_stepPlain 98 = .ok (.aload_n 0, 1) := by decide +kernel
theorem dX8_stepPlain_99 : decode cX8_stepPlain 99 = .ok (.aload_n 0, 1) := by decide +kernel
theorem dX8_stepPlain_100 : decode cX8_stepPlain 100 = .ok (.getfield 127, 3) := by decide +kernel
theorem dX8_stepPlain_103 : decode cX8_stepPlain 103 = .ok (.iload 8, 2) := by decide +kernel
theorem dX8_stepPlain_105 : decode cX8_stepPlain 105 = .ok (.iconst (-1), 1) := by decide +kernel
theorem dX8_stepPlain_106 : decode cX8_stepPlain 106 = .ok (.iload 6, 2) := by decide +kernel
theorem dX8_stepPlain_108 : decode cX8_stepPlain 108 = .ok (.invokevirtual 399, 3) := by decide +kernel
theorem dX8_stepPlain_111 : decode cX8_stepPlain 111 = .ok (.istore 9, 2) := by decide +kernel
theorem dX8_stepPlain_113 : decode cX8_stepPlain 113 = .ok (.iload 9, 2) := by decide +kernel
theorem dX8_stepPlain_115 : decode cX8_stepPlain 115 = .ok (.iload 7, 2) := by decide +kernel
theorem dX8_stepPlain_117 : decode cX8_stepPlain 117 = .ok (.ifCond .ne 7, 3) := by decide +kernel
theorem dX8_stepPlain_120 : decode cX8_stepPlain 120 = .ok (.iconst 0, 1) := by decide +kernel
theorem dX8_stepPlain_121 : decode cX8_stepPlain 121 = .ok (.goto 16, 3) := by decide +kernel
theorem dX8_stepPlain_124 : decode cX8_stepPlain 124 = .ok (.aload_n 0, 1) := by decide +kernel
theorem dX8_stepPlain_125 : decode cX8_stepPlain 125 = .ok (.aload_n 0, 1) := by decide +kernel
theorem dX8_stepPlain_126 : decode cX8_stepPlain 126 = .ok (.getfield 127, 3) := by decide +kernel
theorem dX8_stepPlain_129 : decode cX8_stepPlain 129 = .ok (.iload 8, 2) := by decide +kernel
theorem dX8_stepPlain_131 : decode cX8_stepPlain 131 = .ok (.iconst 1, 1) := by decide +kernel
theorem dX8_stepPlain_132 : decode cX8_stepPlain 132 = .ok (.iload 6, 2) := by decide +kernel
theorem dX8_stepPlain_134 : decode cX8_stepPlain 134 = .ok (.invokevirtual 399, 3) := by decide +kernel
theorem dX8_stepPlain_137 : decode cX8_stepPlain 137 = .ok (.iadd, 1) := by decide +kernel
theorem dX8_stepPlain_138 : decode cX8_stepPlain 138 = .ok (.istore 9, 2) := by decide +kernel
theorem dX8_stepPlain_140 : decode cX8_stepPlain 140 = .ok (.aload_n 0, 1) := by decide +kernel
theorem dX8_stepPlain_141 : decode cX8_stepPlain 141 = .ok (.getfield 124, 3) := by decide +kernel
theorem dX8_stepPlain_144 : decode cX8_stepPlain 144 = .ok (.iload 8, 2) := by decide +kernel
theorem dX8_stepPlain_146 : decode cX8_stepPlain 146 = .ok (.aload_n 0, 1) := by decide +kernel
theorem dX8_stepPlain_147 : decode cX8_stepPlain 147 = .ok (.getfield 127, 3) := by decide +kernel
theorem dX8_stepPlain_150 : decode cX8_stepPlain 150 = .ok (.iload 8, 2) := by decide +kernel
theorem dX8_stepPlain_152 : decode cX8_stepPlain 152 = .ok (.iaload, 1) := by decide +kernel
theorem dX8_stepPlain_153 : decode cX8_stepPlain 153 = .ok (.ifCond .ne 24, 3) := by decide +kernel
theorem dX8_stepPlain_156 : decode cX8_stepPlain 156 = .ok (.aload_n 0, 1) := by decide +kernel
theorem dX8_stepPlain_157 : decode cX8_stepPlain 157 = .ok (.getfield 27, 3) := by decide +kernel
theorem dX8_stepPlain_160 : decode cX8_stepPlain 160 = .ok (.iload 8, 2) := by decide +kernel
theorem dX8_stepPlain_162 : decode cX8_stepPlain 162 = .ok (.baload, 1) := by decide +kernel
theorem dX8_stepPlain_163 : decode cX8_stepPlain 163 = .ok (.ifCond .ne 14, 3) := by decide +kernel
theorem dX8_stepPlain_166 : decode cX8_stepPlain 166 = .ok (.iload 9, 2) := by decide +kernel
theorem dX8_stepPlain_168 : decode cX8_stepPlain 168 = .ok (.iload 5, 2) := by decide +kernel
theorem dX8_stepPlain_170 : decode cX8_stepPlain 170 = .ok (.if_icmp .lt 7, 3) := by decide +kernel
theorem dX8_stepPlain_173 : decode cX8_stepPlain 173 = .ok (.iconst 1, 1) := by decide +kernel
theorem dX8_stepPlain_174 : decode cX8_stepPlain 174 = .ok (.goto 16, 3) := by decide +kernel
theorem dX8_stepPlain_177 : decode cX8_stepPlain 177 = .ok (.aload_n 0, 1) := by decide +kernel
theorem dX8_stepPlain_178 : decode cX8_stepPlain 178 = .ok (.getfield 127, 3) := by decide +kernel
theorem dX8_stepPlain_181 : decode cX8_stepPlain 181 = .ok (.iload 8, 2) := by decide +kernel
theorem dX8_stepPlain_183 : decode cX8_stepPlain 183 = .ok (.iaload, 1) := by decide +kernel
theorem dX8_stepPlain_184 : decode cX8_stepPlain 184 = .ok (.iload 4, 2) := by decide +kernel
theorem dX8_stepPlain_186 : decode cX8_stepPlain 186 = .ok (.iload_n 3, 1) := by decide +kernel
theorem dX8_stepPlain_187 : decode cX8_stepPlain 187 = .ok (.invokestatic 424, 3) := by decide +kernel
theorem dX8_stepPlain_190 : decode cX8_stepPlain 190 = .ok (.iastore, 1) := by decide +kernel
theorem dX8_stepPlain_191 : decode cX8_stepPlain 191 = .ok (.iinc 8 1, 3) := by decide +kernel
theorem dX8_stepPlain_194 : decode cX8_stepPlain 194 = .ok (.goto (-115), 3) := by decide +kernel
theorem dX8_stepPlain_197 : decode cX8_stepPlain 197 = .ok (.iconst 0, 1) := by decide +kernel
theorem dX8_stepPlain_198 : decode cX8_stepPlain 198 = .ok (.istore 8, 2) := by decide +kernel
theorem dX8_stepPlain_200 : decode cX8_stepPlain 200 = .ok (.iload 8, 2) := by decide +kernel
theorem dX8_stepPlain_202 : decode cX8_stepPlain 202 = .ok (.aload_n 0, 1) := by decide +kernel
theorem dX8_stepPlain_203 : decode cX8_stepPlain 203 = .ok (.getfield 151, 3) := by decide +kernel
theorem dX8_stepPlain_206 : decode cX8_stepPlain 206 = .ok (.if_icmp .ge 28, 3) := by decide +kernel
theorem dX8_stepPlain_209 : decode cX8_stepPlain 209 = .ok (.aload_n 0, 1) := by decide +kernel
theorem dX8_stepPlain_210 : decode cX8_stepPlain 210 = .ok (.getfield 121, 3) := by decide +kernel
theorem dX8_stepPlain_213 : decode cX8_stepPlain 213 = .ok (.bipush 40, 2) := by decide +kernel
theorem dX8_stepPlain_215 : decode cX8_stepPlain 215 = .ok (.iload_n 1, 1) := by decide +kernel
theorem dX8_stepPlain_216 : decode cX8_stepPlain 216 = .ok (.imul, 1) := by decide +kernel
theorem dX8_stepPlain_217 : decode cX8_stepPlain 217 = .ok (.iload 8, 2) := by decide +kernel
theorem dX8_stepPlain_219 : decode cX8_stepPlain 219 = .ok (.iadd, 1) := by decide +kernel
theorem dX8_stepPlain_220 : decode cX8_stepPlain 220 = .ok (.aload_n 0, 1) := by decide +kernel
theorem dX8_stepPlain_221 : decode cX8_stepPlain 221 = .ok (.getfield 124, 3) := by decide +kernel
theorem dX8_stepPlain_224 : decode cX8_stepPlain 224 = .ok (.iload 8, 2) := by decide +kernel
theorem dX8_stepPlain_226 : decode cX8_stepPlain 226 = .ok (.iaload, 1) := by decide +kernel
theorem dX8_stepPlain_227 : decode cX8_stepPlain 227 = .ok (.iastore, 1) := by decide +kernel
theorem dX8_stepPlain_228 : decode cX8_stepPlain 228 = .ok (.iinc 8 1, 3) := by decide +kernel
theorem dX8_stepPlain_231 : decode cX8_stepPlain 231 = .ok (.goto (-31), 3) := by decide +kernel
theorem dX8_stepPlain_234 : decode cX8_stepPlain 234 = .ok (.return_, 1) := by decide +kernel
theorem dX8_upsOf_0 : decode cX8_upsOf 0 = .ok (.lconst 0, 1) := by decide +kernel
theorem dX8_upsOf_1 : decode cX8_upsOf 1 = .ok (.lstore_n 2, 1) := by decide +kernel
theorem dX8_upsOf_2 : decode cX8_upsOf 2 = .ok (.iconst 0, 1) := by decide +kernel
theorem dX8_upsOf_3 : decode cX8_upsOf 3 = .ok (.istore 4, 2) := by decide +kernel
theorem dX8_upsOf_5 : decode cX8_upsOf 5 = .ok (.iload 4, 2) := by decide +kernel
theorem dX8_upsOf_7 : decode cX8_upsOf 7 = .ok (.aload_n 0, 1) := by decide +kernel
theorem dX8_upsOf_8 : decode cX8_upsOf 8 = .ok (.getfield 151, 3) := by decide +kernel
theorem dX8_upsOf_11 : decode cX8_upsOf 11 = .ok (.if_icmp .ge 38, 3) := by decide +kernel
theorem dX8_upsOf_14 : decode cX8_upsOf 14 = .ok (.lload_n 2, 1) := by decide +kernel
theorem dX8_upsOf_15 : decode cX8_upsOf 15 = .ok (.aload_n 0, 1) := by decide +kernel
theorem dX8_upsOf_16 : decode cX8_upsOf 16 = .ok (.getfield 121, 3) := by decide +kernel
theorem dX8_upsOf_19 : decode cX8_upsOf 19 = .ok (.bipush 40, 2) := by decide +kernel
theorem dX8_upsOf_21 : decode cX8_upsOf 21 = .ok (.iload_n 1, 1) := by decide +kernel
theorem dX8_upsOf_22 : decode cX8_upsOf 22 = .ok (.imul, 1) := by decide +kernel
theorem dX8_upsOf_23 : decode cX8_upsOf 23 = .ok (.iload 4, 2) := by decide +kernel
theorem dX8_upsOf_25 : decode cX8_upsOf 25 = .ok (.iadd, 1) := by decide +kernel
theorem dX8_upsOf_26 : decode cX8_upsOf 26 = .ok (.iaload, 1) := by decide +kernel
theorem dX8_upsOf_27 : decode cX8_upsOf 27 = .ok (.invokestatic 393, 3) := by decide +kernel
theorem dX8_upsOf_30 : decode cX8_upsOf 30 = .ok (.ifCond .eq 10, 3) := by decide +kernel
theorem dX8_upsOf_33 : decode cX8_upsOf 33 = .ok (.lconst 1, 1) := by decide +kernel
theorem dX8_upsOf_34 : decode cX8_upsOf 34 = .ok (.iload 4, 2) := by decide +kernel
theorem dX8_upsOf_36 : decode cX8_upsOf 36 = .ok (.lshl, 1) := by decide +kernel
theorem dX8_upsOf_37 : decode cX8_upsOf 37 = .ok (.goto 4, 3) := by decide +kernel
theorem dX8_upsOf_40 : decode cX8_upsOf 40 = .ok (.lconst 0, 1) := by decide +kernel
theorem dX8_upsOf_41 : decode cX8_upsOf 41 = .ok (.lor, 1) := by decide +kernel
theorem dX8_upsOf_42 : decode cX8_upsOf 42 = .ok (.lstore_n 2, 1) := by decide +kernel
theorem dX8_upsOf_43 : decode cX8_upsOf 43 = .ok (.iinc 4 1, 3) := by decide +kernel
theorem dX8_upsOf_46 : decode cX8_upsOf 46 = .ok (.goto (-41), 3) := by decide +kernel
theorem dX8_upsOf_49 : decode cX8_upsOf 49 = .ok (.lload_n 2, 1) := by decide +kernel
theorem dX8_upsOf_50 : decode cX8_upsOf 50 = .ok (.lreturn, 1) := by decide +kernel
theorem dX8_fitsAll_0 : decode cX8_fitsAll 0 = .ok (.aload_n 0, 1) := by decide +kernel
theorem dX8_fitsAll_1 : decode cX8_fitsAll 1 = .ok (.iconst 0, 1) := by decide +kernel
theorem dX8_fitsAll_2 : decode cX8_fitsAll 2 = .ok (.aload_n 0, 1) := by decide +kernel
theorem dX8_fitsAll_3 : decode cX8_fitsAll 3 = .ok (.getfield 112, 3) := by decide +kernel
theorem dX8_fitsAll_6 : decode cX8_fitsAll 6 = .ok (.aload_n 0, 1) := by decide +kernel
theorem dX8_fitsAll_7 : decode cX8_fitsAll 7 = .ok (.getfield 477, 3) := by decide +kernel
theorem dX8_fitsAll_10 : decode cX8_fitsAll 10 = .ok (.laload, 1) := by decide +kernel
theorem dX8_fitsAll_11 : decode cX8_fitsAll 11 = .ok (.invokevirtual 480, 3) := by decide +kernel
theorem dX8_fitsAll_14 : decode cX8_fitsAll 14 = .ok (.aload_n 0, 1) := by decide +kernel
theorem dX8_fitsAll_15 : decode cX8_fitsAll 15 = .ok (.getfield 477, 3) := by decide +kernel
theorem dX8_fitsAll_18 : decode cX8_fitsAll 18 = .ok (.iconst 1, 1) := by decide +kernel
theorem dX8_fitsAll_19 : decode cX8_fitsAll 19 = .ok (.iadd, 1) := by decide +kernel
theorem dX8_fitsAll_20 : decode cX8_fitsAll 20 = .ok (.istore_n 2, 1) := by decide +kernel
theorem dX8_fitsAll_21 : decode cX8_fitsAll 21 = .ok (.iload_n 2, 1) := by decide +kernel
theorem dX8_fitsAll_22 : decode cX8_fitsAll 22 = .ok (.bipush 40, 2) := by decide +kernel
theorem dX8_fitsAll_24 : decode cX8_fitsAll 24 = .ok (.if_icmp .ge 41, 3) := by decide +kernel
theorem dX8_fitsAll_27 : decode cX8_fitsAll 27 = .ok (.aload_n 0, 1) := by decide +kernel
theorem dX8_fitsAll_28 : decode cX8_fitsAll 28 = .ok (.iconst 0, 1) := by decide +kernel
theorem dX8_fitsAll_29 : decode cX8_fitsAll 29 = .ok (.iload_n 1, 1) := by decide +kernel
theorem dX8_fitsAll_30 : decode cX8_fitsAll 30 = .ok (.invokevirtual 484, 3) := by decide +kernel
theorem dX8_fitsAll_33 : decode cX8_fitsAll 33 = .ok (.aload_n 0, 1) := by decide +kernel
theorem dX8_fitsAll_34 : decode cX8_fitsAll 34 = .ok (.getfield 115, 3) := by decide +kernel
theorem dX8_fitsAll_37 : decode cX8_fitsAll 37 = .ok (.iload_n 2, 1) := by decide +kernel
theorem dX8_fitsAll_38 : decode cX8_fitsAll 38 = .ok (.baload, 1) := by decide +kernel
theorem dX8_fitsAll_39 : decode cX8_fitsAll 39 = .ok (.ifCond .eq 20, 3) := by decide +kernel
theorem dX8_fitsAll_42 : decode cX8_fitsAll 42 = .ok (.aload_n 0, 1) := by decide +kernel
theorem dX8_fitsAll_43 : decode cX8_fitsAll 43 = .ok (.iconst 0, 1) := by decide +kernel
theorem dX8_fitsAll_44 : decode cX8_fitsAll 44 = .ok (.invokevirtual 487, 3) := by decide +kernel
theorem dX8_fitsAll_47 : decode cX8_fitsAll 47 = .ok (.aload_n 0, 1) := by decide +kernel
theorem dX8_fitsAll_48 : decode cX8_fitsAll 48 = .ok (.getfield 112, 3) := by decide +kernel
theorem dX8_fitsAll_51 : decode cX8_fitsAll 51 = .ok (.iload_n 2, 1) := by decide +kernel
theorem dX8_fitsAll_52 : decode cX8_fitsAll 52 = .ok (.laload, 1) := by decide +kernel
theorem dX8_fitsAll_53 : decode cX8_fitsAll 53 = .ok (.lcmp, 1) := by decide +kernel
theorem dX8_fitsAll_54 : decode cX8_fitsAll 54 = .ok (.ifCond .eq 5, 3) := by decide +kernel
theorem dX8_fitsAll_57 : decode cX8_fitsAll 57 = .ok (.iconst 0, 1) := by decide +kernel
theorem dX8_fitsAll_58 : decode cX8_fitsAll 58 = .ok (.ireturn, 1) := by decide +kernel
theorem dX8_fitsAll_59 : decode cX8_fitsAll 59 = .ok (.iinc 2 1, 3) := by decide +kernel
theorem dX8_fitsAll_62 : decode cX8_fitsAll 62 = .ok (.goto (-41), 3) := by decide +kernel
theorem dX8_fitsAll_65 : decode cX8_fitsAll 65 = .ok (.iconst 1, 1) := by decide +kernel
theorem dX8_fitsAll_66 : decode cX8_fitsAll 66 = .ok (.ireturn, 1) := by decide +kernel
theorem dX8_seekFits_0 : decode cX8_seekFits 0 = .ok (.aload_n 0, 1) := by decide +kernel
theorem dX8_seekFits_1 : decode cX8_seekFits 1 = .ok (.iload_n 1, 1) := by decide +kernel
theorem dX8_seekFits_2 : decode cX8_seekFits 2 = .ok (.invokevirtual 491, 3) := by decide +kernel
theorem dX8_seekFits_5 : decode cX8_seekFits 5 = .ok (.istore_n 2, 1) := by decide +kernel
theorem dX8_seekFits_6 : decode cX8_seekFits 6 = .ok (.iconst 0, 1) := by decide +kernel
theorem dX8_seekFits_7 : decode cX8_seekFits 7 = .ok (.istore_n 3, 1) := by decide +kernel
theorem dX8_seekFits_8 : decode cX8_seekFits 8 = .ok (.iconst 0, 1) := by decide +kernel
theorem dX8_seekFits_9 : decode cX8_seekFits 9 = .ok (.istore 4, 2) := by decide +kernel
theorem dX8_seekFits_11 : decode cX8_seekFits 11 = .ok (.iload 4, 2) := by decide +kernel
theorem dX8_seekFits_13 : decode cX8_seekFits 13 = .ok (.sipush 324, 3) := by decide +kernel
theorem dX8_seekFits_16 : decode cX8_seekFits 16 = .ok (.if_icmp .ge 59, 3) := by decide +kernel
theorem dX8_seekFits_19 : decode cX8_seekFits 19 = .ok (.aload_n 0, 1) := by decide +kernel
theorem dX8_seekFits_20 : decode cX8_seekFits 20 = .ok (.getfield 118, 3) := by decide +kernel
theorem dX8_seekFits_23 : decode cX8_seekFits 23 = .ok (.iload 4, 2) := by decide +kernel
theorem dX8_seekFits_25 : decode cX8_seekFits 25 = .ok (.iload_n 2, 1) := by decide +kernel
theorem dX8_seekFits_26 : decode cX8_seekFits 26 = .ok (.ifCond .eq 23, 3) := by decide +kernel
theorem dX8_seekFits_29 : decode cX8_seekFits 29 = .ok (.aload_n 0, 1) := by decide +kernel
theorem dX8_seekFits_30 : decode cX8_seekFits 30 = .ok (.getfield 477, 3) := by decide +kernel
theorem dX8_seekFits_33 : decode cX8_seekFits 33 = .ok (.ifCond .lt 12, 3) := by decide +kernel
theorem dX8_seekFits_36 : decode cX8_seekFits 36 = .ok (.aload_n 0, 1) := by decide +kernel
theorem dX8_seekFits_37 : decode cX8_seekFits 37 = .ok (.iload 4, 2) := by decide +kernel
theorem dX8_seekFits_39 : decode cX8_seekFits 39 = .ok (.invokevirtual 494, 3) := by decide +kernel
theorem dX8_seekFits_42 : decode cX8_seekFits 42 = .ok (.ifCond .eq 7, 3) := by decide +kernel
theorem dX8_seekFits_45 : decode cX8_seekFits 45 = .ok (.iconst 1, 1) := by decide +kernel
theorem dX8_seekFits_46 : decode cX8_seekFits 46 = .ok (.goto 4, 3) := by decide +kernel
theorem dX8_seekFits_49 : decode cX8_seekFits 49 = .ok (.iconst 0, 1) := by decide +kernel
theorem dX8_seekFits_50 : decode cX8_seekFits 50 = .ok (.bastore, 1) := by decide +kernel
theorem dX8_seekFits_51 : decode cX8_seekFits 51 = .ok (.iload_n 3, 1) := by decide +kernel
theorem dX8_seekFits_52 : decode cX8_seekFits 52 = .ok (.aload_n 0, 1) := by decide +kernel
theorem dX8_seekFits_53 : decode cX8_seekFits 53 = .ok (.getfield 118, 3) := by decide +kernel
theorem dX8_seekFits_56 : decode cX8_seekFits 56 = .ok (.iload 4, 2) := by decide +kernel
theorem dX8_seekFits_58 : decode cX8_seekFits 58 = .ok (.baload, 1) := by decide +kernel
theorem dX8_seekFits_59 : decode cX8_seekFits 59 = .ok (.ifCond .eq 7, 3) := by decide +kernel
theorem dX8_seekFits_62 : decode cX8_seekFits 62 = .ok (.iconst 1, 1) := by decide +kernel
theorem dX8_seekFits_63 : decode cX8_seekFits 63 = .ok (.goto 4, 3) := by decide +kernel
theorem dX8_seekFits_66 : decode cX8_seekFits 66 = .ok (.iconst 0, 1) := by decide +kernel
theorem dX8_seekFits_67 : decode cX8_seekFits 67 = .ok (.iadd, 1) := by decide +kernel
theorem dX8_seekFits_68 : decode cX8_seekFits 68 = .ok (.istore_n 3, 1) := by decide +kernel
theorem dX8_seekFits_69 : decode cX8_seekFits 69 = .ok (.iinc 4 1, 3) := by decide +kernel
theorem dX8_seekFits_72 : decode cX8_seekFits 72 = .ok (.goto (-61), 3) := by decide +kernel
theorem dX8_seekFits_75 : decode cX8_seekFits 75 = .ok (.iload_n 3, 1) := by decide +kernel
theorem dX8_seekFits_76 : decode cX8_seekFits 76 = .ok (.ireturn, 1) := by decide +kernel
theorem dX8_fits_0 : decode cX8_fits 0 = .ok (.aload_n 0, 1) := by decide +kernel
theorem dX8_fits_1 : decode cX8_fits 1 = .ok (.iload_n 1, 1) := by decide +kernel
theorem dX8_fits_2 : decode cX8_fits 2 = .ok (.invokevirtual 497, 3) := by decide +kernel
theorem dX8_fits_5 : decode cX8_fits 5 = .ok (.ireturn, 1) := by decide +kernel
theorem dX8_fit_0 : decode cX8_fit 0 = .ok (.iload_n 1, 1) := by decide +kernel
theorem dX8_fit_1 : decode cX8_fit 1 = .ok (.ifCond .lt 12, 3) := by decide +kernel
theorem dX8_fit_4 : decode cX8_fit 4 = .ok (.iload_n 1, 1) := by decide +kernel
theorem dX8_fit_5 : decode cX8_fit 5 = .ok (.aload_n 0, 1) := by decide +kernel
theorem dX8_fit_6 : decode cX8_fit 6 = .ok (.iload_n 2, 1) := by decide +kernel
theorem dX8_fit_7 : decode cX8_fit 7 = .ok (.invokevirtual 497, 3) := by decide +kernel
theorem dX8_fit_10 : decode cX8_fit 10 = .ok (.if_icmp .lt 5, 3) := by decide +kernel
theorem dX8_fit_13 : decode cX8_fit 13 = .ok (.iconst (-1), 1) := by decide +kernel
theorem dX8_fit_14 : decode cX8_fit 14 = .ok (.ireturn, 1) := by decide +kernel
theorem dX8_fit_15 : decode cX8_fit 15 = .ok (.iload_n 1, 1) := by decide +kernel
theorem dX8_fit_16 : decode cX8_fit 16 = .ok (.istore_n 3, 1) := by decide +kernel
theorem dX8_fit_17 : decode cX8_fit 17 = .ok (.iconst 0, 1) := by decide +kernel
theorem dX8_fit_18 : decode cX8_fit 18 = .ok (.istore 4, 2) := by decide +kernel
theorem dX8_fit_20 : decode cX8_fit 20 = .ok (.aload_n 0, 1) := by decide +kernel
theorem dX8_fit_21 : decode cX8_fit 21 = .ok (.getfield 118, 3) := by decide +kernel
theorem dX8_fit_24 : decode cX8_fit 24 = .ok (.iload 4, 2) := by decide +kernel
theorem dX8_fit_26 : decode cX8_fit 26 = .ok (.baload, 1) := by decide +kernel
theorem dX8_fit_27 : decode cX8_fit 27 = .ok (.ifCond .eq 7, 3) := by decide +kernel
theorem dX8_fit_30 : decode cX8_fit 30 = .ok (.iload_n 3, 1) := by decide +kernel
theorem dX8_fit_31 : decode cX8_fit 31 = .ok (.ifCond .le 27, 3) := by decide +kernel
theorem dX8_fit_34 : decode cX8_fit 34 = .ok (.iload_n 3, 1) := by decide +kernel
theorem dX8_fit_35 : decode cX8_fit 35 = .ok (.aload_n 0, 1) := by decide +kernel
theorem dX8_fit_36 : decode cX8_fit 36 = .ok (.getfield 118, 3) := by decide +kernel
theorem dX8_fit_39 : decode cX8_fit 39 = .ok (.iload 4, 2) := by decide +kernel
theorem dX8_fit_41 : decode cX8_fit 41 = .ok (.baload, 1) := by decide +kernel
theorem dX8_fit_42 : decode cX8_fit 42 = .ok (.ifCond .eq 7, 3) := by decide +kernel
theorem dX8_fit_45 : decode cX8_fit 45 = .ok (.iconst 1, 1) := by decide +kernel
theorem dX8_fit_46 : decode cX8_fit 46 = .ok (.goto 4, 3) := by decide +kernel
theorem dX8_fit_49 : decode cX8_fit 49 = .ok (.iconst 0, 1) := by decide +kernel
theorem dX8_fit_50 : decode cX8_fit 50 = .ok (.isub, 1) := by decide +kernel
theorem dX8_fit_51 : decode cX8_fit 51 = .ok (.istore_n 3, 1) := by decide +kernel
theorem dX8_fit_52 : decode cX8_fit 52 = .ok (.iinc 4 1, 3) := by decide +kernel
theorem dX8_fit_55 : decode cX8_fit 55 = .ok (.goto (-35), 3) := by decide +kernel
theorem dX8_fit_58 : decode cX8_fit 58 = .ok (.iload 4, 2) := by decide +kernel
theorem dX8_fit_60 : decode cX8_fit 60 = .ok (.ireturn, 1) := by decide +kernel
theorem dX8_sure_0 : decode cX8_sure 0 = .ok (.aload_n 0, 1) := by decide +kernel
theorem dX8_sure_1 : decode cX8_sure 1 = .ok (.iload_n 1, 1) := by decide +kernel
theorem dX8_sure_2 : decode cX8_sure 2 = .ok (.invokevirtual 435, 3) := by decide +kernel
theorem dX8_sure_5 : decode cX8_sure 5 = .ok (.ifCond .eq 36, 3) := by decide +kernel
theorem dX8_sure_8 : decode cX8_sure 8 = .ok (.iload_n 2, 1) := by decide +kernel
theorem dX8_sure_9 : decode cX8_sure 9 = .ok (.ifCond .lt 32, 3) := by decide +kernel
theorem dX8_sure_12 : decode cX8_sure 12 = .ok (.iload_n 2, 1) := by decide +kernel
theorem dX8_sure_13 : decode cX8_sure 13 = .ok (.bipush 40, 2) := by decide +kernel
theorem dX8_sure_15 : decode cX8_sure 15 = .ok (.if_icmp .ge 26, 3) := by decide +kernel
theorem dX8_sure_18 : decode cX8_sure 18 = .ok (.aload_n 0, 1) := by decide +kernel
theorem dX8_sure_19 : decode cX8_sure 19 = .ok (.iload_n 3, 1) := by decide +kernel
theorem dX8_sure_20 : decode cX8_sure 20 = .ok (.invokevirtual 497, 3) := by decide +kernel
theorem dX8_sure_23 : decode cX8_sure 23 = .ok (.ifCond .eq 18, 3) := by decide +kernel
theorem dX8_sure_26 : decode cX8_sure 26 = .ok (.aload_n 0, 1) := by decide +kernel
theorem dX8_sure_27 : decode cX8_sure 27 = .ok (.getfield 477, 3) := by decide +kernel
theorem dX8_sure_30 : decode cX8_sure 30 = .ok (.ifCond .lt 11, 3) := by decide +kernel
theorem dX8_sure_33 : decode cX8_sure 33 = .ok (.iload_n 2, 1) := by decide +kernel
theorem dX8_sure_34 : decode cX8_sure 34 = .ok (.aload_n 0, 1) := by decide +kernel
theorem dX8_sure_35 : decode cX8_sure 35 = .ok (.getfield 477, 3) := by decide +kernel
theorem dX8_sure_38 : decode cX8_sure 38 = .ok (.if_icmp .ge 5, 3) := by decide +kernel
theorem dX8_sure_41 : decode cX8_sure 41 = .ok (.iconst (-1), 1) := by decide +kernel
theorem dX8_sure_42 : decode cX8_sure 42 = .ok (.ireturn, 1) := by decide +kernel
theorem dX8_sure_43 : decode cX8_sure 43 = .ok (.iconst 0, 1) := by decide +kernel
theorem dX8_sure_44 : decode cX8_sure 44 = .ok (.istore 4, 2) := by decide +kernel
theorem dX8_sure_46 : decode cX8_sure 46 = .ok (.iconst 1, 1) := by decide +kernel
theorem dX8_sure_47 : decode cX8_sure 47 = .ok (.istore 5, 2) := by decide +kernel
theorem dX8_sure_49 : decode cX8_sure 49 = .ok (.iconst 0, 1) := by decide +kernel
theorem dX8_sure_50 : decode cX8_sure 50 = .ok (.istore 6, 2) := by decide +kernel
theorem dX8_sure_52 : decode cX8_sure 52 = .ok (.iload 6, 2) := by decide +kernel
theorem dX8_sure_54 : decode cX8_sure 54 = .ok (.sipush 324, 3) := by decide +kernel
theorem dX8_sure_57 : decode cX8_sure 57 = .ok (.if_icmp .ge 116, 3) := by decide +kernel
theorem dX8_sure_60 : decode cX8_sure 60 = .ok (.aload_n 0, 1) := by decide +kernel
theorem dX8_sure_61 : decode cX8_sure 61 = .ok (.getfield 118, 3) := by decide +kernel
theorem dX8_sure_64 : decode cX8_sure 64 = .ok (.iload 6, 2) := by decide +kernel
theorem dX8_sure_66 : decode cX8_sure 66 = .ok (.baload, 1) := by decide +kernel
theorem dX8_sure_67 : decode cX8_sure 67 = .ok (.ifCond .ne 6, 3) := by decide +kernel
theorem dX8_sure_70 : decode cX8_sure 70 = .ok (.goto 97, 3) := by decide +kernel
theorem dX8_sure_73 : decode cX8_sure 73 = .ok (.aload_n 0, 1) := by decide +kernel
theorem dX8_sure_74 : decode cX8_sure 74 = .ok (.iconst 0, 1) := by decide +kernel
theorem dX8_sure_75 : decode cX8_sure 75 = .ok (.aload_n 0, 1) := by decide +kernel
theorem dX8_sure_76 : decode cX8_sure 76 = .ok (.getfield 112, 3) := by decide +kernel
theorem dX8_sure_79 : decode cX8_sure 79 = .ok (.aload_n 0, 1) := by decide +kernel
theorem dX8_sure_80 : decode cX8_sure 80 = .ok (.getfield 477, 3) := by decide +kernel
theorem dX8_sure_83 : decode cX8_sure 83 = .ok (.laload, 1) := by decide +kernel
theorem dX8_sure_84 : decode cX8_sure 84 = .ok (.invokevirtual 480, 3) := by decide +kernel
theorem dX8_sure_87 : decode cX8_sure 87 = .ok (.aload_n 0, 1) := by decide +kernel
theorem dX8_sure_88 : decode cX8_sure 88 = .ok (.getfield 477, 3) := by decide +kernel
theorem dX8_sure_91 : decode cX8_sure 91 = .ok (.istore 7, 2) := by decide +kernel
theorem dX8_sure_93 : decode cX8_sure 93 = .ok (.iload 7, 2) := by decide +kernel
theorem dX8_sure_95 : decode cX8_sure 95 = .ok (.iload_n 2, 1) := by decide +kernel
theorem dX8_sure_96 : decode cX8_sure 96 = .ok (.if_icmp .ge 16, 3) := by decide +kernel
theorem dX8_sure_99 : decode cX8_sure 99 = .ok (.aload_n 0, 1) := by decide +kernel
theorem dX8_sure_100 : decode cX8_sure 100 = .ok (.iconst 0, 1) := by decide +kernel
theorem dX8_sure_101 : decode cX8_sure 101 = .ok (.iload 6, 2) := by decide +kernel
theorem dX8_sure_103 : decode cX8_sure 103 = .ok (.invokevirtual 484, 3) := by decide +kernel
theorem dX8_sure_106 : decode cX8_sure 106 = .ok (.iinc 7 1, 3) := by decide +kernel
theorem dX8_sure_109 : decode cX8_sure 109 = .ok (.goto (-16), 3) := by decide +kernel
theorem dX8_sure_112 : decode cX8_sure 112 = .ok (.aload_n 0, 1) := by decide +kernel
theorem dX8_sure_113 : decode cX8_sure 113 = .ok (.iconst 0, 1) := by decide +kernel
theorem dX8_sure_114 : decode cX8_sure 114 = .ok (.invokevirtual 487, 3) := by decide +kernel
theorem dX8_sure_117 : decode cX8_sure 117 = .ok (.iload_n 1, 1) := by decide +kernel
theorem dX8_sure_118 : decode cX8_sure 118 = .ok (.lshr, 1) := by decide +kernel
theorem dX8_sure_119 : decode cX8_sure 119 = .ok (.lconst 1, 1) := by decide +kernel
theorem dX8_sure_120 : decode cX8_sure 120 = .ok (.land, 1) := by decide +kernel
theorem dX8_sure_121 : decode cX8_sure 121 = .ok (.lconst 1, 1) := by decide +kernel
theorem dX8_sure_122 : decode cX8_sure 122 = .ok (.lcmp, 1) := by decide +kernel
theorem dX8_sure_123 : decode cX8_sure 123 = .ok (.ifCond .ne 7, 3) := by decide +kernel
theorem dX8_sure_126 : decode cX8_sure 126 = .ok (.iconst 1, 1) := by decide +kernel
theorem dX8_sure_127 : decode cX8_sure 127 = .ok (.goto 4, 3) := by decide +kernel
theorem dX8_sure_130 : decode cX8_sure 130 = .ok (.iconst 0, 1) := by decide +kernel
theorem dX8_sure_131 : decode cX8_sure 131 = .ok (.istore 7, 2) := by decide +kernel
theorem dX8_sure_133 : decode cX8_sure 133 = .ok (.iload 4, 2) := by decide +kernel
theorem dX8_sure_135 : decode cX8_sure 135 = .ok (.ifCond .ne 8, 3) := by decide +kernel
theorem dX8_sure_138 : decode cX8_sure 138 = .ok (.iload 7, 2) := by decide +kernel
theorem dX8_sure_140 : decode cX8_sure 140 = .ok (.ifCond .eq 7, 3) := by decide +kernel
theorem dX8_sure_143 : decode cX8_sure 143 = .ok (.iconst 1, 1) := by decide +kernel
theorem dX8_sure_144 : decode cX8_sure 144 = .ok (.goto 4, 3) := by decide +kernel
theorem dX8_sure_147 : decode cX8_sure 147 = .ok (.iconst 0, 1) := by decide +kernel
theorem dX8_sure_148 : decode cX8_sure 148 = .ok (.istore 4, 2) := by decide +kernel
theorem dX8_sure_150 : decode cX8_sure 150 = .ok (.iload 5, 2) := by decide +kernel
theorem dX8_sure_152 : decode cX8_sure 152 = .ok (.ifCond .eq 12, 3) := by decide +kernel
theorem dX8_sure_155 : decode cX8_sure 155 = .ok (.iload 7, 2) := by decide +kernel
theorem dX8_sure_157 : decode cX8_sure 157 = .ok (.ifCond .eq 7, 3) := by decide +kernel
theorem dX8_sure_160 : decode cX8_sure 160 = .ok (.iconst 1, 1) := by decide +kernel
theorem dX8_sure_161 : decode cX8_sure 161 = .ok (.goto 4, 3) := by decide +kernel
theorem dX8_sure_164 : decode cX8_sure 164 = .ok (.iconst 0, 1) := by decide +kernel
theorem dX8_sure_165 : decode cX8_sure 165 = .ok (.istore 5, 2) := by decide +kernel
theorem dX8_sure_167 : decode cX8_sure 167 = .ok (.iinc 6 1, 3) := by decide +kernel
theorem dX8_sure_170 : decode cX8_sure 170 = .ok (.goto (-118), 3) := by decide +kernel
theorem dX8_sure_173 : decode cX8_sure 173 = .ok (.iload 5, 2) := by decide +kernel
theorem dX8_sure_175 : decode cX8_sure 175 = .ok (.ifCond .eq 7, 3) := by decide +kernel
theorem dX8_sure_178 : decode cX8_sure 178 = .ok (.iconst 1, 1) := by decide +kernel
theorem dX8_sure_179 : decode cX8_sure 179 = .ok (.goto 13, 3) := by decide +kernel
theorem dX8_sure_182 : decode cX8_sure 182 = .ok (.iload 4, 2) := by decide +kernel
theorem dX8_sure_184 : decode cX8_sure 184 = .ok (.ifCond .eq 7, 3) := by decide +kernel
theorem dX8_sure_187 : decode cX8_sure 187 = .ok (.iconst 2, 1) := by decide +kernel
theorem dX8_sure_188 : decode cX8_sure 188 = .ok (.goto 4, 3) := by decide +kernel
theorem dX8_sure_191 : decode cX8_sure 191 = .ok (.iconst 0, 1) := by decide +kernel
theorem dX8_sure_192 : decode cX8_sure 192 = .ok (.ireturn, 1) := by decide +kernel
theorem dX8_isLaw_0 : decode cX8_isLaw 0 = .ok (.iload_n 0, 1) := by decide +kernel
theorem dX8_isLaw_1 : decode cX8_isLaw 1 = .ok (.ifCond .lt 14, 3) := by decide +kernel
theorem dX8_isLaw_4 : decode cX8_isLaw 4 = .ok (.iload_n 0, 1) := by decide +kernel
theorem dX8_isLaw_5 : decode cX8_isLaw 5 = .ok (.sipush 324, 3) := by decide +kernel
theorem dX8_isLaw_8 : decode cX8_isLaw 8 = .ok (.if_icmp .ge 7, 3) := by decide +kernel
theorem dX8_isLaw_11 : decode cX8_isLaw 11 = .ok (.iconst 1, 1) := by decide +kernel
theorem dX8_isLaw_12 : decode cX8_isLaw 12 = .ok (.goto 4, 3) := by decide +kernel
theorem dX8_isLaw_15 : decode cX8_isLaw 15 = .ok (.iconst 0, 1) := by decide +kernel
theorem dX8_isLaw_16 : decode cX8_isLaw 16 = .ok (.ireturn, 1) := by decide +kernel
theorem dX8_same_0 : decode cX8_same 0 = .ok (.iload_n 1, 1) := by decide +kernel
theorem dX8_same_1 : decode cX8_same 1 = .ok (.invokestatic 500, 3) := by decide +kernel
theorem dX8_same_4 : decode cX8_same 4 = .ok (.ifCond .eq 10, 3) := by decide +kernel
theorem dX8_same_7 : decode cX8_same 7 = .ok (.iload_n 2, 1) := by decide +kernel
theorem dX8_same_8 : decode cX8_same 8 = .ok (.invokestatic 500, 3) := by decide +kernel
theorem dX8_same_11 : decode cX8_same 11 = .ok (.ifCond .ne 5, 3) := by decide +kernel
theorem dX8_same_14 : decode cX8_same 14 = .ok (.iconst (-1), 1) := by decide +kernel
theorem dX8_same_15 : decode cX8_same 15 = .ok (.ireturn, 1) := by decide +kernel
theorem dX8_same_16 : decode cX8_same 16 = .ok (.iconst 0, 1) := by decide +kernel
theorem dX8_same_17 : decode cX8_same 17 = .ok (.istore_n 3, 1) := by decide +kernel
theorem dX8_same_18 : decode cX8_same 18 = .ok (.iload_n 3, 1) := by decide +kernel
theorem dX8_same_19 : decode cX8_same 19 = .ok (.aload_n 0, 1) := by decide +kernel
theorem dX8_same_20 : decode cX8_same 20 = .ok (.getfield 151, 3) := by decide +kernel
theorem dX8_same_23 : decode cX8_same 23 = .ok (.if_icmp .ge 100, 3) := by decide +kernel
theorem dX8_same_26 : decode cX8_same 26 = .ok (.lconst 0, 1) := by decide +kernel
theorem dX8_same_27 : decode cX8_same 27 = .ok (.lstore 4, 2) := by decide +kernel
theorem dX8_same_29 : decode cX8_same 29 = .ok (.iconst 0, 1) := by decide +kernel
theorem dX8_same_30 : decode cX8_same 30 = .ok (.istore 6, 2) := by decide +kernel
theorem dX8_same_32 : decode cX8_same 32 = .ok (.iload 6, 2) := by decide +kernel
theorem dX8_same_34 : decode cX8_same 34 = .ok (.iconst 3, 1) := by decide +kernel
theorem dX8_same_35 : decode cX8_same 35 = .ok (.if_icmp .ge 82, 3) := by decide +kernel
theorem dX8_same_38 : decode cX8_same 38 = .ok (.lload 4, 2) := by decide +kernel
theorem dX8_same_40 : decode cX8_same 40 = .ok (.lconst 1, 1) := by decide +kernel
theorem dX8_same_41 : decode cX8_same 41 = .ok (.aload_n 0, 1) := by decide +kernel
theorem dX8_same_42 : decode cX8_same 42 = .ok (.iload_n 3, 1) := by decide +kernel
theorem dX8_same_43 : decode cX8_same 43 = .ok (.iload 6, 2) := by decide +kernel
theorem dX8_same_45 : decode cX8_same 45 = .ok (.iadd, 1) := by decide +kernel
theorem dX8_same_46 : decode cX8_same 46 = .ok (.invokevirtual 396, 3) := by decide +kernel
theorem dX8_same_49 : decode cX8_same 49 = .ok (.lshl, 1) := by decide +kernel
theorem dX8_same_50 : decode cX8_same 50 = .ok (.lor, 1) := by decide +kernel
theorem dX8_same_51 : decode cX8_same 51 = .ok (.lstore 4, 2) := by decide +kernel
theorem dX8_same_53 : decode cX8_same 53 = .ok (.aload_n 0, 1) := by decide +kernel
theorem dX8_same_54 : decode cX8_same 54 = .ok (.iconst 0, 1) := by decide +kernel
theorem dX8_same_55 : decode cX8_same 55 = .ok (.lload 4, 2) := by decide +kernel
theorem dX8_same_57 : decode cX8_same 57 = .ok (.invokevirtual 480, 3) := by decide +kernel
theorem dX8_same_60 : decode cX8_same 60 = .ok (.aload_n 0, 1) := by decide +kernel
theorem dX8_same_61 : decode cX8_same 61 = .ok (.iconst 1, 1) := by decide +kernel
theorem dX8_same_62 : decode cX8_same 62 = .ok (.lload 4, 2) := by decide +kernel
theorem dX8_same_64 : decode cX8_same 64 = .ok (.invokevirtual 480, 3) := by decide +kernel
theorem dX8_same_67 : decode cX8_same 67 = .ok (.iconst 0, 1) := by decide +kernel
theorem dX8_same_68 : decode cX8_same 68 = .ok (.istore 7, 2) := by decide +kernel
theorem dX8_same_70 : decode cX8_same 70 = .ok (.iload 7, 2) := by decide +kernel
theorem dX8_same_72 : decode cX8_same 72 = .ok (.bipush 60, 2) := by decide +kernel
theorem dX8_same_74 : decode cX8_same 74 = .ok (.if_icmp .ge 37, 3) := by decide +kernel
theorem dX8_same_77 : decode cX8_same 77 = .ok (.aload_n 0, 1) := by decide +kernel
theorem dX8_same_78 : decode cX8_same 78 = .ok (.iconst 0, 1) := by decide +kernel
theorem dX8_same_79 : decode cX8_same 79 = .ok (.iload_n 1, 1) := by decide +kernel
theorem dX8_same_80 : decode cX8_same 80 = .ok (.invokevirtual 484, 3) := by decide +kernel
theorem dX8_same_83 : decode cX8_same 83 = .ok (.aload_n 0, 1) := by decide +kernel
theorem dX8_same_84 : decode cX8_same 84 = .ok (.iconst 1, 1) := by decide +kernel
theorem dX8_same_85 : decode cX8_same 85 = .ok (.iload_n 2, 1) := by decide +kernel
theorem dX8_same_86 : decode cX8_same 86 = .ok (.invokevirtual 484, 3) := by decide +kernel
theorem dX8_same_89 : decode cX8_same 89 = .ok (.aload_n 0, 1) := by decide +kernel
theorem dX8_same_90 : decode cX8_same 90 = .ok (.iconst 0, 1) := by decide +kernel
theorem dX8_same_91 : decode cX8_same 91 = .ok (.invokevirtual 487, 3) := by decide +kernel
theorem dX8_same_94 : decode cX8_same 94 = .ok (.aload_n 0, 1) := by decide +kernel
theorem dX8_same_95 : decode cX8_same 95 = .ok (.iconst 1, 1) := by decide +kernel
theorem dX8_same_96 : decode cX8_same 96 = .ok (.invokevirtual 487, 3) := by decide +kernel
theorem dX8_same_99 : decode cX8_same 99 = .ok (.lcmp, 1) := by decide +kernel
theorem dX8_same_100 : decode cX8_same 100 = .ok (.ifCond .eq 5, 3) := by decide +kernel
theorem dX8_same_103 : decode cX8_same 103 = .ok (.iconst 0, 1) := by decide +kernel
theorem dX8_same_104 : decode cX8_same 104 = .ok (.ireturn, 1) := by decide +kernel
theorem dX8_same_105 : decode cX8_same 105 = .ok (.iinc 7 1, 3) := by decide +kernel
theorem dX8_same_108 : decode cX8_same 108 = .ok (.goto (-38), 3) := by decide +kernel
theorem dX8_same_111 : decode cX8_same 111 = .ok (.iinc 6 1, 3) := by decide +kernel
theorem dX8_same_114 : decode cX8_same 114 = .ok (.goto (-82), 3) := by decide +kernel
theorem dX8_same_117 : decode cX8_same 117 = .ok (.iinc 3 1, 3) := by decide +kernel
theorem dX8_same_120 : decode cX8_same 120 = .ok (.goto (-102), 3) := by decide +kernel
theorem dX8_same_123 : decode cX8_same 123 = .ok (.iconst 1, 1) := by decide +kernel
theorem dX8_same_124 : decode cX8_same 124 = .ok (.ireturn, 1) := by decide +kernel
theorem dX8_isBox_0 : decode cX8_isBox 0 = .ok (.iload_n 0, 1) := by decide +kernel
theorem dX8_isBox_1 : decode cX8_isBox 1 = .ok (.ifCond .lt 12, 3) := by decide +kernel
theorem dX8_isBox_4 : decode cX8_isBox 4 = .ok (.iload_n 0, 1) := by decide +kernel
theorem dX8_isBox_5 : decode cX8_isBox 5 = .ok (.iconst 3, 1) := by decide +kernel
theorem dX8_isBox_6 : decode cX8_isBox 6 = .ok (.if_icmp .ge 7, 3) := by decide +kernel
theorem dX8_isBox_9 : decode cX8_isBox 9 = .ok (.iconst 1, 1) := by decide +kernel
theorem dX8_isBox_10 : decode cX8_isBox 10 = .ok (.goto 4, 3) := by decide +kernel
theorem dX8_isBox_13 : decode cX8_isBox 13 = .ok (.iconst 0, 1) := by decide +kernel
theorem dX8_isBox_14 : decode cX8_isBox 14 = .ok (.ireturn, 1) := by decide +kernel
theorem dX8_image_0 : decode cX8_image 0 = .ok (.iload_n 1, 1) := by decide +kernel
theorem dX8_image_1 : decode cX8_image 1 = .ok (.invokestatic 503, 3) := by decide +kernel
theorem dX8_image_4 : decode cX8_image 4 = .ok (.ifCond .ne 5, 3) := by decide +kernel
theorem dX8_image_7 : decode cX8_image 7 = .ok (.iconst (-1), 1) := by decide +kernel
theorem dX8_image_8 : decode cX8_image 8 = .ok (.ireturn, 1) := by decide +kernel
theorem dX8_image_9 : decode cX8_image 9 = .ok (.aload_n 0, 1) := by decide +kernel
theorem dX8_image_10 : decode cX8_image 10 = .ok (.getfield 130, 3) := by decide +kernel
theorem dX8_image_13 : decode cX8_image 13 = .ok (.iload_n 1, 1) := by decide +kernel
theorem dX8_image_14 : decode cX8_image 14 = .ok (.iconst 1, 1) := by decide +kernel
theorem dX8_image_15 : decode cX8_image 15 = .ok (.bastore, 1) := by decide +kernel
theorem dX8_image_16 : decode cX8_image 16 = .ok (.iconst 0, 1) := by decide +kernel
theorem dX8_image_17 : decode cX8_image 17 = .ok (.istore_n 2, 1) := by decide +kernel
theorem dX8_image_18 : decode cX8_image 18 = .ok (.iload_n 2, 1) := by decide +kernel
theorem dX8_image_19 : decode cX8_image 19 = .ok (.bipush 40, 2) := by decide +kernel
theorem dX8_image_21 : decode cX8_image 21 = .ok (.if_icmp .ge 43, 3) := by decide +kernel
theorem dX8_image_24 : decode cX8_image 24 = .ok (.aload_n 0, 1) := by decide +kernel
theorem dX8_image_25 : decode cX8_image 25 = .ok (.getfield 133, 3) := by decide +kernel
theorem dX8_image_28 : decode cX8_image 28 = .ok (.bipush 40, 2) := by decide +kernel
theorem dX8_image_30 : decode cX8_image 30 = .ok (.iload_n 1, 1) := by decide +kernel
theorem dX8_image_31 : decode cX8_image 31 = .ok (.imul, 1) := by decide +kernel
theorem dX8_image_32 : decode cX8_image 32 = .ok (.iload_n 2, 1) := by decide +kernel
theorem dX8_image_33 : decode cX8_image 33 = .ok (.iadd, 1) := by decide +kernel
theorem dX8_image_34 : decode cX8_image 34 = .ok (.aload_n 0, 1) := by decide +kernel
theorem dX8_image_35 : decode cX8_image 35 = .ok (.getfield 72, 3) := by decide +kernel
theorem dX8_image_38 : decode cX8_image 38 = .ok (.iload_n 2, 1) := by decide +kernel
theorem dX8_image_39 : decode cX8_image 39 = .ok (.iaload, 1) := by decide +kernel
theorem dX8_image_40 : decode cX8_image 40 = .ok (.iastore, 1) := by decide +kernel
theorem dX8_image_41 : decode cX8_image 41 = .ok (.aload_n 0, 1) := by decide +kernel
theorem dX8_image_42 : decode cX8_image 42 = .ok (.getfield 136, 3) := by decide +kernel
theorem dX8_image_45 : decode cX8_image 45 = .ok (.bipush 40, 2) := by decide +kernel
theorem dX8_image_47 : decode cX8_image 47 = .ok (.iload_n 1, 1) := by decide +kernel
theorem dX8_image_48 : decode cX8_image 48 = .ok (.imul, 1) := by decide +kernel
theorem dX8_image_49 : decode cX8_image 49 = .ok (.iload_n 2, 1) := by decide +kernel
theorem dX8_image_50 : decode cX8_image 50 = .ok (.iadd, 1) := by decide +kernel
theorem dX8_image_51 : decode cX8_image 51 = .ok (.aload_n 0, 1) := by decide +kernel
theorem dX8_image_52 : decode cX8_image 52 = .ok (.getfield 75, 3) := by decide +kernel
theorem dX8_image_55 : decode cX8_image 55 = .ok (.iload_n 2, 1) := by decide +kernel
theorem dX8_image_56 : decode cX8_image 56 = .ok (.iaload, 1) := by decide +kernel
theorem dX8_image_57 : decode cX8_image 57 = .ok (.iastore, 1) := by decide +kernel
theorem dX8_image_58 : decode cX8_image 58 = .ok (.iinc 2 1, 3) := by decide +kernel
theorem dX8_image_61 : decode cX8_image 61 = .ok (.goto (-43), 3) := by decide +kernel
theorem dX8_image_64 : decode cX8_image 64 = .ok (.iconst 0, 1) := by decide +kernel
theorem dX8_image_65 : decode cX8_image 65 = .ok (.istore_n 2, 1) := by decide +kernel
theorem dX8_image_66 : decode cX8_image 66 = .ok (.iload_n 2, 1) := by decide +kernel
theorem dX8_image_67 : decode cX8_image 67 = .ok (.iconst 3, 1) := by decide +kernel
theorem dX8_image_68 : decode cX8_image 68 = .ok (.if_icmp .ge 25, 3) := by decide +kernel
theorem dX8_image_71 : decode cX8_image 71 = .ok (.aload_n 0, 1) := by decide +kernel
theorem dX8_image_72 : decode cX8_image 72 = .ok (.getfield 139, 3) := by decide +kernel
theorem dX8_image_75 : decode cX8_image 75 = .ok (.iconst 3, 1) := by decide +kernel
theorem dX8_image_76 : decode cX8_image 76 = .ok (.iload_n 1, 1) := by decide +kernel
theorem dX8_image_77 : decode cX8_image 77 = .ok (.imul, 1) := by decide +kernel
theorem dX8_image_78 : decode cX8_image 78 = .ok (.iload_n 2, 1) := by decide +kernel
theorem dX8_image_79 : decode cX8_image 79 = .ok (.iadd, 1) := by decide +kernel
theorem dX8_image_80 : decode cX8_image 80 = .ok (.aload_n 0, 1) := by decide +kernel
theorem dX8_image_81 : decode cX8_image 81 = .ok (.getfield 87, 3) := by decide +kernel
theorem dX8_image_84 : decode cX8_image 84 = .ok (.iload_n 2, 1) := by decide +kernel
theorem dX8_image_85 : decode cX8_image 85 = .ok (.iaload, 1) := by decide +kernel
theorem dX8_image_86 : decode cX8_image 86 = .ok (.iastore, 1) := by decide +kernel
theorem dX8_image_87 : decode cX8_image 87 = .ok (.iinc 2 1, 3) := by decide +kernel
theorem dX8_image_90 : decode cX8_image 90 = .ok (.goto (-24), 3) := by decide +kernel
theorem dX8_image_93 : decode cX8_image 93 = .ok (.aload_n 0, 1) := by decide +kernel
theorem dX8_image_94 : decode cX8_image 94 = .ok (.getfield 142, 3) := by decide +kernel
theorem dX8_image_97 : decode cX8_image 97 = .ok (.iload_n 1, 1) := by decide +kernel
theorem dX8_image_98 : decode cX8_image 98 = .ok (.aload_n 0, 1) := by decide +kernel
theorem dX8_image_99 : decode cX8_image 99 = .ok (.getfield 381, 3) := by decide +kernel
theorem dX8_image_102 : decode cX8_image 102 = .ok (.iastore, 1) := by decide +kernel
theorem dX8_image_103 : decode cX8_image 103 = .ok (.aload_n 0, 1) := by decide +kernel
theorem dX8_image_104 : decode cX8_image 104 = .ok (.getfield 145, 3) := by decide +kernel
theorem dX8_image_107 : decode cX8_image 107 = .ok (.iload_n 1, 1) := by decide +kernel
theorem dX8_image_108 : decode cX8_image 108 = .ok (.aload_n 0, 1) := by decide +kernel
theorem dX8_image_109 : decode cX8_image 109 = .ok (.getfield 384, 3) := by decide +kernel
theorem dX8_image_112 : decode cX8_image 112 = .ok (.iastore, 1) := by decide +kernel
theorem dX8_image_113 : decode cX8_image 113 = .ok (.aload_n 0, 1) := by decide +kernel
theorem dX8_image_114 : decode cX8_image 114 = .ok (.getfield 148, 3) := by decide +kernel
theorem dX8_image_117 : decode cX8_image 117 = .ok (.iload_n 1, 1) := by decide +kernel
theorem dX8_image_118 : decode cX8_image 118 = .ok (.aload_n 0, 1) := by decide +kernel
theorem dX8_image_119 : decode cX8_image 119 = .ok (.getfield 96, 3) := by decide +kernel
theorem dX8_image_122 : decode cX8_image 122 = .ok (.iastore, 1) := by decide +kernel
theorem dX8_image_123 : decode cX8_image 123 = .ok (.aload_n 0, 1) := by decide +kernel
theorem dX8_image_124 : decode cX8_image 124 = .ok (.getfield 381, 3) := by decide +kernel
theorem dX8_image_127 : decode cX8_image 127 = .ok (.ireturn, 1) := by decide +kernel
theorem dX8_back_0 : decode cX8_back 0 = .ok (.iload_n 1, 1) := by decide +kernel
theorem dX8_back_1 : decode cX8_back 1 = .ok (.invokestatic 503, 3) := by decide +kernel
theorem dX8_back_4 : decode cX8_back 4 = .ok (.ifCond .eq 12, 3) := by decide +kernel
theorem dX8_back_7 : decode cX8_back 7 = .ok (.aload_n 0, 1) := by decide +kernel
theorem dX8_back_8 : decode cX8_back 8 = .ok (.getfield 130, 3) := by decide +kernel
theorem dX8_back_11 : decode cX8_back 11 = .ok (.iload_n 1, 1) := by decide +kernel
theorem dX8_back_12 : decode cX8_back 12 = .ok (.baload, 1) := by decide +kernel
theorem dX8_back_13 : decode cX8_back 13 = .ok (.ifCond .ne 5, 3) := by decide +kernel
theorem dX8_back_16 : decode cX8_back 16 = .ok (.iconst (-1), 1) := by decide +kernel
theorem dX8_back_17 : decode cX8_back 17 = .ok (.ireturn, 1) := by decide +kernel
theorem dX8_back_18 : decode cX8_back 18 = .ok (.iconst 0, 1) := by decide +kernel
theorem dX8_back_19 : decode cX8_back 19 = .ok (.istore_n 2, 1) := by decide +kernel
theorem dX8_back_20 : decode cX8_back 20 = .ok (.iload_n 2, 1) := by decide +kernel
theorem dX8_back_21 : decode cX8_back 21 = .ok (.bipush 40, 2) := by decide +kernel
theorem dX8_back_23 : decode cX8_back 23 = .ok (.if_icmp .ge 43, 3) := by decide +kernel
theorem dX8_back_26 : decode cX8_back 26 = .ok (.aload_n 0, 1) := by decide +kernel
theorem dX8_back_27 : decode cX8_back 27 = .ok (.getfield 72, 3) := by decide +kernel
theorem dX8_back_30 : decode cX8_back 30 = .ok (.iload_n 2, 1) := by decide +kernel
theorem dX8_back_31 : decode cX8_back 31 = .ok (.aload_n 0, 1) := by decide +kernel
theorem dX8_back_32 : decode cX8_back 32 = .ok (.getfield 133, 3) := by decide +kernel
theorem dX8_back_35 : decode cX8_back 35 = .ok (.bipush 40, 2) := by decide +kernel
theorem dX8_back_37 : decode cX8_back 37 = .ok (.iload_n 1, 1) := by decide +kernel
theorem dX8_back_38 : decode cX8_back 38 = .ok (.imul, 1) := by decide +kernel
theorem dX8_back_39 : decode cX8_back 39 = .ok (.iload_n 2, 1) := by decide +kernel
theorem dX8_back_40 : decode cX8_back 40 = .ok (.iadd, 1) := by decide +kernel
theorem dX8_back_41 : decode cX8_back 41 = .ok (.iaload, 1) := by decide +kernel
theorem dX8_back_42 : decode cX8_back 42 = .ok (.iastore, 1) := by decide +kernel
theorem dX8_back_43 : decode cX8_back 43 = .ok (.aload_n 0, 1) := by decide +kernel
theorem dX8_back_44 : decode cX8_back 44 = .ok (.getfield 75, 3) := by decide +kernel
theorem dX8_back_47 : decode cX8_back 47 = .ok (.iload_n 2, 1) := by decide +kernel
theorem dX8_back_48 : decode cX8_back 48 = .ok (.aload_n 0, 1) := by decide +kernel
theorem dX8_back_49 : decode cX8_back 49 = .ok (.getfield 136, 3) := by decide +kernel
theorem dX8_back_52 : decode cX8_back 52 = .ok (.bipush 40, 2) := by decide +kernel
theorem dX8_back_54 : decode cX8_back 54 = .ok (.iload_n 1, 1) := by decide +kernel
theorem dX8_back_55 : decode cX8_back 55 = .ok (.imul, 1) := by decide +kernel
theorem dX8_back_56 : decode cX8_back 56 = .ok (.iload_n 2, 1) := by decide +kernel
theorem dX8_back_57 : decode cX8_back 57 = .ok (.iadd, 1) := by decide +kernel
theorem dX8_back_58 : decode cX8_back 58 = .ok (.iaload, 1) := by decide +kernel
theorem dX8_back_59 : decode cX8_back 59 = .ok (.iastore, 1) := by decide +kernel
theorem dX8_back_60 : decode cX8_back 60 = .ok (.iinc 2 1, 3) := by decide +kernel
theorem dX8_back_63 : decode cX8_back 63 = .ok (.goto (-43), 3) := by decide +kernel
theorem dX8_back_66 : decode cX8_back 66 = .ok (.iconst 0, 1) := by decide +kernel
theorem dX8_back_67 : decode cX8_back 67 = .ok (.istore_n 2, 1) := by decide +kernel
theorem dX8_back_68 : decode cX8_back 68 = .ok (.iload_n 2, 1) := by decide +kernel
theorem dX8_back_69 : decode cX8_back 69 = .ok (.iconst 3, 1) := by decide +kernel
theorem dX8_back_70 : decode cX8_back 70 = .ok (.if_icmp .ge 25, 3) := by decide +kernel
theorem dX8_back_73 : decode cX8_back 73 = .ok (.aload_n 0, 1) := by decide +kernel
theorem dX8_back_74 : decode cX8_back 74 = .ok (.getfield 87, 3) := by decide +kernel
theorem dX8_back_77 : decode cX8_back 77 = .ok (.iload_n 2, 1) := by decide +kernel
theorem dX8_back_78 : decode cX8_back 78 = .ok (.aload_n 0, 1) := by decide +kernel
theorem dX8_back_79 : decode cX8_back 79 = .ok (.getfield 139, 3) := by decide +kernel
theorem dX8_back_82 : decode cX8_back 82 = .ok (.iconst 3, 1) := by decide +kernel
theorem dX8_back_83 : decode cX8_back 83 = .ok (.iload_n 1, 1) := by decide +kernel
theorem dX8_back_84 : decode cX8_back 84 = .ok (.imul, 1) := by decide +kernel
theorem dX8_back_85 : decode cX8_back 85 = .ok (.iload_n 2, 1) := by decide +kernel
theorem dX8_back_86 : decode cX8_back 86 = .ok (.iadd, 1) := by decide +kernel
theorem dX8_back_87 : decode cX8_back 87 = .ok (.iaload, 1) := by decide +kernel
theorem dX8_back_88 : decode cX8_back 88 = .ok (.iastore, 1) := by decide +kernel
theorem dX8_back_89 : decode cX8_back 89 = .ok (.iinc 2 1, 3) := by decide +kernel
theorem dX8_back_92 : decode cX8_back 92 = .ok (.goto (-24), 3) := by decide +kernel
theorem dX8_back_95 : decode cX8_back 95 = .ok (.aload_n 0, 1) := by decide +kernel
theorem dX8_back_96 : decode cX8_back 96 = .ok (.aload_n 0, 1) := by decide +kernel
theorem dX8_back_97 : decode cX8_back 97 = .ok (.getfield 142, 3) := by decide +kernel
theorem dX8_back_100 : decode cX8_back 100 = .ok (.iload_n 1, 1) := by decide +kernel
theorem dX8_back_101 : decode cX8_back 101 = .ok (.iaload, 1) := by decide +kernel
theorem dX8_back_102 : decode cX8_back 102 = .ok (.putfield 381, 3) := by decide +kernel
theorem dX8_back_105 : decode cX8_back 105 = .ok (.aload_n 0, 1) := by decide +kernel
theorem dX8_back_106 : decode cX8_back 106 = .ok (.aload_n 0, 1) := by decide +kernel
theorem dX8_back_107 : decode cX8_back 107 = .ok (.getfield 145, 3) := by decide +kernel
theorem dX8_back_110 : decode cX8_back 110 = .ok (.iload_n 1, 1) := by decide +kernel
theorem dX8_back_111 : decode cX8_back 111 = .ok (.iaload, 1) := by decide +kernel
theorem dX8_back_112 : decode cX8_back 112 = .ok (.putfield 384, 3) := by decide +kernel
theorem dX8_back_115 : decode cX8_back 115 = .ok (.aload_n 0, 1) := by decide +kernel
theorem dX8_back_116 : decode cX8_back 116 = .ok (.aload_n 0, 1) := by decide +kernel
theorem dX8_back_117 : decode cX8_back 117 = .ok (.getfield 148, 3) := by decide +kernel
theorem dX8_back_120 : decode cX8_back 120 = .ok (.iload_n 1, 1) := by decide +kernel
theorem dX8_back_121 : decode cX8_back 121 = .ok (.iaload, 1) := by decide +kernel
theorem dX8_back_122 : decode cX8_back 122 = .ok (.putfield 96, 3) := by decide +kernel
theorem dX8_back_125 : decode cX8_back 125 = .ok (.aload_n 0, 1) := by decide +kernel
theorem dX8_back_126 : decode cX8_back 126 = .ok (.getfield 381, 3) := by decide +kernel
theorem dX8_back_129 : decode cX8_back 129 = .ok (.ireturn, 1) := by decide +kernel
theorem dX8_seed_0 : decode cX8_seed 0 = .ok (.aload_n 0, 1) := by decide +kernel
theorem dX8_seed_1 : decode cX8_seed 1 = .ok (.getfield 96, 3) := by decide +kernel
theorem dX8_seed_4 : decode cX8_seed 4 = .ok (.istore_n 2, 1) := by decide +kernel
theorem dX8_seed_5 : decode cX8_seed 5 = .ok (.aload_n 0, 1) := by decide +kernel
theorem dX8_seed_6 : decode cX8_seed 6 = .ok (.iload_n 1, 1) := by decide +kernel
theorem dX8_seed_7 : decode cX8_seed 7 = .ok (.putfield 96, 3) := by decide +kernel
theorem dX8_seed_10 : decode cX8_seed 10 = .ok (.iload_n 2, 1) := by decide +kernel
theorem dX8_seed_11 : decode cX8_seed 11 = .ok (.ireturn, 1) := by decide +kernel
theorem dX8_about_0 : decode cX8_about 0 = .ok (.iload_n 1, 1) := by decide +kernel
theorem dX8_about_1 : decode cX8_about 1 = .ok (.tableswitch 96 0 8 #[51, 56, 61, 66, 71, 76, 81, 86, 91], 51) := by decide +kernel
theorem dX8_about_52 : decode cX8_about 52 = .ok (.aload_n 0, 1) := by decide +kernel
theorem dX8_about_53 : decode cX8_about 53 = .ok (.getfield 151, 3) := by decide +kernel
theorem dX8_about_56 : decode cX8_about 56 = .ok (.ireturn, 1) := by decide +kernel
theorem dX8_about_57 : decode cX8_about 57 = .ok (.aload_n 0, 1) := by decide +kernel
theorem dX8_about_58 : decode cX8_about 58 = .ok (.getfield 381, 3) := by decide +kernel
theorem dX8_about_61 : decode cX8_about 61 = .ok (.ireturn, 1) := by decide +kernel
theorem dX8_about_62 : decode cX8_about 62 = .ok (.aload_n 0, 1) := by decide +kernel
theorem dX8_about_63 : decode cX8_about 63 = .ok (.getfield 384, 3) := by decide +kernel
theorem dX8_about_66 : decode cX8_about 66 = .ok (.ireturn, 1) := by decide +kernel
theorem dX8_about_67 : decode cX8_about 67 = .ok (.aload_n 0, 1) := by decide +kernel
theorem dX8_about_68 : decode cX8_about 68 = .ok (.invokevirtual 414, 3) := by decide +kernel
theorem dX8_about_71 : decode cX8_about 71 = .ok (.ireturn, 1) := by decide +kernel
theorem dX8_about_72 : decode cX8_about 72 = .ok (.aload_n 0, 1) := by decide +kernel
theorem dX8_about_73 : decode cX8_about 73 = .ok (.getfield 378, 3) := by decide +kernel
theorem dX8_about_76 : decode cX8_about 76 = .ok (.ireturn, 1) := by decide +kernel
theorem dX8_about_77 : decode cX8_about 77 = .ok (.aload_n 0, 1) := by decide +kernel
theorem dX8_about_78 : decode cX8_about 78 = .ok (.getfield 473, 3) := by decide +kernel
theorem dX8_about_81 : decode cX8_about 81 = .ok (.ireturn, 1) := by decide +kernel
theorem dX8_about_82 : decode cX8_about 82 = .ok (.aload_n 0, 1) := by decide +kernel
theorem dX8_about_83 : decode cX8_about 83 = .ok (.getfield 160, 3) := by decide +kernel
theorem dX8_about_86 : decode cX8_about 86 = .ok (.ireturn, 1) := by decide +kernel
theorem dX8_about_87 : decode cX8_about 87 = .ok (.aload_n 0, 1) := by decide +kernel
theorem dX8_about_88 : decode cX8_about 88 = .ok (.getfield 96, 3) := by decide +kernel
theorem dX8_about_91 : decode cX8_about 91 = .ok (.ireturn, 1) := by decide +kernel
theorem dX8_about_92 : decode cX8_about 92 = .ok (.aload_n 0, 1) := by decide +kernel
theorem dX8_about_93 : decode cX8_about 93 = .ok (.getfield 366, 3) := by decide +kernel
theorem dX8_about_96 : decode cX8_about 96 = .ok (.ireturn, 1) := by decide +kernel
theorem dX8_about_97 : decode cX8_about 97 = .ok (.iconst (-1), 1) := by decide +kernel
theorem dX8_about_98 : decode cX8_about 98 = .ok (.ireturn, 1) := by decide +kernel
