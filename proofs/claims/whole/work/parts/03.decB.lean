theorem dX4_init_0 : decode cX4_init 0 = .ok (.aload_n 0, 1) := by decide +kernel
theorem dX4_init_1 : decode cX4_init 1 = .ok (.invokespecial 3, 3) := by decide +kernel
theorem dX4_init_4 : decode cX4_init 4 = .ok (.aload_n 0, 1) := by decide +kernel
theorem dX4_init_5 : decode cX4_init 5 = .ok (.aload_n 1, 1) := by decide +kernel
theorem dX4_init_6 : decode cX4_init 6 = .ok (.putfield 9, 3) := by decide +kernel
theorem dX4_init_9 : decode cX4_init 9 = .ok (.aload_n 0, 1) := by decide +kernel
theorem dX4_init_10 : decode cX4_init 10 = .ok (.aload_n 2, 1) := by decide +kernel
theorem dX4_init_11 : decode cX4_init 11 = .ok (.putfield 15, 3) := by decide +kernel
theorem dX4_init_14 : decode cX4_init 14 = .ok (.aload_n 0, 1) := by decide +kernel
theorem dX4_init_15 : decode cX4_init 15 = .ok (.iconst (-1), 1) := by decide +kernel
theorem dX4_init_16 : decode cX4_init 16 = .ok (.putfield 19, 3) := by decide +kernel
theorem dX4_init_19 : decode cX4_init 19 = .ok (.return_, 1) := by decide +kernel
theorem dX4_readInto_0 : decode cX4_readInto 0 = .ok (.aload_n 0, 1) := by decide +kernel
theorem dX4_readInto_1 : decode cX4_readInto 1 = .ok (.aload_n 1, 1) := by decide +kernel
theorem dX4_readInto_2 : decode cX4_readInto 2 = .ok (.putfield 15, 3) := by decide +kernel
theorem dX4_readInto_5 : decode cX4_readInto 5 = .ok (.aload_n 0, 1) := by decide +kernel
theorem dX4_readInto_6 : decode cX4_readInto 6 = .ok (.getfield 15, 3) := by decide +kernel
theorem dX4_readInto_9 : decode cX4_readInto 9 = .ok (.invokevirtual 23, 3) := by decide +kernel
theorem dX4_readInto_12 : decode cX4_readInto 12 = .ok (.aload_n 0, 1) := by decide +kernel
theorem dX4_readInto_13 : decode cX4_readInto 13 = .ok (.iconst 0, 1) := by decide +kernel
theorem dX4_readInto_14 : decode cX4_readInto 14 = .ok (.putfield 28, 3) := by decide +kernel
theorem dX4_readInto_17 : decode cX4_readInto 17 = .ok (.aload_n 0, 1) := by decide +kernel
theorem dX4_readInto_18 : decode cX4_readInto 18 = .ok (.iconst 0, 1) := by decide +kernel
theorem dX4_readInto_19 : decode cX4_readInto 19 = .ok (.putfield 32, 3) := by decide +kernel
theorem dX4_readInto_22 : decode cX4_readInto 22 = .ok (.aload_n 0, 1) := by decide +kernel
theorem dX4_readInto_23 : decode cX4_readInto 23 = .ok (.iconst 0, 1) := by decide +kernel
theorem dX4_readInto_24 : decode cX4_readInto 24 = .ok (.putfield 35, 3) := by decide +kernel
theorem dX4_readInto_27 : decode cX4_readInto 27 = .ok (.aload_n 0, 1) := by decide +kernel
theorem dX4_readInto_28 : decode cX4_readInto 28 = .ok (.iconst 0, 1) := by decide +kernel
theorem dX4_readInto_29 : decode cX4_readInto 29 = .ok (.putfield 38, 3) := by decide +kernel
theorem dX4_readInto_32 : decode cX4_readInto 32 = .ok (.aload_n 0, 1) := by decide +kernel
theorem dX4_readInto_33 : decode cX4_readInto 33 = .ok (.iconst (-1), 1) := by decide +kernel
theorem dX4_readInto_34 : decode cX4_readInto 34 = .ok (.putfield 19, 3) := by decide +kernel
theorem dX4_readInto_37 : decode cX4_readInto 37 = .ok (.aload_n 0, 1) := by decide +kernel
theorem dX4_readInto_38 : decode cX4_readInto 38 = .ok (.iconst 0, 1) := by decide +kernel
theorem dX4_readInto_39 : decode cX4_readInto 39 = .ok (.putfield 41, 3) := by decide +kernel
theorem dX4_readInto_42 : decode cX4_readInto 42 = .ok (.aload_n 0, 1) := by decide +kernel
theorem dX4_readInto_43 : decode cX4_readInto 43 = .ok (.invokevirtual 44, 3) := by decide +kernel
theorem dX4_readInto_46 : decode cX4_readInto 46 = .ok (.iconst 1, 1) := by decide +kernel
theorem dX4_readInto_47 : decode cX4_readInto 47 = .ok (.istore_n 2, 1) := by decide +kernel
theorem dX4_readInto_48 : decode cX4_readInto 48 = .ok (.iconst 0, 1) := by decide +kernel
theorem dX4_readInto_49 : decode cX4_readInto 49 = .ok (.istore_n 3, 1) := by decide +kernel
theorem dX4_readInto_50 : decode cX4_readInto 50 = .ok (.iload_n 3, 1) := by decide +kernel
theorem dX4_readInto_51 : decode cX4_readInto 51 = .ok (.sipush 800, 3) := by decide +kernel
theorem dX4_readInto_54 : decode cX4_readInto 54 = .ok (.if_icmp .gt 25, 3) := by decide +kernel
theorem dX4_readInto_57 : decode cX4_readInto 57 = .ok (.iload_n 2, 1) := by decide +kernel
theorem dX4_readInto_58 : decode cX4_readInto 58 = .ok (.ifCond .eq 21, 3) := by decide +kernel
theorem dX4_readInto_61 : decode cX4_readInto 61 = .ok (.aload_n 0, 1) := by decide +kernel
theorem dX4_readInto_62 : decode cX4_readInto 62 = .ok (.getfield 47, 3) := by decide +kernel
theorem dX4_readInto_65 : decode cX4_readInto 65 = .ok (.ifCond .eq 14, 3) := by decide +kernel
theorem dX4_readInto_68 : decode cX4_readInto 68 = .ok (.aload_n 0, 1) := by decide +kernel
theorem dX4_readInto_69 : decode cX4_readInto 69 = .ok (.invokevirtual 50, 3) := by decide +kernel
theorem dX4_readInto_72 : decode cX4_readInto 72 = .ok (.istore_n 2, 1) := by decide +kernel
theorem dX4_readInto_73 : decode cX4_readInto 73 = .ok (.iinc 3 1, 3) := by decide +kernel
theorem dX4_readInto_76 : decode cX4_readInto 76 = .ok (.goto (-26), 3) := by decide +kernel
theorem dX4_readInto_79 : decode cX4_readInto 79 = .ok (.iload_n 2, 1) := by decide +kernel
theorem dX4_readInto_80 : decode cX4_readInto 80 = .ok (.ireturn, 1) := by decide +kernel
theorem dX4_readLine_0 : decode cX4_readLine 0 = .ok (.aload_n 0, 1) := by decide +kernel
theorem dX4_readLine_1 : decode cX4_readLine 1 = .ok (.ldc 54, 2) := by decide +kernel
theorem dX4_readLine_3 : decode cX4_readLine 3 = .ok (.invokevirtual 56, 3) := by decide +kernel
theorem dX4_readLine_6 : decode cX4_readLine 6 = .ok (.ifCond .eq 8, 3) := by decide +kernel
theorem dX4_readLine_9 : decode cX4_readLine 9 = .ok (.aload_n 0, 1) := by decide +kernel
theorem dX4_readLine_10 : decode cX4_readLine 10 = .ok (.invokevirtual 60, 3) := by decide +kernel
theorem dX4_readLine_13 : decode cX4_readLine 13 = .ok (.ireturn, 1) := by decide +kernel
theorem dX4_readLine_14 : decode cX4_readLine 14 = .ok (.aload_n 0, 1) := by decide +kernel
theorem dX4_readLine_15 : decode cX4_readLine 15 = .ok (.ldc 63, 2) := by decide +kernel
theorem dX4_readLine_17 : decode cX4_readLine 17 = .ok (.invokevirtual 56, 3) := by decide +kernel
theorem dX4_readLine_20 : decode cX4_readLine 20 = .ok (.ifCond .ne 21, 3) := by decide +kernel
theorem dX4_readLine_23 : decode cX4_readLine 23 = .ok (.aload_n 0, 1) := by decide +kernel
theorem dX4_readLine_24 : decode cX4_readLine 24 = .ok (.ldc 65, 2) := by decide +kernel
theorem dX4_readLine_26 : decode cX4_readLine 26 = .ok (.invokevirtual 56, 3) := by decide +kernel
theorem dX4_readLine_29 : decode cX4_readLine 29 = .ok (.ifCond .ne 12, 3) := by decide +kernel
theorem dX4_readLine_32 : decode cX4_readLine 32 = .ok (.aload_n 0, 1) := by decide +kernel
theorem dX4_readLine_33 : decode cX4_readLine 33 = .ok (.ldc 67, 2) := by decide +kernel
theorem dX4_readLine_35 : decode cX4_readLine 35 = .ok (.invokevirtual 56, 3) := by decide +kernel
theorem dX4_readLine_38 : decode cX4_readLine 38 = .ok (.ifCond .eq 8, 3) := by decide +kernel
theorem dX4_readLine_41 : decode cX4_readLine 41 = .ok (.aload_n 0, 1) := by decide +kernel
theorem dX4_readLine_42 : decode cX4_readLine 42 = .ok (.invokevirtual 69, 3) := by decide +kernel
theorem dX4_readLine_45 : decode cX4_readLine 45 = .ok (.ireturn, 1) := by decide +kernel
theorem dX4_readLine_46 : decode cX4_readLine 46 = .ok (.aload_n 0, 1) := by decide +kernel
theorem dX4_readLine_47 : decode cX4_readLine 47 = .ok (.ldc 72, 2) := by decide +kernel
theorem dX4_readLine_49 : decode cX4_readLine 49 = .ok (.invokevirtual 56, 3) := by decide +kernel
theorem dX4_readLine_52 : decode cX4_readLine 52 = .ok (.ifCond .eq 8, 3) := by decide +kernel
theorem dX4_readLine_55 : decode cX4_readLine 55 = .ok (.aload_n 0, 1) := by decide +kernel
theorem dX4_readLine_56 : decode cX4_readLine 56 = .ok (.invokevirtual 74, 3) := by decide +kernel
theorem dX4_readLine_59 : decode cX4_readLine 59 = .ok (.ireturn, 1) := by decide +kernel
theorem dX4_readLine_60 : decode cX4_readLine 60 = .ok (.aload_n 0, 1) := by decide +kernel
theorem dX4_readLine_61 : decode cX4_readLine 61 = .ok (.ldc 77, 2) := by decide +kernel
theorem dX4_readLine_63 : decode cX4_readLine 63 = .ok (.invokevirtual 56, 3) := by decide +kernel
theorem dX4_readLine_66 : decode cX4_readLine 66 = .ok (.ifCond .eq 8, 3) := by decide +kernel
theorem dX4_readLine_69 : decode cX4_readLine 69 = .ok (.aload_n 0, 1) := by decide +kernel
theorem dX4_readLine_70 : decode cX4_readLine 70 = .ok (.invokevirtual 79, 3) := by decide +kernel
theorem dX4_readLine_73 : decode cX4_readLine 73 = .ok (.ireturn, 1) := by decide +kernel
theorem dX4_readLine_74 : decode cX4_readLine 74 = .ok (.aload_n 0, 1) := by decide +kernel
theorem dX4_readLine_75 : decode cX4_readLine 75 = .ok (.invokevirtual 82, 3) := by decide +kernel
theorem dX4_readLine_78 : decode cX4_readLine 78 = .ok (.ireturn, 1) := by decide +kernel
theorem dX4_readSeats_0 : decode cX4_readSeats 0 = .ok (.aload_n 0, 1) := by decide +kernel
theorem dX4_readSeats_1 : decode cX4_readSeats 1 = .ok (.getfield 28, 3) := by decide +kernel
theorem dX4_readSeats_4 : decode cX4_readSeats 4 = .ok (.ifCond .ne 10, 3) := by decide +kernel
theorem dX4_readSeats_7 : decode cX4_readSeats 7 = .ok (.aload_n 0, 1) := by decide +kernel
theorem dX4_readSeats_8 : decode cX4_readSeats 8 = .ok (.getfield 32, 3) := by decide +kernel
theorem dX4_readSeats_11 : decode cX4_readSeats 11 = .ok (.ifCond .eq 8, 3) := by decide +kernel
theorem dX4_readSeats_14 : decode cX4_readSeats 14 = .ok (.aload_n 0, 1) := by decide +kernel
theorem dX4_readSeats_15 : decode cX4_readSeats 15 = .ok (.invokevirtual 82, 3) := by decide +kernel
theorem dX4_readSeats_18 : decode cX4_readSeats 18 = .ok (.ireturn, 1) := by decide +kernel
theorem dX4_readSeats_19 : decode cX4_readSeats 19 = .ok (.aload_n 0, 1) := by decide +kernel
theorem dX4_readSeats_20 : decode cX4_readSeats 20 = .ok (.iconst 1, 1) := by decide +kernel
theorem dX4_readSeats_21 : decode cX4_readSeats 21 = .ok (.putfield 28, 3) := by decide +kernel
theorem dX4_readSeats_24 : decode cX4_readSeats 24 = .ok (.aload_n 0, 1) := by decide +kernel
theorem dX4_readSeats_25 : decode cX4_readSeats 25 = .ok (.invokevirtual 44, 3) := by decide +kernel
theorem dX4_readSeats_28 : decode cX4_readSeats 28 = .ok (.aload_n 0, 1) := by decide +kernel
theorem dX4_readSeats_29 : decode cX4_readSeats 29 = .ok (.bipush 6, 2) := by decide +kernel
theorem dX4_readSeats_31 : decode cX4_readSeats 31 = .ok (.bipush 40, 2) := by decide +kernel
theorem dX4_readSeats_33 : decode cX4_readSeats 33 = .ok (.invokevirtual 85, 3) := by decide +kernel
theorem dX4_readSeats_36 : decode cX4_readSeats 36 = .ok (.ifCond .ne 5, 3) := by decide +kernel
theorem dX4_readSeats_39 : decode cX4_readSeats 39 = .ok (.iconst 0, 1) := by decide +kernel
theorem dX4_readSeats_40 : decode cX4_readSeats 40 = .ok (.ireturn, 1) := by decide +kernel
theorem dX4_readSeats_41 : decode cX4_readSeats 41 = .ok (.aload_n 0, 1) := by decide +kernel
theorem dX4_readSeats_42 : decode cX4_readSeats 42 = .ok (.getfield 15, 3) := by decide +kernel
theorem dX4_readSeats_45 : decode cX4_readSeats 45 = .ok (.aload_n 0, 1) := by decide +kernel
theorem dX4_readSeats_46 : decode cX4_readSeats 46 = .ok (.getfield 89, 3) := by decide +kernel
theorem dX4_readSeats_49 : decode cX4_readSeats 49 = .ok (.putfield 92, 3) := by decide +kernel
theorem dX4_readSeats_52 : decode cX4_readSeats 52 = .ok (.aload_n 0, 1) := by decide +kernel
theorem dX4_readSeats_53 : decode cX4_readSeats 53 = .ok (.invokevirtual 44, 3) := by decide +kernel
theorem dX4_readSeats_56 : decode cX4_readSeats 56 = .ok (.aload_n 0, 1) := by decide +kernel
theorem dX4_readSeats_57 : decode cX4_readSeats 57 = .ok (.bipush 59, 2) := by decide +kernel
theorem dX4_readSeats_59 : decode cX4_readSeats 59 = .ok (.invokevirtual 94, 3) := by decide +kernel
theorem dX4_readSeats_62 : decode cX4_readSeats 62 = .ok (.ireturn, 1) := by decide +kernel
theorem dX4_readPlaces_0 : decode cX4_readPlaces 0 = .ok (.aload_n 0, 1) := by decide +kernel
theorem dX4_readPlaces_1 : decode cX4_readPlaces 1 = .ok (.ldc 63, 2) := by decide +kernel
theorem dX4_readPlaces_3 : decode cX4_readPlaces 3 = .ok (.invokevirtual 56, 3) := by decide +kernel
theorem dX4_readPlaces_6 : decode cX4_readPlaces 6 = .ok (.istore_n 1, 1) := by decide +kernel
theorem dX4_readPlaces_7 : decode cX4_readPlaces 7 = .ok (.aload_n 0, 1) := by decide +kernel
theorem dX4_readPlaces_8 : decode cX4_readPlaces 8 = .ok (.ldc 65, 2) := by decide +kernel
theorem dX4_readPlaces_10 : decode cX4_readPlaces 10 = .ok (.invokevirtual 56, 3) := by decide +kernel
theorem dX4_readPlaces_13 : decode cX4_readPlaces 13 = .ok (.istore_n 2, 1) := by decide +kernel
theorem dX4_readPlaces_14 : decode cX4_readPlaces 14 = .ok (.aload_n 0, 1) := by decide +kernel
theorem dX4_readPlaces_15 : decode cX4_readPlaces 15 = .ok (.iconst 1, 1) := by decide +kernel
theorem dX4_readPlaces_16 : decode cX4_readPlaces 16 = .ok (.putfield 32, 3) := by decide +kernel
theorem dX4_readPlaces_19 : decode cX4_readPlaces 19 = .ok (.aload_n 0, 1) := by decide +kernel
theorem dX4_readPlaces_20 : decode cX4_readPlaces 20 = .ok (.invokevirtual 44, 3) := by decide +kernel
theorem dX4_readPlaces_23 : decode cX4_readPlaces 23 = .ok (.aload_n 0, 1) := by decide +kernel
theorem dX4_readPlaces_24 : decode cX4_readPlaces 24 = .ok (.iconst 0, 1) := by decide +kernel
theorem dX4_readPlaces_25 : decode cX4_readPlaces 25 = .ok (.aload_n 0, 1) := by decide +kernel
theorem dX4_readPlaces_26 : decode cX4_readPlaces 26 = .ok (.getfield 15, 3) := by decide +kernel
theorem dX4_readPlaces_29 : decode cX4_readPlaces 29 = .ok (.getfield 92, 3) := by decide +kernel
theorem dX4_readPlaces_32 : decode cX4_readPlaces 32 = .ok (.iconst 1, 1) := by decide +kernel
theorem dX4_readPlaces_33 : decode cX4_readPlaces 33 = .ok (.isub, 1) := by decide +kernel
theorem dX4_readPlaces_34 : decode cX4_readPlaces 34 = .ok (.invokevirtual 85, 3) := by decide +kernel
theorem dX4_readPlaces_37 : decode cX4_readPlaces 37 = .ok (.ifCond .ne 5, 3) := by decide +kernel
theorem dX4_readPlaces_40 : decode cX4_readPlaces 40 = .ok (.iconst 0, 1) := by decide +kernel
theorem dX4_readPlaces_41 : decode cX4_readPlaces 41 = .ok (.ireturn, 1) := by decide +kernel
theorem dX4_readPlaces_42 : decode cX4_readPlaces 42 = .ok (.aload_n 0, 1) := by decide +kernel
theorem dX4_readPlaces_43 : decode cX4_readPlaces 43 = .ok (.getfield 89, 3) := by decide +kernel
theorem dX4_readPlaces_46 : decode cX4_readPlaces 46 = .ok (.istore_n 3, 1) := by decide +kernel
theorem dX4_readPlaces_47 : decode cX4_readPlaces 47 = .ok (.aload_n 0, 1) := by decide +kernel
theorem dX4_readPlaces_48 : decode cX4_readPlaces 48 = .ok (.invokevirtual 44, 3) := by decide +kernel
theorem dX4_readPlaces_51 : decode cX4_readPlaces 51 = .ok (.aload_n 0, 1) := by decide +kernel
theorem dX4_readPlaces_52 : decode cX4_readPlaces 52 = .ok (.ldc 98, 2) := by decide +kernel
theorem dX4_readPlaces_54 : decode cX4_readPlaces 54 = .ok (.invokevirtual 100, 3) := by decide +kernel
theorem dX4_readPlaces_57 : decode cX4_readPlaces 57 = .ok (.ifCond .eq 20, 3) := by decide +kernel
theorem dX4_readPlaces_60 : decode cX4_readPlaces 60 = .ok (.aload_n 0, 1) := by decide +kernel
theorem dX4_readPlaces_61 : decode cX4_readPlaces 61 = .ok (.iload_n 3, 1) := by decide +kernel
theorem dX4_readPlaces_62 : decode cX4_readPlaces 62 = .ok (.aload_n 0, 1) := by decide +kernel
theorem dX4_readPlaces_63 : decode cX4_readPlaces 63 = .ok (.getfield 15, 3) := by decide +kernel
theorem dX4_readPlaces_66 : decode cX4_readPlaces 66 = .ok (.getfield 92, 3) := by decide +kernel
theorem dX4_readPlaces_69 : decode cX4_readPlaces 69 = .ok (.iconst 1, 1) := by decide +kernel
theorem dX4_readPlaces_70 : decode cX4_readPlaces 70 = .ok (.isub, 1) := by decide +kernel
theorem dX4_readPlaces_71 : decode cX4_readPlaces 71 = .ok (.invokevirtual 85, 3) := by decide +kernel
theorem dX4_readPlaces_74 : decode cX4_readPlaces 74 = .ok (.ifCond .ne 5, 3) := by decide +kernel
theorem dX4_readPlaces_77 : decode cX4_readPlaces 77 = .ok (.iconst 0, 1) := by decide +kernel
theorem dX4_readPlaces_78 : decode cX4_readPlaces 78 = .ok (.ireturn, 1) := by decide +kernel
theorem dX4_readPlaces_79 : decode cX4_readPlaces 79 = .ok (.aload_n 0, 1) := by decide +kernel
theorem dX4_readPlaces_80 : decode cX4_readPlaces 80 = .ok (.getfield 15, 3) := by decide +kernel
theorem dX4_readPlaces_83 : decode cX4_readPlaces 83 = .ok (.iload_n 3, 1) := by decide +kernel
theorem dX4_readPlaces_84 : decode cX4_readPlaces 84 = .ok (.aload_n 0, 1) := by decide +kernel
theorem dX4_readPlaces_85 : decode cX4_readPlaces 85 = .ok (.getfield 89, 3) := by decide +kernel
theorem dX4_readPlaces_88 : decode cX4_readPlaces 88 = .ok (.iload_n 3, 1) := by decide +kernel
theorem dX4_readPlaces_89 : decode cX4_readPlaces 89 = .ok (.isub, 1) := by decide +kernel
theorem dX4_readPlaces_90 : decode cX4_readPlaces 90 = .ok (.iconst 1, 1) := by decide +kernel
theorem dX4_readPlaces_91 : decode cX4_readPlaces 91 = .ok (.iadd, 1) := by decide +kernel
theorem dX4_readPlaces_92 : decode cX4_readPlaces 92 = .ok (.invokevirtual 103, 3) := by decide +kernel
theorem dX4_readPlaces_95 : decode cX4_readPlaces 95 = .ok (.lstore 4, 2) := by decide +kernel
theorem dX4_readPlaces_97 : decode cX4_readPlaces 97 = .ok (.aload_n 0, 1) := by decide +kernel
theorem dX4_readPlaces_98 : decode cX4_readPlaces 98 = .ok (.invokevirtual 44, 3) := by decide +kernel
theorem dX4_readPlaces_101 : decode cX4_readPlaces 101 = .ok (.iload_n 1, 1) := by decide +kernel
theorem dX4_readPlaces_102 : decode cX4_readPlaces 102 = .ok (.ifCond .eq 20, 3) := by decide +kernel
theorem dX4_readPlaces_105 : decode cX4_readPlaces 105 = .ok (.aload_n 0, 1) := by decide +kernel
theorem dX4_readPlaces_106 : decode cX4_readPlaces 106 = .ok (.getfield 15, 3) := by decide +kernel
theorem dX4_readPlaces_109 : decode cX4_readPlaces 109 = .ok (.dup, 1) := by decide +kernel
theorem dX4_readPlaces_110 : decode cX4_readPlaces 110 = .ok (.getfield 107, 3) := by decide +kernel
theorem dX4_readPlaces_113 : decode cX4_readPlaces 113 = .ok (.lload 4, 2) := by decide +kernel
theorem dX4_readPlaces_115 : decode cX4_readPlaces 115 = .ok (.lor, 1) := by decide +kernel
theorem dX4_readPlaces_116 : decode cX4_readPlaces 116 = .ok (.putfield 107, 3) := by decide +kernel
theorem dX4_readPlaces_119 : decode cX4_readPlaces 119 = .ok (.goto 38, 3) := by decide +kernel
theorem dX4_readPlaces_122 : decode cX4_readPlaces 122 = .ok (.iload_n 2, 1) := by decide +kernel
theorem dX4_readPlaces_123 : decode cX4_readPlaces 123 = .ok (.ifCond .eq 20, 3) := by decide +kernel
theorem dX4_readPlaces_126 : decode cX4_readPlaces 126 = .ok (.aload_n 0, 1) := by decide +kernel
theorem dX4_readPlaces_127 : decode cX4_readPlaces 127 = .ok (.getfield 15, 3) := by decide +kernel
theorem dX4_readPlaces_130 : decode cX4_readPlaces 130 = .ok (.dup, 1) := by decide +kernel
theorem dX4_readPlaces_131 : decode cX4_readPlaces 131 = .ok (.getfield 110, 3) := by decide +kernel
theorem dX4_readPlaces_134 : decode cX4_readPlaces 134 = .ok (.lload 4, 2) := by decide +kernel
theorem dX4_readPlaces_136 : decode cX4_readPlaces 136 = .ok (.lor, 1) := by decide +kernel
theorem dX4_readPlaces_137 : decode cX4_readPlaces 137 = .ok (.putfield 110, 3) := by decide +kernel
theorem dX4_readPlaces_140 : decode cX4_readPlaces 140 = .ok (.goto 17, 3) := by decide +kernel
theorem dX4_readPlaces_143 : decode cX4_readPlaces 143 = .ok (.aload_n 0, 1) := by decide +kernel
theorem dX4_readPlaces_144 : decode cX4_readPlaces 144 = .ok (.getfield 15, 3) := by decide +kernel
theorem dX4_readPlaces_147 : decode cX4_readPlaces 147 = .ok (.dup, 1) := by decide +kernel
theorem dX4_readPlaces_148 : decode cX4_readPlaces 148 = .ok (.getfield 113, 3) := by decide +kernel
theorem dX4_readPlaces_151 : decode cX4_readPlaces 151 = .ok (.lload 4, 2) := by decide +kernel
theorem dX4_readPlaces_153 : decode cX4_readPlaces 153 = .ok (.lor, 1) := by decide +kernel
theorem dX4_readPlaces_154 : decode cX4_readPlaces 154 = .ok (.putfield 113, 3) := by decide +kernel
theorem dX4_readPlaces_157 : decode cX4_readPlaces 157 = .ok (.aload_n 0, 1) := by decide +kernel
theorem dX4_readPlaces_158 : decode cX4_readPlaces 158 = .ok (.bipush 59, 2) := by decide +kernel
theorem dX4_readPlaces_160 : decode cX4_readPlaces 160 = .ok (.invokevirtual 94, 3) := by decide +kernel
theorem dX4_readPlaces_163 : decode cX4_readPlaces 163 = .ok (.ireturn, 1) := by decide +kernel
theorem dX4_readSlack_0 : decode cX4_readSlack 0 = .ok (.aload_n 0, 1) := by decide +kernel
theorem dX4_readSlack_1 : decode cX4_readSlack 1 = .ok (.getfield 15, 3) := by decide +kernel
theorem dX4_readSlack_4 : decode cX4_readSlack 4 = .ok (.getfield 115, 3) := by decide +kernel
theorem dX4_readSlack_7 : decode cX4_readSlack 7 = .ok (.bipush 6, 2) := by decide +kernel
theorem dX4_readSlack_9 : decode cX4_readSlack 9 = .ok (.if_icmp .lt 8, 3) := by decide +kernel
theorem dX4_readSlack_12 : decode cX4_readSlack 12 = .ok (.aload_n 0, 1) := by decide +kernel
theorem dX4_readSlack_13 : decode cX4_readSlack 13 = .ok (.invokevirtual 82, 3) := by decide +kernel
theorem dX4_readSlack_16 : decode cX4_readSlack 16 = .ok (.ireturn, 1) := by decide +kernel
theorem dX4_readSlack_17 : decode cX4_readSlack 17 = .ok (.aload_n 0, 1) := by decide +kernel
theorem dX4_readSlack_18 : decode cX4_readSlack 18 = .ok (.invokevirtual 44, 3) := by decide +kernel
theorem dX4_readSlack_21 : decode cX4_readSlack 21 = .ok (.aload_n 0, 1) := by decide +kernel
theorem dX4_readSlack_22 : decode cX4_readSlack 22 = .ok (.iconst 0, 1) := by decide +kernel
theorem dX4_readSlack_23 : decode cX4_readSlack 23 = .ok (.sipush 999, 3) := by decide +kernel
theorem dX4_readSlack_26 : decode cX4_readSlack 26 = .ok (.invokevirtual 85, 3) := by decide +kernel
theorem dX4_readSlack_29 : decode cX4_readSlack 29 = .ok (.ifCond .ne 5, 3) := by decide +kernel
theorem dX4_readSlack_32 : decode cX4_readSlack 32 = .ok (.iconst 0, 1) := by decide +kernel
theorem dX4_readSlack_33 : decode cX4_readSlack 33 = .ok (.ireturn, 1) := by decide +kernel
theorem dX4_readSlack_34 : decode cX4_readSlack 34 = .ok (.aload_n 0, 1) := by decide +kernel
theorem dX4_readSlack_35 : decode cX4_readSlack 35 = .ok (.getfield 89, 3) := by decide +kernel
theorem dX4_readSlack_38 : decode cX4_readSlack 38 = .ok (.istore_n 1, 1) := by decide +kernel
theorem dX4_readSlack_39 : decode cX4_readSlack 39 = .ok (.aload_n 0, 1) := by decide +kernel
theorem dX4_readSlack_40 : decode cX4_readSlack 40 = .ok (.invokevirtual 44, 3) := by decide +kernel
theorem dX4_readSlack_43 : decode cX4_readSlack 43 = .ok (.aload_n 0, 1) := by decide +kernel
theorem dX4_readSlack_44 : decode cX4_readSlack 44 = .ok (.ldc 98, 2) := by decide +kernel
theorem dX4_readSlack_46 : decode cX4_readSlack 46 = .ok (.invokevirtual 100, 3) := by decide +kernel
theorem dX4_readSlack_49 : decode cX4_readSlack 49 = .ok (.ifCond .eq 14, 3) := by decide +kernel
theorem dX4_readSlack_52 : decode cX4_readSlack 52 = .ok (.aload_n 0, 1) := by decide +kernel
theorem dX4_readSlack_53 : decode cX4_readSlack 53 = .ok (.iload_n 1, 1) := by decide +kernel
theorem dX4_readSlack_54 : decode cX4_readSlack 54 = .ok (.sipush 999, 3) := by decide +kernel
theorem dX4_readSlack_57 : decode cX4_readSlack 57 = .ok (.invokevirtual 85, 3) := by decide +kernel
theorem dX4_readSlack_60 : decode cX4_readSlack 60 = .ok (.ifCond .ne 5, 3) := by decide +kernel
theorem dX4_readSlack_63 : decode cX4_readSlack 63 = .ok (.iconst 0, 1) := by decide +kernel
theorem dX4_readSlack_64 : decode cX4_readSlack 64 = .ok (.ireturn, 1) := by decide +kernel
theorem dX4_readSlack_65 : decode cX4_readSlack 65 = .ok (.aload_n 0, 1) := by decide +kernel
theorem dX4_readSlack_66 : decode cX4_readSlack 66 = .ok (.getfield 89, 3) := by decide +kernel
theorem dX4_readSlack_69 : decode cX4_readSlack 69 = .ok (.istore_n 2, 1) := by decide +kernel
theorem dX4_readSlack_70 : decode cX4_readSlack 70 = .ok (.aload_n 0, 1) := by decide +kernel
theorem dX4_readSlack_71 : decode cX4_readSlack 71 = .ok (.invokevirtual 44, 3) := by decide +kernel
theorem dX4_readSlack_74 : decode cX4_readSlack 74 = .ok (.aload_n 0, 1) := by decide +kernel
theorem dX4_readSlack_75 : decode cX4_readSlack 75 = .ok (.ldc 118, 2) := by decide +kernel
theorem dX4_readSlack_77 : decode cX4_readSlack 77 = .ok (.invokevirtual 100, 3) := by decide +kernel
theorem dX4_readSlack_80 : decode cX4_readSlack 80 = .ok (.ifCond .eq 13, 3) := by decide +kernel
theorem dX4_readSlack_83 : decode cX4_readSlack 83 = .ok (.aload_n 0, 1) := by decide +kernel
theorem dX4_readSlack_84 : decode cX4_readSlack 84 = .ok (.iconst 0, 1) := by decide +kernel
theorem dX4_readSlack_85 : decode cX4_readSlack 85 = .ok (.bipush 9, 2) := by decide +kernel
theorem dX4_readSlack_87 : decode cX4_readSlack 87 = .ok (.invokevirtual 85, 3) := by decide +kernel
theorem dX4_readSlack_90 : decode cX4_readSlack 90 = .ok (.ifCond .ne 5, 3) := by decide +kernel
theorem dX4_readSlack_93 : decode cX4_readSlack 93 = .ok (.iconst 0, 1) := by decide +kernel
theorem dX4_readSlack_94 : decode cX4_readSlack 94 = .ok (.ireturn, 1) := by decide +kernel
theorem dX4_readSlack_95 : decode cX4_readSlack 95 = .ok (.aload_n 0, 1) := by decide +kernel
theorem dX4_readSlack_96 : decode cX4_readSlack 96 = .ok (.getfield 15, 3) := by decide +kernel
theorem dX4_readSlack_99 : decode cX4_readSlack 99 = .ok (.iload_n 1, 1) := by decide +kernel
theorem dX4_readSlack_100 : decode cX4_readSlack 100 = .ok (.iload_n 2, 1) := by decide +kernel
theorem dX4_readSlack_101 : decode cX4_readSlack 101 = .ok (.aload_n 0, 1) := by decide +kernel
theorem dX4_readSlack_102 : decode cX4_readSlack 102 = .ok (.getfield 89, 3) := by decide +kernel
theorem dX4_readSlack_105 : decode cX4_readSlack 105 = .ok (.invokevirtual 120, 3) := by decide +kernel
theorem dX4_readSlack_108 : decode cX4_readSlack 108 = .ok (.aload_n 0, 1) := by decide +kernel
theorem dX4_readSlack_109 : decode cX4_readSlack 109 = .ok (.invokevirtual 44, 3) := by decide +kernel
theorem dX4_readSlack_112 : decode cX4_readSlack 112 = .ok (.aload_n 0, 1) := by decide +kernel
theorem dX4_readSlack_113 : decode cX4_readSlack 113 = .ok (.bipush 59, 2) := by decide +kernel
theorem dX4_readSlack_115 : decode cX4_readSlack 115 = .ok (.invokevirtual 94, 3) := by decide +kernel
theorem dX4_readSlack_118 : decode cX4_readSlack 118 = .ok (.ireturn, 1) := by decide +kernel
theorem dX4_readLaw_0 : decode cX4_readLaw 0 = .ok (.aload_n 0, 1) := by decide +kernel
theorem dX4_readLaw_1 : decode cX4_readLaw 1 = .ok (.getfield 35, 3) := by decide +kernel
theorem dX4_readLaw_4 : decode cX4_readLaw 4 = .ok (.ifCond .eq 8, 3) := by decide +kernel
theorem dX4_readLaw_7 : decode cX4_readLaw 7 = .ok (.aload_n 0, 1) := by decide +kernel
theorem dX4_readLaw_8 : decode cX4_readLaw 8 = .ok (.invokevirtual 82, 3) := by decide +kernel
theorem dX4_readLaw_11 : decode cX4_readLaw 11 = .ok (.ireturn, 1) := by decide +kernel
theorem dX4_readLaw_12 : decode cX4_readLaw 12 = .ok (.aload_n 0, 1) := by decide +kernel
theorem dX4_readLaw_13 : decode cX4_readLaw 13 = .ok (.iconst 1, 1) := by decide +kernel
theorem dX4_readLaw_14 : decode cX4_readLaw 14 = .ok (.putfield 35, 3) := by decide +kernel
theorem dX4_readLaw_17 : decode cX4_readLaw 17 = .ok (.aload_n 0, 1) := by decide +kernel
theorem dX4_readLaw_18 : decode cX4_readLaw 18 = .ok (.invokevirtual 44, 3) := by decide +kernel
theorem dX4_readLaw_21 : decode cX4_readLaw 21 = .ok (.aload_n 0, 1) := by decide +kernel
theorem dX4_readLaw_22 : decode cX4_readLaw 22 = .ok (.ldc 124, 2) := by decide +kernel
theorem dX4_readLaw_24 : decode cX4_readLaw 24 = .ok (.invokevirtual 100, 3) := by decide +kernel
theorem dX4_readLaw_27 : decode cX4_readLaw 27 = .ok (.ifCond .eq 13, 3) := by decide +kernel
theorem dX4_readLaw_30 : decode cX4_readLaw 30 = .ok (.aload_n 0, 1) := by decide +kernel
theorem dX4_readLaw_31 : decode cX4_readLaw 31 = .ok (.iconst 1, 1) := by decide +kernel
theorem dX4_readLaw_32 : decode cX4_readLaw 32 = .ok (.bipush 9, 2) := by decide +kernel
theorem dX4_readLaw_34 : decode cX4_readLaw 34 = .ok (.invokevirtual 85, 3) := by decide +kernel
theorem dX4_readLaw_37 : decode cX4_readLaw 37 = .ok (.ifCond .ne 5, 3) := by decide +kernel
theorem dX4_readLaw_40 : decode cX4_readLaw 40 = .ok (.iconst 0, 1) := by decide +kernel
theorem dX4_readLaw_41 : decode cX4_readLaw 41 = .ok (.ireturn, 1) := by decide +kernel
theorem dX4_readLaw_42 : decode cX4_readLaw 42 = .ok (.aload_n 0, 1) := by decide +kernel
theorem dX4_readLaw_43 : decode cX4_readLaw 43 = .ok (.getfield 15, 3) := by decide +kernel
theorem dX4_readLaw_46 : decode cX4_readLaw 46 = .ok (.aload_n 0, 1) := by decide +kernel
theorem dX4_readLaw_47 : decode cX4_readLaw 47 = .ok (.getfield 89, 3) := by decide +kernel
theorem dX4_readLaw_50 : decode cX4_readLaw 50 = .ok (.putfield 126, 3) := by decide +kernel
theorem dX4_readLaw_53 : decode cX4_readLaw 53 = .ok (.aload_n 0, 1) := by decide +kernel
theorem dX4_readLaw_54 : decode cX4_readLaw 54 = .ok (.invokevirtual 44, 3) := by decide +kernel
theorem dX4_readLaw_57 : decode cX4_readLaw 57 = .ok (.aload_n 0, 1) := by decide +kernel
theorem dX4_readLaw_58 : decode cX4_readLaw 58 = .ok (.ldc 128, 2) := by decide +kernel
theorem dX4_readLaw_60 : decode cX4_readLaw 60 = .ok (.invokevirtual 100, 3) := by decide +kernel
theorem dX4_readLaw_63 : decode cX4_readLaw 63 = .ok (.ifCond .eq 13, 3) := by decide +kernel
theorem dX4_readLaw_66 : decode cX4_readLaw 66 = .ok (.aload_n 0, 1) := by decide +kernel
theorem dX4_readLaw_67 : decode cX4_readLaw 67 = .ok (.iconst 0, 1) := by decide +kernel
theorem dX4_readLaw_68 : decode cX4_readLaw 68 = .ok (.bipush 20, 2) := by decide +kernel
theorem dX4_readLaw_70 : decode cX4_readLaw 70 = .ok (.invokevirtual 85, 3) := by decide +kernel
theorem dX4_readLaw_73 : decode cX4_readLaw 73 = .ok (.ifCond .ne 5, 3) := by decide +kernel
theorem dX4_readLaw_76 : decode cX4_readLaw 76 = .ok (.iconst 0, 1) := by decide +kernel
theorem dX4_readLaw_77 : decode cX4_readLaw 77 = .ok (.ireturn, 1) := by decide +kernel
theorem dX4_readLaw_78 : decode cX4_readLaw 78 = .ok (.aload_n 0, 1) := by decide +kernel
theorem dX4_readLaw_79 : decode cX4_readLaw 79 = .ok (.getfield 15, 3) := by decide +kernel
theorem dX4_readLaw_82 : decode cX4_readLaw 82 = .ok (.aload_n 0, 1) := by decide +kernel
theorem dX4_readLaw_83 : decode cX4_readLaw 83 = .ok (.getfield 89, 3) := by decide +kernel
theorem dX4_readLaw_86 : decode cX4_readLaw 86 = .ok (.putfield 130, 3) := by decide +kernel
theorem dX4_readLaw_89 : decode cX4_readLaw 89 = .ok (.aload_n 0, 1) := by decide +kernel
theorem dX4_readLaw_90 : decode cX4_readLaw 90 = .ok (.invokevirtual 44, 3) := by decide +kernel
theorem dX4_readLaw_93 : decode cX4_readLaw 93 = .ok (.aload_n 0, 1) := by decide +kernel
theorem dX4_readLaw_94 : decode cX4_readLaw 94 = .ok (.ldc 132, 2) := by decide +kernel
theorem dX4_readLaw_96 : decode cX4_readLaw 96 = .ok (.invokevirtual 100, 3) := by decide +kernel
theorem dX4_readLaw_99 : decode cX4_readLaw 99 = .ok (.ifCond .eq 13, 3) := by decide +kernel
theorem dX4_readLaw_102 : decode cX4_readLaw 102 = .ok (.aload_n 0, 1) := by decide +kernel
theorem dX4_readLaw_103 : decode cX4_readLaw 103 = .ok (.iconst 1, 1) := by decide +kernel
theorem dX4_readLaw_104 : decode cX4_readLaw 104 = .ok (.bipush 9, 2) := by decide +kernel
theorem dX4_readLaw_106 : decode cX4_readLaw 106 = .ok (.invokevirtual 85, 3) := by decide +kernel
theorem dX4_readLaw_109 : decode cX4_readLaw 109 = .ok (.ifCond .ne 5, 3) := by decide +kernel
theorem dX4_readLaw_112 : decode cX4_readLaw 112 = .ok (.iconst 0, 1) := by decide +kernel
theorem dX4_readLaw_113 : decode cX4_readLaw 113 = .ok (.ireturn, 1) := by decide +kernel
theorem dX4_readLaw_114 : decode cX4_readLaw 114 = .ok (.aload_n 0, 1) := by decide +kernel
theorem dX4_readLaw_115 : decode cX4_readLaw 115 = .ok (.getfield 15, 3) := by decide +kernel
theorem dX4_readLaw_118 : decode cX4_readLaw 118 = .ok (.aload_n 0, 1) := by decide +kernel
theorem dX4_readLaw_119 : decode cX4_readLaw 119 = .ok (.getfield 89, 3) := by decide +kernel
theorem dX4_readLaw_122 : decode cX4_readLaw 122 = .ok (.putfield 134, 3) := by decide +kernel
theorem dX4_readLaw_125 : decode cX4_readLaw 125 = .ok (.aload_n 0, 1) := by decide +kernel
theorem dX4_readLaw_126 : decode cX4_readLaw 126 = .ok (.invokevirtual 44, 3) := by decide +kernel
theorem dX4_readLaw_129 : decode cX4_readLaw 129 = .ok (.aload_n 0, 1) := by decide +kernel
theorem dX4_readLaw_130 : decode cX4_readLaw 130 = .ok (.ldc 136, 2) := by decide +kernel
theorem dX4_readLaw_132 : decode cX4_readLaw 132 = .ok (.invokevirtual 100, 3) := by decide +kernel
theorem dX4_readLaw_135 : decode cX4_readLaw 135 = .ok (.ifCond .eq 13, 3) := by decide +kernel
theorem dX4_readLaw_138 : decode cX4_readLaw 138 = .ok (.aload_n 0, 1) := by decide +kernel
theorem dX4_readLaw_139 : decode cX4_readLaw 139 = .ok (.iconst 0, 1) := by decide +kernel
theorem dX4_readLaw_140 : decode cX4_readLaw 140 = .ok (.bipush 9, 2) := by decide +kernel
theorem dX4_readLaw_142 : decode cX4_readLaw 142 = .ok (.invokevirtual 85, 3) := by decide +kernel
theorem dX4_readLaw_145 : decode cX4_readLaw 145 = .ok (.ifCond .ne 5, 3) := by decide +kernel
theorem dX4_readLaw_148 : decode cX4_readLaw 148 = .ok (.iconst 0, 1) := by decide +kernel
theorem dX4_readLaw_149 : decode cX4_readLaw 149 = .ok (.ireturn, 1) := by decide +kernel
theorem dX4_readLaw_150 : decode cX4_readLaw 150 = .ok (.aload_n 0, 1) := by decide +kernel
theorem dX4_readLaw_151 : decode cX4_readLaw 151 = .ok (.getfield 15, 3) := by decide +kernel
theorem dX4_readLaw_154 : decode cX4_readLaw 154 = .ok (.aload_n 0, 1) := by decide +kernel
theorem dX4_readLaw_155 : decode cX4_readLaw 155 = .ok (.getfield 89, 3) := by decide +kernel
theorem dX4_readLaw_158 : decode cX4_readLaw 158 = .ok (.putfield 138, 3) := by decide +kernel
theorem dX4_readLaw_161 : decode cX4_readLaw 161 = .ok (.aload_n 0, 1) := by decide +kernel
theorem dX4_readLaw_162 : decode cX4_readLaw 162 = .ok (.invokevirtual 44, 3) := by decide +kernel
theorem dX4_readLaw_165 : decode cX4_readLaw 165 = .ok (.aload_n 0, 1) := by decide +kernel
theorem dX4_readLaw_166 : decode cX4_readLaw 166 = .ok (.getfield 15, 3) := by decide +kernel
theorem dX4_readLaw_169 : decode cX4_readLaw 169 = .ok (.getfield 140, 3) := by decide +kernel
theorem dX4_readLaw_172 : decode cX4_readLaw 172 = .ok (.invokevirtual 143, 3) := by decide +kernel
theorem dX4_readLaw_175 : decode cX4_readLaw 175 = .ok (.aload_n 0, 1) := by decide +kernel
theorem dX4_readLaw_176 : decode cX4_readLaw 176 = .ok (.ldc 148, 2) := by decide +kernel
theorem dX4_readLaw_178 : decode cX4_readLaw 178 = .ok (.invokevirtual 100, 3) := by decide +kernel
theorem dX4_readLaw_181 : decode cX4_readLaw 181 = .ok (.ifCond .eq 24, 3) := by decide +kernel
theorem dX4_readLaw_184 : decode cX4_readLaw 184 = .ok (.aload_n 0, 1) := by decide +kernel
theorem dX4_readLaw_185 : decode cX4_readLaw 185 = .ok (.iconst 0, 1) := by decide +kernel
theorem dX4_readLaw_186 : decode cX4_readLaw 186 = .ok (.invokevirtual 150, 3) := by decide +kernel
theorem dX4_readLaw_189 : decode cX4_readLaw 189 = .ok (.ifCond .eq 16, 3) := by decide +kernel
theorem dX4_readLaw_192 : decode cX4_readLaw 192 = .ok (.aload_n 0, 1) := by decide +kernel
theorem dX4_readLaw_193 : decode cX4_readLaw 193 = .ok (.bipush 59, 2) := by decide +kernel
theorem dX4_readLaw_195 : decode cX4_readLaw 195 = .ok (.invokevirtual 94, 3) := by decide +kernel
theorem dX4_readLaw_198 : decode cX4_readLaw 198 = .ok (.ifCond .eq 7, 3) := by decide +kernel
theorem dX4_readLaw_201 : decode cX4_readLaw 201 = .ok (.iconst 1, 1) := by decide +kernel
theorem dX4_readLaw_202 : decode cX4_readLaw 202 = .ok (.goto 4, 3) := by decide +kernel
theorem dX4_readLaw_205 : decode cX4_readLaw 205 = .ok (.iconst 0, 1) := by decide +kernel
theorem dX4_readLaw_206 : decode cX4_readLaw 206 = .ok (.ireturn, 1) := by decide +kernel
theorem dX4_readEither_0 : decode cX4_readEither 0 = .ok (.aload_n 0, 1) := by decide +kernel
theorem dX4_readEither_1 : decode cX4_readEither 1 = .ok (.iload_n 1, 1) := by decide +kernel
theorem dX4_readEither_2 : decode cX4_readEither 2 = .ok (.invokevirtual 154, 3) := by decide +kernel
theorem dX4_readEither_5 : decode cX4_readEither 5 = .ok (.istore_n 2, 1) := by decide +kernel
theorem dX4_readEither_6 : decode cX4_readEither 6 = .ok (.iconst 0, 1) := by decide +kernel
theorem dX4_readEither_7 : decode cX4_readEither 7 = .ok (.istore_n 3, 1) := by decide +kernel
theorem dX4_readEither_8 : decode cX4_readEither 8 = .ok (.iload_n 3, 1) := by decide +kernel
theorem dX4_readEither_9 : decode cX4_readEither 9 = .ok (.bipush 30, 2) := by decide +kernel
theorem dX4_readEither_11 : decode cX4_readEither 11 = .ok (.if_icmp .ge 45, 3) := by decide +kernel
theorem dX4_readEither_14 : decode cX4_readEither 14 = .ok (.iload_n 2, 1) := by decide +kernel
theorem dX4_readEither_15 : decode cX4_readEither 15 = .ok (.ifCond .eq 41, 3) := by decide +kernel
theorem dX4_readEither_18 : decode cX4_readEither 18 = .ok (.aload_n 0, 1) := by decide +kernel
theorem dX4_readEither_19 : decode cX4_readEither 19 = .ok (.ldc 157, 2) := by decide +kernel
theorem dX4_readEither_21 : decode cX4_readEither 21 = .ok (.invokevirtual 56, 3) := by decide +kernel
theorem dX4_readEither_24 : decode cX4_readEither 24 = .ok (.ifCond .eq 32, 3) := by decide +kernel
theorem dX4_readEither_27 : decode cX4_readEither 27 = .ok (.aload_n 0, 1) := by decide +kernel
theorem dX4_readEither_28 : decode cX4_readEither 28 = .ok (.invokevirtual 44, 3) := by decide +kernel
theorem dX4_readEither_31 : decode cX4_readEither 31 = .ok (.aload_n 0, 1) := by decide +kernel
theorem dX4_readEither_32 : decode cX4_readEither 32 = .ok (.iload_n 1, 1) := by decide +kernel
theorem dX4_readEither_33 : decode cX4_readEither 33 = .ok (.invokevirtual 154, 3) := by decide +kernel
theorem dX4_readEither_36 : decode cX4_readEither 36 = .ok (.istore_n 2, 1) := by decide +kernel
theorem dX4_readEither_37 : decode cX4_readEither 37 = .ok (.aload_n 0, 1) := by decide +kernel
theorem dX4_readEither_38 : decode cX4_readEither 38 = .ok (.getfield 15, 3) := by decide +kernel
theorem dX4_readEither_41 : decode cX4_readEither 41 = .ok (.getfield 140, 3) := by decide +kernel
theorem dX4_readEither_44 : decode cX4_readEither 44 = .ok (.sipush 20002, 3) := by decide +kernel
theorem dX4_readEither_47 : decode cX4_readEither 47 = .ok (.invokevirtual 159, 3) := by decide +kernel
theorem dX4_readEither_50 : decode cX4_readEither 50 = .ok (.iinc 3 1, 3) := by decide +kernel
theorem dX4_readEither_53 : decode cX4_readEither 53 = .ok (.goto (-45), 3) := by decide +kernel
theorem dX4_readEither_56 : decode cX4_readEither 56 = .ok (.iload_n 2, 1) := by decide +kernel
theorem dX4_readEither_57 : decode cX4_readEither 57 = .ok (.ireturn, 1) := by decide +kernel
theorem dX4_readBoth_0 : decode cX4_readBoth 0 = .ok (.aload_n 0, 1) := by decide +kernel
theorem dX4_readBoth_1 : decode cX4_readBoth 1 = .ok (.iload_n 1, 1) := by decide +kernel
theorem dX4_readBoth_2 : decode cX4_readBoth 2 = .ok (.invokevirtual 163, 3) := by decide +kernel
theorem dX4_readBoth_5 : decode cX4_readBoth 5 = .ok (.istore_n 2, 1) := by decide +kernel
theorem dX4_readBoth_6 : decode cX4_readBoth 6 = .ok (.iconst 0, 1) := by decide +kernel
theorem dX4_readBoth_7 : decode cX4_readBoth 7 = .ok (.istore_n 3, 1) := by decide +kernel
theorem dX4_readBoth_8 : decode cX4_readBoth 8 = .ok (.iload_n 3, 1) := by decide +kernel
theorem dX4_readBoth_9 : decode cX4_readBoth 9 = .ok (.bipush 30, 2) := by decide +kernel
theorem dX4_readBoth_11 : decode cX4_readBoth 11 = .ok (.if_icmp .ge 45, 3) := by decide +kernel
theorem dX4_readBoth_14 : decode cX4_readBoth 14 = .ok (.iload_n 2, 1) := by decide +kernel
theorem dX4_readBoth_15 : decode cX4_readBoth 15 = .ok (.ifCond .eq 41, 3) := by decide +kernel
theorem dX4_readBoth_18 : decode cX4_readBoth 18 = .ok (.aload_n 0, 1) := by decide +kernel
theorem dX4_readBoth_19 : decode cX4_readBoth 19 = .ok (.ldc 166, 2) := by decide +kernel
theorem dX4_readBoth_21 : decode cX4_readBoth 21 = .ok (.invokevirtual 56, 3) := by decide +kernel
theorem dX4_readBoth_24 : decode cX4_readBoth 24 = .ok (.ifCond .eq 32, 3) := by decide +kernel
theorem dX4_readBoth_27 : decode cX4_readBoth 27 = .ok (.aload_n 0, 1) := by decide +kernel
theorem dX4_readBoth_28 : decode cX4_readBoth 28 = .ok (.invokevirtual 44, 3) := by decide +kernel
theorem dX4_readBoth_31 : decode cX4_readBoth 31 = .ok (.aload_n 0, 1) := by decide +kernel
theorem dX4_readBoth_32 : decode cX4_readBoth 32 = .ok (.iload_n 1, 1) := by decide +kernel
theorem dX4_readBoth_33 : decode cX4_readBoth 33 = .ok (.invokevirtual 163, 3) := by decide +kernel
theorem dX4_readBoth_36 : decode cX4_readBoth 36 = .ok (.istore_n 2, 1) := by decide +kernel
theorem dX4_readBoth_37 : decode cX4_readBoth 37 = .ok (.aload_n 0, 1) := by decide +kernel
theorem dX4_readBoth_38 : decode cX4_readBoth 38 = .ok (.getfield 15, 3) := by decide +kernel
theorem dX4_readBoth_41 : decode cX4_readBoth 41 = .ok (.getfield 140, 3) := by decide +kernel
theorem dX4_readBoth_44 : decode cX4_readBoth 44 = .ok (.sipush 20001, 3) := by decide +kernel
theorem dX4_readBoth_47 : decode cX4_readBoth 47 = .ok (.invokevirtual 159, 3) := by decide +kernel
theorem dX4_readBoth_50 : decode cX4_readBoth 50 = .ok (.iinc 3 1, 3) := by decide +kernel
theorem dX4_readBoth_53 : decode cX4_readBoth 53 = .ok (.goto (-45), 3) := by decide +kernel
theorem dX4_readBoth_56 : decode cX4_readBoth 56 = .ok (.iload_n 2, 1) := by decide +kernel
theorem dX4_readBoth_57 : decode cX4_readBoth 57 = .ok (.ireturn, 1) := by decide +kernel
theorem dX4_readOne_0 : decode cX4_readOne 0 = .ok (.aload_n 0, 1) := by decide +kernel
theorem dX4_readOne_1 : decode cX4_readOne 1 = .ok (.ldc 168, 2) := by decide +kernel
theorem dX4_readOne_3 : decode cX4_readOne 3 = .ok (.invokevirtual 56, 3) := by decide +kernel
theorem dX4_readOne_6 : decode cX4_readOne 6 = .ok (.ifCond .eq 41, 3) := by decide +kernel
theorem dX4_readOne_9 : decode cX4_readOne 9 = .ok (.iload_n 1, 1) := by decide +kernel
theorem dX4_readOne_10 : decode cX4_readOne 10 = .ok (.bipush 7, 2) := by decide +kernel
theorem dX4_readOne_12 : decode cX4_readOne 12 = .ok (.if_icmp .lt 8, 3) := by decide +kernel
theorem dX4_readOne_15 : decode cX4_readOne 15 = .ok (.aload_n 0, 1) := by decide +kernel
theorem dX4_readOne_16 : decode cX4_readOne 16 = .ok (.invokevirtual 82, 3) := by decide +kernel
theorem dX4_readOne_19 : decode cX4_readOne 19 = .ok (.ireturn, 1) := by decide +kernel
theorem dX4_readOne_20 : decode cX4_readOne 20 = .ok (.aload_n 0, 1) := by decide +kernel
theorem dX4_readOne_21 : decode cX4_readOne 21 = .ok (.invokevirtual 44, 3) := by decide +kernel
theorem dX4_readOne_24 : decode cX4_readOne 24 = .ok (.aload_n 0, 1) := by decide +kernel
theorem dX4_readOne_25 : decode cX4_readOne 25 = .ok (.iload_n 1, 1) := by decide +kernel
theorem dX4_readOne_26 : decode cX4_readOne 26 = .ok (.iconst 1, 1) := by decide +kernel
theorem dX4_readOne_27 : decode cX4_readOne 27 = .ok (.iadd, 1) := by decide +kernel
theorem dX4_readOne_28 : decode cX4_readOne 28 = .ok (.invokevirtual 163, 3) := by decide +kernel
theorem dX4_readOne_31 : decode cX4_readOne 31 = .ok (.istore_n 2, 1) := by decide +kernel
theorem dX4_readOne_32 : decode cX4_readOne 32 = .ok (.aload_n 0, 1) := by decide +kernel
theorem dX4_readOne_33 : decode cX4_readOne 33 = .ok (.getfield 15, 3) := by decide +kernel
theorem dX4_readOne_36 : decode cX4_readOne 36 = .ok (.getfield 140, 3) := by decide +kernel
theorem dX4_readOne_39 : decode cX4_readOne 39 = .ok (.sipush 20000, 3) := by decide +kernel
theorem dX4_readOne_42 : decode cX4_readOne 42 = .ok (.invokevirtual 159, 3) := by decide +kernel
theorem dX4_readOne_45 : decode cX4_readOne 45 = .ok (.iload_n 2, 1) := by decide +kernel
theorem dX4_readOne_46 : decode cX4_readOne 46 = .ok (.ireturn, 1) := by decide +kernel
theorem dX4_readOne_47 : decode cX4_readOne 47 = .ok (.aload_n 0, 1) := by decide +kernel
theorem dX4_readOne_48 : decode cX4_readOne 48 = .ok (.iload_n 1, 1) := by decide +kernel
theorem dX4_readOne_49 : decode cX4_readOne 49 = .ok (.invokevirtual 170, 3) := by decide +kernel
theorem dX4_readOne_52 : decode cX4_readOne 52 = .ok (.ifCond .ne 5, 3) := by decide +kernel
theorem dX4_readOne_55 : decode cX4_readOne 55 = .ok (.iconst 0, 1) := by decide +kernel
theorem dX4_readOne_56 : decode cX4_readOne 56 = .ok (.ireturn, 1) := by decide +kernel
theorem dX4_readOne_57 : decode cX4_readOne 57 = .ok (.aload_n 0, 1) := by decide +kernel
theorem dX4_readOne_58 : decode cX4_readOne 58 = .ok (.invokevirtual 173, 3) := by decide +kernel
theorem dX4_readOne_61 : decode cX4_readOne 61 = .ok (.istore_n 2, 1) := by decide +kernel
theorem dX4_readOne_62 : decode cX4_readOne 62 = .ok (.iload_n 2, 1) := by decide +kernel
theorem dX4_readOne_63 : decode cX4_readOne 63 = .ok (.iconst (-1), 1) := by decide +kernel
theorem dX4_readOne_64 : decode cX4_readOne 64 = .ok (.if_icmp .ne 5, 3) := by decide +kernel
theorem dX4_readOne_67 : decode cX4_readOne 67 = .ok (.iconst 1, 1) := by decide +kernel
theorem dX4_readOne_68 : decode cX4_readOne 68 = .ok (.ireturn, 1) := by decide +kernel
theorem dX4_readOne_69 : decode cX4_readOne 69 = .ok (.aload_n 0, 1) := by decide +kernel
theorem dX4_readOne_70 : decode cX4_readOne 70 = .ok (.invokevirtual 44, 3) := by decide +kernel
theorem dX4_readOne_73 : decode cX4_readOne 73 = .ok (.aload_n 0, 1) := by decide +kernel
theorem dX4_readOne_74 : decode cX4_readOne 74 = .ok (.iload_n 1, 1) := by decide +kernel
theorem dX4_readOne_75 : decode cX4_readOne 75 = .ok (.invokevirtual 170, 3) := by decide +kernel
theorem dX4_readOne_78 : decode cX4_readOne 78 = .ok (.istore_n 3, 1) := by decide +kernel
theorem dX4_readOne_79 : decode cX4_readOne 79 = .ok (.aload_n 0, 1) := by decide +kernel
theorem dX4_readOne_80 : decode cX4_readOne 80 = .ok (.getfield 15, 3) := by decide +kernel
theorem dX4_readOne_83 : decode cX4_readOne 83 = .ok (.getfield 140, 3) := by decide +kernel
theorem dX4_readOne_86 : decode cX4_readOne 86 = .ok (.iload_n 2, 1) := by decide +kernel
theorem dX4_readOne_87 : decode cX4_readOne 87 = .ok (.invokevirtual 159, 3) := by decide +kernel
theorem dX4_readOne_90 : decode cX4_readOne 90 = .ok (.iload_n 3, 1) := by decide +kernel
theorem dX4_readOne_91 : decode cX4_readOne 91 = .ok (.ireturn, 1) := by decide +kernel
theorem dX4_relationHere_0 : decode cX4_relationHere 0 = .ok (.aload_n 0, 1) := by decide +kernel
theorem dX4_relationHere_1 : decode cX4_relationHere 1 = .ok (.bipush 60, 2) := by decide +kernel
theorem dX4_relationHere_3 : decode cX4_relationHere 3 = .ok (.invokevirtual 177, 3) := by decide +kernel
theorem dX4_relationHere_6 : decode cX4_relationHere 6 = .ok (.ifCond .eq 7, 3) := by decide +kernel
theorem dX4_relationHere_9 : decode cX4_relationHere 9 = .ok (.sipush 20003, 3) := by decide +kernel
theorem dX4_relationHere_12 : decode cX4_relationHere 12 = .ok (.ireturn, 1) := by decide +kernel
theorem dX4_relationHere_13 : decode cX4_relationHere 13 = .ok (.aload_n 0, 1) := by decide +kernel
theorem dX4_relationHere_14 : decode cX4_relationHere 14 = .ok (.bipush 62, 2) := by decide +kernel
theorem dX4_relationHere_16 : decode cX4_relationHere 16 = .ok (.invokevirtual 177, 3) := by decide +kernel
theorem dX4_relationHere_19 : decode cX4_relationHere 19 = .ok (.ifCond .eq 7, 3) := by decide +kernel
theorem dX4_relationHere_22 : decode cX4_relationHere 22 = .ok (.sipush 20004, 3) := by decide +kernel
theorem dX4_relationHere_25 : decode cX4_relationHere 25 = .ok (.ireturn, 1) := by decide +kernel
theorem dX4_relationHere_26 : decode cX4_relationHere 26 = .ok (.aload_n 0, 1) := by decide +kernel
theorem dX4_relationHere_27 : decode cX4_relationHere 27 = .ok (.bipush 61, 2) := by decide +kernel
theorem dX4_relationHere_29 : decode cX4_relationHere 29 = .ok (.invokevirtual 177, 3) := by decide +kernel
theorem dX4_relationHere_32 : decode cX4_relationHere 32 = .ok (.ifCond .eq 9, 3) := by decide +kernel
theorem dX4_relationHere_35 : decode cX4_relationHere 35 = .ok (.sipush 20005, 3) := by decide +kernel
theorem dX4_relationHere_38 : decode cX4_relationHere 38 = .ok (.goto 4, 3) := by decide +kernel
theorem dX4_relationHere_41 : decode cX4_relationHere 41 = .ok (.iconst (-1), 1) := by decide +kernel
theorem dX4_relationHere_42 : decode cX4_relationHere 42 = .ok (.ireturn, 1) := by decide +kernel
theorem dX4_readSum_0 : decode cX4_readSum 0 = .ok (.aload_n 0, 1) := by decide +kernel
theorem dX4_readSum_1 : decode cX4_readSum 1 = .ok (.iload_n 1, 1) := by decide +kernel
theorem dX4_readSum_2 : decode cX4_readSum 2 = .ok (.invokevirtual 180, 3) := by decide +kernel
theorem dX4_readSum_5 : decode cX4_readSum 5 = .ok (.istore_n 2, 1) := by decide +kernel
theorem dX4_readSum_6 : decode cX4_readSum 6 = .ok (.iconst 0, 1) := by decide +kernel
theorem dX4_readSum_7 : decode cX4_readSum 7 = .ok (.istore_n 3, 1) := by decide +kernel
theorem dX4_readSum_8 : decode cX4_readSum 8 = .ok (.iload_n 3, 1) := by decide +kernel
theorem dX4_readSum_9 : decode cX4_readSum 9 = .ok (.bipush 30, 2) := by decide +kernel
theorem dX4_readSum_11 : decode cX4_readSum 11 = .ok (.if_icmp .ge 73, 3) := by decide +kernel
theorem dX4_readSum_14 : decode cX4_readSum 14 = .ok (.iload_n 2, 1) := by decide +kernel
theorem dX4_readSum_15 : decode cX4_readSum 15 = .ok (.ifCond .eq 69, 3) := by decide +kernel
theorem dX4_readSum_18 : decode cX4_readSum 18 = .ok (.aload_n 0, 1) := by decide +kernel
theorem dX4_readSum_19 : decode cX4_readSum 19 = .ok (.bipush 43, 2) := by decide +kernel
theorem dX4_readSum_21 : decode cX4_readSum 21 = .ok (.invokevirtual 177, 3) := by decide +kernel
theorem dX4_readSum_24 : decode cX4_readSum 24 = .ok (.ifCond .ne 12, 3) := by decide +kernel
theorem dX4_readSum_27 : decode cX4_readSum 27 = .ok (.aload_n 0, 1) := by decide +kernel
theorem dX4_readSum_28 : decode cX4_readSum 28 = .ok (.bipush 45, 2) := by decide +kernel
theorem dX4_readSum_30 : decode cX4_readSum 30 = .ok (.invokevirtual 177, 3) := by decide +kernel
theorem dX4_readSum_33 : decode cX4_readSum 33 = .ok (.ifCond .eq 51, 3) := by decide +kernel
theorem dX4_readSum_36 : decode cX4_readSum 36 = .ok (.aload_n 0, 1) := by decide +kernel
theorem dX4_readSum_37 : decode cX4_readSum 37 = .ok (.bipush 43, 2) := by decide +kernel
theorem dX4_readSum_39 : decode cX4_readSum 39 = .ok (.invokevirtual 177, 3) := by decide +kernel
theorem dX4_readSum_42 : decode cX4_readSum 42 = .ok (.ifCond .eq 9, 3) := by decide +kernel
theorem dX4_readSum_45 : decode cX4_readSum 45 = .ok (.sipush 20006, 3) := by decide +kernel
theorem dX4_readSum_48 : decode cX4_readSum 48 = .ok (.goto 6, 3) := by decide +kernel
theorem dX4_readSum_51 : decode cX4_readSum 51 = .ok (.sipush 20007, 3) := by decide +kernel
theorem dX4_readSum_54 : decode cX4_readSum 54 = .ok (.istore 4, 2) := by decide +kernel
theorem dX4_readSum_56 : decode cX4_readSum 56 = .ok (.aload_n 0, 1) := by decide +kernel
theorem dX4_readSum_57 : decode cX4_readSum 57 = .ok (.invokevirtual 44, 3) := by decide +kernel
theorem dX4_readSum_60 : decode cX4_readSum 60 = .ok (.aload_n 0, 1) := by decide +kernel
theorem dX4_readSum_61 : decode cX4_readSum 61 = .ok (.iload_n 1, 1) := by decide +kernel
theorem dX4_readSum_62 : decode cX4_readSum 62 = .ok (.invokevirtual 180, 3) := by decide +kernel
theorem dX4_readSum_65 : decode cX4_readSum 65 = .ok (.istore_n 2, 1) := by decide +kernel
theorem dX4_readSum_66 : decode cX4_readSum 66 = .ok (.aload_n 0, 1) := by decide +kernel
theorem dX4_readSum_67 : decode cX4_readSum 67 = .ok (.getfield 15, 3) := by decide +kernel
theorem dX4_readSum_70 : decode cX4_readSum 70 = .ok (.getfield 140, 3) := by decide +kernel
theorem dX4_readSum_73 : decode cX4_readSum 73 = .ok (.iload 4, 2) := by decide +kernel
theorem dX4_readSum_75 : decode cX4_readSum 75 = .ok (.invokevirtual 159, 3) := by decide +kernel
theorem dX4_readSum_78 : decode cX4_readSum 78 = .ok (.iinc 3 1, 3) := by decide +kernel
theorem dX4_readSum_81 : decode cX4_readSum 81 = .ok (.goto (-73), 3) := by decide +kernel
theorem dX4_readSum_84 : decode cX4_readSum 84 = .ok (.iload_n 2, 1) := by decide +kernel
theorem dX4_readSum_85 : decode cX4_readSum 85 = .ok (.ireturn, 1) := by decide +kernel
theorem dX4_readTerm_0 : decode cX4_readTerm 0 = .ok (.aload_n 0, 1) := by decide +kernel
theorem dX4_readTerm_1 : decode cX4_readTerm 1 = .ok (.iload_n 1, 1) := by decide +kernel
theorem dX4_readTerm_2 : decode cX4_readTerm 2 = .ok (.invokevirtual 183, 3) := by decide +kernel
theorem dX4_readTerm_5 : decode cX4_readTerm 5 = .ok (.istore_n 2, 1) := by decide +kernel
theorem dX4_readTerm_6 : decode cX4_readTerm 6 = .ok (.iconst 0, 1) := by decide +kernel
theorem dX4_readTerm_7 : decode cX4_readTerm 7 = .ok (.istore_n 3, 1) := by decide +kernel
theorem dX4_readTerm_8 : decode cX4_readTerm 8 = .ok (.iload_n 3, 1) := by decide +kernel
theorem dX4_readTerm_9 : decode cX4_readTerm 9 = .ok (.bipush 30, 2) := by decide +kernel
theorem dX4_readTerm_11 : decode cX4_readTerm 11 = .ok (.if_icmp .ge 45, 3) := by decide +kernel
theorem dX4_readTerm_14 : decode cX4_readTerm 14 = .ok (.iload_n 2, 1) := by decide +kernel
theorem dX4_readTerm_15 : decode cX4_readTerm 15 = .ok (.ifCond .eq 41, 3) := by decide +kernel
theorem dX4_readTerm_18 : decode cX4_readTerm 18 = .ok (.aload_n 0, 1) := by decide +kernel
theorem dX4_readTerm_19 : decode cX4_readTerm 19 = .ok (.bipush 42, 2) := by decide +kernel
theorem dX4_readTerm_21 : decode cX4_readTerm 21 = .ok (.invokevirtual 177, 3) := by decide +kernel
theorem dX4_readTerm_24 : decode cX4_readTerm 24 = .ok (.ifCond .eq 32, 3) := by decide +kernel
theorem dX4_readTerm_27 : decode cX4_readTerm 27 = .ok (.aload_n 0, 1) := by decide +kernel
theorem dX4_readTerm_28 : decode cX4_readTerm 28 = .ok (.invokevirtual 44, 3) := by decide +kernel
theorem dX4_readTerm_31 : decode cX4_readTerm 31 = .ok (.aload_n 0, 1) := by decide +kernel
theorem dX4_readTerm_32 : decode cX4_readTerm 32 = .ok (.iload_n 1, 1) := by decide +kernel
theorem dX4_readTerm_33 : decode cX4_readTerm 33 = .ok (.invokevirtual 183, 3) := by decide +kernel
theorem dX4_readTerm_36 : decode cX4_readTerm 36 = .ok (.istore_n 2, 1) := by decide +kernel
theorem dX4_readTerm_37 : decode cX4_readTerm 37 = .ok (.aload_n 0, 1) := by decide +kernel
theorem dX4_readTerm_38 : decode cX4_readTerm 38 = .ok (.getfield 15, 3) := by decide +kernel
theorem dX4_readTerm_41 : decode cX4_readTerm 41 = .ok (.getfield 140, 3) := by decide +kernel
theorem dX4_readTerm_44 : decode cX4_readTerm 44 = .ok (.sipush 20008, 3) := by decide +kernel
theorem dX4_readTerm_47 : decode cX4_readTerm 47 = .ok (.invokevirtual 159, 3) := by decide +kernel
theorem dX4_readTerm_50 : decode cX4_readTerm 50 = .ok (.iinc 3 1, 3) := by decide +kernel
theorem dX4_readTerm_53 : decode cX4_readTerm 53 = .ok (.goto (-45), 3) := by decide +kernel
theorem dX4_readTerm_56 : decode cX4_readTerm 56 = .ok (.iload_n 2, 1) := by decide +kernel
theorem dX4_readTerm_57 : decode cX4_readTerm 57 = .ok (.ireturn, 1) := by decide +kernel
theorem dX4_readUnit_0 : decode cX4_readUnit 0 = .ok (.aload_n 0, 1) := by decide +kernel
theorem dX4_readUnit_1 : decode cX4_readUnit 1 = .ok (.getfield 15, 3) := by decide +kernel
theorem dX4_readUnit_4 : decode cX4_readUnit 4 = .ok (.getfield 140, 3) := by decide +kernel
theorem dX4_readUnit_7 : decode cX4_readUnit 7 = .ok (.getfield 186, 3) := by decide +kernel
theorem dX4_readUnit_10 : decode cX4_readUnit 10 = .ok (.bipush 30, 2) := by decide +kernel
theorem dX4_readUnit_12 : decode cX4_readUnit 12 = .ok (.if_icmp .lt 8, 3) := by decide +kernel
theorem dX4_readUnit_15 : decode cX4_readUnit 15 = .ok (.aload_n 0, 1) := by decide +kernel
theorem dX4_readUnit_16 : decode cX4_readUnit 16 = .ok (.invokevirtual 82, 3) := by decide +kernel
theorem dX4_readUnit_19 : decode cX4_readUnit 19 = .ok (.ireturn, 1) := by decide +kernel
theorem dX4_readUnit_20 : decode cX4_readUnit 20 = .ok (.aload_n 0, 1) := by decide +kernel
theorem dX4_readUnit_21 : decode cX4_readUnit 21 = .ok (.bipush 40, 2) := by decide +kernel
theorem dX4_readUnit_23 : decode cX4_readUnit 23 = .ok (.invokevirtual 177, 3) := by decide +kernel
theorem dX4_readUnit_26 : decode cX4_readUnit 26 = .ok (.ifCond .eq 9, 3) := by decide +kernel
theorem dX4_readUnit_29 : decode cX4_readUnit 29 = .ok (.aload_n 0, 1) := by decide +kernel
theorem dX4_readUnit_30 : decode cX4_readUnit 30 = .ok (.iload_n 1, 1) := by decide +kernel
theorem dX4_readUnit_31 : decode cX4_readUnit 31 = .ok (.invokevirtual 189, 3) := by decide +kernel
theorem dX4_readUnit_34 : decode cX4_readUnit 34 = .ok (.ireturn, 1) := by decide +kernel
theorem dX4_readUnit_35 : decode cX4_readUnit 35 = .ok (.aload_n 0, 1) := by decide +kernel
theorem dX4_readUnit_36 : decode cX4_readUnit 36 = .ok (.invokevirtual 192, 3) := by decide +kernel
theorem dX4_readUnit_39 : decode cX4_readUnit 39 = .ok (.istore_n 2, 1) := by decide +kernel
theorem dX4_readUnit_40 : decode cX4_readUnit 40 = .ok (.aload_n 0, 1) := by decide +kernel
theorem dX4_readUnit_41 : decode cX4_readUnit 41 = .ok (.getfield 47, 3) := by decide +kernel
theorem dX4_readUnit_44 : decode cX4_readUnit 44 = .ok (.iconst 2, 1) := by decide +kernel
theorem dX4_readUnit_45 : decode cX4_readUnit 45 = .ok (.if_icmp .eq 13, 3) := by decide +kernel
theorem dX4_readUnit_48 : decode cX4_readUnit 48 = .ok (.iload_n 2, 1) := by decide +kernel
theorem dX4_readUnit_49 : decode cX4_readUnit 49 = .ok (.iconst (-1), 1) := by decide +kernel
theorem dX4_readUnit_50 : decode cX4_readUnit 50 = .ok (.if_icmp .ne 8, 3) := by decide +kernel
theorem dX4_readUnit_53 : decode cX4_readUnit 53 = .ok (.aload_n 0, 1) := by decide +kernel
theorem dX4_readUnit_54 : decode cX4_readUnit 54 = .ok (.invokevirtual 82, 3) := by decide +kernel
theorem dX4_readUnit_57 : decode cX4_readUnit 57 = .ok (.ireturn, 1) := by decide +kernel
theorem dX4_readUnit_58 : decode cX4_readUnit 58 = .ok (.aload_n 0, 1) := by decide +kernel
theorem dX4_readUnit_59 : decode cX4_readUnit 59 = .ok (.getfield 15, 3) := by decide +kernel
theorem dX4_readUnit_62 : decode cX4_readUnit 62 = .ok (.getfield 140, 3) := by decide +kernel
theorem dX4_readUnit_65 : decode cX4_readUnit 65 = .ok (.aload_n 0, 1) := by decide +kernel
theorem dX4_readUnit_66 : decode cX4_readUnit 66 = .ok (.getfield 47, 3) := by decide +kernel
theorem dX4_readUnit_69 : decode cX4_readUnit 69 = .ok (.iconst 2, 1) := by decide +kernel
theorem dX4_readUnit_70 : decode cX4_readUnit 70 = .ok (.if_icmp .ne 10, 3) := by decide +kernel
theorem dX4_readUnit_73 : decode cX4_readUnit 73 = .ok (.aload_n 0, 1) := by decide +kernel
theorem dX4_readUnit_74 : decode cX4_readUnit 74 = .ok (.getfield 89, 3) := by decide +kernel
theorem dX4_readUnit_77 : decode cX4_readUnit 77 = .ok (.goto 8, 3) := by decide +kernel
theorem dX4_readUnit_80 : decode cX4_readUnit 80 = .ok (.sipush 10000, 3) := by decide +kernel
theorem dX4_readUnit_83 : decode cX4_readUnit 83 = .ok (.iload_n 2, 1) := by decide +kernel
theorem dX4_readUnit_84 : decode cX4_readUnit 84 = .ok (.iadd, 1) := by decide +kernel
theorem dX4_readUnit_85 : decode cX4_readUnit 85 = .ok (.invokevirtual 195, 3) := by decide +kernel
theorem dX4_readUnit_88 : decode cX4_readUnit 88 = .ok (.aload_n 0, 1) := by decide +kernel
theorem dX4_readUnit_89 : decode cX4_readUnit 89 = .ok (.invokevirtual 44, 3) := by decide +kernel
theorem dX4_readUnit_92 : decode cX4_readUnit 92 = .ok (.iconst 1, 1) := by decide +kernel
theorem dX4_readUnit_93 : decode cX4_readUnit 93 = .ok (.ireturn, 1) := by decide +kernel
theorem dX4_readNested_0 : decode cX4_readNested 0 = .ok (.iload_n 1, 1) := by decide +kernel
theorem dX4_readNested_1 : decode cX4_readNested 1 = .ok (.bipush 7, 2) := by decide +kernel
theorem dX4_readNested_3 : decode cX4_readNested 3 = .ok (.if_icmp .lt 8, 3) := by decide +kernel
theorem dX4_readNested_6 : decode cX4_readNested 6 = .ok (.aload_n 0, 1) := by decide +kernel
theorem dX4_readNested_7 : decode cX4_readNested 7 = .ok (.invokevirtual 82, 3) := by decide +kernel
theorem dX4_readNested_10 : decode cX4_readNested 10 = .ok (.ireturn, 1) := by decide +kernel
theorem dX4_readNested_11 : decode cX4_readNested 11 = .ok (.aload_n 0, 1) := by decide +kernel
theorem dX4_readNested_12 : decode cX4_readNested 12 = .ok (.getfield 15, 3) := by decide +kernel
theorem dX4_readNested_15 : decode cX4_readNested 15 = .ok (.getfield 140, 3) := by decide +kernel
theorem dX4_readNested_18 : decode cX4_readNested 18 = .ok (.dup, 1) := by decide +kernel
theorem dX4_readNested_19 : decode cX4_readNested 19 = .ok (.getfield 186, 3) := by decide +kernel
theorem dX4_readNested_22 : decode cX4_readNested 22 = .ok (.iconst 1, 1) := by decide +kernel
theorem dX4_readNested_23 : decode cX4_readNested 23 = .ok (.iadd, 1) := by decide +kernel
theorem dX4_readNested_24 : decode cX4_readNested 24 = .ok (.putfield 186, 3) := by decide +kernel
theorem dX4_readNested_27 : decode cX4_readNested 27 = .ok (.aload_n 0, 1) := by decide +kernel
theorem dX4_readNested_28 : decode cX4_readNested 28 = .ok (.invokevirtual 44, 3) := by decide +kernel
theorem dX4_readNested_31 : decode cX4_readNested 31 = .ok (.aload_n 0, 1) := by decide +kernel
theorem dX4_readNested_32 : decode cX4_readNested 32 = .ok (.iload_n 1, 1) := by decide +kernel
theorem dX4_readNested_33 : decode cX4_readNested 33 = .ok (.iconst 1, 1) := by decide +kernel
theorem dX4_readNested_34 : decode cX4_readNested 34 = .ok (.iadd, 1) := by decide +kernel
theorem dX4_readNested_35 : decode cX4_readNested 35 = .ok (.invokevirtual 150, 3) := by decide +kernel
theorem dX4_readNested_38 : decode cX4_readNested 38 = .ok (.ifCond .ne 5, 3) := by decide +kernel
theorem dX4_readNested_41 : decode cX4_readNested 41 = .ok (.iconst 0, 1) := by decide +kernel
theorem dX4_readNested_42 : decode cX4_readNested 42 = .ok (.ireturn, 1) := by decide +kernel
theorem dX4_readNested_43 : decode cX4_readNested 43 = .ok (.aload_n 0, 1) := by decide +kernel
theorem dX4_readNested_44 : decode cX4_readNested 44 = .ok (.bipush 41, 2) := by decide +kernel
theorem dX4_readNested_46 : decode cX4_readNested 46 = .ok (.invokevirtual 177, 3) := by decide +kernel
theorem dX4_readNested_49 : decode cX4_readNested 49 = .ok (.ifCond .ne 8, 3) := by decide +kernel
theorem dX4_readNested_52 : decode cX4_readNested 52 = .ok (.aload_n 0, 1) := by decide +kernel
theorem dX4_readNested_53 : decode cX4_readNested 53 = .ok (.invokevirtual 82, 3) := by decide +kernel
theorem dX4_readNested_56 : decode cX4_readNested 56 = .ok (.ireturn, 1) := by decide +kernel
theorem dX4_readNested_57 : decode cX4_readNested 57 = .ok (.aload_n 0, 1) := by decide +kernel
theorem dX4_readNested_58 : decode cX4_readNested 58 = .ok (.invokevirtual 44, 3) := by decide +kernel
theorem dX4_readNested_61 : decode cX4_readNested 61 = .ok (.iconst 1, 1) := by decide +kernel
theorem dX4_readNested_62 : decode cX4_readNested 62 = .ok (.ireturn, 1) := by decide +kernel
theorem dX4_lookHere_0 : decode cX4_lookHere 0 = .ok (.aload_n 0, 1) := by decide +kernel
theorem dX4_lookHere_1 : decode cX4_lookHere 1 = .ok (.ldc 198, 2) := by decide +kernel
theorem dX4_lookHere_3 : decode cX4_lookHere 3 = .ok (.invokevirtual 56, 3) := by decide +kernel
theorem dX4_lookHere_6 : decode cX4_lookHere 6 = .ok (.ifCond .eq 5, 3) := by decide +kernel
theorem dX4_lookHere_9 : decode cX4_lookHere 9 = .ok (.iconst 0, 1) := by decide +kernel
theorem dX4_lookHere_10 : decode cX4_lookHere 10 = .ok (.ireturn, 1) := by decide +kernel
theorem dX4_lookHere_11 : decode cX4_lookHere 11 = .ok (.aload_n 0, 1) := by decide +kernel
theorem dX4_lookHere_12 : decode cX4_lookHere 12 = .ok (.ldc 200, 2) := by decide +kernel
theorem dX4_lookHere_14 : decode cX4_lookHere 14 = .ok (.invokevirtual 56, 3) := by decide +kernel
theorem dX4_lookHere_17 : decode cX4_lookHere 17 = .ok (.ifCond .eq 5, 3) := by decide +kernel
theorem dX4_lookHere_20 : decode cX4_lookHere 20 = .ok (.iconst 1, 1) := by decide +kernel
theorem dX4_lookHere_21 : decode cX4_lookHere 21 = .ok (.ireturn, 1) := by decide +kernel
theorem dX4_lookHere_22 : decode cX4_lookHere 22 = .ok (.aload_n 0, 1) := by decide +kernel
theorem dX4_lookHere_23 : decode cX4_lookHere 23 = .ok (.ldc 72, 2) := by decide +kernel
theorem dX4_lookHere_25 : decode cX4_lookHere 25 = .ok (.invokevirtual 56, 3) := by decide +kernel
theorem dX4_lookHere_28 : decode cX4_lookHere 28 = .ok (.ifCond .eq 5, 3) := by decide +kernel
theorem dX4_lookHere_31 : decode cX4_lookHere 31 = .ok (.iconst 2, 1) := by decide +kernel
theorem dX4_lookHere_32 : decode cX4_lookHere 32 = .ok (.ireturn, 1) := by decide +kernel
theorem dX4_lookHere_33 : decode cX4_lookHere 33 = .ok (.aload_n 0, 1) := by decide +kernel
theorem dX4_lookHere_34 : decode cX4_lookHere 34 = .ok (.ldc 202, 2) := by decide +kernel
theorem dX4_lookHere_36 : decode cX4_lookHere 36 = .ok (.invokevirtual 56, 3) := by decide +kernel
theorem dX4_lookHere_39 : decode cX4_lookHere 39 = .ok (.ifCond .eq 5, 3) := by decide +kernel
theorem dX4_lookHere_42 : decode cX4_lookHere 42 = .ok (.iconst 3, 1) := by decide +kernel
theorem dX4_lookHere_43 : decode cX4_lookHere 43 = .ok (.ireturn, 1) := by decide +kernel
theorem dX4_lookHere_44 : decode cX4_lookHere 44 = .ok (.aload_n 0, 1) := by decide +kernel
theorem dX4_lookHere_45 : decode cX4_lookHere 45 = .ok (.ldc 204, 2) := by decide +kernel
theorem dX4_lookHere_47 : decode cX4_lookHere 47 = .ok (.invokevirtual 56, 3) := by decide +kernel
theorem dX4_lookHere_50 : decode cX4_lookHere 50 = .ok (.ifCond .eq 5, 3) := by decide +kernel
theorem dX4_lookHere_53 : decode cX4_lookHere 53 = .ok (.iconst 4, 1) := by decide +kernel
theorem dX4_lookHere_54 : decode cX4_lookHere 54 = .ok (.ireturn, 1) := by decide +kernel
theorem dX4_lookHere_55 : decode cX4_lookHere 55 = .ok (.aload_n 0, 1) := by decide +kernel
theorem dX4_lookHere_56 : decode cX4_lookHere 56 = .ok (.ldc 206, 2) := by decide +kernel
theorem dX4_lookHere_58 : decode cX4_lookHere 58 = .ok (.invokevirtual 56, 3) := by decide +kernel
theorem dX4_lookHere_61 : decode cX4_lookHere 61 = .ok (.ifCond .eq 5, 3) := by decide +kernel
theorem dX4_lookHere_64 : decode cX4_lookHere 64 = .ok (.iconst 5, 1) := by decide +kernel
theorem dX4_lookHere_65 : decode cX4_lookHere 65 = .ok (.ireturn, 1) := by decide +kernel
theorem dX4_lookHere_66 : decode cX4_lookHere 66 = .ok (.aload_n 0, 1) := by decide +kernel
theorem dX4_lookHere_67 : decode cX4_lookHere 67 = .ok (.ldc 208, 2) := by decide +kernel
theorem dX4_lookHere_69 : decode cX4_lookHere 69 = .ok (.invokevirtual 56, 3) := by decide +kernel
theorem dX4_lookHere_72 : decode cX4_lookHere 72 = .ok (.ifCond .eq 8, 3) := by decide +kernel
theorem dX4_lookHere_75 : decode cX4_lookHere 75 = .ok (.bipush 6, 2) := by decide +kernel
theorem dX4_lookHere_77 : decode cX4_lookHere 77 = .ok (.goto 4, 3) := by decide +kernel
theorem dX4_lookHere_80 : decode cX4_lookHere 80 = .ok (.iconst (-1), 1) := by decide +kernel
theorem dX4_lookHere_81 : decode cX4_lookHere 81 = .ok (.ireturn, 1) := by decide +kernel
theorem dX4_takeWord_0 : decode cX4_takeWord 0 = .ok (.aload_n 0, 1) := by decide +kernel
theorem dX4_takeWord_1 : decode cX4_takeWord 1 = .ok (.aload_n 1, 1) := by decide +kernel
theorem dX4_takeWord_2 : decode cX4_takeWord 2 = .ok (.invokevirtual 56, 3) := by decide +kernel
theorem dX4_takeWord_5 : decode cX4_takeWord 5 = .ok (.ifCond .ne 8, 3) := by decide +kernel
theorem dX4_takeWord_8 : decode cX4_takeWord 8 = .ok (.aload_n 0, 1) := by decide +kernel
theorem dX4_takeWord_9 : decode cX4_takeWord 9 = .ok (.invokevirtual 82, 3) := by decide +kernel
theorem dX4_takeWord_12 : decode cX4_takeWord 12 = .ok (.ireturn, 1) := by decide +kernel
theorem dX4_takeWord_13 : decode cX4_takeWord 13 = .ok (.aload_n 0, 1) := by decide +kernel
theorem dX4_takeWord_14 : decode cX4_takeWord 14 = .ok (.invokevirtual 44, 3) := by decide +kernel
theorem dX4_takeWord_17 : decode cX4_takeWord 17 = .ok (.iconst 1, 1) := by decide +kernel
theorem dX4_takeWord_18 : decode cX4_takeWord 18 = .ok (.ireturn, 1) := by decide +kernel
theorem dX4_takeSign_0 : decode cX4_takeSign 0 = .ok (.aload_n 0, 1) := by decide +kernel
theorem dX4_takeSign_1 : decode cX4_takeSign 1 = .ok (.iload_n 1, 1) := by decide +kernel
theorem dX4_takeSign_2 : decode cX4_takeSign 2 = .ok (.invokevirtual 177, 3) := by decide +kernel
theorem dX4_takeSign_5 : decode cX4_takeSign 5 = .ok (.ifCond .ne 8, 3) := by decide +kernel
theorem dX4_takeSign_8 : decode cX4_takeSign 8 = .ok (.aload_n 0, 1) := by decide +kernel
theorem dX4_takeSign_9 : decode cX4_takeSign 9 = .ok (.invokevirtual 82, 3) := by decide +kernel
theorem dX4_takeSign_12 : decode cX4_takeSign 12 = .ok (.ireturn, 1) := by decide +kernel
theorem dX4_takeSign_13 : decode cX4_takeSign 13 = .ok (.aload_n 0, 1) := by decide +kernel
theorem dX4_takeSign_14 : decode cX4_takeSign 14 = .ok (.invokevirtual 44, 3) := by decide +kernel
theorem dX4_takeSign_17 : decode cX4_takeSign 17 = .ok (.iconst 1, 1) := by decide +kernel
theorem dX4_takeSign_18 : decode cX4_takeSign 18 = .ok (.ireturn, 1) := by decide +kernel
theorem dX4_takeNumber_0 : decode cX4_takeNumber 0 = .ok (.aload_n 0, 1) := by decide +kernel
theorem dX4_takeNumber_1 : decode cX4_takeNumber 1 = .ok (.getfield 47, 3) := by decide +kernel
theorem dX4_takeNumber_4 : decode cX4_takeNumber 4 = .ok (.iconst 2, 1) := by decide +kernel
theorem dX4_takeNumber_5 : decode cX4_takeNumber 5 = .ok (.if_icmp .eq 8, 3) := by decide +kernel
theorem dX4_takeNumber_8 : decode cX4_takeNumber 8 = .ok (.aload_n 0, 1) := by decide +kernel
theorem dX4_takeNumber_9 : decode cX4_takeNumber 9 = .ok (.invokevirtual 82, 3) := by decide +kernel
theorem dX4_takeNumber_12 : decode cX4_takeNumber 12 = .ok (.ireturn, 1) := by decide +kernel
theorem dX4_takeNumber_13 : decode cX4_takeNumber 13 = .ok (.aload_n 0, 1) := by decide +kernel
theorem dX4_takeNumber_14 : decode cX4_takeNumber 14 = .ok (.getfield 89, 3) := by decide +kernel
theorem dX4_takeNumber_17 : decode cX4_takeNumber 17 = .ok (.iload_n 1, 1) := by decide +kernel
theorem dX4_takeNumber_18 : decode cX4_takeNumber 18 = .ok (.if_icmp .lt 11, 3) := by decide +kernel
theorem dX4_takeNumber_21 : decode cX4_takeNumber 21 = .ok (.aload_n 0, 1) := by decide +kernel
theorem dX4_takeNumber_22 : decode cX4_takeNumber 22 = .ok (.getfield 89, 3) := by decide +kernel
theorem dX4_takeNumber_25 : decode cX4_takeNumber 25 = .ok (.iload_n 2, 1) := by decide +kernel
theorem dX4_takeNumber_26 : decode cX4_takeNumber 26 = .ok (.if_icmp .le 18, 3) := by decide +kernel
theorem dX4_takeNumber_29 : decode cX4_takeNumber 29 = .ok (.aload_n 0, 1) := by decide +kernel
theorem dX4_takeNumber_30 : decode cX4_takeNumber 30 = .ok (.iconst 4, 1) := by decide +kernel
theorem dX4_takeNumber_31 : decode cX4_takeNumber 31 = .ok (.putfield 38, 3) := by decide +kernel
theorem dX4_takeNumber_34 : decode cX4_takeNumber 34 = .ok (.aload_n 0, 1) := by decide +kernel
theorem dX4_takeNumber_35 : decode cX4_takeNumber 35 = .ok (.aload_n 0, 1) := by decide +kernel
theorem dX4_takeNumber_36 : decode cX4_takeNumber 36 = .ok (.getfield 210, 3) := by decide +kernel
theorem dX4_takeNumber_39 : decode cX4_takeNumber 39 = .ok (.putfield 19, 3) := by decide +kernel
theorem dX4_takeNumber_42 : decode cX4_takeNumber 42 = .ok (.iconst 0, 1) := by decide +kernel
theorem dX4_takeNumber_43 : decode cX4_takeNumber 43 = .ok (.ireturn, 1) := by decide +kernel
theorem dX4_takeNumber_44 : decode cX4_takeNumber 44 = .ok (.iconst 1, 1) := by decide +kernel
theorem dX4_takeNumber_45 : decode cX4_takeNumber 45 = .ok (.ireturn, 1) := by decide +kernel
theorem dX4_refuse_0 : decode cX4_refuse 0 = .ok (.aload_n 0, 1) := by decide +kernel
theorem dX4_refuse_1 : decode cX4_refuse 1 = .ok (.aload_n 0, 1) := by decide +kernel
theorem dX4_refuse_2 : decode cX4_refuse 2 = .ok (.getfield 47, 3) := by decide +kernel
theorem dX4_refuse_5 : decode cX4_refuse 5 = .ok (.iconst 4, 1) := by decide +kernel
theorem dX4_refuse_6 : decode cX4_refuse 6 = .ok (.if_icmp .ne 7, 3) := by decide +kernel
theorem dX4_refuse_9 : decode cX4_refuse 9 = .ok (.iconst 1, 1) := by decide +kernel
theorem dX4_refuse_10 : decode cX4_refuse 10 = .ok (.goto 4, 3) := by decide +kernel
theorem dX4_refuse_13 : decode cX4_refuse 13 = .ok (.iconst 2, 1) := by decide +kernel
theorem dX4_refuse_14 : decode cX4_refuse 14 = .ok (.putfield 38, 3) := by decide +kernel
theorem dX4_refuse_17 : decode cX4_refuse 17 = .ok (.aload_n 0, 1) := by decide +kernel
theorem dX4_refuse_18 : decode cX4_refuse 18 = .ok (.aload_n 0, 1) := by decide +kernel
theorem dX4_refuse_19 : decode cX4_refuse 19 = .ok (.getfield 210, 3) := by decide +kernel
theorem dX4_refuse_22 : decode cX4_refuse 22 = .ok (.putfield 19, 3) := by decide +kernel
theorem dX4_refuse_25 : decode cX4_refuse 25 = .ok (.iconst 0, 1) := by decide +kernel
theorem dX4_refuse_26 : decode cX4_refuse 26 = .ok (.ireturn, 1) := by decide +kernel
theorem dX4_isSign_0 : decode cX4_isSign 0 = .ok (.aload_n 0, 1) := by decide +kernel
theorem dX4_isSign_1 : decode cX4_isSign 1 = .ok (.getfield 47, 3) := by decide +kernel
theorem dX4_isSign_4 : decode cX4_isSign 4 = .ok (.iconst 3, 1) := by decide +kernel
theorem dX4_isSign_5 : decode cX4_isSign 5 = .ok (.if_icmp .ne 22, 3) := by decide +kernel
theorem dX4_isSign_8 : decode cX4_isSign 8 = .ok (.aload_n 0, 1) := by decide +kernel
theorem dX4_isSign_9 : decode cX4_isSign 9 = .ok (.getfield 9, 3) := by decide +kernel
theorem dX4_isSign_12 : decode cX4_isSign 12 = .ok (.aload_n 0, 1) := by decide +kernel
theorem dX4_isSign_13 : decode cX4_isSign 13 = .ok (.getfield 210, 3) := by decide +kernel
theorem dX4_isSign_16 : decode cX4_isSign 16 = .ok (.invokevirtual 213, 3) := by decide +kernel
theorem dX4_isSign_19 : decode cX4_isSign 19 = .ok (.iload_n 1, 1) := by decide +kernel
theorem dX4_isSign_20 : decode cX4_isSign 20 = .ok (.if_icmp .ne 7, 3) := by decide +kernel
theorem dX4_isSign_23 : decode cX4_isSign 23 = .ok (.iconst 1, 1) := by decide +kernel
theorem dX4_isSign_24 : decode cX4_isSign 24 = .ok (.goto 4, 3) := by decide +kernel
theorem dX4_isSign_27 : decode cX4_isSign 27 = .ok (.iconst 0, 1) := by decide +kernel
theorem dX4_isSign_28 : decode cX4_isSign 28 = .ok (.ireturn, 1) := by decide +kernel
theorem dX4_isWord_0 : decode cX4_isWord 0 = .ok (.aload_n 0, 1) := by decide +kernel
theorem dX4_isWord_1 : decode cX4_isWord 1 = .ok (.getfield 47, 3) := by decide +kernel
theorem dX4_isWord_4 : decode cX4_isWord 4 = .ok (.iconst 1, 1) := by decide +kernel
theorem dX4_isWord_5 : decode cX4_isWord 5 = .ok (.if_icmp .ne 19, 3) := by decide +kernel
theorem dX4_isWord_8 : decode cX4_isWord 8 = .ok (.aload_n 0, 1) := by decide +kernel
theorem dX4_isWord_9 : decode cX4_isWord 9 = .ok (.getfield 41, 3) := by decide +kernel
theorem dX4_isWord_12 : decode cX4_isWord 12 = .ok (.aload_n 0, 1) := by decide +kernel
theorem dX4_isWord_13 : decode cX4_isWord 13 = .ok (.getfield 210, 3) := by decide +kernel
theorem dX4_isWord_16 : decode cX4_isWord 16 = .ok (.isub, 1) := by decide +kernel
theorem dX4_isWord_17 : decode cX4_isWord 17 = .ok (.aload_n 1, 1) := by decide +kernel
theorem dX4_isWord_18 : decode cX4_isWord 18 = .ok (.invokevirtual 219, 3) := by decide +kernel
theorem dX4_isWord_21 : decode cX4_isWord 21 = .ok (.if_icmp .eq 5, 3) := by decide +kernel
theorem dX4_isWord_24 : decode cX4_isWord 24 = .ok (.iconst 0, 1) := by decide +kernel
theorem dX4_isWord_25 : decode cX4_isWord 25 = .ok (.ireturn, 1) := by decide +kernel
theorem dX4_isWord_26 : decode cX4_isWord 26 = .ok (.iconst 0, 1) := by decide +kernel
theorem dX4_isWord_27 : decode cX4_isWord 27 = .ok (.istore_n 2, 1) := by decide +kernel
theorem dX4_isWord_28 : decode cX4_isWord 28 = .ok (.iload_n 2, 1) := by decide +kernel
theorem dX4_isWord_29 : decode cX4_isWord 29 = .ok (.aload_n 1, 1) := by decide +kernel
theorem dX4_isWord_30 : decode cX4_isWord 30 = .ok (.invokevirtual 219, 3) := by decide +kernel
theorem dX4_isWord_33 : decode cX4_isWord 33 = .ok (.if_icmp .ge 32, 3) := by decide +kernel
theorem dX4_isWord_36 : decode cX4_isWord 36 = .ok (.aload_n 0, 1) := by decide +kernel
theorem dX4_isWord_37 : decode cX4_isWord 37 = .ok (.getfield 9, 3) := by decide +kernel
theorem dX4_isWord_40 : decode cX4_isWord 40 = .ok (.aload_n 0, 1) := by decide +kernel
theorem dX4_isWord_41 : decode cX4_isWord 41 = .ok (.getfield 210, 3) := by decide +kernel
theorem dX4_isWord_44 : decode cX4_isWord 44 = .ok (.iload_n 2, 1) := by decide +kernel
theorem dX4_isWord_45 : decode cX4_isWord 45 = .ok (.iadd, 1) := by decide +kernel
theorem dX4_isWord_46 : decode cX4_isWord 46 = .ok (.invokevirtual 213, 3) := by decide +kernel
theorem dX4_isWord_49 : decode cX4_isWord 49 = .ok (.aload_n 1, 1) := by decide +kernel
theorem dX4_isWord_50 : decode cX4_isWord 50 = .ok (.iload_n 2, 1) := by decide +kernel
theorem dX4_isWord_51 : decode cX4_isWord 51 = .ok (.invokevirtual 224, 3) := by decide +kernel
theorem dX4_isWord_54 : decode cX4_isWord 54 = .ok (.if_icmp .eq 5, 3) := by decide +kernel
theorem dX4_isWord_57 : decode cX4_isWord 57 = .ok (.iconst 0, 1) := by decide +kernel
theorem dX4_isWord_58 : decode cX4_isWord 58 = .ok (.ireturn, 1) := by decide +kernel
theorem dX4_isWord_59 : decode cX4_isWord 59 = .ok (.iinc 2 1, 3) := by decide +kernel
theorem dX4_isWord_62 : decode cX4_isWord 62 = .ok (.goto (-34), 3) := by decide +kernel
theorem dX4_isWord_65 : decode cX4_isWord 65 = .ok (.iconst 1, 1) := by decide +kernel
theorem dX4_isWord_66 : decode cX4_isWord 66 = .ok (.ireturn, 1) := by decide +kernel
theorem dX4_step_0 : decode cX4_step 0 = .ok (.aload_n 0, 1) := by decide +kernel
theorem dX4_step_1 : decode cX4_step 1 = .ok (.getfield 41, 3) := by decide +kernel
theorem dX4_step_4 : decode cX4_step 4 = .ok (.istore_n 1, 1) := by decide +kernel
theorem dX4_step_5 : decode cX4_step 5 = .ok (.iload_n 1, 1) := by decide +kernel
theorem dX4_step_6 : decode cX4_step 6 = .ok (.sipush 800, 3) := by decide +kernel
theorem dX4_step_9 : decode cX4_step 9 = .ok (.if_icmp .ge 23, 3) := by decide +kernel
theorem dX4_step_12 : decode cX4_step 12 = .ok (.aload_n 0, 1) := by decide +kernel
theorem dX4_step_13 : decode cX4_step 13 = .ok (.getfield 9, 3) := by decide +kernel
theorem dX4_step_16 : decode cX4_step 16 = .ok (.iload_n 1, 1) := by decide +kernel
theorem dX4_step_17 : decode cX4_step 17 = .ok (.invokevirtual 213, 3) := by decide +kernel
theorem dX4_step_20 : decode cX4_step 20 = .ok (.invokestatic 228, 3) := by decide +kernel
theorem dX4_step_23 : decode cX4_step 23 = .ok (.ifCond .eq 9, 3) := by decide +kernel
theorem dX4_step_26 : decode cX4_step 26 = .ok (.iinc 1 1, 3) := by decide +kernel
theorem dX4_step_29 : decode cX4_step 29 = .ok (.goto (-24), 3) := by decide +kernel
theorem dX4_step_32 : decode cX4_step 32 = .ok (.aload_n 0, 1) := by decide +kernel
theorem dX4_step_33 : decode cX4_step 33 = .ok (.iload_n 1, 1) := by decide +kernel
theorem dX4_step_34 : decode cX4_step 34 = .ok (.putfield 210, 3) := by decide +kernel
theorem dX4_step_37 : decode cX4_step 37 = .ok (.aload_n 0, 1) := by decide +kernel
theorem dX4_step_38 : decode cX4_step 38 = .ok (.getfield 9, 3) := by decide +kernel
theorem dX4_step_41 : decode cX4_step 41 = .ok (.iload_n 1, 1) := by decide +kernel
theorem dX4_step_42 : decode cX4_step 42 = .ok (.invokevirtual 213, 3) := by decide +kernel
theorem dX4_step_45 : decode cX4_step 45 = .ok (.istore_n 2, 1) := by decide +kernel
theorem dX4_step_46 : decode cX4_step 46 = .ok (.iload_n 2, 1) := by decide +kernel
theorem dX4_step_47 : decode cX4_step 47 = .ok (.iconst (-1), 1) := by decide +kernel
theorem dX4_step_48 : decode cX4_step 48 = .ok (.if_icmp .ne 16, 3) := by decide +kernel
theorem dX4_step_51 : decode cX4_step 51 = .ok (.aload_n 0, 1) := by decide +kernel
theorem dX4_step_52 : decode cX4_step 52 = .ok (.iconst 0, 1) := by decide +kernel
theorem dX4_step_53 : decode cX4_step 53 = .ok (.putfield 47, 3) := by decide +kernel
theorem dX4_step_56 : decode cX4_step 56 = .ok (.aload_n 0, 1) := by decide +kernel
theorem dX4_step_57 : decode cX4_step 57 = .ok (.iload_n 1, 1) := by decide +kernel
theorem dX4_step_58 : decode cX4_step 58 = .ok (.putfield 41, 3) := by decide +kernel
theorem dX4_step_61 : decode cX4_step 61 = .ok (.goto 54, 3) := by decide +kernel
theorem dX4_step_64 : decode cX4_step 64 = .ok (.iload_n 2, 1) := by decide +kernel
theorem dX4_step_65 : decode cX4_step 65 = .ok (.invokestatic 231, 3) := by decide +kernel
theorem dX4_step_68 : decode cX4_step 68 = .ok (.ifCond .eq 10, 3) := by decide +kernel
theorem dX4_step_71 : decode cX4_step 71 = .ok (.aload_n 0, 1) := by decide +kernel
theorem dX4_step_72 : decode cX4_step 72 = .ok (.invokevirtual 234, 3) := by decide +kernel
theorem dX4_step_75 : decode cX4_step 75 = .ok (.goto 40, 3) := by decide +kernel
theorem dX4_step_78 : decode cX4_step 78 = .ok (.iload_n 2, 1) := by decide +kernel
theorem dX4_step_79 : decode cX4_step 79 = .ok (.invokestatic 237, 3) := by decide +kernel
theorem dX4_step_82 : decode cX4_step 82 = .ok (.ifCond .eq 10, 3) := by decide +kernel
theorem dX4_step_85 : decode cX4_step 85 = .ok (.aload_n 0, 1) := by decide +kernel
theorem dX4_step_86 : decode cX4_step 86 = .ok (.invokevirtual 240, 3) := by decide +kernel
theorem dX4_step_89 : decode cX4_step 89 = .ok (.goto 26, 3) := by decide +kernel
theorem dX4_step_92 : decode cX4_step 92 = .ok (.aload_n 0, 1) := by decide +kernel
theorem dX4_step_93 : decode cX4_step 93 = .ok (.iload_n 2, 1) := by decide +kernel
theorem dX4_step_94 : decode cX4_step 94 = .ok (.invokestatic 243, 3) := by decide +kernel
theorem dX4_step_97 : decode cX4_step 97 = .ok (.ifCond .eq 7, 3) := by decide +kernel
theorem dX4_step_100 : decode cX4_step 100 = .ok (.iconst 3, 1) := by decide +kernel
theorem dX4_step_101 : decode cX4_step 101 = .ok (.goto 4, 3) := by decide +kernel
theorem dX4_step_104 : decode cX4_step 104 = .ok (.iconst 4, 1) := by decide +kernel
theorem dX4_step_105 : decode cX4_step 105 = .ok (.putfield 47, 3) := by decide +kernel
theorem dX4_step_108 : decode cX4_step 108 = .ok (.aload_n 0, 1) := by decide +kernel
theorem dX4_step_109 : decode cX4_step 109 = .ok (.iload_n 1, 1) := by decide +kernel
theorem dX4_step_110 : decode cX4_step 110 = .ok (.iconst 1, 1) := by decide +kernel
theorem dX4_step_111 : decode cX4_step 111 = .ok (.iadd, 1) := by decide +kernel
theorem dX4_step_112 : decode cX4_step 112 = .ok (.putfield 41, 3) := by decide +kernel
theorem dX4_step_115 : decode cX4_step 115 = .ok (.return_, 1) := by decide +kernel
theorem dX4_readWord_0 : decode cX4_readWord 0 = .ok (.aload_n 0, 1) := by decide +kernel
theorem dX4_readWord_1 : decode cX4_readWord 1 = .ok (.getfield 210, 3) := by decide +kernel
theorem dX4_readWord_4 : decode cX4_readWord 4 = .ok (.istore_n 1, 1) := by decide +kernel
theorem dX4_readWord_5 : decode cX4_readWord 5 = .ok (.iload_n 1, 1) := by decide +kernel
theorem dX4_readWord_6 : decode cX4_readWord 6 = .ok (.sipush 800, 3) := by decide +kernel
theorem dX4_readWord_9 : decode cX4_readWord 9 = .ok (.if_icmp .ge 23, 3) := by decide +kernel
theorem dX4_readWord_12 : decode cX4_readWord 12 = .ok (.aload_n 0, 1) := by decide +kernel
theorem dX4_readWord_13 : decode cX4_readWord 13 = .ok (.getfield 9, 3) := by decide +kernel
theorem dX4_readWord_16 : decode cX4_readWord 16 = .ok (.iload_n 1, 1) := by decide +kernel
theorem dX4_readWord_17 : decode cX4_readWord 17 = .ok (.invokevirtual 213, 3) := by decide +kernel
theorem dX4_readWord_20 : decode cX4_readWord 20 = .ok (.invokestatic 231, 3) := by decide +kernel
theorem dX4_readWord_23 : decode cX4_readWord 23 = .ok (.ifCond .eq 9, 3) := by decide +kernel
theorem dX4_readWord_26 : decode cX4_readWord 26 = .ok (.iinc 1 1, 3) := by decide +kernel
theorem dX4_readWord_29 : decode cX4_readWord 29 = .ok (.goto (-24), 3) := by decide +kernel
theorem dX4_readWord_32 : decode cX4_readWord 32 = .ok (.aload_n 0, 1) := by decide +kernel
theorem dX4_readWord_33 : decode cX4_readWord 33 = .ok (.iload_n 1, 1) := by decide +kernel
theorem dX4_readWord_34 : decode cX4_readWord 34 = .ok (.putfield 41, 3) := by decide +kernel
theorem dX4_readWord_37 : decode cX4_readWord 37 = .ok (.aload_n 0, 1) := by decide +kernel
theorem dX4_readWord_38 : decode cX4_readWord 38 = .ok (.iload_n 1, 1) := by decide +kernel
theorem dX4_readWord_39 : decode cX4_readWord 39 = .ok (.aload_n 0, 1) := by decide +kernel
theorem dX4_readWord_40 : decode cX4_readWord 40 = .ok (.getfield 210, 3) := by decide +kernel
theorem dX4_readWord_43 : decode cX4_readWord 43 = .ok (.isub, 1) := by decide +kernel
theorem dX4_readWord_44 : decode cX4_readWord 44 = .ok (.bipush 8, 2) := by decide +kernel
theorem dX4_readWord_46 : decode cX4_readWord 46 = .ok (.if_icmp .le 7, 3) := by decide +kernel
theorem dX4_readWord_49 : decode cX4_readWord 49 = .ok (.iconst 4, 1) := by decide +kernel
theorem dX4_readWord_50 : decode cX4_readWord 50 = .ok (.goto 4, 3) := by decide +kernel
theorem dX4_readWord_53 : decode cX4_readWord 53 = .ok (.iconst 1, 1) := by decide +kernel
theorem dX4_readWord_54 : decode cX4_readWord 54 = .ok (.putfield 47, 3) := by decide +kernel
theorem dX4_readWord_57 : decode cX4_readWord 57 = .ok (.return_, 1) := by decide +kernel
theorem dX4_readNumber_0 : decode cX4_readNumber 0 = .ok (.aload_n 0, 1) := by decide +kernel
theorem dX4_readNumber_1 : decode cX4_readNumber 1 = .ok (.getfield 210, 3) := by decide +kernel
theorem dX4_readNumber_4 : decode cX4_readNumber 4 = .ok (.istore_n 1, 1) := by decide +kernel
theorem dX4_readNumber_5 : decode cX4_readNumber 5 = .ok (.aload_n 0, 1) := by decide +kernel
theorem dX4_readNumber_6 : decode cX4_readNumber 6 = .ok (.iconst 0, 1) := by decide +kernel
theorem dX4_readNumber_7 : decode cX4_readNumber 7 = .ok (.putfield 89, 3) := by decide +kernel
theorem dX4_readNumber_10 : decode cX4_readNumber 10 = .ok (.iload_n 1, 1) := by decide +kernel
theorem dX4_readNumber_11 : decode cX4_readNumber 11 = .ok (.sipush 800, 3) := by decide +kernel
theorem dX4_readNumber_14 : decode cX4_readNumber 14 = .ok (.if_icmp .ge 46, 3) := by decide +kernel
theorem dX4_readNumber_17 : decode cX4_readNumber 17 = .ok (.aload_n 0, 1) := by decide +kernel
theorem dX4_readNumber_18 : decode cX4_readNumber 18 = .ok (.getfield 9, 3) := by decide +kernel
theorem dX4_readNumber_21 : decode cX4_readNumber 21 = .ok (.iload_n 1, 1) := by decide +kernel
theorem dX4_readNumber_22 : decode cX4_readNumber 22 = .ok (.invokevirtual 213, 3) := by decide +kernel
theorem dX4_readNumber_25 : decode cX4_readNumber 25 = .ok (.invokestatic 237, 3) := by decide +kernel
theorem dX4_readNumber_28 : decode cX4_readNumber 28 = .ok (.ifCond .eq 32, 3) := by decide +kernel
theorem dX4_readNumber_31 : decode cX4_readNumber 31 = .ok (.aload_n 0, 1) := by decide +kernel
theorem dX4_readNumber_32 : decode cX4_readNumber 32 = .ok (.aload_n 0, 1) := by decide +kernel
theorem dX4_readNumber_33 : decode cX4_readNumber 33 = .ok (.getfield 89, 3) := by decide +kernel
theorem dX4_readNumber_36 : decode cX4_readNumber 36 = .ok (.bipush 10, 2) := by decide +kernel
theorem dX4_readNumber_38 : decode cX4_readNumber 38 = .ok (.imul, 1) := by decide +kernel
theorem dX4_readNumber_39 : decode cX4_readNumber 39 = .ok (.aload_n 0, 1) := by decide +kernel
theorem dX4_readNumber_40 : decode cX4_readNumber 40 = .ok (.getfield 9, 3) := by decide +kernel
theorem dX4_readNumber_43 : decode cX4_readNumber 43 = .ok (.iload_n 1, 1) := by decide +kernel
theorem dX4_readNumber_44 : decode cX4_readNumber 44 = .ok (.invokevirtual 213, 3) := by decide +kernel
theorem dX4_readNumber_47 : decode cX4_readNumber 47 = .ok (.iadd, 1) := by decide +kernel
theorem dX4_readNumber_48 : decode cX4_readNumber 48 = .ok (.bipush 48, 2) := by decide +kernel
theorem dX4_readNumber_50 : decode cX4_readNumber 50 = .ok (.isub, 1) := by decide +kernel
theorem dX4_readNumber_51 : decode cX4_readNumber 51 = .ok (.putfield 89, 3) := by decide +kernel
theorem dX4_readNumber_54 : decode cX4_readNumber 54 = .ok (.iinc 1 1, 3) := by decide +kernel
theorem dX4_readNumber_57 : decode cX4_readNumber 57 = .ok (.goto (-47), 3) := by decide +kernel
theorem dX4_readNumber_60 : decode cX4_readNumber 60 = .ok (.aload_n 0, 1) := by decide +kernel
theorem dX4_readNumber_61 : decode cX4_readNumber 61 = .ok (.iload_n 1, 1) := by decide +kernel
theorem dX4_readNumber_62 : decode cX4_readNumber 62 = .ok (.putfield 41, 3) := by decide +kernel
theorem dX4_readNumber_65 : decode cX4_readNumber 65 = .ok (.aload_n 0, 1) := by decide +kernel
theorem dX4_readNumber_66 : decode cX4_readNumber 66 = .ok (.iload_n 1, 1) := by decide +kernel
theorem dX4_readNumber_67 : decode cX4_readNumber 67 = .ok (.aload_n 0, 1) := by decide +kernel
theorem dX4_readNumber_68 : decode cX4_readNumber 68 = .ok (.getfield 210, 3) := by decide +kernel
theorem dX4_readNumber_71 : decode cX4_readNumber 71 = .ok (.isub, 1) := by decide +kernel
theorem dX4_readNumber_72 : decode cX4_readNumber 72 = .ok (.iconst 4, 1) := by decide +kernel
theorem dX4_readNumber_73 : decode cX4_readNumber 73 = .ok (.if_icmp .gt 17, 3) := by decide +kernel
theorem dX4_readNumber_76 : decode cX4_readNumber 76 = .ok (.aload_n 0, 1) := by decide +kernel
theorem dX4_readNumber_77 : decode cX4_readNumber 77 = .ok (.getfield 9, 3) := by decide +kernel
theorem dX4_readNumber_80 : decode cX4_readNumber 80 = .ok (.iload_n 1, 1) := by decide +kernel
theorem dX4_readNumber_81 : decode cX4_readNumber 81 = .ok (.invokevirtual 213, 3) := by decide +kernel
theorem dX4_readNumber_84 : decode cX4_readNumber 84 = .ok (.invokestatic 231, 3) := by decide +kernel
theorem dX4_readNumber_87 : decode cX4_readNumber 87 = .ok (.ifCond .eq 7, 3) := by decide +kernel
theorem dX4_readNumber_90 : decode cX4_readNumber 90 = .ok (.iconst 4, 1) := by decide +kernel
theorem dX4_readNumber_91 : decode cX4_readNumber 91 = .ok (.goto 4, 3) := by decide +kernel
theorem dX4_readNumber_94 : decode cX4_readNumber 94 = .ok (.iconst 2, 1) := by decide +kernel
theorem dX4_readNumber_95 : decode cX4_readNumber 95 = .ok (.putfield 47, 3) := by decide +kernel
theorem dX4_readNumber_98 : decode cX4_readNumber 98 = .ok (.return_, 1) := by decide +kernel
theorem dX4_isBlank_0 : decode cX4_isBlank 0 = .ok (.iload_n 0, 1) := by decide +kernel
theorem dX4_isBlank_1 : decode cX4_isBlank 1 = .ok (.bipush 32, 2) := by decide +kernel
theorem dX4_isBlank_3 : decode cX4_isBlank 3 = .ok (.if_icmp .eq 9, 3) := by decide +kernel
theorem dX4_isBlank_6 : decode cX4_isBlank 6 = .ok (.iload_n 0, 1) := by decide +kernel
theorem dX4_isBlank_7 : decode cX4_isBlank 7 = .ok (.bipush 10, 2) := by decide +kernel
theorem dX4_isBlank_9 : decode cX4_isBlank 9 = .ok (.if_icmp .ne 7, 3) := by decide +kernel
theorem dX4_isBlank_12 : decode cX4_isBlank 12 = .ok (.iconst 1, 1) := by decide +kernel
theorem dX4_isBlank_13 : decode cX4_isBlank 13 = .ok (.goto 4, 3) := by decide +kernel
theorem dX4_isBlank_16 : decode cX4_isBlank 16 = .ok (.iconst 0, 1) := by decide +kernel
theorem dX4_isBlank_17 : decode cX4_isBlank 17 = .ok (.ireturn, 1) := by decide +kernel
theorem dX4_isLetter_0 : decode cX4_isLetter 0 = .ok (.iload_n 0, 1) := by decide +kernel
theorem dX4_isLetter_1 : decode cX4_isLetter 1 = .ok (.bipush 97, 2) := by decide +kernel
theorem dX4_isLetter_3 : decode cX4_isLetter 3 = .ok (.if_icmp .lt 13, 3) := by decide +kernel
theorem dX4_isLetter_6 : decode cX4_isLetter 6 = .ok (.iload_n 0, 1) := by decide +kernel
theorem dX4_isLetter_7 : decode cX4_isLetter 7 = .ok (.bipush 122, 2) := by decide +kernel
theorem dX4_isLetter_9 : decode cX4_isLetter 9 = .ok (.if_icmp .gt 7, 3) := by decide +kernel
theorem dX4_isLetter_12 : decode cX4_isLetter 12 = .ok (.iconst 1, 1) := by decide +kernel
theorem dX4_isLetter_13 : decode cX4_isLetter 13 = .ok (.goto 4, 3) := by decide +kernel
theorem dX4_isLetter_16 : decode cX4_isLetter 16 = .ok (.iconst 0, 1) := by decide +kernel
theorem dX4_isLetter_17 : decode cX4_isLetter 17 = .ok (.ireturn, 1) := by decide +kernel
theorem dX4_isDigit_0 : decode cX4_isDigit 0 = .ok (.iload_n 0, 1) := by decide +kernel
theorem dX4_isDigit_1 : decode cX4_isDigit 1 = .ok (.bipush 48, 2) := by decide +kernel
theorem dX4_isDigit_3 : decode cX4_isDigit 3 = .ok (.if_icmp .lt 13, 3) := by decide +kernel
theorem dX4_isDigit_6 : decode cX4_isDigit 6 = .ok (.iload_n 0, 1) := by decide +kernel
theorem dX4_isDigit_7 : decode cX4_isDigit 7 = .ok (.bipush 57, 2) := by decide +kernel
theorem dX4_isDigit_9 : decode cX4_isDigit 9 = .ok (.if_icmp .gt 7, 3) := by decide +kernel
theorem dX4_isDigit_12 : decode cX4_isDigit 12 = .ok (.iconst 1, 1) := by decide +kernel
theorem dX4_isDigit_13 : decode cX4_isDigit 13 = .ok (.goto 4, 3) := by decide +kernel
theorem dX4_isDigit_16 : decode cX4_isDigit 16 = .ok (.iconst 0, 1) := by decide +kernel
theorem dX4_isDigit_17 : decode cX4_isDigit 17 = .ok (.ireturn, 1) := by decide +kernel
theorem dX4_isOneOfTheSigns_0 : decode cX4_isOneOfTheSigns 0 = .ok (.iload_n 0, 1) := by decide +kernel
theorem dX4_isOneOfTheSigns_1 : decode cX4_isOneOfTheSigns 1 = .ok (.bipush 40, 2) := by decide +kernel
theorem dX4_isOneOfTheSigns_3 : decode cX4_isOneOfTheSigns 3 = .ok (.if_icmp .lt 9, 3) := by decide +kernel
theorem dX4_isOneOfTheSigns_6 : decode cX4_isOneOfTheSigns 6 = .ok (.iload_n 0, 1) := by decide +kernel
theorem dX4_isOneOfTheSigns_7 : decode cX4_isOneOfTheSigns 7 = .ok (.bipush 43, 2) := by decide +kernel
theorem dX4_isOneOfTheSigns_9 : decode cX4_isOneOfTheSigns 9 = .ok (.if_icmp .le 21, 3) := by decide +kernel
theorem dX4_isOneOfTheSigns_12 : decode cX4_isOneOfTheSigns 12 = .ok (.iload_n 0, 1) := by decide +kernel
theorem dX4_isOneOfTheSigns_13 : decode cX4_isOneOfTheSigns 13 = .ok (.bipush 45, 2) := by decide +kernel
theorem dX4_isOneOfTheSigns_15 : decode cX4_isOneOfTheSigns 15 = .ok (.if_icmp .eq 15, 3) := by decide +kernel
theorem dX4_isOneOfTheSigns_18 : decode cX4_isOneOfTheSigns 18 = .ok (.iload_n 0, 1) := by decide +kernel
theorem dX4_isOneOfTheSigns_19 : decode cX4_isOneOfTheSigns 19 = .ok (.bipush 59, 2) := by decide +kernel
theorem dX4_isOneOfTheSigns_21 : decode cX4_isOneOfTheSigns 21 = .ok (.if_icmp .lt 13, 3) := by decide +kernel
theorem dX4_isOneOfTheSigns_24 : decode cX4_isOneOfTheSigns 24 = .ok (.iload_n 0, 1) := by decide +kernel
theorem dX4_isOneOfTheSigns_25 : decode cX4_isOneOfTheSigns 25 = .ok (.bipush 62, 2) := by decide +kernel
theorem dX4_isOneOfTheSigns_27 : decode cX4_isOneOfTheSigns 27 = .ok (.if_icmp .gt 7, 3) := by decide +kernel
theorem dX4_isOneOfTheSigns_30 : decode cX4_isOneOfTheSigns 30 = .ok (.iconst 1, 1) := by decide +kernel
theorem dX4_isOneOfTheSigns_31 : decode cX4_isOneOfTheSigns 31 = .ok (.goto 4, 3) := by decide +kernel
theorem dX4_isOneOfTheSigns_34 : decode cX4_isOneOfTheSigns 34 = .ok (.iconst 0, 1) := by decide +kernel
theorem dX4_isOneOfTheSigns_35 : decode cX4_isOneOfTheSigns 35 = .ok (.ireturn, 1) := by decide +kernel
theorem dX6_init_0 : decode cX6_init 0 = .ok (.aload_n 0, 1) := by decide +kernel
theorem dX6_init_1 : decode cX6_init 1 = .ok (.invokespecial 3, 3) := by decide +kernel
theorem dX6_init_4 : decode cX6_init 4 = .ok (.aload_n 0, 1) := by decide +kernel
theorem dX6_init_5 : decode cX6_init 5 = .ok (.sipush 800, 3) := by decide +kernel
theorem dX6_init_8 : decode cX6_init 8 = .ok (.newarray .byte, 2) := by decide +kernel
theorem dX6_init_10 : decode cX6_init 10 = .ok (.putfield 9, 3) := by decide +kernel
theorem dX6_init_13 : decode cX6_init 13 = .ok (.return_, 1) := by decide +kernel
theorem dX6_add_0 : decode cX6_add 0 = .ok (.bipush 24, 2) := by decide +kernel
theorem dX6_add_2 : decode cX6_add 2 = .ok (.istore_n 2, 1) := by decide +kernel
theorem dX6_add_3 : decode cX6_add 3 = .ok (.iload_n 2, 1) := by decide +kernel
theorem dX6_add_4 : decode cX6_add 4 = .ok (.ifCond .lt 51, 3) := by decide +kernel
theorem dX6_add_7 : decode cX6_add 7 = .ok (.aload_n 0, 1) := by decide +kernel
theorem dX6_add_8 : decode cX6_add 8 = .ok (.getfield 15, 3) := by decide +kernel
theorem dX6_add_11 : decode cX6_add 11 = .ok (.ifCond .lt 38, 3) := by decide +kernel
theorem dX6_add_14 : decode cX6_add 14 = .ok (.aload_n 0, 1) := by decide +kernel
theorem dX6_add_15 : decode cX6_add 15 = .ok (.getfield 15, 3) := by decide +kernel
theorem dX6_add_18 : decode cX6_add 18 = .ok (.aload_n 0, 1) := by decide +kernel
theorem dX6_add_19 : decode cX6_add 19 = .ok (.getfield 9, 3) := by decide +kernel
theorem dX6_add_22 : decode cX6_add 22 = .ok (.arraylength, 1) := by decide +kernel
theorem dX6_add_23 : decode cX6_add 23 = .ok (.if_icmp .ge 26, 3) := by decide +kernel
theorem dX6_add_26 : decode cX6_add 26 = .ok (.aload_n 0, 1) := by decide +kernel
theorem dX6_add_27 : decode cX6_add 27 = .ok (.getfield 9, 3) := by decide +kernel
theorem dX6_add_30 : decode cX6_add 30 = .ok (.aload_n 0, 1) := by decide +kernel
theorem dX6_add_31 : decode cX6_add 31 = .ok (.getfield 15, 3) := by decide +kernel
theorem dX6_add_34 : decode cX6_add 34 = .ok (.iload_n 1, 1) := by decide +kernel
theorem dX6_add_35 : decode cX6_add 35 = .ok (.iload_n 2, 1) := by decide +kernel
theorem dX6_add_36 : decode cX6_add 36 = .ok (.iushr, 1) := by decide +kernel
theorem dX6_add_37 : decode cX6_add 37 = .ok (.i2b, 1) := by decide +kernel
theorem dX6_add_38 : decode cX6_add 38 = .ok (.bastore, 1) := by decide +kernel
theorem dX6_add_39 : decode cX6_add 39 = .ok (.aload_n 0, 1) := by decide +kernel
theorem dX6_add_40 : decode cX6_add 40 = .ok (.dup, 1) := by decide +kernel
theorem dX6_add_41 : decode cX6_add 41 = .ok (.getfield 15, 3) := by decide +kernel
theorem dX6_add_44 : decode cX6_add 44 = .ok (.iconst 1, 1) := by decide +kernel
theorem dX6_add_45 : decode cX6_add 45 = .ok (.iadd, 1) := by decide +kernel
theorem dX6_add_46 : decode cX6_add 46 = .ok (.putfield 15, 3) := by decide +kernel
theorem dX6_add_49 : decode cX6_add 49 = .ok (.iinc 2 (-8), 3) := by decide +kernel
theorem dX6_add_52 : decode cX6_add 52 = .ok (.goto (-49), 3) := by decide +kernel
theorem dX6_add_55 : decode cX6_add 55 = .ok (.return_, 1) := by decide +kernel
theorem dX6_at_0 : decode cX6_at 0 = .ok (.iload_n 1, 1) := by decide +kernel
theorem dX6_at_1 : decode cX6_at 1 = .ok (.ifCond .lt 33, 3) := by decide +kernel
theorem dX6_at_4 : decode cX6_at 4 = .ok (.iload_n 1, 1) := by decide +kernel
theorem dX6_at_5 : decode cX6_at 5 = .ok (.aload_n 0, 1) := by decide +kernel
theorem dX6_at_6 : decode cX6_at 6 = .ok (.getfield 15, 3) := by decide +kernel
theorem dX6_at_9 : decode cX6_at 9 = .ok (.if_icmp .ge 25, 3) := by decide +kernel
theorem dX6_at_12 : decode cX6_at 12 = .ok (.iload_n 1, 1) := by decide +kernel
theorem dX6_at_13 : decode cX6_at 13 = .ok (.aload_n 0, 1) := by decide +kernel
theorem dX6_at_14 : decode cX6_at 14 = .ok (.getfield 9, 3) := by decide +kernel
theorem dX6_at_17 : decode cX6_at 17 = .ok (.arraylength, 1) := by decide +kernel
theorem dX6_at_18 : decode cX6_at 18 = .ok (.if_icmp .ge 16, 3) := by decide +kernel
theorem dX6_at_21 : decode cX6_at 21 = .ok (.aload_n 0, 1) := by decide +kernel
theorem dX6_at_22 : decode cX6_at 22 = .ok (.getfield 9, 3) := by decide +kernel
theorem dX6_at_25 : decode cX6_at 25 = .ok (.iload_n 1, 1) := by decide +kernel
theorem dX6_at_26 : decode cX6_at 26 = .ok (.baload, 1) := by decide +kernel
theorem dX6_at_27 : decode cX6_at 27 = .ok (.sipush 255, 3) := by decide +kernel
theorem dX6_at_30 : decode cX6_at 30 = .ok (.iand, 1) := by decide +kernel
theorem dX6_at_31 : decode cX6_at 31 = .ok (.goto 4, 3) := by decide +kernel
theorem dX6_at_34 : decode cX6_at 34 = .ok (.iconst (-1), 1) := by decide +kernel
theorem dX6_at_35 : decode cX6_at 35 = .ok (.ireturn, 1) := by decide +kernel
