theorem dX0_init_0 : decode cX0_init 0 = .ok (.aload_n 0, 1) := by decide +kernel
theorem dX0_init_1 : decode cX0_init 1 = .ok (.invokespecial 3, 3) := by decide +kernel
theorem dX0_init_4 : decode cX0_init 4 = .ok (.aload_n 0, 1) := by decide +kernel
theorem dX0_init_5 : decode cX0_init 5 = .ok (.bipush 12, 2) := by decide +kernel
theorem dX0_init_7 : decode cX0_init 7 = .ok (.newarray .int, 2) := by decide +kernel
theorem dX0_init_9 : decode cX0_init 9 = .ok (.putfield 9, 3) := by decide +kernel
theorem dX0_init_12 : decode cX0_init 12 = .ok (.return_, 1) := by decide +kernel
theorem dX0_shutWorst_0 : decode cX0_shutWorst 0 = .ok (.iconst (-1), 1) := by decide +kernel
theorem dX0_shutWorst_1 : decode cX0_shutWorst 1 = .ok (.istore_n 3, 1) := by decide +kernel
theorem dX0_shutWorst_2 : decode cX0_shutWorst 2 = .ok (.iconst 0, 1) := by decide +kernel
theorem dX0_shutWorst_3 : decode cX0_shutWorst 3 = .ok (.istore 4, 2) := by decide +kernel
theorem dX0_shutWorst_5 : decode cX0_shutWorst 5 = .ok (.iload 4, 2) := by decide +kernel
theorem dX0_shutWorst_7 : decode cX0_shutWorst 7 = .ok (.aload_n 1, 1) := by decide +kernel
theorem dX0_shutWorst_8 : decode cX0_shutWorst 8 = .ok (.getfield 15, 3) := by decide +kernel
theorem dX0_shutWorst_11 : decode cX0_shutWorst 11 = .ok (.if_icmp .ge 66, 3) := by decide +kernel
theorem dX0_shutWorst_14 : decode cX0_shutWorst 14 = .ok (.iconst 2, 1) := by decide +kernel
theorem dX0_shutWorst_15 : decode cX0_shutWorst 15 = .ok (.aload_n 2, 1) := by decide +kernel
theorem dX0_shutWorst_16 : decode cX0_shutWorst 16 = .ok (.getfield 21, 3) := by decide +kernel
theorem dX0_shutWorst_19 : decode cX0_shutWorst 19 = .ok (.iload 4, 2) := by decide +kernel
theorem dX0_shutWorst_21 : decode cX0_shutWorst 21 = .ok (.iaload, 1) := by decide +kernel
theorem dX0_shutWorst_22 : decode cX0_shutWorst 22 = .ok (.imul, 1) := by decide +kernel
theorem dX0_shutWorst_23 : decode cX0_shutWorst 23 = .ok (.aload_n 1, 1) := by decide +kernel
theorem dX0_shutWorst_24 : decode cX0_shutWorst 24 = .ok (.getfield 26, 3) := by decide +kernel
theorem dX0_shutWorst_27 : decode cX0_shutWorst 27 = .ok (.iload 4, 2) := by decide +kernel
theorem dX0_shutWorst_29 : decode cX0_shutWorst 29 = .ok (.aaload, 1) := by decide +kernel
theorem dX0_shutWorst_30 : decode cX0_shutWorst 30 = .ok (.iconst 4, 1) := by decide +kernel
theorem dX0_shutWorst_31 : decode cX0_shutWorst 31 = .ok (.iaload, 1) := by decide +kernel
theorem dX0_shutWorst_32 : decode cX0_shutWorst 32 = .ok (.if_icmp .le 7, 3) := by decide +kernel
theorem dX0_shutWorst_35 : decode cX0_shutWorst 35 = .ok (.iconst 1, 1) := by decide +kernel
theorem dX0_shutWorst_36 : decode cX0_shutWorst 36 = .ok (.goto 4, 3) := by decide +kernel
theorem dX0_shutWorst_39 : decode cX0_shutWorst 39 = .ok (.iconst 0, 1) := by decide +kernel
theorem dX0_shutWorst_40 : decode cX0_shutWorst 40 = .ok (.istore 5, 2) := by decide +kernel
theorem dX0_shutWorst_42 : decode cX0_shutWorst 42 = .ok (.iload 5, 2) := by decide +kernel
theorem dX0_shutWorst_44 : decode cX0_shutWorst 44 = .ok (.ifCond .eq 27, 3) := by decide +kernel
theorem dX0_shutWorst_47 : decode cX0_shutWorst 47 = .ok (.iload_n 3, 1) := by decide +kernel
theorem dX0_shutWorst_48 : decode cX0_shutWorst 48 = .ok (.iconst (-1), 1) := by decide +kernel
theorem dX0_shutWorst_49 : decode cX0_shutWorst 49 = .ok (.if_icmp .eq 19, 3) := by decide +kernel
theorem dX0_shutWorst_52 : decode cX0_shutWorst 52 = .ok (.aload_n 2, 1) := by decide +kernel
theorem dX0_shutWorst_53 : decode cX0_shutWorst 53 = .ok (.getfield 21, 3) := by decide +kernel
theorem dX0_shutWorst_56 : decode cX0_shutWorst 56 = .ok (.iload 4, 2) := by decide +kernel
theorem dX0_shutWorst_58 : decode cX0_shutWorst 58 = .ok (.iaload, 1) := by decide +kernel
theorem dX0_shutWorst_59 : decode cX0_shutWorst 59 = .ok (.aload_n 2, 1) := by decide +kernel
theorem dX0_shutWorst_60 : decode cX0_shutWorst 60 = .ok (.getfield 21, 3) := by decide +kernel
theorem dX0_shutWorst_63 : decode cX0_shutWorst 63 = .ok (.iload_n 3, 1) := by decide +kernel
theorem dX0_shutWorst_64 : decode cX0_shutWorst 64 = .ok (.iaload, 1) := by decide +kernel
theorem dX0_shutWorst_65 : decode cX0_shutWorst 65 = .ok (.if_icmp .le 6, 3) := by decide +kernel
theorem dX0_shutWorst_68 : decode cX0_shutWorst 68 = .ok (.iload 4, 2) := by decide +kernel
theorem dX0_shutWorst_70 : decode cX0_shutWorst 70 = .ok (.istore_n 3, 1) := by decide +kernel
theorem dX0_shutWorst_71 : decode cX0_shutWorst 71 = .ok (.iinc 4 1, 3) := by decide +kernel
theorem dX0_shutWorst_74 : decode cX0_shutWorst 74 = .ok (.goto (-69), 3) := by decide +kernel
theorem dX0_shutWorst_77 : decode cX0_shutWorst 77 = .ok (.iload_n 3, 1) := by decide +kernel
theorem dX0_shutWorst_78 : decode cX0_shutWorst 78 = .ok (.iconst (-1), 1) := by decide +kernel
theorem dX0_shutWorst_79 : decode cX0_shutWorst 79 = .ok (.if_icmp .eq 21, 3) := by decide +kernel
theorem dX0_shutWorst_82 : decode cX0_shutWorst 82 = .ok (.aload_n 0, 1) := by decide +kernel
theorem dX0_shutWorst_83 : decode cX0_shutWorst 83 = .ok (.aload_n 1, 1) := by decide +kernel
theorem dX0_shutWorst_84 : decode cX0_shutWorst 84 = .ok (.aload_n 2, 1) := by decide +kernel
theorem dX0_shutWorst_85 : decode cX0_shutWorst 85 = .ok (.iconst 1, 1) := by decide +kernel
theorem dX0_shutWorst_86 : decode cX0_shutWorst 86 = .ok (.iload_n 3, 1) := by decide +kernel
theorem dX0_shutWorst_87 : decode cX0_shutWorst 87 = .ok (.ishl, 1) := by decide +kernel
theorem dX0_shutWorst_88 : decode cX0_shutWorst 88 = .ok (.invokevirtual 30, 3) := by decide +kernel
theorem dX0_shutWorst_91 : decode cX0_shutWorst 91 = .ok (.ifCond .eq 9, 3) := by decide +kernel
theorem dX0_shutWorst_94 : decode cX0_shutWorst 94 = .ok (.iconst 1, 1) := by decide +kernel
theorem dX0_shutWorst_95 : decode cX0_shutWorst 95 = .ok (.iload_n 3, 1) := by decide +kernel
theorem dX0_shutWorst_96 : decode cX0_shutWorst 96 = .ok (.ishl, 1) := by decide +kernel
theorem dX0_shutWorst_97 : decode cX0_shutWorst 97 = .ok (.goto 4, 3) := by decide +kernel
theorem dX0_shutWorst_100 : decode cX0_shutWorst 100 = .ok (.iconst 0, 1) := by decide +kernel
theorem dX0_shutWorst_101 : decode cX0_shutWorst 101 = .ok (.ireturn, 1) := by decide +kernel
theorem dX0_shutRested_0 : decode cX0_shutRested 0 = .ok (.iconst 0, 1) := by decide +kernel
theorem dX0_shutRested_1 : decode cX0_shutRested 1 = .ok (.istore_n 3, 1) := by decide +kernel
theorem dX0_shutRested_2 : decode cX0_shutRested 2 = .ok (.iconst 0, 1) := by decide +kernel
theorem dX0_shutRested_3 : decode cX0_shutRested 3 = .ok (.istore 4, 2) := by decide +kernel
theorem dX0_shutRested_5 : decode cX0_shutRested 5 = .ok (.iload 4, 2) := by decide +kernel
theorem dX0_shutRested_7 : decode cX0_shutRested 7 = .ok (.aload_n 1, 1) := by decide +kernel
theorem dX0_shutRested_8 : decode cX0_shutRested 8 = .ok (.getfield 15, 3) := by decide +kernel
theorem dX0_shutRested_11 : decode cX0_shutRested 11 = .ok (.if_icmp .ge 64, 3) := by decide +kernel
theorem dX0_shutRested_14 : decode cX0_shutRested 14 = .ok (.aload_n 2, 1) := by decide +kernel
theorem dX0_shutRested_15 : decode cX0_shutRested 15 = .ok (.getfield 21, 3) := by decide +kernel
theorem dX0_shutRested_18 : decode cX0_shutRested 18 = .ok (.iload 4, 2) := by decide +kernel
theorem dX0_shutRested_20 : decode cX0_shutRested 20 = .ok (.iaload, 1) := by decide +kernel
theorem dX0_shutRested_21 : decode cX0_shutRested 21 = .ok (.ifCond .le 18, 3) := by decide +kernel
theorem dX0_shutRested_24 : decode cX0_shutRested 24 = .ok (.aload_n 2, 1) := by decide +kernel
theorem dX0_shutRested_25 : decode cX0_shutRested 25 = .ok (.getfield 34, 3) := by decide +kernel
theorem dX0_shutRested_28 : decode cX0_shutRested 28 = .ok (.iload 4, 2) := by decide +kernel
theorem dX0_shutRested_30 : decode cX0_shutRested 30 = .ok (.iaload, 1) := by decide +kernel
theorem dX0_shutRested_31 : decode cX0_shutRested 31 = .ok (.iconst 1, 1) := by decide +kernel
theorem dX0_shutRested_32 : decode cX0_shutRested 32 = .ok (.if_icmp .lt 7, 3) := by decide +kernel
theorem dX0_shutRested_35 : decode cX0_shutRested 35 = .ok (.iconst 1, 1) := by decide +kernel
theorem dX0_shutRested_36 : decode cX0_shutRested 36 = .ok (.goto 4, 3) := by decide +kernel
theorem dX0_shutRested_39 : decode cX0_shutRested 39 = .ok (.iconst 0, 1) := by decide +kernel
theorem dX0_shutRested_40 : decode cX0_shutRested 40 = .ok (.istore 5, 2) := by decide +kernel
theorem dX0_shutRested_42 : decode cX0_shutRested 42 = .ok (.iload 5, 2) := by decide +kernel
theorem dX0_shutRested_44 : decode cX0_shutRested 44 = .ok (.ifCond .eq 25, 3) := by decide +kernel
theorem dX0_shutRested_47 : decode cX0_shutRested 47 = .ok (.aload_n 0, 1) := by decide +kernel
theorem dX0_shutRested_48 : decode cX0_shutRested 48 = .ok (.aload_n 1, 1) := by decide +kernel
theorem dX0_shutRested_49 : decode cX0_shutRested 49 = .ok (.aload_n 2, 1) := by decide +kernel
theorem dX0_shutRested_50 : decode cX0_shutRested 50 = .ok (.iload_n 3, 1) := by decide +kernel
theorem dX0_shutRested_51 : decode cX0_shutRested 51 = .ok (.iconst 1, 1) := by decide +kernel
theorem dX0_shutRested_52 : decode cX0_shutRested 52 = .ok (.iload 4, 2) := by decide +kernel
theorem dX0_shutRested_54 : decode cX0_shutRested 54 = .ok (.ishl, 1) := by decide +kernel
theorem dX0_shutRested_55 : decode cX0_shutRested 55 = .ok (.ior, 1) := by decide +kernel
theorem dX0_shutRested_56 : decode cX0_shutRested 56 = .ok (.invokevirtual 30, 3) := by decide +kernel
theorem dX0_shutRested_59 : decode cX0_shutRested 59 = .ok (.ifCond .eq 10, 3) := by decide +kernel
theorem dX0_shutRested_62 : decode cX0_shutRested 62 = .ok (.iload_n 3, 1) := by decide +kernel
theorem dX0_shutRested_63 : decode cX0_shutRested 63 = .ok (.iconst 1, 1) := by decide +kernel
theorem dX0_shutRested_64 : decode cX0_shutRested 64 = .ok (.iload 4, 2) := by decide +kernel
theorem dX0_shutRested_66 : decode cX0_shutRested 66 = .ok (.ishl, 1) := by decide +kernel
theorem dX0_shutRested_67 : decode cX0_shutRested 67 = .ok (.ior, 1) := by decide +kernel
theorem dX0_shutRested_68 : decode cX0_shutRested 68 = .ok (.istore_n 3, 1) := by decide +kernel
theorem dX0_shutRested_69 : decode cX0_shutRested 69 = .ok (.iinc 4 1, 3) := by decide +kernel
theorem dX0_shutRested_72 : decode cX0_shutRested 72 = .ok (.goto (-67), 3) := by decide +kernel
theorem dX0_shutRested_75 : decode cX0_shutRested 75 = .ok (.iload_n 3, 1) := by decide +kernel
theorem dX0_shutRested_76 : decode cX0_shutRested 76 = .ok (.ireturn, 1) := by decide +kernel
theorem dX0_allGetThrough_0 : decode cX0_allGetThrough 0 = .ok (.aload_n 0, 1) := by decide +kernel
theorem dX0_allGetThrough_1 : decode cX0_allGetThrough 1 = .ok (.aload_n 1, 1) := by decide +kernel
theorem dX0_allGetThrough_2 : decode cX0_allGetThrough 2 = .ok (.aload_n 2, 1) := by decide +kernel
theorem dX0_allGetThrough_3 : decode cX0_allGetThrough 3 = .ok (.iload_n 3, 1) := by decide +kernel
theorem dX0_allGetThrough_4 : decode cX0_allGetThrough 4 = .ok (.invokevirtual 37, 3) := by decide +kernel
theorem dX0_allGetThrough_7 : decode cX0_allGetThrough 7 = .ok (.iconst 0, 1) := by decide +kernel
theorem dX0_allGetThrough_8 : decode cX0_allGetThrough 8 = .ok (.istore 4, 2) := by decide +kernel
theorem dX0_allGetThrough_10 : decode cX0_allGetThrough 10 = .ok (.iload 4, 2) := by decide +kernel
theorem dX0_allGetThrough_12 : decode cX0_allGetThrough 12 = .ok (.aload_n 1, 1) := by decide +kernel
theorem dX0_allGetThrough_13 : decode cX0_allGetThrough 13 = .ok (.getfield 41, 3) := by decide +kernel
theorem dX0_allGetThrough_16 : decode cX0_allGetThrough 16 = .ok (.if_icmp .ge 54, 3) := by decide +kernel
theorem dX0_allGetThrough_19 : decode cX0_allGetThrough 19 = .ok (.aload_n 1, 1) := by decide +kernel
theorem dX0_allGetThrough_20 : decode cX0_allGetThrough 20 = .ok (.getfield 44, 3) := by decide +kernel
theorem dX0_allGetThrough_23 : decode cX0_allGetThrough 23 = .ok (.iload 4, 2) := by decide +kernel
theorem dX0_allGetThrough_25 : decode cX0_allGetThrough 25 = .ok (.aaload, 1) := by decide +kernel
theorem dX0_allGetThrough_26 : decode cX0_allGetThrough 26 = .ok (.astore 5, 2) := by decide +kernel
theorem dX0_allGetThrough_28 : decode cX0_allGetThrough 28 = .ok (.aload_n 1, 1) := by decide +kernel
theorem dX0_allGetThrough_29 : decode cX0_allGetThrough 29 = .ok (.iload 4, 2) := by decide +kernel
theorem dX0_allGetThrough_31 : decode cX0_allGetThrough 31 = .ok (.aload_n 2, 1) := by decide +kernel
theorem dX0_allGetThrough_32 : decode cX0_allGetThrough 32 = .ok (.getfield 47, 3) := by decide +kernel
theorem dX0_allGetThrough_35 : decode cX0_allGetThrough 35 = .ok (.invokevirtual 50, 3) := by decide +kernel
theorem dX0_allGetThrough_38 : decode cX0_allGetThrough 38 = .ok (.ifCond .eq 26, 3) := by decide +kernel
theorem dX0_allGetThrough_41 : decode cX0_allGetThrough 41 = .ok (.aload_n 0, 1) := by decide +kernel
theorem dX0_allGetThrough_42 : decode cX0_allGetThrough 42 = .ok (.getfield 9, 3) := by decide +kernel
theorem dX0_allGetThrough_45 : decode cX0_allGetThrough 45 = .ok (.aload 5, 2) := by decide +kernel
theorem dX0_allGetThrough_47 : decode cX0_allGetThrough 47 = .ok (.iconst 0, 1) := by decide +kernel
theorem dX0_allGetThrough_48 : decode cX0_allGetThrough 48 = .ok (.iaload, 1) := by decide +kernel
theorem dX0_allGetThrough_49 : decode cX0_allGetThrough 49 = .ok (.iaload, 1) := by decide +kernel
theorem dX0_allGetThrough_50 : decode cX0_allGetThrough 50 = .ok (.aload_n 0, 1) := by decide +kernel
theorem dX0_allGetThrough_51 : decode cX0_allGetThrough 51 = .ok (.getfield 9, 3) := by decide +kernel
theorem dX0_allGetThrough_54 : decode cX0_allGetThrough 54 = .ok (.aload 5, 2) := by decide +kernel
theorem dX0_allGetThrough_56 : decode cX0_allGetThrough 56 = .ok (.iconst 1, 1) := by decide +kernel
theorem dX0_allGetThrough_57 : decode cX0_allGetThrough 57 = .ok (.iaload, 1) := by decide +kernel
theorem dX0_allGetThrough_58 : decode cX0_allGetThrough 58 = .ok (.iaload, 1) := by decide +kernel
theorem dX0_allGetThrough_59 : decode cX0_allGetThrough 59 = .ok (.if_icmp .eq 5, 3) := by decide +kernel
theorem dX0_allGetThrough_62 : decode cX0_allGetThrough 62 = .ok (.iconst 0, 1) := by decide +kernel
theorem dX0_allGetThrough_63 : decode cX0_allGetThrough 63 = .ok (.ireturn, 1) := by decide +kernel
theorem dX0_allGetThrough_64 : decode cX0_allGetThrough 64 = .ok (.iinc 4 1, 3) := by decide +kernel
theorem dX0_allGetThrough_67 : decode cX0_allGetThrough 67 = .ok (.goto (-57), 3) := by decide +kernel
theorem dX0_allGetThrough_70 : decode cX0_allGetThrough 70 = .ok (.iconst 1, 1) := by decide +kernel
theorem dX0_allGetThrough_71 : decode cX0_allGetThrough 71 = .ok (.ireturn, 1) := by decide +kernel
theorem dX0_groupPlaces_0 : decode cX0_groupPlaces 0 = .ok (.iconst 0, 1) := by decide +kernel
theorem dX0_groupPlaces_1 : decode cX0_groupPlaces 1 = .ok (.istore 4, 2) := by decide +kernel
theorem dX0_groupPlaces_3 : decode cX0_groupPlaces 3 = .ok (.iload 4, 2) := by decide +kernel
theorem dX0_groupPlaces_5 : decode cX0_groupPlaces 5 = .ok (.aload_n 1, 1) := by decide +kernel
theorem dX0_groupPlaces_6 : decode cX0_groupPlaces 6 = .ok (.getfield 54, 3) := by decide +kernel
theorem dX0_groupPlaces_9 : decode cX0_groupPlaces 9 = .ok (.if_icmp .ge 18, 3) := by decide +kernel
theorem dX0_groupPlaces_12 : decode cX0_groupPlaces 12 = .ok (.aload_n 0, 1) := by decide +kernel
theorem dX0_groupPlaces_13 : decode cX0_groupPlaces 13 = .ok (.getfield 9, 3) := by decide +kernel
theorem dX0_groupPlaces_16 : decode cX0_groupPlaces 16 = .ok (.iload 4, 2) := by decide +kernel
theorem dX0_groupPlaces_18 : decode cX0_groupPlaces 18 = .ok (.iload 4, 2) := by decide +kernel
theorem dX0_groupPlaces_20 : decode cX0_groupPlaces 20 = .ok (.iastore, 1) := by decide +kernel
theorem dX0_groupPlaces_21 : decode cX0_groupPlaces 21 = .ok (.iinc 4 1, 3) := by decide +kernel
theorem dX0_groupPlaces_24 : decode cX0_groupPlaces 24 = .ok (.goto (-21), 3) := by decide +kernel
theorem dX0_groupPlaces_27 : decode cX0_groupPlaces 27 = .ok (.iconst 0, 1) := by decide +kernel
theorem dX0_groupPlaces_28 : decode cX0_groupPlaces 28 = .ok (.istore 4, 2) := by decide +kernel
theorem dX0_groupPlaces_30 : decode cX0_groupPlaces 30 = .ok (.iload 4, 2) := by decide +kernel
theorem dX0_groupPlaces_32 : decode cX0_groupPlaces 32 = .ok (.aload_n 1, 1) := by decide +kernel
theorem dX0_groupPlaces_33 : decode cX0_groupPlaces 33 = .ok (.getfield 15, 3) := by decide +kernel
theorem dX0_groupPlaces_36 : decode cX0_groupPlaces 36 = .ok (.if_icmp .ge 63, 3) := by decide +kernel
theorem dX0_groupPlaces_39 : decode cX0_groupPlaces 39 = .ok (.iload_n 3, 1) := by decide +kernel
theorem dX0_groupPlaces_40 : decode cX0_groupPlaces 40 = .ok (.iload 4, 2) := by decide +kernel
theorem dX0_groupPlaces_42 : decode cX0_groupPlaces 42 = .ok (.ishr, 1) := by decide +kernel
theorem dX0_groupPlaces_43 : decode cX0_groupPlaces 43 = .ok (.iconst 1, 1) := by decide +kernel
theorem dX0_groupPlaces_44 : decode cX0_groupPlaces 44 = .ok (.iand, 1) := by decide +kernel
theorem dX0_groupPlaces_45 : decode cX0_groupPlaces 45 = .ok (.ifCond .ne 48, 3) := by decide +kernel
theorem dX0_groupPlaces_48 : decode cX0_groupPlaces 48 = .ok (.aload_n 2, 1) := by decide +kernel
theorem dX0_groupPlaces_49 : decode cX0_groupPlaces 49 = .ok (.aload_n 1, 1) := by decide +kernel
theorem dX0_groupPlaces_50 : decode cX0_groupPlaces 50 = .ok (.iload 4, 2) := by decide +kernel
theorem dX0_groupPlaces_52 : decode cX0_groupPlaces 52 = .ok (.invokevirtual 57, 3) := by decide +kernel
theorem dX0_groupPlaces_55 : decode cX0_groupPlaces 55 = .ok (.ifCond .ne 38, 3) := by decide +kernel
theorem dX0_groupPlaces_58 : decode cX0_groupPlaces 58 = .ok (.aload_n 1, 1) := by decide +kernel
theorem dX0_groupPlaces_59 : decode cX0_groupPlaces 59 = .ok (.getfield 26, 3) := by decide +kernel
theorem dX0_groupPlaces_62 : decode cX0_groupPlaces 62 = .ok (.iload 4, 2) := by decide +kernel
theorem dX0_groupPlaces_64 : decode cX0_groupPlaces 64 = .ok (.aaload, 1) := by decide +kernel
theorem dX0_groupPlaces_65 : decode cX0_groupPlaces 65 = .ok (.astore 5, 2) := by decide +kernel
theorem dX0_groupPlaces_67 : decode cX0_groupPlaces 67 = .ok (.aload_n 0, 1) := by decide +kernel
theorem dX0_groupPlaces_68 : decode cX0_groupPlaces 68 = .ok (.aload_n 1, 1) := by decide +kernel
theorem dX0_groupPlaces_69 : decode cX0_groupPlaces 69 = .ok (.getfield 54, 3) := by decide +kernel
theorem dX0_groupPlaces_72 : decode cX0_groupPlaces 72 = .ok (.aload_n 0, 1) := by decide +kernel
theorem dX0_groupPlaces_73 : decode cX0_groupPlaces 73 = .ok (.getfield 9, 3) := by decide +kernel
theorem dX0_groupPlaces_76 : decode cX0_groupPlaces 76 = .ok (.aload 5, 2) := by decide +kernel
theorem dX0_groupPlaces_78 : decode cX0_groupPlaces 78 = .ok (.iconst 0, 1) := by decide +kernel
theorem dX0_groupPlaces_79 : decode cX0_groupPlaces 79 = .ok (.iaload, 1) := by decide +kernel
theorem dX0_groupPlaces_80 : decode cX0_groupPlaces 80 = .ok (.iaload, 1) := by decide +kernel
theorem dX0_groupPlaces_81 : decode cX0_groupPlaces 81 = .ok (.aload_n 0, 1) := by decide +kernel
theorem dX0_groupPlaces_82 : decode cX0_groupPlaces 82 = .ok (.getfield 9, 3) := by decide +kernel
theorem dX0_groupPlaces_85 : decode cX0_groupPlaces 85 = .ok (.aload 5, 2) := by decide +kernel
theorem dX0_groupPlaces_87 : decode cX0_groupPlaces 87 = .ok (.iconst 1, 1) := by decide +kernel
theorem dX0_groupPlaces_88 : decode cX0_groupPlaces 88 = .ok (.iaload, 1) := by decide +kernel
theorem dX0_groupPlaces_89 : decode cX0_groupPlaces 89 = .ok (.iaload, 1) := by decide +kernel
theorem dX0_groupPlaces_90 : decode cX0_groupPlaces 90 = .ok (.invokevirtual 61, 3) := by decide +kernel
theorem dX0_groupPlaces_93 : decode cX0_groupPlaces 93 = .ok (.iinc 4 1, 3) := by decide +kernel
theorem dX0_groupPlaces_96 : decode cX0_groupPlaces 96 = .ok (.goto (-66), 3) := by decide +kernel
theorem dX0_groupPlaces_99 : decode cX0_groupPlaces 99 = .ok (.return_, 1) := by decide +kernel
theorem dX0_join_0 : decode cX0_join 0 = .ok (.iconst 0, 1) := by decide +kernel
theorem dX0_join_1 : decode cX0_join 1 = .ok (.istore 4, 2) := by decide +kernel
theorem dX0_join_3 : decode cX0_join 3 = .ok (.iload 4, 2) := by decide +kernel
theorem dX0_join_5 : decode cX0_join 5 = .ok (.iload_n 1, 1) := by decide +kernel
theorem dX0_join_6 : decode cX0_join 6 = .ok (.if_icmp .ge 28, 3) := by decide +kernel
theorem dX0_join_9 : decode cX0_join 9 = .ok (.aload_n 0, 1) := by decide +kernel
theorem dX0_join_10 : decode cX0_join 10 = .ok (.getfield 9, 3) := by decide +kernel
theorem dX0_join_13 : decode cX0_join 13 = .ok (.iload 4, 2) := by decide +kernel
theorem dX0_join_15 : decode cX0_join 15 = .ok (.iaload, 1) := by decide +kernel
theorem dX0_join_16 : decode cX0_join 16 = .ok (.iload_n 3, 1) := by decide +kernel
theorem dX0_join_17 : decode cX0_join 17 = .ok (.if_icmp .ne 11, 3) := by decide +kernel
theorem dX0_join_20 : decode cX0_join 20 = .ok (.aload_n 0, 1) := by decide +kernel
theorem dX0_join_21 : decode cX0_join 21 = .ok (.getfield 9, 3) := by decide +kernel
theorem dX0_join_24 : decode cX0_join 24 = .ok (.iload 4, 2) := by decide +kernel
theorem dX0_join_26 : decode cX0_join 26 = .ok (.iload_n 2, 1) := by decide +kernel
theorem dX0_join_27 : decode cX0_join 27 = .ok (.iastore, 1) := by decide +kernel
theorem dX0_join_28 : decode cX0_join 28 = .ok (.iinc 4 1, 3) := by decide +kernel
theorem dX0_join_31 : decode cX0_join 31 = .ok (.goto (-28), 3) := by decide +kernel
theorem dX0_join_34 : decode cX0_join 34 = .ok (.return_, 1) := by decide +kernel
theorem dX1_init_0 : decode cX1_init 0 = .ok (.aload_n 0, 1) := by decide +kernel
theorem dX1_init_1 : decode cX1_init 1 = .ok (.invokespecial 3, 3) := by decide +kernel
theorem dX1_init_4 : decode cX1_init 4 = .ok (.aload_n 0, 1) := by decide +kernel
theorem dX1_init_5 : decode cX1_init 5 = .ok (.bipush 14, 2) := by decide +kernel
theorem dX1_init_7 : decode cX1_init 7 = .ok (.iconst 5, 1) := by decide +kernel
theorem dX1_init_8 : decode cX1_init 8 = .ok (.multianewarray 9 2, 4) := by decide +kernel
theorem dX1_init_12 : decode cX1_init 12 = .ok (.putfield 11, 3) := by decide +kernel
theorem dX1_init_15 : decode cX1_init 15 = .ok (.aload_n 0, 1) := by decide +kernel
theorem dX1_init_16 : decode cX1_init 16 = .ok (.bipush 14, 2) := by decide +kernel
theorem dX1_init_18 : decode cX1_init 18 = .ok (.bipush 6, 2) := by decide +kernel
theorem dX1_init_20 : decode cX1_init 20 = .ok (.multianewarray 9 2, 4) := by decide +kernel
theorem dX1_init_24 : decode cX1_init 24 = .ok (.putfield 16, 3) := by decide +kernel
theorem dX1_init_27 : decode cX1_init 27 = .ok (.aload_n 0, 1) := by decide +kernel
theorem dX1_init_28 : decode cX1_init 28 = .ok (.bipush 8, 2) := by decide +kernel
theorem dX1_init_30 : decode cX1_init 30 = .ok (.newarray .int, 2) := by decide +kernel
theorem dX1_init_32 : decode cX1_init 32 = .ok (.putfield 19, 3) := by decide +kernel
theorem dX1_init_35 : decode cX1_init 35 = .ok (.aload_n 0, 1) := by decide +kernel
theorem dX1_init_36 : decode cX1_init 36 = .ok (.invokevirtual 23, 3) := by decide +kernel
theorem dX1_init_39 : decode cX1_init 39 = .ok (.return_, 1) := by decide +kernel
theorem dX1_makeEmpty_0 : decode cX1_makeEmpty 0 = .ok (.aload_n 0, 1) := by decide +kernel
theorem dX1_makeEmpty_1 : decode cX1_makeEmpty 1 = .ok (.iconst 4, 1) := by decide +kernel
theorem dX1_makeEmpty_2 : decode cX1_makeEmpty 2 = .ok (.putfield 26, 3) := by decide +kernel
theorem dX1_makeEmpty_5 : decode cX1_makeEmpty 5 = .ok (.aload_n 0, 1) := by decide +kernel
theorem dX1_makeEmpty_6 : decode cX1_makeEmpty 6 = .ok (.iconst 0, 1) := by decide +kernel
theorem dX1_makeEmpty_7 : decode cX1_makeEmpty 7 = .ok (.putfield 30, 3) := by decide +kernel
theorem dX1_makeEmpty_10 : decode cX1_makeEmpty 10 = .ok (.aload_n 0, 1) := by decide +kernel
theorem dX1_makeEmpty_11 : decode cX1_makeEmpty 11 = .ok (.iconst 0, 1) := by decide +kernel
theorem dX1_makeEmpty_12 : decode cX1_makeEmpty 12 = .ok (.putfield 33, 3) := by decide +kernel
theorem dX1_makeEmpty_15 : decode cX1_makeEmpty 15 = .ok (.aload_n 0, 1) := by decide +kernel
theorem dX1_makeEmpty_16 : decode cX1_makeEmpty 16 = .ok (.iconst 0, 1) := by decide +kernel
theorem dX1_makeEmpty_17 : decode cX1_makeEmpty 17 = .ok (.putfield 36, 3) := by decide +kernel
theorem dX1_makeEmpty_20 : decode cX1_makeEmpty 20 = .ok (.aload_n 0, 1) := by decide +kernel
theorem dX1_makeEmpty_21 : decode cX1_makeEmpty 21 = .ok (.iconst 0, 1) := by decide +kernel
theorem dX1_makeEmpty_22 : decode cX1_makeEmpty 22 = .ok (.putfield 39, 3) := by decide +kernel
theorem dX1_makeEmpty_25 : decode cX1_makeEmpty 25 = .ok (.aload_n 0, 1) := by decide +kernel
theorem dX1_makeEmpty_26 : decode cX1_makeEmpty 26 = .ok (.bipush 9, 2) := by decide +kernel
theorem dX1_makeEmpty_28 : decode cX1_makeEmpty 28 = .ok (.putfield 42, 3) := by decide +kernel
theorem dX1_makeEmpty_31 : decode cX1_makeEmpty 31 = .ok (.return_, 1) := by decide +kernel
theorem dX1_isWet_0 : decode cX1_isWet 0 = .ok (.iconst 0, 1) := by decide +kernel
theorem dX1_isWet_1 : decode cX1_isWet 1 = .ok (.istore_n 2, 1) := by decide +kernel
theorem dX1_isWet_2 : decode cX1_isWet 2 = .ok (.iload_n 2, 1) := by decide +kernel
theorem dX1_isWet_3 : decode cX1_isWet 3 = .ok (.aload_n 0, 1) := by decide +kernel
theorem dX1_isWet_4 : decode cX1_isWet 4 = .ok (.getfield 39, 3) := by decide +kernel
theorem dX1_isWet_7 : decode cX1_isWet 7 = .ok (.if_icmp .ge 21, 3) := by decide +kernel
theorem dX1_isWet_10 : decode cX1_isWet 10 = .ok (.aload_n 0, 1) := by decide +kernel
theorem dX1_isWet_11 : decode cX1_isWet 11 = .ok (.getfield 19, 3) := by decide +kernel
theorem dX1_isWet_14 : decode cX1_isWet 14 = .ok (.iload_n 2, 1) := by decide +kernel
theorem dX1_isWet_15 : decode cX1_isWet 15 = .ok (.iaload, 1) := by decide +kernel
theorem dX1_isWet_16 : decode cX1_isWet 16 = .ok (.iload_n 1, 1) := by decide +kernel
theorem dX1_isWet_17 : decode cX1_isWet 17 = .ok (.if_icmp .ne 5, 3) := by decide +kernel
theorem dX1_isWet_20 : decode cX1_isWet 20 = .ok (.iconst 1, 1) := by decide +kernel
theorem dX1_isWet_21 : decode cX1_isWet 21 = .ok (.ireturn, 1) := by decide +kernel
theorem dX1_isWet_22 : decode cX1_isWet 22 = .ok (.iinc 2 1, 3) := by decide +kernel
theorem dX1_isWet_25 : decode cX1_isWet 25 = .ok (.goto (-23), 3) := by decide +kernel
theorem dX1_isWet_28 : decode cX1_isWet 28 = .ok (.iconst 0, 1) := by decide +kernel
theorem dX1_isWet_29 : decode cX1_isWet 29 = .ok (.ireturn, 1) := by decide +kernel
theorem dX1_goesOn_0 : decode cX1_goesOn 0 = .ok (.aload_n 0, 1) := by decide +kernel
theorem dX1_goesOn_1 : decode cX1_goesOn 1 = .ok (.getfield 16, 3) := by decide +kernel
theorem dX1_goesOn_4 : decode cX1_goesOn 4 = .ok (.iload_n 1, 1) := by decide +kernel
theorem dX1_goesOn_5 : decode cX1_goesOn 5 = .ok (.aaload, 1) := by decide +kernel
theorem dX1_goesOn_6 : decode cX1_goesOn 6 = .ok (.iconst 2, 1) := by decide +kernel
theorem dX1_goesOn_7 : decode cX1_goesOn 7 = .ok (.iaload, 1) := by decide +kernel
theorem dX1_goesOn_8 : decode cX1_goesOn 8 = .ok (.iload_n 2, 1) := by decide +kernel
theorem dX1_goesOn_9 : decode cX1_goesOn 9 = .ok (.bipush 7, 2) := by decide +kernel
theorem dX1_goesOn_11 : decode cX1_goesOn 11 = .ok (.irem, 1) := by decide +kernel
theorem dX1_goesOn_12 : decode cX1_goesOn 12 = .ok (.ishr, 1) := by decide +kernel
theorem dX1_goesOn_13 : decode cX1_goesOn 13 = .ok (.iconst 1, 1) := by decide +kernel
theorem dX1_goesOn_14 : decode cX1_goesOn 14 = .ok (.iand, 1) := by decide +kernel
theorem dX1_goesOn_15 : decode cX1_goesOn 15 = .ok (.iconst 1, 1) := by decide +kernel
theorem dX1_goesOn_16 : decode cX1_goesOn 16 = .ok (.if_icmp .ne 7, 3) := by decide +kernel
theorem dX1_goesOn_19 : decode cX1_goesOn 19 = .ok (.iconst 1, 1) := by decide +kernel
theorem dX1_goesOn_20 : decode cX1_goesOn 20 = .ok (.goto 4, 3) := by decide +kernel
theorem dX1_goesOn_23 : decode cX1_goesOn 23 = .ok (.iconst 0, 1) := by decide +kernel
theorem dX1_goesOn_24 : decode cX1_goesOn 24 = .ok (.ireturn, 1) := by decide +kernel
theorem dX1_factsWith_0 : decode cX1_factsWith 0 = .ok (.iload_n 1, 1) := by decide +kernel
theorem dX1_factsWith_1 : decode cX1_factsWith 1 = .ok (.aload_n 0, 1) := by decide +kernel
theorem dX1_factsWith_2 : decode cX1_factsWith 2 = .ok (.getfield 30, 3) := by decide +kernel
theorem dX1_factsWith_5 : decode cX1_factsWith 5 = .ok (.if_icmp .lt 8, 3) := by decide +kernel
theorem dX1_factsWith_8 : decode cX1_factsWith 8 = .ok (.iload_n 2, 1) := by decide +kernel
theorem dX1_factsWith_9 : decode cX1_factsWith 9 = .ok (.iconst (-1), 1) := by decide +kernel
theorem dX1_factsWith_10 : decode cX1_factsWith 10 = .ok (.if_icmp .ne 12, 3) := by decide +kernel
theorem dX1_factsWith_13 : decode cX1_factsWith 13 = .ok (.aload_n 0, 1) := by decide +kernel
theorem dX1_factsWith_14 : decode cX1_factsWith 14 = .ok (.getfield 11, 3) := by decide +kernel
theorem dX1_factsWith_17 : decode cX1_factsWith 17 = .ok (.iload_n 1, 1) := by decide +kernel
theorem dX1_factsWith_18 : decode cX1_factsWith 18 = .ok (.aaload, 1) := by decide +kernel
theorem dX1_factsWith_19 : decode cX1_factsWith 19 = .ok (.goto 12, 3) := by decide +kernel
theorem dX1_factsWith_22 : decode cX1_factsWith 22 = .ok (.aload_n 0, 1) := by decide +kernel
theorem dX1_factsWith_23 : decode cX1_factsWith 23 = .ok (.getfield 11, 3) := by decide +kernel
theorem dX1_factsWith_26 : decode cX1_factsWith 26 = .ok (.bipush 10, 2) := by decide +kernel
theorem dX1_factsWith_28 : decode cX1_factsWith 28 = .ok (.iload_n 2, 1) := by decide +kernel
theorem dX1_factsWith_29 : decode cX1_factsWith 29 = .ok (.iadd, 1) := by decide +kernel
theorem dX1_factsWith_30 : decode cX1_factsWith 30 = .ok (.aaload, 1) := by decide +kernel
theorem dX1_factsWith_31 : decode cX1_factsWith 31 = .ok (.areturn, 1) := by decide +kernel
theorem dX1_roadsWith_0 : decode cX1_roadsWith 0 = .ok (.iload_n 1, 1) := by decide +kernel
theorem dX1_roadsWith_1 : decode cX1_roadsWith 1 = .ok (.iconst (-1), 1) := by decide +kernel
theorem dX1_roadsWith_2 : decode cX1_roadsWith 2 = .ok (.if_icmp .ne 10, 3) := by decide +kernel
theorem dX1_roadsWith_5 : decode cX1_roadsWith 5 = .ok (.aload_n 0, 1) := by decide +kernel
theorem dX1_roadsWith_6 : decode cX1_roadsWith 6 = .ok (.getfield 30, 3) := by decide +kernel
theorem dX1_roadsWith_9 : decode cX1_roadsWith 9 = .ok (.goto 9, 3) := by decide +kernel
theorem dX1_roadsWith_12 : decode cX1_roadsWith 12 = .ok (.aload_n 0, 1) := by decide +kernel
theorem dX1_roadsWith_13 : decode cX1_roadsWith 13 = .ok (.getfield 30, 3) := by decide +kernel
theorem dX1_roadsWith_16 : decode cX1_roadsWith 16 = .ok (.iconst 1, 1) := by decide +kernel
theorem dX1_roadsWith_17 : decode cX1_roadsWith 17 = .ok (.iadd, 1) := by decide +kernel
theorem dX1_roadsWith_18 : decode cX1_roadsWith 18 = .ok (.ireturn, 1) := by decide +kernel
theorem dX10_init_0 : decode cX10_init 0 = .ok (.aload_n 0, 1) := by decide +kernel
theorem dX10_init_1 : decode cX10_init 1 = .ok (.invokespecial 1, 3) := by decide +kernel
theorem dX10_init_4 : decode cX10_init 4 = .ok (.aload_n 0, 1) := by decide +kernel
theorem dX10_init_5 : decode cX10_init 5 = .ok (.new 7, 3) := by decide +kernel
theorem dX10_init_8 : decode cX10_init 8 = .ok (.dup, 1) := by decide +kernel
theorem dX10_init_9 : decode cX10_init 9 = .ok (.invokespecial 9, 3) := by decide +kernel
theorem dX10_init_12 : decode cX10_init 12 = .ok (.putfield 10, 3) := by decide +kernel
theorem dX10_init_15 : decode cX10_init 15 = .ok (.aload_n 0, 1) := by decide +kernel
theorem dX10_init_16 : decode cX10_init 16 = .ok (.new 16, 3) := by decide +kernel
theorem dX10_init_19 : decode cX10_init 19 = .ok (.dup, 1) := by decide +kernel
theorem dX10_init_20 : decode cX10_init 20 = .ok (.invokespecial 18, 3) := by decide +kernel
theorem dX10_init_23 : decode cX10_init 23 = .ok (.putfield 19, 3) := by decide +kernel
theorem dX10_init_26 : decode cX10_init 26 = .ok (.aload_n 0, 1) := by decide +kernel
theorem dX10_init_27 : decode cX10_init 27 = .ok (.new 23, 3) := by decide +kernel
theorem dX10_init_30 : decode cX10_init 30 = .ok (.dup, 1) := by decide +kernel
theorem dX10_init_31 : decode cX10_init 31 = .ok (.invokespecial 25, 3) := by decide +kernel
theorem dX10_init_34 : decode cX10_init 34 = .ok (.putfield 26, 3) := by decide +kernel
theorem dX10_init_37 : decode cX10_init 37 = .ok (.aload_n 0, 1) := by decide +kernel
theorem dX10_init_38 : decode cX10_init 38 = .ok (.iconst 3, 1) := by decide +kernel
theorem dX10_init_39 : decode cX10_init 39 = .ok (.anewarray 23, 3) := by decide +kernel
theorem dX10_init_42 : decode cX10_init 42 = .ok (.putfield 30, 3) := by decide +kernel
theorem dX10_init_45 : decode cX10_init 45 = .ok (.aload_n 0, 1) := by decide +kernel
theorem dX10_init_46 : decode cX10_init 46 = .ok (.iconst 0, 1) := by decide +kernel
theorem dX10_init_47 : decode cX10_init 47 = .ok (.putfield 34, 3) := by decide +kernel
theorem dX10_init_50 : decode cX10_init 50 = .ok (.aload_n 0, 1) := by decide +kernel
theorem dX10_init_51 : decode cX10_init 51 = .ok (.new 38, 3) := by decide +kernel
theorem dX10_init_54 : decode cX10_init 54 = .ok (.dup, 1) := by decide +kernel
theorem dX10_init_55 : decode cX10_init 55 = .ok (.invokespecial 40, 3) := by decide +kernel
theorem dX10_init_58 : decode cX10_init 58 = .ok (.putfield 41, 3) := by decide +kernel
theorem dX10_init_61 : decode cX10_init 61 = .ok (.aload_n 0, 1) := by decide +kernel
theorem dX10_init_62 : decode cX10_init 62 = .ok (.new 45, 3) := by decide +kernel
theorem dX10_init_65 : decode cX10_init 65 = .ok (.dup, 1) := by decide +kernel
theorem dX10_init_66 : decode cX10_init 66 = .ok (.invokespecial 47, 3) := by decide +kernel
theorem dX10_init_69 : decode cX10_init 69 = .ok (.putfield 48, 3) := by decide +kernel
theorem dX10_init_72 : decode cX10_init 72 = .ok (.aload_n 0, 1) := by decide +kernel
theorem dX10_init_73 : decode cX10_init 73 = .ok (.new 52, 3) := by decide +kernel
theorem dX10_init_76 : decode cX10_init 76 = .ok (.dup, 1) := by decide +kernel
theorem dX10_init_77 : decode cX10_init 77 = .ok (.invokespecial 54, 3) := by decide +kernel
theorem dX10_init_80 : decode cX10_init 80 = .ok (.putfield 55, 3) := by decide +kernel
theorem dX10_init_83 : decode cX10_init 83 = .ok (.aload_n 0, 1) := by decide +kernel
theorem dX10_init_84 : decode cX10_init 84 = .ok (.iconst 4, 1) := by decide +kernel
theorem dX10_init_85 : decode cX10_init 85 = .ok (.newarray .int, 2) := by decide +kernel
theorem dX10_init_87 : decode cX10_init 87 = .ok (.putfield 59, 3) := by decide +kernel
theorem dX10_init_90 : decode cX10_init 90 = .ok (.iconst 0, 1) := by decide +kernel
theorem dX10_init_91 : decode cX10_init 91 = .ok (.istore_n 1, 1) := by decide +kernel
theorem dX10_init_92 : decode cX10_init 92 = .ok (.iload_n 1, 1) := by decide +kernel
theorem dX10_init_93 : decode cX10_init 93 = .ok (.aload_n 0, 1) := by decide +kernel
theorem dX10_init_94 : decode cX10_init 94 = .ok (.getfield 30, 3) := by decide +kernel
theorem dX10_init_97 : decode cX10_init 97 = .ok (.arraylength, 1) := by decide +kernel
theorem dX10_init_98 : decode cX10_init 98 = .ok (.if_icmp .ge 22, 3) := by decide +kernel
theorem dX10_init_101 : decode cX10_init 101 = .ok (.aload_n 0, 1) := by decide +kernel
theorem dX10_init_102 : decode cX10_init 102 = .ok (.getfield 30, 3) := by decide +kernel
theorem dX10_init_105 : decode cX10_init 105 = .ok (.iload_n 1, 1) := by decide +kernel
theorem dX10_init_106 : decode cX10_init 106 = .ok (.new 23, 3) := by decide +kernel
theorem dX10_init_109 : decode cX10_init 109 = .ok (.dup, 1) := by decide +kernel
theorem dX10_init_110 : decode cX10_init 110 = .ok (.invokespecial 25, 3) := by decide +kernel
theorem dX10_init_113 : decode cX10_init 113 = .ok (.aastore, 1) := by decide +kernel
theorem dX10_init_114 : decode cX10_init 114 = .ok (.iinc 1 1, 3) := by decide +kernel
theorem dX10_init_117 : decode cX10_init 117 = .ok (.goto (-25), 3) := by decide +kernel
theorem dX10_init_120 : decode cX10_init 120 = .ok (.aload_n 0, 1) := by decide +kernel
theorem dX10_init_121 : decode cX10_init 121 = .ok (.getfield 26, 3) := by decide +kernel
theorem dX10_init_124 : decode cX10_init 124 = .ok (.aload_n 0, 1) := by decide +kernel
theorem dX10_init_125 : decode cX10_init 125 = .ok (.getfield 19, 3) := by decide +kernel
theorem dX10_init_128 : decode cX10_init 128 = .ok (.getfield 63, 3) := by decide +kernel
theorem dX10_init_131 : decode cX10_init 131 = .ok (.invokevirtual 66, 3) := by decide +kernel
theorem dX10_init_134 : decode cX10_init 134 = .ok (.return_, 1) := by decide +kernel
theorem dX10_feed_0 : decode cX10_feed 0 = .ok (.aload_n 0, 1) := by decide +kernel
theorem dX10_feed_1 : decode cX10_feed 1 = .ok (.getfield 10, 3) := by decide +kernel
theorem dX10_feed_4 : decode cX10_feed 4 = .ok (.getfield 70, 3) := by decide +kernel
theorem dX10_feed_7 : decode cX10_feed 7 = .ok (.bipush 20, 2) := by decide +kernel
theorem dX10_feed_9 : decode cX10_feed 9 = .ok (.iadd, 1) := by decide +kernel
theorem dX10_feed_10 : decode cX10_feed 10 = .ok (.sipush 600, 3) := by decide +kernel
theorem dX10_feed_13 : decode cX10_feed 13 = .ok (.if_icmp .le 5, 3) := by decide +kernel
theorem dX10_feed_16 : decode cX10_feed 16 = .ok (.iconst (-1), 1) := by decide +kernel
theorem dX10_feed_17 : decode cX10_feed 17 = .ok (.ireturn, 1) := by decide +kernel
theorem dX10_feed_18 : decode cX10_feed 18 = .ok (.aload_n 0, 1) := by decide +kernel
theorem dX10_feed_19 : decode cX10_feed 19 = .ok (.getfield 10, 3) := by decide +kernel
theorem dX10_feed_22 : decode cX10_feed 22 = .ok (.iload_n 1, 1) := by decide +kernel
theorem dX10_feed_23 : decode cX10_feed 23 = .ok (.invokevirtual 73, 3) := by decide +kernel
theorem dX10_feed_26 : decode cX10_feed 26 = .ok (.aload_n 0, 1) := by decide +kernel
theorem dX10_feed_27 : decode cX10_feed 27 = .ok (.getfield 10, 3) := by decide +kernel
theorem dX10_feed_30 : decode cX10_feed 30 = .ok (.iload_n 2, 1) := by decide +kernel
theorem dX10_feed_31 : decode cX10_feed 31 = .ok (.invokevirtual 73, 3) := by decide +kernel
theorem dX10_feed_34 : decode cX10_feed 34 = .ok (.aload_n 0, 1) := by decide +kernel
theorem dX10_feed_35 : decode cX10_feed 35 = .ok (.getfield 10, 3) := by decide +kernel
theorem dX10_feed_38 : decode cX10_feed 38 = .ok (.iload_n 3, 1) := by decide +kernel
theorem dX10_feed_39 : decode cX10_feed 39 = .ok (.invokevirtual 73, 3) := by decide +kernel
theorem dX10_feed_42 : decode cX10_feed 42 = .ok (.aload_n 0, 1) := by decide +kernel
theorem dX10_feed_43 : decode cX10_feed 43 = .ok (.getfield 10, 3) := by decide +kernel
theorem dX10_feed_46 : decode cX10_feed 46 = .ok (.iload 4, 2) := by decide +kernel
theorem dX10_feed_48 : decode cX10_feed 48 = .ok (.invokevirtual 73, 3) := by decide +kernel
theorem dX10_feed_51 : decode cX10_feed 51 = .ok (.aload_n 0, 1) := by decide +kernel
theorem dX10_feed_52 : decode cX10_feed 52 = .ok (.getfield 10, 3) := by decide +kernel
theorem dX10_feed_55 : decode cX10_feed 55 = .ok (.iload 5, 2) := by decide +kernel
theorem dX10_feed_57 : decode cX10_feed 57 = .ok (.invokevirtual 73, 3) := by decide +kernel
theorem dX10_feed_60 : decode cX10_feed 60 = .ok (.aload_n 0, 1) := by decide +kernel
theorem dX10_feed_61 : decode cX10_feed 61 = .ok (.getfield 10, 3) := by decide +kernel
theorem dX10_feed_64 : decode cX10_feed 64 = .ok (.getfield 70, 3) := by decide +kernel
theorem dX10_feed_67 : decode cX10_feed 67 = .ok (.ireturn, 1) := by decide +kernel
theorem dX10_land_0 : decode cX10_land 0 = .ok (.iload_n 1, 1) := by decide +kernel
theorem dX10_land_1 : decode cX10_land 1 = .ok (.ifCond .lt 18, 3) := by decide +kernel
theorem dX10_land_4 : decode cX10_land 4 = .ok (.iload_n 1, 1) := by decide +kernel
theorem dX10_land_5 : decode cX10_land 5 = .ok (.aload_n 0, 1) := by decide +kernel
theorem dX10_land_6 : decode cX10_land 6 = .ok (.getfield 10, 3) := by decide +kernel
theorem dX10_land_9 : decode cX10_land 9 = .ok (.getfield 70, 3) := by decide +kernel
theorem dX10_land_12 : decode cX10_land 12 = .ok (.if_icmp .gt 7, 3) := by decide +kernel
theorem dX10_land_15 : decode cX10_land 15 = .ok (.iconst 1, 1) := by decide +kernel
theorem dX10_land_16 : decode cX10_land 16 = .ok (.goto 4, 3) := by decide +kernel
theorem dX10_land_19 : decode cX10_land 19 = .ok (.iconst 0, 1) := by decide +kernel
theorem dX10_land_20 : decode cX10_land 20 = .ok (.invokestatic 76, 3) := by decide +kernel
theorem dX10_land_23 : decode cX10_land 23 = .ok (.aload_n 0, 1) := by decide +kernel
theorem dX10_land_24 : decode cX10_land 24 = .ok (.getfield 10, 3) := by decide +kernel
theorem dX10_land_27 : decode cX10_land 27 = .ok (.iload_n 1, 1) := by decide +kernel
theorem dX10_land_28 : decode cX10_land 28 = .ok (.invokevirtual 80, 3) := by decide +kernel
theorem dX10_land_31 : decode cX10_land 31 = .ok (.aload_n 0, 1) := by decide +kernel
theorem dX10_land_32 : decode cX10_land 32 = .ok (.getfield 10, 3) := by decide +kernel
theorem dX10_land_35 : decode cX10_land 35 = .ok (.getfield 83, 3) := by decide +kernel
theorem dX10_land_38 : decode cX10_land 38 = .ok (.ifCond .eq 14, 3) := by decide +kernel
theorem dX10_land_41 : decode cX10_land 41 = .ok (.aload_n 0, 1) := by decide +kernel
theorem dX10_land_42 : decode cX10_land 42 = .ok (.getfield 10, 3) := by decide +kernel
theorem dX10_land_45 : decode cX10_land 45 = .ok (.getfield 83, 3) := by decide +kernel
theorem dX10_land_48 : decode cX10_land 48 = .ok (.bipush 10, 2) := by decide +kernel
theorem dX10_land_50 : decode cX10_land 50 = .ok (.isub, 1) := by decide +kernel
theorem dX10_land_51 : decode cX10_land 51 = .ok (.ireturn, 1) := by decide +kernel
theorem dX10_land_52 : decode cX10_land 52 = .ok (.aload_n 0, 1) := by decide +kernel
theorem dX10_land_53 : decode cX10_land 53 = .ok (.getfield 19, 3) := by decide +kernel
theorem dX10_land_56 : decode cX10_land 56 = .ok (.astore_n 2, 1) := by decide +kernel
theorem dX10_land_57 : decode cX10_land 57 = .ok (.aload_n 0, 1) := by decide +kernel
theorem dX10_land_58 : decode cX10_land 58 = .ok (.aload_n 0, 1) := by decide +kernel
theorem dX10_land_59 : decode cX10_land 59 = .ok (.getfield 10, 3) := by decide +kernel
theorem dX10_land_62 : decode cX10_land 62 = .ok (.getfield 86, 3) := by decide +kernel
theorem dX10_land_65 : decode cX10_land 65 = .ok (.putfield 19, 3) := by decide +kernel
theorem dX10_land_68 : decode cX10_land 68 = .ok (.aload_n 0, 1) := by decide +kernel
theorem dX10_land_69 : decode cX10_land 69 = .ok (.getfield 10, 3) := by decide +kernel
theorem dX10_land_72 : decode cX10_land 72 = .ok (.aload_n 2, 1) := by decide +kernel
theorem dX10_land_73 : decode cX10_land 73 = .ok (.putfield 86, 3) := by decide +kernel
theorem dX10_land_76 : decode cX10_land 76 = .ok (.aload_n 0, 1) := by decide +kernel
theorem dX10_land_77 : decode cX10_land 77 = .ok (.getfield 26, 3) := by decide +kernel
theorem dX10_land_80 : decode cX10_land 80 = .ok (.aload_n 0, 1) := by decide +kernel
theorem dX10_land_81 : decode cX10_land 81 = .ok (.getfield 19, 3) := by decide +kernel
theorem dX10_land_84 : decode cX10_land 84 = .ok (.getfield 63, 3) := by decide +kernel
theorem dX10_land_87 : decode cX10_land 87 = .ok (.invokevirtual 66, 3) := by decide +kernel
theorem dX10_land_90 : decode cX10_land 90 = .ok (.aload_n 0, 1) := by decide +kernel
theorem dX10_land_91 : decode cX10_land 91 = .ok (.iconst 0, 1) := by decide +kernel
theorem dX10_land_92 : decode cX10_land 92 = .ok (.putfield 34, 3) := by decide +kernel
theorem dX10_land_95 : decode cX10_land 95 = .ok (.aload_n 0, 1) := by decide +kernel
theorem dX10_land_96 : decode cX10_land 96 = .ok (.getfield 19, 3) := by decide +kernel
theorem dX10_land_99 : decode cX10_land 99 = .ok (.getfield 89, 3) := by decide +kernel
theorem dX10_land_102 : decode cX10_land 102 = .ok (.ireturn, 1) := by decide +kernel
theorem dX10_fault_0 : decode cX10_fault 0 = .ok (.aload_n 0, 1) := by decide +kernel
theorem dX10_fault_1 : decode cX10_fault 1 = .ok (.getfield 10, 3) := by decide +kernel
theorem dX10_fault_4 : decode cX10_fault 4 = .ok (.getfield 92, 3) := by decide +kernel
theorem dX10_fault_7 : decode cX10_fault 7 = .ok (.ireturn, 1) := by decide +kernel
theorem dX10_told_0 : decode cX10_told 0 = .ok (.iload_n 1, 1) := by decide +kernel
theorem dX10_told_1 : decode cX10_told 1 = .ok (.ifCond .lt 13, 3) := by decide +kernel
theorem dX10_told_4 : decode cX10_told 4 = .ok (.iload_n 1, 1) := by decide +kernel
theorem dX10_told_5 : decode cX10_told 5 = .ok (.bipush 6, 2) := by decide +kernel
theorem dX10_told_7 : decode cX10_told 7 = .ok (.if_icmp .gt 7, 3) := by decide +kernel
theorem dX10_told_10 : decode cX10_told 10 = .ok (.iconst 1, 1) := by decide +kernel
theorem dX10_told_11 : decode cX10_told 11 = .ok (.goto 4, 3) := by decide +kernel
theorem dX10_told_14 : decode cX10_told 14 = .ok (.iconst 0, 1) := by decide +kernel
theorem dX10_told_15 : decode cX10_told 15 = .ok (.invokestatic 76, 3) := by decide +kernel
theorem dX10_told_18 : decode cX10_told 18 = .ok (.iload_n 1, 1) := by decide +kernel
theorem dX10_told_19 : decode cX10_told 19 = .ok (.tableswitch 85 0 5 #[37, 45, 53, 61, 69, 77], 37) := by decide +kernel
theorem dX10_told_56 : decode cX10_told 56 = .ok (.aload_n 0, 1) := by decide +kernel
theorem dX10_told_57 : decode cX10_told 57 = .ok (.getfield 19, 3) := by decide +kernel
theorem dX10_told_60 : decode cX10_told 60 = .ok (.getfield 95, 3) := by decide +kernel
theorem dX10_told_63 : decode cX10_told 63 = .ok (.ireturn, 1) := by decide +kernel
theorem dX10_told_64 : decode cX10_told 64 = .ok (.aload_n 0, 1) := by decide +kernel
theorem dX10_told_65 : decode cX10_told 65 = .ok (.getfield 19, 3) := by decide +kernel
theorem dX10_told_68 : decode cX10_told 68 = .ok (.getfield 89, 3) := by decide +kernel
theorem dX10_told_71 : decode cX10_told 71 = .ok (.ireturn, 1) := by decide +kernel
theorem dX10_told_72 : decode cX10_told 72 = .ok (.aload_n 0, 1) := by decide +kernel
theorem dX10_told_73 : decode cX10_told 73 = .ok (.getfield 19, 3) := by decide +kernel
theorem dX10_told_76 : decode cX10_told 76 = .ok (.getfield 98, 3) := by decide +kernel
theorem dX10_told_79 : decode cX10_told 79 = .ok (.ireturn, 1) := by decide +kernel
theorem dX10_told_80 : decode cX10_told 80 = .ok (.aload_n 0, 1) := by decide +kernel
theorem dX10_told_81 : decode cX10_told 81 = .ok (.getfield 19, 3) := by decide +kernel
theorem dX10_told_84 : decode cX10_told 84 = .ok (.getfield 101, 3) := by decide +kernel
theorem dX10_told_87 : decode cX10_told 87 = .ok (.ireturn, 1) := by decide +kernel
theorem dX10_told_88 : decode cX10_told 88 = .ok (.aload_n 0, 1) := by decide +kernel
theorem dX10_told_89 : decode cX10_told 89 = .ok (.getfield 19, 3) := by decide +kernel
theorem dX10_told_92 : decode cX10_told 92 = .ok (.getfield 104, 3) := by decide +kernel
theorem dX10_told_95 : decode cX10_told 95 = .ok (.ireturn, 1) := by decide +kernel
theorem dX10_told_96 : decode cX10_told 96 = .ok (.aload_n 0, 1) := by decide +kernel
theorem dX10_told_97 : decode cX10_told 97 = .ok (.getfield 19, 3) := by decide +kernel
theorem dX10_told_100 : decode cX10_told 100 = .ok (.getfield 63, 3) := by decide +kernel
theorem dX10_told_103 : decode cX10_told 103 = .ok (.ireturn, 1) := by decide +kernel
theorem dX10_told_104 : decode cX10_told 104 = .ok (.aload_n 0, 1) := by decide +kernel
theorem dX10_told_105 : decode cX10_told 105 = .ok (.getfield 26, 3) := by decide +kernel
theorem dX10_told_108 : decode cX10_told 108 = .ok (.getfield 107, 3) := by decide +kernel
theorem dX10_told_111 : decode cX10_told 111 = .ok (.ireturn, 1) := by decide +kernel
theorem dX10_road_0 : decode cX10_road 0 = .ok (.aload_n 0, 1) := by decide +kernel
theorem dX10_road_1 : decode cX10_road 1 = .ok (.iload_n 1, 1) := by decide +kernel
theorem dX10_road_2 : decode cX10_road 2 = .ok (.invokevirtual 110, 3) := by decide +kernel
theorem dX10_road_5 : decode cX10_road 5 = .ok (.iload_n 2, 1) := by decide +kernel
theorem dX10_road_6 : decode cX10_road 6 = .ok (.ifCond .lt 13, 3) := by decide +kernel
theorem dX10_road_9 : decode cX10_road 9 = .ok (.iload_n 2, 1) := by decide +kernel
theorem dX10_road_10 : decode cX10_road 10 = .ok (.bipush 7, 2) := by decide +kernel
theorem dX10_road_12 : decode cX10_road 12 = .ok (.if_icmp .gt 7, 3) := by decide +kernel
theorem dX10_road_15 : decode cX10_road 15 = .ok (.iconst 1, 1) := by decide +kernel
theorem dX10_road_16 : decode cX10_road 16 = .ok (.goto 4, 3) := by decide +kernel
theorem dX10_road_19 : decode cX10_road 19 = .ok (.iconst 0, 1) := by decide +kernel
theorem dX10_road_20 : decode cX10_road 20 = .ok (.invokestatic 76, 3) := by decide +kernel
theorem dX10_road_23 : decode cX10_road 23 = .ok (.aload_n 0, 1) := by decide +kernel
theorem dX10_road_24 : decode cX10_road 24 = .ok (.getfield 19, 3) := by decide +kernel
theorem dX10_road_27 : decode cX10_road 27 = .ok (.getfield 113, 3) := by decide +kernel
theorem dX10_road_30 : decode cX10_road 30 = .ok (.iload_n 1, 1) := by decide +kernel
theorem dX10_road_31 : decode cX10_road 31 = .ok (.aaload, 1) := by decide +kernel
theorem dX10_road_32 : decode cX10_road 32 = .ok (.astore_n 3, 1) := by decide +kernel
theorem dX10_road_33 : decode cX10_road 33 = .ok (.iload_n 2, 1) := by decide +kernel
theorem dX10_road_34 : decode cX10_road 34 = .ok (.tableswitch 83 5 7 #[26, 36, 46], 26) := by decide +kernel
theorem dX10_road_60 : decode cX10_road 60 = .ok (.aload_n 0, 1) := by decide +kernel
theorem dX10_road_61 : decode cX10_road 61 = .ok (.getfield 26, 3) := by decide +kernel
theorem dX10_road_64 : decode cX10_road 64 = .ok (.getfield 117, 3) := by decide +kernel
theorem dX10_road_67 : decode cX10_road 67 = .ok (.iload_n 1, 1) := by decide +kernel
theorem dX10_road_68 : decode cX10_road 68 = .ok (.iaload, 1) := by decide +kernel
theorem dX10_road_69 : decode cX10_road 69 = .ok (.ireturn, 1) := by decide +kernel
theorem dX10_road_70 : decode cX10_road 70 = .ok (.aload_n 0, 1) := by decide +kernel
theorem dX10_road_71 : decode cX10_road 71 = .ok (.getfield 26, 3) := by decide +kernel
theorem dX10_road_74 : decode cX10_road 74 = .ok (.getfield 120, 3) := by decide +kernel
theorem dX10_road_77 : decode cX10_road 77 = .ok (.iload_n 1, 1) := by decide +kernel
theorem dX10_road_78 : decode cX10_road 78 = .ok (.iaload, 1) := by decide +kernel
theorem dX10_road_79 : decode cX10_road 79 = .ok (.ireturn, 1) := by decide +kernel
theorem dX10_road_80 : decode cX10_road 80 = .ok (.aload_n 0, 1) := by decide +kernel
theorem dX10_road_81 : decode cX10_road 81 = .ok (.getfield 26, 3) := by decide +kernel
theorem dX10_road_84 : decode cX10_road 84 = .ok (.aload_n 0, 1) := by decide +kernel
theorem dX10_road_85 : decode cX10_road 85 = .ok (.getfield 19, 3) := by decide +kernel
theorem dX10_road_88 : decode cX10_road 88 = .ok (.iload_n 1, 1) := by decide +kernel
theorem dX10_road_89 : decode cX10_road 89 = .ok (.invokevirtual 123, 3) := by decide +kernel
theorem dX10_road_92 : decode cX10_road 92 = .ok (.ifCond .eq 7, 3) := by decide +kernel
theorem dX10_road_95 : decode cX10_road 95 = .ok (.iconst (-1), 1) := by decide +kernel
theorem dX10_road_96 : decode cX10_road 96 = .ok (.goto 20, 3) := by decide +kernel
theorem dX10_road_99 : decode cX10_road 99 = .ok (.aload_n 3, 1) := by decide +kernel
theorem dX10_road_100 : decode cX10_road 100 = .ok (.iconst 2, 1) := by decide +kernel
theorem dX10_road_101 : decode cX10_road 101 = .ok (.iaload, 1) := by decide +kernel
theorem dX10_road_102 : decode cX10_road 102 = .ok (.aload_n 3, 1) := by decide +kernel
theorem dX10_road_103 : decode cX10_road 103 = .ok (.iconst 3, 1) := by decide +kernel
theorem dX10_road_104 : decode cX10_road 104 = .ok (.iaload, 1) := by decide +kernel
theorem dX10_road_105 : decode cX10_road 105 = .ok (.aload_n 0, 1) := by decide +kernel
theorem dX10_road_106 : decode cX10_road 106 = .ok (.getfield 26, 3) := by decide +kernel
theorem dX10_road_109 : decode cX10_road 109 = .ok (.getfield 117, 3) := by decide +kernel
theorem dX10_road_112 : decode cX10_road 112 = .ok (.iload_n 1, 1) := by decide +kernel
theorem dX10_road_113 : decode cX10_road 113 = .ok (.iaload, 1) := by decide +kernel
theorem dX10_road_114 : decode cX10_road 114 = .ok (.imul, 1) := by decide +kernel
theorem dX10_road_115 : decode cX10_road 115 = .ok (.iadd, 1) := by decide +kernel
theorem dX10_road_116 : decode cX10_road 116 = .ok (.ireturn, 1) := by decide +kernel
theorem dX10_road_117 : decode cX10_road 117 = .ok (.aload_n 3, 1) := by decide +kernel
theorem dX10_road_118 : decode cX10_road 118 = .ok (.iload_n 2, 1) := by decide +kernel
theorem dX10_road_119 : decode cX10_road 119 = .ok (.iaload, 1) := by decide +kernel
theorem dX10_road_120 : decode cX10_road 120 = .ok (.ireturn, 1) := by decide +kernel
theorem dX10_going_0 : decode cX10_going 0 = .ok (.aload_n 0, 1) := by decide +kernel
theorem dX10_going_1 : decode cX10_going 1 = .ok (.iload_n 1, 1) := by decide +kernel
theorem dX10_going_2 : decode cX10_going 2 = .ok (.invokevirtual 127, 3) := by decide +kernel
theorem dX10_going_5 : decode cX10_going 5 = .ok (.iload_n 2, 1) := by decide +kernel
theorem dX10_going_6 : decode cX10_going 6 = .ok (.ifCond .lt 13, 3) := by decide +kernel
theorem dX10_going_9 : decode cX10_going 9 = .ok (.iload_n 2, 1) := by decide +kernel
theorem dX10_going_10 : decode cX10_going 10 = .ok (.bipush 6, 2) := by decide +kernel
theorem dX10_going_12 : decode cX10_going 12 = .ok (.if_icmp .ge 7, 3) := by decide +kernel
theorem dX10_going_15 : decode cX10_going 15 = .ok (.iconst 1, 1) := by decide +kernel
theorem dX10_going_16 : decode cX10_going 16 = .ok (.goto 4, 3) := by decide +kernel
theorem dX10_going_19 : decode cX10_going 19 = .ok (.iconst 0, 1) := by decide +kernel
theorem dX10_going_20 : decode cX10_going 20 = .ok (.invokestatic 76, 3) := by decide +kernel
theorem dX10_going_23 : decode cX10_going 23 = .ok (.aload_n 0, 1) := by decide +kernel
theorem dX10_going_24 : decode cX10_going 24 = .ok (.getfield 19, 3) := by decide +kernel
theorem dX10_going_27 : decode cX10_going 27 = .ok (.getfield 130, 3) := by decide +kernel
theorem dX10_going_30 : decode cX10_going 30 = .ok (.iload_n 1, 1) := by decide +kernel
theorem dX10_going_31 : decode cX10_going 31 = .ok (.aaload, 1) := by decide +kernel
theorem dX10_going_32 : decode cX10_going 32 = .ok (.iload_n 2, 1) := by decide +kernel
theorem dX10_going_33 : decode cX10_going 33 = .ok (.iaload, 1) := by decide +kernel
theorem dX10_going_34 : decode cX10_going 34 = .ok (.ireturn, 1) := by decide +kernel
theorem dX10_way_0 : decode cX10_way 0 = .ok (.aload_n 0, 1) := by decide +kernel
theorem dX10_way_1 : decode cX10_way 1 = .ok (.iload_n 1, 1) := by decide +kernel
theorem dX10_way_2 : decode cX10_way 2 = .ok (.invokevirtual 127, 3) := by decide +kernel
theorem dX10_way_5 : decode cX10_way 5 = .ok (.aload_n 0, 1) := by decide +kernel
theorem dX10_way_6 : decode cX10_way 6 = .ok (.iload_n 2, 1) := by decide +kernel
theorem dX10_way_7 : decode cX10_way 7 = .ok (.invokevirtual 133, 3) := by decide +kernel
theorem dX10_way_10 : decode cX10_way 10 = .ok (.aload_n 0, 1) := by decide +kernel
theorem dX10_way_11 : decode cX10_way 11 = .ok (.iload_n 1, 1) := by decide +kernel
theorem dX10_way_12 : decode cX10_way 12 = .ok (.iload_n 2, 1) := by decide +kernel
theorem dX10_way_13 : decode cX10_way 13 = .ok (.invokevirtual 136, 3) := by decide +kernel
theorem dX10_way_16 : decode cX10_way 16 = .ok (.ifCond .eq 16, 3) := by decide +kernel
theorem dX10_way_19 : decode cX10_way 19 = .ok (.aload_n 0, 1) := by decide +kernel
theorem dX10_way_20 : decode cX10_way 20 = .ok (.getfield 41, 3) := by decide +kernel
theorem dX10_way_23 : decode cX10_way 23 = .ok (.getfield 140, 3) := by decide +kernel
theorem dX10_way_26 : decode cX10_way 26 = .ok (.getfield 144, 3) := by decide +kernel
theorem dX10_way_29 : decode cX10_way 29 = .ok (.goto 4, 3) := by decide +kernel
theorem dX10_way_32 : decode cX10_way 32 = .ok (.iconst (-1), 1) := by decide +kernel
theorem dX10_way_33 : decode cX10_way 33 = .ok (.ireturn, 1) := by decide +kernel
theorem dX10_by_0 : decode cX10_by 0 = .ok (.aload_n 0, 1) := by decide +kernel
theorem dX10_by_1 : decode cX10_by 1 = .ok (.iload_n 1, 1) := by decide +kernel
theorem dX10_by_2 : decode cX10_by 2 = .ok (.invokevirtual 127, 3) := by decide +kernel
theorem dX10_by_5 : decode cX10_by 5 = .ok (.aload_n 0, 1) := by decide +kernel
theorem dX10_by_6 : decode cX10_by 6 = .ok (.iload_n 2, 1) := by decide +kernel
theorem dX10_by_7 : decode cX10_by 7 = .ok (.invokevirtual 133, 3) := by decide +kernel
theorem dX10_by_10 : decode cX10_by 10 = .ok (.aload_n 0, 1) := by decide +kernel
theorem dX10_by_11 : decode cX10_by 11 = .ok (.iload_n 1, 1) := by decide +kernel
theorem dX10_by_12 : decode cX10_by 12 = .ok (.iload_n 2, 1) := by decide +kernel
theorem dX10_by_13 : decode cX10_by 13 = .ok (.invokevirtual 136, 3) := by decide +kernel
theorem dX10_by_16 : decode cX10_by 16 = .ok (.ifCond .eq 21, 3) := by decide +kernel
theorem dX10_by_19 : decode cX10_by 19 = .ok (.iload_n 3, 1) := by decide +kernel
theorem dX10_by_20 : decode cX10_by 20 = .ok (.ifCond .lt 17, 3) := by decide +kernel
theorem dX10_by_23 : decode cX10_by 23 = .ok (.iload_n 3, 1) := by decide +kernel
theorem dX10_by_24 : decode cX10_by 24 = .ok (.aload_n 0, 1) := by decide +kernel
theorem dX10_by_25 : decode cX10_by 25 = .ok (.getfield 41, 3) := by decide +kernel
theorem dX10_by_28 : decode cX10_by 28 = .ok (.getfield 140, 3) := by decide +kernel
theorem dX10_by_31 : decode cX10_by 31 = .ok (.getfield 149, 3) := by decide +kernel
theorem dX10_by_34 : decode cX10_by 34 = .ok (.if_icmp .lt 5, 3) := by decide +kernel
theorem dX10_by_37 : decode cX10_by 37 = .ok (.iconst (-1), 1) := by decide +kernel
theorem dX10_by_38 : decode cX10_by 38 = .ok (.ireturn, 1) := by decide +kernel
theorem dX10_by_39 : decode cX10_by 39 = .ok (.aload_n 0, 1) := by decide +kernel
theorem dX10_by_40 : decode cX10_by 40 = .ok (.getfield 41, 3) := by decide +kernel
theorem dX10_by_43 : decode cX10_by 43 = .ok (.getfield 140, 3) := by decide +kernel
theorem dX10_by_46 : decode cX10_by 46 = .ok (.getfield 152, 3) := by decide +kernel
theorem dX10_by_49 : decode cX10_by 49 = .ok (.iload_n 3, 1) := by decide +kernel
theorem dX10_by_50 : decode cX10_by 50 = .ok (.iaload, 1) := by decide +kernel
theorem dX10_by_51 : decode cX10_by 51 = .ok (.ireturn, 1) := by decide +kernel
theorem dX10_seekWay_0 : decode cX10_seekWay 0 = .ok (.aload_n 0, 1) := by decide +kernel
theorem dX10_seekWay_1 : decode cX10_seekWay 1 = .ok (.getfield 41, 3) := by decide +kernel
theorem dX10_seekWay_4 : decode cX10_seekWay 4 = .ok (.aload_n 0, 1) := by decide +kernel
theorem dX10_seekWay_5 : decode cX10_seekWay 5 = .ok (.getfield 19, 3) := by decide +kernel
theorem dX10_seekWay_8 : decode cX10_seekWay 8 = .ok (.aload_n 0, 1) := by decide +kernel
theorem dX10_seekWay_9 : decode cX10_seekWay 9 = .ok (.getfield 26, 3) := by decide +kernel
theorem dX10_seekWay_12 : decode cX10_seekWay 12 = .ok (.invokevirtual 155, 3) := by decide +kernel
theorem dX10_seekWay_15 : decode cX10_seekWay 15 = .ok (.aload_n 0, 1) := by decide +kernel
theorem dX10_seekWay_16 : decode cX10_seekWay 16 = .ok (.getfield 41, 3) := by decide +kernel
theorem dX10_seekWay_19 : decode cX10_seekWay 19 = .ok (.iload_n 2, 1) := by decide +kernel
theorem dX10_seekWay_20 : decode cX10_seekWay 20 = .ok (.invokevirtual 159, 3) := by decide +kernel
theorem dX10_seekWay_23 : decode cX10_seekWay 23 = .ok (.aload_n 0, 1) := by decide +kernel
theorem dX10_seekWay_24 : decode cX10_seekWay 24 = .ok (.getfield 19, 3) := by decide +kernel
theorem dX10_seekWay_27 : decode cX10_seekWay 27 = .ok (.getfield 130, 3) := by decide +kernel
theorem dX10_seekWay_30 : decode cX10_seekWay 30 = .ok (.iload_n 1, 1) := by decide +kernel
theorem dX10_seekWay_31 : decode cX10_seekWay 31 = .ok (.aaload, 1) := by decide +kernel
theorem dX10_seekWay_32 : decode cX10_seekWay 32 = .ok (.astore_n 3, 1) := by decide +kernel
theorem dX10_seekWay_33 : decode cX10_seekWay 33 = .ok (.aload_n 0, 1) := by decide +kernel
theorem dX10_seekWay_34 : decode cX10_seekWay 34 = .ok (.getfield 41, 3) := by decide +kernel
theorem dX10_seekWay_37 : decode cX10_seekWay 37 = .ok (.getfield 140, 3) := by decide +kernel
theorem dX10_seekWay_40 : decode cX10_seekWay 40 = .ok (.aload_n 3, 1) := by decide +kernel
theorem dX10_seekWay_41 : decode cX10_seekWay 41 = .ok (.iconst 0, 1) := by decide +kernel
theorem dX10_seekWay_42 : decode cX10_seekWay 42 = .ok (.iaload, 1) := by decide +kernel
theorem dX10_seekWay_43 : decode cX10_seekWay 43 = .ok (.aload_n 3, 1) := by decide +kernel
theorem dX10_seekWay_44 : decode cX10_seekWay 44 = .ok (.iconst 1, 1) := by decide +kernel
theorem dX10_seekWay_45 : decode cX10_seekWay 45 = .ok (.iaload, 1) := by decide +kernel
theorem dX10_seekWay_46 : decode cX10_seekWay 46 = .ok (.invokevirtual 162, 3) := by decide +kernel
theorem dX10_seekWay_49 : decode cX10_seekWay 49 = .ok (.ireturn, 1) := by decide +kernel
theorem dX10_shuts_0 : decode cX10_shuts 0 = .ok (.iload_n 1, 1) := by decide +kernel
theorem dX10_shuts_1 : decode cX10_shuts 1 = .ok (.ifCond .eq 13, 3) := by decide +kernel
theorem dX10_shuts_4 : decode cX10_shuts 4 = .ok (.iload_n 1, 1) := by decide +kernel
theorem dX10_shuts_5 : decode cX10_shuts 5 = .ok (.iconst 2, 1) := by decide +kernel
theorem dX10_shuts_6 : decode cX10_shuts 6 = .ok (.if_icmp .eq 8, 3) := by decide +kernel
theorem dX10_shuts_9 : decode cX10_shuts 9 = .ok (.iload_n 1, 1) := by decide +kernel
theorem dX10_shuts_10 : decode cX10_shuts 10 = .ok (.iconst 3, 1) := by decide +kernel
theorem dX10_shuts_11 : decode cX10_shuts 11 = .ok (.if_icmp .ne 7, 3) := by decide +kernel
theorem dX10_shuts_14 : decode cX10_shuts 14 = .ok (.iconst 1, 1) := by decide +kernel
theorem dX10_shuts_15 : decode cX10_shuts 15 = .ok (.goto 4, 3) := by decide +kernel
theorem dX10_shuts_18 : decode cX10_shuts 18 = .ok (.iconst 0, 1) := by decide +kernel
theorem dX10_shuts_19 : decode cX10_shuts 19 = .ok (.invokestatic 76, 3) := by decide +kernel
theorem dX10_shuts_22 : decode cX10_shuts 22 = .ok (.aload_n 0, 1) := by decide +kernel
theorem dX10_shuts_23 : decode cX10_shuts 23 = .ok (.getfield 41, 3) := by decide +kernel
theorem dX10_shuts_26 : decode cX10_shuts 26 = .ok (.aload_n 0, 1) := by decide +kernel
theorem dX10_shuts_27 : decode cX10_shuts 27 = .ok (.getfield 19, 3) := by decide +kernel
theorem dX10_shuts_30 : decode cX10_shuts 30 = .ok (.aload_n 0, 1) := by decide +kernel
theorem dX10_shuts_31 : decode cX10_shuts 31 = .ok (.getfield 26, 3) := by decide +kernel
theorem dX10_shuts_34 : decode cX10_shuts 34 = .ok (.invokevirtual 155, 3) := by decide +kernel
theorem dX10_shuts_37 : decode cX10_shuts 37 = .ok (.aload_n 0, 1) := by decide +kernel
theorem dX10_shuts_38 : decode cX10_shuts 38 = .ok (.getfield 41, 3) := by decide +kernel
theorem dX10_shuts_41 : decode cX10_shuts 41 = .ok (.iload_n 1, 1) := by decide +kernel
theorem dX10_shuts_42 : decode cX10_shuts 42 = .ok (.invokevirtual 165, 3) := by decide +kernel
theorem dX10_shuts_45 : decode cX10_shuts 45 = .ok (.ireturn, 1) := by decide +kernel
theorem dX10_day_0 : decode cX10_day 0 = .ok (.aload_n 0, 1) := by decide +kernel
theorem dX10_day_1 : decode cX10_day 1 = .ok (.iload_n 1, 1) := by decide +kernel
theorem dX10_day_2 : decode cX10_day 2 = .ok (.invokevirtual 133, 3) := by decide +kernel
theorem dX10_day_5 : decode cX10_day 5 = .ok (.aload_n 0, 1) := by decide +kernel
theorem dX10_day_6 : decode cX10_day 6 = .ok (.getfield 41, 3) := by decide +kernel
theorem dX10_day_9 : decode cX10_day 9 = .ok (.aload_n 0, 1) := by decide +kernel
theorem dX10_day_10 : decode cX10_day 10 = .ok (.getfield 19, 3) := by decide +kernel
theorem dX10_day_13 : decode cX10_day 13 = .ok (.aload_n 0, 1) := by decide +kernel
theorem dX10_day_14 : decode cX10_day 14 = .ok (.getfield 26, 3) := by decide +kernel
theorem dX10_day_17 : decode cX10_day 17 = .ok (.invokevirtual 155, 3) := by decide +kernel
theorem dX10_day_20 : decode cX10_day 20 = .ok (.aload_n 0, 1) := by decide +kernel
theorem dX10_day_21 : decode cX10_day 21 = .ok (.getfield 41, 3) := by decide +kernel
theorem dX10_day_24 : decode cX10_day 24 = .ok (.iload_n 1, 1) := by decide +kernel
theorem dX10_day_25 : decode cX10_day 25 = .ok (.invokevirtual 169, 3) := by decide +kernel
theorem dX10_day_28 : decode cX10_day 28 = .ok (.aload_n 0, 1) := by decide +kernel
theorem dX10_day_29 : decode cX10_day 29 = .ok (.getfield 26, 3) := by decide +kernel
theorem dX10_day_32 : decode cX10_day 32 = .ok (.aload_n 0, 1) := by decide +kernel
theorem dX10_day_33 : decode cX10_day 33 = .ok (.getfield 41, 3) := by decide +kernel
theorem dX10_day_36 : decode cX10_day 36 = .ok (.getfield 172, 3) := by decide +kernel
theorem dX10_day_39 : decode cX10_day 39 = .ok (.invokevirtual 175, 3) := by decide +kernel
theorem dX10_day_42 : decode cX10_day 42 = .ok (.aload_n 0, 1) := by decide +kernel
theorem dX10_day_43 : decode cX10_day 43 = .ok (.getfield 41, 3) := by decide +kernel
theorem dX10_day_46 : decode cX10_day 46 = .ok (.getfield 179, 3) := by decide +kernel
theorem dX10_day_49 : decode cX10_day 49 = .ok (.getfield 183, 3) := by decide +kernel
theorem dX10_day_52 : decode cX10_day 52 = .ok (.l2i, 1) := by decide +kernel
theorem dX10_day_53 : decode cX10_day 53 = .ok (.ireturn, 1) := by decide +kernel
theorem dX10_run_0 : decode cX10_run 0 = .ok (.iload_n 1, 1) := by decide +kernel
theorem dX10_run_1 : decode cX10_run 1 = .ok (.invokestatic 189, 3) := by decide +kernel
theorem dX10_run_4 : decode cX10_run 4 = .ok (.iload_n 2, 1) := by decide +kernel
theorem dX10_run_5 : decode cX10_run 5 = .ok (.invokestatic 192, 3) := by decide +kernel
theorem dX10_run_8 : decode cX10_run 8 = .ok (.aload_n 0, 1) := by decide +kernel
theorem dX10_run_9 : decode cX10_run 9 = .ok (.iload_n 1, 1) := by decide +kernel
theorem dX10_run_10 : decode cX10_run 10 = .ok (.invokevirtual 195, 3) := by decide +kernel
theorem dX10_run_13 : decode cX10_run 13 = .ok (.aload_n 0, 1) := by decide +kernel
theorem dX10_run_14 : decode cX10_run 14 = .ok (.getfield 41, 3) := by decide +kernel
theorem dX10_run_17 : decode cX10_run 17 = .ok (.aload_n 0, 1) := by decide +kernel
theorem dX10_run_18 : decode cX10_run 18 = .ok (.getfield 19, 3) := by decide +kernel
theorem dX10_run_21 : decode cX10_run 21 = .ok (.aload_n 0, 1) := by decide +kernel
theorem dX10_run_22 : decode cX10_run 22 = .ok (.getfield 26, 3) := by decide +kernel
theorem dX10_run_25 : decode cX10_run 25 = .ok (.invokevirtual 155, 3) := by decide +kernel
theorem dX10_run_28 : decode cX10_run 28 = .ok (.aload_n 0, 1) := by decide +kernel
theorem dX10_run_29 : decode cX10_run 29 = .ok (.getfield 41, 3) := by decide +kernel
theorem dX10_run_32 : decode cX10_run 32 = .ok (.iload_n 1, 1) := by decide +kernel
theorem dX10_run_33 : decode cX10_run 33 = .ok (.iload_n 2, 1) := by decide +kernel
theorem dX10_run_34 : decode cX10_run 34 = .ok (.invokevirtual 198, 3) := by decide +kernel
theorem dX10_run_37 : decode cX10_run 37 = .ok (.lstore_n 3, 1) := by decide +kernel
theorem dX10_run_38 : decode cX10_run 38 = .ok (.aload_n 0, 1) := by decide +kernel
theorem dX10_run_39 : decode cX10_run 39 = .ok (.getfield 26, 3) := by decide +kernel
theorem dX10_run_42 : decode cX10_run 42 = .ok (.aload_n 0, 1) := by decide +kernel
theorem dX10_run_43 : decode cX10_run 43 = .ok (.getfield 41, 3) := by decide +kernel
theorem dX10_run_46 : decode cX10_run 46 = .ok (.getfield 172, 3) := by decide +kernel
theorem dX10_run_49 : decode cX10_run 49 = .ok (.invokevirtual 175, 3) := by decide +kernel
theorem dX10_run_52 : decode cX10_run 52 = .ok (.lload_n 3, 1) := by decide +kernel
theorem dX10_run_53 : decode cX10_run 53 = .ok (.lreturn, 1) := by decide +kernel
theorem dX10_would_0 : decode cX10_would 0 = .ok (.iload_n 1, 1) := by decide +kernel
theorem dX10_would_1 : decode cX10_would 1 = .ok (.invokestatic 189, 3) := by decide +kernel
theorem dX10_would_4 : decode cX10_would 4 = .ok (.iload_n 2, 1) := by decide +kernel
theorem dX10_would_5 : decode cX10_would 5 = .ok (.invokestatic 192, 3) := by decide +kernel
theorem dX10_would_8 : decode cX10_would 8 = .ok (.iload_n 3, 1) := by decide +kernel
theorem dX10_would_9 : decode cX10_would 9 = .ok (.ifCond .lt 12, 3) := by decide +kernel
theorem dX10_would_12 : decode cX10_would 12 = .ok (.iload_n 3, 1) := by decide +kernel
theorem dX10_would_13 : decode cX10_would 13 = .ok (.iconst 3, 1) := by decide +kernel
theorem dX10_would_14 : decode cX10_would 14 = .ok (.if_icmp .gt 7, 3) := by decide +kernel
theorem dX10_would_17 : decode cX10_would 17 = .ok (.iconst 1, 1) := by decide +kernel
theorem dX10_would_18 : decode cX10_would 18 = .ok (.goto 4, 3) := by decide +kernel
theorem dX10_would_21 : decode cX10_would 21 = .ok (.iconst 0, 1) := by decide +kernel
theorem dX10_would_22 : decode cX10_would 22 = .ok (.invokestatic 76, 3) := by decide +kernel
theorem dX10_would_25 : decode cX10_would 25 = .ok (.aload_n 0, 1) := by decide +kernel
theorem dX10_would_26 : decode cX10_would 26 = .ok (.iload_n 1, 1) := by decide +kernel
theorem dX10_would_27 : decode cX10_would 27 = .ok (.invokevirtual 195, 3) := by decide +kernel
theorem dX10_would_30 : decode cX10_would 30 = .ok (.aload_n 0, 1) := by decide +kernel
theorem dX10_would_31 : decode cX10_would 31 = .ok (.getfield 41, 3) := by decide +kernel
theorem dX10_would_34 : decode cX10_would 34 = .ok (.aload_n 0, 1) := by decide +kernel
theorem dX10_would_35 : decode cX10_would 35 = .ok (.getfield 19, 3) := by decide +kernel
theorem dX10_would_38 : decode cX10_would 38 = .ok (.aload_n 0, 1) := by decide +kernel
theorem dX10_would_39 : decode cX10_would 39 = .ok (.getfield 26, 3) := by decide +kernel
theorem dX10_would_42 : decode cX10_would 42 = .ok (.invokevirtual 155, 3) := by decide +kernel
theorem dX10_would_45 : decode cX10_would 45 = .ok (.aload_n 0, 1) := by decide +kernel
theorem dX10_would_46 : decode cX10_would 46 = .ok (.getfield 41, 3) := by decide +kernel
theorem dX10_would_49 : decode cX10_would 49 = .ok (.iload_n 1, 1) := by decide +kernel
theorem dX10_would_50 : decode cX10_would 50 = .ok (.iload_n 2, 1) := by decide +kernel
theorem dX10_would_51 : decode cX10_would 51 = .ok (.invokevirtual 198, 3) := by decide +kernel
theorem dX10_would_54 : decode cX10_would 54 = .ok (.lstore 4, 2) := by decide +kernel
theorem dX10_would_56 : decode cX10_would 56 = .ok (.iload_n 3, 1) := by decide +kernel
theorem dX10_would_57 : decode cX10_would 57 = .ok (.tableswitch 58 0 2 #[27, 30, 42], 27) := by decide +kernel
theorem dX10_would_84 : decode cX10_would 84 = .ok (.lload 4, 2) := by decide +kernel
theorem dX10_would_86 : decode cX10_would 86 = .ok (.lreturn, 1) := by decide +kernel
theorem dX10_would_87 : decode cX10_would 87 = .ok (.aload_n 0, 1) := by decide +kernel
theorem dX10_would_88 : decode cX10_would 88 = .ok (.getfield 41, 3) := by decide +kernel
theorem dX10_would_91 : decode cX10_would 91 = .ok (.getfield 179, 3) := by decide +kernel
theorem dX10_would_94 : decode cX10_would 94 = .ok (.getfield 202, 3) := by decide +kernel
theorem dX10_would_97 : decode cX10_would 97 = .ok (.i2l, 1) := by decide +kernel
theorem dX10_would_98 : decode cX10_would 98 = .ok (.lreturn, 1) := by decide +kernel
theorem dX10_would_99 : decode cX10_would 99 = .ok (.aload_n 0, 1) := by decide +kernel
theorem dX10_would_100 : decode cX10_would 100 = .ok (.getfield 41, 3) := by decide +kernel
theorem dX10_would_103 : decode cX10_would 103 = .ok (.getfield 172, 3) := by decide +kernel
theorem dX10_would_106 : decode cX10_would 106 = .ok (.aload_n 0, 1) := by decide +kernel
theorem dX10_would_107 : decode cX10_would 107 = .ok (.getfield 19, 3) := by decide +kernel
theorem dX10_would_110 : decode cX10_would 110 = .ok (.invokevirtual 205, 3) := by decide +kernel
theorem dX10_would_113 : decode cX10_would 113 = .ok (.i2l, 1) := by decide +kernel
theorem dX10_would_114 : decode cX10_would 114 = .ok (.lreturn, 1) := by decide +kernel
theorem dX10_would_115 : decode cX10_would 115 = .ok (.aload_n 0, 1) := by decide +kernel
theorem dX10_would_116 : decode cX10_would 116 = .ok (.getfield 41, 3) := by decide +kernel
theorem dX10_would_119 : decode cX10_would 119 = .ok (.getfield 172, 3) := by decide +kernel
theorem dX10_would_122 : decode cX10_would 122 = .ok (.aload_n 0, 1) := by decide +kernel
theorem dX10_would_123 : decode cX10_would 123 = .ok (.getfield 19, 3) := by decide +kernel
theorem dX10_would_126 : decode cX10_would 126 = .ok (.invokevirtual 209, 3) := by decide +kernel
theorem dX10_would_129 : decode cX10_would 129 = .ok (.i2l, 1) := by decide +kernel
theorem dX10_would_130 : decode cX10_would 130 = .ok (.lreturn, 1) := by decide +kernel
theorem dX10_row_0 : decode cX10_row 0 = .ok (.aload_n 0, 1) := by decide +kernel
theorem dX10_row_1 : decode cX10_row 1 = .ok (.iload_n 1, 1) := by decide +kernel
theorem dX10_row_2 : decode cX10_row 2 = .ok (.invokevirtual 133, 3) := by decide +kernel
theorem dX10_row_5 : decode cX10_row 5 = .ok (.aload_n 0, 1) := by decide +kernel
theorem dX10_row_6 : decode cX10_row 6 = .ok (.getfield 26, 3) := by decide +kernel
theorem dX10_row_9 : decode cX10_row 9 = .ok (.getfield 212, 3) := by decide +kernel
theorem dX10_row_12 : decode cX10_row 12 = .ok (.bipush 30, 2) := by decide +kernel
theorem dX10_row_14 : decode cX10_row 14 = .ok (.if_icmp .lt 5, 3) := by decide +kernel
theorem dX10_row_17 : decode cX10_row 17 = .ok (.iconst (-1), 1) := by decide +kernel
theorem dX10_row_18 : decode cX10_row 18 = .ok (.ireturn, 1) := by decide +kernel
theorem dX10_row_19 : decode cX10_row 19 = .ok (.aload_n 0, 1) := by decide +kernel
theorem dX10_row_20 : decode cX10_row 20 = .ok (.getfield 26, 3) := by decide +kernel
theorem dX10_row_23 : decode cX10_row 23 = .ok (.getfield 215, 3) := by decide +kernel
theorem dX10_row_26 : decode cX10_row 26 = .ok (.aload_n 0, 1) := by decide +kernel
theorem dX10_row_27 : decode cX10_row 27 = .ok (.getfield 26, 3) := by decide +kernel
theorem dX10_row_30 : decode cX10_row 30 = .ok (.getfield 212, 3) := by decide +kernel
theorem dX10_row_33 : decode cX10_row 33 = .ok (.iload_n 1, 1) := by decide +kernel
theorem dX10_row_34 : decode cX10_row 34 = .ok (.iastore, 1) := by decide +kernel
theorem dX10_row_35 : decode cX10_row 35 = .ok (.aload_n 0, 1) := by decide +kernel
theorem dX10_row_36 : decode cX10_row 36 = .ok (.getfield 26, 3) := by decide +kernel
theorem dX10_row_39 : decode cX10_row 39 = .ok (.dup, 1) := by decide +kernel
theorem dX10_row_40 : decode cX10_row 40 = .ok (.getfield 212, 3) := by decide +kernel
theorem dX10_row_43 : decode cX10_row 43 = .ok (.iconst 1, 1) := by decide +kernel
theorem dX10_row_44 : decode cX10_row 44 = .ok (.iadd, 1) := by decide +kernel
theorem dX10_row_45 : decode cX10_row 45 = .ok (.putfield 212, 3) := by decide +kernel
theorem dX10_row_48 : decode cX10_row 48 = .ok (.aload_n 0, 1) := by decide +kernel
theorem dX10_row_49 : decode cX10_row 49 = .ok (.getfield 26, 3) := by decide +kernel
theorem dX10_row_52 : decode cX10_row 52 = .ok (.getfield 212, 3) := by decide +kernel
theorem dX10_row_55 : decode cX10_row 55 = .ok (.ireturn, 1) := by decide +kernel
theorem dX10_clear_0 : decode cX10_clear 0 = .ok (.aload_n 0, 1) := by decide +kernel
theorem dX10_clear_1 : decode cX10_clear 1 = .ok (.getfield 26, 3) := by decide +kernel
theorem dX10_clear_4 : decode cX10_clear 4 = .ok (.getfield 212, 3) := by decide +kernel
theorem dX10_clear_7 : decode cX10_clear 7 = .ok (.istore_n 1, 1) := by decide +kernel
theorem dX10_clear_8 : decode cX10_clear 8 = .ok (.aload_n 0, 1) := by decide +kernel
theorem dX10_clear_9 : decode cX10_clear 9 = .ok (.getfield 26, 3) := by decide +kernel
theorem dX10_clear_12 : decode cX10_clear 12 = .ok (.iconst 0, 1) := by decide +kernel
theorem dX10_clear_13 : decode cX10_clear 13 = .ok (.putfield 212, 3) := by decide +kernel
theorem dX10_clear_16 : decode cX10_clear 16 = .ok (.iload_n 1, 1) := by decide +kernel
theorem dX10_clear_17 : decode cX10_clear 17 = .ok (.ireturn, 1) := by decide +kernel
theorem dX10_judge_0 : decode cX10_judge 0 = .ok (.iload_n 1, 1) := by decide +kernel
theorem dX10_judge_1 : decode cX10_judge 1 = .ok (.ifCond .lt 16, 3) := by decide +kernel
theorem dX10_judge_4 : decode cX10_judge 4 = .ok (.iload_n 1, 1) := by decide +kernel
theorem dX10_judge_5 : decode cX10_judge 5 = .ok (.aload_n 0, 1) := by decide +kernel
theorem dX10_judge_6 : decode cX10_judge 6 = .ok (.getfield 59, 3) := by decide +kernel
theorem dX10_judge_9 : decode cX10_judge 9 = .ok (.arraylength, 1) := by decide +kernel
theorem dX10_judge_10 : decode cX10_judge 10 = .ok (.if_icmp .ge 7, 3) := by decide +kernel
theorem dX10_judge_13 : decode cX10_judge 13 = .ok (.iconst 1, 1) := by decide +kernel
theorem dX10_judge_14 : decode cX10_judge 14 = .ok (.goto 4, 3) := by decide +kernel
theorem dX10_judge_17 : decode cX10_judge 17 = .ok (.iconst 0, 1) := by decide +kernel
theorem dX10_judge_18 : decode cX10_judge 18 = .ok (.invokestatic 76, 3) := by decide +kernel
theorem dX10_judge_21 : decode cX10_judge 21 = .ok (.aload_n 0, 1) := by decide +kernel
theorem dX10_judge_22 : decode cX10_judge 22 = .ok (.invokevirtual 218, 3) := by decide +kernel
theorem dX10_judge_25 : decode cX10_judge 25 = .ok (.aload_n 0, 1) := by decide +kernel
theorem dX10_judge_26 : decode cX10_judge 26 = .ok (.getfield 59, 3) := by decide +kernel
theorem dX10_judge_29 : decode cX10_judge 29 = .ok (.iload_n 1, 1) := by decide +kernel
theorem dX10_judge_30 : decode cX10_judge 30 = .ok (.iaload, 1) := by decide +kernel
theorem dX10_judge_31 : decode cX10_judge 31 = .ok (.ireturn, 1) := by decide +kernel
theorem dX10_judgeRow_0 : decode cX10_judgeRow 0 = .ok (.iconst 0, 1) := by decide +kernel
theorem dX10_judgeRow_1 : decode cX10_judgeRow 1 = .ok (.istore_n 1, 1) := by decide +kernel
theorem dX10_judgeRow_2 : decode cX10_judgeRow 2 = .ok (.iload_n 1, 1) := by decide +kernel
theorem dX10_judgeRow_3 : decode cX10_judgeRow 3 = .ok (.aload_n 0, 1) := by decide +kernel
theorem dX10_judgeRow_4 : decode cX10_judgeRow 4 = .ok (.getfield 59, 3) := by decide +kernel
theorem dX10_judgeRow_7 : decode cX10_judgeRow 7 = .ok (.arraylength, 1) := by decide +kernel
theorem dX10_judgeRow_8 : decode cX10_judgeRow 8 = .ok (.if_icmp .ge 16, 3) := by decide +kernel
theorem dX10_judgeRow_11 : decode cX10_judgeRow 11 = .ok (.aload_n 0, 1) := by decide +kernel
theorem dX10_judgeRow_12 : decode cX10_judgeRow 12 = .ok (.getfield 59, 3) := by decide +kernel
theorem dX10_judgeRow_15 : decode cX10_judgeRow 15 = .ok (.iload_n 1, 1) := by decide +kernel
theorem dX10_judgeRow_16 : decode cX10_judgeRow 16 = .ok (.iconst (-1), 1) := by decide +kernel
theorem dX10_judgeRow_17 : decode cX10_judgeRow 17 = .ok (.iastore, 1) := by decide +kernel
theorem dX10_judgeRow_18 : decode cX10_judgeRow 18 = .ok (.iinc 1 1, 3) := by decide +kernel
theorem dX10_judgeRow_21 : decode cX10_judgeRow 21 = .ok (.goto (-19), 3) := by decide +kernel
theorem dX10_judgeRow_24 : decode cX10_judgeRow 24 = .ok (.aload_n 0, 1) := by decide +kernel
theorem dX10_judgeRow_25 : decode cX10_judgeRow 25 = .ok (.getfield 41, 3) := by decide +kernel
theorem dX10_judgeRow_28 : decode cX10_judgeRow 28 = .ok (.aload_n 0, 1) := by decide +kernel
theorem dX10_judgeRow_29 : decode cX10_judgeRow 29 = .ok (.getfield 19, 3) := by decide +kernel
theorem dX10_judgeRow_32 : decode cX10_judgeRow 32 = .ok (.aload_n 0, 1) := by decide +kernel
theorem dX10_judgeRow_33 : decode cX10_judgeRow 33 = .ok (.getfield 26, 3) := by decide +kernel
theorem dX10_judgeRow_36 : decode cX10_judgeRow 36 = .ok (.invokevirtual 155, 3) := by decide +kernel
theorem dX10_judgeRow_39 : decode cX10_judgeRow 39 = .ok (.iconst 0, 1) := by decide +kernel
theorem dX10_judgeRow_40 : decode cX10_judgeRow 40 = .ok (.istore_n 1, 1) := by decide +kernel
theorem dX10_judgeRow_41 : decode cX10_judgeRow 41 = .ok (.iload_n 1, 1) := by decide +kernel
theorem dX10_judgeRow_42 : decode cX10_judgeRow 42 = .ok (.aload_n 0, 1) := by decide +kernel
theorem dX10_judgeRow_43 : decode cX10_judgeRow 43 = .ok (.getfield 26, 3) := by decide +kernel
theorem dX10_judgeRow_46 : decode cX10_judgeRow 46 = .ok (.getfield 212, 3) := by decide +kernel
theorem dX10_judgeRow_49 : decode cX10_judgeRow 49 = .ok (.if_icmp .ge 61, 3) := by decide +kernel
theorem dX10_judgeRow_52 : decode cX10_judgeRow 52 = .ok (.aload_n 0, 1) := by decide +kernel
theorem dX10_judgeRow_53 : decode cX10_judgeRow 53 = .ok (.getfield 41, 3) := by decide +kernel
theorem dX10_judgeRow_56 : decode cX10_judgeRow 56 = .ok (.aload_n 0, 1) := by decide +kernel
theorem dX10_judgeRow_57 : decode cX10_judgeRow 57 = .ok (.getfield 26, 3) := by decide +kernel
theorem dX10_judgeRow_60 : decode cX10_judgeRow 60 = .ok (.getfield 215, 3) := by decide +kernel
theorem dX10_judgeRow_63 : decode cX10_judgeRow 63 = .ok (.iload_n 1, 1) := by decide +kernel
theorem dX10_judgeRow_64 : decode cX10_judgeRow 64 = .ok (.iaload, 1) := by decide +kernel
theorem dX10_judgeRow_65 : decode cX10_judgeRow 65 = .ok (.invokevirtual 169, 3) := by decide +kernel
theorem dX10_judgeRow_68 : decode cX10_judgeRow 68 = .ok (.aload_n 0, 1) := by decide +kernel
theorem dX10_judgeRow_69 : decode cX10_judgeRow 69 = .ok (.iconst 0, 1) := by decide +kernel
theorem dX10_judgeRow_70 : decode cX10_judgeRow 70 = .ok (.iload_n 1, 1) := by decide +kernel
theorem dX10_judgeRow_71 : decode cX10_judgeRow 71 = .ok (.aload_n 0, 1) := by decide +kernel
theorem dX10_judgeRow_72 : decode cX10_judgeRow 72 = .ok (.getfield 41, 3) := by decide +kernel
theorem dX10_judgeRow_75 : decode cX10_judgeRow 75 = .ok (.getfield 172, 3) := by decide +kernel
theorem dX10_judgeRow_78 : decode cX10_judgeRow 78 = .ok (.aload_n 0, 1) := by decide +kernel
theorem dX10_judgeRow_79 : decode cX10_judgeRow 79 = .ok (.getfield 19, 3) := by decide +kernel
theorem dX10_judgeRow_82 : decode cX10_judgeRow 82 = .ok (.invokevirtual 221, 3) := by decide +kernel
theorem dX10_judgeRow_85 : decode cX10_judgeRow 85 = .ok (.invokevirtual 224, 3) := by decide +kernel
theorem dX10_judgeRow_88 : decode cX10_judgeRow 88 = .ok (.aload_n 0, 1) := by decide +kernel
theorem dX10_judgeRow_89 : decode cX10_judgeRow 89 = .ok (.iconst 2, 1) := by decide +kernel
theorem dX10_judgeRow_90 : decode cX10_judgeRow 90 = .ok (.iload_n 1, 1) := by decide +kernel
theorem dX10_judgeRow_91 : decode cX10_judgeRow 91 = .ok (.aload_n 0, 1) := by decide +kernel
theorem dX10_judgeRow_92 : decode cX10_judgeRow 92 = .ok (.getfield 41, 3) := by decide +kernel
theorem dX10_judgeRow_95 : decode cX10_judgeRow 95 = .ok (.getfield 179, 3) := by decide +kernel
theorem dX10_judgeRow_98 : decode cX10_judgeRow 98 = .ok (.getfield 228, 3) := by decide +kernel
theorem dX10_judgeRow_101 : decode cX10_judgeRow 101 = .ok (.invokevirtual 224, 3) := by decide +kernel
theorem dX10_judgeRow_104 : decode cX10_judgeRow 104 = .ok (.iinc 1 1, 3) := by decide +kernel
theorem dX10_judgeRow_107 : decode cX10_judgeRow 107 = .ok (.goto (-66), 3) := by decide +kernel
theorem dX10_judgeRow_110 : decode cX10_judgeRow 110 = .ok (.return_, 1) := by decide +kernel
theorem dX10_noteVerdict_0 : decode cX10_noteVerdict 0 = .ok (.aload_n 0, 1) := by decide +kernel
theorem dX10_noteVerdict_1 : decode cX10_noteVerdict 1 = .ok (.getfield 59, 3) := by decide +kernel
theorem dX10_noteVerdict_4 : decode cX10_noteVerdict 4 = .ok (.iload_n 1, 1) := by decide +kernel
theorem dX10_noteVerdict_5 : decode cX10_noteVerdict 5 = .ok (.iaload, 1) := by decide +kernel
theorem dX10_noteVerdict_6 : decode cX10_noteVerdict 6 = .ok (.iconst (-1), 1) := by decide +kernel
theorem dX10_noteVerdict_7 : decode cX10_noteVerdict 7 = .ok (.if_icmp .ne 24, 3) := by decide +kernel
theorem dX10_noteVerdict_10 : decode cX10_noteVerdict 10 = .ok (.iload_n 3, 1) := by decide +kernel
theorem dX10_noteVerdict_11 : decode cX10_noteVerdict 11 = .ok (.iconst (-1), 1) := by decide +kernel
theorem dX10_noteVerdict_12 : decode cX10_noteVerdict 12 = .ok (.if_icmp .eq 19, 3) := by decide +kernel
theorem dX10_noteVerdict_15 : decode cX10_noteVerdict 15 = .ok (.aload_n 0, 1) := by decide +kernel
theorem dX10_noteVerdict_16 : decode cX10_noteVerdict 16 = .ok (.getfield 59, 3) := by decide +kernel
theorem dX10_noteVerdict_19 : decode cX10_noteVerdict 19 = .ok (.iload_n 1, 1) := by decide +kernel
theorem dX10_noteVerdict_20 : decode cX10_noteVerdict 20 = .ok (.iload_n 2, 1) := by decide +kernel
theorem dX10_noteVerdict_21 : decode cX10_noteVerdict 21 = .ok (.iastore, 1) := by decide +kernel
theorem dX10_noteVerdict_22 : decode cX10_noteVerdict 22 = .ok (.aload_n 0, 1) := by decide +kernel
theorem dX10_noteVerdict_23 : decode cX10_noteVerdict 23 = .ok (.getfield 59, 3) := by decide +kernel
theorem dX10_noteVerdict_26 : decode cX10_noteVerdict 26 = .ok (.iload_n 1, 1) := by decide +kernel
theorem dX10_noteVerdict_27 : decode cX10_noteVerdict 27 = .ok (.iconst 1, 1) := by decide +kernel
theorem dX10_noteVerdict_28 : decode cX10_noteVerdict 28 = .ok (.iadd, 1) := by decide +kernel
theorem dX10_noteVerdict_29 : decode cX10_noteVerdict 29 = .ok (.iload_n 3, 1) := by decide +kernel
theorem dX10_noteVerdict_30 : decode cX10_noteVerdict 30 = .ok (.iastore, 1) := by decide +kernel
theorem dX10_noteVerdict_31 : decode cX10_noteVerdict 31 = .ok (.return_, 1) := by decide +kernel
theorem dX10_minutes_0 : decode cX10_minutes 0 = .ok (.aload_n 0, 1) := by decide +kernel
theorem dX10_minutes_1 : decode cX10_minutes 1 = .ok (.getfield 26, 3) := by decide +kernel
theorem dX10_minutes_4 : decode cX10_minutes 4 = .ok (.getfield 212, 3) := by decide +kernel
theorem dX10_minutes_7 : decode cX10_minutes 7 = .ok (.ifCond .ne 5, 3) := by decide +kernel
theorem dX10_minutes_10 : decode cX10_minutes 10 = .ok (.lconst 0, 1) := by decide +kernel
theorem dX10_minutes_11 : decode cX10_minutes 11 = .ok (.lreturn, 1) := by decide +kernel
theorem dX10_minutes_12 : decode cX10_minutes 12 = .ok (.aload_n 0, 1) := by decide +kernel
theorem dX10_minutes_13 : decode cX10_minutes 13 = .ok (.getfield 41, 3) := by decide +kernel
theorem dX10_minutes_16 : decode cX10_minutes 16 = .ok (.aload_n 0, 1) := by decide +kernel
theorem dX10_minutes_17 : decode cX10_minutes 17 = .ok (.getfield 19, 3) := by decide +kernel
theorem dX10_minutes_20 : decode cX10_minutes 20 = .ok (.aload_n 0, 1) := by decide +kernel
theorem dX10_minutes_21 : decode cX10_minutes 21 = .ok (.getfield 26, 3) := by decide +kernel
theorem dX10_minutes_24 : decode cX10_minutes 24 = .ok (.invokevirtual 155, 3) := by decide +kernel
theorem dX10_minutes_27 : decode cX10_minutes 27 = .ok (.aload_n 0, 1) := by decide +kernel
theorem dX10_minutes_28 : decode cX10_minutes 28 = .ok (.getfield 41, 3) := by decide +kernel
theorem dX10_minutes_31 : decode cX10_minutes 31 = .ok (.iconst 1, 1) := by decide +kernel
theorem dX10_minutes_32 : decode cX10_minutes 32 = .ok (.aload_n 0, 1) := by decide +kernel
theorem dX10_minutes_33 : decode cX10_minutes 33 = .ok (.getfield 26, 3) := by decide +kernel
theorem dX10_minutes_36 : decode cX10_minutes 36 = .ok (.getfield 212, 3) := by decide +kernel
theorem dX10_minutes_39 : decode cX10_minutes 39 = .ok (.invokevirtual 198, 3) := by decide +kernel
theorem dX10_minutes_42 : decode cX10_minutes 42 = .ok (.lreturn, 1) := by decide +kernel
theorem dX10_ever_0 : decode cX10_ever 0 = .ok (.iload_n 1, 1) := by decide +kernel
theorem dX10_ever_1 : decode cX10_ever 1 = .ok (.ifCond .lt 12, 3) := by decide +kernel
theorem dX10_ever_4 : decode cX10_ever 4 = .ok (.iload_n 1, 1) := by decide +kernel
theorem dX10_ever_5 : decode cX10_ever 5 = .ok (.iconst 3, 1) := by decide +kernel
theorem dX10_ever_6 : decode cX10_ever 6 = .ok (.if_icmp .gt 7, 3) := by decide +kernel
theorem dX10_ever_9 : decode cX10_ever 9 = .ok (.iconst 1, 1) := by decide +kernel
theorem dX10_ever_10 : decode cX10_ever 10 = .ok (.goto 4, 3) := by decide +kernel
theorem dX10_ever_13 : decode cX10_ever 13 = .ok (.iconst 0, 1) := by decide +kernel
theorem dX10_ever_14 : decode cX10_ever 14 = .ok (.invokestatic 76, 3) := by decide +kernel
theorem dX10_ever_17 : decode cX10_ever 17 = .ok (.aload_n 0, 1) := by decide +kernel
theorem dX10_ever_18 : decode cX10_ever 18 = .ok (.invokevirtual 231, 3) := by decide +kernel
theorem dX10_ever_21 : decode cX10_ever 21 = .ok (.aload_n 0, 1) := by decide +kernel
theorem dX10_ever_22 : decode cX10_ever 22 = .ok (.getfield 41, 3) := by decide +kernel
theorem dX10_ever_25 : decode cX10_ever 25 = .ok (.aload_n 0, 1) := by decide +kernel
theorem dX10_ever_26 : decode cX10_ever 26 = .ok (.getfield 19, 3) := by decide +kernel
theorem dX10_ever_29 : decode cX10_ever 29 = .ok (.aload_n 0, 1) := by decide +kernel
theorem dX10_ever_30 : decode cX10_ever 30 = .ok (.getfield 26, 3) := by decide +kernel
theorem dX10_ever_33 : decode cX10_ever 33 = .ok (.invokevirtual 155, 3) := by decide +kernel
theorem dX10_ever_36 : decode cX10_ever 36 = .ok (.aload_n 0, 1) := by decide +kernel
theorem dX10_ever_37 : decode cX10_ever 37 = .ok (.getfield 41, 3) := by decide +kernel
theorem dX10_ever_40 : decode cX10_ever 40 = .ok (.getfield 234, 3) := by decide +kernel
theorem dX10_ever_43 : decode cX10_ever 43 = .ok (.iconst 1, 1) := by decide +kernel
theorem dX10_ever_44 : decode cX10_ever 44 = .ok (.putfield 238, 3) := by decide +kernel
theorem dX10_ever_47 : decode cX10_ever 47 = .ok (.aload_n 0, 1) := by decide +kernel
theorem dX10_ever_48 : decode cX10_ever 48 = .ok (.getfield 55, 3) := by decide +kernel
theorem dX10_ever_51 : decode cX10_ever 51 = .ok (.aload_n 0, 1) := by decide +kernel
theorem dX10_ever_52 : decode cX10_ever 52 = .ok (.getfield 41, 3) := by decide +kernel
theorem dX10_ever_55 : decode cX10_ever 55 = .ok (.invokevirtual 244, 3) := by decide +kernel
theorem dX10_ever_58 : decode cX10_ever 58 = .ok (.iload_n 1, 1) := by decide +kernel
theorem dX10_ever_59 : decode cX10_ever 59 = .ok (.tableswitch 57 0 2 #[25, 41, 49], 25) := by decide +kernel
theorem dX10_ever_84 : decode cX10_ever 84 = .ok (.aload_n 0, 1) := by decide +kernel
theorem dX10_ever_85 : decode cX10_ever 85 = .ok (.getfield 55, 3) := by decide +kernel
theorem dX10_ever_88 : decode cX10_ever 88 = .ok (.invokevirtual 248, 3) := by decide +kernel
theorem dX10_ever_91 : decode cX10_ever 91 = .ok (.ifCond .eq 7, 3) := by decide +kernel
theorem dX10_ever_94 : decode cX10_ever 94 = .ok (.iconst 1, 1) := by decide +kernel
theorem dX10_ever_95 : decode cX10_ever 95 = .ok (.goto 4, 3) := by decide +kernel
theorem dX10_ever_98 : decode cX10_ever 98 = .ok (.iconst 0, 1) := by decide +kernel
theorem dX10_ever_99 : decode cX10_ever 99 = .ok (.ireturn, 1) := by decide +kernel
theorem dX10_ever_100 : decode cX10_ever 100 = .ok (.aload_n 0, 1) := by decide +kernel
theorem dX10_ever_101 : decode cX10_ever 101 = .ok (.getfield 55, 3) := by decide +kernel
theorem dX10_ever_104 : decode cX10_ever 104 = .ok (.getfield 252, 3) := by decide +kernel
theorem dX10_ever_107 : decode cX10_ever 107 = .ok (.ireturn, 1) := by decide +kernel
theorem dX10_ever_108 : decode cX10_ever 108 = .ok (.aload_n 0, 1) := by decide +kernel
theorem dX10_ever_109 : decode cX10_ever 109 = .ok (.getfield 55, 3) := by decide +kernel
theorem dX10_ever_112 : decode cX10_ever 112 = .ok (.getfield 255, 3) := by decide +kernel
theorem dX10_ever_115 : decode cX10_ever 115 = .ok (.ireturn, 1) := by decide +kernel
theorem dX10_ever_116 : decode cX10_ever 116 = .ok (.aload_n 0, 1) := by decide +kernel
theorem dX10_ever_117 : decode cX10_ever 117 = .ok (.getfield 55, 3) := by decide +kernel
theorem dX10_ever_120 : decode cX10_ever 120 = .ok (.getfield 258, 3) := by decide +kernel
theorem dX10_ever_123 : decode cX10_ever 123 = .ok (.ireturn, 1) := by decide +kernel
theorem dX10_fewest_0 : decode cX10_fewest 0 = .ok (.iload_n 1, 1) := by decide +kernel
theorem dX10_fewest_1 : decode cX10_fewest 1 = .ok (.iconst 1, 1) := by decide +kernel
theorem dX10_fewest_2 : decode cX10_fewest 2 = .ok (.if_icmp .lt 13, 3) := by decide +kernel
theorem dX10_fewest_5 : decode cX10_fewest 5 = .ok (.iload_n 1, 1) := by decide +kernel
theorem dX10_fewest_6 : decode cX10_fewest 6 = .ok (.bipush 99, 2) := by decide +kernel
theorem dX10_fewest_8 : decode cX10_fewest 8 = .ok (.if_icmp .gt 7, 3) := by decide +kernel
theorem dX10_fewest_11 : decode cX10_fewest 11 = .ok (.iconst 1, 1) := by decide +kernel
theorem dX10_fewest_12 : decode cX10_fewest 12 = .ok (.goto 4, 3) := by decide +kernel
theorem dX10_fewest_15 : decode cX10_fewest 15 = .ok (.iconst 0, 1) := by decide +kernel
theorem dX10_fewest_16 : decode cX10_fewest 16 = .ok (.invokestatic 76, 3) := by decide +kernel
theorem dX10_fewest_19 : decode cX10_fewest 19 = .ok (.iload_n 2, 1) := by decide +kernel
theorem dX10_fewest_20 : decode cX10_fewest 20 = .ok (.iconst 1, 1) := by decide +kernel
theorem dX10_fewest_21 : decode cX10_fewest 21 = .ok (.if_icmp .lt 13, 3) := by decide +kernel
theorem dX10_fewest_24 : decode cX10_fewest 24 = .ok (.iload_n 2, 1) := by decide +kernel
theorem dX10_fewest_25 : decode cX10_fewest 25 = .ok (.bipush 99, 2) := by decide +kernel
theorem dX10_fewest_27 : decode cX10_fewest 27 = .ok (.if_icmp .gt 7, 3) := by decide +kernel
theorem dX10_fewest_30 : decode cX10_fewest 30 = .ok (.iconst 1, 1) := by decide +kernel
theorem dX10_fewest_31 : decode cX10_fewest 31 = .ok (.goto 4, 3) := by decide +kernel
theorem dX10_fewest_34 : decode cX10_fewest 34 = .ok (.iconst 0, 1) := by decide +kernel
theorem dX10_fewest_35 : decode cX10_fewest 35 = .ok (.invokestatic 76, 3) := by decide +kernel
theorem dX10_fewest_38 : decode cX10_fewest 38 = .ok (.iload_n 3, 1) := by decide +kernel
theorem dX10_fewest_39 : decode cX10_fewest 39 = .ok (.ifCond .lt 12, 3) := by decide +kernel
theorem dX10_fewest_42 : decode cX10_fewest 42 = .ok (.iload_n 3, 1) := by decide +kernel
theorem dX10_fewest_43 : decode cX10_fewest 43 = .ok (.iconst 2, 1) := by decide +kernel
theorem dX10_fewest_44 : decode cX10_fewest 44 = .ok (.if_icmp .gt 7, 3) := by decide +kernel
theorem dX10_fewest_47 : decode cX10_fewest 47 = .ok (.iconst 1, 1) := by decide +kernel
theorem dX10_fewest_48 : decode cX10_fewest 48 = .ok (.goto 4, 3) := by decide +kernel
theorem dX10_fewest_51 : decode cX10_fewest 51 = .ok (.iconst 0, 1) := by decide +kernel
theorem dX10_fewest_52 : decode cX10_fewest 52 = .ok (.invokestatic 76, 3) := by decide +kernel
theorem dX10_fewest_55 : decode cX10_fewest 55 = .ok (.iload_n 1, 1) := by decide +kernel
theorem dX10_fewest_56 : decode cX10_fewest 56 = .ok (.ifCond .le 9, 3) := by decide +kernel
theorem dX10_fewest_59 : decode cX10_fewest 59 = .ok (.iload_n 2, 1) := by decide +kernel
theorem dX10_fewest_60 : decode cX10_fewest 60 = .ok (.iload_n 1, 1) := by decide +kernel
theorem dX10_fewest_61 : decode cX10_fewest 61 = .ok (.idiv, 1) := by decide +kernel
theorem dX10_fewest_62 : decode cX10_fewest 62 = .ok (.goto 4, 3) := by decide +kernel
theorem dX10_fewest_65 : decode cX10_fewest 65 = .ok (.iconst 0, 1) := by decide +kernel
theorem dX10_fewest_66 : decode cX10_fewest 66 = .ok (.istore 4, 2) := by decide +kernel
theorem dX10_fewest_68 : decode cX10_fewest 68 = .ok (.iload 4, 2) := by decide +kernel
theorem dX10_fewest_70 : decode cX10_fewest 70 = .ok (.ifCond .ne 5, 3) := by decide +kernel
theorem dX10_fewest_73 : decode cX10_fewest 73 = .ok (.iconst (-1), 1) := by decide +kernel
theorem dX10_fewest_74 : decode cX10_fewest 74 = .ok (.ireturn, 1) := by decide +kernel
theorem dX10_fewest_75 : decode cX10_fewest 75 = .ok (.aload_n 0, 1) := by decide +kernel
theorem dX10_fewest_76 : decode cX10_fewest 76 = .ok (.getfield 19, 3) := by decide +kernel
theorem dX10_fewest_79 : decode cX10_fewest 79 = .ok (.getfield 63, 3) := by decide +kernel
theorem dX10_fewest_82 : decode cX10_fewest 82 = .ok (.iload 4, 2) := by decide +kernel
theorem dX10_fewest_84 : decode cX10_fewest 84 = .ok (.iadd, 1) := by decide +kernel
theorem dX10_fewest_85 : decode cX10_fewest 85 = .ok (.iconst 1, 1) := by decide +kernel
theorem dX10_fewest_86 : decode cX10_fewest 86 = .ok (.isub, 1) := by decide +kernel
theorem dX10_fewest_87 : decode cX10_fewest 87 = .ok (.iload 4, 2) := by decide +kernel
theorem dX10_fewest_89 : decode cX10_fewest 89 = .ok (.idiv, 1) := by decide +kernel
theorem dX10_fewest_90 : decode cX10_fewest 90 = .ok (.iconst 1, 1) := by decide +kernel
theorem dX10_fewest_91 : decode cX10_fewest 91 = .ok (.iadd, 1) := by decide +kernel
theorem dX10_fewest_92 : decode cX10_fewest 92 = .ok (.istore 5, 2) := by decide +kernel
theorem dX10_fewest_94 : decode cX10_fewest 94 = .ok (.iload_n 3, 1) := by decide +kernel
theorem dX10_fewest_95 : decode cX10_fewest 95 = .ok (.lookupswitch 31 #[(0, 25), (1, 28)], 25) := by decide +kernel
theorem dX10_fewest_120 : decode cX10_fewest 120 = .ok (.iload 5, 2) := by decide +kernel
theorem dX10_fewest_122 : decode cX10_fewest 122 = .ok (.ireturn, 1) := by decide +kernel
theorem dX10_fewest_123 : decode cX10_fewest 123 = .ok (.iload 4, 2) := by decide +kernel
theorem dX10_fewest_125 : decode cX10_fewest 125 = .ok (.ireturn, 1) := by decide +kernel
theorem dX10_fewest_126 : decode cX10_fewest 126 = .ok (.iload 5, 2) := by decide +kernel
theorem dX10_fewest_128 : decode cX10_fewest 128 = .ok (.iload 4, 2) := by decide +kernel
theorem dX10_fewest_130 : decode cX10_fewest 130 = .ok (.imul, 1) := by decide +kernel
theorem dX10_fewest_131 : decode cX10_fewest 131 = .ok (.ireturn, 1) := by decide +kernel
theorem dX10_lasts_0 : decode cX10_lasts 0 = .ok (.iload_n 1, 1) := by decide +kernel
theorem dX10_lasts_1 : decode cX10_lasts 1 = .ok (.iconst 1, 1) := by decide +kernel
theorem dX10_lasts_2 : decode cX10_lasts 2 = .ok (.if_icmp .lt 12, 3) := by decide +kernel
theorem dX10_lasts_5 : decode cX10_lasts 5 = .ok (.iload_n 1, 1) := by decide +kernel
theorem dX10_lasts_6 : decode cX10_lasts 6 = .ok (.iconst 4, 1) := by decide +kernel
theorem dX10_lasts_7 : decode cX10_lasts 7 = .ok (.if_icmp .gt 7, 3) := by decide +kernel
theorem dX10_lasts_10 : decode cX10_lasts 10 = .ok (.iconst 1, 1) := by decide +kernel
theorem dX10_lasts_11 : decode cX10_lasts 11 = .ok (.goto 4, 3) := by decide +kernel
theorem dX10_lasts_14 : decode cX10_lasts 14 = .ok (.iconst 0, 1) := by decide +kernel
theorem dX10_lasts_15 : decode cX10_lasts 15 = .ok (.invokestatic 76, 3) := by decide +kernel
theorem dX10_lasts_18 : decode cX10_lasts 18 = .ok (.iload_n 2, 1) := by decide +kernel
theorem dX10_lasts_19 : decode cX10_lasts 19 = .ok (.iconst 1, 1) := by decide +kernel
theorem dX10_lasts_20 : decode cX10_lasts 20 = .ok (.if_icmp .lt 13, 3) := by decide +kernel
theorem dX10_lasts_23 : decode cX10_lasts 23 = .ok (.iload_n 2, 1) := by decide +kernel
theorem dX10_lasts_24 : decode cX10_lasts 24 = .ok (.bipush 99, 2) := by decide +kernel
theorem dX10_lasts_26 : decode cX10_lasts 26 = .ok (.if_icmp .gt 7, 3) := by decide +kernel
theorem dX10_lasts_29 : decode cX10_lasts 29 = .ok (.iconst 1, 1) := by decide +kernel
theorem dX10_lasts_30 : decode cX10_lasts 30 = .ok (.goto 4, 3) := by decide +kernel
theorem dX10_lasts_33 : decode cX10_lasts 33 = .ok (.iconst 0, 1) := by decide +kernel
theorem dX10_lasts_34 : decode cX10_lasts 34 = .ok (.invokestatic 76, 3) := by decide +kernel
theorem dX10_lasts_37 : decode cX10_lasts 37 = .ok (.iload_n 3, 1) := by decide +kernel
theorem dX10_lasts_38 : decode cX10_lasts 38 = .ok (.iconst 1, 1) := by decide +kernel
theorem dX10_lasts_39 : decode cX10_lasts 39 = .ok (.if_icmp .lt 15, 3) := by decide +kernel
theorem dX10_lasts_42 : decode cX10_lasts 42 = .ok (.iload_n 3, 1) := by decide +kernel
theorem dX10_lasts_43 : decode cX10_lasts 43 = .ok (.bipush 9, 2) := by decide +kernel
theorem dX10_lasts_45 : decode cX10_lasts 45 = .ok (.iload_n 2, 1) := by decide +kernel
theorem dX10_lasts_46 : decode cX10_lasts 46 = .ok (.imul, 1) := by decide +kernel
theorem dX10_lasts_47 : decode cX10_lasts 47 = .ok (.if_icmp .gt 7, 3) := by decide +kernel
theorem dX10_lasts_50 : decode cX10_lasts 50 = .ok (.iconst 1, 1) := by decide +kernel
theorem dX10_lasts_51 : decode cX10_lasts 51 = .ok (.goto 4, 3) := by decide +kernel
theorem dX10_lasts_54 : decode cX10_lasts 54 = .ok (.iconst 0, 1) := by decide +kernel
theorem dX10_lasts_55 : decode cX10_lasts 55 = .ok (.invokestatic 76, 3) := by decide +kernel
theorem dX10_lasts_58 : decode cX10_lasts 58 = .ok (.iload_n 2, 1) := by decide +kernel
theorem dX10_lasts_59 : decode cX10_lasts 59 = .ok (.ifCond .le 9, 3) := by decide +kernel
theorem dX10_lasts_62 : decode cX10_lasts 62 = .ok (.iload_n 3, 1) := by decide +kernel
theorem dX10_lasts_63 : decode cX10_lasts 63 = .ok (.iload_n 2, 1) := by decide +kernel
theorem dX10_lasts_64 : decode cX10_lasts 64 = .ok (.idiv, 1) := by decide +kernel
theorem dX10_lasts_65 : decode cX10_lasts 65 = .ok (.goto 4, 3) := by decide +kernel
theorem dX10_lasts_68 : decode cX10_lasts 68 = .ok (.iconst 0, 1) := by decide +kernel
theorem dX10_lasts_69 : decode cX10_lasts 69 = .ok (.istore 4, 2) := by decide +kernel
theorem dX10_lasts_71 : decode cX10_lasts 71 = .ok (.iload_n 1, 1) := by decide +kernel
theorem dX10_lasts_72 : decode cX10_lasts 72 = .ok (.iconst 1, 1) := by decide +kernel
theorem dX10_lasts_73 : decode cX10_lasts 73 = .ok (.isub, 1) := by decide +kernel
theorem dX10_lasts_74 : decode cX10_lasts 74 = .ok (.iload 4, 2) := by decide +kernel
theorem dX10_lasts_76 : decode cX10_lasts 76 = .ok (.imul, 1) := by decide +kernel
theorem dX10_lasts_77 : decode cX10_lasts 77 = .ok (.aload_n 0, 1) := by decide +kernel
theorem dX10_lasts_78 : decode cX10_lasts 78 = .ok (.getfield 19, 3) := by decide +kernel
theorem dX10_lasts_81 : decode cX10_lasts 81 = .ok (.getfield 63, 3) := by decide +kernel
theorem dX10_lasts_84 : decode cX10_lasts 84 = .ok (.if_icmp .lt 7, 3) := by decide +kernel
theorem dX10_lasts_87 : decode cX10_lasts 87 = .ok (.iconst (-1), 1) := by decide +kernel
theorem dX10_lasts_88 : decode cX10_lasts 88 = .ok (.goto 7, 3) := by decide +kernel
theorem dX10_lasts_91 : decode cX10_lasts 91 = .ok (.iload_n 1, 1) := by decide +kernel
theorem dX10_lasts_92 : decode cX10_lasts 92 = .ok (.iload 4, 2) := by decide +kernel
theorem dX10_lasts_94 : decode cX10_lasts 94 = .ok (.imul, 1) := by decide +kernel
theorem dX10_lasts_95 : decode cX10_lasts 95 = .ok (.ireturn, 1) := by decide +kernel
theorem dX10_best_0 : decode cX10_best 0 = .ok (.iload_n 1, 1) := by decide +kernel
theorem dX10_best_1 : decode cX10_best 1 = .ok (.iconst 1, 1) := by decide +kernel
theorem dX10_best_2 : decode cX10_best 2 = .ok (.if_icmp .lt 12, 3) := by decide +kernel
theorem dX10_best_5 : decode cX10_best 5 = .ok (.iload_n 1, 1) := by decide +kernel
theorem dX10_best_6 : decode cX10_best 6 = .ok (.iconst 3, 1) := by decide +kernel
theorem dX10_best_7 : decode cX10_best 7 = .ok (.if_icmp .gt 7, 3) := by decide +kernel
theorem dX10_best_10 : decode cX10_best 10 = .ok (.iconst 1, 1) := by decide +kernel
theorem dX10_best_11 : decode cX10_best 11 = .ok (.goto 4, 3) := by decide +kernel
theorem dX10_best_14 : decode cX10_best 14 = .ok (.iconst 0, 1) := by decide +kernel
theorem dX10_best_15 : decode cX10_best 15 = .ok (.invokestatic 76, 3) := by decide +kernel
theorem dX10_best_18 : decode cX10_best 18 = .ok (.iload_n 2, 1) := by decide +kernel
theorem dX10_best_19 : decode cX10_best 19 = .ok (.ifCond .eq 8, 3) := by decide +kernel
theorem dX10_best_22 : decode cX10_best 22 = .ok (.iload_n 2, 1) := by decide +kernel
theorem dX10_best_23 : decode cX10_best 23 = .ok (.iconst 1, 1) := by decide +kernel
theorem dX10_best_24 : decode cX10_best 24 = .ok (.if_icmp .ne 7, 3) := by decide +kernel
theorem dX10_best_27 : decode cX10_best 27 = .ok (.iconst 1, 1) := by decide +kernel
theorem dX10_best_28 : decode cX10_best 28 = .ok (.goto 4, 3) := by decide +kernel
theorem dX10_best_31 : decode cX10_best 31 = .ok (.iconst 0, 1) := by decide +kernel
theorem dX10_best_32 : decode cX10_best 32 = .ok (.invokestatic 76, 3) := by decide +kernel
theorem dX10_best_35 : decode cX10_best 35 = .ok (.aload_n 0, 1) := by decide +kernel
theorem dX10_best_36 : decode cX10_best 36 = .ok (.getfield 19, 3) := by decide +kernel
theorem dX10_best_39 : decode cX10_best 39 = .ok (.getfield 89, 3) := by decide +kernel
theorem dX10_best_42 : decode cX10_best 42 = .ok (.bipush 6, 2) := by decide +kernel
theorem dX10_best_44 : decode cX10_best 44 = .ok (.if_icmp .le 6, 3) := by decide +kernel
theorem dX10_best_47 : decode cX10_best 47 = .ok (.bipush (-2), 2) := by decide +kernel
theorem dX10_best_49 : decode cX10_best 49 = .ok (.ireturn, 1) := by decide +kernel
theorem dX10_best_50 : decode cX10_best 50 = .ok (.aload_n 0, 1) := by decide +kernel
theorem dX10_best_51 : decode cX10_best 51 = .ok (.getfield 48, 3) := by decide +kernel
theorem dX10_best_54 : decode cX10_best 54 = .ok (.aload_n 0, 1) := by decide +kernel
theorem dX10_best_55 : decode cX10_best 55 = .ok (.getfield 41, 3) := by decide +kernel
theorem dX10_best_58 : decode cX10_best 58 = .ok (.aload_n 0, 1) := by decide +kernel
theorem dX10_best_59 : decode cX10_best 59 = .ok (.getfield 19, 3) := by decide +kernel
theorem dX10_best_62 : decode cX10_best 62 = .ok (.aload_n 0, 1) := by decide +kernel
theorem dX10_best_63 : decode cX10_best 63 = .ok (.getfield 26, 3) := by decide +kernel
theorem dX10_best_66 : decode cX10_best 66 = .ok (.iload_n 1, 1) := by decide +kernel
theorem dX10_best_67 : decode cX10_best 67 = .ok (.invokevirtual 261, 3) := by decide +kernel
theorem dX10_best_70 : decode cX10_best 70 = .ok (.iload_n 2, 1) := by decide +kernel
theorem dX10_best_71 : decode cX10_best 71 = .ok (.ifCond .ne 14, 3) := by decide +kernel
theorem dX10_best_74 : decode cX10_best 74 = .ok (.aload_n 0, 1) := by decide +kernel
theorem dX10_best_75 : decode cX10_best 75 = .ok (.getfield 48, 3) := by decide +kernel
theorem dX10_best_78 : decode cX10_best 78 = .ok (.getfield 265, 3) := by decide +kernel
theorem dX10_best_81 : decode cX10_best 81 = .ok (.l2i, 1) := by decide +kernel
theorem dX10_best_82 : decode cX10_best 82 = .ok (.goto 10, 3) := by decide +kernel
theorem dX10_best_85 : decode cX10_best 85 = .ok (.aload_n 0, 1) := by decide +kernel
theorem dX10_best_86 : decode cX10_best 86 = .ok (.getfield 48, 3) := by decide +kernel
theorem dX10_best_89 : decode cX10_best 89 = .ok (.getfield 268, 3) := by decide +kernel
theorem dX10_best_92 : decode cX10_best 92 = .ok (.ireturn, 1) := by decide +kernel
theorem dX10_gap_0 : decode cX10_gap 0 = .ok (.iload_n 1, 1) := by decide +kernel
theorem dX10_gap_1 : decode cX10_gap 1 = .ok (.iconst 1, 1) := by decide +kernel
theorem dX10_gap_2 : decode cX10_gap 2 = .ok (.if_icmp .lt 12, 3) := by decide +kernel
theorem dX10_gap_5 : decode cX10_gap 5 = .ok (.iload_n 1, 1) := by decide +kernel
theorem dX10_gap_6 : decode cX10_gap 6 = .ok (.iconst 3, 1) := by decide +kernel
theorem dX10_gap_7 : decode cX10_gap 7 = .ok (.if_icmp .gt 7, 3) := by decide +kernel
theorem dX10_gap_10 : decode cX10_gap 10 = .ok (.iconst 1, 1) := by decide +kernel
theorem dX10_gap_11 : decode cX10_gap 11 = .ok (.goto 4, 3) := by decide +kernel
theorem dX10_gap_14 : decode cX10_gap 14 = .ok (.iconst 0, 1) := by decide +kernel
theorem dX10_gap_15 : decode cX10_gap 15 = .ok (.invokestatic 76, 3) := by decide +kernel
theorem dX10_gap_18 : decode cX10_gap 18 = .ok (.aload_n 0, 1) := by decide +kernel
theorem dX10_gap_19 : decode cX10_gap 19 = .ok (.getfield 19, 3) := by decide +kernel
theorem dX10_gap_22 : decode cX10_gap 22 = .ok (.getfield 89, 3) := by decide +kernel
theorem dX10_gap_25 : decode cX10_gap 25 = .ok (.bipush 6, 2) := by decide +kernel
theorem dX10_gap_27 : decode cX10_gap 27 = .ok (.if_icmp .le 6, 3) := by decide +kernel
theorem dX10_gap_30 : decode cX10_gap 30 = .ok (.bipush (-2), 2) := by decide +kernel
theorem dX10_gap_32 : decode cX10_gap 32 = .ok (.ireturn, 1) := by decide +kernel
theorem dX10_gap_33 : decode cX10_gap 33 = .ok (.aload_n 0, 1) := by decide +kernel
theorem dX10_gap_34 : decode cX10_gap 34 = .ok (.iload_n 1, 1) := by decide +kernel
theorem dX10_gap_35 : decode cX10_gap 35 = .ok (.invokevirtual 271, 3) := by decide +kernel
theorem dX10_gap_38 : decode cX10_gap 38 = .ok (.lstore_n 2, 1) := by decide +kernel
theorem dX10_gap_39 : decode cX10_gap 39 = .ok (.aload_n 0, 1) := by decide +kernel
theorem dX10_gap_40 : decode cX10_gap 40 = .ok (.getfield 48, 3) := by decide +kernel
theorem dX10_gap_43 : decode cX10_gap 43 = .ok (.aload_n 0, 1) := by decide +kernel
theorem dX10_gap_44 : decode cX10_gap 44 = .ok (.getfield 41, 3) := by decide +kernel
theorem dX10_gap_47 : decode cX10_gap 47 = .ok (.aload_n 0, 1) := by decide +kernel
theorem dX10_gap_48 : decode cX10_gap 48 = .ok (.getfield 19, 3) := by decide +kernel
theorem dX10_gap_51 : decode cX10_gap 51 = .ok (.aload_n 0, 1) := by decide +kernel
theorem dX10_gap_52 : decode cX10_gap 52 = .ok (.getfield 26, 3) := by decide +kernel
theorem dX10_gap_55 : decode cX10_gap 55 = .ok (.iload_n 1, 1) := by decide +kernel
theorem dX10_gap_56 : decode cX10_gap 56 = .ok (.invokevirtual 261, 3) := by decide +kernel
theorem dX10_gap_59 : decode cX10_gap 59 = .ok (.lload_n 2, 1) := by decide +kernel
theorem dX10_gap_60 : decode cX10_gap 60 = .ok (.aload_n 0, 1) := by decide +kernel
theorem dX10_gap_61 : decode cX10_gap 61 = .ok (.getfield 48, 3) := by decide +kernel
theorem dX10_gap_64 : decode cX10_gap 64 = .ok (.getfield 265, 3) := by decide +kernel
theorem dX10_gap_67 : decode cX10_gap 67 = .ok (.lsub, 1) := by decide +kernel
theorem dX10_gap_68 : decode cX10_gap 68 = .ok (.l2i, 1) := by decide +kernel
theorem dX10_gap_69 : decode cX10_gap 69 = .ok (.ireturn, 1) := by decide +kernel
theorem dX10_openCost_0 : decode cX10_openCost 0 = .ok (.aload_n 0, 1) := by decide +kernel
theorem dX10_openCost_1 : decode cX10_openCost 1 = .ok (.getfield 41, 3) := by decide +kernel
theorem dX10_openCost_4 : decode cX10_openCost 4 = .ok (.aload_n 0, 1) := by decide +kernel
theorem dX10_openCost_5 : decode cX10_openCost 5 = .ok (.getfield 19, 3) := by decide +kernel
theorem dX10_openCost_8 : decode cX10_openCost 8 = .ok (.aload_n 0, 1) := by decide +kernel
theorem dX10_openCost_9 : decode cX10_openCost 9 = .ok (.getfield 26, 3) := by decide +kernel
theorem dX10_openCost_12 : decode cX10_openCost 12 = .ok (.invokevirtual 155, 3) := by decide +kernel
theorem dX10_openCost_15 : decode cX10_openCost 15 = .ok (.aload_n 0, 1) := by decide +kernel
theorem dX10_openCost_16 : decode cX10_openCost 16 = .ok (.getfield 41, 3) := by decide +kernel
theorem dX10_openCost_19 : decode cX10_openCost 19 = .ok (.iconst 0, 1) := by decide +kernel
theorem dX10_openCost_20 : decode cX10_openCost 20 = .ok (.iload_n 1, 1) := by decide +kernel
theorem dX10_openCost_21 : decode cX10_openCost 21 = .ok (.invokevirtual 198, 3) := by decide +kernel
theorem dX10_openCost_24 : decode cX10_openCost 24 = .ok (.lreturn, 1) := by decide +kernel
theorem dX10_toll_0 : decode cX10_toll 0 = .ok (.iload_n 1, 1) := by decide +kernel
theorem dX10_toll_1 : decode cX10_toll 1 = .ok (.ifCond .lt 13, 3) := by decide +kernel
theorem dX10_toll_4 : decode cX10_toll 4 = .ok (.iload_n 1, 1) := by decide +kernel
theorem dX10_toll_5 : decode cX10_toll 5 = .ok (.bipush 20, 2) := by decide +kernel
theorem dX10_toll_7 : decode cX10_toll 7 = .ok (.if_icmp .gt 7, 3) := by decide +kernel
theorem dX10_toll_10 : decode cX10_toll 10 = .ok (.iconst 1, 1) := by decide +kernel
theorem dX10_toll_11 : decode cX10_toll 11 = .ok (.goto 4, 3) := by decide +kernel
theorem dX10_toll_14 : decode cX10_toll 14 = .ok (.iconst 0, 1) := by decide +kernel
theorem dX10_toll_15 : decode cX10_toll 15 = .ok (.invokestatic 76, 3) := by decide +kernel
theorem dX10_toll_18 : decode cX10_toll 18 = .ok (.iload_n 2, 1) := by decide +kernel
theorem dX10_toll_19 : decode cX10_toll 19 = .ok (.invokestatic 192, 3) := by decide +kernel
theorem dX10_toll_22 : decode cX10_toll 22 = .ok (.iload_n 3, 1) := by decide +kernel
theorem dX10_toll_23 : decode cX10_toll 23 = .ok (.ifCond .eq 8, 3) := by decide +kernel
theorem dX10_toll_26 : decode cX10_toll 26 = .ok (.iload_n 3, 1) := by decide +kernel
theorem dX10_toll_27 : decode cX10_toll 27 = .ok (.iconst 1, 1) := by decide +kernel
theorem dX10_toll_28 : decode cX10_toll 28 = .ok (.if_icmp .ne 7, 3) := by decide +kernel
theorem dX10_toll_31 : decode cX10_toll 31 = .ok (.iconst 1, 1) := by decide +kernel
theorem dX10_toll_32 : decode cX10_toll 32 = .ok (.goto 4, 3) := by decide +kernel
theorem dX10_toll_35 : decode cX10_toll 35 = .ok (.iconst 0, 1) := by decide +kernel
theorem dX10_toll_36 : decode cX10_toll 36 = .ok (.invokestatic 76, 3) := by decide +kernel
theorem dX10_toll_39 : decode cX10_toll 39 = .ok (.aload_n 0, 1) := by decide +kernel
theorem dX10_toll_40 : decode cX10_toll 40 = .ok (.iload_n 1, 1) := by decide +kernel
theorem dX10_toll_41 : decode cX10_toll 41 = .ok (.iload_n 2, 1) := by decide +kernel
theorem dX10_toll_42 : decode cX10_toll 42 = .ok (.invokevirtual 275, 3) := by decide +kernel
theorem dX10_toll_45 : decode cX10_toll 45 = .ok (.lstore 4, 2) := by decide +kernel
theorem dX10_toll_47 : decode cX10_toll 47 = .ok (.iload_n 3, 1) := by decide +kernel
theorem dX10_toll_48 : decode cX10_toll 48 = .ok (.ifCond .ne 8, 3) := by decide +kernel
theorem dX10_toll_51 : decode cX10_toll 51 = .ok (.lload 4, 2) := by decide +kernel
theorem dX10_toll_53 : decode cX10_toll 53 = .ok (.goto 13, 3) := by decide +kernel
theorem dX10_toll_56 : decode cX10_toll 56 = .ok (.aload_n 0, 1) := by decide +kernel
theorem dX10_toll_57 : decode cX10_toll 57 = .ok (.getfield 41, 3) := by decide +kernel
theorem dX10_toll_60 : decode cX10_toll 60 = .ok (.getfield 179, 3) := by decide +kernel
theorem dX10_toll_63 : decode cX10_toll 63 = .ok (.getfield 278, 3) := by decide +kernel
theorem dX10_toll_66 : decode cX10_toll 66 = .ok (.lreturn, 1) := by decide +kernel
theorem dX10_tollCost_0 : decode cX10_tollCost 0 = .ok (.aload_n 0, 1) := by decide +kernel
theorem dX10_tollCost_1 : decode cX10_tollCost 1 = .ok (.getfield 41, 3) := by decide +kernel
theorem dX10_tollCost_4 : decode cX10_tollCost 4 = .ok (.aload_n 0, 1) := by decide +kernel
theorem dX10_tollCost_5 : decode cX10_tollCost 5 = .ok (.getfield 19, 3) := by decide +kernel
theorem dX10_tollCost_8 : decode cX10_tollCost 8 = .ok (.aload_n 0, 1) := by decide +kernel
theorem dX10_tollCost_9 : decode cX10_tollCost 9 = .ok (.getfield 26, 3) := by decide +kernel
theorem dX10_tollCost_12 : decode cX10_tollCost 12 = .ok (.invokevirtual 155, 3) := by decide +kernel
theorem dX10_tollCost_15 : decode cX10_tollCost 15 = .ok (.aload_n 0, 1) := by decide +kernel
theorem dX10_tollCost_16 : decode cX10_tollCost 16 = .ok (.getfield 41, 3) := by decide +kernel
theorem dX10_tollCost_19 : decode cX10_tollCost 19 = .ok (.getfield 234, 3) := by decide +kernel
theorem dX10_tollCost_22 : decode cX10_tollCost 22 = .ok (.iload_n 1, 1) := by decide +kernel
theorem dX10_tollCost_23 : decode cX10_tollCost 23 = .ok (.putfield 281, 3) := by decide +kernel
theorem dX10_tollCost_26 : decode cX10_tollCost 26 = .ok (.aload_n 0, 1) := by decide +kernel
theorem dX10_tollCost_27 : decode cX10_tollCost 27 = .ok (.getfield 41, 3) := by decide +kernel
theorem dX10_tollCost_30 : decode cX10_tollCost 30 = .ok (.iconst 0, 1) := by decide +kernel
theorem dX10_tollCost_31 : decode cX10_tollCost 31 = .ok (.iload_n 2, 1) := by decide +kernel
theorem dX10_tollCost_32 : decode cX10_tollCost 32 = .ok (.invokevirtual 198, 3) := by decide +kernel
theorem dX10_tollCost_35 : decode cX10_tollCost 35 = .ok (.lreturn, 1) := by decide +kernel
theorem dX10_keep_0 : decode cX10_keep 0 = .ok (.iload_n 1, 1) := by decide +kernel
theorem dX10_keep_1 : decode cX10_keep 1 = .ok (.invokestatic 192, 3) := by decide +kernel
theorem dX10_keep_4 : decode cX10_keep 4 = .ok (.iconst 0, 1) := by decide +kernel
theorem dX10_keep_5 : decode cX10_keep 5 = .ok (.istore_n 2, 1) := by decide +kernel
theorem dX10_keep_6 : decode cX10_keep 6 = .ok (.aload_n 0, 1) := by decide +kernel
theorem dX10_keep_7 : decode cX10_keep 7 = .ok (.iconst 0, 1) := by decide +kernel
theorem dX10_keep_8 : decode cX10_keep 8 = .ok (.iload_n 1, 1) := by decide +kernel
theorem dX10_keep_9 : decode cX10_keep 9 = .ok (.invokevirtual 275, 3) := by decide +kernel
theorem dX10_keep_12 : decode cX10_keep 12 = .ok (.lstore_n 3, 1) := by decide +kernel
theorem dX10_keep_13 : decode cX10_keep 13 = .ok (.iconst 1, 1) := by decide +kernel
theorem dX10_keep_14 : decode cX10_keep 14 = .ok (.istore 5, 2) := by decide +kernel
theorem dX10_keep_16 : decode cX10_keep 16 = .ok (.iload 5, 2) := by decide +kernel
theorem dX10_keep_18 : decode cX10_keep 18 = .ok (.bipush 20, 2) := by decide +kernel
theorem dX10_keep_20 : decode cX10_keep 20 = .ok (.if_icmp .gt 31, 3) := by decide +kernel
theorem dX10_keep_23 : decode cX10_keep 23 = .ok (.aload_n 0, 1) := by decide +kernel
theorem dX10_keep_24 : decode cX10_keep 24 = .ok (.iload 5, 2) := by decide +kernel
theorem dX10_keep_26 : decode cX10_keep 26 = .ok (.iload_n 1, 1) := by decide +kernel
theorem dX10_keep_27 : decode cX10_keep 27 = .ok (.invokevirtual 275, 3) := by decide +kernel
theorem dX10_keep_30 : decode cX10_keep 30 = .ok (.lstore 6, 2) := by decide +kernel
theorem dX10_keep_32 : decode cX10_keep 32 = .ok (.lload 6, 2) := by decide +kernel
theorem dX10_keep_34 : decode cX10_keep 34 = .ok (.lload_n 3, 1) := by decide +kernel
theorem dX10_keep_35 : decode cX10_keep 35 = .ok (.lcmp, 1) := by decide +kernel
theorem dX10_keep_36 : decode cX10_keep 36 = .ok (.ifCond .ge 9, 3) := by decide +kernel
theorem dX10_keep_39 : decode cX10_keep 39 = .ok (.lload 6, 2) := by decide +kernel
theorem dX10_keep_41 : decode cX10_keep 41 = .ok (.lstore_n 3, 1) := by decide +kernel
theorem dX10_keep_42 : decode cX10_keep 42 = .ok (.iload 5, 2) := by decide +kernel
theorem dX10_keep_44 : decode cX10_keep 44 = .ok (.istore_n 2, 1) := by decide +kernel
theorem dX10_keep_45 : decode cX10_keep 45 = .ok (.iinc 5 1, 3) := by decide +kernel
theorem dX10_keep_48 : decode cX10_keep 48 = .ok (.goto (-32), 3) := by decide +kernel
theorem dX10_keep_51 : decode cX10_keep 51 = .ok (.iload_n 2, 1) := by decide +kernel
theorem dX10_keep_52 : decode cX10_keep 52 = .ok (.ireturn, 1) := by decide +kernel
theorem dX10_careless_0 : decode cX10_careless 0 = .ok (.aload_n 0, 1) := by decide +kernel
theorem dX10_careless_1 : decode cX10_careless 1 = .ok (.iload_n 1, 1) := by decide +kernel
theorem dX10_careless_2 : decode cX10_careless 2 = .ok (.invokevirtual 127, 3) := by decide +kernel
theorem dX10_careless_5 : decode cX10_careless 5 = .ok (.iload_n 2, 1) := by decide +kernel
theorem dX10_careless_6 : decode cX10_careless 6 = .ok (.invokestatic 192, 3) := by decide +kernel
theorem dX10_careless_9 : decode cX10_careless 9 = .ok (.aload_n 0, 1) := by decide +kernel
theorem dX10_careless_10 : decode cX10_careless 10 = .ok (.invokevirtual 231, 3) := by decide +kernel
theorem dX10_careless_13 : decode cX10_careless 13 = .ok (.aload_n 0, 1) := by decide +kernel
theorem dX10_careless_14 : decode cX10_careless 14 = .ok (.iload_n 1, 1) := by decide +kernel
theorem dX10_careless_15 : decode cX10_careless 15 = .ok (.iconst 1, 1) := by decide +kernel
theorem dX10_careless_16 : decode cX10_careless 16 = .ok (.iload_n 2, 1) := by decide +kernel
theorem dX10_careless_17 : decode cX10_careless 17 = .ok (.iconst 0, 1) := by decide +kernel
theorem dX10_careless_18 : decode cX10_careless 18 = .ok (.invokevirtual 284, 3) := by decide +kernel
theorem dX10_careless_21 : decode cX10_careless 21 = .ok (.lstore_n 3, 1) := by decide +kernel
theorem dX10_careless_22 : decode cX10_careless 22 = .ok (.aload_n 0, 1) := by decide +kernel
theorem dX10_careless_23 : decode cX10_careless 23 = .ok (.iload_n 1, 1) := by decide +kernel
theorem dX10_careless_24 : decode cX10_careless 24 = .ok (.iconst 1, 1) := by decide +kernel
theorem dX10_careless_25 : decode cX10_careless 25 = .ok (.iload_n 2, 1) := by decide +kernel
theorem dX10_careless_26 : decode cX10_careless 26 = .ok (.iconst 1, 1) := by decide +kernel
theorem dX10_careless_27 : decode cX10_careless 27 = .ok (.invokevirtual 284, 3) := by decide +kernel
theorem dX10_careless_30 : decode cX10_careless 30 = .ok (.lload_n 3, 1) := by decide +kernel
theorem dX10_careless_31 : decode cX10_careless 31 = .ok (.lsub, 1) := by decide +kernel
theorem dX10_careless_32 : decode cX10_careless 32 = .ok (.lreturn, 1) := by decide +kernel
theorem dX10_othersCost_0 : decode cX10_othersCost 0 = .ok (.aload_n 0, 1) := by decide +kernel
theorem dX10_othersCost_1 : decode cX10_othersCost 1 = .ok (.getfield 41, 3) := by decide +kernel
theorem dX10_othersCost_4 : decode cX10_othersCost 4 = .ok (.aload_n 0, 1) := by decide +kernel
theorem dX10_othersCost_5 : decode cX10_othersCost 5 = .ok (.getfield 19, 3) := by decide +kernel
theorem dX10_othersCost_8 : decode cX10_othersCost 8 = .ok (.aload_n 0, 1) := by decide +kernel
theorem dX10_othersCost_9 : decode cX10_othersCost 9 = .ok (.getfield 26, 3) := by decide +kernel
theorem dX10_othersCost_12 : decode cX10_othersCost 12 = .ok (.invokevirtual 155, 3) := by decide +kernel
theorem dX10_othersCost_15 : decode cX10_othersCost 15 = .ok (.aload_n 0, 1) := by decide +kernel
theorem dX10_othersCost_16 : decode cX10_othersCost 16 = .ok (.getfield 41, 3) := by decide +kernel
theorem dX10_othersCost_19 : decode cX10_othersCost 19 = .ok (.getfield 234, 3) := by decide +kernel
theorem dX10_othersCost_22 : decode cX10_othersCost 22 = .ok (.iload_n 1, 1) := by decide +kernel
theorem dX10_othersCost_23 : decode cX10_othersCost 23 = .ok (.putfield 288, 3) := by decide +kernel
theorem dX10_othersCost_26 : decode cX10_othersCost 26 = .ok (.aload_n 0, 1) := by decide +kernel
theorem dX10_othersCost_27 : decode cX10_othersCost 27 = .ok (.getfield 41, 3) := by decide +kernel
theorem dX10_othersCost_30 : decode cX10_othersCost 30 = .ok (.getfield 234, 3) := by decide +kernel
theorem dX10_othersCost_33 : decode cX10_othersCost 33 = .ok (.iload 4, 2) := by decide +kernel
theorem dX10_othersCost_35 : decode cX10_othersCost 35 = .ok (.putfield 291, 3) := by decide +kernel
theorem dX10_othersCost_38 : decode cX10_othersCost 38 = .ok (.aload_n 0, 1) := by decide +kernel
theorem dX10_othersCost_39 : decode cX10_othersCost 39 = .ok (.getfield 41, 3) := by decide +kernel
theorem dX10_othersCost_42 : decode cX10_othersCost 42 = .ok (.iload_n 2, 1) := by decide +kernel
theorem dX10_othersCost_43 : decode cX10_othersCost 43 = .ok (.iload_n 3, 1) := by decide +kernel
theorem dX10_othersCost_44 : decode cX10_othersCost 44 = .ok (.invokevirtual 198, 3) := by decide +kernel
theorem dX10_othersCost_47 : decode cX10_othersCost 47 = .ok (.aload_n 0, 1) := by decide +kernel
theorem dX10_othersCost_48 : decode cX10_othersCost 48 = .ok (.getfield 41, 3) := by decide +kernel
theorem dX10_othersCost_51 : decode cX10_othersCost 51 = .ok (.getfield 179, 3) := by decide +kernel
theorem dX10_othersCost_54 : decode cX10_othersCost 54 = .ok (.getfield 294, 3) := by decide +kernel
theorem dX10_othersCost_57 : decode cX10_othersCost 57 = .ok (.lsub, 1) := by decide +kernel
theorem dX10_othersCost_58 : decode cX10_othersCost 58 = .ok (.lreturn, 1) := by decide +kernel
theorem dX10_each_0 : decode cX10_each 0 = .ok (.aload_n 0, 1) := by decide +kernel
theorem dX10_each_1 : decode cX10_each 1 = .ok (.iload_n 1, 1) := by decide +kernel
theorem dX10_each_2 : decode cX10_each 2 = .ok (.invokevirtual 127, 3) := by decide +kernel
theorem dX10_each_5 : decode cX10_each 5 = .ok (.iload_n 2, 1) := by decide +kernel
theorem dX10_each_6 : decode cX10_each 6 = .ok (.invokestatic 192, 3) := by decide +kernel
theorem dX10_each_9 : decode cX10_each 9 = .ok (.aload_n 0, 1) := by decide +kernel
theorem dX10_each_10 : decode cX10_each 10 = .ok (.iload_n 1, 1) := by decide +kernel
theorem dX10_each_11 : decode cX10_each 11 = .ok (.iconst 0, 1) := by decide +kernel
theorem dX10_each_12 : decode cX10_each 12 = .ok (.iload_n 2, 1) := by decide +kernel
theorem dX10_each_13 : decode cX10_each 13 = .ok (.iconst 0, 1) := by decide +kernel
theorem dX10_each_14 : decode cX10_each 14 = .ok (.invokevirtual 284, 3) := by decide +kernel
theorem dX10_each_17 : decode cX10_each 17 = .ok (.lstore_n 3, 1) := by decide +kernel
theorem dX10_each_18 : decode cX10_each 18 = .ok (.aload_n 0, 1) := by decide +kernel
theorem dX10_each_19 : decode cX10_each 19 = .ok (.getfield 41, 3) := by decide +kernel
theorem dX10_each_22 : decode cX10_each 22 = .ok (.aload_n 0, 1) := by decide +kernel
theorem dX10_each_23 : decode cX10_each 23 = .ok (.getfield 19, 3) := by decide +kernel
theorem dX10_each_26 : decode cX10_each 26 = .ok (.aload_n 0, 1) := by decide +kernel
theorem dX10_each_27 : decode cX10_each 27 = .ok (.getfield 26, 3) := by decide +kernel
theorem dX10_each_30 : decode cX10_each 30 = .ok (.invokevirtual 155, 3) := by decide +kernel
theorem dX10_each_33 : decode cX10_each 33 = .ok (.aload_n 0, 1) := by decide +kernel
theorem dX10_each_34 : decode cX10_each 34 = .ok (.getfield 41, 3) := by decide +kernel
theorem dX10_each_37 : decode cX10_each 37 = .ok (.getfield 234, 3) := by decide +kernel
theorem dX10_each_40 : decode cX10_each 40 = .ok (.iload_n 1, 1) := by decide +kernel
theorem dX10_each_41 : decode cX10_each 41 = .ok (.putfield 288, 3) := by decide +kernel
theorem dX10_each_44 : decode cX10_each 44 = .ok (.aload_n 0, 1) := by decide +kernel
theorem dX10_each_45 : decode cX10_each 45 = .ok (.getfield 41, 3) := by decide +kernel
theorem dX10_each_48 : decode cX10_each 48 = .ok (.getfield 234, 3) := by decide +kernel
theorem dX10_each_51 : decode cX10_each 51 = .ok (.iconst 1, 1) := by decide +kernel
theorem dX10_each_52 : decode cX10_each 52 = .ok (.putfield 297, 3) := by decide +kernel
theorem dX10_each_55 : decode cX10_each 55 = .ok (.lload_n 3, 1) := by decide +kernel
theorem dX10_each_56 : decode cX10_each 56 = .ok (.aload_n 0, 1) := by decide +kernel
theorem dX10_each_57 : decode cX10_each 57 = .ok (.getfield 41, 3) := by decide +kernel
theorem dX10_each_60 : decode cX10_each 60 = .ok (.iconst 0, 1) := by decide +kernel
theorem dX10_each_61 : decode cX10_each 61 = .ok (.iload_n 2, 1) := by decide +kernel
theorem dX10_each_62 : decode cX10_each 62 = .ok (.invokevirtual 198, 3) := by decide +kernel
theorem dX10_each_65 : decode cX10_each 65 = .ok (.lsub, 1) := by decide +kernel
theorem dX10_each_66 : decode cX10_each 66 = .ok (.lreturn, 1) := by decide +kernel
theorem dX10_hold_0 : decode cX10_hold 0 = .ok (.aload_n 0, 1) := by decide +kernel
theorem dX10_hold_1 : decode cX10_hold 1 = .ok (.iload_n 1, 1) := by decide +kernel
theorem dX10_hold_2 : decode cX10_hold 2 = .ok (.invokevirtual 127, 3) := by decide +kernel
theorem dX10_hold_5 : decode cX10_hold 5 = .ok (.iload_n 2, 1) := by decide +kernel
theorem dX10_hold_6 : decode cX10_hold 6 = .ok (.iconst 1, 1) := by decide +kernel
theorem dX10_hold_7 : decode cX10_hold 7 = .ok (.if_icmp .lt 22, 3) := by decide +kernel
theorem dX10_hold_10 : decode cX10_hold 10 = .ok (.iload_n 2, 1) := by decide +kernel
theorem dX10_hold_11 : decode cX10_hold 11 = .ok (.aload_n 0, 1) := by decide +kernel
theorem dX10_hold_12 : decode cX10_hold 12 = .ok (.getfield 19, 3) := by decide +kernel
theorem dX10_hold_15 : decode cX10_hold 15 = .ok (.getfield 130, 3) := by decide +kernel
theorem dX10_hold_18 : decode cX10_hold 18 = .ok (.iload_n 1, 1) := by decide +kernel
theorem dX10_hold_19 : decode cX10_hold 19 = .ok (.aaload, 1) := by decide +kernel
theorem dX10_hold_20 : decode cX10_hold 20 = .ok (.iconst 5, 1) := by decide +kernel
theorem dX10_hold_21 : decode cX10_hold 21 = .ok (.iaload, 1) := by decide +kernel
theorem dX10_hold_22 : decode cX10_hold 22 = .ok (.if_icmp .gt 7, 3) := by decide +kernel
theorem dX10_hold_25 : decode cX10_hold 25 = .ok (.iconst 1, 1) := by decide +kernel
theorem dX10_hold_26 : decode cX10_hold 26 = .ok (.goto 4, 3) := by decide +kernel
theorem dX10_hold_29 : decode cX10_hold 29 = .ok (.iconst 0, 1) := by decide +kernel
theorem dX10_hold_30 : decode cX10_hold 30 = .ok (.invokestatic 76, 3) := by decide +kernel
theorem dX10_hold_33 : decode cX10_hold 33 = .ok (.iload_n 3, 1) := by decide +kernel
theorem dX10_hold_34 : decode cX10_hold 34 = .ok (.invokestatic 192, 3) := by decide +kernel
theorem dX10_hold_37 : decode cX10_hold 37 = .ok (.aload_n 0, 1) := by decide +kernel
theorem dX10_hold_38 : decode cX10_hold 38 = .ok (.iload_n 3, 1) := by decide +kernel
theorem dX10_hold_39 : decode cX10_hold 39 = .ok (.invokevirtual 271, 3) := by decide +kernel
theorem dX10_hold_42 : decode cX10_hold 42 = .ok (.aload_n 0, 1) := by decide +kernel
theorem dX10_hold_43 : decode cX10_hold 43 = .ok (.iload_n 1, 1) := by decide +kernel
theorem dX10_hold_44 : decode cX10_hold 44 = .ok (.iload_n 2, 1) := by decide +kernel
theorem dX10_hold_45 : decode cX10_hold 45 = .ok (.iload_n 3, 1) := by decide +kernel
theorem dX10_hold_46 : decode cX10_hold 46 = .ok (.invokevirtual 300, 3) := by decide +kernel
theorem dX10_hold_49 : decode cX10_hold 49 = .ok (.lsub, 1) := by decide +kernel
theorem dX10_hold_50 : decode cX10_hold 50 = .ok (.lreturn, 1) := by decide +kernel
theorem dX10_heldCost_0 : decode cX10_heldCost 0 = .ok (.aload_n 0, 1) := by decide +kernel
theorem dX10_heldCost_1 : decode cX10_heldCost 1 = .ok (.getfield 41, 3) := by decide +kernel
theorem dX10_heldCost_4 : decode cX10_heldCost 4 = .ok (.aload_n 0, 1) := by decide +kernel
theorem dX10_heldCost_5 : decode cX10_heldCost 5 = .ok (.getfield 19, 3) := by decide +kernel
theorem dX10_heldCost_8 : decode cX10_heldCost 8 = .ok (.aload_n 0, 1) := by decide +kernel
theorem dX10_heldCost_9 : decode cX10_heldCost 9 = .ok (.getfield 26, 3) := by decide +kernel
theorem dX10_heldCost_12 : decode cX10_heldCost 12 = .ok (.invokevirtual 155, 3) := by decide +kernel
theorem dX10_heldCost_15 : decode cX10_heldCost 15 = .ok (.aload_n 0, 1) := by decide +kernel
theorem dX10_heldCost_16 : decode cX10_heldCost 16 = .ok (.getfield 41, 3) := by decide +kernel
theorem dX10_heldCost_19 : decode cX10_heldCost 19 = .ok (.getfield 234, 3) := by decide +kernel
theorem dX10_heldCost_22 : decode cX10_heldCost 22 = .ok (.iload_n 1, 1) := by decide +kernel
theorem dX10_heldCost_23 : decode cX10_heldCost 23 = .ok (.putfield 288, 3) := by decide +kernel
theorem dX10_heldCost_26 : decode cX10_heldCost 26 = .ok (.aload_n 0, 1) := by decide +kernel
theorem dX10_heldCost_27 : decode cX10_heldCost 27 = .ok (.getfield 41, 3) := by decide +kernel
theorem dX10_heldCost_30 : decode cX10_heldCost 30 = .ok (.getfield 234, 3) := by decide +kernel
theorem dX10_heldCost_33 : decode cX10_heldCost 33 = .ok (.iload_n 2, 1) := by decide +kernel
theorem dX10_heldCost_34 : decode cX10_heldCost 34 = .ok (.putfield 304, 3) := by decide +kernel
theorem dX10_heldCost_37 : decode cX10_heldCost 37 = .ok (.aload_n 0, 1) := by decide +kernel
theorem dX10_heldCost_38 : decode cX10_heldCost 38 = .ok (.getfield 41, 3) := by decide +kernel
theorem dX10_heldCost_41 : decode cX10_heldCost 41 = .ok (.iconst 0, 1) := by decide +kernel
theorem dX10_heldCost_42 : decode cX10_heldCost 42 = .ok (.iload_n 3, 1) := by decide +kernel
theorem dX10_heldCost_43 : decode cX10_heldCost 43 = .ok (.invokevirtual 198, 3) := by decide +kernel
theorem dX10_heldCost_46 : decode cX10_heldCost 46 = .ok (.lreturn, 1) := by decide +kernel
theorem dX10_who_0 : decode cX10_who 0 = .ok (.iload_n 1, 1) := by decide +kernel
theorem dX10_who_1 : decode cX10_who 1 = .ok (.invokestatic 192, 3) := by decide +kernel
theorem dX10_who_4 : decode cX10_who 4 = .ok (.aload_n 0, 1) := by decide +kernel
theorem dX10_who_5 : decode cX10_who 5 = .ok (.iload_n 1, 1) := by decide +kernel
theorem dX10_who_6 : decode cX10_who 6 = .ok (.invokevirtual 271, 3) := by decide +kernel
theorem dX10_who_9 : decode cX10_who 9 = .ok (.lstore_n 2, 1) := by decide +kernel
theorem dX10_who_10 : decode cX10_who 10 = .ok (.iconst (-1), 1) := by decide +kernel
theorem dX10_who_11 : decode cX10_who 11 = .ok (.istore 4, 2) := by decide +kernel
theorem dX10_who_13 : decode cX10_who 13 = .ok (.iconst 0, 1) := by decide +kernel
theorem dX10_who_14 : decode cX10_who 14 = .ok (.istore 5, 2) := by decide +kernel
theorem dX10_who_16 : decode cX10_who 16 = .ok (.iload 5, 2) := by decide +kernel
theorem dX10_who_18 : decode cX10_who 18 = .ok (.aload_n 0, 1) := by decide +kernel
theorem dX10_who_19 : decode cX10_who 19 = .ok (.getfield 19, 3) := by decide +kernel
theorem dX10_who_22 : decode cX10_who 22 = .ok (.getfield 101, 3) := by decide +kernel
theorem dX10_who_25 : decode cX10_who 25 = .ok (.if_icmp .ge 70, 3) := by decide +kernel
theorem dX10_who_28 : decode cX10_who 28 = .ok (.aload_n 0, 1) := by decide +kernel
theorem dX10_who_29 : decode cX10_who 29 = .ok (.getfield 19, 3) := by decide +kernel
theorem dX10_who_32 : decode cX10_who 32 = .ok (.getfield 130, 3) := by decide +kernel
theorem dX10_who_35 : decode cX10_who 35 = .ok (.iload 5, 2) := by decide +kernel
theorem dX10_who_37 : decode cX10_who 37 = .ok (.aaload, 1) := by decide +kernel
theorem dX10_who_38 : decode cX10_who 38 = .ok (.iconst 5, 1) := by decide +kernel
theorem dX10_who_39 : decode cX10_who 39 = .ok (.iaload, 1) := by decide +kernel
theorem dX10_who_40 : decode cX10_who 40 = .ok (.istore 6, 2) := by decide +kernel
theorem dX10_who_42 : decode cX10_who 42 = .ok (.iconst 1, 1) := by decide +kernel
theorem dX10_who_43 : decode cX10_who 43 = .ok (.istore 7, 2) := by decide +kernel
theorem dX10_who_45 : decode cX10_who 45 = .ok (.iload 7, 2) := by decide +kernel
theorem dX10_who_47 : decode cX10_who 47 = .ok (.iload 6, 2) := by decide +kernel
theorem dX10_who_49 : decode cX10_who 49 = .ok (.if_icmp .gt 40, 3) := by decide +kernel
theorem dX10_who_52 : decode cX10_who 52 = .ok (.aload_n 0, 1) := by decide +kernel
theorem dX10_who_53 : decode cX10_who 53 = .ok (.iload 5, 2) := by decide +kernel
theorem dX10_who_55 : decode cX10_who 55 = .ok (.iload 7, 2) := by decide +kernel
theorem dX10_who_57 : decode cX10_who 57 = .ok (.iload_n 1, 1) := by decide +kernel
theorem dX10_who_58 : decode cX10_who 58 = .ok (.invokevirtual 300, 3) := by decide +kernel
theorem dX10_who_61 : decode cX10_who 61 = .ok (.lstore 8, 2) := by decide +kernel
theorem dX10_who_63 : decode cX10_who 63 = .ok (.lload 8, 2) := by decide +kernel
theorem dX10_who_65 : decode cX10_who 65 = .ok (.lload_n 2, 1) := by decide +kernel
theorem dX10_who_66 : decode cX10_who 66 = .ok (.lcmp, 1) := by decide +kernel
theorem dX10_who_67 : decode cX10_who 67 = .ok (.ifCond .ge 16, 3) := by decide +kernel
theorem dX10_who_70 : decode cX10_who 70 = .ok (.lload 8, 2) := by decide +kernel
theorem dX10_who_72 : decode cX10_who 72 = .ok (.lstore_n 2, 1) := by decide +kernel
theorem dX10_who_73 : decode cX10_who 73 = .ok (.bipush 10, 2) := by decide +kernel
theorem dX10_who_75 : decode cX10_who 75 = .ok (.iload 5, 2) := by decide +kernel
theorem dX10_who_77 : decode cX10_who 77 = .ok (.imul, 1) := by decide +kernel
theorem dX10_who_78 : decode cX10_who 78 = .ok (.iload 7, 2) := by decide +kernel
theorem dX10_who_80 : decode cX10_who 80 = .ok (.iadd, 1) := by decide +kernel
theorem dX10_who_81 : decode cX10_who 81 = .ok (.istore 4, 2) := by decide +kernel
theorem dX10_who_83 : decode cX10_who 83 = .ok (.iinc 7 1, 3) := by decide +kernel
theorem dX10_who_86 : decode cX10_who 86 = .ok (.goto (-41), 3) := by decide +kernel
theorem dX10_who_89 : decode cX10_who 89 = .ok (.iinc 5 1, 3) := by decide +kernel
theorem dX10_who_92 : decode cX10_who 92 = .ok (.goto (-76), 3) := by decide +kernel
theorem dX10_who_95 : decode cX10_who 95 = .ok (.iload 4, 2) := by decide +kernel
theorem dX10_who_97 : decode cX10_who 97 = .ok (.ireturn, 1) := by decide +kernel
theorem dX10_more_0 : decode cX10_more 0 = .ok (.iload_n 1, 1) := by decide +kernel
theorem dX10_more_1 : decode cX10_more 1 = .ok (.ifCond .lt 18, 3) := by decide +kernel
theorem dX10_more_4 : decode cX10_more 4 = .ok (.iload_n 1, 1) := by decide +kernel
theorem dX10_more_5 : decode cX10_more 5 = .ok (.aload_n 0, 1) := by decide +kernel
theorem dX10_more_6 : decode cX10_more 6 = .ok (.getfield 19, 3) := by decide +kernel
theorem dX10_more_9 : decode cX10_more 9 = .ok (.getfield 98, 3) := by decide +kernel
theorem dX10_more_12 : decode cX10_more 12 = .ok (.if_icmp .ge 7, 3) := by decide +kernel
theorem dX10_more_15 : decode cX10_more 15 = .ok (.iconst 1, 1) := by decide +kernel
theorem dX10_more_16 : decode cX10_more 16 = .ok (.goto 4, 3) := by decide +kernel
theorem dX10_more_19 : decode cX10_more 19 = .ok (.iconst 0, 1) := by decide +kernel
theorem dX10_more_20 : decode cX10_more 20 = .ok (.invokestatic 76, 3) := by decide +kernel
theorem dX10_more_23 : decode cX10_more 23 = .ok (.iload_n 2, 1) := by decide +kernel
theorem dX10_more_24 : decode cX10_more 24 = .ok (.invokestatic 192, 3) := by decide +kernel
theorem dX10_more_27 : decode cX10_more 27 = .ok (.aload_n 0, 1) := by decide +kernel
theorem dX10_more_28 : decode cX10_more 28 = .ok (.iload_n 2, 1) := by decide +kernel
theorem dX10_more_29 : decode cX10_more 29 = .ok (.invokevirtual 271, 3) := by decide +kernel
theorem dX10_more_32 : decode cX10_more 32 = .ok (.aload_n 0, 1) := by decide +kernel
theorem dX10_more_33 : decode cX10_more 33 = .ok (.iload_n 1, 1) := by decide +kernel
theorem dX10_more_34 : decode cX10_more 34 = .ok (.iload_n 2, 1) := by decide +kernel
theorem dX10_more_35 : decode cX10_more 35 = .ok (.invokevirtual 307, 3) := by decide +kernel
theorem dX10_more_38 : decode cX10_more 38 = .ok (.lsub, 1) := by decide +kernel
theorem dX10_more_39 : decode cX10_more 39 = .ok (.lreturn, 1) := by decide +kernel
theorem dX10_newCost_0 : decode cX10_newCost 0 = .ok (.aload_n 0, 1) := by decide +kernel
theorem dX10_newCost_1 : decode cX10_newCost 1 = .ok (.getfield 41, 3) := by decide +kernel
theorem dX10_newCost_4 : decode cX10_newCost 4 = .ok (.aload_n 0, 1) := by decide +kernel
theorem dX10_newCost_5 : decode cX10_newCost 5 = .ok (.getfield 19, 3) := by decide +kernel
theorem dX10_newCost_8 : decode cX10_newCost 8 = .ok (.aload_n 0, 1) := by decide +kernel
theorem dX10_newCost_9 : decode cX10_newCost 9 = .ok (.getfield 26, 3) := by decide +kernel
theorem dX10_newCost_12 : decode cX10_newCost 12 = .ok (.invokevirtual 155, 3) := by decide +kernel
theorem dX10_newCost_15 : decode cX10_newCost 15 = .ok (.aload_n 0, 1) := by decide +kernel
theorem dX10_newCost_16 : decode cX10_newCost 16 = .ok (.getfield 41, 3) := by decide +kernel
theorem dX10_newCost_19 : decode cX10_newCost 19 = .ok (.getfield 234, 3) := by decide +kernel
theorem dX10_newCost_22 : decode cX10_newCost 22 = .ok (.iload_n 1, 1) := by decide +kernel
theorem dX10_newCost_23 : decode cX10_newCost 23 = .ok (.putfield 310, 3) := by decide +kernel
theorem dX10_newCost_26 : decode cX10_newCost 26 = .ok (.aload_n 0, 1) := by decide +kernel
theorem dX10_newCost_27 : decode cX10_newCost 27 = .ok (.getfield 41, 3) := by decide +kernel
theorem dX10_newCost_30 : decode cX10_newCost 30 = .ok (.getfield 172, 3) := by decide +kernel
theorem dX10_newCost_33 : decode cX10_newCost 33 = .ok (.aload_n 0, 1) := by decide +kernel
theorem dX10_newCost_34 : decode cX10_newCost 34 = .ok (.getfield 19, 3) := by decide +kernel
theorem dX10_newCost_37 : decode cX10_newCost 37 = .ok (.getfield 89, 3) := by decide +kernel
theorem dX10_newCost_40 : decode cX10_newCost 40 = .ok (.aload_n 0, 1) := by decide +kernel
theorem dX10_newCost_41 : decode cX10_newCost 41 = .ok (.getfield 19, 3) := by decide +kernel
theorem dX10_newCost_44 : decode cX10_newCost 44 = .ok (.getfield 63, 3) := by decide +kernel
theorem dX10_newCost_47 : decode cX10_newCost 47 = .ok (.invokevirtual 313, 3) := by decide +kernel
theorem dX10_newCost_50 : decode cX10_newCost 50 = .ok (.aload_n 0, 1) := by decide +kernel
theorem dX10_newCost_51 : decode cX10_newCost 51 = .ok (.getfield 41, 3) := by decide +kernel
theorem dX10_newCost_54 : decode cX10_newCost 54 = .ok (.iconst 0, 1) := by decide +kernel
theorem dX10_newCost_55 : decode cX10_newCost 55 = .ok (.iload_n 2, 1) := by decide +kernel
theorem dX10_newCost_56 : decode cX10_newCost 56 = .ok (.invokevirtual 198, 3) := by decide +kernel
theorem dX10_newCost_59 : decode cX10_newCost 59 = .ok (.lreturn, 1) := by decide +kernel
theorem dX10_which_0 : decode cX10_which 0 = .ok (.iload_n 1, 1) := by decide +kernel
theorem dX10_which_1 : decode cX10_which 1 = .ok (.invokestatic 192, 3) := by decide +kernel
theorem dX10_which_4 : decode cX10_which 4 = .ok (.iconst (-1), 1) := by decide +kernel
theorem dX10_which_5 : decode cX10_which 5 = .ok (.istore_n 2, 1) := by decide +kernel
theorem dX10_which_6 : decode cX10_which 6 = .ok (.lconst 0, 1) := by decide +kernel
theorem dX10_which_7 : decode cX10_which 7 = .ok (.lstore_n 3, 1) := by decide +kernel
theorem dX10_which_8 : decode cX10_which 8 = .ok (.iconst 0, 1) := by decide +kernel
theorem dX10_which_9 : decode cX10_which 9 = .ok (.istore 5, 2) := by decide +kernel
theorem dX10_which_11 : decode cX10_which 11 = .ok (.iload 5, 2) := by decide +kernel
theorem dX10_which_13 : decode cX10_which 13 = .ok (.aload_n 0, 1) := by decide +kernel
theorem dX10_which_14 : decode cX10_which 14 = .ok (.getfield 19, 3) := by decide +kernel
theorem dX10_which_17 : decode cX10_which 17 = .ok (.getfield 98, 3) := by decide +kernel
theorem dX10_which_20 : decode cX10_which 20 = .ok (.if_icmp .ge 36, 3) := by decide +kernel
theorem dX10_which_23 : decode cX10_which 23 = .ok (.aload_n 0, 1) := by decide +kernel
theorem dX10_which_24 : decode cX10_which 24 = .ok (.iload 5, 2) := by decide +kernel
theorem dX10_which_26 : decode cX10_which 26 = .ok (.iload_n 1, 1) := by decide +kernel
theorem dX10_which_27 : decode cX10_which 27 = .ok (.invokevirtual 307, 3) := by decide +kernel
theorem dX10_which_30 : decode cX10_which 30 = .ok (.lstore 6, 2) := by decide +kernel
theorem dX10_which_32 : decode cX10_which 32 = .ok (.iload_n 2, 1) := by decide +kernel
theorem dX10_which_33 : decode cX10_which 33 = .ok (.iconst (-1), 1) := by decide +kernel
theorem dX10_which_34 : decode cX10_which 34 = .ok (.if_icmp .eq 10, 3) := by decide +kernel
theorem dX10_which_37 : decode cX10_which 37 = .ok (.lload 6, 2) := by decide +kernel
theorem dX10_which_39 : decode cX10_which 39 = .ok (.lload_n 3, 1) := by decide +kernel
theorem dX10_which_40 : decode cX10_which 40 = .ok (.lcmp, 1) := by decide +kernel
theorem dX10_which_41 : decode cX10_which 41 = .ok (.ifCond .ge 9, 3) := by decide +kernel
theorem dX10_which_44 : decode cX10_which 44 = .ok (.lload 6, 2) := by decide +kernel
theorem dX10_which_46 : decode cX10_which 46 = .ok (.lstore_n 3, 1) := by decide +kernel
theorem dX10_which_47 : decode cX10_which 47 = .ok (.iload 5, 2) := by decide +kernel
theorem dX10_which_49 : decode cX10_which 49 = .ok (.istore_n 2, 1) := by decide +kernel
theorem dX10_which_50 : decode cX10_which 50 = .ok (.iinc 5 1, 3) := by decide +kernel
theorem dX10_which_53 : decode cX10_which 53 = .ok (.goto (-42), 3) := by decide +kernel
theorem dX10_which_56 : decode cX10_which 56 = .ok (.iload_n 2, 1) := by decide +kernel
theorem dX10_which_57 : decode cX10_which 57 = .ok (.ireturn, 1) := by decide +kernel
theorem dX10_men_0 : decode cX10_men 0 = .ok (.aload_n 0, 1) := by decide +kernel
theorem dX10_men_1 : decode cX10_men 1 = .ok (.iload_n 1, 1) := by decide +kernel
theorem dX10_men_2 : decode cX10_men 2 = .ok (.invokevirtual 110, 3) := by decide +kernel
theorem dX10_men_5 : decode cX10_men 5 = .ok (.iload_n 2, 1) := by decide +kernel
theorem dX10_men_6 : decode cX10_men 6 = .ok (.invokestatic 192, 3) := by decide +kernel
theorem dX10_men_9 : decode cX10_men 9 = .ok (.aload_n 0, 1) := by decide +kernel
theorem dX10_men_10 : decode cX10_men 10 = .ok (.iload_n 2, 1) := by decide +kernel
theorem dX10_men_11 : decode cX10_men 11 = .ok (.invokevirtual 271, 3) := by decide +kernel
theorem dX10_men_14 : decode cX10_men 14 = .ok (.aload_n 0, 1) := by decide +kernel
theorem dX10_men_15 : decode cX10_men 15 = .ok (.iload_n 1, 1) := by decide +kernel
theorem dX10_men_16 : decode cX10_men 16 = .ok (.iload_n 2, 1) := by decide +kernel
theorem dX10_men_17 : decode cX10_men 17 = .ok (.invokevirtual 317, 3) := by decide +kernel
theorem dX10_men_20 : decode cX10_men 20 = .ok (.lsub, 1) := by decide +kernel
theorem dX10_men_21 : decode cX10_men 21 = .ok (.lreturn, 1) := by decide +kernel
theorem dX10_mendedCost_0 : decode cX10_mendedCost 0 = .ok (.aload_n 0, 1) := by decide +kernel
theorem dX10_mendedCost_1 : decode cX10_mendedCost 1 = .ok (.getfield 41, 3) := by decide +kernel
theorem dX10_mendedCost_4 : decode cX10_mendedCost 4 = .ok (.aload_n 0, 1) := by decide +kernel
theorem dX10_mendedCost_5 : decode cX10_mendedCost 5 = .ok (.getfield 19, 3) := by decide +kernel
theorem dX10_mendedCost_8 : decode cX10_mendedCost 8 = .ok (.aload_n 0, 1) := by decide +kernel
theorem dX10_mendedCost_9 : decode cX10_mendedCost 9 = .ok (.getfield 26, 3) := by decide +kernel
theorem dX10_mendedCost_12 : decode cX10_mendedCost 12 = .ok (.invokevirtual 155, 3) := by decide +kernel
theorem dX10_mendedCost_15 : decode cX10_mendedCost 15 = .ok (.aload_n 0, 1) := by decide +kernel
theorem dX10_mendedCost_16 : decode cX10_mendedCost 16 = .ok (.getfield 41, 3) := by decide +kernel
theorem dX10_mendedCost_19 : decode cX10_mendedCost 19 = .ok (.getfield 172, 3) := by decide +kernel
theorem dX10_mendedCost_22 : decode cX10_mendedCost 22 = .ok (.iload_n 1, 1) := by decide +kernel
theorem dX10_mendedCost_23 : decode cX10_mendedCost 23 = .ok (.aload_n 0, 1) := by decide +kernel
theorem dX10_mendedCost_24 : decode cX10_mendedCost 24 = .ok (.getfield 19, 3) := by decide +kernel
theorem dX10_mendedCost_27 : decode cX10_mendedCost 27 = .ok (.getfield 63, 3) := by decide +kernel
theorem dX10_mendedCost_30 : decode cX10_mendedCost 30 = .ok (.invokevirtual 313, 3) := by decide +kernel
theorem dX10_mendedCost_33 : decode cX10_mendedCost 33 = .ok (.aload_n 0, 1) := by decide +kernel
theorem dX10_mendedCost_34 : decode cX10_mendedCost 34 = .ok (.getfield 41, 3) := by decide +kernel
theorem dX10_mendedCost_37 : decode cX10_mendedCost 37 = .ok (.iconst 0, 1) := by decide +kernel
theorem dX10_mendedCost_38 : decode cX10_mendedCost 38 = .ok (.iload_n 2, 1) := by decide +kernel
theorem dX10_mendedCost_39 : decode cX10_mendedCost 39 = .ok (.invokevirtual 198, 3) := by decide +kernel
theorem dX10_mendedCost_42 : decode cX10_mendedCost 42 = .ok (.lreturn, 1) := by decide +kernel
theorem dX10_beside_0 : decode cX10_beside 0 = .ok (.iload_n 1, 1) := by decide +kernel
theorem dX10_beside_1 : decode cX10_beside 1 = .ok (.invokestatic 192, 3) := by decide +kernel
theorem dX10_beside_4 : decode cX10_beside 4 = .ok (.aload_n 0, 1) := by decide +kernel
theorem dX10_beside_5 : decode cX10_beside 5 = .ok (.iload_n 1, 1) := by decide +kernel
theorem dX10_beside_6 : decode cX10_beside 6 = .ok (.invokevirtual 271, 3) := by decide +kernel
theorem dX10_beside_9 : decode cX10_beside 9 = .ok (.lstore_n 2, 1) := by decide +kernel
theorem dX10_beside_10 : decode cX10_beside 10 = .ok (.iconst (-1), 1) := by decide +kernel
theorem dX10_beside_11 : decode cX10_beside 11 = .ok (.istore 4, 2) := by decide +kernel
theorem dX10_beside_13 : decode cX10_beside 13 = .ok (.iconst 0, 1) := by decide +kernel
theorem dX10_beside_14 : decode cX10_beside 14 = .ok (.istore 5, 2) := by decide +kernel
theorem dX10_beside_16 : decode cX10_beside 16 = .ok (.iload 5, 2) := by decide +kernel
theorem dX10_beside_18 : decode cX10_beside 18 = .ok (.aload_n 0, 1) := by decide +kernel
theorem dX10_beside_19 : decode cX10_beside 19 = .ok (.getfield 19, 3) := by decide +kernel
theorem dX10_beside_22 : decode cX10_beside 22 = .ok (.getfield 89, 3) := by decide +kernel
theorem dX10_beside_25 : decode cX10_beside 25 = .ok (.if_icmp .ge 32, 3) := by decide +kernel
theorem dX10_beside_28 : decode cX10_beside 28 = .ok (.aload_n 0, 1) := by decide +kernel
theorem dX10_beside_29 : decode cX10_beside 29 = .ok (.iload 5, 2) := by decide +kernel
theorem dX10_beside_31 : decode cX10_beside 31 = .ok (.iload_n 1, 1) := by decide +kernel
theorem dX10_beside_32 : decode cX10_beside 32 = .ok (.invokevirtual 317, 3) := by decide +kernel
theorem dX10_beside_35 : decode cX10_beside 35 = .ok (.lstore 6, 2) := by decide +kernel
theorem dX10_beside_37 : decode cX10_beside 37 = .ok (.lload 6, 2) := by decide +kernel
theorem dX10_beside_39 : decode cX10_beside 39 = .ok (.lload_n 2, 1) := by decide +kernel
theorem dX10_beside_40 : decode cX10_beside 40 = .ok (.lcmp, 1) := by decide +kernel
theorem dX10_beside_41 : decode cX10_beside 41 = .ok (.ifCond .ge 10, 3) := by decide +kernel
theorem dX10_beside_44 : decode cX10_beside 44 = .ok (.lload 6, 2) := by decide +kernel
theorem dX10_beside_46 : decode cX10_beside 46 = .ok (.lstore_n 2, 1) := by decide +kernel
theorem dX10_beside_47 : decode cX10_beside 47 = .ok (.iload 5, 2) := by decide +kernel
theorem dX10_beside_49 : decode cX10_beside 49 = .ok (.istore 4, 2) := by decide +kernel
theorem dX10_beside_51 : decode cX10_beside 51 = .ok (.iinc 5 1, 3) := by decide +kernel
theorem dX10_beside_54 : decode cX10_beside 54 = .ok (.goto (-38), 3) := by decide +kernel
theorem dX10_beside_57 : decode cX10_beside 57 = .ok (.iload 4, 2) := by decide +kernel
theorem dX10_beside_59 : decode cX10_beside 59 = .ok (.ireturn, 1) := by decide +kernel
theorem dX10_law_0 : decode cX10_law 0 = .ok (.iload_n 1, 1) := by decide +kernel
theorem dX10_law_1 : decode cX10_law 1 = .ok (.iconst 3, 1) := by decide +kernel
theorem dX10_law_2 : decode cX10_law 2 = .ok (.if_icmp .lt 13, 3) := by decide +kernel
theorem dX10_law_5 : decode cX10_law 5 = .ok (.iload_n 1, 1) := by decide +kernel
theorem dX10_law_6 : decode cX10_law 6 = .ok (.bipush 11, 2) := by decide +kernel
theorem dX10_law_8 : decode cX10_law 8 = .ok (.if_icmp .gt 7, 3) := by decide +kernel
theorem dX10_law_11 : decode cX10_law 11 = .ok (.iconst 1, 1) := by decide +kernel
theorem dX10_law_12 : decode cX10_law 12 = .ok (.goto 4, 3) := by decide +kernel
theorem dX10_law_15 : decode cX10_law 15 = .ok (.iconst 0, 1) := by decide +kernel
theorem dX10_law_16 : decode cX10_law 16 = .ok (.invokestatic 76, 3) := by decide +kernel
theorem dX10_law_19 : decode cX10_law 19 = .ok (.iload_n 2, 1) := by decide +kernel
theorem dX10_law_20 : decode cX10_law 20 = .ok (.invokestatic 192, 3) := by decide +kernel
theorem dX10_law_23 : decode cX10_law 23 = .ok (.aload_n 0, 1) := by decide +kernel
theorem dX10_law_24 : decode cX10_law 24 = .ok (.iload_n 1, 1) := by decide +kernel
theorem dX10_law_25 : decode cX10_law 25 = .ok (.iload_n 2, 1) := by decide +kernel
theorem dX10_law_26 : decode cX10_law 26 = .ok (.invokevirtual 320, 3) := by decide +kernel
theorem dX10_law_29 : decode cX10_law 29 = .ok (.lreturn, 1) := by decide +kernel
theorem dX10_lawCost_0 : decode cX10_lawCost 0 = .ok (.aload_n 0, 1) := by decide +kernel
theorem dX10_lawCost_1 : decode cX10_lawCost 1 = .ok (.getfield 41, 3) := by decide +kernel
theorem dX10_lawCost_4 : decode cX10_lawCost 4 = .ok (.aload_n 0, 1) := by decide +kernel
theorem dX10_lawCost_5 : decode cX10_lawCost 5 = .ok (.getfield 19, 3) := by decide +kernel
theorem dX10_lawCost_8 : decode cX10_lawCost 8 = .ok (.aload_n 0, 1) := by decide +kernel
theorem dX10_lawCost_9 : decode cX10_lawCost 9 = .ok (.getfield 26, 3) := by decide +kernel
theorem dX10_lawCost_12 : decode cX10_lawCost 12 = .ok (.invokevirtual 155, 3) := by decide +kernel
theorem dX10_lawCost_15 : decode cX10_lawCost 15 = .ok (.aload_n 0, 1) := by decide +kernel
theorem dX10_lawCost_16 : decode cX10_lawCost 16 = .ok (.getfield 41, 3) := by decide +kernel
theorem dX10_lawCost_19 : decode cX10_lawCost 19 = .ok (.getfield 234, 3) := by decide +kernel
theorem dX10_lawCost_22 : decode cX10_lawCost 22 = .ok (.iload_n 1, 1) := by decide +kernel
theorem dX10_lawCost_23 : decode cX10_lawCost 23 = .ok (.putfield 323, 3) := by decide +kernel
theorem dX10_lawCost_26 : decode cX10_lawCost 26 = .ok (.iconst 0, 1) := by decide +kernel
theorem dX10_lawCost_27 : decode cX10_lawCost 27 = .ok (.istore_n 3, 1) := by decide +kernel
theorem dX10_lawCost_28 : decode cX10_lawCost 28 = .ok (.iload_n 3, 1) := by decide +kernel
theorem dX10_lawCost_29 : decode cX10_lawCost 29 = .ok (.aload_n 0, 1) := by decide +kernel
theorem dX10_lawCost_30 : decode cX10_lawCost 30 = .ok (.getfield 19, 3) := by decide +kernel
theorem dX10_lawCost_33 : decode cX10_lawCost 33 = .ok (.getfield 89, 3) := by decide +kernel
theorem dX10_lawCost_36 : decode cX10_lawCost 36 = .ok (.if_icmp .ge 37, 3) := by decide +kernel
theorem dX10_lawCost_39 : decode cX10_lawCost 39 = .ok (.aload_n 0, 1) := by decide +kernel
theorem dX10_lawCost_40 : decode cX10_lawCost 40 = .ok (.getfield 41, 3) := by decide +kernel
theorem dX10_lawCost_43 : decode cX10_lawCost 43 = .ok (.getfield 172, 3) := by decide +kernel
theorem dX10_lawCost_46 : decode cX10_lawCost 46 = .ok (.getfield 120, 3) := by decide +kernel
theorem dX10_lawCost_49 : decode cX10_lawCost 49 = .ok (.iload_n 3, 1) := by decide +kernel
theorem dX10_lawCost_50 : decode cX10_lawCost 50 = .ok (.iaload, 1) := by decide +kernel
theorem dX10_lawCost_51 : decode cX10_lawCost 51 = .ok (.iload_n 1, 1) := by decide +kernel
theorem dX10_lawCost_52 : decode cX10_lawCost 52 = .ok (.if_icmp .lt 15, 3) := by decide +kernel
theorem dX10_lawCost_55 : decode cX10_lawCost 55 = .ok (.aload_n 0, 1) := by decide +kernel
theorem dX10_lawCost_56 : decode cX10_lawCost 56 = .ok (.getfield 41, 3) := by decide +kernel
theorem dX10_lawCost_59 : decode cX10_lawCost 59 = .ok (.getfield 172, 3) := by decide +kernel
theorem dX10_lawCost_62 : decode cX10_lawCost 62 = .ok (.iload_n 3, 1) := by decide +kernel
theorem dX10_lawCost_63 : decode cX10_lawCost 63 = .ok (.iload_n 1, 1) := by decide +kernel
theorem dX10_lawCost_64 : decode cX10_lawCost 64 = .ok (.invokevirtual 313, 3) := by decide +kernel
theorem dX10_lawCost_67 : decode cX10_lawCost 67 = .ok (.iinc 3 1, 3) := by decide +kernel
theorem dX10_lawCost_70 : decode cX10_lawCost 70 = .ok (.goto (-42), 3) := by decide +kernel
theorem dX10_lawCost_73 : decode cX10_lawCost 73 = .ok (.aload_n 0, 1) := by decide +kernel
theorem dX10_lawCost_74 : decode cX10_lawCost 74 = .ok (.getfield 41, 3) := by decide +kernel
theorem dX10_lawCost_77 : decode cX10_lawCost 77 = .ok (.iconst 0, 1) := by decide +kernel
theorem dX10_lawCost_78 : decode cX10_lawCost 78 = .ok (.iload_n 2, 1) := by decide +kernel
theorem dX10_lawCost_79 : decode cX10_lawCost 79 = .ok (.invokevirtual 198, 3) := by decide +kernel
theorem dX10_lawCost_82 : decode cX10_lawCost 82 = .ok (.lreturn, 1) := by decide +kernel
theorem dX10_other_0 : decode cX10_other 0 = .ok (.iload_n 1, 1) := by decide +kernel
theorem dX10_other_1 : decode cX10_other 1 = .ok (.invokestatic 192, 3) := by decide +kernel
theorem dX10_other_4 : decode cX10_other 4 = .ok (.iconst 3, 1) := by decide +kernel
theorem dX10_other_5 : decode cX10_other 5 = .ok (.istore_n 2, 1) := by decide +kernel
theorem dX10_other_6 : decode cX10_other 6 = .ok (.aload_n 0, 1) := by decide +kernel
theorem dX10_other_7 : decode cX10_other 7 = .ok (.iconst 3, 1) := by decide +kernel
theorem dX10_other_8 : decode cX10_other 8 = .ok (.iload_n 1, 1) := by decide +kernel
theorem dX10_other_9 : decode cX10_other 9 = .ok (.invokevirtual 320, 3) := by decide +kernel
theorem dX10_other_12 : decode cX10_other 12 = .ok (.lstore_n 3, 1) := by decide +kernel
theorem dX10_other_13 : decode cX10_other 13 = .ok (.iconst 4, 1) := by decide +kernel
theorem dX10_other_14 : decode cX10_other 14 = .ok (.istore 5, 2) := by decide +kernel
theorem dX10_other_16 : decode cX10_other 16 = .ok (.iload 5, 2) := by decide +kernel
theorem dX10_other_18 : decode cX10_other 18 = .ok (.bipush 11, 2) := by decide +kernel
theorem dX10_other_20 : decode cX10_other 20 = .ok (.if_icmp .gt 31, 3) := by decide +kernel
theorem dX10_other_23 : decode cX10_other 23 = .ok (.aload_n 0, 1) := by decide +kernel
theorem dX10_other_24 : decode cX10_other 24 = .ok (.iload 5, 2) := by decide +kernel
theorem dX10_other_26 : decode cX10_other 26 = .ok (.iload_n 1, 1) := by decide +kernel
theorem dX10_other_27 : decode cX10_other 27 = .ok (.invokevirtual 320, 3) := by decide +kernel
theorem dX10_other_30 : decode cX10_other 30 = .ok (.lstore 6, 2) := by decide +kernel
theorem dX10_other_32 : decode cX10_other 32 = .ok (.lload 6, 2) := by decide +kernel
theorem dX10_other_34 : decode cX10_other 34 = .ok (.lload_n 3, 1) := by decide +kernel
theorem dX10_other_35 : decode cX10_other 35 = .ok (.lcmp, 1) := by decide +kernel
theorem dX10_other_36 : decode cX10_other 36 = .ok (.ifCond .ge 9, 3) := by decide +kernel
theorem dX10_other_39 : decode cX10_other 39 = .ok (.lload 6, 2) := by decide +kernel
theorem dX10_other_41 : decode cX10_other 41 = .ok (.lstore_n 3, 1) := by decide +kernel
theorem dX10_other_42 : decode cX10_other 42 = .ok (.iload 5, 2) := by decide +kernel
theorem dX10_other_44 : decode cX10_other 44 = .ok (.istore_n 2, 1) := by decide +kernel
theorem dX10_other_45 : decode cX10_other 45 = .ok (.iinc 5 1, 3) := by decide +kernel
theorem dX10_other_48 : decode cX10_other 48 = .ok (.goto (-32), 3) := by decide +kernel
theorem dX10_other_51 : decode cX10_other 51 = .ok (.iload_n 2, 1) := by decide +kernel
theorem dX10_other_52 : decode cX10_other 52 = .ok (.ireturn, 1) := by decide +kernel
theorem dX10_fits_0 : decode cX10_fits 0 = .ok (.iload_n 3, 1) := by decide +kernel
theorem dX10_fits_1 : decode cX10_fits 1 = .ok (.ifCond .lt 13, 3) := by decide +kernel
theorem dX10_fits_4 : decode cX10_fits 4 = .ok (.iload_n 3, 1) := by decide +kernel
theorem dX10_fits_5 : decode cX10_fits 5 = .ok (.bipush 20, 2) := by decide +kernel
theorem dX10_fits_7 : decode cX10_fits 7 = .ok (.if_icmp .gt 7, 3) := by decide +kernel
theorem dX10_fits_10 : decode cX10_fits 10 = .ok (.iconst 1, 1) := by decide +kernel
theorem dX10_fits_11 : decode cX10_fits 11 = .ok (.goto 4, 3) := by decide +kernel
theorem dX10_fits_14 : decode cX10_fits 14 = .ok (.iconst 0, 1) := by decide +kernel
theorem dX10_fits_15 : decode cX10_fits 15 = .ok (.invokestatic 76, 3) := by decide +kernel
theorem dX10_fits_18 : decode cX10_fits 18 = .ok (.lconst 1, 1) := by decide +kernel
theorem dX10_fits_19 : decode cX10_fits 19 = .ok (.lstore 4, 2) := by decide +kernel
theorem dX10_fits_21 : decode cX10_fits 21 = .ok (.iconst 0, 1) := by decide +kernel
theorem dX10_fits_22 : decode cX10_fits 22 = .ok (.istore 6, 2) := by decide +kernel
theorem dX10_fits_24 : decode cX10_fits 24 = .ok (.iload 6, 2) := by decide +kernel
theorem dX10_fits_26 : decode cX10_fits 26 = .ok (.iload_n 3, 1) := by decide +kernel
theorem dX10_fits_27 : decode cX10_fits 27 = .ok (.if_icmp .ge 17, 3) := by decide +kernel
theorem dX10_fits_30 : decode cX10_fits 30 = .ok (.lload 4, 2) := by decide +kernel
theorem dX10_fits_32 : decode cX10_fits 32 = .ok (.ldc2_w 324, 3) := by decide +kernel
theorem dX10_fits_35 : decode cX10_fits 35 = .ok (.lmul, 1) := by decide +kernel
theorem dX10_fits_36 : decode cX10_fits 36 = .ok (.lstore 4, 2) := by decide +kernel
theorem dX10_fits_38 : decode cX10_fits 38 = .ok (.iinc 6 1, 3) := by decide +kernel
theorem dX10_fits_41 : decode cX10_fits 41 = .ok (.goto (-17), 3) := by decide +kernel
theorem dX10_fits_44 : decode cX10_fits 44 = .ok (.lload_n 1, 1) := by decide +kernel
theorem dX10_fits_45 : decode cX10_fits 45 = .ok (.lconst 0, 1) := by decide +kernel
theorem dX10_fits_46 : decode cX10_fits 46 = .ok (.lcmp, 1) := by decide +kernel
theorem dX10_fits_47 : decode cX10_fits 47 = .ok (.ifCond .lt 14, 3) := by decide +kernel
theorem dX10_fits_50 : decode cX10_fits 50 = .ok (.lload_n 1, 1) := by decide +kernel
theorem dX10_fits_51 : decode cX10_fits 51 = .ok (.lload 4, 2) := by decide +kernel
theorem dX10_fits_53 : decode cX10_fits 53 = .ok (.lcmp, 1) := by decide +kernel
theorem dX10_fits_54 : decode cX10_fits 54 = .ok (.ifCond .ge 7, 3) := by decide +kernel
theorem dX10_fits_57 : decode cX10_fits 57 = .ok (.iconst 1, 1) := by decide +kernel
theorem dX10_fits_58 : decode cX10_fits 58 = .ok (.goto 4, 3) := by decide +kernel
theorem dX10_fits_61 : decode cX10_fits 61 = .ok (.iconst 0, 1) := by decide +kernel
theorem dX10_fits_62 : decode cX10_fits 62 = .ok (.invokestatic 76, 3) := by decide +kernel
theorem dX10_fits_65 : decode cX10_fits 65 = .ok (.iconst 1, 1) := by decide +kernel
theorem dX10_fits_66 : decode cX10_fits 66 = .ok (.aload_n 0, 1) := by decide +kernel
theorem dX10_fits_67 : decode cX10_fits 67 = .ok (.getfield 19, 3) := by decide +kernel
theorem dX10_fits_70 : decode cX10_fits 70 = .ok (.getfield 63, 3) := by decide +kernel
theorem dX10_fits_73 : decode cX10_fits 73 = .ok (.ishl, 1) := by decide +kernel
theorem dX10_fits_74 : decode cX10_fits 74 = .ok (.istore 6, 2) := by decide +kernel
theorem dX10_fits_76 : decode cX10_fits 76 = .ok (.iload 6, 2) := by decide +kernel
theorem dX10_fits_78 : decode cX10_fits 78 = .ok (.istore 7, 2) := by decide +kernel
theorem dX10_fits_80 : decode cX10_fits 80 = .ok (.iconst 0, 1) := by decide +kernel
theorem dX10_fits_81 : decode cX10_fits 81 = .ok (.istore 8, 2) := by decide +kernel
theorem dX10_fits_83 : decode cX10_fits 83 = .ok (.iload 8, 2) := by decide +kernel
theorem dX10_fits_85 : decode cX10_fits 85 = .ok (.iload_n 3, 1) := by decide +kernel
theorem dX10_fits_86 : decode cX10_fits 86 = .ok (.if_icmp .ge 44, 3) := by decide +kernel
theorem dX10_fits_89 : decode cX10_fits 89 = .ok (.lload 4, 2) := by decide +kernel
theorem dX10_fits_91 : decode cX10_fits 91 = .ok (.ldc2_w 324, 3) := by decide +kernel
theorem dX10_fits_94 : decode cX10_fits 94 = .ok (.lcmp, 1) := by decide +kernel
theorem dX10_fits_95 : decode cX10_fits 95 = .ok (.ifCond .lt 35, 3) := by decide +kernel
theorem dX10_fits_98 : decode cX10_fits 98 = .ok (.lload 4, 2) := by decide +kernel
theorem dX10_fits_100 : decode cX10_fits 100 = .ok (.ldc2_w 324, 3) := by decide +kernel
theorem dX10_fits_103 : decode cX10_fits 103 = .ok (.ldiv, 1) := by decide +kernel
theorem dX10_fits_104 : decode cX10_fits 104 = .ok (.lstore 4, 2) := by decide +kernel
theorem dX10_fits_106 : decode cX10_fits 106 = .ok (.iload 7, 2) := by decide +kernel
theorem dX10_fits_108 : decode cX10_fits 108 = .ok (.lload_n 1, 1) := by decide +kernel
theorem dX10_fits_109 : decode cX10_fits 109 = .ok (.lload 4, 2) := by decide +kernel
theorem dX10_fits_111 : decode cX10_fits 111 = .ok (.ldiv, 1) := by decide +kernel
theorem dX10_fits_112 : decode cX10_fits 112 = .ok (.ldc2_w 324, 3) := by decide +kernel
theorem dX10_fits_115 : decode cX10_fits 115 = .ok (.lrem, 1) := by decide +kernel
theorem dX10_fits_116 : decode cX10_fits 116 = .ok (.l2i, 1) := by decide +kernel
theorem dX10_fits_117 : decode cX10_fits 117 = .ok (.iload 6, 2) := by decide +kernel
theorem dX10_fits_119 : decode cX10_fits 119 = .ok (.invokestatic 326, 3) := by decide +kernel
theorem dX10_fits_122 : decode cX10_fits 122 = .ok (.istore 7, 2) := by decide +kernel
theorem dX10_fits_124 : decode cX10_fits 124 = .ok (.iinc 8 1, 3) := by decide +kernel
theorem dX10_fits_127 : decode cX10_fits 127 = .ok (.goto (-44), 3) := by decide +kernel
theorem dX10_fits_130 : decode cX10_fits 130 = .ok (.iload 7, 2) := by decide +kernel
theorem dX10_fits_132 : decode cX10_fits 132 = .ok (.ireturn, 1) := by decide +kernel
theorem dX10_afterKnown_0 : decode cX10_afterKnown 0 = .ok (.iload_n 0, 1) := by decide +kernel
theorem dX10_afterKnown_1 : decode cX10_afterKnown 1 = .ok (.iconst 1, 1) := by decide +kernel
theorem dX10_afterKnown_2 : decode cX10_afterKnown 2 = .ok (.ishl, 1) := by decide +kernel
theorem dX10_afterKnown_3 : decode cX10_afterKnown 3 = .ok (.iconst 2, 1) := by decide +kernel
theorem dX10_afterKnown_4 : decode cX10_afterKnown 4 = .ok (.iload_n 2, 1) := by decide +kernel
theorem dX10_afterKnown_5 : decode cX10_afterKnown 5 = .ok (.imul, 1) := by decide +kernel
theorem dX10_afterKnown_6 : decode cX10_afterKnown 6 = .ok (.iconst 1, 1) := by decide +kernel
theorem dX10_afterKnown_7 : decode cX10_afterKnown 7 = .ok (.isub, 1) := by decide +kernel
theorem dX10_afterKnown_8 : decode cX10_afterKnown 8 = .ok (.iand, 1) := by decide +kernel
theorem dX10_afterKnown_9 : decode cX10_afterKnown 9 = .ok (.iload_n 0, 1) := by decide +kernel
theorem dX10_afterKnown_10 : decode cX10_afterKnown 10 = .ok (.iload_n 2, 1) := by decide +kernel
theorem dX10_afterKnown_11 : decode cX10_afterKnown 11 = .ok (.iand, 1) := by decide +kernel
theorem dX10_afterKnown_12 : decode cX10_afterKnown 12 = .ok (.ior, 1) := by decide +kernel
theorem dX10_afterKnown_13 : decode cX10_afterKnown 13 = .ok (.istore_n 3, 1) := by decide +kernel
theorem dX10_afterKnown_14 : decode cX10_afterKnown 14 = .ok (.iload_n 1, 1) := by decide +kernel
theorem dX10_afterKnown_15 : decode cX10_afterKnown 15 = .ok (.ifCond .ne 5, 3) := by decide +kernel
theorem dX10_afterKnown_18 : decode cX10_afterKnown 18 = .ok (.iload_n 3, 1) := by decide +kernel
theorem dX10_afterKnown_19 : decode cX10_afterKnown 19 = .ok (.ireturn, 1) := by decide +kernel
theorem dX10_afterKnown_20 : decode cX10_afterKnown 20 = .ok (.iload_n 1, 1) := by decide +kernel
theorem dX10_afterKnown_21 : decode cX10_afterKnown 21 = .ok (.iconst 1, 1) := by decide +kernel
theorem dX10_afterKnown_22 : decode cX10_afterKnown 22 = .ok (.if_icmp .ne 7, 3) := by decide +kernel
theorem dX10_afterKnown_25 : decode cX10_afterKnown 25 = .ok (.iconst 1, 1) := by decide +kernel
theorem dX10_afterKnown_26 : decode cX10_afterKnown 26 = .ok (.goto 6, 3) := by decide +kernel
theorem dX10_afterKnown_29 : decode cX10_afterKnown 29 = .ok (.iload_n 3, 1) := by decide +kernel
theorem dX10_afterKnown_30 : decode cX10_afterKnown 30 = .ok (.iconst 1, 1) := by decide +kernel
theorem dX10_afterKnown_31 : decode cX10_afterKnown 31 = .ok (.ior, 1) := by decide +kernel
theorem dX10_afterKnown_32 : decode cX10_afterKnown 32 = .ok (.ireturn, 1) := by decide +kernel
theorem dX10_seed_0 : decode cX10_seed 0 = .ok (.iload_n 1, 1) := by decide +kernel
theorem dX10_seed_1 : decode cX10_seed 1 = .ok (.invokestatic 189, 3) := by decide +kernel
theorem dX10_seed_4 : decode cX10_seed 4 = .ok (.iload_n 2, 1) := by decide +kernel
theorem dX10_seed_5 : decode cX10_seed 5 = .ok (.invokestatic 192, 3) := by decide +kernel
theorem dX10_seed_8 : decode cX10_seed 8 = .ok (.iload 4, 2) := by decide +kernel
theorem dX10_seed_10 : decode cX10_seed 10 = .ok (.ifCond .lt 13, 3) := by decide +kernel
theorem dX10_seed_13 : decode cX10_seed 13 = .ok (.iload 4, 2) := by decide +kernel
theorem dX10_seed_15 : decode cX10_seed 15 = .ok (.iconst 2, 1) := by decide +kernel
theorem dX10_seed_16 : decode cX10_seed 16 = .ok (.if_icmp .gt 7, 3) := by decide +kernel
theorem dX10_seed_19 : decode cX10_seed 19 = .ok (.iconst 1, 1) := by decide +kernel
theorem dX10_seed_20 : decode cX10_seed 20 = .ok (.goto 4, 3) := by decide +kernel
theorem dX10_seed_23 : decode cX10_seed 23 = .ok (.iconst 0, 1) := by decide +kernel
theorem dX10_seed_24 : decode cX10_seed 24 = .ok (.invokestatic 76, 3) := by decide +kernel
theorem dX10_seed_27 : decode cX10_seed 27 = .ok (.aload_n 0, 1) := by decide +kernel
theorem dX10_seed_28 : decode cX10_seed 28 = .ok (.iload_n 1, 1) := by decide +kernel
theorem dX10_seed_29 : decode cX10_seed 29 = .ok (.invokevirtual 195, 3) := by decide +kernel
theorem dX10_seed_32 : decode cX10_seed 32 = .ok (.aload_n 0, 1) := by decide +kernel
theorem dX10_seed_33 : decode cX10_seed 33 = .ok (.getfield 41, 3) := by decide +kernel
theorem dX10_seed_36 : decode cX10_seed 36 = .ok (.aload_n 0, 1) := by decide +kernel
theorem dX10_seed_37 : decode cX10_seed 37 = .ok (.getfield 19, 3) := by decide +kernel
theorem dX10_seed_40 : decode cX10_seed 40 = .ok (.aload_n 0, 1) := by decide +kernel
theorem dX10_seed_41 : decode cX10_seed 41 = .ok (.getfield 26, 3) := by decide +kernel
theorem dX10_seed_44 : decode cX10_seed 44 = .ok (.invokevirtual 155, 3) := by decide +kernel
theorem dX10_seed_47 : decode cX10_seed 47 = .ok (.aload_n 0, 1) := by decide +kernel
theorem dX10_seed_48 : decode cX10_seed 48 = .ok (.getfield 41, 3) := by decide +kernel
theorem dX10_seed_51 : decode cX10_seed 51 = .ok (.getfield 234, 3) := by decide +kernel
theorem dX10_seed_54 : decode cX10_seed 54 = .ok (.iconst 1, 1) := by decide +kernel
theorem dX10_seed_55 : decode cX10_seed 55 = .ok (.putfield 330, 3) := by decide +kernel
theorem dX10_seed_58 : decode cX10_seed 58 = .ok (.aload_n 0, 1) := by decide +kernel
theorem dX10_seed_59 : decode cX10_seed 59 = .ok (.getfield 41, 3) := by decide +kernel
theorem dX10_seed_62 : decode cX10_seed 62 = .ok (.getfield 234, 3) := by decide +kernel
theorem dX10_seed_65 : decode cX10_seed 65 = .ok (.iload_n 3, 1) := by decide +kernel
theorem dX10_seed_66 : decode cX10_seed 66 = .ok (.putfield 333, 3) := by decide +kernel
theorem dX10_seed_69 : decode cX10_seed 69 = .ok (.aload_n 0, 1) := by decide +kernel
theorem dX10_seed_70 : decode cX10_seed 70 = .ok (.getfield 41, 3) := by decide +kernel
theorem dX10_seed_73 : decode cX10_seed 73 = .ok (.iload_n 1, 1) := by decide +kernel
theorem dX10_seed_74 : decode cX10_seed 74 = .ok (.iload_n 2, 1) := by decide +kernel
theorem dX10_seed_75 : decode cX10_seed 75 = .ok (.invokevirtual 198, 3) := by decide +kernel
theorem dX10_seed_78 : decode cX10_seed 78 = .ok (.lstore 5, 2) := by decide +kernel
theorem dX10_seed_80 : decode cX10_seed 80 = .ok (.iload 4, 2) := by decide +kernel
theorem dX10_seed_82 : decode cX10_seed 82 = .ok (.lookupswitch 41 #[(0, 26), (1, 29)], 26) := by decide +kernel
theorem dX10_seed_108 : decode cX10_seed 108 = .ok (.lload 5, 2) := by decide +kernel
theorem dX10_seed_110 : decode cX10_seed 110 = .ok (.lreturn, 1) := by decide +kernel
theorem dX10_seed_111 : decode cX10_seed 111 = .ok (.aload_n 0, 1) := by decide +kernel
theorem dX10_seed_112 : decode cX10_seed 112 = .ok (.getfield 41, 3) := by decide +kernel
theorem dX10_seed_115 : decode cX10_seed 115 = .ok (.getfield 179, 3) := by decide +kernel
theorem dX10_seed_118 : decode cX10_seed 118 = .ok (.getfield 336, 3) := by decide +kernel
theorem dX10_seed_121 : decode cX10_seed 121 = .ok (.i2l, 1) := by decide +kernel
theorem dX10_seed_122 : decode cX10_seed 122 = .ok (.lreturn, 1) := by decide +kernel
theorem dX10_seed_123 : decode cX10_seed 123 = .ok (.aload_n 0, 1) := by decide +kernel
theorem dX10_seed_124 : decode cX10_seed 124 = .ok (.getfield 41, 3) := by decide +kernel
theorem dX10_seed_127 : decode cX10_seed 127 = .ok (.getfield 179, 3) := by decide +kernel
theorem dX10_seed_130 : decode cX10_seed 130 = .ok (.getfield 202, 3) := by decide +kernel
theorem dX10_seed_133 : decode cX10_seed 133 = .ok (.i2l, 1) := by decide +kernel
theorem dX10_seed_134 : decode cX10_seed 134 = .ok (.lreturn, 1) := by decide +kernel
theorem dX10_image_0 : decode cX10_image 0 = .ok (.aload_n 0, 1) := by decide +kernel
theorem dX10_image_1 : decode cX10_image 1 = .ok (.getfield 34, 3) := by decide +kernel
theorem dX10_image_4 : decode cX10_image 4 = .ok (.aload_n 0, 1) := by decide +kernel
theorem dX10_image_5 : decode cX10_image 5 = .ok (.getfield 30, 3) := by decide +kernel
theorem dX10_image_8 : decode cX10_image 8 = .ok (.arraylength, 1) := by decide +kernel
theorem dX10_image_9 : decode cX10_image 9 = .ok (.if_icmp .lt 5, 3) := by decide +kernel
theorem dX10_image_12 : decode cX10_image 12 = .ok (.iconst (-1), 1) := by decide +kernel
theorem dX10_image_13 : decode cX10_image 13 = .ok (.ireturn, 1) := by decide +kernel
theorem dX10_image_14 : decode cX10_image 14 = .ok (.aload_n 0, 1) := by decide +kernel
theorem dX10_image_15 : decode cX10_image 15 = .ok (.getfield 30, 3) := by decide +kernel
theorem dX10_image_18 : decode cX10_image 18 = .ok (.aload_n 0, 1) := by decide +kernel
theorem dX10_image_19 : decode cX10_image 19 = .ok (.getfield 34, 3) := by decide +kernel
theorem dX10_image_22 : decode cX10_image 22 = .ok (.aaload, 1) := by decide +kernel
theorem dX10_image_23 : decode cX10_image 23 = .ok (.aload_n 0, 1) := by decide +kernel
theorem dX10_image_24 : decode cX10_image 24 = .ok (.getfield 26, 3) := by decide +kernel
theorem dX10_image_27 : decode cX10_image 27 = .ok (.invokevirtual 175, 3) := by decide +kernel
theorem dX10_image_30 : decode cX10_image 30 = .ok (.aload_n 0, 1) := by decide +kernel
theorem dX10_image_31 : decode cX10_image 31 = .ok (.dup, 1) := by decide +kernel
theorem dX10_image_32 : decode cX10_image 32 = .ok (.getfield 34, 3) := by decide +kernel
theorem dX10_image_35 : decode cX10_image 35 = .ok (.iconst 1, 1) := by decide +kernel
theorem dX10_image_36 : decode cX10_image 36 = .ok (.iadd, 1) := by decide +kernel
theorem dX10_image_37 : decode cX10_image 37 = .ok (.putfield 34, 3) := by decide +kernel
theorem dX10_image_40 : decode cX10_image 40 = .ok (.aload_n 0, 1) := by decide +kernel
theorem dX10_image_41 : decode cX10_image 41 = .ok (.getfield 34, 3) := by decide +kernel
theorem dX10_image_44 : decode cX10_image 44 = .ok (.ireturn, 1) := by decide +kernel
theorem dX10_on_0 : decode cX10_on 0 = .ok (.aload_n 0, 1) := by decide +kernel
theorem dX10_on_1 : decode cX10_on 1 = .ok (.getfield 34, 3) := by decide +kernel
theorem dX10_on_4 : decode cX10_on 4 = .ok (.ifCond .gt 5, 3) := by decide +kernel
theorem dX10_on_7 : decode cX10_on 7 = .ok (.iconst (-1), 1) := by decide +kernel
theorem dX10_on_8 : decode cX10_on 8 = .ok (.ireturn, 1) := by decide +kernel
theorem dX10_on_9 : decode cX10_on 9 = .ok (.aload_n 0, 1) := by decide +kernel
theorem dX10_on_10 : decode cX10_on 10 = .ok (.dup, 1) := by decide +kernel
theorem dX10_on_11 : decode cX10_on 11 = .ok (.getfield 34, 3) := by decide +kernel
theorem dX10_on_14 : decode cX10_on 14 = .ok (.iconst 1, 1) := by decide +kernel
theorem dX10_on_15 : decode cX10_on 15 = .ok (.isub, 1) := by decide +kernel
theorem dX10_on_16 : decode cX10_on 16 = .ok (.putfield 34, 3) := by decide +kernel
theorem dX10_on_19 : decode cX10_on 19 = .ok (.aload_n 0, 1) := by decide +kernel
theorem dX10_on_20 : decode cX10_on 20 = .ok (.getfield 26, 3) := by decide +kernel
theorem dX10_on_23 : decode cX10_on 23 = .ok (.aload_n 0, 1) := by decide +kernel
theorem dX10_on_24 : decode cX10_on 24 = .ok (.getfield 30, 3) := by decide +kernel
theorem dX10_on_27 : decode cX10_on 27 = .ok (.aload_n 0, 1) := by decide +kernel
theorem dX10_on_28 : decode cX10_on 28 = .ok (.getfield 34, 3) := by decide +kernel
theorem dX10_on_31 : decode cX10_on 31 = .ok (.aaload, 1) := by decide +kernel
theorem dX10_on_32 : decode cX10_on 32 = .ok (.invokevirtual 175, 3) := by decide +kernel
theorem dX10_on_35 : decode cX10_on 35 = .ok (.aload_n 0, 1) := by decide +kernel
theorem dX10_on_36 : decode cX10_on 36 = .ok (.getfield 34, 3) := by decide +kernel
theorem dX10_on_39 : decode cX10_on 39 = .ok (.ireturn, 1) := by decide +kernel
theorem dX10_count_0 : decode cX10_count 0 = .ok (.iload_n 1, 1) := by decide +kernel
theorem dX10_count_1 : decode cX10_count 1 = .ok (.tableswitch 48 0 2 #[27, 35, 40], 27) := by decide +kernel
theorem dX10_count_28 : decode cX10_count 28 = .ok (.aload_n 0, 1) := by decide +kernel
theorem dX10_count_29 : decode cX10_count 29 = .ok (.getfield 26, 3) := by decide +kernel
theorem dX10_count_32 : decode cX10_count 32 = .ok (.getfield 212, 3) := by decide +kernel
theorem dX10_count_35 : decode cX10_count 35 = .ok (.ireturn, 1) := by decide +kernel
theorem dX10_count_36 : decode cX10_count 36 = .ok (.aload_n 0, 1) := by decide +kernel
theorem dX10_count_37 : decode cX10_count 37 = .ok (.getfield 34, 3) := by decide +kernel
theorem dX10_count_40 : decode cX10_count 40 = .ok (.ireturn, 1) := by decide +kernel
theorem dX10_count_41 : decode cX10_count 41 = .ok (.aload_n 0, 1) := by decide +kernel
theorem dX10_count_42 : decode cX10_count 42 = .ok (.getfield 10, 3) := by decide +kernel
theorem dX10_count_45 : decode cX10_count 45 = .ok (.getfield 70, 3) := by decide +kernel
theorem dX10_count_48 : decode cX10_count 48 = .ok (.ireturn, 1) := by decide +kernel
theorem dX10_count_49 : decode cX10_count 49 = .ok (.iconst (-1), 1) := by decide +kernel
theorem dX10_count_50 : decode cX10_count 50 = .ok (.ireturn, 1) := by decide +kernel
theorem dX10_demand_0 : decode cX10_demand 0 = .ok (.iload_n 0, 1) := by decide +kernel
theorem dX10_demand_1 : decode cX10_demand 1 = .ok (.ifCond .ne 14, 3) := by decide +kernel
theorem dX10_demand_4 : decode cX10_demand 4 = .ok (.new 339, 3) := by decide +kernel
theorem dX10_demand_7 : decode cX10_demand 7 = .ok (.dup, 1) := by decide +kernel
theorem dX10_demand_8 : decode cX10_demand 8 = .ok (.ldc_w 341, 3) := by decide +kernel
theorem dX10_demand_11 : decode cX10_demand 11 = .ok (.invokespecial 343, 3) := by decide +kernel
theorem dX10_demand_14 : decode cX10_demand 14 = .ok (.athrow, 1) := by decide +kernel
theorem dX10_demand_15 : decode cX10_demand 15 = .ok (.return_, 1) := by decide +kernel
theorem dX10_demandDays_0 : decode cX10_demandDays 0 = .ok (.iload_n 0, 1) := by decide +kernel
theorem dX10_demandDays_1 : decode cX10_demandDays 1 = .ok (.iconst 1, 1) := by decide +kernel
theorem dX10_demandDays_2 : decode cX10_demandDays 2 = .ok (.if_icmp .lt 14, 3) := by decide +kernel
theorem dX10_demandDays_5 : decode cX10_demandDays 5 = .ok (.iload_n 0, 1) := by decide +kernel
theorem dX10_demandDays_6 : decode cX10_demandDays 6 = .ok (.sipush 366, 3) := by decide +kernel
theorem dX10_demandDays_9 : decode cX10_demandDays 9 = .ok (.if_icmp .gt 7, 3) := by decide +kernel
theorem dX10_demandDays_12 : decode cX10_demandDays 12 = .ok (.iconst 1, 1) := by decide +kernel
theorem dX10_demandDays_13 : decode cX10_demandDays 13 = .ok (.goto 4, 3) := by decide +kernel
theorem dX10_demandDays_16 : decode cX10_demandDays 16 = .ok (.iconst 0, 1) := by decide +kernel
theorem dX10_demandDays_17 : decode cX10_demandDays 17 = .ok (.invokestatic 76, 3) := by decide +kernel
theorem dX10_demandDays_20 : decode cX10_demandDays 20 = .ok (.return_, 1) := by decide +kernel
theorem dX10_demandRule_0 : decode cX10_demandRule 0 = .ok (.iload_n 0, 1) := by decide +kernel
theorem dX10_demandRule_1 : decode cX10_demandRule 1 = .ok (.ifCond .lt 12, 3) := by decide +kernel
theorem dX10_demandRule_4 : decode cX10_demandRule 4 = .ok (.iload_n 0, 1) := by decide +kernel
theorem dX10_demandRule_5 : decode cX10_demandRule 5 = .ok (.iconst 3, 1) := by decide +kernel
theorem dX10_demandRule_6 : decode cX10_demandRule 6 = .ok (.if_icmp .gt 7, 3) := by decide +kernel
theorem dX10_demandRule_9 : decode cX10_demandRule 9 = .ok (.iconst 1, 1) := by decide +kernel
theorem dX10_demandRule_10 : decode cX10_demandRule 10 = .ok (.goto 4, 3) := by decide +kernel
theorem dX10_demandRule_13 : decode cX10_demandRule 13 = .ok (.iconst 0, 1) := by decide +kernel
theorem dX10_demandRule_14 : decode cX10_demandRule 14 = .ok (.invokestatic 76, 3) := by decide +kernel
theorem dX10_demandRule_17 : decode cX10_demandRule 17 = .ok (.return_, 1) := by decide +kernel
theorem dX10_demandShut_0 : decode cX10_demandShut 0 = .ok (.iload_n 1, 1) := by decide +kernel
theorem dX10_demandShut_1 : decode cX10_demandShut 1 = .ok (.ifCond .lt 20, 3) := by decide +kernel
theorem dX10_demandShut_4 : decode cX10_demandShut 4 = .ok (.iload_n 1, 1) := by decide +kernel
theorem dX10_demandShut_5 : decode cX10_demandShut 5 = .ok (.iconst 1, 1) := by decide +kernel
theorem dX10_demandShut_6 : decode cX10_demandShut 6 = .ok (.aload_n 0, 1) := by decide +kernel
theorem dX10_demandShut_7 : decode cX10_demandShut 7 = .ok (.getfield 19, 3) := by decide +kernel
theorem dX10_demandShut_10 : decode cX10_demandShut 10 = .ok (.getfield 89, 3) := by decide +kernel
theorem dX10_demandShut_13 : decode cX10_demandShut 13 = .ok (.ishl, 1) := by decide +kernel
theorem dX10_demandShut_14 : decode cX10_demandShut 14 = .ok (.if_icmp .ge 7, 3) := by decide +kernel
theorem dX10_demandShut_17 : decode cX10_demandShut 17 = .ok (.iconst 1, 1) := by decide +kernel
theorem dX10_demandShut_18 : decode cX10_demandShut 18 = .ok (.goto 4, 3) := by decide +kernel
theorem dX10_demandShut_21 : decode cX10_demandShut 21 = .ok (.iconst 0, 1) := by decide +kernel
theorem dX10_demandShut_22 : decode cX10_demandShut 22 = .ok (.invokestatic 76, 3) := by decide +kernel
theorem dX10_demandShut_25 : decode cX10_demandShut 25 = .ok (.return_, 1) := by decide +kernel
theorem dX10_demandRoad_0 : decode cX10_demandRoad 0 = .ok (.iload_n 1, 1) := by decide +kernel
theorem dX10_demandRoad_1 : decode cX10_demandRoad 1 = .ok (.ifCond .lt 14, 3) := by decide +kernel
theorem dX10_demandRoad_4 : decode cX10_demandRoad 4 = .ok (.iload_n 1, 1) := by decide +kernel
theorem dX10_demandRoad_5 : decode cX10_demandRoad 5 = .ok (.aload_n 0, 1) := by decide +kernel
theorem dX10_demandRoad_6 : decode cX10_demandRoad 6 = .ok (.getfield 19, 3) := by decide +kernel
theorem dX10_demandRoad_9 : decode cX10_demandRoad 9 = .ok (.getfield 89, 3) := by decide +kernel
theorem dX10_demandRoad_12 : decode cX10_demandRoad 12 = .ok (.if_icmp .lt 14, 3) := by decide +kernel
theorem dX10_demandRoad_15 : decode cX10_demandRoad 15 = .ok (.new 346, 3) := by decide +kernel
theorem dX10_demandRoad_18 : decode cX10_demandRoad 18 = .ok (.dup, 1) := by decide +kernel
theorem dX10_demandRoad_19 : decode cX10_demandRoad 19 = .ok (.ldc_w 348, 3) := by decide +kernel
theorem dX10_demandRoad_22 : decode cX10_demandRoad 22 = .ok (.invokespecial 350, 3) := by decide +kernel
theorem dX10_demandRoad_25 : decode cX10_demandRoad 25 = .ok (.athrow, 1) := by decide +kernel
theorem dX10_demandRoad_26 : decode cX10_demandRoad 26 = .ok (.return_, 1) := by decide +kernel
theorem dX10_demandGoing_0 : decode cX10_demandGoing 0 = .ok (.iload_n 1, 1) := by decide +kernel
theorem dX10_demandGoing_1 : decode cX10_demandGoing 1 = .ok (.ifCond .lt 14, 3) := by decide +kernel
theorem dX10_demandGoing_4 : decode cX10_demandGoing 4 = .ok (.iload_n 1, 1) := by decide +kernel
theorem dX10_demandGoing_5 : decode cX10_demandGoing 5 = .ok (.aload_n 0, 1) := by decide +kernel
theorem dX10_demandGoing_6 : decode cX10_demandGoing 6 = .ok (.getfield 19, 3) := by decide +kernel
theorem dX10_demandGoing_9 : decode cX10_demandGoing 9 = .ok (.getfield 101, 3) := by decide +kernel
theorem dX10_demandGoing_12 : decode cX10_demandGoing 12 = .ok (.if_icmp .lt 14, 3) := by decide +kernel
theorem dX10_demandGoing_15 : decode cX10_demandGoing 15 = .ok (.new 351, 3) := by decide +kernel
theorem dX10_demandGoing_18 : decode cX10_demandGoing 18 = .ok (.dup, 1) := by decide +kernel
theorem dX10_demandGoing_19 : decode cX10_demandGoing 19 = .ok (.ldc_w 353, 3) := by decide +kernel
theorem dX10_demandGoing_22 : decode cX10_demandGoing 22 = .ok (.invokespecial 355, 3) := by decide +kernel
theorem dX10_demandGoing_25 : decode cX10_demandGoing 25 = .ok (.athrow, 1) := by decide +kernel
theorem dX10_demandGoing_26 : decode cX10_demandGoing 26 = .ok (.return_, 1) := by decide +kernel
theorem dX10_demandRowFor_0 : decode cX10_demandRowFor 0 = .ok (.iload_n 1, 1) := by decide +kernel
theorem dX10_demandRowFor_1 : decode cX10_demandRowFor 1 = .ok (.iconst 1, 1) := by decide +kernel
theorem dX10_demandRowFor_2 : decode cX10_demandRowFor 2 = .ok (.if_icmp .ne 7, 3) := by decide +kernel
theorem dX10_demandRowFor_5 : decode cX10_demandRowFor 5 = .ok (.aload_n 0, 1) := by decide +kernel
theorem dX10_demandRowFor_6 : decode cX10_demandRowFor 6 = .ok (.invokevirtual 231, 3) := by decide +kernel
theorem dX10_demandRowFor_9 : decode cX10_demandRowFor 9 = .ok (.return_, 1) := by decide +kernel
theorem dX10_demandRow_0 : decode cX10_demandRow 0 = .ok (.aload_n 0, 1) := by decide +kernel
theorem dX10_demandRow_1 : decode cX10_demandRow 1 = .ok (.getfield 26, 3) := by decide +kernel
theorem dX10_demandRow_4 : decode cX10_demandRow 4 = .ok (.getfield 212, 3) := by decide +kernel
theorem dX10_demandRow_7 : decode cX10_demandRow 7 = .ok (.ifCond .ne 14, 3) := by decide +kernel
theorem dX10_demandRow_10 : decode cX10_demandRow 10 = .ok (.new 356, 3) := by decide +kernel
theorem dX10_demandRow_13 : decode cX10_demandRow 13 = .ok (.dup, 1) := by decide +kernel
theorem dX10_demandRow_14 : decode cX10_demandRow 14 = .ok (.ldc_w 358, 3) := by decide +kernel
theorem dX10_demandRow_17 : decode cX10_demandRow 17 = .ok (.invokespecial 360, 3) := by decide +kernel
theorem dX10_demandRow_20 : decode cX10_demandRow 20 = .ok (.athrow, 1) := by decide +kernel
theorem dX10_demandRow_21 : decode cX10_demandRow 21 = .ok (.return_, 1) := by decide +kernel
theorem dX2_init_0 : decode cX2_init 0 = .ok (.aload_n 0, 1) := by decide +kernel
theorem dX2_init_1 : decode cX2_init 1 = .ok (.invokespecial 3, 3) := by decide +kernel
theorem dX2_init_4 : decode cX2_init 4 = .ok (.return_, 1) := by decide +kernel
theorem dX2_makePlain_0 : decode cX2_makePlain 0 = .ok (.aload_n 0, 1) := by decide +kernel
theorem dX2_makePlain_1 : decode cX2_makePlain 1 = .ok (.iconst 0, 1) := by decide +kernel
theorem dX2_makePlain_2 : decode cX2_makePlain 2 = .ok (.putfield 9, 3) := by decide +kernel
theorem dX2_makePlain_5 : decode cX2_makePlain 5 = .ok (.aload_n 0, 1) := by decide +kernel
theorem dX2_makePlain_6 : decode cX2_makePlain 6 = .ok (.iconst (-1), 1) := by decide +kernel
theorem dX2_makePlain_7 : decode cX2_makePlain 7 = .ok (.putfield 15, 3) := by decide +kernel
theorem dX2_makePlain_10 : decode cX2_makePlain 10 = .ok (.aload_n 0, 1) := by decide +kernel
theorem dX2_makePlain_11 : decode cX2_makePlain 11 = .ok (.iconst 0, 1) := by decide +kernel
theorem dX2_makePlain_12 : decode cX2_makePlain 12 = .ok (.putfield 18, 3) := by decide +kernel
theorem dX2_makePlain_15 : decode cX2_makePlain 15 = .ok (.aload_n 0, 1) := by decide +kernel
theorem dX2_makePlain_16 : decode cX2_makePlain 16 = .ok (.iconst 0, 1) := by decide +kernel
theorem dX2_makePlain_17 : decode cX2_makePlain 17 = .ok (.putfield 22, 3) := by decide +kernel
theorem dX2_makePlain_20 : decode cX2_makePlain 20 = .ok (.aload_n 0, 1) := by decide +kernel
theorem dX2_makePlain_21 : decode cX2_makePlain 21 = .ok (.iconst 0, 1) := by decide +kernel
theorem dX2_makePlain_22 : decode cX2_makePlain 22 = .ok (.putfield 25, 3) := by decide +kernel
theorem dX2_makePlain_25 : decode cX2_makePlain 25 = .ok (.aload_n 0, 1) := by decide +kernel
theorem dX2_makePlain_26 : decode cX2_makePlain 26 = .ok (.iconst (-1), 1) := by decide +kernel
theorem dX2_makePlain_27 : decode cX2_makePlain 27 = .ok (.putfield 28, 3) := by decide +kernel
theorem dX2_makePlain_30 : decode cX2_makePlain 30 = .ok (.aload_n 0, 1) := by decide +kernel
theorem dX2_makePlain_31 : decode cX2_makePlain 31 = .ok (.aload_n 1, 1) := by decide +kernel
theorem dX2_makePlain_32 : decode cX2_makePlain 32 = .ok (.getfield 31, 3) := by decide +kernel
theorem dX2_makePlain_35 : decode cX2_makePlain 35 = .ok (.putfield 36, 3) := by decide +kernel
theorem dX2_makePlain_38 : decode cX2_makePlain 38 = .ok (.aload_n 0, 1) := by decide +kernel
theorem dX2_makePlain_39 : decode cX2_makePlain 39 = .ok (.iconst 0, 1) := by decide +kernel
theorem dX2_makePlain_40 : decode cX2_makePlain 40 = .ok (.putfield 37, 3) := by decide +kernel
theorem dX2_makePlain_43 : decode cX2_makePlain 43 = .ok (.aload_n 0, 1) := by decide +kernel
theorem dX2_makePlain_44 : decode cX2_makePlain 44 = .ok (.iconst 0, 1) := by decide +kernel
theorem dX2_makePlain_45 : decode cX2_makePlain 45 = .ok (.putfield 40, 3) := by decide +kernel
theorem dX2_makePlain_48 : decode cX2_makePlain 48 = .ok (.aload_n 0, 1) := by decide +kernel
theorem dX2_makePlain_49 : decode cX2_makePlain 49 = .ok (.iconst 0, 1) := by decide +kernel
theorem dX2_makePlain_50 : decode cX2_makePlain 50 = .ok (.putfield 43, 3) := by decide +kernel
theorem dX2_makePlain_53 : decode cX2_makePlain 53 = .ok (.return_, 1) := by decide +kernel
theorem dX2_isHeedless_0 : decode cX2_isHeedless 0 = .ok (.aload_n 0, 1) := by decide +kernel
theorem dX2_isHeedless_1 : decode cX2_isHeedless 1 = .ok (.getfield 18, 3) := by decide +kernel
theorem dX2_isHeedless_4 : decode cX2_isHeedless 4 = .ok (.ifCond .eq 15, 3) := by decide +kernel
theorem dX2_isHeedless_7 : decode cX2_isHeedless 7 = .ok (.iload_n 1, 1) := by decide +kernel
theorem dX2_isHeedless_8 : decode cX2_isHeedless 8 = .ok (.aload_n 0, 1) := by decide +kernel
theorem dX2_isHeedless_9 : decode cX2_isHeedless 9 = .ok (.getfield 15, 3) := by decide +kernel
theorem dX2_isHeedless_12 : decode cX2_isHeedless 12 = .ok (.if_icmp .ne 7, 3) := by decide +kernel
theorem dX2_isHeedless_15 : decode cX2_isHeedless 15 = .ok (.iconst 1, 1) := by decide +kernel
theorem dX2_isHeedless_16 : decode cX2_isHeedless 16 = .ok (.goto 4, 3) := by decide +kernel
theorem dX2_isHeedless_19 : decode cX2_isHeedless 19 = .ok (.iconst 0, 1) := by decide +kernel
theorem dX2_isHeedless_20 : decode cX2_isHeedless 20 = .ok (.ireturn, 1) := by decide +kernel
theorem dX2_isAbsent_0 : decode cX2_isAbsent 0 = .ok (.aload_n 0, 1) := by decide +kernel
theorem dX2_isAbsent_1 : decode cX2_isAbsent 1 = .ok (.getfield 22, 3) := by decide +kernel
theorem dX2_isAbsent_4 : decode cX2_isAbsent 4 = .ok (.ifCond .eq 15, 3) := by decide +kernel
theorem dX2_isAbsent_7 : decode cX2_isAbsent 7 = .ok (.iload_n 1, 1) := by decide +kernel
theorem dX2_isAbsent_8 : decode cX2_isAbsent 8 = .ok (.aload_n 0, 1) := by decide +kernel
theorem dX2_isAbsent_9 : decode cX2_isAbsent 9 = .ok (.getfield 15, 3) := by decide +kernel
theorem dX2_isAbsent_12 : decode cX2_isAbsent 12 = .ok (.if_icmp .ne 7, 3) := by decide +kernel
theorem dX2_isAbsent_15 : decode cX2_isAbsent 15 = .ok (.iconst 1, 1) := by decide +kernel
theorem dX2_isAbsent_16 : decode cX2_isAbsent 16 = .ok (.goto 4, 3) := by decide +kernel
theorem dX2_isAbsent_19 : decode cX2_isAbsent 19 = .ok (.iconst 0, 1) := by decide +kernel
theorem dX2_isAbsent_20 : decode cX2_isAbsent 20 = .ok (.ireturn, 1) := by decide +kernel
theorem dX2_delayOf_0 : decode cX2_delayOf 0 = .ok (.iload_n 1, 1) := by decide +kernel
theorem dX2_delayOf_1 : decode cX2_delayOf 1 = .ok (.aload_n 0, 1) := by decide +kernel
theorem dX2_delayOf_2 : decode cX2_delayOf 2 = .ok (.getfield 15, 3) := by decide +kernel
theorem dX2_delayOf_5 : decode cX2_delayOf 5 = .ok (.if_icmp .ne 10, 3) := by decide +kernel
theorem dX2_delayOf_8 : decode cX2_delayOf 8 = .ok (.aload_n 0, 1) := by decide +kernel
theorem dX2_delayOf_9 : decode cX2_delayOf 9 = .ok (.getfield 25, 3) := by decide +kernel
theorem dX2_delayOf_12 : decode cX2_delayOf 12 = .ok (.goto 4, 3) := by decide +kernel
theorem dX2_delayOf_15 : decode cX2_delayOf 15 = .ok (.iconst 0, 1) := by decide +kernel
theorem dX2_delayOf_16 : decode cX2_delayOf 16 = .ok (.ireturn, 1) := by decide +kernel
theorem dX2_nextLot_0 : decode cX2_nextLot 0 = .ok (.aload_n 0, 1) := by decide +kernel
theorem dX2_nextLot_1 : decode cX2_nextLot 1 = .ok (.aload_n 0, 1) := by decide +kernel
theorem dX2_nextLot_2 : decode cX2_nextLot 2 = .ok (.getfield 43, 3) := by decide +kernel
theorem dX2_nextLot_5 : decode cX2_nextLot 5 = .ok (.ldc 46, 2) := by decide +kernel
theorem dX2_nextLot_7 : decode cX2_nextLot 7 = .ok (.imul, 1) := by decide +kernel
theorem dX2_nextLot_8 : decode cX2_nextLot 8 = .ok (.sipush 12345, 3) := by decide +kernel
theorem dX2_nextLot_11 : decode cX2_nextLot 11 = .ok (.iadd, 1) := by decide +kernel
theorem dX2_nextLot_12 : decode cX2_nextLot 12 = .ok (.putfield 43, 3) := by decide +kernel
theorem dX2_nextLot_15 : decode cX2_nextLot 15 = .ok (.aload_n 0, 1) := by decide +kernel
theorem dX2_nextLot_16 : decode cX2_nextLot 16 = .ok (.getfield 43, 3) := by decide +kernel
theorem dX2_nextLot_19 : decode cX2_nextLot 19 = .ok (.bipush 16, 2) := by decide +kernel
theorem dX2_nextLot_21 : decode cX2_nextLot 21 = .ok (.iushr, 1) := by decide +kernel
theorem dX2_nextLot_22 : decode cX2_nextLot 22 = .ok (.bipush 7, 2) := by decide +kernel
theorem dX2_nextLot_24 : decode cX2_nextLot 24 = .ok (.iand, 1) := by decide +kernel
theorem dX2_nextLot_25 : decode cX2_nextLot 25 = .ok (.ireturn, 1) := by decide +kernel
theorem dX3_init_0 : decode cX3_init 0 = .ok (.aload_n 0, 1) := by decide +kernel
theorem dX3_init_1 : decode cX3_init 1 = .ok (.invokespecial 3, 3) := by decide +kernel
theorem dX3_init_4 : decode cX3_init 4 = .ok (.aload_n 0, 1) := by decide +kernel
theorem dX3_init_5 : decode cX3_init 5 = .ok (.iconst 0, 1) := by decide +kernel
theorem dX3_init_6 : decode cX3_init 6 = .ok (.putfield 9, 3) := by decide +kernel
theorem dX3_init_9 : decode cX3_init 9 = .ok (.aload_n 0, 1) := by decide +kernel
theorem dX3_init_10 : decode cX3_init 10 = .ok (.iconst 0, 1) := by decide +kernel
theorem dX3_init_11 : decode cX3_init 11 = .ok (.putfield 15, 3) := by decide +kernel
theorem dX3_init_14 : decode cX3_init 14 = .ok (.aload_n 0, 1) := by decide +kernel
theorem dX3_init_15 : decode cX3_init 15 = .ok (.iconst (-1), 1) := by decide +kernel
theorem dX3_init_16 : decode cX3_init 16 = .ok (.putfield 18, 3) := by decide +kernel
theorem dX3_init_19 : decode cX3_init 19 = .ok (.aload_n 0, 1) := by decide +kernel
theorem dX3_init_20 : decode cX3_init 20 = .ok (.new 21, 3) := by decide +kernel
theorem dX3_init_23 : decode cX3_init 23 = .ok (.dup, 1) := by decide +kernel
theorem dX3_init_24 : decode cX3_init 24 = .ok (.invokespecial 23, 3) := by decide +kernel
theorem dX3_init_27 : decode cX3_init 27 = .ok (.putfield 24, 3) := by decide +kernel
theorem dX3_init_30 : decode cX3_init 30 = .ok (.aload_n 0, 1) := by decide +kernel
theorem dX3_init_31 : decode cX3_init 31 = .ok (.sipush 600, 3) := by decide +kernel
theorem dX3_init_34 : decode cX3_init 34 = .ok (.newarray .int, 2) := by decide +kernel
theorem dX3_init_36 : decode cX3_init 36 = .ok (.putfield 28, 3) := by decide +kernel
theorem dX3_init_39 : decode cX3_init 39 = .ok (.aload_n 0, 1) := by decide +kernel
theorem dX3_init_40 : decode cX3_init 40 = .ok (.iconst 5, 1) := by decide +kernel
theorem dX3_init_41 : decode cX3_init 41 = .ok (.newarray .int, 2) := by decide +kernel
theorem dX3_init_43 : decode cX3_init 43 = .ok (.putfield 32, 3) := by decide +kernel
theorem dX3_init_46 : decode cX3_init 46 = .ok (.return_, 1) := by decide +kernel
theorem dX3_putNumber_0 : decode cX3_putNumber 0 = .ok (.bipush 24, 2) := by decide +kernel
theorem dX3_putNumber_2 : decode cX3_putNumber 2 = .ok (.istore_n 2, 1) := by decide +kernel
theorem dX3_putNumber_3 : decode cX3_putNumber 3 = .ok (.iload_n 2, 1) := by decide +kernel
theorem dX3_putNumber_4 : decode cX3_putNumber 4 = .ok (.ifCond .lt 47, 3) := by decide +kernel
theorem dX3_putNumber_7 : decode cX3_putNumber 7 = .ok (.aload_n 0, 1) := by decide +kernel
theorem dX3_putNumber_8 : decode cX3_putNumber 8 = .ok (.getfield 9, 3) := by decide +kernel
theorem dX3_putNumber_11 : decode cX3_putNumber 11 = .ok (.aload_n 0, 1) := by decide +kernel
theorem dX3_putNumber_12 : decode cX3_putNumber 12 = .ok (.getfield 28, 3) := by decide +kernel
theorem dX3_putNumber_15 : decode cX3_putNumber 15 = .ok (.arraylength, 1) := by decide +kernel
theorem dX3_putNumber_16 : decode cX3_putNumber 16 = .ok (.if_icmp .ge 35, 3) := by decide +kernel
theorem dX3_putNumber_19 : decode cX3_putNumber 19 = .ok (.aload_n 0, 1) := by decide +kernel
theorem dX3_putNumber_20 : decode cX3_putNumber 20 = .ok (.getfield 28, 3) := by decide +kernel
theorem dX3_putNumber_23 : decode cX3_putNumber 23 = .ok (.aload_n 0, 1) := by decide +kernel
theorem dX3_putNumber_24 : decode cX3_putNumber 24 = .ok (.getfield 9, 3) := by decide +kernel
theorem dX3_putNumber_27 : decode cX3_putNumber 27 = .ok (.iload_n 1, 1) := by decide +kernel
theorem dX3_putNumber_28 : decode cX3_putNumber 28 = .ok (.iload_n 2, 1) := by decide +kernel
theorem dX3_putNumber_29 : decode cX3_putNumber 29 = .ok (.iushr, 1) := by decide +kernel
theorem dX3_putNumber_30 : decode cX3_putNumber 30 = .ok (.sipush 255, 3) := by decide +kernel
theorem dX3_putNumber_33 : decode cX3_putNumber 33 = .ok (.iand, 1) := by decide +kernel
theorem dX3_putNumber_34 : decode cX3_putNumber 34 = .ok (.iastore, 1) := by decide +kernel
theorem dX3_putNumber_35 : decode cX3_putNumber 35 = .ok (.aload_n 0, 1) := by decide +kernel
theorem dX3_putNumber_36 : decode cX3_putNumber 36 = .ok (.dup, 1) := by decide +kernel
theorem dX3_putNumber_37 : decode cX3_putNumber 37 = .ok (.getfield 9, 3) := by decide +kernel
theorem dX3_putNumber_40 : decode cX3_putNumber 40 = .ok (.iconst 1, 1) := by decide +kernel
theorem dX3_putNumber_41 : decode cX3_putNumber 41 = .ok (.iadd, 1) := by decide +kernel
theorem dX3_putNumber_42 : decode cX3_putNumber 42 = .ok (.putfield 9, 3) := by decide +kernel
theorem dX3_putNumber_45 : decode cX3_putNumber 45 = .ok (.iinc 2 (-8), 3) := by decide +kernel
theorem dX3_putNumber_48 : decode cX3_putNumber 48 = .ok (.goto (-45), 3) := by decide +kernel
theorem dX3_putNumber_51 : decode cX3_putNumber 51 = .ok (.return_, 1) := by decide +kernel
theorem dX3_read_0 : decode cX3_read 0 = .ok (.aload_n 0, 1) := by decide +kernel
theorem dX3_read_1 : decode cX3_read 1 = .ok (.iload_n 1, 1) := by decide +kernel
theorem dX3_read_2 : decode cX3_read 2 = .ok (.aload_n 0, 1) := by decide +kernel
theorem dX3_read_3 : decode cX3_read 3 = .ok (.getfield 9, 3) := by decide +kernel
theorem dX3_read_6 : decode cX3_read 6 = .ok (.invokestatic 35, 3) := by decide +kernel
theorem dX3_read_9 : decode cX3_read 9 = .ok (.putfield 41, 3) := by decide +kernel
theorem dX3_read_12 : decode cX3_read 12 = .ok (.aload_n 0, 1) := by decide +kernel
theorem dX3_read_13 : decode cX3_read 13 = .ok (.iconst 0, 1) := by decide +kernel
theorem dX3_read_14 : decode cX3_read 14 = .ok (.putfield 9, 3) := by decide +kernel
theorem dX3_read_17 : decode cX3_read 17 = .ok (.aload_n 0, 1) := by decide +kernel
theorem dX3_read_18 : decode cX3_read 18 = .ok (.getfield 24, 3) := by decide +kernel
theorem dX3_read_21 : decode cX3_read 21 = .ok (.invokevirtual 44, 3) := by decide +kernel
theorem dX3_read_24 : decode cX3_read 24 = .ok (.aload_n 0, 1) := by decide +kernel
theorem dX3_read_25 : decode cX3_read 25 = .ok (.iconst 0, 1) := by decide +kernel
theorem dX3_read_26 : decode cX3_read 26 = .ok (.putfield 47, 3) := by decide +kernel
theorem dX3_read_29 : decode cX3_read 29 = .ok (.aload_n 0, 1) := by decide +kernel
theorem dX3_read_30 : decode cX3_read 30 = .ok (.iconst 0, 1) := by decide +kernel
theorem dX3_read_31 : decode cX3_read 31 = .ok (.putfield 50, 3) := by decide +kernel
theorem dX3_read_34 : decode cX3_read 34 = .ok (.aload_n 0, 1) := by decide +kernel
theorem dX3_read_35 : decode cX3_read 35 = .ok (.iconst 0, 1) := by decide +kernel
theorem dX3_read_36 : decode cX3_read 36 = .ok (.putfield 15, 3) := by decide +kernel
theorem dX3_read_39 : decode cX3_read 39 = .ok (.aload_n 0, 1) := by decide +kernel
theorem dX3_read_40 : decode cX3_read 40 = .ok (.iconst (-1), 1) := by decide +kernel
theorem dX3_read_41 : decode cX3_read 41 = .ok (.putfield 18, 3) := by decide +kernel
theorem dX3_read_44 : decode cX3_read 44 = .ok (.aload_n 0, 1) := by decide +kernel
theorem dX3_read_45 : decode cX3_read 45 = .ok (.invokevirtual 53, 3) := by decide +kernel
theorem dX3_read_48 : decode cX3_read 48 = .ok (.iconst 0, 1) := by decide +kernel
theorem dX3_read_49 : decode cX3_read 49 = .ok (.istore_n 2, 1) := by decide +kernel
theorem dX3_read_50 : decode cX3_read 50 = .ok (.iload_n 2, 1) := by decide +kernel
theorem dX3_read_51 : decode cX3_read 51 = .ok (.bipush 60, 2) := by decide +kernel
theorem dX3_read_53 : decode cX3_read 53 = .ok (.if_icmp .gt 35, 3) := by decide +kernel
theorem dX3_read_56 : decode cX3_read 56 = .ok (.aload_n 0, 1) := by decide +kernel
theorem dX3_read_57 : decode cX3_read 57 = .ok (.getfield 47, 3) := by decide +kernel
theorem dX3_read_60 : decode cX3_read 60 = .ok (.aload_n 0, 1) := by decide +kernel
theorem dX3_read_61 : decode cX3_read 61 = .ok (.getfield 41, 3) := by decide +kernel
theorem dX3_read_64 : decode cX3_read 64 = .ok (.if_icmp .ge 24, 3) := by decide +kernel
theorem dX3_read_67 : decode cX3_read 67 = .ok (.aload_n 0, 1) := by decide +kernel
theorem dX3_read_68 : decode cX3_read 68 = .ok (.getfield 15, 3) := by decide +kernel
theorem dX3_read_71 : decode cX3_read 71 = .ok (.ifCond .ne 17, 3) := by decide +kernel
theorem dX3_read_74 : decode cX3_read 74 = .ok (.aload_n 0, 1) := by decide +kernel
theorem dX3_read_75 : decode cX3_read 75 = .ok (.invokevirtual 56, 3) := by decide +kernel
theorem dX3_read_78 : decode cX3_read 78 = .ok (.aload_n 0, 1) := by decide +kernel
theorem dX3_read_79 : decode cX3_read 79 = .ok (.invokevirtual 53, 3) := by decide +kernel
theorem dX3_read_82 : decode cX3_read 82 = .ok (.iinc 2 1, 3) := by decide +kernel
theorem dX3_read_85 : decode cX3_read 85 = .ok (.goto (-35), 3) := by decide +kernel
theorem dX3_read_88 : decode cX3_read 88 = .ok (.return_, 1) := by decide +kernel
theorem dX3_fail_0 : decode cX3_fail 0 = .ok (.aload_n 0, 1) := by decide +kernel
theorem dX3_fail_1 : decode cX3_fail 1 = .ok (.iload_n 1, 1) := by decide +kernel
theorem dX3_fail_2 : decode cX3_fail 2 = .ok (.putfield 15, 3) := by decide +kernel
theorem dX3_fail_5 : decode cX3_fail 5 = .ok (.aload_n 0, 1) := by decide +kernel
theorem dX3_fail_6 : decode cX3_fail 6 = .ok (.iload_n 2, 1) := by decide +kernel
theorem dX3_fail_7 : decode cX3_fail 7 = .ok (.putfield 18, 3) := by decide +kernel
theorem dX3_fail_10 : decode cX3_fail 10 = .ok (.return_, 1) := by decide +kernel
theorem dX3_skipBlanks_0 : decode cX3_skipBlanks 0 = .ok (.aload_n 0, 1) := by decide +kernel
theorem dX3_skipBlanks_1 : decode cX3_skipBlanks 1 = .ok (.getfield 47, 3) := by decide +kernel
theorem dX3_skipBlanks_4 : decode cX3_skipBlanks 4 = .ok (.aload_n 0, 1) := by decide +kernel
theorem dX3_skipBlanks_5 : decode cX3_skipBlanks 5 = .ok (.getfield 41, 3) := by decide +kernel
theorem dX3_skipBlanks_8 : decode cX3_skipBlanks 8 = .ok (.if_icmp .ge 30, 3) := by decide +kernel
theorem dX3_skipBlanks_11 : decode cX3_skipBlanks 11 = .ok (.aload_n 0, 1) := by decide +kernel
theorem dX3_skipBlanks_12 : decode cX3_skipBlanks 12 = .ok (.getfield 28, 3) := by decide +kernel
theorem dX3_skipBlanks_15 : decode cX3_skipBlanks 15 = .ok (.aload_n 0, 1) := by decide +kernel
theorem dX3_skipBlanks_16 : decode cX3_skipBlanks 16 = .ok (.getfield 47, 3) := by decide +kernel
theorem dX3_skipBlanks_19 : decode cX3_skipBlanks 19 = .ok (.iaload, 1) := by decide +kernel
theorem dX3_skipBlanks_20 : decode cX3_skipBlanks 20 = .ok (.bipush 32, 2) := by decide +kernel
theorem dX3_skipBlanks_22 : decode cX3_skipBlanks 22 = .ok (.if_icmp .ne 16, 3) := by decide +kernel
theorem dX3_skipBlanks_25 : decode cX3_skipBlanks 25 = .ok (.aload_n 0, 1) := by decide +kernel
theorem dX3_skipBlanks_26 : decode cX3_skipBlanks 26 = .ok (.dup, 1) := by decide +kernel
theorem dX3_skipBlanks_27 : decode cX3_skipBlanks 27 = .ok (.getfield 47, 3) := by decide +kernel
theorem dX3_skipBlanks_30 : decode cX3_skipBlanks 30 = .ok (.iconst 1, 1) := by decide +kernel
theorem dX3_skipBlanks_31 : decode cX3_skipBlanks 31 = .ok (.iadd, 1) := by decide +kernel
theorem dX3_skipBlanks_32 : decode cX3_skipBlanks 32 = .ok (.putfield 47, 3) := by decide +kernel
theorem dX3_skipBlanks_35 : decode cX3_skipBlanks 35 = .ok (.goto (-35), 3) := by decide +kernel
theorem dX3_skipBlanks_38 : decode cX3_skipBlanks 38 = .ok (.return_, 1) := by decide +kernel
theorem dX3_readClause_0 : decode cX3_readClause 0 = .ok (.aload_n 0, 1) := by decide +kernel
theorem dX3_readClause_1 : decode cX3_readClause 1 = .ok (.getfield 47, 3) := by decide +kernel
theorem dX3_readClause_4 : decode cX3_readClause 4 = .ok (.istore_n 1, 1) := by decide +kernel
theorem dX3_readClause_5 : decode cX3_readClause 5 = .ok (.aload_n 0, 1) := by decide +kernel
theorem dX3_readClause_6 : decode cX3_readClause 6 = .ok (.getfield 47, 3) := by decide +kernel
theorem dX3_readClause_9 : decode cX3_readClause 9 = .ok (.aload_n 0, 1) := by decide +kernel
theorem dX3_readClause_10 : decode cX3_readClause 10 = .ok (.getfield 41, 3) := by decide +kernel
theorem dX3_readClause_13 : decode cX3_readClause 13 = .ok (.if_icmp .ge 44, 3) := by decide +kernel
theorem dX3_readClause_16 : decode cX3_readClause 16 = .ok (.aload_n 0, 1) := by decide +kernel
theorem dX3_readClause_17 : decode cX3_readClause 17 = .ok (.getfield 28, 3) := by decide +kernel
theorem dX3_readClause_20 : decode cX3_readClause 20 = .ok (.aload_n 0, 1) := by decide +kernel
theorem dX3_readClause_21 : decode cX3_readClause 21 = .ok (.getfield 47, 3) := by decide +kernel
theorem dX3_readClause_24 : decode cX3_readClause 24 = .ok (.iaload, 1) := by decide +kernel
theorem dX3_readClause_25 : decode cX3_readClause 25 = .ok (.bipush 97, 2) := by decide +kernel
theorem dX3_readClause_27 : decode cX3_readClause 27 = .ok (.if_icmp .lt 30, 3) := by decide +kernel
theorem dX3_readClause_30 : decode cX3_readClause 30 = .ok (.aload_n 0, 1) := by decide +kernel
theorem dX3_readClause_31 : decode cX3_readClause 31 = .ok (.getfield 28, 3) := by decide +kernel
theorem dX3_readClause_34 : decode cX3_readClause 34 = .ok (.aload_n 0, 1) := by decide +kernel
theorem dX3_readClause_35 : decode cX3_readClause 35 = .ok (.getfield 47, 3) := by decide +kernel
theorem dX3_readClause_38 : decode cX3_readClause 38 = .ok (.iaload, 1) := by decide +kernel
theorem dX3_readClause_39 : decode cX3_readClause 39 = .ok (.bipush 122, 2) := by decide +kernel
theorem dX3_readClause_41 : decode cX3_readClause 41 = .ok (.if_icmp .gt 16, 3) := by decide +kernel
theorem dX3_readClause_44 : decode cX3_readClause 44 = .ok (.aload_n 0, 1) := by decide +kernel
theorem dX3_readClause_45 : decode cX3_readClause 45 = .ok (.dup, 1) := by decide +kernel
theorem dX3_readClause_46 : decode cX3_readClause 46 = .ok (.getfield 47, 3) := by decide +kernel
theorem dX3_readClause_49 : decode cX3_readClause 49 = .ok (.iconst 1, 1) := by decide +kernel
theorem dX3_readClause_50 : decode cX3_readClause 50 = .ok (.iadd, 1) := by decide +kernel
theorem dX3_readClause_51 : decode cX3_readClause 51 = .ok (.putfield 47, 3) := by decide +kernel
theorem dX3_readClause_54 : decode cX3_readClause 54 = .ok (.goto (-49), 3) := by decide +kernel
theorem dX3_readClause_57 : decode cX3_readClause 57 = .ok (.aload_n 0, 1) := by decide +kernel
theorem dX3_readClause_58 : decode cX3_readClause 58 = .ok (.iload_n 1, 1) := by decide +kernel
theorem dX3_readClause_59 : decode cX3_readClause 59 = .ok (.invokevirtual 59, 3) := by decide +kernel
theorem dX3_readClause_62 : decode cX3_readClause 62 = .ok (.istore_n 2, 1) := by decide +kernel
theorem dX3_readClause_63 : decode cX3_readClause 63 = .ok (.aload_n 0, 1) := by decide +kernel
theorem dX3_readClause_64 : decode cX3_readClause 64 = .ok (.iload_n 2, 1) := by decide +kernel
theorem dX3_readClause_65 : decode cX3_readClause 65 = .ok (.invokevirtual 63, 3) := by decide +kernel
theorem dX3_readClause_68 : decode cX3_readClause 68 = .ok (.istore_n 3, 1) := by decide +kernel
theorem dX3_readClause_69 : decode cX3_readClause 69 = .ok (.iload_n 3, 1) := by decide +kernel
theorem dX3_readClause_70 : decode cX3_readClause 70 = .ok (.ifCond .eq 10, 3) := by decide +kernel
theorem dX3_readClause_73 : decode cX3_readClause 73 = .ok (.aload_n 0, 1) := by decide +kernel
theorem dX3_readClause_74 : decode cX3_readClause 74 = .ok (.iload_n 3, 1) := by decide +kernel
theorem dX3_readClause_75 : decode cX3_readClause 75 = .ok (.iload_n 1, 1) := by decide +kernel
theorem dX3_readClause_76 : decode cX3_readClause 76 = .ok (.invokevirtual 66, 3) := by decide +kernel
theorem dX3_readClause_79 : decode cX3_readClause 79 = .ok (.return_, 1) := by decide +kernel
theorem dX3_readClause_80 : decode cX3_readClause 80 = .ok (.iconst 0, 1) := by decide +kernel
theorem dX3_readClause_81 : decode cX3_readClause 81 = .ok (.istore 4, 2) := by decide +kernel
theorem dX3_readClause_83 : decode cX3_readClause 83 = .ok (.iload 4, 2) := by decide +kernel
theorem dX3_readClause_85 : decode cX3_readClause 85 = .ok (.getstatic 70, 3) := by decide +kernel
theorem dX3_readClause_88 : decode cX3_readClause 88 = .ok (.iload_n 2, 1) := by decide +kernel
theorem dX3_readClause_89 : decode cX3_readClause 89 = .ok (.iaload, 1) := by decide +kernel
theorem dX3_readClause_90 : decode cX3_readClause 90 = .ok (.if_icmp .ge 23, 3) := by decide +kernel
theorem dX3_readClause_93 : decode cX3_readClause 93 = .ok (.aload_n 0, 1) := by decide +kernel
theorem dX3_readClause_94 : decode cX3_readClause 94 = .ok (.getfield 15, 3) := by decide +kernel
theorem dX3_readClause_97 : decode cX3_readClause 97 = .ok (.ifCond .ne 16, 3) := by decide +kernel
theorem dX3_readClause_100 : decode cX3_readClause 100 = .ok (.aload_n 0, 1) := by decide +kernel
theorem dX3_readClause_101 : decode cX3_readClause 101 = .ok (.iload_n 2, 1) := by decide +kernel
theorem dX3_readClause_102 : decode cX3_readClause 102 = .ok (.iload 4, 2) := by decide +kernel
theorem dX3_readClause_104 : decode cX3_readClause 104 = .ok (.invokevirtual 73, 3) := by decide +kernel
theorem dX3_readClause_107 : decode cX3_readClause 107 = .ok (.iinc 4 1, 3) := by decide +kernel
theorem dX3_readClause_110 : decode cX3_readClause 110 = .ok (.goto (-27), 3) := by decide +kernel
theorem dX3_readClause_113 : decode cX3_readClause 113 = .ok (.aload_n 0, 1) := by decide +kernel
theorem dX3_readClause_114 : decode cX3_readClause 114 = .ok (.getfield 15, 3) := by decide +kernel
theorem dX3_readClause_117 : decode cX3_readClause 117 = .ok (.ifCond .ne 7, 3) := by decide +kernel
theorem dX3_readClause_120 : decode cX3_readClause 120 = .ok (.aload_n 0, 1) := by decide +kernel
theorem dX3_readClause_121 : decode cX3_readClause 121 = .ok (.invokevirtual 76, 3) := by decide +kernel
theorem dX3_readClause_124 : decode cX3_readClause 124 = .ok (.aload_n 0, 1) := by decide +kernel
theorem dX3_readClause_125 : decode cX3_readClause 125 = .ok (.getfield 15, 3) := by decide +kernel
theorem dX3_readClause_128 : decode cX3_readClause 128 = .ok (.ifCond .ne 18, 3) := by decide +kernel
theorem dX3_readClause_131 : decode cX3_readClause 131 = .ok (.aload_n 0, 1) := by decide +kernel
theorem dX3_readClause_132 : decode cX3_readClause 132 = .ok (.dup, 1) := by decide +kernel
theorem dX3_readClause_133 : decode cX3_readClause 133 = .ok (.getfield 50, 3) := by decide +kernel
theorem dX3_readClause_136 : decode cX3_readClause 136 = .ok (.iconst 1, 1) := by decide +kernel
theorem dX3_readClause_137 : decode cX3_readClause 137 = .ok (.iadd, 1) := by decide +kernel
theorem dX3_readClause_138 : decode cX3_readClause 138 = .ok (.putfield 50, 3) := by decide +kernel
theorem dX3_readClause_141 : decode cX3_readClause 141 = .ok (.aload_n 0, 1) := by decide +kernel
theorem dX3_readClause_142 : decode cX3_readClause 142 = .ok (.iload_n 2, 1) := by decide +kernel
theorem dX3_readClause_143 : decode cX3_readClause 143 = .ok (.invokevirtual 79, 3) := by decide +kernel
theorem dX3_readClause_146 : decode cX3_readClause 146 = .ok (.return_, 1) := by decide +kernel
theorem dX3_kindOf_0 : decode cX3_kindOf 0 = .ok (.aload_n 0, 1) := by decide +kernel
theorem dX3_kindOf_1 : decode cX3_kindOf 1 = .ok (.iload_n 1, 1) := by decide +kernel
theorem dX3_kindOf_2 : decode cX3_kindOf 2 = .ok (.ldc 83, 2) := by decide +kernel
theorem dX3_kindOf_4 : decode cX3_kindOf 4 = .ok (.invokevirtual 85, 3) := by decide +kernel
theorem dX3_kindOf_7 : decode cX3_kindOf 7 = .ok (.ifCond .eq 5, 3) := by decide +kernel
theorem dX3_kindOf_10 : decode cX3_kindOf 10 = .ok (.iconst 0, 1) := by decide +kernel
theorem dX3_kindOf_11 : decode cX3_kindOf 11 = .ok (.ireturn, 1) := by decide +kernel
theorem dX3_kindOf_12 : decode cX3_kindOf 12 = .ok (.aload_n 0, 1) := by decide +kernel
theorem dX3_kindOf_13 : decode cX3_kindOf 13 = .ok (.iload_n 1, 1) := by decide +kernel
theorem dX3_kindOf_14 : decode cX3_kindOf 14 = .ok (.ldc 89, 2) := by decide +kernel
theorem dX3_kindOf_16 : decode cX3_kindOf 16 = .ok (.invokevirtual 85, 3) := by decide +kernel
theorem dX3_kindOf_19 : decode cX3_kindOf 19 = .ok (.ifCond .eq 5, 3) := by decide +kernel
theorem dX3_kindOf_22 : decode cX3_kindOf 22 = .ok (.iconst 1, 1) := by decide +kernel
theorem dX3_kindOf_23 : decode cX3_kindOf 23 = .ok (.ireturn, 1) := by decide +kernel
theorem dX3_kindOf_24 : decode cX3_kindOf 24 = .ok (.aload_n 0, 1) := by decide +kernel
theorem dX3_kindOf_25 : decode cX3_kindOf 25 = .ok (.iload_n 1, 1) := by decide +kernel
theorem dX3_kindOf_26 : decode cX3_kindOf 26 = .ok (.ldc 91, 2) := by decide +kernel
theorem dX3_kindOf_28 : decode cX3_kindOf 28 = .ok (.invokevirtual 85, 3) := by decide +kernel
theorem dX3_kindOf_31 : decode cX3_kindOf 31 = .ok (.ifCond .eq 5, 3) := by decide +kernel
theorem dX3_kindOf_34 : decode cX3_kindOf 34 = .ok (.iconst 2, 1) := by decide +kernel
theorem dX3_kindOf_35 : decode cX3_kindOf 35 = .ok (.ireturn, 1) := by decide +kernel
theorem dX3_kindOf_36 : decode cX3_kindOf 36 = .ok (.aload_n 0, 1) := by decide +kernel
theorem dX3_kindOf_37 : decode cX3_kindOf 37 = .ok (.iload_n 1, 1) := by decide +kernel
theorem dX3_kindOf_38 : decode cX3_kindOf 38 = .ok (.ldc 93, 2) := by decide +kernel
theorem dX3_kindOf_40 : decode cX3_kindOf 40 = .ok (.invokevirtual 85, 3) := by decide +kernel
theorem dX3_kindOf_43 : decode cX3_kindOf 43 = .ok (.ifCond .eq 5, 3) := by decide +kernel
theorem dX3_kindOf_46 : decode cX3_kindOf 46 = .ok (.iconst 3, 1) := by decide +kernel
theorem dX3_kindOf_47 : decode cX3_kindOf 47 = .ok (.ireturn, 1) := by decide +kernel
theorem dX3_kindOf_48 : decode cX3_kindOf 48 = .ok (.aload_n 0, 1) := by decide +kernel
theorem dX3_kindOf_49 : decode cX3_kindOf 49 = .ok (.iload_n 1, 1) := by decide +kernel
theorem dX3_kindOf_50 : decode cX3_kindOf 50 = .ok (.ldc 95, 2) := by decide +kernel
theorem dX3_kindOf_52 : decode cX3_kindOf 52 = .ok (.invokevirtual 85, 3) := by decide +kernel
theorem dX3_kindOf_55 : decode cX3_kindOf 55 = .ok (.ifCond .eq 5, 3) := by decide +kernel
theorem dX3_kindOf_58 : decode cX3_kindOf 58 = .ok (.iconst 4, 1) := by decide +kernel
theorem dX3_kindOf_59 : decode cX3_kindOf 59 = .ok (.ireturn, 1) := by decide +kernel
theorem dX3_kindOf_60 : decode cX3_kindOf 60 = .ok (.aload_n 0, 1) := by decide +kernel
theorem dX3_kindOf_61 : decode cX3_kindOf 61 = .ok (.iload_n 1, 1) := by decide +kernel
theorem dX3_kindOf_62 : decode cX3_kindOf 62 = .ok (.ldc 97, 2) := by decide +kernel
theorem dX3_kindOf_64 : decode cX3_kindOf 64 = .ok (.invokevirtual 85, 3) := by decide +kernel
theorem dX3_kindOf_67 : decode cX3_kindOf 67 = .ok (.ifCond .eq 5, 3) := by decide +kernel
theorem dX3_kindOf_70 : decode cX3_kindOf 70 = .ok (.iconst 5, 1) := by decide +kernel
theorem dX3_kindOf_71 : decode cX3_kindOf 71 = .ok (.ireturn, 1) := by decide +kernel
theorem dX3_kindOf_72 : decode cX3_kindOf 72 = .ok (.aload_n 0, 1) := by decide +kernel
theorem dX3_kindOf_73 : decode cX3_kindOf 73 = .ok (.iload_n 1, 1) := by decide +kernel
theorem dX3_kindOf_74 : decode cX3_kindOf 74 = .ok (.ldc 99, 2) := by decide +kernel
theorem dX3_kindOf_76 : decode cX3_kindOf 76 = .ok (.invokevirtual 85, 3) := by decide +kernel
theorem dX3_kindOf_79 : decode cX3_kindOf 79 = .ok (.ifCond .eq 6, 3) := by decide +kernel
theorem dX3_kindOf_82 : decode cX3_kindOf 82 = .ok (.bipush 6, 2) := by decide +kernel
theorem dX3_kindOf_84 : decode cX3_kindOf 84 = .ok (.ireturn, 1) := by decide +kernel
theorem dX3_kindOf_85 : decode cX3_kindOf 85 = .ok (.aload_n 0, 1) := by decide +kernel
theorem dX3_kindOf_86 : decode cX3_kindOf 86 = .ok (.iload_n 1, 1) := by decide +kernel
theorem dX3_kindOf_87 : decode cX3_kindOf 87 = .ok (.ldc 101, 2) := by decide +kernel
theorem dX3_kindOf_89 : decode cX3_kindOf 89 = .ok (.invokevirtual 85, 3) := by decide +kernel
theorem dX3_kindOf_92 : decode cX3_kindOf 92 = .ok (.ifCond .eq 8, 3) := by decide +kernel
theorem dX3_kindOf_95 : decode cX3_kindOf 95 = .ok (.bipush 7, 2) := by decide +kernel
theorem dX3_kindOf_97 : decode cX3_kindOf 97 = .ok (.goto 4, 3) := by decide +kernel
theorem dX3_kindOf_100 : decode cX3_kindOf 100 = .ok (.iconst (-1), 1) := by decide +kernel
theorem dX3_kindOf_101 : decode cX3_kindOf 101 = .ok (.ireturn, 1) := by decide +kernel
theorem dX3_isWord_0 : decode cX3_isWord 0 = .ok (.aload_n 0, 1) := by decide +kernel
theorem dX3_isWord_1 : decode cX3_isWord 1 = .ok (.getfield 47, 3) := by decide +kernel
theorem dX3_isWord_4 : decode cX3_isWord 4 = .ok (.iload_n 1, 1) := by decide +kernel
theorem dX3_isWord_5 : decode cX3_isWord 5 = .ok (.isub, 1) := by decide +kernel
theorem dX3_isWord_6 : decode cX3_isWord 6 = .ok (.aload_n 2, 1) := by decide +kernel
theorem dX3_isWord_7 : decode cX3_isWord 7 = .ok (.invokevirtual 103, 3) := by decide +kernel
theorem dX3_isWord_10 : decode cX3_isWord 10 = .ok (.if_icmp .eq 5, 3) := by decide +kernel
theorem dX3_isWord_13 : decode cX3_isWord 13 = .ok (.iconst 0, 1) := by decide +kernel
theorem dX3_isWord_14 : decode cX3_isWord 14 = .ok (.ireturn, 1) := by decide +kernel
theorem dX3_isWord_15 : decode cX3_isWord 15 = .ok (.iconst 0, 1) := by decide +kernel
theorem dX3_isWord_16 : decode cX3_isWord 16 = .ok (.istore_n 3, 1) := by decide +kernel
theorem dX3_isWord_17 : decode cX3_isWord 17 = .ok (.iload_n 3, 1) := by decide +kernel
theorem dX3_isWord_18 : decode cX3_isWord 18 = .ok (.aload_n 2, 1) := by decide +kernel
theorem dX3_isWord_19 : decode cX3_isWord 19 = .ok (.invokevirtual 103, 3) := by decide +kernel
theorem dX3_isWord_22 : decode cX3_isWord 22 = .ok (.if_icmp .ge 27, 3) := by decide +kernel
theorem dX3_isWord_25 : decode cX3_isWord 25 = .ok (.aload_n 0, 1) := by decide +kernel
theorem dX3_isWord_26 : decode cX3_isWord 26 = .ok (.getfield 28, 3) := by decide +kernel
theorem dX3_isWord_29 : decode cX3_isWord 29 = .ok (.iload_n 1, 1) := by decide +kernel
theorem dX3_isWord_30 : decode cX3_isWord 30 = .ok (.iload_n 3, 1) := by decide +kernel
theorem dX3_isWord_31 : decode cX3_isWord 31 = .ok (.iadd, 1) := by decide +kernel
theorem dX3_isWord_32 : decode cX3_isWord 32 = .ok (.iaload, 1) := by decide +kernel
theorem dX3_isWord_33 : decode cX3_isWord 33 = .ok (.aload_n 2, 1) := by decide +kernel
theorem dX3_isWord_34 : decode cX3_isWord 34 = .ok (.iload_n 3, 1) := by decide +kernel
theorem dX3_isWord_35 : decode cX3_isWord 35 = .ok (.invokevirtual 108, 3) := by decide +kernel
theorem dX3_isWord_38 : decode cX3_isWord 38 = .ok (.if_icmp .eq 5, 3) := by decide +kernel
theorem dX3_isWord_41 : decode cX3_isWord 41 = .ok (.iconst 0, 1) := by decide +kernel
theorem dX3_isWord_42 : decode cX3_isWord 42 = .ok (.ireturn, 1) := by decide +kernel
theorem dX3_isWord_43 : decode cX3_isWord 43 = .ok (.iinc 3 1, 3) := by decide +kernel
theorem dX3_isWord_46 : decode cX3_isWord 46 = .ok (.goto (-29), 3) := by decide +kernel
theorem dX3_isWord_49 : decode cX3_isWord 49 = .ok (.iconst 1, 1) := by decide +kernel
theorem dX3_isWord_50 : decode cX3_isWord 50 = .ok (.ireturn, 1) := by decide +kernel
theorem dX3_faultOfWord_0 : decode cX3_faultOfWord 0 = .ok (.iload_n 1, 1) := by decide +kernel
theorem dX3_faultOfWord_1 : decode cX3_faultOfWord 1 = .ok (.iconst (-1), 1) := by decide +kernel
theorem dX3_faultOfWord_2 : decode cX3_faultOfWord 2 = .ok (.if_icmp .ne 5, 3) := by decide +kernel
theorem dX3_faultOfWord_5 : decode cX3_faultOfWord 5 = .ok (.iconst 1, 1) := by decide +kernel
theorem dX3_faultOfWord_6 : decode cX3_faultOfWord 6 = .ok (.ireturn, 1) := by decide +kernel
theorem dX3_faultOfWord_7 : decode cX3_faultOfWord 7 = .ok (.aload_n 0, 1) := by decide +kernel
theorem dX3_faultOfWord_8 : decode cX3_faultOfWord 8 = .ok (.getfield 50, 3) := by decide +kernel
theorem dX3_faultOfWord_11 : decode cX3_faultOfWord 11 = .ok (.bipush 60, 2) := by decide +kernel
theorem dX3_faultOfWord_13 : decode cX3_faultOfWord 13 = .ok (.if_icmp .ge 11, 3) := by decide +kernel
theorem dX3_faultOfWord_16 : decode cX3_faultOfWord 16 = .ok (.aload_n 0, 1) := by decide +kernel
theorem dX3_faultOfWord_17 : decode cX3_faultOfWord 17 = .ok (.iload_n 1, 1) := by decide +kernel
theorem dX3_faultOfWord_18 : decode cX3_faultOfWord 18 = .ok (.invokevirtual 112, 3) := by decide +kernel
theorem dX3_faultOfWord_21 : decode cX3_faultOfWord 21 = .ok (.ifCond .eq 5, 3) := by decide +kernel
theorem dX3_faultOfWord_24 : decode cX3_faultOfWord 24 = .ok (.iconst 3, 1) := by decide +kernel
theorem dX3_faultOfWord_25 : decode cX3_faultOfWord 25 = .ok (.ireturn, 1) := by decide +kernel
theorem dX3_faultOfWord_26 : decode cX3_faultOfWord 26 = .ok (.iload_n 1, 1) := by decide +kernel
theorem dX3_faultOfWord_27 : decode cX3_faultOfWord 27 = .ok (.ifCond .ne 14, 3) := by decide +kernel
theorem dX3_faultOfWord_30 : decode cX3_faultOfWord 30 = .ok (.aload_n 0, 1) := by decide +kernel
theorem dX3_faultOfWord_31 : decode cX3_faultOfWord 31 = .ok (.getfield 50, 3) := by decide +kernel
theorem dX3_faultOfWord_34 : decode cX3_faultOfWord 34 = .ok (.ifCond .le 7, 3) := by decide +kernel
theorem dX3_faultOfWord_37 : decode cX3_faultOfWord 37 = .ok (.iconst 4, 1) := by decide +kernel
theorem dX3_faultOfWord_38 : decode cX3_faultOfWord 38 = .ok (.goto 4, 3) := by decide +kernel
theorem dX3_faultOfWord_41 : decode cX3_faultOfWord 41 = .ok (.iconst 0, 1) := by decide +kernel
theorem dX3_faultOfWord_42 : decode cX3_faultOfWord 42 = .ok (.ireturn, 1) := by decide +kernel
theorem dX3_isOneTooMany_0 : decode cX3_isOneTooMany 0 = .ok (.iload_n 1, 1) := by decide +kernel
theorem dX3_isOneTooMany_1 : decode cX3_isOneTooMany 1 = .ok (.tableswitch 110 1 6 #[39, 57, 74, 110, 110, 92], 39) := by decide +kernel
theorem dX3_isOneTooMany_40 : decode cX3_isOneTooMany 40 = .ok (.aload_n 0, 1) := by decide +kernel
theorem dX3_isOneTooMany_41 : decode cX3_isOneTooMany 41 = .ok (.getfield 24, 3) := by decide +kernel
theorem dX3_isOneTooMany_44 : decode cX3_isOneTooMany 44 = .ok (.getfield 116, 3) := by decide +kernel
theorem dX3_isOneTooMany_47 : decode cX3_isOneTooMany 47 = .ok (.bipush 10, 2) := by decide +kernel
theorem dX3_isOneTooMany_49 : decode cX3_isOneTooMany 49 = .ok (.if_icmp .lt 7, 3) := by decide +kernel
theorem dX3_isOneTooMany_52 : decode cX3_isOneTooMany 52 = .ok (.iconst 1, 1) := by decide +kernel
theorem dX3_isOneTooMany_53 : decode cX3_isOneTooMany 53 = .ok (.goto 4, 3) := by decide +kernel
theorem dX3_isOneTooMany_56 : decode cX3_isOneTooMany 56 = .ok (.iconst 0, 1) := by decide +kernel
theorem dX3_isOneTooMany_57 : decode cX3_isOneTooMany 57 = .ok (.ireturn, 1) := by decide +kernel
theorem dX3_isOneTooMany_58 : decode cX3_isOneTooMany 58 = .ok (.aload_n 0, 1) := by decide +kernel
theorem dX3_isOneTooMany_59 : decode cX3_isOneTooMany 59 = .ok (.getfield 24, 3) := by decide +kernel
theorem dX3_isOneTooMany_62 : decode cX3_isOneTooMany 62 = .ok (.getfield 119, 3) := by decide +kernel
theorem dX3_isOneTooMany_65 : decode cX3_isOneTooMany 65 = .ok (.iconst 4, 1) := by decide +kernel
theorem dX3_isOneTooMany_66 : decode cX3_isOneTooMany 66 = .ok (.if_icmp .lt 7, 3) := by decide +kernel
theorem dX3_isOneTooMany_69 : decode cX3_isOneTooMany 69 = .ok (.iconst 1, 1) := by decide +kernel
theorem dX3_isOneTooMany_70 : decode cX3_isOneTooMany 70 = .ok (.goto 4, 3) := by decide +kernel
theorem dX3_isOneTooMany_73 : decode cX3_isOneTooMany 73 = .ok (.iconst 0, 1) := by decide +kernel
theorem dX3_isOneTooMany_74 : decode cX3_isOneTooMany 74 = .ok (.ireturn, 1) := by decide +kernel
theorem dX3_isOneTooMany_75 : decode cX3_isOneTooMany 75 = .ok (.aload_n 0, 1) := by decide +kernel
theorem dX3_isOneTooMany_76 : decode cX3_isOneTooMany 76 = .ok (.getfield 24, 3) := by decide +kernel
theorem dX3_isOneTooMany_79 : decode cX3_isOneTooMany 79 = .ok (.getfield 122, 3) := by decide +kernel
theorem dX3_isOneTooMany_82 : decode cX3_isOneTooMany 82 = .ok (.bipush 14, 2) := by decide +kernel
theorem dX3_isOneTooMany_84 : decode cX3_isOneTooMany 84 = .ok (.if_icmp .lt 7, 3) := by decide +kernel
theorem dX3_isOneTooMany_87 : decode cX3_isOneTooMany 87 = .ok (.iconst 1, 1) := by decide +kernel
theorem dX3_isOneTooMany_88 : decode cX3_isOneTooMany 88 = .ok (.goto 4, 3) := by decide +kernel
theorem dX3_isOneTooMany_91 : decode cX3_isOneTooMany 91 = .ok (.iconst 0, 1) := by decide +kernel
theorem dX3_isOneTooMany_92 : decode cX3_isOneTooMany 92 = .ok (.ireturn, 1) := by decide +kernel
theorem dX3_isOneTooMany_93 : decode cX3_isOneTooMany 93 = .ok (.aload_n 0, 1) := by decide +kernel
theorem dX3_isOneTooMany_94 : decode cX3_isOneTooMany 94 = .ok (.getfield 24, 3) := by decide +kernel
theorem dX3_isOneTooMany_97 : decode cX3_isOneTooMany 97 = .ok (.getfield 125, 3) := by decide +kernel
theorem dX3_isOneTooMany_100 : decode cX3_isOneTooMany 100 = .ok (.bipush 8, 2) := by decide +kernel
theorem dX3_isOneTooMany_102 : decode cX3_isOneTooMany 102 = .ok (.if_icmp .lt 7, 3) := by decide +kernel
theorem dX3_isOneTooMany_105 : decode cX3_isOneTooMany 105 = .ok (.iconst 1, 1) := by decide +kernel
theorem dX3_isOneTooMany_106 : decode cX3_isOneTooMany 106 = .ok (.goto 4, 3) := by decide +kernel
theorem dX3_isOneTooMany_109 : decode cX3_isOneTooMany 109 = .ok (.iconst 0, 1) := by decide +kernel
theorem dX3_isOneTooMany_110 : decode cX3_isOneTooMany 110 = .ok (.ireturn, 1) := by decide +kernel
theorem dX3_isOneTooMany_111 : decode cX3_isOneTooMany 111 = .ok (.iconst 0, 1) := by decide +kernel
theorem dX3_isOneTooMany_112 : decode cX3_isOneTooMany 112 = .ok (.ireturn, 1) := by decide +kernel
theorem dX3_readNumber_0 : decode cX3_readNumber 0 = .ok (.aload_n 0, 1) := by decide +kernel
theorem dX3_readNumber_1 : decode cX3_readNumber 1 = .ok (.invokevirtual 53, 3) := by decide +kernel
theorem dX3_readNumber_4 : decode cX3_readNumber 4 = .ok (.aload_n 0, 1) := by decide +kernel
theorem dX3_readNumber_5 : decode cX3_readNumber 5 = .ok (.getfield 47, 3) := by decide +kernel
theorem dX3_readNumber_8 : decode cX3_readNumber 8 = .ok (.istore_n 3, 1) := by decide +kernel
theorem dX3_readNumber_9 : decode cX3_readNumber 9 = .ok (.iconst 0, 1) := by decide +kernel
theorem dX3_readNumber_10 : decode cX3_readNumber 10 = .ok (.istore 4, 2) := by decide +kernel
theorem dX3_readNumber_12 : decode cX3_readNumber 12 = .ok (.aload_n 0, 1) := by decide +kernel
theorem dX3_readNumber_13 : decode cX3_readNumber 13 = .ok (.getfield 47, 3) := by decide +kernel
theorem dX3_readNumber_16 : decode cX3_readNumber 16 = .ok (.aload_n 0, 1) := by decide +kernel
theorem dX3_readNumber_17 : decode cX3_readNumber 17 = .ok (.getfield 41, 3) := by decide +kernel
theorem dX3_readNumber_20 : decode cX3_readNumber 20 = .ok (.if_icmp .ge 69, 3) := by decide +kernel
theorem dX3_readNumber_23 : decode cX3_readNumber 23 = .ok (.aload_n 0, 1) := by decide +kernel
theorem dX3_readNumber_24 : decode cX3_readNumber 24 = .ok (.getfield 28, 3) := by decide +kernel
theorem dX3_readNumber_27 : decode cX3_readNumber 27 = .ok (.aload_n 0, 1) := by decide +kernel
theorem dX3_readNumber_28 : decode cX3_readNumber 28 = .ok (.getfield 47, 3) := by decide +kernel
theorem dX3_readNumber_31 : decode cX3_readNumber 31 = .ok (.iaload, 1) := by decide +kernel
theorem dX3_readNumber_32 : decode cX3_readNumber 32 = .ok (.bipush 48, 2) := by decide +kernel
theorem dX3_readNumber_34 : decode cX3_readNumber 34 = .ok (.if_icmp .lt 55, 3) := by decide +kernel
theorem dX3_readNumber_37 : decode cX3_readNumber 37 = .ok (.aload_n 0, 1) := by decide +kernel
theorem dX3_readNumber_38 : decode cX3_readNumber 38 = .ok (.getfield 28, 3) := by decide +kernel
theorem dX3_readNumber_41 : decode cX3_readNumber 41 = .ok (.aload_n 0, 1) := by decide +kernel
theorem dX3_readNumber_42 : decode cX3_readNumber 42 = .ok (.getfield 47, 3) := by decide +kernel
theorem dX3_readNumber_45 : decode cX3_readNumber 45 = .ok (.iaload, 1) := by decide +kernel
theorem dX3_readNumber_46 : decode cX3_readNumber 46 = .ok (.bipush 57, 2) := by decide +kernel
theorem dX3_readNumber_48 : decode cX3_readNumber 48 = .ok (.if_icmp .gt 41, 3) := by decide +kernel
theorem dX3_readNumber_51 : decode cX3_readNumber 51 = .ok (.ldc 128, 2) := by decide +kernel
theorem dX3_readNumber_53 : decode cX3_readNumber 53 = .ok (.iload 4, 2) := by decide +kernel
theorem dX3_readNumber_55 : decode cX3_readNumber 55 = .ok (.bipush 10, 2) := by decide +kernel
theorem dX3_readNumber_57 : decode cX3_readNumber 57 = .ok (.imul, 1) := by decide +kernel
theorem dX3_readNumber_58 : decode cX3_readNumber 58 = .ok (.aload_n 0, 1) := by decide +kernel
theorem dX3_readNumber_59 : decode cX3_readNumber 59 = .ok (.getfield 28, 3) := by decide +kernel
theorem dX3_readNumber_62 : decode cX3_readNumber 62 = .ok (.aload_n 0, 1) := by decide +kernel
theorem dX3_readNumber_63 : decode cX3_readNumber 63 = .ok (.getfield 47, 3) := by decide +kernel
theorem dX3_readNumber_66 : decode cX3_readNumber 66 = .ok (.iaload, 1) := by decide +kernel
theorem dX3_readNumber_67 : decode cX3_readNumber 67 = .ok (.iadd, 1) := by decide +kernel
theorem dX3_readNumber_68 : decode cX3_readNumber 68 = .ok (.bipush 48, 2) := by decide +kernel
theorem dX3_readNumber_70 : decode cX3_readNumber 70 = .ok (.isub, 1) := by decide +kernel
theorem dX3_readNumber_71 : decode cX3_readNumber 71 = .ok (.invokestatic 35, 3) := by decide +kernel
theorem dX3_readNumber_74 : decode cX3_readNumber 74 = .ok (.istore 4, 2) := by decide +kernel
theorem dX3_readNumber_76 : decode cX3_readNumber 76 = .ok (.aload_n 0, 1) := by decide +kernel
theorem dX3_readNumber_77 : decode cX3_readNumber 77 = .ok (.dup, 1) := by decide +kernel
theorem dX3_readNumber_78 : decode cX3_readNumber 78 = .ok (.getfield 47, 3) := by decide +kernel
theorem dX3_readNumber_81 : decode cX3_readNumber 81 = .ok (.iconst 1, 1) := by decide +kernel
theorem dX3_readNumber_82 : decode cX3_readNumber 82 = .ok (.iadd, 1) := by decide +kernel
theorem dX3_readNumber_83 : decode cX3_readNumber 83 = .ok (.putfield 47, 3) := by decide +kernel
theorem dX3_readNumber_86 : decode cX3_readNumber 86 = .ok (.goto (-74), 3) := by decide +kernel
theorem dX3_readNumber_89 : decode cX3_readNumber 89 = .ok (.aload_n 0, 1) := by decide +kernel
theorem dX3_readNumber_90 : decode cX3_readNumber 90 = .ok (.getfield 47, 3) := by decide +kernel
theorem dX3_readNumber_93 : decode cX3_readNumber 93 = .ok (.iload_n 3, 1) := by decide +kernel
theorem dX3_readNumber_94 : decode cX3_readNumber 94 = .ok (.if_icmp .ne 12, 3) := by decide +kernel
theorem dX3_readNumber_97 : decode cX3_readNumber 97 = .ok (.aload_n 0, 1) := by decide +kernel
theorem dX3_readNumber_98 : decode cX3_readNumber 98 = .ok (.iconst 1, 1) := by decide +kernel
theorem dX3_readNumber_99 : decode cX3_readNumber 99 = .ok (.iload_n 3, 1) := by decide +kernel
theorem dX3_readNumber_100 : decode cX3_readNumber 100 = .ok (.invokevirtual 66, 3) := by decide +kernel
theorem dX3_readNumber_103 : decode cX3_readNumber 103 = .ok (.goto 53, 3) := by decide +kernel
theorem dX3_readNumber_106 : decode cX3_readNumber 106 = .ok (.iload 4, 2) := by decide +kernel
theorem dX3_readNumber_108 : decode cX3_readNumber 108 = .ok (.aload_n 0, 1) := by decide +kernel
theorem dX3_readNumber_109 : decode cX3_readNumber 109 = .ok (.iload_n 1, 1) := by decide +kernel
theorem dX3_readNumber_110 : decode cX3_readNumber 110 = .ok (.iload_n 2, 1) := by decide +kernel
theorem dX3_readNumber_111 : decode cX3_readNumber 111 = .ok (.invokevirtual 129, 3) := by decide +kernel
theorem dX3_readNumber_114 : decode cX3_readNumber 114 = .ok (.if_icmp .lt 25, 3) := by decide +kernel
theorem dX3_readNumber_117 : decode cX3_readNumber 117 = .ok (.iload 4, 2) := by decide +kernel
theorem dX3_readNumber_119 : decode cX3_readNumber 119 = .ok (.aload_n 0, 1) := by decide +kernel
theorem dX3_readNumber_120 : decode cX3_readNumber 120 = .ok (.iload_n 1, 1) := by decide +kernel
theorem dX3_readNumber_121 : decode cX3_readNumber 121 = .ok (.iload_n 2, 1) := by decide +kernel
theorem dX3_readNumber_122 : decode cX3_readNumber 122 = .ok (.invokevirtual 132, 3) := by decide +kernel
theorem dX3_readNumber_125 : decode cX3_readNumber 125 = .ok (.if_icmp .gt 14, 3) := by decide +kernel
theorem dX3_readNumber_128 : decode cX3_readNumber 128 = .ok (.aload_n 0, 1) := by decide +kernel
theorem dX3_readNumber_129 : decode cX3_readNumber 129 = .ok (.iload_n 1, 1) := by decide +kernel
theorem dX3_readNumber_130 : decode cX3_readNumber 130 = .ok (.iload_n 2, 1) := by decide +kernel
theorem dX3_readNumber_131 : decode cX3_readNumber 131 = .ok (.iload 4, 2) := by decide +kernel
theorem dX3_readNumber_133 : decode cX3_readNumber 133 = .ok (.invokevirtual 135, 3) := by decide +kernel
theorem dX3_readNumber_136 : decode cX3_readNumber 136 = .ok (.ifCond .eq 12, 3) := by decide +kernel
theorem dX3_readNumber_139 : decode cX3_readNumber 139 = .ok (.aload_n 0, 1) := by decide +kernel
theorem dX3_readNumber_140 : decode cX3_readNumber 140 = .ok (.iconst 2, 1) := by decide +kernel
theorem dX3_readNumber_141 : decode cX3_readNumber 141 = .ok (.iload_n 3, 1) := by decide +kernel
theorem dX3_readNumber_142 : decode cX3_readNumber 142 = .ok (.invokevirtual 66, 3) := by decide +kernel
theorem dX3_readNumber_145 : decode cX3_readNumber 145 = .ok (.goto 11, 3) := by decide +kernel
theorem dX3_readNumber_148 : decode cX3_readNumber 148 = .ok (.aload_n 0, 1) := by decide +kernel
theorem dX3_readNumber_149 : decode cX3_readNumber 149 = .ok (.getfield 32, 3) := by decide +kernel
theorem dX3_readNumber_152 : decode cX3_readNumber 152 = .ok (.iload_n 2, 1) := by decide +kernel
theorem dX3_readNumber_153 : decode cX3_readNumber 153 = .ok (.iload 4, 2) := by decide +kernel
theorem dX3_readNumber_155 : decode cX3_readNumber 155 = .ok (.iastore, 1) := by decide +kernel
theorem dX3_readNumber_156 : decode cX3_readNumber 156 = .ok (.return_, 1) := by decide +kernel
theorem dX3_readEnd_0 : decode cX3_readEnd 0 = .ok (.aload_n 0, 1) := by decide +kernel
theorem dX3_readEnd_1 : decode cX3_readEnd 1 = .ok (.invokevirtual 53, 3) := by decide +kernel
theorem dX3_readEnd_4 : decode cX3_readEnd 4 = .ok (.aload_n 0, 1) := by decide +kernel
theorem dX3_readEnd_5 : decode cX3_readEnd 5 = .ok (.getfield 47, 3) := by decide +kernel
theorem dX3_readEnd_8 : decode cX3_readEnd 8 = .ok (.aload_n 0, 1) := by decide +kernel
theorem dX3_readEnd_9 : decode cX3_readEnd 9 = .ok (.getfield 41, 3) := by decide +kernel
theorem dX3_readEnd_12 : decode cX3_readEnd 12 = .ok (.if_icmp .ge 30, 3) := by decide +kernel
theorem dX3_readEnd_15 : decode cX3_readEnd 15 = .ok (.aload_n 0, 1) := by decide +kernel
theorem dX3_readEnd_16 : decode cX3_readEnd 16 = .ok (.getfield 28, 3) := by decide +kernel
theorem dX3_readEnd_19 : decode cX3_readEnd 19 = .ok (.aload_n 0, 1) := by decide +kernel
theorem dX3_readEnd_20 : decode cX3_readEnd 20 = .ok (.getfield 47, 3) := by decide +kernel
theorem dX3_readEnd_23 : decode cX3_readEnd 23 = .ok (.iaload, 1) := by decide +kernel
theorem dX3_readEnd_24 : decode cX3_readEnd 24 = .ok (.bipush 59, 2) := by decide +kernel
theorem dX3_readEnd_26 : decode cX3_readEnd 26 = .ok (.if_icmp .ne 16, 3) := by decide +kernel
theorem dX3_readEnd_29 : decode cX3_readEnd 29 = .ok (.aload_n 0, 1) := by decide +kernel
theorem dX3_readEnd_30 : decode cX3_readEnd 30 = .ok (.dup, 1) := by decide +kernel
theorem dX3_readEnd_31 : decode cX3_readEnd 31 = .ok (.getfield 47, 3) := by decide +kernel
theorem dX3_readEnd_34 : decode cX3_readEnd 34 = .ok (.iconst 1, 1) := by decide +kernel
theorem dX3_readEnd_35 : decode cX3_readEnd 35 = .ok (.iadd, 1) := by decide +kernel
theorem dX3_readEnd_36 : decode cX3_readEnd 36 = .ok (.putfield 47, 3) := by decide +kernel
theorem dX3_readEnd_39 : decode cX3_readEnd 39 = .ok (.goto 12, 3) := by decide +kernel
theorem dX3_readEnd_42 : decode cX3_readEnd 42 = .ok (.aload_n 0, 1) := by decide +kernel
theorem dX3_readEnd_43 : decode cX3_readEnd 43 = .ok (.iconst 1, 1) := by decide +kernel
theorem dX3_readEnd_44 : decode cX3_readEnd 44 = .ok (.aload_n 0, 1) := by decide +kernel
theorem dX3_readEnd_45 : decode cX3_readEnd 45 = .ok (.getfield 47, 3) := by decide +kernel
theorem dX3_readEnd_48 : decode cX3_readEnd 48 = .ok (.invokevirtual 66, 3) := by decide +kernel
theorem dX3_readEnd_51 : decode cX3_readEnd 51 = .ok (.return_, 1) := by decide +kernel
theorem dX3_isSameEnd_0 : decode cX3_isSameEnd 0 = .ok (.iload_n 1, 1) := by decide +kernel
theorem dX3_isSameEnd_1 : decode cX3_isSameEnd 1 = .ok (.iconst 1, 1) := by decide +kernel
theorem dX3_isSameEnd_2 : decode cX3_isSameEnd 2 = .ok (.if_icmp .eq 13, 3) := by decide +kernel
theorem dX3_isSameEnd_5 : decode cX3_isSameEnd 5 = .ok (.iload_n 1, 1) := by decide +kernel
theorem dX3_isSameEnd_6 : decode cX3_isSameEnd 6 = .ok (.iconst 2, 1) := by decide +kernel
theorem dX3_isSameEnd_7 : decode cX3_isSameEnd 7 = .ok (.if_icmp .eq 8, 3) := by decide +kernel
theorem dX3_isSameEnd_10 : decode cX3_isSameEnd 10 = .ok (.iload_n 1, 1) := by decide +kernel
theorem dX3_isSameEnd_11 : decode cX3_isSameEnd 11 = .ok (.iconst 3, 1) := by decide +kernel
theorem dX3_isSameEnd_12 : decode cX3_isSameEnd 12 = .ok (.if_icmp .ne 22, 3) := by decide +kernel
theorem dX3_isSameEnd_15 : decode cX3_isSameEnd 15 = .ok (.iload_n 2, 1) := by decide +kernel
theorem dX3_isSameEnd_16 : decode cX3_isSameEnd 16 = .ok (.iconst 1, 1) := by decide +kernel
theorem dX3_isSameEnd_17 : decode cX3_isSameEnd 17 = .ok (.if_icmp .ne 17, 3) := by decide +kernel
theorem dX3_isSameEnd_20 : decode cX3_isSameEnd 20 = .ok (.iload_n 3, 1) := by decide +kernel
theorem dX3_isSameEnd_21 : decode cX3_isSameEnd 21 = .ok (.aload_n 0, 1) := by decide +kernel
theorem dX3_isSameEnd_22 : decode cX3_isSameEnd 22 = .ok (.getfield 32, 3) := by decide +kernel
theorem dX3_isSameEnd_25 : decode cX3_isSameEnd 25 = .ok (.iconst 0, 1) := by decide +kernel
theorem dX3_isSameEnd_26 : decode cX3_isSameEnd 26 = .ok (.iaload, 1) := by decide +kernel
theorem dX3_isSameEnd_27 : decode cX3_isSameEnd 27 = .ok (.if_icmp .ne 7, 3) := by decide +kernel
theorem dX3_isSameEnd_30 : decode cX3_isSameEnd 30 = .ok (.iconst 1, 1) := by decide +kernel
theorem dX3_isSameEnd_31 : decode cX3_isSameEnd 31 = .ok (.goto 4, 3) := by decide +kernel
theorem dX3_isSameEnd_34 : decode cX3_isSameEnd 34 = .ok (.iconst 0, 1) := by decide +kernel
theorem dX3_isSameEnd_35 : decode cX3_isSameEnd 35 = .ok (.ireturn, 1) := by decide +kernel
theorem dX3_leastOf_0 : decode cX3_leastOf 0 = .ok (.iload_n 1, 1) := by decide +kernel
theorem dX3_leastOf_1 : decode cX3_leastOf 1 = .ok (.tableswitch 73 0 7 #[47, 49, 49, 55, 61, 73, 73, 71], 47) := by decide +kernel
theorem dX3_leastOf_48 : decode cX3_leastOf 48 = .ok (.iconst 2, 1) := by decide +kernel
theorem dX3_leastOf_49 : decode cX3_leastOf 49 = .ok (.ireturn, 1) := by decide +kernel
theorem dX3_leastOf_50 : decode cX3_leastOf 50 = .ok (.getstatic 139, 3) := by decide +kernel
theorem dX3_leastOf_53 : decode cX3_leastOf 53 = .ok (.iload_n 2, 1) := by decide +kernel
theorem dX3_leastOf_54 : decode cX3_leastOf 54 = .ok (.iaload, 1) := by decide +kernel
theorem dX3_leastOf_55 : decode cX3_leastOf 55 = .ok (.ireturn, 1) := by decide +kernel
theorem dX3_leastOf_56 : decode cX3_leastOf 56 = .ok (.getstatic 142, 3) := by decide +kernel
theorem dX3_leastOf_59 : decode cX3_leastOf 59 = .ok (.iload_n 2, 1) := by decide +kernel
theorem dX3_leastOf_60 : decode cX3_leastOf 60 = .ok (.iaload, 1) := by decide +kernel
theorem dX3_leastOf_61 : decode cX3_leastOf 61 = .ok (.ireturn, 1) := by decide +kernel
theorem dX3_leastOf_62 : decode cX3_leastOf 62 = .ok (.iload_n 2, 1) := by decide +kernel
theorem dX3_leastOf_63 : decode cX3_leastOf 63 = .ok (.ifCond .ne 7, 3) := by decide +kernel
theorem dX3_leastOf_66 : decode cX3_leastOf 66 = .ok (.iconst 0, 1) := by decide +kernel
theorem dX3_leastOf_67 : decode cX3_leastOf 67 = .ok (.goto 4, 3) := by decide +kernel
theorem dX3_leastOf_70 : decode cX3_leastOf 70 = .ok (.iconst 1, 1) := by decide +kernel
theorem dX3_leastOf_71 : decode cX3_leastOf 71 = .ok (.ireturn, 1) := by decide +kernel
theorem dX3_leastOf_72 : decode cX3_leastOf 72 = .ok (.iconst 3, 1) := by decide +kernel
theorem dX3_leastOf_73 : decode cX3_leastOf 73 = .ok (.ireturn, 1) := by decide +kernel
theorem dX3_leastOf_74 : decode cX3_leastOf 74 = .ok (.iconst 0, 1) := by decide +kernel
theorem dX3_leastOf_75 : decode cX3_leastOf 75 = .ok (.ireturn, 1) := by decide +kernel
theorem dX3_mostOf_0 : decode cX3_mostOf 0 = .ok (.iload_n 1, 1) := by decide +kernel
theorem dX3_mostOf_1 : decode cX3_mostOf 1 = .ok (.tableswitch 134 0 6 #[43, 46, 46, 69, 92, 111, 130], 43) := by decide +kernel
theorem dX3_mostOf_44 : decode cX3_mostOf 44 = .ok (.bipush 12, 2) := by decide +kernel
theorem dX3_mostOf_46 : decode cX3_mostOf 46 = .ok (.ireturn, 1) := by decide +kernel
theorem dX3_mostOf_47 : decode cX3_mostOf 47 = .ok (.iload_n 2, 1) := by decide +kernel
theorem dX3_mostOf_48 : decode cX3_mostOf 48 = .ok (.iconst 1, 1) := by decide +kernel
theorem dX3_mostOf_49 : decode cX3_mostOf 49 = .ok (.if_icmp .gt 15, 3) := by decide +kernel
theorem dX3_mostOf_52 : decode cX3_mostOf 52 = .ok (.aload_n 0, 1) := by decide +kernel
theorem dX3_mostOf_53 : decode cX3_mostOf 53 = .ok (.getfield 24, 3) := by decide +kernel
theorem dX3_mostOf_56 : decode cX3_mostOf 56 = .ok (.getfield 145, 3) := by decide +kernel
theorem dX3_mostOf_59 : decode cX3_mostOf 59 = .ok (.iconst 1, 1) := by decide +kernel
theorem dX3_mostOf_60 : decode cX3_mostOf 60 = .ok (.isub, 1) := by decide +kernel
theorem dX3_mostOf_61 : decode cX3_mostOf 61 = .ok (.goto 8, 3) := by decide +kernel
theorem dX3_mostOf_64 : decode cX3_mostOf 64 = .ok (.getstatic 147, 3) := by decide +kernel
theorem dX3_mostOf_67 : decode cX3_mostOf 67 = .ok (.iload_n 2, 1) := by decide +kernel
theorem dX3_mostOf_68 : decode cX3_mostOf 68 = .ok (.iaload, 1) := by decide +kernel
theorem dX3_mostOf_69 : decode cX3_mostOf 69 = .ok (.ireturn, 1) := by decide +kernel
theorem dX3_mostOf_70 : decode cX3_mostOf 70 = .ok (.iload_n 2, 1) := by decide +kernel
theorem dX3_mostOf_71 : decode cX3_mostOf 71 = .ok (.iconst 1, 1) := by decide +kernel
theorem dX3_mostOf_72 : decode cX3_mostOf 72 = .ok (.if_icmp .gt 15, 3) := by decide +kernel
theorem dX3_mostOf_75 : decode cX3_mostOf 75 = .ok (.aload_n 0, 1) := by decide +kernel
theorem dX3_mostOf_76 : decode cX3_mostOf 76 = .ok (.getfield 24, 3) := by decide +kernel
theorem dX3_mostOf_79 : decode cX3_mostOf 79 = .ok (.getfield 145, 3) := by decide +kernel
theorem dX3_mostOf_82 : decode cX3_mostOf 82 = .ok (.iconst 1, 1) := by decide +kernel
theorem dX3_mostOf_83 : decode cX3_mostOf 83 = .ok (.isub, 1) := by decide +kernel
theorem dX3_mostOf_84 : decode cX3_mostOf 84 = .ok (.goto 8, 3) := by decide +kernel
theorem dX3_mostOf_87 : decode cX3_mostOf 87 = .ok (.getstatic 150, 3) := by decide +kernel
theorem dX3_mostOf_90 : decode cX3_mostOf 90 = .ok (.iload_n 2, 1) := by decide +kernel
theorem dX3_mostOf_91 : decode cX3_mostOf 91 = .ok (.iaload, 1) := by decide +kernel
theorem dX3_mostOf_92 : decode cX3_mostOf 92 = .ok (.ireturn, 1) := by decide +kernel
theorem dX3_mostOf_93 : decode cX3_mostOf 93 = .ok (.iload_n 2, 1) := by decide +kernel
theorem dX3_mostOf_94 : decode cX3_mostOf 94 = .ok (.ifCond .ne 15, 3) := by decide +kernel
theorem dX3_mostOf_97 : decode cX3_mostOf 97 = .ok (.aload_n 0, 1) := by decide +kernel
theorem dX3_mostOf_98 : decode cX3_mostOf 98 = .ok (.getfield 24, 3) := by decide +kernel
theorem dX3_mostOf_101 : decode cX3_mostOf 101 = .ok (.getfield 122, 3) := by decide +kernel
theorem dX3_mostOf_104 : decode cX3_mostOf 104 = .ok (.iconst 1, 1) := by decide +kernel
theorem dX3_mostOf_105 : decode cX3_mostOf 105 = .ok (.isub, 1) := by decide +kernel
theorem dX3_mostOf_106 : decode cX3_mostOf 106 = .ok (.goto 5, 3) := by decide +kernel
theorem dX3_mostOf_109 : decode cX3_mostOf 109 = .ok (.bipush 8, 2) := by decide +kernel
theorem dX3_mostOf_111 : decode cX3_mostOf 111 = .ok (.ireturn, 1) := by decide +kernel
theorem dX3_mostOf_112 : decode cX3_mostOf 112 = .ok (.iload_n 2, 1) := by decide +kernel
theorem dX3_mostOf_113 : decode cX3_mostOf 113 = .ok (.ifCond .ne 15, 3) := by decide +kernel
theorem dX3_mostOf_116 : decode cX3_mostOf 116 = .ok (.aload_n 0, 1) := by decide +kernel
theorem dX3_mostOf_117 : decode cX3_mostOf 117 = .ok (.getfield 24, 3) := by decide +kernel
theorem dX3_mostOf_120 : decode cX3_mostOf 120 = .ok (.getfield 122, 3) := by decide +kernel
theorem dX3_mostOf_123 : decode cX3_mostOf 123 = .ok (.iconst 1, 1) := by decide +kernel
theorem dX3_mostOf_124 : decode cX3_mostOf 124 = .ok (.isub, 1) := by decide +kernel
theorem dX3_mostOf_125 : decode cX3_mostOf 125 = .ok (.goto 5, 3) := by decide +kernel
theorem dX3_mostOf_128 : decode cX3_mostOf 128 = .ok (.bipush 6, 2) := by decide +kernel
theorem dX3_mostOf_130 : decode cX3_mostOf 130 = .ok (.ireturn, 1) := by decide +kernel
theorem dX3_mostOf_131 : decode cX3_mostOf 131 = .ok (.sipush 999, 3) := by decide +kernel
theorem dX3_mostOf_134 : decode cX3_mostOf 134 = .ok (.ireturn, 1) := by decide +kernel
theorem dX3_mostOf_135 : decode cX3_mostOf 135 = .ok (.bipush 11, 2) := by decide +kernel
theorem dX3_mostOf_137 : decode cX3_mostOf 137 = .ok (.ireturn, 1) := by decide +kernel
theorem dX3_tell_0 : decode cX3_tell 0 = .ok (.iload_n 1, 1) := by decide +kernel
theorem dX3_tell_1 : decode cX3_tell 1 = .ok (.tableswitch 206 0 6 #[43, 59, 86, 116, 143, 168, 193], 43) := by decide +kernel
theorem dX3_tell_44 : decode cX3_tell 44 = .ok (.aload_n 0, 1) := by decide +kernel
theorem dX3_tell_45 : decode cX3_tell 45 = .ok (.getfield 24, 3) := by decide +kernel
theorem dX3_tell_48 : decode cX3_tell 48 = .ok (.aload_n 0, 1) := by decide +kernel
theorem dX3_tell_49 : decode cX3_tell 49 = .ok (.getfield 32, 3) := by decide +kernel
theorem dX3_tell_52 : decode cX3_tell 52 = .ok (.iconst 0, 1) := by decide +kernel
theorem dX3_tell_53 : decode cX3_tell 53 = .ok (.iaload, 1) := by decide +kernel
theorem dX3_tell_54 : decode cX3_tell 54 = .ok (.putfield 145, 3) := by decide +kernel
theorem dX3_tell_57 : decode cX3_tell 57 = .ok (.goto 163, 3) := by decide +kernel
theorem dX3_tell_60 : decode cX3_tell 60 = .ok (.aload_n 0, 1) := by decide +kernel
theorem dX3_tell_61 : decode cX3_tell 61 = .ok (.aload_n 0, 1) := by decide +kernel
theorem dX3_tell_62 : decode cX3_tell 62 = .ok (.getfield 24, 3) := by decide +kernel
theorem dX3_tell_65 : decode cX3_tell 65 = .ok (.getfield 116, 3) := by decide +kernel
theorem dX3_tell_68 : decode cX3_tell 68 = .ok (.invokevirtual 153, 3) := by decide +kernel
theorem dX3_tell_71 : decode cX3_tell 71 = .ok (.aload_n 0, 1) := by decide +kernel
theorem dX3_tell_72 : decode cX3_tell 72 = .ok (.getfield 24, 3) := by decide +kernel
theorem dX3_tell_75 : decode cX3_tell 75 = .ok (.dup, 1) := by decide +kernel
theorem dX3_tell_76 : decode cX3_tell 76 = .ok (.getfield 116, 3) := by decide +kernel
theorem dX3_tell_79 : decode cX3_tell 79 = .ok (.iconst 1, 1) := by decide +kernel
theorem dX3_tell_80 : decode cX3_tell 80 = .ok (.iadd, 1) := by decide +kernel
theorem dX3_tell_81 : decode cX3_tell 81 = .ok (.putfield 116, 3) := by decide +kernel
theorem dX3_tell_84 : decode cX3_tell 84 = .ok (.goto 136, 3) := by decide +kernel
theorem dX3_tell_87 : decode cX3_tell 87 = .ok (.aload_n 0, 1) := by decide +kernel
theorem dX3_tell_88 : decode cX3_tell 88 = .ok (.bipush 10, 2) := by decide +kernel
theorem dX3_tell_90 : decode cX3_tell 90 = .ok (.aload_n 0, 1) := by decide +kernel
theorem dX3_tell_91 : decode cX3_tell 91 = .ok (.getfield 24, 3) := by decide +kernel
theorem dX3_tell_94 : decode cX3_tell 94 = .ok (.getfield 119, 3) := by decide +kernel
theorem dX3_tell_97 : decode cX3_tell 97 = .ok (.iadd, 1) := by decide +kernel
theorem dX3_tell_98 : decode cX3_tell 98 = .ok (.invokevirtual 153, 3) := by decide +kernel
theorem dX3_tell_101 : decode cX3_tell 101 = .ok (.aload_n 0, 1) := by decide +kernel
theorem dX3_tell_102 : decode cX3_tell 102 = .ok (.getfield 24, 3) := by decide +kernel
theorem dX3_tell_105 : decode cX3_tell 105 = .ok (.dup, 1) := by decide +kernel
theorem dX3_tell_106 : decode cX3_tell 106 = .ok (.getfield 119, 3) := by decide +kernel
theorem dX3_tell_109 : decode cX3_tell 109 = .ok (.iconst 1, 1) := by decide +kernel
theorem dX3_tell_110 : decode cX3_tell 110 = .ok (.iadd, 1) := by decide +kernel
theorem dX3_tell_111 : decode cX3_tell 111 = .ok (.putfield 119, 3) := by decide +kernel
theorem dX3_tell_114 : decode cX3_tell 114 = .ok (.goto 106, 3) := by decide +kernel
theorem dX3_tell_117 : decode cX3_tell 117 = .ok (.aload_n 0, 1) := by decide +kernel
theorem dX3_tell_118 : decode cX3_tell 118 = .ok (.aload_n 0, 1) := by decide +kernel
theorem dX3_tell_119 : decode cX3_tell 119 = .ok (.getfield 24, 3) := by decide +kernel
theorem dX3_tell_122 : decode cX3_tell 122 = .ok (.getfield 122, 3) := by decide +kernel
theorem dX3_tell_125 : decode cX3_tell 125 = .ok (.invokevirtual 156, 3) := by decide +kernel
theorem dX3_tell_128 : decode cX3_tell 128 = .ok (.aload_n 0, 1) := by decide +kernel
theorem dX3_tell_129 : decode cX3_tell 129 = .ok (.getfield 24, 3) := by decide +kernel
theorem dX3_tell_132 : decode cX3_tell 132 = .ok (.dup, 1) := by decide +kernel
theorem dX3_tell_133 : decode cX3_tell 133 = .ok (.getfield 122, 3) := by decide +kernel
theorem dX3_tell_136 : decode cX3_tell 136 = .ok (.iconst 1, 1) := by decide +kernel
theorem dX3_tell_137 : decode cX3_tell 137 = .ok (.iadd, 1) := by decide +kernel
theorem dX3_tell_138 : decode cX3_tell 138 = .ok (.putfield 122, 3) := by decide +kernel
theorem dX3_tell_141 : decode cX3_tell 141 = .ok (.goto 79, 3) := by decide +kernel
theorem dX3_tell_144 : decode cX3_tell 144 = .ok (.aload_n 0, 1) := by decide +kernel
theorem dX3_tell_145 : decode cX3_tell 145 = .ok (.getfield 24, 3) := by decide +kernel
theorem dX3_tell_148 : decode cX3_tell 148 = .ok (.getfield 159, 3) := by decide +kernel
theorem dX3_tell_151 : decode cX3_tell 151 = .ok (.aload_n 0, 1) := by decide +kernel
theorem dX3_tell_152 : decode cX3_tell 152 = .ok (.getfield 32, 3) := by decide +kernel
theorem dX3_tell_155 : decode cX3_tell 155 = .ok (.iconst 0, 1) := by decide +kernel
theorem dX3_tell_156 : decode cX3_tell 156 = .ok (.iaload, 1) := by decide +kernel
theorem dX3_tell_157 : decode cX3_tell 157 = .ok (.aaload, 1) := by decide +kernel
theorem dX3_tell_158 : decode cX3_tell 158 = .ok (.iconst 4, 1) := by decide +kernel
theorem dX3_tell_159 : decode cX3_tell 159 = .ok (.aload_n 0, 1) := by decide +kernel
theorem dX3_tell_160 : decode cX3_tell 160 = .ok (.getfield 32, 3) := by decide +kernel
theorem dX3_tell_163 : decode cX3_tell 163 = .ok (.iconst 1, 1) := by decide +kernel
theorem dX3_tell_164 : decode cX3_tell 164 = .ok (.iaload, 1) := by decide +kernel
theorem dX3_tell_165 : decode cX3_tell 165 = .ok (.iastore, 1) := by decide +kernel
theorem dX3_tell_166 : decode cX3_tell 166 = .ok (.goto 54, 3) := by decide +kernel
theorem dX3_tell_169 : decode cX3_tell 169 = .ok (.aload_n 0, 1) := by decide +kernel
theorem dX3_tell_170 : decode cX3_tell 170 = .ok (.getfield 24, 3) := by decide +kernel
theorem dX3_tell_173 : decode cX3_tell 173 = .ok (.getfield 159, 3) := by decide +kernel
theorem dX3_tell_176 : decode cX3_tell 176 = .ok (.aload_n 0, 1) := by decide +kernel
theorem dX3_tell_177 : decode cX3_tell 177 = .ok (.getfield 32, 3) := by decide +kernel
theorem dX3_tell_180 : decode cX3_tell 180 = .ok (.iconst 0, 1) := by decide +kernel
theorem dX3_tell_181 : decode cX3_tell 181 = .ok (.iaload, 1) := by decide +kernel
theorem dX3_tell_182 : decode cX3_tell 182 = .ok (.aaload, 1) := by decide +kernel
theorem dX3_tell_183 : decode cX3_tell 183 = .ok (.iconst 5, 1) := by decide +kernel
theorem dX3_tell_184 : decode cX3_tell 184 = .ok (.aload_n 0, 1) := by decide +kernel
theorem dX3_tell_185 : decode cX3_tell 185 = .ok (.getfield 32, 3) := by decide +kernel
theorem dX3_tell_188 : decode cX3_tell 188 = .ok (.iconst 1, 1) := by decide +kernel
theorem dX3_tell_189 : decode cX3_tell 189 = .ok (.iaload, 1) := by decide +kernel
theorem dX3_tell_190 : decode cX3_tell 190 = .ok (.iastore, 1) := by decide +kernel
theorem dX3_tell_191 : decode cX3_tell 191 = .ok (.goto 29, 3) := by decide +kernel
theorem dX3_tell_194 : decode cX3_tell 194 = .ok (.aload_n 0, 1) := by decide +kernel
theorem dX3_tell_195 : decode cX3_tell 195 = .ok (.aload_n 0, 1) := by decide +kernel
theorem dX3_tell_196 : decode cX3_tell 196 = .ok (.getfield 32, 3) := by decide +kernel
theorem dX3_tell_199 : decode cX3_tell 199 = .ok (.iconst 0, 1) := by decide +kernel
theorem dX3_tell_200 : decode cX3_tell 200 = .ok (.iaload, 1) := by decide +kernel
theorem dX3_tell_201 : decode cX3_tell 201 = .ok (.invokevirtual 163, 3) := by decide +kernel
theorem dX3_tell_204 : decode cX3_tell 204 = .ok (.goto 16, 3) := by decide +kernel
theorem dX3_tell_207 : decode cX3_tell 207 = .ok (.aload_n 0, 1) := by decide +kernel
theorem dX3_tell_208 : decode cX3_tell 208 = .ok (.getfield 24, 3) := by decide +kernel
theorem dX3_tell_211 : decode cX3_tell 211 = .ok (.aload_n 0, 1) := by decide +kernel
theorem dX3_tell_212 : decode cX3_tell 212 = .ok (.getfield 32, 3) := by decide +kernel
theorem dX3_tell_215 : decode cX3_tell 215 = .ok (.iconst 0, 1) := by decide +kernel
theorem dX3_tell_216 : decode cX3_tell 216 = .ok (.iaload, 1) := by decide +kernel
theorem dX3_tell_217 : decode cX3_tell 217 = .ok (.putfield 166, 3) := by decide +kernel
theorem dX3_tell_220 : decode cX3_tell 220 = .ok (.return_, 1) := by decide +kernel
theorem dX3_tellRoad_0 : decode cX3_tellRoad 0 = .ok (.iconst 0, 1) := by decide +kernel
theorem dX3_tellRoad_1 : decode cX3_tellRoad 1 = .ok (.istore_n 2, 1) := by decide +kernel
theorem dX3_tellRoad_2 : decode cX3_tellRoad 2 = .ok (.iload_n 2, 1) := by decide +kernel
theorem dX3_tellRoad_3 : decode cX3_tellRoad 3 = .ok (.iconst 5, 1) := by decide +kernel
theorem dX3_tellRoad_4 : decode cX3_tellRoad 4 = .ok (.if_icmp .ge 26, 3) := by decide +kernel
theorem dX3_tellRoad_7 : decode cX3_tellRoad 7 = .ok (.aload_n 0, 1) := by decide +kernel
theorem dX3_tellRoad_8 : decode cX3_tellRoad 8 = .ok (.getfield 24, 3) := by decide +kernel
theorem dX3_tellRoad_11 : decode cX3_tellRoad 11 = .ok (.getfield 169, 3) := by decide +kernel
theorem dX3_tellRoad_14 : decode cX3_tellRoad 14 = .ok (.iload_n 1, 1) := by decide +kernel
theorem dX3_tellRoad_15 : decode cX3_tellRoad 15 = .ok (.aaload, 1) := by decide +kernel
theorem dX3_tellRoad_16 : decode cX3_tellRoad 16 = .ok (.iload_n 2, 1) := by decide +kernel
theorem dX3_tellRoad_17 : decode cX3_tellRoad 17 = .ok (.aload_n 0, 1) := by decide +kernel
theorem dX3_tellRoad_18 : decode cX3_tellRoad 18 = .ok (.getfield 32, 3) := by decide +kernel
theorem dX3_tellRoad_21 : decode cX3_tellRoad 21 = .ok (.iload_n 2, 1) := by decide +kernel
theorem dX3_tellRoad_22 : decode cX3_tellRoad 22 = .ok (.iaload, 1) := by decide +kernel
theorem dX3_tellRoad_23 : decode cX3_tellRoad 23 = .ok (.iastore, 1) := by decide +kernel
theorem dX3_tellRoad_24 : decode cX3_tellRoad 24 = .ok (.iinc 2 1, 3) := by decide +kernel
theorem dX3_tellRoad_27 : decode cX3_tellRoad 27 = .ok (.goto (-25), 3) := by decide +kernel
theorem dX3_tellRoad_30 : decode cX3_tellRoad 30 = .ok (.return_, 1) := by decide +kernel
theorem dX3_tellGoing_0 : decode cX3_tellGoing 0 = .ok (.aload_n 0, 1) := by decide +kernel
theorem dX3_tellGoing_1 : decode cX3_tellGoing 1 = .ok (.getfield 24, 3) := by decide +kernel
theorem dX3_tellGoing_4 : decode cX3_tellGoing 4 = .ok (.getfield 159, 3) := by decide +kernel
theorem dX3_tellGoing_7 : decode cX3_tellGoing 7 = .ok (.iload_n 1, 1) := by decide +kernel
theorem dX3_tellGoing_8 : decode cX3_tellGoing 8 = .ok (.aaload, 1) := by decide +kernel
theorem dX3_tellGoing_9 : decode cX3_tellGoing 9 = .ok (.astore_n 2, 1) := by decide +kernel
theorem dX3_tellGoing_10 : decode cX3_tellGoing 10 = .ok (.iconst 0, 1) := by decide +kernel
theorem dX3_tellGoing_11 : decode cX3_tellGoing 11 = .ok (.istore_n 3, 1) := by decide +kernel
theorem dX3_tellGoing_12 : decode cX3_tellGoing 12 = .ok (.iload_n 3, 1) := by decide +kernel
theorem dX3_tellGoing_13 : decode cX3_tellGoing 13 = .ok (.getstatic 70, 3) := by decide +kernel
theorem dX3_tellGoing_16 : decode cX3_tellGoing 16 = .ok (.iconst 3, 1) := by decide +kernel
theorem dX3_tellGoing_17 : decode cX3_tellGoing 17 = .ok (.iaload, 1) := by decide +kernel
theorem dX3_tellGoing_18 : decode cX3_tellGoing 18 = .ok (.if_icmp .ge 18, 3) := by decide +kernel
theorem dX3_tellGoing_21 : decode cX3_tellGoing 21 = .ok (.aload_n 2, 1) := by decide +kernel
theorem dX3_tellGoing_22 : decode cX3_tellGoing 22 = .ok (.iload_n 3, 1) := by decide +kernel
theorem dX3_tellGoing_23 : decode cX3_tellGoing 23 = .ok (.aload_n 0, 1) := by decide +kernel
theorem dX3_tellGoing_24 : decode cX3_tellGoing 24 = .ok (.getfield 32, 3) := by decide +kernel
theorem dX3_tellGoing_27 : decode cX3_tellGoing 27 = .ok (.iload_n 3, 1) := by decide +kernel
theorem dX3_tellGoing_28 : decode cX3_tellGoing 28 = .ok (.iaload, 1) := by decide +kernel
theorem dX3_tellGoing_29 : decode cX3_tellGoing 29 = .ok (.iastore, 1) := by decide +kernel
theorem dX3_tellGoing_30 : decode cX3_tellGoing 30 = .ok (.iinc 3 1, 3) := by decide +kernel
theorem dX3_tellGoing_33 : decode cX3_tellGoing 33 = .ok (.goto (-21), 3) := by decide +kernel
theorem dX3_tellGoing_36 : decode cX3_tellGoing 36 = .ok (.aload_n 2, 1) := by decide +kernel
theorem dX3_tellGoing_37 : decode cX3_tellGoing 37 = .ok (.iconst 4, 1) := by decide +kernel
theorem dX3_tellGoing_38 : decode cX3_tellGoing 38 = .ok (.bipush 8, 2) := by decide +kernel
theorem dX3_tellGoing_40 : decode cX3_tellGoing 40 = .ok (.iastore, 1) := by decide +kernel
theorem dX3_tellGoing_41 : decode cX3_tellGoing 41 = .ok (.aload_n 2, 1) := by decide +kernel
theorem dX3_tellGoing_42 : decode cX3_tellGoing 42 = .ok (.iconst 5, 1) := by decide +kernel
theorem dX3_tellGoing_43 : decode cX3_tellGoing 43 = .ok (.iconst 0, 1) := by decide +kernel
theorem dX3_tellGoing_44 : decode cX3_tellGoing 44 = .ok (.iastore, 1) := by decide +kernel
theorem dX3_tellGoing_45 : decode cX3_tellGoing 45 = .ok (.return_, 1) := by decide +kernel
theorem dX3_tellWet_0 : decode cX3_tellWet 0 = .ok (.aload_n 0, 1) := by decide +kernel
theorem dX3_tellWet_1 : decode cX3_tellWet 1 = .ok (.getfield 24, 3) := by decide +kernel
theorem dX3_tellWet_4 : decode cX3_tellWet 4 = .ok (.iload_n 1, 1) := by decide +kernel
theorem dX3_tellWet_5 : decode cX3_tellWet 5 = .ok (.invokevirtual 172, 3) := by decide +kernel
theorem dX3_tellWet_8 : decode cX3_tellWet 8 = .ok (.ifCond .ne 32, 3) := by decide +kernel
theorem dX3_tellWet_11 : decode cX3_tellWet 11 = .ok (.aload_n 0, 1) := by decide +kernel
theorem dX3_tellWet_12 : decode cX3_tellWet 12 = .ok (.getfield 24, 3) := by decide +kernel
theorem dX3_tellWet_15 : decode cX3_tellWet 15 = .ok (.getfield 175, 3) := by decide +kernel
theorem dX3_tellWet_18 : decode cX3_tellWet 18 = .ok (.aload_n 0, 1) := by decide +kernel
theorem dX3_tellWet_19 : decode cX3_tellWet 19 = .ok (.getfield 24, 3) := by decide +kernel
theorem dX3_tellWet_22 : decode cX3_tellWet 22 = .ok (.getfield 125, 3) := by decide +kernel
theorem dX3_tellWet_25 : decode cX3_tellWet 25 = .ok (.iload_n 1, 1) := by decide +kernel
theorem dX3_tellWet_26 : decode cX3_tellWet 26 = .ok (.iastore, 1) := by decide +kernel
theorem dX3_tellWet_27 : decode cX3_tellWet 27 = .ok (.aload_n 0, 1) := by decide +kernel
theorem dX3_tellWet_28 : decode cX3_tellWet 28 = .ok (.getfield 24, 3) := by decide +kernel
theorem dX3_tellWet_31 : decode cX3_tellWet 31 = .ok (.dup, 1) := by decide +kernel
theorem dX3_tellWet_32 : decode cX3_tellWet 32 = .ok (.getfield 125, 3) := by decide +kernel
theorem dX3_tellWet_35 : decode cX3_tellWet 35 = .ok (.iconst 1, 1) := by decide +kernel
theorem dX3_tellWet_36 : decode cX3_tellWet 36 = .ok (.iadd, 1) := by decide +kernel
theorem dX3_tellWet_37 : decode cX3_tellWet 37 = .ok (.putfield 125, 3) := by decide +kernel
theorem dX3_tellWet_40 : decode cX3_tellWet 40 = .ok (.return_, 1) := by decide +kernel
theorem dX4_init_0 : decode cX4_init 0 = .ok (.aload_n 0, 1) := by decide +kernel
theorem dX4_init_1 : decode cX4_init 1 = .ok (.invokespecial 3, 3) := by decide +kernel
theorem dX4_init_4 : decode cX4_init 4 = .ok (.aload_n 0, 1) := by decide +kernel
theorem dX4_init_5 : decode cX4_init 5 = .ok (.sipush 4001, 3) := by decide +kernel
theorem dX4_init_8 : decode cX4_init 8 = .ok (.newarray .long, 2) := by decide +kernel
theorem dX4_init_10 : decode cX4_init 10 = .ok (.putfield 9, 3) := by decide +kernel
theorem dX4_init_13 : decode cX4_init 13 = .ok (.aload_n 0, 1) := by decide +kernel
theorem dX4_init_14 : decode cX4_init 14 = .ok (.sipush 4001, 3) := by decide +kernel
theorem dX4_init_17 : decode cX4_init 17 = .ok (.newarray .long, 2) := by decide +kernel
theorem dX4_init_19 : decode cX4_init 19 = .ok (.putfield 15, 3) := by decide +kernel
theorem dX4_init_22 : decode cX4_init 22 = .ok (.return_, 1) := by decide +kernel
theorem dX4_follow_0 : decode cX4_follow 0 = .ok (.aload_n 0, 1) := by decide +kernel
theorem dX4_follow_1 : decode cX4_follow 1 = .ok (.iconst (-1), 1) := by decide +kernel
theorem dX4_follow_2 : decode cX4_follow 2 = .ok (.putfield 18, 3) := by decide +kernel
theorem dX4_follow_5 : decode cX4_follow 5 = .ok (.aload_n 0, 1) := by decide +kernel
theorem dX4_follow_6 : decode cX4_follow 6 = .ok (.iconst (-1), 1) := by decide +kernel
theorem dX4_follow_7 : decode cX4_follow 7 = .ok (.putfield 22, 3) := by decide +kernel
theorem dX4_follow_10 : decode cX4_follow 10 = .ok (.aload_n 0, 1) := by decide +kernel
theorem dX4_follow_11 : decode cX4_follow 11 = .ok (.iconst (-1), 1) := by decide +kernel
theorem dX4_follow_12 : decode cX4_follow 12 = .ok (.putfield 25, 3) := by decide +kernel
theorem dX4_follow_15 : decode cX4_follow 15 = .ok (.aload_n 1, 1) := by decide +kernel
theorem dX4_follow_16 : decode cX4_follow 16 = .ok (.getfield 28, 3) := by decide +kernel
theorem dX4_follow_19 : decode cX4_follow 19 = .ok (.getfield 34, 3) := by decide +kernel
theorem dX4_follow_22 : decode cX4_follow 22 = .ok (.istore_n 2, 1) := by decide +kernel
theorem dX4_follow_23 : decode cX4_follow 23 = .ok (.iload_n 2, 1) := by decide +kernel
theorem dX4_follow_24 : decode cX4_follow 24 = .ok (.bipush 7, 2) := by decide +kernel
theorem dX4_follow_26 : decode cX4_follow 26 = .ok (.irem, 1) := by decide +kernel
theorem dX4_follow_27 : decode cX4_follow 27 = .ok (.ifCond .ne 12, 3) := by decide +kernel
theorem dX4_follow_30 : decode cX4_follow 30 = .ok (.iload_n 2, 1) := by decide +kernel
theorem dX4_follow_31 : decode cX4_follow 31 = .ok (.bipush 7, 2) := by decide +kernel
theorem dX4_follow_33 : decode cX4_follow 33 = .ok (.invokestatic 39, 3) := by decide +kernel
theorem dX4_follow_36 : decode cX4_follow 36 = .ok (.goto 7, 3) := by decide +kernel
theorem dX4_follow_39 : decode cX4_follow 39 = .ok (.iload_n 2, 1) := by decide +kernel
theorem dX4_follow_40 : decode cX4_follow 40 = .ok (.bipush 7, 2) := by decide +kernel
theorem dX4_follow_42 : decode cX4_follow 42 = .ok (.imul, 1) := by decide +kernel
theorem dX4_follow_43 : decode cX4_follow 43 = .ok (.istore_n 3, 1) := by decide +kernel
theorem dX4_follow_44 : decode cX4_follow 44 = .ok (.aload_n 0, 1) := by decide +kernel
theorem dX4_follow_45 : decode cX4_follow 45 = .ok (.iconst 0, 1) := by decide +kernel
theorem dX4_follow_46 : decode cX4_follow 46 = .ok (.aload_n 1, 1) := by decide +kernel
theorem dX4_follow_47 : decode cX4_follow 47 = .ok (.getfield 28, 3) := by decide +kernel
theorem dX4_follow_50 : decode cX4_follow 50 = .ok (.invokevirtual 45, 3) := by decide +kernel
theorem dX4_follow_53 : decode cX4_follow 53 = .ok (.iconst 1, 1) := by decide +kernel
theorem dX4_follow_54 : decode cX4_follow 54 = .ok (.istore 4, 2) := by decide +kernel
theorem dX4_follow_56 : decode cX4_follow 56 = .ok (.iload 4, 2) := by decide +kernel
theorem dX4_follow_58 : decode cX4_follow 58 = .ok (.sipush 4000, 3) := by decide +kernel
theorem dX4_follow_61 : decode cX4_follow 61 = .ok (.if_icmp .gt 97, 3) := by decide +kernel
theorem dX4_follow_64 : decode cX4_follow 64 = .ok (.aload_n 0, 1) := by decide +kernel
theorem dX4_follow_65 : decode cX4_follow 65 = .ok (.getfield 22, 3) := by decide +kernel
theorem dX4_follow_68 : decode cX4_follow 68 = .ok (.iconst (-1), 1) := by decide +kernel
theorem dX4_follow_69 : decode cX4_follow 69 = .ok (.if_icmp .ne 89, 3) := by decide +kernel
theorem dX4_follow_72 : decode cX4_follow 72 = .ok (.aload_n 1, 1) := by decide +kernel
theorem dX4_follow_73 : decode cX4_follow 73 = .ok (.aload_n 1, 1) := by decide +kernel
theorem dX4_follow_74 : decode cX4_follow 74 = .ok (.iconst 1, 1) := by decide +kernel
theorem dX4_follow_75 : decode cX4_follow 75 = .ok (.invokevirtual 49, 3) := by decide +kernel
theorem dX4_follow_78 : decode cX4_follow 78 = .ok (.invokevirtual 53, 3) := by decide +kernel
theorem dX4_follow_81 : decode cX4_follow 81 = .ok (.aload_n 1, 1) := by decide +kernel
theorem dX4_follow_82 : decode cX4_follow 82 = .ok (.getfield 57, 3) := by decide +kernel
theorem dX4_follow_85 : decode cX4_follow 85 = .ok (.getfield 61, 3) := by decide +kernel
theorem dX4_follow_88 : decode cX4_follow 88 = .ok (.iconst (-1), 1) := by decide +kernel
theorem dX4_follow_89 : decode cX4_follow 89 = .ok (.if_icmp .ne 18, 3) := by decide +kernel
theorem dX4_follow_92 : decode cX4_follow 92 = .ok (.aload_n 1, 1) := by decide +kernel
theorem dX4_follow_93 : decode cX4_follow 93 = .ok (.getfield 28, 3) := by decide +kernel
theorem dX4_follow_96 : decode cX4_follow 96 = .ok (.aload_n 1, 1) := by decide +kernel
theorem dX4_follow_97 : decode cX4_follow 97 = .ok (.getfield 66, 3) := by decide +kernel
theorem dX4_follow_100 : decode cX4_follow 100 = .ok (.invokevirtual 70, 3) := by decide +kernel
theorem dX4_follow_103 : decode cX4_follow 103 = .ok (.iconst (-1), 1) := by decide +kernel
theorem dX4_follow_104 : decode cX4_follow 104 = .ok (.if_icmp .eq 7, 3) := by decide +kernel
theorem dX4_follow_107 : decode cX4_follow 107 = .ok (.iconst 1, 1) := by decide +kernel
theorem dX4_follow_108 : decode cX4_follow 108 = .ok (.goto 4, 3) := by decide +kernel
theorem dX4_follow_111 : decode cX4_follow 111 = .ok (.iconst 0, 1) := by decide +kernel
theorem dX4_follow_112 : decode cX4_follow 112 = .ok (.istore 5, 2) := by decide +kernel
theorem dX4_follow_114 : decode cX4_follow 114 = .ok (.aload_n 0, 1) := by decide +kernel
theorem dX4_follow_115 : decode cX4_follow 115 = .ok (.getfield 25, 3) := by decide +kernel
theorem dX4_follow_118 : decode cX4_follow 118 = .ok (.iconst (-1), 1) := by decide +kernel
theorem dX4_follow_119 : decode cX4_follow 119 = .ok (.if_icmp .ne 16, 3) := by decide +kernel
theorem dX4_follow_122 : decode cX4_follow 122 = .ok (.iload 5, 2) := by decide +kernel
theorem dX4_follow_124 : decode cX4_follow 124 = .ok (.ifCond .eq 11, 3) := by decide +kernel
theorem dX4_follow_127 : decode cX4_follow 127 = .ok (.aload_n 0, 1) := by decide +kernel
theorem dX4_follow_128 : decode cX4_follow 128 = .ok (.iload 4, 2) := by decide +kernel
theorem dX4_follow_130 : decode cX4_follow 130 = .ok (.iconst 1, 1) := by decide +kernel
theorem dX4_follow_131 : decode cX4_follow 131 = .ok (.isub, 1) := by decide +kernel
theorem dX4_follow_132 : decode cX4_follow 132 = .ok (.putfield 25, 3) := by decide +kernel
theorem dX4_follow_135 : decode cX4_follow 135 = .ok (.aload_n 0, 1) := by decide +kernel
theorem dX4_follow_136 : decode cX4_follow 136 = .ok (.iload 4, 2) := by decide +kernel
theorem dX4_follow_138 : decode cX4_follow 138 = .ok (.aload_n 1, 1) := by decide +kernel
theorem dX4_follow_139 : decode cX4_follow 139 = .ok (.getfield 28, 3) := by decide +kernel
theorem dX4_follow_142 : decode cX4_follow 142 = .ok (.invokevirtual 45, 3) := by decide +kernel
theorem dX4_follow_145 : decode cX4_follow 145 = .ok (.aload_n 0, 1) := by decide +kernel
theorem dX4_follow_146 : decode cX4_follow 146 = .ok (.iload 4, 2) := by decide +kernel
theorem dX4_follow_148 : decode cX4_follow 148 = .ok (.iload_n 3, 1) := by decide +kernel
theorem dX4_follow_149 : decode cX4_follow 149 = .ok (.invokevirtual 74, 3) := by decide +kernel
theorem dX4_follow_152 : decode cX4_follow 152 = .ok (.iinc 4 1, 3) := by decide +kernel
theorem dX4_follow_155 : decode cX4_follow 155 = .ok (.goto (-99), 3) := by decide +kernel
theorem dX4_follow_158 : decode cX4_follow 158 = .ok (.return_, 1) := by decide +kernel
theorem dX4_lastsWell_0 : decode cX4_lastsWell 0 = .ok (.aload_n 0, 1) := by decide +kernel
theorem dX4_lastsWell_1 : decode cX4_lastsWell 1 = .ok (.getfield 22, 3) := by decide +kernel
theorem dX4_lastsWell_4 : decode cX4_lastsWell 4 = .ok (.iconst (-1), 1) := by decide +kernel
theorem dX4_lastsWell_5 : decode cX4_lastsWell 5 = .ok (.if_icmp .eq 15, 3) := by decide +kernel
theorem dX4_lastsWell_8 : decode cX4_lastsWell 8 = .ok (.aload_n 0, 1) := by decide +kernel
theorem dX4_lastsWell_9 : decode cX4_lastsWell 9 = .ok (.getfield 25, 3) := by decide +kernel
theorem dX4_lastsWell_12 : decode cX4_lastsWell 12 = .ok (.iconst (-1), 1) := by decide +kernel
theorem dX4_lastsWell_13 : decode cX4_lastsWell 13 = .ok (.if_icmp .ne 7, 3) := by decide +kernel
theorem dX4_lastsWell_16 : decode cX4_lastsWell 16 = .ok (.iconst 1, 1) := by decide +kernel
theorem dX4_lastsWell_17 : decode cX4_lastsWell 17 = .ok (.goto 4, 3) := by decide +kernel
theorem dX4_lastsWell_20 : decode cX4_lastsWell 20 = .ok (.iconst 0, 1) := by decide +kernel
theorem dX4_lastsWell_21 : decode cX4_lastsWell 21 = .ok (.ireturn, 1) := by decide +kernel
theorem dX4_mark_0 : decode cX4_mark 0 = .ok (.aload_n 0, 1) := by decide +kernel
theorem dX4_mark_1 : decode cX4_mark 1 = .ok (.getfield 9, 3) := by decide +kernel
theorem dX4_mark_4 : decode cX4_mark 4 = .ok (.iload_n 1, 1) := by decide +kernel
theorem dX4_mark_5 : decode cX4_mark 5 = .ok (.aload_n 2, 1) := by decide +kernel
theorem dX4_mark_6 : decode cX4_mark 6 = .ok (.iconst 0, 1) := by decide +kernel
theorem dX4_mark_7 : decode cX4_mark 7 = .ok (.invokestatic 78, 3) := by decide +kernel
theorem dX4_mark_10 : decode cX4_mark 10 = .ok (.lastore, 1) := by decide +kernel
theorem dX4_mark_11 : decode cX4_mark 11 = .ok (.aload_n 0, 1) := by decide +kernel
theorem dX4_mark_12 : decode cX4_mark 12 = .ok (.getfield 15, 3) := by decide +kernel
theorem dX4_mark_15 : decode cX4_mark 15 = .ok (.iload_n 1, 1) := by decide +kernel
theorem dX4_mark_16 : decode cX4_mark 16 = .ok (.aload_n 2, 1) := by decide +kernel
theorem dX4_mark_17 : decode cX4_mark 17 = .ok (.iconst 5, 1) := by decide +kernel
theorem dX4_mark_18 : decode cX4_mark 18 = .ok (.invokestatic 78, 3) := by decide +kernel
theorem dX4_mark_21 : decode cX4_mark 21 = .ok (.lastore, 1) := by decide +kernel
theorem dX4_mark_22 : decode cX4_mark 22 = .ok (.return_, 1) := by decide +kernel
theorem dX4_packed_0 : decode cX4_packed 0 = .ok (.lconst 0, 1) := by decide +kernel
theorem dX4_packed_1 : decode cX4_packed 1 = .ok (.lstore_n 2, 1) := by decide +kernel
theorem dX4_packed_2 : decode cX4_packed 2 = .ok (.iload_n 1, 1) := by decide +kernel
theorem dX4_packed_3 : decode cX4_packed 3 = .ok (.istore 4, 2) := by decide +kernel
theorem dX4_packed_5 : decode cX4_packed 5 = .ok (.iload 4, 2) := by decide +kernel
theorem dX4_packed_7 : decode cX4_packed 7 = .ok (.iload_n 1, 1) := by decide +kernel
theorem dX4_packed_8 : decode cX4_packed 8 = .ok (.iconst 5, 1) := by decide +kernel
theorem dX4_packed_9 : decode cX4_packed 9 = .ok (.iadd, 1) := by decide +kernel
theorem dX4_packed_10 : decode cX4_packed 10 = .ok (.if_icmp .ge 43, 3) := by decide +kernel
theorem dX4_packed_13 : decode cX4_packed 13 = .ok (.iload 4, 2) := by decide +kernel
theorem dX4_packed_15 : decode cX4_packed 15 = .ok (.bipush 10, 2) := by decide +kernel
theorem dX4_packed_17 : decode cX4_packed 17 = .ok (.if_icmp .ge 36, 3) := by decide +kernel
theorem dX4_packed_20 : decode cX4_packed 20 = .ok (.lload_n 2, 1) := by decide +kernel
theorem dX4_packed_21 : decode cX4_packed 21 = .ok (.bipush 7, 2) := by decide +kernel
theorem dX4_packed_23 : decode cX4_packed 23 = .ok (.lshl, 1) := by decide +kernel
theorem dX4_packed_24 : decode cX4_packed 24 = .ok (.aload_n 0, 1) := by decide +kernel
theorem dX4_packed_25 : decode cX4_packed 25 = .ok (.getfield 82, 3) := by decide +kernel
theorem dX4_packed_28 : decode cX4_packed 28 = .ok (.iload 4, 2) := by decide +kernel
theorem dX4_packed_30 : decode cX4_packed 30 = .ok (.iaload, 1) := by decide +kernel
theorem dX4_packed_31 : decode cX4_packed 31 = .ok (.i2l, 1) := by decide +kernel
theorem dX4_packed_32 : decode cX4_packed 32 = .ok (.lor, 1) := by decide +kernel
theorem dX4_packed_33 : decode cX4_packed 33 = .ok (.lstore_n 2, 1) := by decide +kernel
theorem dX4_packed_34 : decode cX4_packed 34 = .ok (.lload_n 2, 1) := by decide +kernel
theorem dX4_packed_35 : decode cX4_packed 35 = .ok (.iconst 4, 1) := by decide +kernel
theorem dX4_packed_36 : decode cX4_packed 36 = .ok (.lshl, 1) := by decide +kernel
theorem dX4_packed_37 : decode cX4_packed 37 = .ok (.aload_n 0, 1) := by decide +kernel
theorem dX4_packed_38 : decode cX4_packed 38 = .ok (.getfield 86, 3) := by decide +kernel
theorem dX4_packed_41 : decode cX4_packed 41 = .ok (.iload 4, 2) := by decide +kernel
theorem dX4_packed_43 : decode cX4_packed 43 = .ok (.iaload, 1) := by decide +kernel
theorem dX4_packed_44 : decode cX4_packed 44 = .ok (.i2l, 1) := by decide +kernel
theorem dX4_packed_45 : decode cX4_packed 45 = .ok (.lor, 1) := by decide +kernel
theorem dX4_packed_46 : decode cX4_packed 46 = .ok (.lstore_n 2, 1) := by decide +kernel
theorem dX4_packed_47 : decode cX4_packed 47 = .ok (.iinc 4 1, 3) := by decide +kernel
theorem dX4_packed_50 : decode cX4_packed 50 = .ok (.goto (-45), 3) := by decide +kernel
theorem dX4_packed_53 : decode cX4_packed 53 = .ok (.lload_n 2, 1) := by decide +kernel
theorem dX4_packed_54 : decode cX4_packed 54 = .ok (.lreturn, 1) := by decide +kernel
theorem dX4_lookBack_0 : decode cX4_lookBack 0 = .ok (.iload_n 1, 1) := by decide +kernel
theorem dX4_lookBack_1 : decode cX4_lookBack 1 = .ok (.iload_n 2, 1) := by decide +kernel
theorem dX4_lookBack_2 : decode cX4_lookBack 2 = .ok (.isub, 1) := by decide +kernel
theorem dX4_lookBack_3 : decode cX4_lookBack 3 = .ok (.istore_n 3, 1) := by decide +kernel
theorem dX4_lookBack_4 : decode cX4_lookBack 4 = .ok (.iload_n 3, 1) := by decide +kernel
theorem dX4_lookBack_5 : decode cX4_lookBack 5 = .ok (.ifCond .lt 62, 3) := by decide +kernel
theorem dX4_lookBack_8 : decode cX4_lookBack 8 = .ok (.aload_n 0, 1) := by decide +kernel
theorem dX4_lookBack_9 : decode cX4_lookBack 9 = .ok (.getfield 22, 3) := by decide +kernel
theorem dX4_lookBack_12 : decode cX4_lookBack 12 = .ok (.iconst (-1), 1) := by decide +kernel
theorem dX4_lookBack_13 : decode cX4_lookBack 13 = .ok (.if_icmp .ne 54, 3) := by decide +kernel
theorem dX4_lookBack_16 : decode cX4_lookBack 16 = .ok (.aload_n 0, 1) := by decide +kernel
theorem dX4_lookBack_17 : decode cX4_lookBack 17 = .ok (.getfield 9, 3) := by decide +kernel
theorem dX4_lookBack_20 : decode cX4_lookBack 20 = .ok (.iload_n 3, 1) := by decide +kernel
theorem dX4_lookBack_21 : decode cX4_lookBack 21 = .ok (.laload, 1) := by decide +kernel
theorem dX4_lookBack_22 : decode cX4_lookBack 22 = .ok (.aload_n 0, 1) := by decide +kernel
theorem dX4_lookBack_23 : decode cX4_lookBack 23 = .ok (.getfield 9, 3) := by decide +kernel
theorem dX4_lookBack_26 : decode cX4_lookBack 26 = .ok (.iload_n 1, 1) := by decide +kernel
theorem dX4_lookBack_27 : decode cX4_lookBack 27 = .ok (.laload, 1) := by decide +kernel
theorem dX4_lookBack_28 : decode cX4_lookBack 28 = .ok (.lcmp, 1) := by decide +kernel
theorem dX4_lookBack_29 : decode cX4_lookBack 29 = .ok (.ifCond .ne 31, 3) := by decide +kernel
theorem dX4_lookBack_32 : decode cX4_lookBack 32 = .ok (.aload_n 0, 1) := by decide +kernel
theorem dX4_lookBack_33 : decode cX4_lookBack 33 = .ok (.getfield 15, 3) := by decide +kernel
theorem dX4_lookBack_36 : decode cX4_lookBack 36 = .ok (.iload_n 3, 1) := by decide +kernel
theorem dX4_lookBack_37 : decode cX4_lookBack 37 = .ok (.laload, 1) := by decide +kernel
theorem dX4_lookBack_38 : decode cX4_lookBack 38 = .ok (.aload_n 0, 1) := by decide +kernel
theorem dX4_lookBack_39 : decode cX4_lookBack 39 = .ok (.getfield 15, 3) := by decide +kernel
theorem dX4_lookBack_42 : decode cX4_lookBack 42 = .ok (.iload_n 1, 1) := by decide +kernel
theorem dX4_lookBack_43 : decode cX4_lookBack 43 = .ok (.laload, 1) := by decide +kernel
theorem dX4_lookBack_44 : decode cX4_lookBack 44 = .ok (.lcmp, 1) := by decide +kernel
theorem dX4_lookBack_45 : decode cX4_lookBack 45 = .ok (.ifCond .ne 15, 3) := by decide +kernel
theorem dX4_lookBack_48 : decode cX4_lookBack 48 = .ok (.aload_n 0, 1) := by decide +kernel
theorem dX4_lookBack_49 : decode cX4_lookBack 49 = .ok (.iload_n 3, 1) := by decide +kernel
theorem dX4_lookBack_50 : decode cX4_lookBack 50 = .ok (.putfield 18, 3) := by decide +kernel
theorem dX4_lookBack_53 : decode cX4_lookBack 53 = .ok (.aload_n 0, 1) := by decide +kernel
theorem dX4_lookBack_54 : decode cX4_lookBack 54 = .ok (.iload_n 1, 1) := by decide +kernel
theorem dX4_lookBack_55 : decode cX4_lookBack 55 = .ok (.iload_n 3, 1) := by decide +kernel
theorem dX4_lookBack_56 : decode cX4_lookBack 56 = .ok (.isub, 1) := by decide +kernel
theorem dX4_lookBack_57 : decode cX4_lookBack 57 = .ok (.putfield 22, 3) := by decide +kernel
theorem dX4_lookBack_60 : decode cX4_lookBack 60 = .ok (.iload_n 3, 1) := by decide +kernel
theorem dX4_lookBack_61 : decode cX4_lookBack 61 = .ok (.iload_n 2, 1) := by decide +kernel
theorem dX4_lookBack_62 : decode cX4_lookBack 62 = .ok (.isub, 1) := by decide +kernel
theorem dX4_lookBack_63 : decode cX4_lookBack 63 = .ok (.istore_n 3, 1) := by decide +kernel
theorem dX4_lookBack_64 : decode cX4_lookBack 64 = .ok (.goto (-60), 3) := by decide +kernel
theorem dX4_lookBack_67 : decode cX4_lookBack 67 = .ok (.return_, 1) := by decide +kernel
theorem dX5_init_0 : decode cX5_init 0 = .ok (.aload_n 0, 1) := by decide +kernel
theorem dX5_init_1 : decode cX5_init 1 = .ok (.invokespecial 3, 3) := by decide +kernel
theorem dX5_init_4 : decode cX5_init 4 = .ok (.aload_n 0, 1) := by decide +kernel
theorem dX5_init_5 : decode cX5_init 5 = .ok (.iconst 4, 1) := by decide +kernel
theorem dX5_init_6 : decode cX5_init 6 = .ok (.anewarray 9, 3) := by decide +kernel
theorem dX5_init_9 : decode cX5_init 9 = .ok (.putfield 11, 3) := by decide +kernel
theorem dX5_init_12 : decode cX5_init 12 = .ok (.iconst 0, 1) := by decide +kernel
theorem dX5_init_13 : decode cX5_init 13 = .ok (.istore_n 1, 1) := by decide +kernel
theorem dX5_init_14 : decode cX5_init 14 = .ok (.iload_n 1, 1) := by decide +kernel
theorem dX5_init_15 : decode cX5_init 15 = .ok (.aload_n 0, 1) := by decide +kernel
theorem dX5_init_16 : decode cX5_init 16 = .ok (.getfield 11, 3) := by decide +kernel
theorem dX5_init_19 : decode cX5_init 19 = .ok (.arraylength, 1) := by decide +kernel
theorem dX5_init_20 : decode cX5_init 20 = .ok (.if_icmp .ge 22, 3) := by decide +kernel
theorem dX5_init_23 : decode cX5_init 23 = .ok (.aload_n 0, 1) := by decide +kernel
theorem dX5_init_24 : decode cX5_init 24 = .ok (.getfield 11, 3) := by decide +kernel
theorem dX5_init_27 : decode cX5_init 27 = .ok (.iload_n 1, 1) := by decide +kernel
theorem dX5_init_28 : decode cX5_init 28 = .ok (.new 9, 3) := by decide +kernel
theorem dX5_init_31 : decode cX5_init 31 = .ok (.dup, 1) := by decide +kernel
theorem dX5_init_32 : decode cX5_init 32 = .ok (.invokespecial 17, 3) := by decide +kernel
theorem dX5_init_35 : decode cX5_init 35 = .ok (.aastore, 1) := by decide +kernel
theorem dX5_init_36 : decode cX5_init 36 = .ok (.iinc 1 1, 3) := by decide +kernel
theorem dX5_init_39 : decode cX5_init 39 = .ok (.goto (-25), 3) := by decide +kernel
theorem dX5_init_42 : decode cX5_init 42 = .ok (.return_, 1) := by decide +kernel
theorem dX5_seek_0 : decode cX5_seek 0 = .ok (.aload_n 0, 1) := by decide +kernel
theorem dX5_seek_1 : decode cX5_seek 1 = .ok (.iload 4, 2) := by decide +kernel
theorem dX5_seek_3 : decode cX5_seek 3 = .ok (.iconst 3, 1) := by decide +kernel
theorem dX5_seek_4 : decode cX5_seek 4 = .ok (.invokestatic 18, 3) := by decide +kernel
theorem dX5_seek_7 : decode cX5_seek 7 = .ok (.putfield 24, 3) := by decide +kernel
theorem dX5_seek_10 : decode cX5_seek 10 = .ok (.aload_n 0, 1) := by decide +kernel
theorem dX5_seek_11 : decode cX5_seek 11 = .ok (.ldc2_w 28, 3) := by decide +kernel
theorem dX5_seek_14 : decode cX5_seek 14 = .ok (.putfield 30, 3) := by decide +kernel
theorem dX5_seek_17 : decode cX5_seek 17 = .ok (.aload_n 0, 1) := by decide +kernel
theorem dX5_seek_18 : decode cX5_seek 18 = .ok (.iconst 0, 1) := by decide +kernel
theorem dX5_seek_19 : decode cX5_seek 19 = .ok (.putfield 34, 3) := by decide +kernel
theorem dX5_seek_22 : decode cX5_seek 22 = .ok (.aload_n 0, 1) := by decide +kernel
theorem dX5_seek_23 : decode cX5_seek 23 = .ok (.getfield 11, 3) := by decide +kernel
theorem dX5_seek_26 : decode cX5_seek 26 = .ok (.iconst 0, 1) := by decide +kernel
theorem dX5_seek_27 : decode cX5_seek 27 = .ok (.aaload, 1) := by decide +kernel
theorem dX5_seek_28 : decode cX5_seek 28 = .ok (.aload_n 3, 1) := by decide +kernel
theorem dX5_seek_29 : decode cX5_seek 29 = .ok (.invokevirtual 37, 3) := by decide +kernel
theorem dX5_seek_32 : decode cX5_seek 32 = .ok (.aload_n 0, 1) := by decide +kernel
theorem dX5_seek_33 : decode cX5_seek 33 = .ok (.aload_n 1, 1) := by decide +kernel
theorem dX5_seek_34 : decode cX5_seek 34 = .ok (.aload_n 2, 1) := by decide +kernel
theorem dX5_seek_35 : decode cX5_seek 35 = .ok (.iconst 0, 1) := by decide +kernel
theorem dX5_seek_36 : decode cX5_seek 36 = .ok (.lconst 0, 1) := by decide +kernel
theorem dX5_seek_37 : decode cX5_seek 37 = .ok (.iconst 0, 1) := by decide +kernel
theorem dX5_seek_38 : decode cX5_seek 38 = .ok (.invokevirtual 41, 3) := by decide +kernel
theorem dX5_seek_41 : decode cX5_seek 41 = .ok (.return_, 1) := by decide +kernel
theorem dX5_tryDays_0 : decode cX5_tryDays 0 = .ok (.iload_n 3, 1) := by decide +kernel
theorem dX5_tryDays_1 : decode cX5_tryDays 1 = .ok (.aload_n 0, 1) := by decide +kernel
theorem dX5_tryDays_2 : decode cX5_tryDays 2 = .ok (.getfield 24, 3) := by decide +kernel
theorem dX5_tryDays_5 : decode cX5_tryDays 5 = .ok (.if_icmp .lt 16, 3) := by decide +kernel
theorem dX5_tryDays_8 : decode cX5_tryDays 8 = .ok (.aload_n 0, 1) := by decide +kernel
theorem dX5_tryDays_9 : decode cX5_tryDays 9 = .ok (.lload 4, 2) := by decide +kernel
theorem dX5_tryDays_11 : decode cX5_tryDays 11 = .ok (.putfield 30, 3) := by decide +kernel
theorem dX5_tryDays_14 : decode cX5_tryDays 14 = .ok (.aload_n 0, 1) := by decide +kernel
theorem dX5_tryDays_15 : decode cX5_tryDays 15 = .ok (.iload 6, 2) := by decide +kernel
theorem dX5_tryDays_17 : decode cX5_tryDays 17 = .ok (.putfield 34, 3) := by decide +kernel
theorem dX5_tryDays_20 : decode cX5_tryDays 20 = .ok (.return_, 1) := by decide +kernel
theorem dX5_tryDays_21 : decode cX5_tryDays 21 = .ok (.iconst 1, 1) := by decide +kernel
theorem dX5_tryDays_22 : decode cX5_tryDays 22 = .ok (.aload_n 2, 1) := by decide +kernel
theorem dX5_tryDays_23 : decode cX5_tryDays 23 = .ok (.getfield 45, 3) := by decide +kernel
theorem dX5_tryDays_26 : decode cX5_tryDays 26 = .ok (.ishl, 1) := by decide +kernel
theorem dX5_tryDays_27 : decode cX5_tryDays 27 = .ok (.istore 7, 2) := by decide +kernel
theorem dX5_tryDays_29 : decode cX5_tryDays 29 = .ok (.iconst 1, 1) := by decide +kernel
theorem dX5_tryDays_30 : decode cX5_tryDays 30 = .ok (.istore 8, 2) := by decide +kernel
theorem dX5_tryDays_32 : decode cX5_tryDays 32 = .ok (.iconst 0, 1) := by decide +kernel
theorem dX5_tryDays_33 : decode cX5_tryDays 33 = .ok (.istore 9, 2) := by decide +kernel
theorem dX5_tryDays_35 : decode cX5_tryDays 35 = .ok (.iload 9, 2) := by decide +kernel
theorem dX5_tryDays_37 : decode cX5_tryDays 37 = .ok (.iload 7, 2) := by decide +kernel
theorem dX5_tryDays_39 : decode cX5_tryDays 39 = .ok (.if_icmp .ge 125, 3) := by decide +kernel
theorem dX5_tryDays_42 : decode cX5_tryDays 42 = .ok (.iload 8, 2) := by decide +kernel
theorem dX5_tryDays_44 : decode cX5_tryDays 44 = .ok (.ifCond .eq 120, 3) := by decide +kernel
theorem dX5_tryDays_47 : decode cX5_tryDays 47 = .ok (.aload_n 1, 1) := by decide +kernel
theorem dX5_tryDays_48 : decode cX5_tryDays 48 = .ok (.aload_n 2, 1) := by decide +kernel
theorem dX5_tryDays_49 : decode cX5_tryDays 49 = .ok (.aload_n 0, 1) := by decide +kernel
theorem dX5_tryDays_50 : decode cX5_tryDays 50 = .ok (.getfield 11, 3) := by decide +kernel
theorem dX5_tryDays_53 : decode cX5_tryDays 53 = .ok (.iload_n 3, 1) := by decide +kernel
theorem dX5_tryDays_54 : decode cX5_tryDays 54 = .ok (.aaload, 1) := by decide +kernel
theorem dX5_tryDays_55 : decode cX5_tryDays 55 = .ok (.invokevirtual 50, 3) := by decide +kernel
theorem dX5_tryDays_58 : decode cX5_tryDays 58 = .ok (.aload_n 1, 1) := by decide +kernel
theorem dX5_tryDays_59 : decode cX5_tryDays 59 = .ok (.iload 9, 2) := by decide +kernel
theorem dX5_tryDays_61 : decode cX5_tryDays 61 = .ok (.invokevirtual 56, 3) := by decide +kernel
theorem dX5_tryDays_64 : decode cX5_tryDays 64 = .ok (.lload 4, 2) := by decide +kernel
theorem dX5_tryDays_66 : decode cX5_tryDays 66 = .ok (.aload_n 1, 1) := by decide +kernel
theorem dX5_tryDays_67 : decode cX5_tryDays 67 = .ok (.getfield 60, 3) := by decide +kernel
theorem dX5_tryDays_70 : decode cX5_tryDays 70 = .ok (.getfield 64, 3) := by decide +kernel
theorem dX5_tryDays_73 : decode cX5_tryDays 73 = .ok (.ladd, 1) := by decide +kernel
theorem dX5_tryDays_74 : decode cX5_tryDays 74 = .ok (.lstore 10, 2) := by decide +kernel
theorem dX5_tryDays_76 : decode cX5_tryDays 76 = .ok (.iload 9, 2) := by decide +kernel
theorem dX5_tryDays_78 : decode cX5_tryDays 78 = .ok (.ifCond .ne 33, 3) := by decide +kernel
theorem dX5_tryDays_81 : decode cX5_tryDays 81 = .ok (.iload_n 3, 1) := by decide +kernel
theorem dX5_tryDays_82 : decode cX5_tryDays 82 = .ok (.aload_n 0, 1) := by decide +kernel
theorem dX5_tryDays_83 : decode cX5_tryDays 83 = .ok (.getfield 24, 3) := by decide +kernel
theorem dX5_tryDays_86 : decode cX5_tryDays 86 = .ok (.iconst 1, 1) := by decide +kernel
theorem dX5_tryDays_87 : decode cX5_tryDays 87 = .ok (.isub, 1) := by decide +kernel
theorem dX5_tryDays_88 : decode cX5_tryDays 88 = .ok (.if_icmp .ne 23, 3) := by decide +kernel
theorem dX5_tryDays_91 : decode cX5_tryDays 91 = .ok (.aload_n 1, 1) := by decide +kernel
theorem dX5_tryDays_92 : decode cX5_tryDays 92 = .ok (.getfield 60, 3) := by decide +kernel
theorem dX5_tryDays_95 : decode cX5_tryDays 95 = .ok (.getfield 69, 3) := by decide +kernel
theorem dX5_tryDays_98 : decode cX5_tryDays 98 = .ok (.sipush 1000, 3) := by decide +kernel
theorem dX5_tryDays_101 : decode cX5_tryDays 101 = .ok (.if_icmp .le 7, 3) := by decide +kernel
theorem dX5_tryDays_104 : decode cX5_tryDays 104 = .ok (.iconst 1, 1) := by decide +kernel
theorem dX5_tryDays_105 : decode cX5_tryDays 105 = .ok (.goto 4, 3) := by decide +kernel
theorem dX5_tryDays_108 : decode cX5_tryDays 108 = .ok (.iconst 0, 1) := by decide +kernel
theorem dX5_tryDays_109 : decode cX5_tryDays 109 = .ok (.istore 8, 2) := by decide +kernel
theorem dX5_tryDays_111 : decode cX5_tryDays 111 = .ok (.lload 10, 2) := by decide +kernel
theorem dX5_tryDays_113 : decode cX5_tryDays 113 = .ok (.aload_n 0, 1) := by decide +kernel
theorem dX5_tryDays_114 : decode cX5_tryDays 114 = .ok (.getfield 30, 3) := by decide +kernel
theorem dX5_tryDays_117 : decode cX5_tryDays 117 = .ok (.lcmp, 1) := by decide +kernel
theorem dX5_tryDays_118 : decode cX5_tryDays 118 = .ok (.ifCond .ge 40, 3) := by decide +kernel
theorem dX5_tryDays_121 : decode cX5_tryDays 121 = .ok (.aload_n 0, 1) := by decide +kernel
theorem dX5_tryDays_122 : decode cX5_tryDays 122 = .ok (.getfield 11, 3) := by decide +kernel
theorem dX5_tryDays_125 : decode cX5_tryDays 125 = .ok (.iload_n 3, 1) := by decide +kernel
theorem dX5_tryDays_126 : decode cX5_tryDays 126 = .ok (.iconst 1, 1) := by decide +kernel
theorem dX5_tryDays_127 : decode cX5_tryDays 127 = .ok (.iadd, 1) := by decide +kernel
theorem dX5_tryDays_128 : decode cX5_tryDays 128 = .ok (.aaload, 1) := by decide +kernel
theorem dX5_tryDays_129 : decode cX5_tryDays 129 = .ok (.aload_n 1, 1) := by decide +kernel
theorem dX5_tryDays_130 : decode cX5_tryDays 130 = .ok (.getfield 72, 3) := by decide +kernel
theorem dX5_tryDays_133 : decode cX5_tryDays 133 = .ok (.invokevirtual 37, 3) := by decide +kernel
theorem dX5_tryDays_136 : decode cX5_tryDays 136 = .ok (.aload_n 0, 1) := by decide +kernel
theorem dX5_tryDays_137 : decode cX5_tryDays 137 = .ok (.aload_n 1, 1) := by decide +kernel
theorem dX5_tryDays_138 : decode cX5_tryDays 138 = .ok (.aload_n 2, 1) := by decide +kernel
theorem dX5_tryDays_139 : decode cX5_tryDays 139 = .ok (.iload_n 3, 1) := by decide +kernel
theorem dX5_tryDays_140 : decode cX5_tryDays 140 = .ok (.iconst 1, 1) := by decide +kernel
theorem dX5_tryDays_141 : decode cX5_tryDays 141 = .ok (.iadd, 1) := by decide +kernel
theorem dX5_tryDays_142 : decode cX5_tryDays 142 = .ok (.lload 10, 2) := by decide +kernel
theorem dX5_tryDays_144 : decode cX5_tryDays 144 = .ok (.iload_n 3, 1) := by decide +kernel
theorem dX5_tryDays_145 : decode cX5_tryDays 145 = .ok (.ifCond .ne 8, 3) := by decide +kernel
theorem dX5_tryDays_148 : decode cX5_tryDays 148 = .ok (.iload 9, 2) := by decide +kernel
theorem dX5_tryDays_150 : decode cX5_tryDays 150 = .ok (.goto 5, 3) := by decide +kernel
theorem dX5_tryDays_153 : decode cX5_tryDays 153 = .ok (.iload 6, 2) := by decide +kernel
theorem dX5_tryDays_155 : decode cX5_tryDays 155 = .ok (.invokevirtual 41, 3) := by decide +kernel
theorem dX5_tryDays_158 : decode cX5_tryDays 158 = .ok (.iinc 9 1, 3) := by decide +kernel
theorem dX5_tryDays_161 : decode cX5_tryDays 161 = .ok (.goto (-126), 3) := by decide +kernel
theorem dX5_tryDays_164 : decode cX5_tryDays 164 = .ok (.return_, 1) := by decide +kernel
theorem dX6_init_0 : decode cX6_init 0 = .ok (.aload_n 0, 1) := by decide +kernel
theorem dX6_init_1 : decode cX6_init 1 = .ok (.invokespecial 3, 3) := by decide +kernel
theorem dX6_init_4 : decode cX6_init 4 = .ok (.aload_n 0, 1) := by decide +kernel
theorem dX6_init_5 : decode cX6_init 5 = .ok (.bipush 11, 2) := by decide +kernel
theorem dX6_init_7 : decode cX6_init 7 = .ok (.newarray .int, 2) := by decide +kernel
theorem dX6_init_9 : decode cX6_init 9 = .ok (.putfield 9, 3) := by decide +kernel
theorem dX6_init_12 : decode cX6_init 12 = .ok (.aload_n 0, 1) := by decide +kernel
theorem dX6_init_13 : decode cX6_init 13 = .ok (.bipush 11, 2) := by decide +kernel
theorem dX6_init_15 : decode cX6_init 15 = .ok (.newarray .int, 2) := by decide +kernel
theorem dX6_init_17 : decode cX6_init 17 = .ok (.putfield 15, 3) := by decide +kernel
theorem dX6_init_20 : decode cX6_init 20 = .ok (.aload_n 0, 1) := by decide +kernel
theorem dX6_init_21 : decode cX6_init 21 = .ok (.bipush 30, 2) := by decide +kernel
theorem dX6_init_23 : decode cX6_init 23 = .ok (.newarray .int, 2) := by decide +kernel
theorem dX6_init_25 : decode cX6_init 25 = .ok (.putfield 18, 3) := by decide +kernel
theorem dX6_init_28 : decode cX6_init 28 = .ok (.return_, 1) := by decide +kernel
theorem dX6_makeNew_0 : decode cX6_makeNew 0 = .ok (.aload_n 0, 1) := by decide +kernel
theorem dX6_makeNew_1 : decode cX6_makeNew 1 = .ok (.iconst 0, 1) := by decide +kernel
theorem dX6_makeNew_2 : decode cX6_makeNew 2 = .ok (.putfield 21, 3) := by decide +kernel
theorem dX6_makeNew_5 : decode cX6_makeNew 5 = .ok (.aload_n 0, 1) := by decide +kernel
theorem dX6_makeNew_6 : decode cX6_makeNew 6 = .ok (.iconst 0, 1) := by decide +kernel
theorem dX6_makeNew_7 : decode cX6_makeNew 7 = .ok (.putfield 25, 3) := by decide +kernel
theorem dX6_makeNew_10 : decode cX6_makeNew 10 = .ok (.iconst 0, 1) := by decide +kernel
theorem dX6_makeNew_11 : decode cX6_makeNew 11 = .ok (.istore_n 2, 1) := by decide +kernel
theorem dX6_makeNew_12 : decode cX6_makeNew 12 = .ok (.iload_n 2, 1) := by decide +kernel
theorem dX6_makeNew_13 : decode cX6_makeNew 13 = .ok (.aload_n 0, 1) := by decide +kernel
theorem dX6_makeNew_14 : decode cX6_makeNew 14 = .ok (.getfield 9, 3) := by decide +kernel
theorem dX6_makeNew_17 : decode cX6_makeNew 17 = .ok (.arraylength, 1) := by decide +kernel
theorem dX6_makeNew_18 : decode cX6_makeNew 18 = .ok (.if_icmp .ge 15, 3) := by decide +kernel
theorem dX6_makeNew_21 : decode cX6_makeNew 21 = .ok (.aload_n 0, 1) := by decide +kernel
theorem dX6_makeNew_22 : decode cX6_makeNew 22 = .ok (.iload_n 2, 1) := by decide +kernel
theorem dX6_makeNew_23 : decode cX6_makeNew 23 = .ok (.iload_n 1, 1) := by decide +kernel
theorem dX6_makeNew_24 : decode cX6_makeNew 24 = .ok (.invokevirtual 28, 3) := by decide +kernel
theorem dX6_makeNew_27 : decode cX6_makeNew 27 = .ok (.iinc 2 1, 3) := by decide +kernel
theorem dX6_makeNew_30 : decode cX6_makeNew 30 = .ok (.goto (-18), 3) := by decide +kernel
theorem dX6_makeNew_33 : decode cX6_makeNew 33 = .ok (.return_, 1) := by decide +kernel
theorem dX6_makeWhole_0 : decode cX6_makeWhole 0 = .ok (.aload_n 0, 1) := by decide +kernel
theorem dX6_makeWhole_1 : decode cX6_makeWhole 1 = .ok (.getfield 9, 3) := by decide +kernel
theorem dX6_makeWhole_4 : decode cX6_makeWhole 4 = .ok (.iload_n 1, 1) := by decide +kernel
theorem dX6_makeWhole_5 : decode cX6_makeWhole 5 = .ok (.iconst 0, 1) := by decide +kernel
theorem dX6_makeWhole_6 : decode cX6_makeWhole 6 = .ok (.iastore, 1) := by decide +kernel
theorem dX6_makeWhole_7 : decode cX6_makeWhole 7 = .ok (.aload_n 0, 1) := by decide +kernel
theorem dX6_makeWhole_8 : decode cX6_makeWhole 8 = .ok (.getfield 15, 3) := by decide +kernel
theorem dX6_makeWhole_11 : decode cX6_makeWhole 11 = .ok (.iload_n 1, 1) := by decide +kernel
theorem dX6_makeWhole_12 : decode cX6_makeWhole 12 = .ok (.iload_n 2, 1) := by decide +kernel
theorem dX6_makeWhole_13 : decode cX6_makeWhole 13 = .ok (.iastore, 1) := by decide +kernel
theorem dX6_makeWhole_14 : decode cX6_makeWhole 14 = .ok (.return_, 1) := by decide +kernel
theorem dX6_take_0 : decode cX6_take 0 = .ok (.aload_n 0, 1) := by decide +kernel
theorem dX6_take_1 : decode cX6_take 1 = .ok (.aload_n 1, 1) := by decide +kernel
theorem dX6_take_2 : decode cX6_take 2 = .ok (.getfield 21, 3) := by decide +kernel
theorem dX6_take_5 : decode cX6_take 5 = .ok (.putfield 21, 3) := by decide +kernel
theorem dX6_take_8 : decode cX6_take 8 = .ok (.aload_n 0, 1) := by decide +kernel
theorem dX6_take_9 : decode cX6_take 9 = .ok (.aload_n 1, 1) := by decide +kernel
theorem dX6_take_10 : decode cX6_take 10 = .ok (.getfield 25, 3) := by decide +kernel
theorem dX6_take_13 : decode cX6_take 13 = .ok (.putfield 25, 3) := by decide +kernel
theorem dX6_take_16 : decode cX6_take 16 = .ok (.aload_n 1, 1) := by decide +kernel
theorem dX6_take_17 : decode cX6_take 17 = .ok (.getfield 9, 3) := by decide +kernel
theorem dX6_take_20 : decode cX6_take 20 = .ok (.iconst 0, 1) := by decide +kernel
theorem dX6_take_21 : decode cX6_take 21 = .ok (.aload_n 0, 1) := by decide +kernel
theorem dX6_take_22 : decode cX6_take 22 = .ok (.getfield 9, 3) := by decide +kernel
theorem dX6_take_25 : decode cX6_take 25 = .ok (.iconst 0, 1) := by decide +kernel
theorem dX6_take_26 : decode cX6_take 26 = .ok (.aload_n 0, 1) := by decide +kernel
theorem dX6_take_27 : decode cX6_take 27 = .ok (.getfield 9, 3) := by decide +kernel
theorem dX6_take_30 : decode cX6_take 30 = .ok (.arraylength, 1) := by decide +kernel
theorem dX6_take_31 : decode cX6_take 31 = .ok (.invokestatic 32, 3) := by decide +kernel
theorem dX6_take_34 : decode cX6_take 34 = .ok (.aload_n 1, 1) := by decide +kernel
theorem dX6_take_35 : decode cX6_take 35 = .ok (.getfield 15, 3) := by decide +kernel
theorem dX6_take_38 : decode cX6_take 38 = .ok (.iconst 0, 1) := by decide +kernel
theorem dX6_take_39 : decode cX6_take 39 = .ok (.aload_n 0, 1) := by decide +kernel
theorem dX6_take_40 : decode cX6_take 40 = .ok (.getfield 15, 3) := by decide +kernel
theorem dX6_take_43 : decode cX6_take 43 = .ok (.iconst 0, 1) := by decide +kernel
theorem dX6_take_44 : decode cX6_take 44 = .ok (.aload_n 0, 1) := by decide +kernel
theorem dX6_take_45 : decode cX6_take 45 = .ok (.getfield 15, 3) := by decide +kernel
theorem dX6_take_48 : decode cX6_take 48 = .ok (.arraylength, 1) := by decide +kernel
theorem dX6_take_49 : decode cX6_take 49 = .ok (.invokestatic 32, 3) := by decide +kernel
theorem dX6_take_52 : decode cX6_take 52 = .ok (.aload_n 1, 1) := by decide +kernel
theorem dX6_take_53 : decode cX6_take 53 = .ok (.getfield 18, 3) := by decide +kernel
theorem dX6_take_56 : decode cX6_take 56 = .ok (.iconst 0, 1) := by decide +kernel
theorem dX6_take_57 : decode cX6_take 57 = .ok (.aload_n 0, 1) := by decide +kernel
theorem dX6_take_58 : decode cX6_take 58 = .ok (.getfield 18, 3) := by decide +kernel
theorem dX6_take_61 : decode cX6_take 61 = .ok (.iconst 0, 1) := by decide +kernel
theorem dX6_take_62 : decode cX6_take 62 = .ok (.aload_n 0, 1) := by decide +kernel
theorem dX6_take_63 : decode cX6_take 63 = .ok (.getfield 18, 3) := by decide +kernel
theorem dX6_take_66 : decode cX6_take 66 = .ok (.arraylength, 1) := by decide +kernel
theorem dX6_take_67 : decode cX6_take 67 = .ok (.invokestatic 32, 3) := by decide +kernel
theorem dX6_take_70 : decode cX6_take 70 = .ok (.return_, 1) := by decide +kernel
theorem dX6_isPastUse_0 : decode cX6_isPastUse 0 = .ok (.aload_n 0, 1) := by decide +kernel
theorem dX6_isPastUse_1 : decode cX6_isPastUse 1 = .ok (.getfield 9, 3) := by decide +kernel
theorem dX6_isPastUse_4 : decode cX6_isPastUse 4 = .ok (.iload_n 2, 1) := by decide +kernel
theorem dX6_isPastUse_5 : decode cX6_isPastUse 5 = .ok (.iaload, 1) := by decide +kernel
theorem dX6_isPastUse_6 : decode cX6_isPastUse 6 = .ok (.aload_n 1, 1) := by decide +kernel
theorem dX6_isPastUse_7 : decode cX6_isPastUse 7 = .ok (.getfield 38, 3) := by decide +kernel
theorem dX6_isPastUse_10 : decode cX6_isPastUse 10 = .ok (.iload_n 2, 1) := by decide +kernel
theorem dX6_isPastUse_11 : decode cX6_isPastUse 11 = .ok (.aaload, 1) := by decide +kernel
theorem dX6_isPastUse_12 : decode cX6_isPastUse 12 = .ok (.iconst 4, 1) := by decide +kernel
theorem dX6_isPastUse_13 : decode cX6_isPastUse 13 = .ok (.iaload, 1) := by decide +kernel
theorem dX6_isPastUse_14 : decode cX6_isPastUse 14 = .ok (.if_icmp .le 7, 3) := by decide +kernel
theorem dX6_isPastUse_17 : decode cX6_isPastUse 17 = .ok (.iconst 1, 1) := by decide +kernel
theorem dX6_isPastUse_18 : decode cX6_isPastUse 18 = .ok (.goto 4, 3) := by decide +kernel
theorem dX6_isPastUse_21 : decode cX6_isPastUse 21 = .ok (.iconst 0, 1) := by decide +kernel
theorem dX6_isPastUse_22 : decode cX6_isPastUse 22 = .ok (.ireturn, 1) := by decide +kernel
theorem dX6_firstPastUse_0 : decode cX6_firstPastUse 0 = .ok (.iconst 0, 1) := by decide +kernel
theorem dX6_firstPastUse_1 : decode cX6_firstPastUse 1 = .ok (.istore_n 2, 1) := by decide +kernel
theorem dX6_firstPastUse_2 : decode cX6_firstPastUse 2 = .ok (.iload_n 2, 1) := by decide +kernel
theorem dX6_firstPastUse_3 : decode cX6_firstPastUse 3 = .ok (.aload_n 1, 1) := by decide +kernel
theorem dX6_firstPastUse_4 : decode cX6_firstPastUse 4 = .ok (.getfield 44, 3) := by decide +kernel
theorem dX6_firstPastUse_7 : decode cX6_firstPastUse 7 = .ok (.if_icmp .ge 20, 3) := by decide +kernel
theorem dX6_firstPastUse_10 : decode cX6_firstPastUse 10 = .ok (.aload_n 0, 1) := by decide +kernel
theorem dX6_firstPastUse_11 : decode cX6_firstPastUse 11 = .ok (.aload_n 1, 1) := by decide +kernel
theorem dX6_firstPastUse_12 : decode cX6_firstPastUse 12 = .ok (.iload_n 2, 1) := by decide +kernel
theorem dX6_firstPastUse_13 : decode cX6_firstPastUse 13 = .ok (.invokevirtual 47, 3) := by decide +kernel
theorem dX6_firstPastUse_16 : decode cX6_firstPastUse 16 = .ok (.ifCond .eq 5, 3) := by decide +kernel
theorem dX6_firstPastUse_19 : decode cX6_firstPastUse 19 = .ok (.iload_n 2, 1) := by decide +kernel
theorem dX6_firstPastUse_20 : decode cX6_firstPastUse 20 = .ok (.ireturn, 1) := by decide +kernel
theorem dX6_firstPastUse_21 : decode cX6_firstPastUse 21 = .ok (.iinc 2 1, 3) := by decide +kernel
theorem dX6_firstPastUse_24 : decode cX6_firstPastUse 24 = .ok (.goto (-22), 3) := by decide +kernel
theorem dX6_firstPastUse_27 : decode cX6_firstPastUse 27 = .ok (.iconst (-1), 1) := by decide +kernel
theorem dX6_firstPastUse_28 : decode cX6_firstPastUse 28 = .ok (.ireturn, 1) := by decide +kernel
theorem dX6_pastUseCount_0 : decode cX6_pastUseCount 0 = .ok (.iconst 0, 1) := by decide +kernel
theorem dX6_pastUseCount_1 : decode cX6_pastUseCount 1 = .ok (.istore_n 2, 1) := by decide +kernel
theorem dX6_pastUseCount_2 : decode cX6_pastUseCount 2 = .ok (.iconst 0, 1) := by decide +kernel
theorem dX6_pastUseCount_3 : decode cX6_pastUseCount 3 = .ok (.istore_n 3, 1) := by decide +kernel
theorem dX6_pastUseCount_4 : decode cX6_pastUseCount 4 = .ok (.iload_n 3, 1) := by decide +kernel
theorem dX6_pastUseCount_5 : decode cX6_pastUseCount 5 = .ok (.aload_n 1, 1) := by decide +kernel
theorem dX6_pastUseCount_6 : decode cX6_pastUseCount 6 = .ok (.getfield 44, 3) := by decide +kernel
theorem dX6_pastUseCount_9 : decode cX6_pastUseCount 9 = .ok (.if_icmp .ge 21, 3) := by decide +kernel
theorem dX6_pastUseCount_12 : decode cX6_pastUseCount 12 = .ok (.aload_n 0, 1) := by decide +kernel
theorem dX6_pastUseCount_13 : decode cX6_pastUseCount 13 = .ok (.aload_n 1, 1) := by decide +kernel
theorem dX6_pastUseCount_14 : decode cX6_pastUseCount 14 = .ok (.iload_n 3, 1) := by decide +kernel
theorem dX6_pastUseCount_15 : decode cX6_pastUseCount 15 = .ok (.invokevirtual 47, 3) := by decide +kernel
theorem dX6_pastUseCount_18 : decode cX6_pastUseCount 18 = .ok (.ifCond .eq 6, 3) := by decide +kernel
theorem dX6_pastUseCount_21 : decode cX6_pastUseCount 21 = .ok (.iinc 2 1, 3) := by decide +kernel
theorem dX6_pastUseCount_24 : decode cX6_pastUseCount 24 = .ok (.iinc 3 1, 3) := by decide +kernel
theorem dX6_pastUseCount_27 : decode cX6_pastUseCount 27 = .ok (.goto (-23), 3) := by decide +kernel
theorem dX6_pastUseCount_30 : decode cX6_pastUseCount 30 = .ok (.iload_n 2, 1) := by decide +kernel
theorem dX6_pastUseCount_31 : decode cX6_pastUseCount 31 = .ok (.ireturn, 1) := by decide +kernel
theorem dX6_mostWear_0 : decode cX6_mostWear 0 = .ok (.iconst 0, 1) := by decide +kernel
theorem dX6_mostWear_1 : decode cX6_mostWear 1 = .ok (.istore_n 2, 1) := by decide +kernel
theorem dX6_mostWear_2 : decode cX6_mostWear 2 = .ok (.iconst 0, 1) := by decide +kernel
theorem dX6_mostWear_3 : decode cX6_mostWear 3 = .ok (.istore_n 3, 1) := by decide +kernel
theorem dX6_mostWear_4 : decode cX6_mostWear 4 = .ok (.iload_n 3, 1) := by decide +kernel
theorem dX6_mostWear_5 : decode cX6_mostWear 5 = .ok (.aload_n 1, 1) := by decide +kernel
theorem dX6_mostWear_6 : decode cX6_mostWear 6 = .ok (.getfield 44, 3) := by decide +kernel
theorem dX6_mostWear_9 : decode cX6_mostWear 9 = .ok (.if_icmp .ge 20, 3) := by decide +kernel
theorem dX6_mostWear_12 : decode cX6_mostWear 12 = .ok (.iload_n 2, 1) := by decide +kernel
theorem dX6_mostWear_13 : decode cX6_mostWear 13 = .ok (.aload_n 0, 1) := by decide +kernel
theorem dX6_mostWear_14 : decode cX6_mostWear 14 = .ok (.getfield 9, 3) := by decide +kernel
theorem dX6_mostWear_17 : decode cX6_mostWear 17 = .ok (.iload_n 3, 1) := by decide +kernel
theorem dX6_mostWear_18 : decode cX6_mostWear 18 = .ok (.iaload, 1) := by decide +kernel
theorem dX6_mostWear_19 : decode cX6_mostWear 19 = .ok (.invokestatic 51, 3) := by decide +kernel
theorem dX6_mostWear_22 : decode cX6_mostWear 22 = .ok (.istore_n 2, 1) := by decide +kernel
theorem dX6_mostWear_23 : decode cX6_mostWear 23 = .ok (.iinc 3 1, 3) := by decide +kernel
theorem dX6_mostWear_26 : decode cX6_mostWear 26 = .ok (.goto (-22), 3) := by decide +kernel
theorem dX6_mostWear_29 : decode cX6_mostWear 29 = .ok (.iload_n 2, 1) := by decide +kernel
theorem dX6_mostWear_30 : decode cX6_mostWear 30 = .ok (.ireturn, 1) := by decide +kernel
theorem dX6_endDay_0 : decode cX6_endDay 0 = .ok (.iload_n 2, 1) := by decide +kernel
theorem dX6_endDay_1 : decode cX6_endDay 1 = .ok (.ifCond .le 30, 3) := by decide +kernel
theorem dX6_endDay_4 : decode cX6_endDay 4 = .ok (.aload_n 0, 1) := by decide +kernel
theorem dX6_endDay_5 : decode cX6_endDay 5 = .ok (.getfield 9, 3) := by decide +kernel
theorem dX6_endDay_8 : decode cX6_endDay 8 = .ok (.iload_n 1, 1) := by decide +kernel
theorem dX6_endDay_9 : decode cX6_endDay 9 = .ok (.bipush 99, 2) := by decide +kernel
theorem dX6_endDay_11 : decode cX6_endDay 11 = .ok (.aload_n 0, 1) := by decide +kernel
theorem dX6_endDay_12 : decode cX6_endDay 12 = .ok (.getfield 9, 3) := by decide +kernel
theorem dX6_endDay_15 : decode cX6_endDay 15 = .ok (.iload_n 1, 1) := by decide +kernel
theorem dX6_endDay_16 : decode cX6_endDay 16 = .ok (.iaload, 1) := by decide +kernel
theorem dX6_endDay_17 : decode cX6_endDay 17 = .ok (.iload_n 2, 1) := by decide +kernel
theorem dX6_endDay_18 : decode cX6_endDay 18 = .ok (.iadd, 1) := by decide +kernel
theorem dX6_endDay_19 : decode cX6_endDay 19 = .ok (.invokestatic 57, 3) := by decide +kernel
theorem dX6_endDay_22 : decode cX6_endDay 22 = .ok (.iastore, 1) := by decide +kernel
theorem dX6_endDay_23 : decode cX6_endDay 23 = .ok (.aload_n 0, 1) := by decide +kernel
theorem dX6_endDay_24 : decode cX6_endDay 24 = .ok (.getfield 15, 3) := by decide +kernel
theorem dX6_endDay_27 : decode cX6_endDay 27 = .ok (.iload_n 1, 1) := by decide +kernel
theorem dX6_endDay_28 : decode cX6_endDay 28 = .ok (.iconst 0, 1) := by decide +kernel
theorem dX6_endDay_29 : decode cX6_endDay 29 = .ok (.iastore, 1) := by decide +kernel
theorem dX6_endDay_30 : decode cX6_endDay 30 = .ok (.return_, 1) := by decide +kernel
theorem dX6_endDay_31 : decode cX6_endDay 31 = .ok (.aload_n 0, 1) := by decide +kernel
theorem dX6_endDay_32 : decode cX6_endDay 32 = .ok (.getfield 15, 3) := by decide +kernel
theorem dX6_endDay_35 : decode cX6_endDay 35 = .ok (.iload_n 1, 1) := by decide +kernel
theorem dX6_endDay_36 : decode cX6_endDay 36 = .ok (.iload_n 3, 1) := by decide +kernel
theorem dX6_endDay_37 : decode cX6_endDay 37 = .ok (.aload_n 0, 1) := by decide +kernel
theorem dX6_endDay_38 : decode cX6_endDay 38 = .ok (.getfield 15, 3) := by decide +kernel
theorem dX6_endDay_41 : decode cX6_endDay 41 = .ok (.iload_n 1, 1) := by decide +kernel
theorem dX6_endDay_42 : decode cX6_endDay 42 = .ok (.iaload, 1) := by decide +kernel
theorem dX6_endDay_43 : decode cX6_endDay 43 = .ok (.iconst 1, 1) := by decide +kernel
theorem dX6_endDay_44 : decode cX6_endDay 44 = .ok (.iadd, 1) := by decide +kernel
theorem dX6_endDay_45 : decode cX6_endDay 45 = .ok (.invokestatic 57, 3) := by decide +kernel
theorem dX6_endDay_48 : decode cX6_endDay 48 = .ok (.iastore, 1) := by decide +kernel
theorem dX6_endDay_49 : decode cX6_endDay 49 = .ok (.aload_n 0, 1) := by decide +kernel
theorem dX6_endDay_50 : decode cX6_endDay 50 = .ok (.getfield 15, 3) := by decide +kernel
theorem dX6_endDay_53 : decode cX6_endDay 53 = .ok (.iload_n 1, 1) := by decide +kernel
theorem dX6_endDay_54 : decode cX6_endDay 54 = .ok (.iaload, 1) := by decide +kernel
theorem dX6_endDay_55 : decode cX6_endDay 55 = .ok (.iload_n 3, 1) := by decide +kernel
theorem dX6_endDay_56 : decode cX6_endDay 56 = .ok (.if_icmp .ne 10, 3) := by decide +kernel
theorem dX6_endDay_59 : decode cX6_endDay 59 = .ok (.aload_n 0, 1) := by decide +kernel
theorem dX6_endDay_60 : decode cX6_endDay 60 = .ok (.getfield 9, 3) := by decide +kernel
theorem dX6_endDay_63 : decode cX6_endDay 63 = .ok (.iload_n 1, 1) := by decide +kernel
theorem dX6_endDay_64 : decode cX6_endDay 64 = .ok (.iconst 0, 1) := by decide +kernel
theorem dX6_endDay_65 : decode cX6_endDay 65 = .ok (.iastore, 1) := by decide +kernel
theorem dX6_endDay_66 : decode cX6_endDay 66 = .ok (.return_, 1) := by decide +kernel
theorem dX7_init_0 : decode cX7_init 0 = .ok (.aload_n 0, 1) := by decide +kernel
theorem dX7_init_1 : decode cX7_init 1 = .ok (.invokespecial 3, 3) := by decide +kernel
theorem dX7_init_4 : decode cX7_init 4 = .ok (.return_, 1) := by decide +kernel
theorem dX7_makeEmpty_0 : decode cX7_makeEmpty 0 = .ok (.aload_n 0, 1) := by decide +kernel
theorem dX7_makeEmpty_1 : decode cX7_makeEmpty 1 = .ok (.lconst 0, 1) := by decide +kernel
theorem dX7_makeEmpty_2 : decode cX7_makeEmpty 2 = .ok (.putfield 9, 3) := by decide +kernel
theorem dX7_makeEmpty_5 : decode cX7_makeEmpty 5 = .ok (.aload_n 0, 1) := by decide +kernel
theorem dX7_makeEmpty_6 : decode cX7_makeEmpty 6 = .ok (.lconst 0, 1) := by decide +kernel
theorem dX7_makeEmpty_7 : decode cX7_makeEmpty 7 = .ok (.putfield 15, 3) := by decide +kernel
theorem dX7_makeEmpty_10 : decode cX7_makeEmpty 10 = .ok (.aload_n 0, 1) := by decide +kernel
theorem dX7_makeEmpty_11 : decode cX7_makeEmpty 11 = .ok (.lconst 0, 1) := by decide +kernel
theorem dX7_makeEmpty_12 : decode cX7_makeEmpty 12 = .ok (.putfield 18, 3) := by decide +kernel
theorem dX7_makeEmpty_15 : decode cX7_makeEmpty 15 = .ok (.aload_n 0, 1) := by decide +kernel
theorem dX7_makeEmpty_16 : decode cX7_makeEmpty 16 = .ok (.iconst 0, 1) := by decide +kernel
theorem dX7_makeEmpty_17 : decode cX7_makeEmpty 17 = .ok (.putfield 21, 3) := by decide +kernel
theorem dX7_makeEmpty_20 : decode cX7_makeEmpty 20 = .ok (.aload_n 0, 1) := by decide +kernel
theorem dX7_makeEmpty_21 : decode cX7_makeEmpty 21 = .ok (.iconst 0, 1) := by decide +kernel
theorem dX7_makeEmpty_22 : decode cX7_makeEmpty 22 = .ok (.putfield 25, 3) := by decide +kernel
theorem dX7_makeEmpty_25 : decode cX7_makeEmpty 25 = .ok (.aload_n 0, 1) := by decide +kernel
theorem dX7_makeEmpty_26 : decode cX7_makeEmpty 26 = .ok (.invokevirtual 28, 3) := by decide +kernel
theorem dX7_makeEmpty_29 : decode cX7_makeEmpty 29 = .ok (.return_, 1) := by decide +kernel
theorem dX7_beginDay_0 : decode cX7_beginDay 0 = .ok (.aload_n 0, 1) := by decide +kernel
theorem dX7_beginDay_1 : decode cX7_beginDay 1 = .ok (.iconst (-1), 1) := by decide +kernel
theorem dX7_beginDay_2 : decode cX7_beginDay 2 = .ok (.putfield 31, 3) := by decide +kernel
theorem dX7_beginDay_5 : decode cX7_beginDay 5 = .ok (.aload_n 0, 1) := by decide +kernel
theorem dX7_beginDay_6 : decode cX7_beginDay 6 = .ok (.iconst 0, 1) := by decide +kernel
theorem dX7_beginDay_7 : decode cX7_beginDay 7 = .ok (.putfield 34, 3) := by decide +kernel
theorem dX7_beginDay_10 : decode cX7_beginDay 10 = .ok (.return_, 1) := by decide +kernel
theorem dX7_noteStay_0 : decode cX7_noteStay 0 = .ok (.aload_n 0, 1) := by decide +kernel
theorem dX7_noteStay_1 : decode cX7_noteStay 1 = .ok (.dup, 1) := by decide +kernel
theorem dX7_noteStay_2 : decode cX7_noteStay 2 = .ok (.getfield 21, 3) := by decide +kernel
theorem dX7_noteStay_5 : decode cX7_noteStay 5 = .ok (.iconst 1, 1) := by decide +kernel
theorem dX7_noteStay_6 : decode cX7_noteStay 6 = .ok (.iadd, 1) := by decide +kernel
theorem dX7_noteStay_7 : decode cX7_noteStay 7 = .ok (.putfield 21, 3) := by decide +kernel
theorem dX7_noteStay_10 : decode cX7_noteStay 10 = .ok (.aload_n 0, 1) := by decide +kernel
theorem dX7_noteStay_11 : decode cX7_noteStay 11 = .ok (.dup, 1) := by decide +kernel
theorem dX7_noteStay_12 : decode cX7_noteStay 12 = .ok (.getfield 9, 3) := by decide +kernel
theorem dX7_noteStay_15 : decode cX7_noteStay 15 = .ok (.ldc2_w 37, 3) := by decide +kernel
theorem dX7_noteStay_18 : decode cX7_noteStay 18 = .ok (.ladd, 1) := by decide +kernel
theorem dX7_noteStay_19 : decode cX7_noteStay 19 = .ok (.putfield 9, 3) := by decide +kernel
theorem dX7_noteStay_22 : decode cX7_noteStay 22 = .ok (.aload_n 0, 1) := by decide +kernel
theorem dX7_noteStay_23 : decode cX7_noteStay 23 = .ok (.getfield 31, 3) := by decide +kernel
theorem dX7_noteStay_26 : decode cX7_noteStay 26 = .ok (.iconst (-1), 1) := by decide +kernel
theorem dX7_noteStay_27 : decode cX7_noteStay 27 = .ok (.if_icmp .ne 8, 3) := by decide +kernel
theorem dX7_noteStay_30 : decode cX7_noteStay 30 = .ok (.aload_n 0, 1) := by decide +kernel
theorem dX7_noteStay_31 : decode cX7_noteStay 31 = .ok (.iload_n 1, 1) := by decide +kernel
theorem dX7_noteStay_32 : decode cX7_noteStay 32 = .ok (.putfield 31, 3) := by decide +kernel
theorem dX7_noteStay_35 : decode cX7_noteStay 35 = .ok (.return_, 1) := by decide +kernel
theorem dX7_noteWay_0 : decode cX7_noteWay 0 = .ok (.aload_n 0, 1) := by decide +kernel
theorem dX7_noteWay_1 : decode cX7_noteWay 1 = .ok (.dup, 1) := by decide +kernel
theorem dX7_noteWay_2 : decode cX7_noteWay 2 = .ok (.getfield 25, 3) := by decide +kernel
theorem dX7_noteWay_5 : decode cX7_noteWay 5 = .ok (.iconst 1, 1) := by decide +kernel
theorem dX7_noteWay_6 : decode cX7_noteWay 6 = .ok (.iadd, 1) := by decide +kernel
theorem dX7_noteWay_7 : decode cX7_noteWay 7 = .ok (.putfield 25, 3) := by decide +kernel
theorem dX7_noteWay_10 : decode cX7_noteWay 10 = .ok (.aload_n 0, 1) := by decide +kernel
theorem dX7_noteWay_11 : decode cX7_noteWay 11 = .ok (.dup, 1) := by decide +kernel
theorem dX7_noteWay_12 : decode cX7_noteWay 12 = .ok (.getfield 9, 3) := by decide +kernel
theorem dX7_noteWay_15 : decode cX7_noteWay 15 = .ok (.aload_n 1, 1) := by decide +kernel
theorem dX7_noteWay_16 : decode cX7_noteWay 16 = .ok (.getfield 39, 3) := by decide +kernel
theorem dX7_noteWay_19 : decode cX7_noteWay 19 = .ok (.i2l, 1) := by decide +kernel
theorem dX7_noteWay_20 : decode cX7_noteWay 20 = .ok (.ladd, 1) := by decide +kernel
theorem dX7_noteWay_21 : decode cX7_noteWay 21 = .ok (.putfield 9, 3) := by decide +kernel
theorem dX7_noteWay_24 : decode cX7_noteWay 24 = .ok (.aload_n 0, 1) := by decide +kernel
theorem dX7_noteWay_25 : decode cX7_noteWay 25 = .ok (.dup, 1) := by decide +kernel
theorem dX7_noteWay_26 : decode cX7_noteWay 26 = .ok (.getfield 18, 3) := by decide +kernel
theorem dX7_noteWay_29 : decode cX7_noteWay 29 = .ok (.aload_n 1, 1) := by decide +kernel
theorem dX7_noteWay_30 : decode cX7_noteWay 30 = .ok (.getfield 44, 3) := by decide +kernel
theorem dX7_noteWay_33 : decode cX7_noteWay 33 = .ok (.i2l, 1) := by decide +kernel
theorem dX7_noteWay_34 : decode cX7_noteWay 34 = .ok (.ladd, 1) := by decide +kernel
theorem dX7_noteWay_35 : decode cX7_noteWay 35 = .ok (.putfield 18, 3) := by decide +kernel
theorem dX7_noteWay_38 : decode cX7_noteWay 38 = .ok (.aload_n 0, 1) := by decide +kernel
theorem dX7_noteWay_39 : decode cX7_noteWay 39 = .ok (.aload_n 0, 1) := by decide +kernel
theorem dX7_noteWay_40 : decode cX7_noteWay 40 = .ok (.getfield 34, 3) := by decide +kernel
theorem dX7_noteWay_43 : decode cX7_noteWay 43 = .ok (.aload_n 1, 1) := by decide +kernel
theorem dX7_noteWay_44 : decode cX7_noteWay 44 = .ok (.getfield 39, 3) := by decide +kernel
theorem dX7_noteWay_47 : decode cX7_noteWay 47 = .ok (.invokestatic 47, 3) := by decide +kernel
theorem dX7_noteWay_50 : decode cX7_noteWay 50 = .ok (.putfield 34, 3) := by decide +kernel
theorem dX7_noteWay_53 : decode cX7_noteWay 53 = .ok (.return_, 1) := by decide +kernel
theorem dX8_init_0 : decode cX8_init 0 = .ok (.aload_n 0, 1) := by decide +kernel
theorem dX8_init_1 : decode cX8_init 1 = .ok (.invokespecial 3, 3) := by decide +kernel
theorem dX8_init_4 : decode cX8_init 4 = .ok (.aload_n 0, 1) := by decide +kernel
theorem dX8_init_5 : decode cX8_init 5 = .ok (.new 9, 3) := by decide +kernel
theorem dX8_init_8 : decode cX8_init 8 = .ok (.dup, 1) := by decide +kernel
theorem dX8_init_9 : decode cX8_init 9 = .ok (.invokespecial 11, 3) := by decide +kernel
theorem dX8_init_12 : decode cX8_init 12 = .ok (.putfield 12, 3) := by decide +kernel
theorem dX8_init_15 : decode cX8_init 15 = .ok (.aload_n 0, 1) := by decide +kernel
theorem dX8_init_16 : decode cX8_init 16 = .ok (.new 18, 3) := by decide +kernel
theorem dX8_init_19 : decode cX8_init 19 = .ok (.dup, 1) := by decide +kernel
theorem dX8_init_20 : decode cX8_init 20 = .ok (.invokespecial 20, 3) := by decide +kernel
theorem dX8_init_23 : decode cX8_init 23 = .ok (.putfield 21, 3) := by decide +kernel
theorem dX8_init_26 : decode cX8_init 26 = .ok (.aload_n 0, 1) := by decide +kernel
theorem dX8_init_27 : decode cX8_init 27 = .ok (.new 25, 3) := by decide +kernel
theorem dX8_init_30 : decode cX8_init 30 = .ok (.dup, 1) := by decide +kernel
theorem dX8_init_31 : decode cX8_init 31 = .ok (.invokespecial 27, 3) := by decide +kernel
theorem dX8_init_34 : decode cX8_init 34 = .ok (.putfield 28, 3) := by decide +kernel
theorem dX8_init_37 : decode cX8_init 37 = .ok (.aload_n 0, 1) := by decide +kernel
theorem dX8_init_38 : decode cX8_init 38 = .ok (.new 32, 3) := by decide +kernel
theorem dX8_init_41 : decode cX8_init 41 = .ok (.dup, 1) := by decide +kernel
theorem dX8_init_42 : decode cX8_init 42 = .ok (.invokespecial 34, 3) := by decide +kernel
theorem dX8_init_45 : decode cX8_init 45 = .ok (.putfield 35, 3) := by decide +kernel
theorem dX8_init_48 : decode cX8_init 48 = .ok (.aload_n 0, 1) := by decide +kernel
theorem dX8_init_49 : decode cX8_init 49 = .ok (.bipush 11, 2) := by decide +kernel
theorem dX8_init_51 : decode cX8_init 51 = .ok (.newarray .int, 2) := by decide +kernel
theorem dX8_init_53 : decode cX8_init 53 = .ok (.putfield 39, 3) := by decide +kernel
theorem dX8_init_56 : decode cX8_init 56 = .ok (.aload_n 0, 1) := by decide +kernel
theorem dX8_init_57 : decode cX8_init 57 = .ok (.new 43, 3) := by decide +kernel
theorem dX8_init_60 : decode cX8_init 60 = .ok (.dup, 1) := by decide +kernel
theorem dX8_init_61 : decode cX8_init 61 = .ok (.invokespecial 45, 3) := by decide +kernel
theorem dX8_init_64 : decode cX8_init 64 = .ok (.putfield 46, 3) := by decide +kernel
theorem dX8_init_67 : decode cX8_init 67 = .ok (.aload_n 0, 1) := by decide +kernel
theorem dX8_init_68 : decode cX8_init 68 = .ok (.new 50, 3) := by decide +kernel
theorem dX8_init_71 : decode cX8_init 71 = .ok (.dup, 1) := by decide +kernel
theorem dX8_init_72 : decode cX8_init 72 = .ok (.invokespecial 52, 3) := by decide +kernel
theorem dX8_init_75 : decode cX8_init 75 = .ok (.putfield 53, 3) := by decide +kernel
theorem dX8_init_78 : decode cX8_init 78 = .ok (.return_, 1) := by decide +kernel
theorem dX8_begin_0 : decode cX8_begin 0 = .ok (.aload_n 0, 1) := by decide +kernel
theorem dX8_begin_1 : decode cX8_begin 1 = .ok (.aload_n 1, 1) := by decide +kernel
theorem dX8_begin_2 : decode cX8_begin 2 = .ok (.putfield 53, 3) := by decide +kernel
theorem dX8_begin_5 : decode cX8_begin 5 = .ok (.aload_n 0, 1) := by decide +kernel
theorem dX8_begin_6 : decode cX8_begin 6 = .ok (.getfield 46, 3) := by decide +kernel
theorem dX8_begin_9 : decode cX8_begin 9 = .ok (.aload_n 2, 1) := by decide +kernel
theorem dX8_begin_10 : decode cX8_begin 10 = .ok (.invokevirtual 57, 3) := by decide +kernel
theorem dX8_begin_13 : decode cX8_begin 13 = .ok (.aload_n 0, 1) := by decide +kernel
theorem dX8_begin_14 : decode cX8_begin 14 = .ok (.iconst 0, 1) := by decide +kernel
theorem dX8_begin_15 : decode cX8_begin 15 = .ok (.putfield 61, 3) := by decide +kernel
theorem dX8_begin_18 : decode cX8_begin 18 = .ok (.aload_n 0, 1) := by decide +kernel
theorem dX8_begin_19 : decode cX8_begin 19 = .ok (.getfield 21, 3) := by decide +kernel
theorem dX8_begin_22 : decode cX8_begin 22 = .ok (.aload_n 1, 1) := by decide +kernel
theorem dX8_begin_23 : decode cX8_begin 23 = .ok (.invokevirtual 65, 3) := by decide +kernel
theorem dX8_begin_26 : decode cX8_begin 26 = .ok (.aload_n 0, 1) := by decide +kernel
theorem dX8_begin_27 : decode cX8_begin 27 = .ok (.getfield 28, 3) := by decide +kernel
theorem dX8_begin_30 : decode cX8_begin 30 = .ok (.invokevirtual 69, 3) := by decide +kernel
theorem dX8_begin_33 : decode cX8_begin 33 = .ok (.return_, 1) := by decide +kernel
theorem dX8_goOn_0 : decode cX8_goOn 0 = .ok (.iconst 0, 1) := by decide +kernel
theorem dX8_goOn_1 : decode cX8_goOn 1 = .ok (.istore_n 3, 1) := by decide +kernel
theorem dX8_goOn_2 : decode cX8_goOn 2 = .ok (.iload_n 3, 1) := by decide +kernel
theorem dX8_goOn_3 : decode cX8_goOn 3 = .ok (.iload_n 2, 1) := by decide +kernel
theorem dX8_goOn_4 : decode cX8_goOn 4 = .ok (.if_icmp .ge 18, 3) := by decide +kernel
theorem dX8_goOn_7 : decode cX8_goOn 7 = .ok (.aload_n 0, 1) := by decide +kernel
theorem dX8_goOn_8 : decode cX8_goOn 8 = .ok (.aload_n 0, 1) := by decide +kernel
theorem dX8_goOn_9 : decode cX8_goOn 9 = .ok (.iload_n 1, 1) := by decide +kernel
theorem dX8_goOn_10 : decode cX8_goOn 10 = .ok (.invokevirtual 72, 3) := by decide +kernel
theorem dX8_goOn_13 : decode cX8_goOn 13 = .ok (.invokevirtual 76, 3) := by decide +kernel
theorem dX8_goOn_16 : decode cX8_goOn 16 = .ok (.iinc 3 1, 3) := by decide +kernel
theorem dX8_goOn_19 : decode cX8_goOn 19 = .ok (.goto (-17), 3) := by decide +kernel
theorem dX8_goOn_22 : decode cX8_goOn 22 = .ok (.aload_n 0, 1) := by decide +kernel
theorem dX8_goOn_23 : decode cX8_goOn 23 = .ok (.getfield 28, 3) := by decide +kernel
theorem dX8_goOn_26 : decode cX8_goOn 26 = .ok (.getfield 80, 3) := by decide +kernel
theorem dX8_goOn_29 : decode cX8_goOn 29 = .ok (.lreturn, 1) := by decide +kernel
theorem dX8_shutBy_0 : decode cX8_shutBy 0 = .ok (.iload_n 1, 1) := by decide +kernel
theorem dX8_shutBy_1 : decode cX8_shutBy 1 = .ok (.tableswitch 94 1 3 #[27, 62, 78], 27) := by decide +kernel
theorem dX8_shutBy_28 : decode cX8_shutBy 28 = .ok (.aload_n 0, 1) := by decide +kernel
theorem dX8_shutBy_29 : decode cX8_shutBy 29 = .ok (.getfield 46, 3) := by decide +kernel
theorem dX8_shutBy_32 : decode cX8_shutBy 32 = .ok (.getfield 84, 3) := by decide +kernel
theorem dX8_shutBy_35 : decode cX8_shutBy 35 = .ok (.ifCond .le 26, 3) := by decide +kernel
theorem dX8_shutBy_38 : decode cX8_shutBy 38 = .ok (.aload_n 0, 1) := by decide +kernel
theorem dX8_shutBy_39 : decode cX8_shutBy 39 = .ok (.getfield 46, 3) := by decide +kernel
theorem dX8_shutBy_42 : decode cX8_shutBy 42 = .ok (.getfield 87, 3) := by decide +kernel
theorem dX8_shutBy_45 : decode cX8_shutBy 45 = .ok (.aload_n 0, 1) := by decide +kernel
theorem dX8_shutBy_46 : decode cX8_shutBy 46 = .ok (.getfield 61, 3) := by decide +kernel
theorem dX8_shutBy_49 : decode cX8_shutBy 49 = .ok (.aload_n 0, 1) := by decide +kernel
theorem dX8_shutBy_50 : decode cX8_shutBy 50 = .ok (.getfield 46, 3) := by decide +kernel
theorem dX8_shutBy_53 : decode cX8_shutBy 53 = .ok (.getfield 84, 3) := by decide +kernel
theorem dX8_shutBy_56 : decode cX8_shutBy 56 = .ok (.irem, 1) := by decide +kernel
theorem dX8_shutBy_57 : decode cX8_shutBy 57 = .ok (.iaload, 1) := by decide +kernel
theorem dX8_shutBy_58 : decode cX8_shutBy 58 = .ok (.goto 4, 3) := by decide +kernel
theorem dX8_shutBy_61 : decode cX8_shutBy 61 = .ok (.iconst 0, 1) := by decide +kernel
theorem dX8_shutBy_62 : decode cX8_shutBy 62 = .ok (.ireturn, 1) := by decide +kernel
theorem dX8_shutBy_63 : decode cX8_shutBy 63 = .ok (.aload_n 0, 1) := by decide +kernel
theorem dX8_shutBy_64 : decode cX8_shutBy 64 = .ok (.getfield 35, 3) := by decide +kernel
theorem dX8_shutBy_67 : decode cX8_shutBy 67 = .ok (.aload_n 0, 1) := by decide +kernel
theorem dX8_shutBy_68 : decode cX8_shutBy 68 = .ok (.getfield 53, 3) := by decide +kernel
theorem dX8_shutBy_71 : decode cX8_shutBy 71 = .ok (.aload_n 0, 1) := by decide +kernel
theorem dX8_shutBy_72 : decode cX8_shutBy 72 = .ok (.getfield 46, 3) := by decide +kernel
theorem dX8_shutBy_75 : decode cX8_shutBy 75 = .ok (.invokevirtual 90, 3) := by decide +kernel
theorem dX8_shutBy_78 : decode cX8_shutBy 78 = .ok (.ireturn, 1) := by decide +kernel
theorem dX8_shutBy_79 : decode cX8_shutBy 79 = .ok (.aload_n 0, 1) := by decide +kernel
theorem dX8_shutBy_80 : decode cX8_shutBy 80 = .ok (.getfield 35, 3) := by decide +kernel
theorem dX8_shutBy_83 : decode cX8_shutBy 83 = .ok (.aload_n 0, 1) := by decide +kernel
theorem dX8_shutBy_84 : decode cX8_shutBy 84 = .ok (.getfield 53, 3) := by decide +kernel
theorem dX8_shutBy_87 : decode cX8_shutBy 87 = .ok (.aload_n 0, 1) := by decide +kernel
theorem dX8_shutBy_88 : decode cX8_shutBy 88 = .ok (.getfield 46, 3) := by decide +kernel
theorem dX8_shutBy_91 : decode cX8_shutBy 91 = .ok (.invokevirtual 94, 3) := by decide +kernel
theorem dX8_shutBy_94 : decode cX8_shutBy 94 = .ok (.ireturn, 1) := by decide +kernel
theorem dX8_shutBy_95 : decode cX8_shutBy 95 = .ok (.iconst 0, 1) := by decide +kernel
theorem dX8_shutBy_96 : decode cX8_shutBy 96 = .ok (.ireturn, 1) := by decide +kernel
theorem dX8_lookRound_0 : decode cX8_lookRound 0 = .ok (.aload_n 0, 1) := by decide +kernel
theorem dX8_lookRound_1 : decode cX8_lookRound 1 = .ok (.getfield 12, 3) := by decide +kernel
theorem dX8_lookRound_4 : decode cX8_lookRound 4 = .ok (.aload_n 0, 1) := by decide +kernel
theorem dX8_lookRound_5 : decode cX8_lookRound 5 = .ok (.getfield 53, 3) := by decide +kernel
theorem dX8_lookRound_8 : decode cX8_lookRound 8 = .ok (.aload_n 0, 1) := by decide +kernel
theorem dX8_lookRound_9 : decode cX8_lookRound 9 = .ok (.getfield 46, 3) := by decide +kernel
theorem dX8_lookRound_12 : decode cX8_lookRound 12 = .ok (.aload_n 0, 1) := by decide +kernel
theorem dX8_lookRound_13 : decode cX8_lookRound 13 = .ok (.getfield 21, 3) := by decide +kernel
theorem dX8_lookRound_16 : decode cX8_lookRound 16 = .ok (.iload_n 1, 1) := by decide +kernel
theorem dX8_lookRound_17 : decode cX8_lookRound 17 = .ok (.invokevirtual 97, 3) := by decide +kernel
theorem dX8_lookRound_20 : decode cX8_lookRound 20 = .ok (.return_, 1) := by decide +kernel
theorem dX8_passDay_0 : decode cX8_passDay 0 = .ok (.aload_n 0, 1) := by decide +kernel
theorem dX8_passDay_1 : decode cX8_passDay 1 = .ok (.getfield 28, 3) := by decide +kernel
theorem dX8_passDay_4 : decode cX8_passDay 4 = .ok (.invokevirtual 101, 3) := by decide +kernel
theorem dX8_passDay_7 : decode cX8_passDay 7 = .ok (.aload_n 0, 1) := by decide +kernel
theorem dX8_passDay_8 : decode cX8_passDay 8 = .ok (.iload_n 1, 1) := by decide +kernel
theorem dX8_passDay_9 : decode cX8_passDay 9 = .ok (.invokevirtual 104, 3) := by decide +kernel
theorem dX8_passDay_12 : decode cX8_passDay 12 = .ok (.iconst 0, 1) := by decide +kernel
theorem dX8_passDay_13 : decode cX8_passDay 13 = .ok (.istore_n 2, 1) := by decide +kernel
theorem dX8_passDay_14 : decode cX8_passDay 14 = .ok (.iload_n 2, 1) := by decide +kernel
theorem dX8_passDay_15 : decode cX8_passDay 15 = .ok (.aload_n 0, 1) := by decide +kernel
theorem dX8_passDay_16 : decode cX8_passDay 16 = .ok (.getfield 39, 3) := by decide +kernel
theorem dX8_passDay_19 : decode cX8_passDay 19 = .ok (.arraylength, 1) := by decide +kernel
theorem dX8_passDay_20 : decode cX8_passDay 20 = .ok (.if_icmp .ge 16, 3) := by decide +kernel
theorem dX8_passDay_23 : decode cX8_passDay 23 = .ok (.aload_n 0, 1) := by decide +kernel
theorem dX8_passDay_24 : decode cX8_passDay 24 = .ok (.getfield 39, 3) := by decide +kernel
theorem dX8_passDay_27 : decode cX8_passDay 27 = .ok (.iload_n 2, 1) := by decide +kernel
theorem dX8_passDay_28 : decode cX8_passDay 28 = .ok (.iconst 0, 1) := by decide +kernel
theorem dX8_passDay_29 : decode cX8_passDay 29 = .ok (.iastore, 1) := by decide +kernel
theorem dX8_passDay_30 : decode cX8_passDay 30 = .ok (.iinc 2 1, 3) := by decide +kernel
theorem dX8_passDay_33 : decode cX8_passDay 33 = .ok (.goto (-19), 3) := by decide +kernel
theorem dX8_passDay_36 : decode cX8_passDay 36 = .ok (.iconst 0, 1) := by decide +kernel
theorem dX8_passDay_37 : decode cX8_passDay 37 = .ok (.istore_n 2, 1) := by decide +kernel
theorem dX8_passDay_38 : decode cX8_passDay 38 = .ok (.iload_n 2, 1) := by decide +kernel
theorem dX8_passDay_39 : decode cX8_passDay 39 = .ok (.aload_n 0, 1) := by decide +kernel
theorem dX8_passDay_40 : decode cX8_passDay 40 = .ok (.getfield 53, 3) := by decide +kernel
theorem dX8_passDay_43 : decode cX8_passDay 43 = .ok (.getfield 106, 3) := by decide +kernel
theorem dX8_passDay_46 : decode cX8_passDay 46 = .ok (.if_icmp .ge 23, 3) := by decide +kernel
theorem dX8_passDay_49 : decode cX8_passDay 49 = .ok (.aload_n 0, 1) := by decide +kernel
theorem dX8_passDay_50 : decode cX8_passDay 50 = .ok (.iload_n 2, 1) := by decide +kernel
theorem dX8_passDay_51 : decode cX8_passDay 51 = .ok (.invokevirtual 109, 3) := by decide +kernel
theorem dX8_passDay_54 : decode cX8_passDay 54 = .ok (.ifCond .eq 9, 3) := by decide +kernel
theorem dX8_passDay_57 : decode cX8_passDay 57 = .ok (.aload_n 0, 1) := by decide +kernel
theorem dX8_passDay_58 : decode cX8_passDay 58 = .ok (.iload_n 2, 1) := by decide +kernel
theorem dX8_passDay_59 : decode cX8_passDay 59 = .ok (.iload_n 1, 1) := by decide +kernel
theorem dX8_passDay_60 : decode cX8_passDay 60 = .ok (.invokevirtual 113, 3) := by decide +kernel
theorem dX8_passDay_63 : decode cX8_passDay 63 = .ok (.iinc 2 1, 3) := by decide +kernel
theorem dX8_passDay_66 : decode cX8_passDay 66 = .ok (.goto (-28), 3) := by decide +kernel
theorem dX8_passDay_69 : decode cX8_passDay 69 = .ok (.aload_n 0, 1) := by decide +kernel
theorem dX8_passDay_70 : decode cX8_passDay 70 = .ok (.invokevirtual 117, 3) := by decide +kernel
theorem dX8_passDay_73 : decode cX8_passDay 73 = .ok (.return_, 1) := by decide +kernel
theorem dX8_setsOut_0 : decode cX8_setsOut 0 = .ok (.aload_n 0, 1) := by decide +kernel
theorem dX8_setsOut_1 : decode cX8_setsOut 1 = .ok (.getfield 21, 3) := by decide +kernel
theorem dX8_setsOut_4 : decode cX8_setsOut 4 = .ok (.iload_n 1, 1) := by decide +kernel
theorem dX8_setsOut_5 : decode cX8_setsOut 5 = .ok (.invokevirtual 120, 3) := by decide +kernel
theorem dX8_setsOut_8 : decode cX8_setsOut 8 = .ok (.istore_n 2, 1) := by decide +kernel
theorem dX8_setsOut_9 : decode cX8_setsOut 9 = .ok (.aload_n 0, 1) := by decide +kernel
theorem dX8_setsOut_10 : decode cX8_setsOut 10 = .ok (.getfield 21, 3) := by decide +kernel
theorem dX8_setsOut_13 : decode cX8_setsOut 13 = .ok (.iload_n 1, 1) := by decide +kernel
theorem dX8_setsOut_14 : decode cX8_setsOut 14 = .ok (.invokevirtual 123, 3) := by decide +kernel
theorem dX8_setsOut_17 : decode cX8_setsOut 17 = .ok (.ifCond .ne 31, 3) := by decide +kernel
theorem dX8_setsOut_20 : decode cX8_setsOut 20 = .ok (.iload_n 2, 1) := by decide +kernel
theorem dX8_setsOut_21 : decode cX8_setsOut 21 = .ok (.aload_n 0, 1) := by decide +kernel
theorem dX8_setsOut_22 : decode cX8_setsOut 22 = .ok (.getfield 61, 3) := by decide +kernel
theorem dX8_setsOut_25 : decode cX8_setsOut 25 = .ok (.if_icmp .gt 23, 3) := by decide +kernel
theorem dX8_setsOut_28 : decode cX8_setsOut 28 = .ok (.aload_n 0, 1) := by decide +kernel
theorem dX8_setsOut_29 : decode cX8_setsOut 29 = .ok (.getfield 53, 3) := by decide +kernel
theorem dX8_setsOut_32 : decode cX8_setsOut 32 = .ok (.iload_n 1, 1) := by decide +kernel
theorem dX8_setsOut_33 : decode cX8_setsOut 33 = .ok (.aload_n 0, 1) := by decide +kernel
theorem dX8_setsOut_34 : decode cX8_setsOut 34 = .ok (.getfield 46, 3) := by decide +kernel
theorem dX8_setsOut_37 : decode cX8_setsOut 37 = .ok (.getfield 126, 3) := by decide +kernel
theorem dX8_setsOut_40 : decode cX8_setsOut 40 = .ok (.iload_n 2, 1) := by decide +kernel
theorem dX8_setsOut_41 : decode cX8_setsOut 41 = .ok (.isub, 1) := by decide +kernel
theorem dX8_setsOut_42 : decode cX8_setsOut 42 = .ok (.invokevirtual 129, 3) := by decide +kernel
theorem dX8_setsOut_45 : decode cX8_setsOut 45 = .ok (.ifCond .ne 5, 3) := by decide +kernel
theorem dX8_setsOut_48 : decode cX8_setsOut 48 = .ok (.iconst 0, 1) := by decide +kernel
theorem dX8_setsOut_49 : decode cX8_setsOut 49 = .ok (.ireturn, 1) := by decide +kernel
theorem dX8_setsOut_50 : decode cX8_setsOut 50 = .ok (.aload_n 0, 1) := by decide +kernel
theorem dX8_setsOut_51 : decode cX8_setsOut 51 = .ok (.getfield 53, 3) := by decide +kernel
theorem dX8_setsOut_54 : decode cX8_setsOut 54 = .ok (.getfield 133, 3) := by decide +kernel
theorem dX8_setsOut_57 : decode cX8_setsOut 57 = .ok (.iload_n 1, 1) := by decide +kernel
theorem dX8_setsOut_58 : decode cX8_setsOut 58 = .ok (.aaload, 1) := by decide +kernel
theorem dX8_setsOut_59 : decode cX8_setsOut 59 = .ok (.iconst 4, 1) := by decide +kernel
theorem dX8_setsOut_60 : decode cX8_setsOut 60 = .ok (.iaload, 1) := by decide +kernel
theorem dX8_setsOut_61 : decode cX8_setsOut 61 = .ok (.istore_n 3, 1) := by decide +kernel
theorem dX8_setsOut_62 : decode cX8_setsOut 62 = .ok (.aload_n 0, 1) := by decide +kernel
theorem dX8_setsOut_63 : decode cX8_setsOut 63 = .ok (.getfield 21, 3) := by decide +kernel
theorem dX8_setsOut_66 : decode cX8_setsOut 66 = .ok (.getfield 137, 3) := by decide +kernel
theorem dX8_setsOut_69 : decode cX8_setsOut 69 = .ok (.ifCond .eq 20, 3) := by decide +kernel
theorem dX8_setsOut_72 : decode cX8_setsOut 72 = .ok (.iload_n 3, 1) := by decide +kernel
theorem dX8_setsOut_73 : decode cX8_setsOut 73 = .ok (.bipush 8, 2) := by decide +kernel
theorem dX8_setsOut_75 : decode cX8_setsOut 75 = .ok (.if_icmp .ge 14, 3) := by decide +kernel
theorem dX8_setsOut_78 : decode cX8_setsOut 78 = .ok (.aload_n 0, 1) := by decide +kernel
theorem dX8_setsOut_79 : decode cX8_setsOut 79 = .ok (.getfield 21, 3) := by decide +kernel
theorem dX8_setsOut_82 : decode cX8_setsOut 82 = .ok (.invokevirtual 141, 3) := by decide +kernel
theorem dX8_setsOut_85 : decode cX8_setsOut 85 = .ok (.iload_n 3, 1) := by decide +kernel
theorem dX8_setsOut_86 : decode cX8_setsOut 86 = .ok (.if_icmp .ge 7, 3) := by decide +kernel
theorem dX8_setsOut_89 : decode cX8_setsOut 89 = .ok (.iconst 1, 1) := by decide +kernel
theorem dX8_setsOut_90 : decode cX8_setsOut 90 = .ok (.goto 4, 3) := by decide +kernel
theorem dX8_setsOut_93 : decode cX8_setsOut 93 = .ok (.iconst 0, 1) := by decide +kernel
theorem dX8_setsOut_94 : decode cX8_setsOut 94 = .ok (.ireturn, 1) := by decide +kernel
theorem dX8_send_0 : decode cX8_send 0 = .ok (.aload_n 0, 1) := by decide +kernel
theorem dX8_send_1 : decode cX8_send 1 = .ok (.getfield 28, 3) := by decide +kernel
theorem dX8_send_4 : decode cX8_send 4 = .ok (.getfield 80, 3) := by decide +kernel
theorem dX8_send_7 : decode cX8_send 7 = .ok (.lstore_n 3, 1) := by decide +kernel
theorem dX8_send_8 : decode cX8_send 8 = .ok (.aload_n 0, 1) := by decide +kernel
theorem dX8_send_9 : decode cX8_send 9 = .ok (.getfield 21, 3) := by decide +kernel
theorem dX8_send_12 : decode cX8_send 12 = .ok (.iload_n 1, 1) := by decide +kernel
theorem dX8_send_13 : decode cX8_send 13 = .ok (.invokevirtual 145, 3) := by decide +kernel
theorem dX8_send_16 : decode cX8_send 16 = .ok (.istore 5, 2) := by decide +kernel
theorem dX8_send_18 : decode cX8_send 18 = .ok (.iload 5, 2) := by decide +kernel
theorem dX8_send_20 : decode cX8_send 20 = .ok (.ifCond .eq 8, 3) := by decide +kernel
theorem dX8_send_23 : decode cX8_send 23 = .ok (.aload_n 0, 1) := by decide +kernel
theorem dX8_send_24 : decode cX8_send 24 = .ok (.iconst 0, 1) := by decide +kernel
theorem dX8_send_25 : decode cX8_send 25 = .ok (.invokevirtual 104, 3) := by decide +kernel
theorem dX8_send_28 : decode cX8_send 28 = .ok (.aload_n 0, 1) := by decide +kernel
theorem dX8_send_29 : decode cX8_send 29 = .ok (.getfield 53, 3) := by decide +kernel
theorem dX8_send_32 : decode cX8_send 32 = .ok (.getfield 133, 3) := by decide +kernel
theorem dX8_send_35 : decode cX8_send 35 = .ok (.iload_n 1, 1) := by decide +kernel
theorem dX8_send_36 : decode cX8_send 36 = .ok (.aaload, 1) := by decide +kernel
theorem dX8_send_37 : decode cX8_send 37 = .ok (.astore 6, 2) := by decide +kernel
theorem dX8_send_39 : decode cX8_send 39 = .ok (.aload_n 0, 1) := by decide +kernel
theorem dX8_send_40 : decode cX8_send 40 = .ok (.getfield 12, 3) := by decide +kernel
theorem dX8_send_43 : decode cX8_send 43 = .ok (.aload 6, 2) := by decide +kernel
theorem dX8_send_45 : decode cX8_send 45 = .ok (.iconst 0, 1) := by decide +kernel
theorem dX8_send_46 : decode cX8_send 46 = .ok (.iaload, 1) := by decide +kernel
theorem dX8_send_47 : decode cX8_send 47 = .ok (.aload 6, 2) := by decide +kernel
theorem dX8_send_49 : decode cX8_send 49 = .ok (.iconst 1, 1) := by decide +kernel
theorem dX8_send_50 : decode cX8_send 50 = .ok (.iaload, 1) := by decide +kernel
theorem dX8_send_51 : decode cX8_send 51 = .ok (.invokevirtual 148, 3) := by decide +kernel
theorem dX8_send_54 : decode cX8_send 54 = .ok (.ifCond .eq 25, 3) := by decide +kernel
theorem dX8_send_57 : decode cX8_send 57 = .ok (.aload_n 0, 1) := by decide +kernel
theorem dX8_send_58 : decode cX8_send 58 = .ok (.getfield 28, 3) := by decide +kernel
theorem dX8_send_61 : decode cX8_send 61 = .ok (.aload_n 0, 1) := by decide +kernel
theorem dX8_send_62 : decode cX8_send 62 = .ok (.getfield 12, 3) := by decide +kernel
theorem dX8_send_65 : decode cX8_send 65 = .ok (.invokevirtual 151, 3) := by decide +kernel
theorem dX8_send_68 : decode cX8_send 68 = .ok (.aload_n 0, 1) := by decide +kernel
theorem dX8_send_69 : decode cX8_send 69 = .ok (.aload 6, 2) := by decide +kernel
theorem dX8_send_71 : decode cX8_send 71 = .ok (.iconst 3, 1) := by decide +kernel
theorem dX8_send_72 : decode cX8_send 72 = .ok (.iaload, 1) := by decide +kernel
theorem dX8_send_73 : decode cX8_send 73 = .ok (.invokevirtual 155, 3) := by decide +kernel
theorem dX8_send_76 : decode cX8_send 76 = .ok (.goto 11, 3) := by decide +kernel
theorem dX8_send_79 : decode cX8_send 79 = .ok (.aload_n 0, 1) := by decide +kernel
theorem dX8_send_80 : decode cX8_send 80 = .ok (.getfield 28, 3) := by decide +kernel
theorem dX8_send_83 : decode cX8_send 83 = .ok (.iload_n 1, 1) := by decide +kernel
theorem dX8_send_84 : decode cX8_send 84 = .ok (.invokevirtual 158, 3) := by decide +kernel
theorem dX8_send_87 : decode cX8_send 87 = .ok (.iload 5, 2) := by decide +kernel
theorem dX8_send_89 : decode cX8_send 89 = .ok (.ifCond .eq 8, 3) := by decide +kernel
theorem dX8_send_92 : decode cX8_send 92 = .ok (.aload_n 0, 1) := by decide +kernel
theorem dX8_send_93 : decode cX8_send 93 = .ok (.iload_n 2, 1) := by decide +kernel
theorem dX8_send_94 : decode cX8_send 94 = .ok (.invokevirtual 104, 3) := by decide +kernel
theorem dX8_send_97 : decode cX8_send 97 = .ok (.iload_n 1, 1) := by decide +kernel
theorem dX8_send_98 : decode cX8_send 98 = .ok (.aload_n 0, 1) := by decide +kernel
theorem dX8_send_99 : decode cX8_send 99 = .ok (.getfield 21, 3) := by decide +kernel
theorem dX8_send_102 : decode cX8_send 102 = .ok (.getfield 161, 3) := by decide +kernel
theorem dX8_send_105 : decode cX8_send 105 = .ok (.if_icmp .ne 24, 3) := by decide +kernel
theorem dX8_send_108 : decode cX8_send 108 = .ok (.aload_n 0, 1) := by decide +kernel
theorem dX8_send_109 : decode cX8_send 109 = .ok (.getfield 28, 3) := by decide +kernel
theorem dX8_send_112 : decode cX8_send 112 = .ok (.dup, 1) := by decide +kernel
theorem dX8_send_113 : decode cX8_send 113 = .ok (.getfield 164, 3) := by decide +kernel
theorem dX8_send_116 : decode cX8_send 116 = .ok (.aload_n 0, 1) := by decide +kernel
theorem dX8_send_117 : decode cX8_send 117 = .ok (.getfield 28, 3) := by decide +kernel
theorem dX8_send_120 : decode cX8_send 120 = .ok (.getfield 80, 3) := by decide +kernel
theorem dX8_send_123 : decode cX8_send 123 = .ok (.lload_n 3, 1) := by decide +kernel
theorem dX8_send_124 : decode cX8_send 124 = .ok (.lsub, 1) := by decide +kernel
theorem dX8_send_125 : decode cX8_send 125 = .ok (.ladd, 1) := by decide +kernel
theorem dX8_send_126 : decode cX8_send 126 = .ok (.putfield 164, 3) := by decide +kernel
theorem dX8_send_129 : decode cX8_send 129 = .ok (.return_, 1) := by decide +kernel
theorem dX8_loadWay_0 : decode cX8_loadWay 0 = .ok (.iconst 0, 1) := by decide +kernel
theorem dX8_loadWay_1 : decode cX8_loadWay 1 = .ok (.istore_n 2, 1) := by decide +kernel
theorem dX8_loadWay_2 : decode cX8_loadWay 2 = .ok (.iload_n 2, 1) := by decide +kernel
theorem dX8_loadWay_3 : decode cX8_loadWay 3 = .ok (.aload_n 0, 1) := by decide +kernel
theorem dX8_loadWay_4 : decode cX8_loadWay 4 = .ok (.getfield 12, 3) := by decide +kernel
theorem dX8_loadWay_7 : decode cX8_loadWay 7 = .ok (.getfield 167, 3) := by decide +kernel
theorem dX8_loadWay_10 : decode cX8_loadWay 10 = .ok (.if_icmp .ge 27, 3) := by decide +kernel
theorem dX8_loadWay_13 : decode cX8_loadWay 13 = .ok (.aload_n 0, 1) := by decide +kernel
theorem dX8_loadWay_14 : decode cX8_loadWay 14 = .ok (.getfield 39, 3) := by decide +kernel
theorem dX8_loadWay_17 : decode cX8_loadWay 17 = .ok (.aload_n 0, 1) := by decide +kernel
theorem dX8_loadWay_18 : decode cX8_loadWay 18 = .ok (.getfield 12, 3) := by decide +kernel
theorem dX8_loadWay_21 : decode cX8_loadWay 21 = .ok (.getfield 170, 3) := by decide +kernel
theorem dX8_loadWay_24 : decode cX8_loadWay 24 = .ok (.iload_n 2, 1) := by decide +kernel
theorem dX8_loadWay_25 : decode cX8_loadWay 25 = .ok (.iaload, 1) := by decide +kernel
theorem dX8_loadWay_26 : decode cX8_loadWay 26 = .ok (.dup2, 1) := by decide +kernel
theorem dX8_loadWay_27 : decode cX8_loadWay 27 = .ok (.iaload, 1) := by decide +kernel
theorem dX8_loadWay_28 : decode cX8_loadWay 28 = .ok (.iload_n 1, 1) := by decide +kernel
theorem dX8_loadWay_29 : decode cX8_loadWay 29 = .ok (.iadd, 1) := by decide +kernel
theorem dX8_loadWay_30 : decode cX8_loadWay 30 = .ok (.iastore, 1) := by decide +kernel
theorem dX8_loadWay_31 : decode cX8_loadWay 31 = .ok (.iinc 2 1, 3) := by decide +kernel
theorem dX8_loadWay_34 : decode cX8_loadWay 34 = .ok (.goto (-32), 3) := by decide +kernel
theorem dX8_loadWay_37 : decode cX8_loadWay 37 = .ok (.return_, 1) := by decide +kernel
theorem dX8_endDay_0 : decode cX8_endDay 0 = .ok (.aload_n 0, 1) := by decide +kernel
theorem dX8_endDay_1 : decode cX8_endDay 1 = .ok (.getfield 21, 3) := by decide +kernel
theorem dX8_endDay_4 : decode cX8_endDay 4 = .ok (.getfield 173, 3) := by decide +kernel
theorem dX8_endDay_7 : decode cX8_endDay 7 = .ok (.ifCond .ne 24, 3) := by decide +kernel
theorem dX8_endDay_10 : decode cX8_endDay 10 = .ok (.aload_n 0, 1) := by decide +kernel
theorem dX8_endDay_11 : decode cX8_endDay 11 = .ok (.getfield 53, 3) := by decide +kernel
theorem dX8_endDay_14 : decode cX8_endDay 14 = .ok (.aload_n 0, 1) := by decide +kernel
theorem dX8_endDay_15 : decode cX8_endDay 15 = .ok (.getfield 46, 3) := by decide +kernel
theorem dX8_endDay_18 : decode cX8_endDay 18 = .ok (.getfield 126, 3) := by decide +kernel
theorem dX8_endDay_21 : decode cX8_endDay 21 = .ok (.invokevirtual 176, 3) := by decide +kernel
theorem dX8_endDay_24 : decode cX8_endDay 24 = .ok (.ifCond .eq 7, 3) := by decide +kernel
theorem dX8_endDay_27 : decode cX8_endDay 27 = .ok (.iconst 1, 1) := by decide +kernel
theorem dX8_endDay_28 : decode cX8_endDay 28 = .ok (.goto 4, 3) := by decide +kernel
theorem dX8_endDay_31 : decode cX8_endDay 31 = .ok (.iconst 0, 1) := by decide +kernel
theorem dX8_endDay_32 : decode cX8_endDay 32 = .ok (.istore_n 1, 1) := by decide +kernel
theorem dX8_endDay_33 : decode cX8_endDay 33 = .ok (.aload_n 0, 1) := by decide +kernel
theorem dX8_endDay_34 : decode cX8_endDay 34 = .ok (.getfield 53, 3) := by decide +kernel
theorem dX8_endDay_37 : decode cX8_endDay 37 = .ok (.aload_n 0, 1) := by decide +kernel
theorem dX8_endDay_38 : decode cX8_endDay 38 = .ok (.getfield 21, 3) := by decide +kernel
theorem dX8_endDay_41 : decode cX8_endDay 41 = .ok (.getfield 179, 3) := by decide +kernel
theorem dX8_endDay_44 : decode cX8_endDay 44 = .ok (.invokevirtual 182, 3) := by decide +kernel
theorem dX8_endDay_47 : decode cX8_endDay 47 = .ok (.istore_n 2, 1) := by decide +kernel
theorem dX8_endDay_48 : decode cX8_endDay 48 = .ok (.iconst 0, 1) := by decide +kernel
theorem dX8_endDay_49 : decode cX8_endDay 49 = .ok (.istore_n 3, 1) := by decide +kernel
theorem dX8_endDay_50 : decode cX8_endDay 50 = .ok (.iload_n 3, 1) := by decide +kernel
theorem dX8_endDay_51 : decode cX8_endDay 51 = .ok (.iload_n 2, 1) := by decide +kernel
theorem dX8_endDay_52 : decode cX8_endDay 52 = .ok (.if_icmp .ge 41, 3) := by decide +kernel
theorem dX8_endDay_55 : decode cX8_endDay 55 = .ok (.iload_n 3, 1) := by decide +kernel
theorem dX8_endDay_56 : decode cX8_endDay 56 = .ok (.aload_n 0, 1) := by decide +kernel
theorem dX8_endDay_57 : decode cX8_endDay 57 = .ok (.getfield 39, 3) := by decide +kernel
theorem dX8_endDay_60 : decode cX8_endDay 60 = .ok (.arraylength, 1) := by decide +kernel
theorem dX8_endDay_61 : decode cX8_endDay 61 = .ok (.if_icmp .ge 32, 3) := by decide +kernel
theorem dX8_endDay_64 : decode cX8_endDay 64 = .ok (.aload_n 0, 1) := by decide +kernel
theorem dX8_endDay_65 : decode cX8_endDay 65 = .ok (.getfield 46, 3) := by decide +kernel
theorem dX8_endDay_68 : decode cX8_endDay 68 = .ok (.iload_n 3, 1) := by decide +kernel
theorem dX8_endDay_69 : decode cX8_endDay 69 = .ok (.aload_n 0, 1) := by decide +kernel
theorem dX8_endDay_70 : decode cX8_endDay 70 = .ok (.getfield 39, 3) := by decide +kernel
theorem dX8_endDay_73 : decode cX8_endDay 73 = .ok (.iload_n 3, 1) := by decide +kernel
theorem dX8_endDay_74 : decode cX8_endDay 74 = .ok (.iaload, 1) := by decide +kernel
theorem dX8_endDay_75 : decode cX8_endDay 75 = .ok (.iload_n 1, 1) := by decide +kernel
theorem dX8_endDay_76 : decode cX8_endDay 76 = .ok (.iadd, 1) := by decide +kernel
theorem dX8_endDay_77 : decode cX8_endDay 77 = .ok (.aload_n 0, 1) := by decide +kernel
theorem dX8_endDay_78 : decode cX8_endDay 78 = .ok (.getfield 21, 3) := by decide +kernel
theorem dX8_endDay_81 : decode cX8_endDay 81 = .ok (.getfield 185, 3) := by decide +kernel
theorem dX8_endDay_84 : decode cX8_endDay 84 = .ok (.invokevirtual 188, 3) := by decide +kernel
theorem dX8_endDay_87 : decode cX8_endDay 87 = .ok (.iinc 3 1, 3) := by decide +kernel
theorem dX8_endDay_90 : decode cX8_endDay 90 = .ok (.goto (-40), 3) := by decide +kernel
theorem dX8_endDay_93 : decode cX8_endDay 93 = .ok (.aload_n 0, 1) := by decide +kernel
theorem dX8_endDay_94 : decode cX8_endDay 94 = .ok (.getfield 46, 3) := by decide +kernel
theorem dX8_endDay_97 : decode cX8_endDay 97 = .ok (.dup, 1) := by decide +kernel
theorem dX8_endDay_98 : decode cX8_endDay 98 = .ok (.getfield 126, 3) := by decide +kernel
theorem dX8_endDay_101 : decode cX8_endDay 101 = .ok (.iconst 1, 1) := by decide +kernel
theorem dX8_endDay_102 : decode cX8_endDay 102 = .ok (.iadd, 1) := by decide +kernel
theorem dX8_endDay_103 : decode cX8_endDay 103 = .ok (.putfield 126, 3) := by decide +kernel
theorem dX8_endDay_106 : decode cX8_endDay 106 = .ok (.aload_n 0, 1) := by decide +kernel
theorem dX8_endDay_107 : decode cX8_endDay 107 = .ok (.dup, 1) := by decide +kernel
theorem dX8_endDay_108 : decode cX8_endDay 108 = .ok (.getfield 61, 3) := by decide +kernel
theorem dX8_endDay_111 : decode cX8_endDay 111 = .ok (.iconst 1, 1) := by decide +kernel
theorem dX8_endDay_112 : decode cX8_endDay 112 = .ok (.iadd, 1) := by decide +kernel
theorem dX8_endDay_113 : decode cX8_endDay 113 = .ok (.putfield 61, 3) := by decide +kernel
theorem dX8_endDay_116 : decode cX8_endDay 116 = .ok (.return_, 1) := by decide +kernel
theorem dX9_init_0 : decode cX9_init 0 = .ok (.aload_n 0, 1) := by decide +kernel
theorem dX9_init_1 : decode cX9_init 1 = .ok (.invokespecial 3, 3) := by decide +kernel
theorem dX9_init_4 : decode cX9_init 4 = .ok (.aload_n 0, 1) := by decide +kernel
theorem dX9_init_5 : decode cX9_init 5 = .ok (.bipush 12, 2) := by decide +kernel
theorem dX9_init_7 : decode cX9_init 7 = .ok (.newarray .int, 2) := by decide +kernel
theorem dX9_init_9 : decode cX9_init 9 = .ok (.putfield 9, 3) := by decide +kernel
theorem dX9_init_12 : decode cX9_init 12 = .ok (.aload_n 0, 1) := by decide +kernel
theorem dX9_init_13 : decode cX9_init 13 = .ok (.bipush 11, 2) := by decide +kernel
theorem dX9_init_15 : decode cX9_init 15 = .ok (.newarray .int, 2) := by decide +kernel
theorem dX9_init_17 : decode cX9_init 17 = .ok (.putfield 15, 3) := by decide +kernel
theorem dX9_init_20 : decode cX9_init 20 = .ok (.aload_n 0, 1) := by decide +kernel
theorem dX9_init_21 : decode cX9_init 21 = .ok (.bipush 11, 2) := by decide +kernel
theorem dX9_init_23 : decode cX9_init 23 = .ok (.newarray .int, 2) := by decide +kernel
theorem dX9_init_25 : decode cX9_init 25 = .ok (.putfield 18, 3) := by decide +kernel
theorem dX9_init_28 : decode cX9_init 28 = .ok (.aload_n 0, 1) := by decide +kernel
theorem dX9_init_29 : decode cX9_init 29 = .ok (.bipush 11, 2) := by decide +kernel
theorem dX9_init_31 : decode cX9_init 31 = .ok (.newarray .int, 2) := by decide +kernel
theorem dX9_init_33 : decode cX9_init 33 = .ok (.putfield 21, 3) := by decide +kernel
theorem dX9_init_36 : decode cX9_init 36 = .ok (.aload_n 0, 1) := by decide +kernel
theorem dX9_init_37 : decode cX9_init 37 = .ok (.bipush 11, 2) := by decide +kernel
theorem dX9_init_39 : decode cX9_init 39 = .ok (.newarray .int, 2) := by decide +kernel
theorem dX9_init_41 : decode cX9_init 41 = .ok (.putfield 24, 3) := by decide +kernel
theorem dX9_init_44 : decode cX9_init 44 = .ok (.aload_n 0, 1) := by decide +kernel
theorem dX9_init_45 : decode cX9_init 45 = .ok (.bipush 11, 2) := by decide +kernel
theorem dX9_init_47 : decode cX9_init 47 = .ok (.newarray .int, 2) := by decide +kernel
theorem dX9_init_49 : decode cX9_init 49 = .ok (.putfield 27, 3) := by decide +kernel
theorem dX9_init_52 : decode cX9_init 52 = .ok (.aload_n 0, 1) := by decide +kernel
theorem dX9_init_53 : decode cX9_init 53 = .ok (.sipush 144, 3) := by decide +kernel
theorem dX9_init_56 : decode cX9_init 56 = .ok (.newarray .int, 2) := by decide +kernel
theorem dX9_init_58 : decode cX9_init 58 = .ok (.putfield 30, 3) := by decide +kernel
theorem dX9_init_61 : decode cX9_init 61 = .ok (.return_, 1) := by decide +kernel
theorem dX9_lookRound_0 : decode cX9_lookRound 0 = .ok (.aload_n 0, 1) := by decide +kernel
theorem dX9_lookRound_1 : decode cX9_lookRound 1 = .ok (.aload_n 1, 1) := by decide +kernel
theorem dX9_lookRound_2 : decode cX9_lookRound 2 = .ok (.getfield 33, 3) := by decide +kernel
theorem dX9_lookRound_5 : decode cX9_lookRound 5 = .ok (.putfield 39, 3) := by decide +kernel
theorem dX9_lookRound_8 : decode cX9_lookRound 8 = .ok (.aload_n 0, 1) := by decide +kernel
theorem dX9_lookRound_9 : decode cX9_lookRound 9 = .ok (.iconst 0, 1) := by decide +kernel
theorem dX9_lookRound_10 : decode cX9_lookRound 10 = .ok (.putfield 40, 3) := by decide +kernel
theorem dX9_lookRound_13 : decode cX9_lookRound 13 = .ok (.aload_n 0, 1) := by decide +kernel
theorem dX9_lookRound_14 : decode cX9_lookRound 14 = .ok (.iconst 0, 1) := by decide +kernel
theorem dX9_lookRound_15 : decode cX9_lookRound 15 = .ok (.putfield 43, 3) := by decide +kernel
theorem dX9_lookRound_18 : decode cX9_lookRound 18 = .ok (.aload_n 1, 1) := by decide +kernel
theorem dX9_lookRound_19 : decode cX9_lookRound 19 = .ok (.aload_n 3, 1) := by decide +kernel
theorem dX9_lookRound_20 : decode cX9_lookRound 20 = .ok (.getfield 46, 3) := by decide +kernel
theorem dX9_lookRound_23 : decode cX9_lookRound 23 = .ok (.invokevirtual 51, 3) := by decide +kernel
theorem dX9_lookRound_26 : decode cX9_lookRound 26 = .ok (.istore 5, 2) := by decide +kernel
theorem dX9_lookRound_28 : decode cX9_lookRound 28 = .ok (.iconst 0, 1) := by decide +kernel
theorem dX9_lookRound_29 : decode cX9_lookRound 29 = .ok (.istore 6, 2) := by decide +kernel
theorem dX9_lookRound_31 : decode cX9_lookRound 31 = .ok (.iload 6, 2) := by decide +kernel
theorem dX9_lookRound_33 : decode cX9_lookRound 33 = .ok (.iload 5, 2) := by decide +kernel
theorem dX9_lookRound_35 : decode cX9_lookRound 35 = .ok (.if_icmp .ge 143, 3) := by decide +kernel
theorem dX9_lookRound_38 : decode cX9_lookRound 38 = .ok (.iload 6, 2) := by decide +kernel
theorem dX9_lookRound_40 : decode cX9_lookRound 40 = .ok (.aload_n 0, 1) := by decide +kernel
theorem dX9_lookRound_41 : decode cX9_lookRound 41 = .ok (.getfield 15, 3) := by decide +kernel
theorem dX9_lookRound_44 : decode cX9_lookRound 44 = .ok (.arraylength, 1) := by decide +kernel
theorem dX9_lookRound_45 : decode cX9_lookRound 45 = .ok (.if_icmp .ge 133, 3) := by decide +kernel
theorem dX9_lookRound_48 : decode cX9_lookRound 48 = .ok (.aload_n 1, 1) := by decide +kernel
theorem dX9_lookRound_49 : decode cX9_lookRound 49 = .ok (.iload 6, 2) := by decide +kernel
theorem dX9_lookRound_51 : decode cX9_lookRound 51 = .ok (.aload_n 3, 1) := by decide +kernel
theorem dX9_lookRound_52 : decode cX9_lookRound 52 = .ok (.getfield 46, 3) := by decide +kernel
theorem dX9_lookRound_55 : decode cX9_lookRound 55 = .ok (.invokevirtual 55, 3) := by decide +kernel
theorem dX9_lookRound_58 : decode cX9_lookRound 58 = .ok (.astore 7, 2) := by decide +kernel
theorem dX9_lookRound_60 : decode cX9_lookRound 60 = .ok (.aload_n 2, 1) := by decide +kernel
theorem dX9_lookRound_61 : decode cX9_lookRound 61 = .ok (.getfield 59, 3) := by decide +kernel
theorem dX9_lookRound_64 : decode cX9_lookRound 64 = .ok (.iload 6, 2) := by decide +kernel
theorem dX9_lookRound_66 : decode cX9_lookRound 66 = .ok (.iaload, 1) := by decide +kernel
theorem dX9_lookRound_67 : decode cX9_lookRound 67 = .ok (.istore 8, 2) := by decide +kernel
theorem dX9_lookRound_69 : decode cX9_lookRound 69 = .ok (.iload 4, 2) := by decide +kernel
theorem dX9_lookRound_71 : decode cX9_lookRound 71 = .ok (.iload 6, 2) := by decide +kernel
theorem dX9_lookRound_73 : decode cX9_lookRound 73 = .ok (.ishr, 1) := by decide +kernel
theorem dX9_lookRound_74 : decode cX9_lookRound 74 = .ok (.iconst 1, 1) := by decide +kernel
theorem dX9_lookRound_75 : decode cX9_lookRound 75 = .ok (.iand, 1) := by decide +kernel
theorem dX9_lookRound_76 : decode cX9_lookRound 76 = .ok (.ifCond .ne 96, 3) := by decide +kernel
theorem dX9_lookRound_79 : decode cX9_lookRound 79 = .ok (.iload 8, 2) := by decide +kernel
theorem dX9_lookRound_81 : decode cX9_lookRound 81 = .ok (.aload 7, 2) := by decide +kernel
theorem dX9_lookRound_83 : decode cX9_lookRound 83 = .ok (.iconst 4, 1) := by decide +kernel
theorem dX9_lookRound_84 : decode cX9_lookRound 84 = .ok (.iaload, 1) := by decide +kernel
theorem dX9_lookRound_85 : decode cX9_lookRound 85 = .ok (.if_icmp .gt 87, 3) := by decide +kernel
theorem dX9_lookRound_88 : decode cX9_lookRound 88 = .ok (.aload_n 0, 1) := by decide +kernel
theorem dX9_lookRound_89 : decode cX9_lookRound 89 = .ok (.getfield 15, 3) := by decide +kernel
theorem dX9_lookRound_92 : decode cX9_lookRound 92 = .ok (.aload_n 0, 1) := by decide +kernel
theorem dX9_lookRound_93 : decode cX9_lookRound 93 = .ok (.getfield 40, 3) := by decide +kernel
theorem dX9_lookRound_96 : decode cX9_lookRound 96 = .ok (.iload 6, 2) := by decide +kernel
theorem dX9_lookRound_98 : decode cX9_lookRound 98 = .ok (.iastore, 1) := by decide +kernel
theorem dX9_lookRound_99 : decode cX9_lookRound 99 = .ok (.aload_n 0, 1) := by decide +kernel
theorem dX9_lookRound_100 : decode cX9_lookRound 100 = .ok (.getfield 18, 3) := by decide +kernel
theorem dX9_lookRound_103 : decode cX9_lookRound 103 = .ok (.aload_n 0, 1) := by decide +kernel
theorem dX9_lookRound_104 : decode cX9_lookRound 104 = .ok (.getfield 40, 3) := by decide +kernel
theorem dX9_lookRound_107 : decode cX9_lookRound 107 = .ok (.aload 7, 2) := by decide +kernel
theorem dX9_lookRound_109 : decode cX9_lookRound 109 = .ok (.iconst 0, 1) := by decide +kernel
theorem dX9_lookRound_110 : decode cX9_lookRound 110 = .ok (.iaload, 1) := by decide +kernel
theorem dX9_lookRound_111 : decode cX9_lookRound 111 = .ok (.iastore, 1) := by decide +kernel
theorem dX9_lookRound_112 : decode cX9_lookRound 112 = .ok (.aload_n 0, 1) := by decide +kernel
theorem dX9_lookRound_113 : decode cX9_lookRound 113 = .ok (.getfield 21, 3) := by decide +kernel
theorem dX9_lookRound_116 : decode cX9_lookRound 116 = .ok (.aload_n 0, 1) := by decide +kernel
theorem dX9_lookRound_117 : decode cX9_lookRound 117 = .ok (.getfield 40, 3) := by decide +kernel
theorem dX9_lookRound_120 : decode cX9_lookRound 120 = .ok (.aload 7, 2) := by decide +kernel
theorem dX9_lookRound_122 : decode cX9_lookRound 122 = .ok (.iconst 1, 1) := by decide +kernel
theorem dX9_lookRound_123 : decode cX9_lookRound 123 = .ok (.iaload, 1) := by decide +kernel
theorem dX9_lookRound_124 : decode cX9_lookRound 124 = .ok (.iastore, 1) := by decide +kernel
theorem dX9_lookRound_125 : decode cX9_lookRound 125 = .ok (.aload_n 0, 1) := by decide +kernel
theorem dX9_lookRound_126 : decode cX9_lookRound 126 = .ok (.getfield 24, 3) := by decide +kernel
theorem dX9_lookRound_129 : decode cX9_lookRound 129 = .ok (.aload_n 0, 1) := by decide +kernel
theorem dX9_lookRound_130 : decode cX9_lookRound 130 = .ok (.getfield 40, 3) := by decide +kernel
theorem dX9_lookRound_133 : decode cX9_lookRound 133 = .ok (.aload 7, 2) := by decide +kernel
theorem dX9_lookRound_135 : decode cX9_lookRound 135 = .ok (.iconst 2, 1) := by decide +kernel
theorem dX9_lookRound_136 : decode cX9_lookRound 136 = .ok (.iaload, 1) := by decide +kernel
theorem dX9_lookRound_137 : decode cX9_lookRound 137 = .ok (.aload 7, 2) := by decide +kernel
theorem dX9_lookRound_139 : decode cX9_lookRound 139 = .ok (.iconst 3, 1) := by decide +kernel
theorem dX9_lookRound_140 : decode cX9_lookRound 140 = .ok (.iaload, 1) := by decide +kernel
theorem dX9_lookRound_141 : decode cX9_lookRound 141 = .ok (.iload 8, 2) := by decide +kernel
theorem dX9_lookRound_143 : decode cX9_lookRound 143 = .ok (.imul, 1) := by decide +kernel
theorem dX9_lookRound_144 : decode cX9_lookRound 144 = .ok (.iadd, 1) := by decide +kernel
theorem dX9_lookRound_145 : decode cX9_lookRound 145 = .ok (.iastore, 1) := by decide +kernel
theorem dX9_lookRound_146 : decode cX9_lookRound 146 = .ok (.aload_n 0, 1) := by decide +kernel
theorem dX9_lookRound_147 : decode cX9_lookRound 147 = .ok (.getfield 27, 3) := by decide +kernel
theorem dX9_lookRound_150 : decode cX9_lookRound 150 = .ok (.aload_n 0, 1) := by decide +kernel
theorem dX9_lookRound_151 : decode cX9_lookRound 151 = .ok (.getfield 40, 3) := by decide +kernel
theorem dX9_lookRound_154 : decode cX9_lookRound 154 = .ok (.aload_n 3, 1) := by decide +kernel
theorem dX9_lookRound_155 : decode cX9_lookRound 155 = .ok (.getfield 64, 3) := by decide +kernel
theorem dX9_lookRound_158 : decode cX9_lookRound 158 = .ok (.iload 8, 2) := by decide +kernel
theorem dX9_lookRound_160 : decode cX9_lookRound 160 = .ok (.imul, 1) := by decide +kernel
theorem dX9_lookRound_161 : decode cX9_lookRound 161 = .ok (.iastore, 1) := by decide +kernel
theorem dX9_lookRound_162 : decode cX9_lookRound 162 = .ok (.aload_n 0, 1) := by decide +kernel
theorem dX9_lookRound_163 : decode cX9_lookRound 163 = .ok (.dup, 1) := by decide +kernel
theorem dX9_lookRound_164 : decode cX9_lookRound 164 = .ok (.getfield 40, 3) := by decide +kernel
theorem dX9_lookRound_167 : decode cX9_lookRound 167 = .ok (.iconst 1, 1) := by decide +kernel
theorem dX9_lookRound_168 : decode cX9_lookRound 168 = .ok (.iadd, 1) := by decide +kernel
theorem dX9_lookRound_169 : decode cX9_lookRound 169 = .ok (.putfield 40, 3) := by decide +kernel
theorem dX9_lookRound_172 : decode cX9_lookRound 172 = .ok (.iinc 6 1, 3) := by decide +kernel
theorem dX9_lookRound_175 : decode cX9_lookRound 175 = .ok (.goto (-144), 3) := by decide +kernel
theorem dX9_lookRound_178 : decode cX9_lookRound 178 = .ok (.return_, 1) := by decide +kernel
theorem dX9_find_0 : decode cX9_find 0 = .ok (.aload_n 0, 1) := by decide +kernel
theorem dX9_find_1 : decode cX9_find 1 = .ok (.iconst 0, 1) := by decide +kernel
theorem dX9_find_2 : decode cX9_find 2 = .ok (.putfield 67, 3) := by decide +kernel
theorem dX9_find_5 : decode cX9_find 5 = .ok (.aload_n 0, 1) := by decide +kernel
theorem dX9_find_6 : decode cX9_find 6 = .ok (.iconst 0, 1) := by decide +kernel
theorem dX9_find_7 : decode cX9_find 7 = .ok (.putfield 70, 3) := by decide +kernel
theorem dX9_find_10 : decode cX9_find 10 = .ok (.aload_n 0, 1) := by decide +kernel
theorem dX9_find_11 : decode cX9_find 11 = .ok (.iconst 0, 1) := by decide +kernel
theorem dX9_find_12 : decode cX9_find 12 = .ok (.putfield 73, 3) := by decide +kernel
theorem dX9_find_15 : decode cX9_find 15 = .ok (.aload_n 0, 1) := by decide +kernel
theorem dX9_find_16 : decode cX9_find 16 = .ok (.getfield 43, 3) := by decide +kernel
theorem dX9_find_19 : decode cX9_find 19 = .ok (.iload_n 2, 1) := by decide +kernel
theorem dX9_find_20 : decode cX9_find 20 = .ok (.ishr, 1) := by decide +kernel
theorem dX9_find_21 : decode cX9_find 21 = .ok (.iconst 1, 1) := by decide +kernel
theorem dX9_find_22 : decode cX9_find 22 = .ok (.iand, 1) := by decide +kernel
theorem dX9_find_23 : decode cX9_find 23 = .ok (.ifCond .ne 8, 3) := by decide +kernel
theorem dX9_find_26 : decode cX9_find 26 = .ok (.aload_n 0, 1) := by decide +kernel
theorem dX9_find_27 : decode cX9_find 27 = .ok (.iload_n 2, 1) := by decide +kernel
theorem dX9_find_28 : decode cX9_find 28 = .ok (.invokevirtual 76, 3) := by decide +kernel
theorem dX9_find_31 : decode cX9_find 31 = .ok (.aload_n 0, 1) := by decide +kernel
theorem dX9_find_32 : decode cX9_find 32 = .ok (.getfield 30, 3) := by decide +kernel
theorem dX9_find_35 : decode cX9_find 35 = .ok (.iload_n 2, 1) := by decide +kernel
theorem dX9_find_36 : decode cX9_find 36 = .ok (.bipush 12, 2) := by decide +kernel
theorem dX9_find_38 : decode cX9_find 38 = .ok (.imul, 1) := by decide +kernel
theorem dX9_find_39 : decode cX9_find 39 = .ok (.iload_n 1, 1) := by decide +kernel
theorem dX9_find_40 : decode cX9_find 40 = .ok (.iadd, 1) := by decide +kernel
theorem dX9_find_41 : decode cX9_find 41 = .ok (.iaload, 1) := by decide +kernel
theorem dX9_find_42 : decode cX9_find 42 = .ok (.ldc 80, 2) := by decide +kernel
theorem dX9_find_44 : decode cX9_find 44 = .ok (.if_icmp .lt 5, 3) := by decide +kernel
theorem dX9_find_47 : decode cX9_find 47 = .ok (.iconst 0, 1) := by decide +kernel
theorem dX9_find_48 : decode cX9_find 48 = .ok (.ireturn, 1) := by decide +kernel
theorem dX9_find_49 : decode cX9_find 49 = .ok (.iload_n 1, 1) := by decide +kernel
theorem dX9_find_50 : decode cX9_find 50 = .ok (.istore_n 3, 1) := by decide +kernel
theorem dX9_find_51 : decode cX9_find 51 = .ok (.iconst 0, 1) := by decide +kernel
theorem dX9_find_52 : decode cX9_find 52 = .ok (.istore 4, 2) := by decide +kernel
theorem dX9_find_54 : decode cX9_find 54 = .ok (.iload 4, 2) := by decide +kernel
theorem dX9_find_56 : decode cX9_find 56 = .ok (.aload_n 0, 1) := by decide +kernel
theorem dX9_find_57 : decode cX9_find 57 = .ok (.getfield 39, 3) := by decide +kernel
theorem dX9_find_60 : decode cX9_find 60 = .ok (.if_icmp .ge 24, 3) := by decide +kernel
theorem dX9_find_63 : decode cX9_find 63 = .ok (.iload_n 3, 1) := by decide +kernel
theorem dX9_find_64 : decode cX9_find 64 = .ok (.iload_n 2, 1) := by decide +kernel
theorem dX9_find_65 : decode cX9_find 65 = .ok (.if_icmp .eq 19, 3) := by decide +kernel
theorem dX9_find_68 : decode cX9_find 68 = .ok (.aload_n 0, 1) := by decide +kernel
theorem dX9_find_69 : decode cX9_find 69 = .ok (.iload_n 3, 1) := by decide +kernel
theorem dX9_find_70 : decode cX9_find 70 = .ok (.iload_n 2, 1) := by decide +kernel
theorem dX9_find_71 : decode cX9_find 71 = .ok (.bipush 12, 2) := by decide +kernel
theorem dX9_find_73 : decode cX9_find 73 = .ok (.imul, 1) := by decide +kernel
theorem dX9_find_74 : decode cX9_find 74 = .ok (.invokevirtual 81, 3) := by decide +kernel
theorem dX9_find_77 : decode cX9_find 77 = .ok (.istore_n 3, 1) := by decide +kernel
theorem dX9_find_78 : decode cX9_find 78 = .ok (.iinc 4 1, 3) := by decide +kernel
theorem dX9_find_81 : decode cX9_find 81 = .ok (.goto (-27), 3) := by decide +kernel
theorem dX9_find_84 : decode cX9_find 84 = .ok (.iconst 1, 1) := by decide +kernel
theorem dX9_find_85 : decode cX9_find 85 = .ok (.ireturn, 1) := by decide +kernel
theorem dX9_stepOn_0 : decode cX9_stepOn 0 = .ok (.iconst 0, 1) := by decide +kernel
theorem dX9_stepOn_1 : decode cX9_stepOn 1 = .ok (.istore_n 3, 1) := by decide +kernel
theorem dX9_stepOn_2 : decode cX9_stepOn 2 = .ok (.iload_n 3, 1) := by decide +kernel
theorem dX9_stepOn_3 : decode cX9_stepOn 3 = .ok (.aload_n 0, 1) := by decide +kernel
theorem dX9_stepOn_4 : decode cX9_stepOn 4 = .ok (.getfield 40, 3) := by decide +kernel
theorem dX9_stepOn_7 : decode cX9_stepOn 7 = .ok (.if_icmp .ge 127, 3) := by decide +kernel
theorem dX9_stepOn_10 : decode cX9_stepOn 10 = .ok (.aload_n 0, 1) := by decide +kernel
theorem dX9_stepOn_11 : decode cX9_stepOn 11 = .ok (.iload_n 1, 1) := by decide +kernel
theorem dX9_stepOn_12 : decode cX9_stepOn 12 = .ok (.iload_n 3, 1) := by decide +kernel
theorem dX9_stepOn_13 : decode cX9_stepOn 13 = .ok (.invokevirtual 85, 3) := by decide +kernel
theorem dX9_stepOn_16 : decode cX9_stepOn 16 = .ok (.istore 4, 2) := by decide +kernel
theorem dX9_stepOn_18 : decode cX9_stepOn 18 = .ok (.iload 4, 2) := by decide +kernel
theorem dX9_stepOn_20 : decode cX9_stepOn 20 = .ok (.iconst (-1), 1) := by decide +kernel
theorem dX9_stepOn_21 : decode cX9_stepOn 21 = .ok (.if_icmp .eq 107, 3) := by decide +kernel
theorem dX9_stepOn_24 : decode cX9_stepOn 24 = .ok (.aload_n 0, 1) := by decide +kernel
theorem dX9_stepOn_25 : decode cX9_stepOn 25 = .ok (.getfield 67, 3) := by decide +kernel
theorem dX9_stepOn_28 : decode cX9_stepOn 28 = .ok (.aload_n 0, 1) := by decide +kernel
theorem dX9_stepOn_29 : decode cX9_stepOn 29 = .ok (.getfield 9, 3) := by decide +kernel
theorem dX9_stepOn_32 : decode cX9_stepOn 32 = .ok (.arraylength, 1) := by decide +kernel
theorem dX9_stepOn_33 : decode cX9_stepOn 33 = .ok (.if_icmp .ge 95, 3) := by decide +kernel
theorem dX9_stepOn_36 : decode cX9_stepOn 36 = .ok (.aload_n 0, 1) := by decide +kernel
theorem dX9_stepOn_37 : decode cX9_stepOn 37 = .ok (.getfield 30, 3) := by decide +kernel
theorem dX9_stepOn_40 : decode cX9_stepOn 40 = .ok (.iload_n 2, 1) := by decide +kernel
theorem dX9_stepOn_41 : decode cX9_stepOn 41 = .ok (.iload 4, 2) := by decide +kernel
theorem dX9_stepOn_43 : decode cX9_stepOn 43 = .ok (.iadd, 1) := by decide +kernel
theorem dX9_stepOn_44 : decode cX9_stepOn 44 = .ok (.iaload, 1) := by decide +kernel
theorem dX9_stepOn_45 : decode cX9_stepOn 45 = .ok (.aload_n 0, 1) := by decide +kernel
theorem dX9_stepOn_46 : decode cX9_stepOn 46 = .ok (.getfield 24, 3) := by decide +kernel
theorem dX9_stepOn_49 : decode cX9_stepOn 49 = .ok (.iload_n 3, 1) := by decide +kernel
theorem dX9_stepOn_50 : decode cX9_stepOn 50 = .ok (.iaload, 1) := by decide +kernel
theorem dX9_stepOn_51 : decode cX9_stepOn 51 = .ok (.iadd, 1) := by decide +kernel
theorem dX9_stepOn_52 : decode cX9_stepOn 52 = .ok (.aload_n 0, 1) := by decide +kernel
theorem dX9_stepOn_53 : decode cX9_stepOn 53 = .ok (.getfield 27, 3) := by decide +kernel
theorem dX9_stepOn_56 : decode cX9_stepOn 56 = .ok (.iload_n 3, 1) := by decide +kernel
theorem dX9_stepOn_57 : decode cX9_stepOn 57 = .ok (.iaload, 1) := by decide +kernel
theorem dX9_stepOn_58 : decode cX9_stepOn 58 = .ok (.iadd, 1) := by decide +kernel
theorem dX9_stepOn_59 : decode cX9_stepOn 59 = .ok (.aload_n 0, 1) := by decide +kernel
theorem dX9_stepOn_60 : decode cX9_stepOn 60 = .ok (.getfield 30, 3) := by decide +kernel
theorem dX9_stepOn_63 : decode cX9_stepOn 63 = .ok (.iload_n 2, 1) := by decide +kernel
theorem dX9_stepOn_64 : decode cX9_stepOn 64 = .ok (.iload_n 1, 1) := by decide +kernel
theorem dX9_stepOn_65 : decode cX9_stepOn 65 = .ok (.iadd, 1) := by decide +kernel
theorem dX9_stepOn_66 : decode cX9_stepOn 66 = .ok (.iaload, 1) := by decide +kernel
theorem dX9_stepOn_67 : decode cX9_stepOn 67 = .ok (.if_icmp .ne 61, 3) := by decide +kernel
theorem dX9_stepOn_70 : decode cX9_stepOn 70 = .ok (.aload_n 0, 1) := by decide +kernel
theorem dX9_stepOn_71 : decode cX9_stepOn 71 = .ok (.getfield 9, 3) := by decide +kernel
theorem dX9_stepOn_74 : decode cX9_stepOn 74 = .ok (.aload_n 0, 1) := by decide +kernel
theorem dX9_stepOn_75 : decode cX9_stepOn 75 = .ok (.getfield 67, 3) := by decide +kernel
theorem dX9_stepOn_78 : decode cX9_stepOn 78 = .ok (.aload_n 0, 1) := by decide +kernel
theorem dX9_stepOn_79 : decode cX9_stepOn 79 = .ok (.getfield 15, 3) := by decide +kernel
theorem dX9_stepOn_82 : decode cX9_stepOn 82 = .ok (.iload_n 3, 1) := by decide +kernel
theorem dX9_stepOn_83 : decode cX9_stepOn 83 = .ok (.iaload, 1) := by decide +kernel
theorem dX9_stepOn_84 : decode cX9_stepOn 84 = .ok (.iastore, 1) := by decide +kernel
theorem dX9_stepOn_85 : decode cX9_stepOn 85 = .ok (.aload_n 0, 1) := by decide +kernel
theorem dX9_stepOn_86 : decode cX9_stepOn 86 = .ok (.dup, 1) := by decide +kernel
theorem dX9_stepOn_87 : decode cX9_stepOn 87 = .ok (.getfield 67, 3) := by decide +kernel
theorem dX9_stepOn_90 : decode cX9_stepOn 90 = .ok (.iconst 1, 1) := by decide +kernel
theorem dX9_stepOn_91 : decode cX9_stepOn 91 = .ok (.iadd, 1) := by decide +kernel
theorem dX9_stepOn_92 : decode cX9_stepOn 92 = .ok (.putfield 67, 3) := by decide +kernel
theorem dX9_stepOn_95 : decode cX9_stepOn 95 = .ok (.aload_n 0, 1) := by decide +kernel
theorem dX9_stepOn_96 : decode cX9_stepOn 96 = .ok (.dup, 1) := by decide +kernel
theorem dX9_stepOn_97 : decode cX9_stepOn 97 = .ok (.getfield 70, 3) := by decide +kernel
theorem dX9_stepOn_100 : decode cX9_stepOn 100 = .ok (.aload_n 0, 1) := by decide +kernel
theorem dX9_stepOn_101 : decode cX9_stepOn 101 = .ok (.getfield 24, 3) := by decide +kernel
theorem dX9_stepOn_104 : decode cX9_stepOn 104 = .ok (.iload_n 3, 1) := by decide +kernel
theorem dX9_stepOn_105 : decode cX9_stepOn 105 = .ok (.iaload, 1) := by decide +kernel
theorem dX9_stepOn_106 : decode cX9_stepOn 106 = .ok (.iadd, 1) := by decide +kernel
theorem dX9_stepOn_107 : decode cX9_stepOn 107 = .ok (.putfield 70, 3) := by decide +kernel
theorem dX9_stepOn_110 : decode cX9_stepOn 110 = .ok (.aload_n 0, 1) := by decide +kernel
theorem dX9_stepOn_111 : decode cX9_stepOn 111 = .ok (.dup, 1) := by decide +kernel
theorem dX9_stepOn_112 : decode cX9_stepOn 112 = .ok (.getfield 73, 3) := by decide +kernel
theorem dX9_stepOn_115 : decode cX9_stepOn 115 = .ok (.aload_n 0, 1) := by decide +kernel
theorem dX9_stepOn_116 : decode cX9_stepOn 116 = .ok (.getfield 27, 3) := by decide +kernel
theorem dX9_stepOn_119 : decode cX9_stepOn 119 = .ok (.iload_n 3, 1) := by decide +kernel
theorem dX9_stepOn_120 : decode cX9_stepOn 120 = .ok (.iaload, 1) := by decide +kernel
theorem dX9_stepOn_121 : decode cX9_stepOn 121 = .ok (.iadd, 1) := by decide +kernel
theorem dX9_stepOn_122 : decode cX9_stepOn 122 = .ok (.putfield 73, 3) := by decide +kernel
theorem dX9_stepOn_125 : decode cX9_stepOn 125 = .ok (.iload 4, 2) := by decide +kernel
theorem dX9_stepOn_127 : decode cX9_stepOn 127 = .ok (.ireturn, 1) := by decide +kernel
theorem dX9_stepOn_128 : decode cX9_stepOn 128 = .ok (.iinc 3 1, 3) := by decide +kernel
theorem dX9_stepOn_131 : decode cX9_stepOn 131 = .ok (.goto (-129), 3) := by decide +kernel
theorem dX9_stepOn_134 : decode cX9_stepOn 134 = .ok (.iload_n 1, 1) := by decide +kernel
theorem dX9_stepOn_135 : decode cX9_stepOn 135 = .ok (.ireturn, 1) := by decide +kernel
theorem dX9_acrossFrom_0 : decode cX9_acrossFrom 0 = .ok (.aload_n 0, 1) := by decide +kernel
theorem dX9_acrossFrom_1 : decode cX9_acrossFrom 1 = .ok (.getfield 18, 3) := by decide +kernel
theorem dX9_acrossFrom_4 : decode cX9_acrossFrom 4 = .ok (.iload_n 2, 1) := by decide +kernel
theorem dX9_acrossFrom_5 : decode cX9_acrossFrom 5 = .ok (.iaload, 1) := by decide +kernel
theorem dX9_acrossFrom_6 : decode cX9_acrossFrom 6 = .ok (.iload_n 1, 1) := by decide +kernel
theorem dX9_acrossFrom_7 : decode cX9_acrossFrom 7 = .ok (.if_icmp .ne 10, 3) := by decide +kernel
theorem dX9_acrossFrom_10 : decode cX9_acrossFrom 10 = .ok (.aload_n 0, 1) := by decide +kernel
theorem dX9_acrossFrom_11 : decode cX9_acrossFrom 11 = .ok (.getfield 21, 3) := by decide +kernel
theorem dX9_acrossFrom_14 : decode cX9_acrossFrom 14 = .ok (.iload_n 2, 1) := by decide +kernel
theorem dX9_acrossFrom_15 : decode cX9_acrossFrom 15 = .ok (.iaload, 1) := by decide +kernel
theorem dX9_acrossFrom_16 : decode cX9_acrossFrom 16 = .ok (.ireturn, 1) := by decide +kernel
theorem dX9_acrossFrom_17 : decode cX9_acrossFrom 17 = .ok (.aload_n 0, 1) := by decide +kernel
theorem dX9_acrossFrom_18 : decode cX9_acrossFrom 18 = .ok (.getfield 21, 3) := by decide +kernel
theorem dX9_acrossFrom_21 : decode cX9_acrossFrom 21 = .ok (.iload_n 2, 1) := by decide +kernel
theorem dX9_acrossFrom_22 : decode cX9_acrossFrom 22 = .ok (.iaload, 1) := by decide +kernel
theorem dX9_acrossFrom_23 : decode cX9_acrossFrom 23 = .ok (.iload_n 1, 1) := by decide +kernel
theorem dX9_acrossFrom_24 : decode cX9_acrossFrom 24 = .ok (.if_icmp .ne 12, 3) := by decide +kernel
theorem dX9_acrossFrom_27 : decode cX9_acrossFrom 27 = .ok (.aload_n 0, 1) := by decide +kernel
theorem dX9_acrossFrom_28 : decode cX9_acrossFrom 28 = .ok (.getfield 18, 3) := by decide +kernel
theorem dX9_acrossFrom_31 : decode cX9_acrossFrom 31 = .ok (.iload_n 2, 1) := by decide +kernel
theorem dX9_acrossFrom_32 : decode cX9_acrossFrom 32 = .ok (.iaload, 1) := by decide +kernel
theorem dX9_acrossFrom_33 : decode cX9_acrossFrom 33 = .ok (.goto 4, 3) := by decide +kernel
theorem dX9_acrossFrom_36 : decode cX9_acrossFrom 36 = .ok (.iconst (-1), 1) := by decide +kernel
theorem dX9_acrossFrom_37 : decode cX9_acrossFrom 37 = .ok (.ireturn, 1) := by decide +kernel
theorem dX9_measure_0 : decode cX9_measure 0 = .ok (.iload_n 1, 1) := by decide +kernel
theorem dX9_measure_1 : decode cX9_measure 1 = .ok (.bipush 12, 2) := by decide +kernel
theorem dX9_measure_3 : decode cX9_measure 3 = .ok (.imul, 1) := by decide +kernel
theorem dX9_measure_4 : decode cX9_measure 4 = .ok (.istore_n 2, 1) := by decide +kernel
theorem dX9_measure_5 : decode cX9_measure 5 = .ok (.iconst 0, 1) := by decide +kernel
theorem dX9_measure_6 : decode cX9_measure 6 = .ok (.istore_n 3, 1) := by decide +kernel
theorem dX9_measure_7 : decode cX9_measure 7 = .ok (.iload_n 3, 1) := by decide +kernel
theorem dX9_measure_8 : decode cX9_measure 8 = .ok (.aload_n 0, 1) := by decide +kernel
theorem dX9_measure_9 : decode cX9_measure 9 = .ok (.getfield 39, 3) := by decide +kernel
theorem dX9_measure_12 : decode cX9_measure 12 = .ok (.if_icmp .ge 19, 3) := by decide +kernel
theorem dX9_measure_15 : decode cX9_measure 15 = .ok (.aload_n 0, 1) := by decide +kernel
theorem dX9_measure_16 : decode cX9_measure 16 = .ok (.getfield 30, 3) := by decide +kernel
theorem dX9_measure_19 : decode cX9_measure 19 = .ok (.iload_n 2, 1) := by decide +kernel
theorem dX9_measure_20 : decode cX9_measure 20 = .ok (.iload_n 3, 1) := by decide +kernel
theorem dX9_measure_21 : decode cX9_measure 21 = .ok (.iadd, 1) := by decide +kernel
theorem dX9_measure_22 : decode cX9_measure 22 = .ok (.ldc 80, 2) := by decide +kernel
theorem dX9_measure_24 : decode cX9_measure 24 = .ok (.iastore, 1) := by decide +kernel
theorem dX9_measure_25 : decode cX9_measure 25 = .ok (.iinc 3 1, 3) := by decide +kernel
theorem dX9_measure_28 : decode cX9_measure 28 = .ok (.goto (-21), 3) := by decide +kernel
theorem dX9_measure_31 : decode cX9_measure 31 = .ok (.aload_n 0, 1) := by decide +kernel
theorem dX9_measure_32 : decode cX9_measure 32 = .ok (.getfield 30, 3) := by decide +kernel
theorem dX9_measure_35 : decode cX9_measure 35 = .ok (.iload_n 2, 1) := by decide +kernel
theorem dX9_measure_36 : decode cX9_measure 36 = .ok (.iload_n 1, 1) := by decide +kernel
theorem dX9_measure_37 : decode cX9_measure 37 = .ok (.iadd, 1) := by decide +kernel
theorem dX9_measure_38 : decode cX9_measure 38 = .ok (.iconst 0, 1) := by decide +kernel
theorem dX9_measure_39 : decode cX9_measure 39 = .ok (.iastore, 1) := by decide +kernel
theorem dX9_measure_40 : decode cX9_measure 40 = .ok (.aload_n 0, 1) := by decide +kernel
theorem dX9_measure_41 : decode cX9_measure 41 = .ok (.dup, 1) := by decide +kernel
theorem dX9_measure_42 : decode cX9_measure 42 = .ok (.getfield 43, 3) := by decide +kernel
theorem dX9_measure_45 : decode cX9_measure 45 = .ok (.iconst 1, 1) := by decide +kernel
theorem dX9_measure_46 : decode cX9_measure 46 = .ok (.iload_n 1, 1) := by decide +kernel
theorem dX9_measure_47 : decode cX9_measure 47 = .ok (.ishl, 1) := by decide +kernel
theorem dX9_measure_48 : decode cX9_measure 48 = .ok (.ior, 1) := by decide +kernel
theorem dX9_measure_49 : decode cX9_measure 49 = .ok (.putfield 43, 3) := by decide +kernel
theorem dX9_measure_52 : decode cX9_measure 52 = .ok (.iconst 1, 1) := by decide +kernel
theorem dX9_measure_53 : decode cX9_measure 53 = .ok (.istore_n 3, 1) := by decide +kernel
theorem dX9_measure_54 : decode cX9_measure 54 = .ok (.iconst 0, 1) := by decide +kernel
theorem dX9_measure_55 : decode cX9_measure 55 = .ok (.istore 4, 2) := by decide +kernel
theorem dX9_measure_57 : decode cX9_measure 57 = .ok (.iload 4, 2) := by decide +kernel
theorem dX9_measure_59 : decode cX9_measure 59 = .ok (.aload_n 0, 1) := by decide +kernel
theorem dX9_measure_60 : decode cX9_measure 60 = .ok (.getfield 39, 3) := by decide +kernel
theorem dX9_measure_63 : decode cX9_measure 63 = .ok (.if_icmp .ge 153, 3) := by decide +kernel
theorem dX9_measure_66 : decode cX9_measure 66 = .ok (.iload_n 3, 1) := by decide +kernel
theorem dX9_measure_67 : decode cX9_measure 67 = .ok (.ifCond .eq 149, 3) := by decide +kernel
theorem dX9_measure_70 : decode cX9_measure 70 = .ok (.iconst 0, 1) := by decide +kernel
theorem dX9_measure_71 : decode cX9_measure 71 = .ok (.istore_n 3, 1) := by decide +kernel
theorem dX9_measure_72 : decode cX9_measure 72 = .ok (.iconst 0, 1) := by decide +kernel
theorem dX9_measure_73 : decode cX9_measure 73 = .ok (.istore 5, 2) := by decide +kernel
theorem dX9_measure_75 : decode cX9_measure 75 = .ok (.iload 5, 2) := by decide +kernel
theorem dX9_measure_77 : decode cX9_measure 77 = .ok (.aload_n 0, 1) := by decide +kernel
theorem dX9_measure_78 : decode cX9_measure 78 = .ok (.getfield 40, 3) := by decide +kernel
theorem dX9_measure_81 : decode cX9_measure 81 = .ok (.if_icmp .ge 129, 3) := by decide +kernel
theorem dX9_measure_84 : decode cX9_measure 84 = .ok (.iload_n 2, 1) := by decide +kernel
theorem dX9_measure_85 : decode cX9_measure 85 = .ok (.aload_n 0, 1) := by decide +kernel
theorem dX9_measure_86 : decode cX9_measure 86 = .ok (.getfield 18, 3) := by decide +kernel
theorem dX9_measure_89 : decode cX9_measure 89 = .ok (.iload 5, 2) := by decide +kernel
theorem dX9_measure_91 : decode cX9_measure 91 = .ok (.iaload, 1) := by decide +kernel
theorem dX9_measure_92 : decode cX9_measure 92 = .ok (.iadd, 1) := by decide +kernel
theorem dX9_measure_93 : decode cX9_measure 93 = .ok (.istore 6, 2) := by decide +kernel
theorem dX9_measure_95 : decode cX9_measure 95 = .ok (.iload_n 2, 1) := by decide +kernel
theorem dX9_measure_96 : decode cX9_measure 96 = .ok (.aload_n 0, 1) := by decide +kernel
theorem dX9_measure_97 : decode cX9_measure 97 = .ok (.getfield 21, 3) := by decide +kernel
theorem dX9_measure_100 : decode cX9_measure 100 = .ok (.iload 5, 2) := by decide +kernel
theorem dX9_measure_102 : decode cX9_measure 102 = .ok (.iaload, 1) := by decide +kernel
theorem dX9_measure_103 : decode cX9_measure 103 = .ok (.iadd, 1) := by decide +kernel
theorem dX9_measure_104 : decode cX9_measure 104 = .ok (.istore 7, 2) := by decide +kernel
theorem dX9_measure_106 : decode cX9_measure 106 = .ok (.aload_n 0, 1) := by decide +kernel
theorem dX9_measure_107 : decode cX9_measure 107 = .ok (.getfield 24, 3) := by decide +kernel
theorem dX9_measure_110 : decode cX9_measure 110 = .ok (.iload 5, 2) := by decide +kernel
theorem dX9_measure_112 : decode cX9_measure 112 = .ok (.iaload, 1) := by decide +kernel
theorem dX9_measure_113 : decode cX9_measure 113 = .ok (.aload_n 0, 1) := by decide +kernel
theorem dX9_measure_114 : decode cX9_measure 114 = .ok (.getfield 27, 3) := by decide +kernel
theorem dX9_measure_117 : decode cX9_measure 117 = .ok (.iload 5, 2) := by decide +kernel
theorem dX9_measure_119 : decode cX9_measure 119 = .ok (.iaload, 1) := by decide +kernel
theorem dX9_measure_120 : decode cX9_measure 120 = .ok (.iadd, 1) := by decide +kernel
theorem dX9_measure_121 : decode cX9_measure 121 = .ok (.istore 8, 2) := by decide +kernel
theorem dX9_measure_123 : decode cX9_measure 123 = .ok (.aload_n 0, 1) := by decide +kernel
theorem dX9_measure_124 : decode cX9_measure 124 = .ok (.getfield 30, 3) := by decide +kernel
theorem dX9_measure_127 : decode cX9_measure 127 = .ok (.iload 6, 2) := by decide +kernel
theorem dX9_measure_129 : decode cX9_measure 129 = .ok (.iaload, 1) := by decide +kernel
theorem dX9_measure_130 : decode cX9_measure 130 = .ok (.iload 8, 2) := by decide +kernel
theorem dX9_measure_132 : decode cX9_measure 132 = .ok (.iadd, 1) := by decide +kernel
theorem dX9_measure_133 : decode cX9_measure 133 = .ok (.aload_n 0, 1) := by decide +kernel
theorem dX9_measure_134 : decode cX9_measure 134 = .ok (.getfield 30, 3) := by decide +kernel
theorem dX9_measure_137 : decode cX9_measure 137 = .ok (.iload 7, 2) := by decide +kernel
theorem dX9_measure_139 : decode cX9_measure 139 = .ok (.iaload, 1) := by decide +kernel
theorem dX9_measure_140 : decode cX9_measure 140 = .ok (.if_icmp .ge 25, 3) := by decide +kernel
theorem dX9_measure_143 : decode cX9_measure 143 = .ok (.aload_n 0, 1) := by decide +kernel
theorem dX9_measure_144 : decode cX9_measure 144 = .ok (.getfield 30, 3) := by decide +kernel
theorem dX9_measure_147 : decode cX9_measure 147 = .ok (.iload 7, 2) := by decide +kernel
theorem dX9_measure_149 : decode cX9_measure 149 = .ok (.aload_n 0, 1) := by decide +kernel
theorem dX9_measure_150 : decode cX9_measure 150 = .ok (.getfield 30, 3) := by decide +kernel
theorem dX9_measure_153 : decode cX9_measure 153 = .ok (.iload 6, 2) := by decide +kernel
theorem dX9_measure_155 : decode cX9_measure 155 = .ok (.iaload, 1) := by decide +kernel
theorem dX9_measure_156 : decode cX9_measure 156 = .ok (.iload 8, 2) := by decide +kernel
theorem dX9_measure_158 : decode cX9_measure 158 = .ok (.iadd, 1) := by decide +kernel
theorem dX9_measure_159 : decode cX9_measure 159 = .ok (.iastore, 1) := by decide +kernel
theorem dX9_measure_160 : decode cX9_measure 160 = .ok (.iconst 1, 1) := by decide +kernel
theorem dX9_measure_161 : decode cX9_measure 161 = .ok (.istore_n 3, 1) := by decide +kernel
theorem dX9_measure_162 : decode cX9_measure 162 = .ok (.goto 42, 3) := by decide +kernel
theorem dX9_measure_165 : decode cX9_measure 165 = .ok (.aload_n 0, 1) := by decide +kernel
theorem dX9_measure_166 : decode cX9_measure 166 = .ok (.getfield 30, 3) := by decide +kernel
theorem dX9_measure_169 : decode cX9_measure 169 = .ok (.iload 7, 2) := by decide +kernel
theorem dX9_measure_171 : decode cX9_measure 171 = .ok (.iaload, 1) := by decide +kernel
theorem dX9_measure_172 : decode cX9_measure 172 = .ok (.iload 8, 2) := by decide +kernel
theorem dX9_measure_174 : decode cX9_measure 174 = .ok (.iadd, 1) := by decide +kernel
theorem dX9_measure_175 : decode cX9_measure 175 = .ok (.aload_n 0, 1) := by decide +kernel
theorem dX9_measure_176 : decode cX9_measure 176 = .ok (.getfield 30, 3) := by decide +kernel
theorem dX9_measure_179 : decode cX9_measure 179 = .ok (.iload 6, 2) := by decide +kernel
theorem dX9_measure_181 : decode cX9_measure 181 = .ok (.iaload, 1) := by decide +kernel
theorem dX9_measure_182 : decode cX9_measure 182 = .ok (.if_icmp .ge 22, 3) := by decide +kernel
theorem dX9_measure_185 : decode cX9_measure 185 = .ok (.aload_n 0, 1) := by decide +kernel
theorem dX9_measure_186 : decode cX9_measure 186 = .ok (.getfield 30, 3) := by decide +kernel
theorem dX9_measure_189 : decode cX9_measure 189 = .ok (.iload 6, 2) := by decide +kernel
theorem dX9_measure_191 : decode cX9_measure 191 = .ok (.aload_n 0, 1) := by decide +kernel
theorem dX9_measure_192 : decode cX9_measure 192 = .ok (.getfield 30, 3) := by decide +kernel
theorem dX9_measure_195 : decode cX9_measure 195 = .ok (.iload 7, 2) := by decide +kernel
theorem dX9_measure_197 : decode cX9_measure 197 = .ok (.iaload, 1) := by decide +kernel
theorem dX9_measure_198 : decode cX9_measure 198 = .ok (.iload 8, 2) := by decide +kernel
theorem dX9_measure_200 : decode cX9_measure 200 = .ok (.iadd, 1) := by decide +kernel
theorem dX9_measure_201 : decode cX9_measure 201 = .ok (.iastore, 1) := by decide +kernel
theorem dX9_measure_202 : decode cX9_measure 202 = .ok (.iconst 1, 1) := by decide +kernel
theorem dX9_measure_203 : decode cX9_measure 203 = .ok (.istore_n 3, 1) := by decide +kernel
theorem dX9_measure_204 : decode cX9_measure 204 = .ok (.iinc 5 1, 3) := by decide +kernel
theorem dX9_measure_207 : decode cX9_measure 207 = .ok (.goto (-132), 3) := by decide +kernel
theorem dX9_measure_210 : decode cX9_measure 210 = .ok (.iinc 4 1, 3) := by decide +kernel
theorem dX9_measure_213 : decode cX9_measure 213 = .ok (.goto (-156), 3) := by decide +kernel
theorem dX9_measure_216 : decode cX9_measure 216 = .ok (.return_, 1) := by decide +kernel
