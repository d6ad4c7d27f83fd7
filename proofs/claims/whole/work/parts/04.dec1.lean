theorem dX6_bestHour_0 : decode cX6_bestHour 0 = .ok (.aload_n 0, 1) := by decide +kernel
theorem dX6_bestHour_1 : decode cX6_bestHour 1 = .ok (.iload_n 1, 1) := by decide +kernel
theorem dX6_bestHour_2 : decode cX6_bestHour 2 = .ok (.invokevirtual 94, 3) := by decide +kernel
theorem dX6_bestHour_5 : decode cX6_bestHour 5 = .ok (.iload_n 2, 1) := by decide +kernel
theorem dX6_bestHour_6 : decode cX6_bestHour 6 = .ok (.invokestatic 176, 3) := by decide +kernel
theorem dX6_bestHour_9 : decode cX6_bestHour 9 = .ok (.iload_n 3, 1) := by decide +kernel
theorem dX6_bestHour_10 : decode cX6_bestHour 10 = .ok (.invokestatic 179, 3) := by decide +kernel
theorem dX6_bestHour_13 : decode cX6_bestHour 13 = .ok (.iconst (-1), 1) := by decide +kernel
theorem dX6_bestHour_14 : decode cX6_bestHour 14 = .ok (.istore 4, 2) := by decide +kernel
theorem dX6_bestHour_16 : decode cX6_bestHour 16 = .ok (.iconst 0, 1) := by decide +kernel
theorem dX6_bestHour_17 : decode cX6_bestHour 17 = .ok (.istore 5, 2) := by decide +kernel
theorem dX6_bestHour_19 : decode cX6_bestHour 19 = .ok (.iconst 0, 1) := by decide +kernel
theorem dX6_bestHour_20 : decode cX6_bestHour 20 = .ok (.istore 6, 2) := by decide +kernel
theorem dX6_bestHour_22 : decode cX6_bestHour 22 = .ok (.iload 6, 2) := by decide +kernel
theorem dX6_bestHour_24 : decode cX6_bestHour 24 = .ok (.bipush 24, 2) := by decide +kernel
theorem dX6_bestHour_26 : decode cX6_bestHour 26 = .ok (.if_icmp .ge 38, 3) := by decide +kernel
theorem dX6_bestHour_29 : decode cX6_bestHour 29 = .ok (.aload_n 0, 1) := by decide +kernel
theorem dX6_bestHour_30 : decode cX6_bestHour 30 = .ok (.iload_n 1, 1) := by decide +kernel
theorem dX6_bestHour_31 : decode cX6_bestHour 31 = .ok (.iload_n 2, 1) := by decide +kernel
theorem dX6_bestHour_32 : decode cX6_bestHour 32 = .ok (.iload_n 3, 1) := by decide +kernel
theorem dX6_bestHour_33 : decode cX6_bestHour 33 = .ok (.iload 6, 2) := by decide +kernel
theorem dX6_bestHour_35 : decode cX6_bestHour 35 = .ok (.invokestatic 185, 3) := by decide +kernel
theorem dX6_bestHour_38 : decode cX6_bestHour 38 = .ok (.invokevirtual 198, 3) := by decide +kernel
theorem dX6_bestHour_41 : decode cX6_bestHour 41 = .ok (.istore 7, 2) := by decide +kernel
theorem dX6_bestHour_43 : decode cX6_bestHour 43 = .ok (.iload 7, 2) := by decide +kernel
theorem dX6_bestHour_45 : decode cX6_bestHour 45 = .ok (.iload 5, 2) := by decide +kernel
theorem dX6_bestHour_47 : decode cX6_bestHour 47 = .ok (.if_icmp .le 11, 3) := by decide +kernel
theorem dX6_bestHour_50 : decode cX6_bestHour 50 = .ok (.iload 6, 2) := by decide +kernel
theorem dX6_bestHour_52 : decode cX6_bestHour 52 = .ok (.istore 4, 2) := by decide +kernel
theorem dX6_bestHour_54 : decode cX6_bestHour 54 = .ok (.iload 7, 2) := by decide +kernel
theorem dX6_bestHour_56 : decode cX6_bestHour 56 = .ok (.istore 5, 2) := by decide +kernel
theorem dX6_bestHour_58 : decode cX6_bestHour 58 = .ok (.iinc 6 1, 3) := by decide +kernel
theorem dX6_bestHour_61 : decode cX6_bestHour 61 = .ok (.goto (-39), 3) := by decide +kernel
theorem dX6_bestHour_64 : decode cX6_bestHour 64 = .ok (.iload 4, 2) := by decide +kernel
theorem dX6_bestHour_66 : decode cX6_bestHour 66 = .ok (.ireturn, 1) := by decide +kernel
theorem dX6_season_0 : decode cX6_season 0 = .ok (.aload_n 0, 1) := by decide +kernel
theorem dX6_season_1 : decode cX6_season 1 = .ok (.iload_n 1, 1) := by decide +kernel
theorem dX6_season_2 : decode cX6_season 2 = .ok (.invokevirtual 94, 3) := by decide +kernel
theorem dX6_season_5 : decode cX6_season 5 = .ok (.iload_n 2, 1) := by decide +kernel
theorem dX6_season_6 : decode cX6_season 6 = .ok (.invokestatic 176, 3) := by decide +kernel
theorem dX6_season_9 : decode cX6_season 9 = .ok (.iload_n 3, 1) := by decide +kernel
theorem dX6_season_10 : decode cX6_season 10 = .ok (.invokestatic 182, 3) := by decide +kernel
theorem dX6_season_13 : decode cX6_season 13 = .ok (.iconst 0, 1) := by decide +kernel
theorem dX6_season_14 : decode cX6_season 14 = .ok (.istore 4, 2) := by decide +kernel
theorem dX6_season_16 : decode cX6_season 16 = .ok (.iconst 0, 1) := by decide +kernel
theorem dX6_season_17 : decode cX6_season 17 = .ok (.istore 5, 2) := by decide +kernel
theorem dX6_season_19 : decode cX6_season 19 = .ok (.iload 5, 2) := by decide +kernel
theorem dX6_season_21 : decode cX6_season 21 = .ok (.sipush 365, 3) := by decide +kernel
theorem dX6_season_24 : decode cX6_season 24 = .ok (.if_icmp .ge 27, 3) := by decide +kernel
theorem dX6_season_27 : decode cX6_season 27 = .ok (.aload_n 0, 1) := by decide +kernel
theorem dX6_season_28 : decode cX6_season 28 = .ok (.iload_n 1, 1) := by decide +kernel
theorem dX6_season_29 : decode cX6_season 29 = .ok (.iload_n 2, 1) := by decide +kernel
theorem dX6_season_30 : decode cX6_season 30 = .ok (.iload 5, 2) := by decide +kernel
theorem dX6_season_32 : decode cX6_season 32 = .ok (.iload_n 3, 1) := by decide +kernel
theorem dX6_season_33 : decode cX6_season 33 = .ok (.invokestatic 185, 3) := by decide +kernel
theorem dX6_season_36 : decode cX6_season 36 = .ok (.invokevirtual 191, 3) := by decide +kernel
theorem dX6_season_39 : decode cX6_season 39 = .ok (.ifCond .eq 6, 3) := by decide +kernel
theorem dX6_season_42 : decode cX6_season 42 = .ok (.iinc 4 1, 3) := by decide +kernel
theorem dX6_season_45 : decode cX6_season 45 = .ok (.iinc 5 1, 3) := by decide +kernel
theorem dX6_season_48 : decode cX6_season 48 = .ok (.goto (-29), 3) := by decide +kernel
theorem dX6_season_51 : decode cX6_season 51 = .ok (.iload 4, 2) := by decide +kernel
theorem dX6_season_53 : decode cX6_season 53 = .ok (.ireturn, 1) := by decide +kernel
theorem dX6_plan_0 : decode cX6_plan 0 = .ok (.aload_n 0, 1) := by decide +kernel
theorem dX6_plan_1 : decode cX6_plan 1 = .ok (.iload_n 1, 1) := by decide +kernel
theorem dX6_plan_2 : decode cX6_plan 2 = .ok (.invokevirtual 94, 3) := by decide +kernel
theorem dX6_plan_5 : decode cX6_plan 5 = .ok (.iload_n 2, 1) := by decide +kernel
theorem dX6_plan_6 : decode cX6_plan 6 = .ok (.invokestatic 176, 3) := by decide +kernel
theorem dX6_plan_9 : decode cX6_plan 9 = .ok (.iload_n 3, 1) := by decide +kernel
theorem dX6_plan_10 : decode cX6_plan 10 = .ok (.invokestatic 179, 3) := by decide +kernel
theorem dX6_plan_13 : decode cX6_plan 13 = .ok (.iload 4, 2) := by decide +kernel
theorem dX6_plan_15 : decode cX6_plan 15 = .ok (.invokestatic 182, 3) := by decide +kernel
theorem dX6_plan_18 : decode cX6_plan 18 = .ok (.iload_n 3, 1) := by decide +kernel
theorem dX6_plan_19 : decode cX6_plan 19 = .ok (.iload 4, 2) := by decide +kernel
theorem dX6_plan_21 : decode cX6_plan 21 = .ok (.invokestatic 185, 3) := by decide +kernel
theorem dX6_plan_24 : decode cX6_plan 24 = .ok (.istore 5, 2) := by decide +kernel
theorem dX6_plan_26 : decode cX6_plan 26 = .ok (.aload_n 0, 1) := by decide +kernel
theorem dX6_plan_27 : decode cX6_plan 27 = .ok (.iload_n 1, 1) := by decide +kernel
theorem dX6_plan_28 : decode cX6_plan 28 = .ok (.iload_n 2, 1) := by decide +kernel
theorem dX6_plan_29 : decode cX6_plan 29 = .ok (.iload 5, 2) := by decide +kernel
theorem dX6_plan_31 : decode cX6_plan 31 = .ok (.invokevirtual 191, 3) := by decide +kernel
theorem dX6_plan_34 : decode cX6_plan 34 = .ok (.ifCond .ne 13, 3) := by decide +kernel
theorem dX6_plan_37 : decode cX6_plan 37 = .ok (.new 52, 3) := by decide +kernel
theorem dX6_plan_40 : decode cX6_plan 40 = .ok (.dup, 1) := by decide +kernel
theorem dX6_plan_41 : decode cX6_plan 41 = .ok (.ldc 201, 2) := by decide +kernel
theorem dX6_plan_43 : decode cX6_plan 43 = .ok (.invokespecial 56, 3) := by decide +kernel
theorem dX6_plan_46 : decode cX6_plan 46 = .ok (.athrow, 1) := by decide +kernel
theorem dX6_plan_47 : decode cX6_plan 47 = .ok (.aload_n 0, 1) := by decide +kernel
theorem dX6_plan_48 : decode cX6_plan 48 = .ok (.getfield 26, 3) := by decide +kernel
theorem dX6_plan_51 : decode cX6_plan 51 = .ok (.getfield 173, 3) := by decide +kernel
theorem dX6_plan_54 : decode cX6_plan 54 = .ok (.iload_n 1, 1) := by decide +kernel
theorem dX6_plan_55 : decode cX6_plan 55 = .ok (.iaload, 1) := by decide +kernel
theorem dX6_plan_56 : decode cX6_plan 56 = .ok (.istore 6, 2) := by decide +kernel
theorem dX6_plan_58 : decode cX6_plan 58 = .ok (.iload 6, 2) := by decide +kernel
theorem dX6_plan_60 : decode cX6_plan 60 = .ok (.iconst (-1), 1) := by decide +kernel
theorem dX6_plan_61 : decode cX6_plan 61 = .ok (.if_icmp .ne 13, 3) := by decide +kernel
theorem dX6_plan_64 : decode cX6_plan 64 = .ok (.new 52, 3) := by decide +kernel
theorem dX6_plan_67 : decode cX6_plan 67 = .ok (.dup, 1) := by decide +kernel
theorem dX6_plan_68 : decode cX6_plan 68 = .ok (.ldc 203, 2) := by decide +kernel
theorem dX6_plan_70 : decode cX6_plan 70 = .ok (.invokespecial 56, 3) := by decide +kernel
theorem dX6_plan_73 : decode cX6_plan 73 = .ok (.athrow, 1) := by decide +kernel
theorem dX6_plan_74 : decode cX6_plan 74 = .ok (.aload_n 0, 1) := by decide +kernel
theorem dX6_plan_75 : decode cX6_plan 75 = .ok (.getfield 33, 3) := by decide +kernel
theorem dX6_plan_78 : decode cX6_plan 78 = .ok (.getfield 205, 3) := by decide +kernel
theorem dX6_plan_81 : decode cX6_plan 81 = .ok (.bipush 12, 2) := by decide +kernel
theorem dX6_plan_83 : decode cX6_plan 83 = .ok (.if_icmp .lt 13, 3) := by decide +kernel
theorem dX6_plan_86 : decode cX6_plan 86 = .ok (.new 52, 3) := by decide +kernel
theorem dX6_plan_89 : decode cX6_plan 89 = .ok (.dup, 1) := by decide +kernel
theorem dX6_plan_90 : decode cX6_plan 90 = .ok (.ldc 208, 2) := by decide +kernel
theorem dX6_plan_92 : decode cX6_plan 92 = .ok (.invokespecial 56, 3) := by decide +kernel
theorem dX6_plan_95 : decode cX6_plan 95 = .ok (.athrow, 1) := by decide +kernel
theorem dX6_plan_96 : decode cX6_plan 96 = .ok (.aload_n 0, 1) := by decide +kernel
theorem dX6_plan_97 : decode cX6_plan 97 = .ok (.getfield 33, 3) := by decide +kernel
theorem dX6_plan_100 : decode cX6_plan 100 = .ok (.iload_n 1, 1) := by decide +kernel
theorem dX6_plan_101 : decode cX6_plan 101 = .ok (.iload 6, 2) := by decide +kernel
theorem dX6_plan_103 : decode cX6_plan 103 = .ok (.iload_n 2, 1) := by decide +kernel
theorem dX6_plan_104 : decode cX6_plan 104 = .ok (.iload 5, 2) := by decide +kernel
theorem dX6_plan_106 : decode cX6_plan 106 = .ok (.invokevirtual 210, 3) := by decide +kernel
theorem dX6_plan_109 : decode cX6_plan 109 = .ok (.ireturn, 1) := by decide +kernel
theorem dX6_isWrong_0 : decode cX6_isWrong 0 = .ok (.iload_n 1, 1) := by decide +kernel
theorem dX6_isWrong_1 : decode cX6_isWrong 1 = .ok (.ifCond .lt 14, 3) := by decide +kernel
theorem dX6_isWrong_4 : decode cX6_isWrong 4 = .ok (.iload_n 1, 1) := by decide +kernel
theorem dX6_isWrong_5 : decode cX6_isWrong 5 = .ok (.aload_n 0, 1) := by decide +kernel
theorem dX6_isWrong_6 : decode cX6_isWrong 6 = .ok (.getfield 33, 3) := by decide +kernel
theorem dX6_isWrong_9 : decode cX6_isWrong 9 = .ok (.getfield 205, 3) := by decide +kernel
theorem dX6_isWrong_12 : decode cX6_isWrong 12 = .ok (.if_icmp .lt 13, 3) := by decide +kernel
theorem dX6_isWrong_15 : decode cX6_isWrong 15 = .ok (.new 123, 3) := by decide +kernel
theorem dX6_isWrong_18 : decode cX6_isWrong 18 = .ok (.dup, 1) := by decide +kernel
theorem dX6_isWrong_19 : decode cX6_isWrong 19 = .ok (.ldc 213, 2) := by decide +kernel
theorem dX6_isWrong_21 : decode cX6_isWrong 21 = .ok (.invokespecial 127, 3) := by decide +kernel
theorem dX6_isWrong_24 : decode cX6_isWrong 24 = .ok (.athrow, 1) := by decide +kernel
theorem dX6_isWrong_25 : decode cX6_isWrong 25 = .ok (.aload_n 0, 1) := by decide +kernel
theorem dX6_isWrong_26 : decode cX6_isWrong 26 = .ok (.iload_n 1, 1) := by decide +kernel
theorem dX6_isWrong_27 : decode cX6_isWrong 27 = .ok (.invokevirtual 215, 3) := by decide +kernel
theorem dX6_isWrong_30 : decode cX6_isWrong 30 = .ok (.ireturn, 1) := by decide +kernel
theorem dX6_wrong_0 : decode cX6_wrong 0 = .ok (.aload_n 0, 1) := by decide +kernel
theorem dX6_wrong_1 : decode cX6_wrong 1 = .ok (.invokevirtual 82, 3) := by decide +kernel
theorem dX6_wrong_4 : decode cX6_wrong 4 = .ok (.ireturn, 1) := by decide +kernel
theorem dX6_needStar_0 : decode cX6_needStar 0 = .ok (.iload_n 1, 1) := by decide +kernel
theorem dX6_needStar_1 : decode cX6_needStar 1 = .ok (.ifCond .lt 14, 3) := by decide +kernel
theorem dX6_needStar_4 : decode cX6_needStar 4 = .ok (.iload_n 1, 1) := by decide +kernel
theorem dX6_needStar_5 : decode cX6_needStar 5 = .ok (.aload_n 0, 1) := by decide +kernel
theorem dX6_needStar_6 : decode cX6_needStar 6 = .ok (.getfield 12, 3) := by decide +kernel
theorem dX6_needStar_9 : decode cX6_needStar 9 = .ok (.getfield 48, 3) := by decide +kernel
theorem dX6_needStar_12 : decode cX6_needStar 12 = .ok (.if_icmp .lt 13, 3) := by decide +kernel
theorem dX6_needStar_15 : decode cX6_needStar 15 = .ok (.new 123, 3) := by decide +kernel
theorem dX6_needStar_18 : decode cX6_needStar 18 = .ok (.dup, 1) := by decide +kernel
theorem dX6_needStar_19 : decode cX6_needStar 19 = .ok (.ldc 219, 2) := by decide +kernel
theorem dX6_needStar_21 : decode cX6_needStar 21 = .ok (.invokespecial 127, 3) := by decide +kernel
theorem dX6_needStar_24 : decode cX6_needStar 24 = .ok (.athrow, 1) := by decide +kernel
theorem dX6_needStar_25 : decode cX6_needStar 25 = .ok (.return_, 1) := by decide +kernel
theorem dX6_needFigure_0 : decode cX6_needFigure 0 = .ok (.iload_n 1, 1) := by decide +kernel
theorem dX6_needFigure_1 : decode cX6_needFigure 1 = .ok (.ifCond .lt 14, 3) := by decide +kernel
theorem dX6_needFigure_4 : decode cX6_needFigure 4 = .ok (.iload_n 1, 1) := by decide +kernel
theorem dX6_needFigure_5 : decode cX6_needFigure 5 = .ok (.aload_n 0, 1) := by decide +kernel
theorem dX6_needFigure_6 : decode cX6_needFigure 6 = .ok (.getfield 19, 3) := by decide +kernel
theorem dX6_needFigure_9 : decode cX6_needFigure 9 = .ok (.getfield 86, 3) := by decide +kernel
theorem dX6_needFigure_12 : decode cX6_needFigure 12 = .ok (.if_icmp .lt 13, 3) := by decide +kernel
theorem dX6_needFigure_15 : decode cX6_needFigure 15 = .ok (.new 123, 3) := by decide +kernel
theorem dX6_needFigure_18 : decode cX6_needFigure 18 = .ok (.dup, 1) := by decide +kernel
theorem dX6_needFigure_19 : decode cX6_needFigure 19 = .ok (.ldc 221, 2) := by decide +kernel
theorem dX6_needFigure_21 : decode cX6_needFigure 21 = .ok (.invokespecial 127, 3) := by decide +kernel
theorem dX6_needFigure_24 : decode cX6_needFigure 24 = .ok (.athrow, 1) := by decide +kernel
theorem dX6_needFigure_25 : decode cX6_needFigure 25 = .ok (.return_, 1) := by decide +kernel
theorem dX6_needPlace_0 : decode cX6_needPlace 0 = .ok (.iload_n 0, 1) := by decide +kernel
theorem dX6_needPlace_1 : decode cX6_needPlace 1 = .ok (.ifCond .lt 10, 3) := by decide +kernel
theorem dX6_needPlace_4 : decode cX6_needPlace 4 = .ok (.iload_n 0, 1) := by decide +kernel
theorem dX6_needPlace_5 : decode cX6_needPlace 5 = .ok (.sipush 360, 3) := by decide +kernel
theorem dX6_needPlace_8 : decode cX6_needPlace 8 = .ok (.if_icmp .lt 13, 3) := by decide +kernel
theorem dX6_needPlace_11 : decode cX6_needPlace 11 = .ok (.new 97, 3) := by decide +kernel
theorem dX6_needPlace_14 : decode cX6_needPlace 14 = .ok (.dup, 1) := by decide +kernel
theorem dX6_needPlace_15 : decode cX6_needPlace 15 = .ok (.ldc 223, 2) := by decide +kernel
theorem dX6_needPlace_17 : decode cX6_needPlace 17 = .ok (.invokespecial 101, 3) := by decide +kernel
theorem dX6_needPlace_20 : decode cX6_needPlace 20 = .ok (.athrow, 1) := by decide +kernel
theorem dX6_needPlace_21 : decode cX6_needPlace 21 = .ok (.iload_n 1, 1) := by decide +kernel
theorem dX6_needPlace_22 : decode cX6_needPlace 22 = .ok (.bipush (-90), 2) := by decide +kernel
theorem dX6_needPlace_24 : decode cX6_needPlace 24 = .ok (.if_icmp .lt 9, 3) := by decide +kernel
theorem dX6_needPlace_27 : decode cX6_needPlace 27 = .ok (.iload_n 1, 1) := by decide +kernel
theorem dX6_needPlace_28 : decode cX6_needPlace 28 = .ok (.bipush 90, 2) := by decide +kernel
theorem dX6_needPlace_30 : decode cX6_needPlace 30 = .ok (.if_icmp .le 13, 3) := by decide +kernel
theorem dX6_needPlace_33 : decode cX6_needPlace 33 = .ok (.new 97, 3) := by decide +kernel
theorem dX6_needPlace_36 : decode cX6_needPlace 36 = .ok (.dup, 1) := by decide +kernel
theorem dX6_needPlace_37 : decode cX6_needPlace 37 = .ok (.ldc 225, 2) := by decide +kernel
theorem dX6_needPlace_39 : decode cX6_needPlace 39 = .ok (.invokespecial 101, 3) := by decide +kernel
theorem dX6_needPlace_42 : decode cX6_needPlace 42 = .ok (.athrow, 1) := by decide +kernel
theorem dX6_needPlace_43 : decode cX6_needPlace 43 = .ok (.return_, 1) := by decide +kernel
theorem dX6_needName_0 : decode cX6_needName 0 = .ok (.iload_n 0, 1) := by decide +kernel
theorem dX6_needName_1 : decode cX6_needName 1 = .ok (.ifCond .lt 9, 3) := by decide +kernel
theorem dX6_needName_4 : decode cX6_needName 4 = .ok (.iload_n 0, 1) := by decide +kernel
theorem dX6_needName_5 : decode cX6_needName 5 = .ok (.bipush 10, 2) := by decide +kernel
theorem dX6_needName_7 : decode cX6_needName 7 = .ok (.if_icmp .lt 13, 3) := by decide +kernel
theorem dX6_needName_10 : decode cX6_needName 10 = .ok (.new 97, 3) := by decide +kernel
theorem dX6_needName_13 : decode cX6_needName 13 = .ok (.dup, 1) := by decide +kernel
theorem dX6_needName_14 : decode cX6_needName 14 = .ok (.ldc 227, 2) := by decide +kernel
theorem dX6_needName_16 : decode cX6_needName 16 = .ok (.invokespecial 101, 3) := by decide +kernel
theorem dX6_needName_19 : decode cX6_needName 19 = .ok (.athrow, 1) := by decide +kernel
theorem dX6_needName_20 : decode cX6_needName 20 = .ok (.return_, 1) := by decide +kernel
theorem dX6_needLatitude_0 : decode cX6_needLatitude 0 = .ok (.iload_n 0, 1) := by decide +kernel
theorem dX6_needLatitude_1 : decode cX6_needLatitude 1 = .ok (.bipush (-90), 2) := by decide +kernel
theorem dX6_needLatitude_3 : decode cX6_needLatitude 3 = .ok (.if_icmp .lt 9, 3) := by decide +kernel
theorem dX6_needLatitude_6 : decode cX6_needLatitude 6 = .ok (.iload_n 0, 1) := by decide +kernel
theorem dX6_needLatitude_7 : decode cX6_needLatitude 7 = .ok (.bipush 90, 2) := by decide +kernel
theorem dX6_needLatitude_9 : decode cX6_needLatitude 9 = .ok (.if_icmp .le 13, 3) := by decide +kernel
theorem dX6_needLatitude_12 : decode cX6_needLatitude 12 = .ok (.new 97, 3) := by decide +kernel
theorem dX6_needLatitude_15 : decode cX6_needLatitude 15 = .ok (.dup, 1) := by decide +kernel
theorem dX6_needLatitude_16 : decode cX6_needLatitude 16 = .ok (.ldc 229, 2) := by decide +kernel
theorem dX6_needLatitude_18 : decode cX6_needLatitude 18 = .ok (.invokespecial 101, 3) := by decide +kernel
theorem dX6_needLatitude_21 : decode cX6_needLatitude 21 = .ok (.athrow, 1) := by decide +kernel
theorem dX6_needLatitude_22 : decode cX6_needLatitude 22 = .ok (.return_, 1) := by decide +kernel
theorem dX6_needDay_0 : decode cX6_needDay 0 = .ok (.iload_n 0, 1) := by decide +kernel
theorem dX6_needDay_1 : decode cX6_needDay 1 = .ok (.ifCond .lt 10, 3) := by decide +kernel
theorem dX6_needDay_4 : decode cX6_needDay 4 = .ok (.iload_n 0, 1) := by decide +kernel
theorem dX6_needDay_5 : decode cX6_needDay 5 = .ok (.sipush 365, 3) := by decide +kernel
theorem dX6_needDay_8 : decode cX6_needDay 8 = .ok (.if_icmp .lt 13, 3) := by decide +kernel
theorem dX6_needDay_11 : decode cX6_needDay 11 = .ok (.new 97, 3) := by decide +kernel
theorem dX6_needDay_14 : decode cX6_needDay 14 = .ok (.dup, 1) := by decide +kernel
theorem dX6_needDay_15 : decode cX6_needDay 15 = .ok (.ldc 231, 2) := by decide +kernel
theorem dX6_needDay_17 : decode cX6_needDay 17 = .ok (.invokespecial 101, 3) := by decide +kernel
theorem dX6_needDay_20 : decode cX6_needDay 20 = .ok (.athrow, 1) := by decide +kernel
theorem dX6_needDay_21 : decode cX6_needDay 21 = .ok (.return_, 1) := by decide +kernel
theorem dX6_needHour_0 : decode cX6_needHour 0 = .ok (.iload_n 0, 1) := by decide +kernel
theorem dX6_needHour_1 : decode cX6_needHour 1 = .ok (.ifCond .lt 9, 3) := by decide +kernel
theorem dX6_needHour_4 : decode cX6_needHour 4 = .ok (.iload_n 0, 1) := by decide +kernel
theorem dX6_needHour_5 : decode cX6_needHour 5 = .ok (.bipush 24, 2) := by decide +kernel
theorem dX6_needHour_7 : decode cX6_needHour 7 = .ok (.if_icmp .lt 13, 3) := by decide +kernel
theorem dX6_needHour_10 : decode cX6_needHour 10 = .ok (.new 97, 3) := by decide +kernel
theorem dX6_needHour_13 : decode cX6_needHour 13 = .ok (.dup, 1) := by decide +kernel
theorem dX6_needHour_14 : decode cX6_needHour 14 = .ok (.ldc 233, 2) := by decide +kernel
theorem dX6_needHour_16 : decode cX6_needHour 16 = .ok (.invokespecial 101, 3) := by decide +kernel
theorem dX6_needHour_19 : decode cX6_needHour 19 = .ok (.athrow, 1) := by decide +kernel
theorem dX6_needHour_20 : decode cX6_needHour 20 = .ok (.return_, 1) := by decide +kernel
theorem dX6_takeBack_0 : decode cX6_takeBack 0 = .ok (.aload_n 0, 1) := by decide +kernel
theorem dX6_takeBack_1 : decode cX6_takeBack 1 = .ok (.getfield 40, 3) := by decide +kernel
theorem dX6_takeBack_4 : decode cX6_takeBack 4 = .ok (.getfield 235, 3) := by decide +kernel
theorem dX6_takeBack_7 : decode cX6_takeBack 7 = .ok (.iload_n 1, 1) := by decide +kernel
theorem dX6_takeBack_8 : decode cX6_takeBack 8 = .ok (.iaload, 1) := by decide +kernel
theorem dX6_takeBack_9 : decode cX6_takeBack 9 = .ok (.istore_n 2, 1) := by decide +kernel
theorem dX6_takeBack_10 : decode cX6_takeBack 10 = .ok (.aload_n 0, 1) := by decide +kernel
theorem dX6_takeBack_11 : decode cX6_takeBack 11 = .ok (.getfield 40, 3) := by decide +kernel
theorem dX6_takeBack_14 : decode cX6_takeBack 14 = .ok (.getfield 238, 3) := by decide +kernel
theorem dX6_takeBack_17 : decode cX6_takeBack 17 = .ok (.iload_n 1, 1) := by decide +kernel
theorem dX6_takeBack_18 : decode cX6_takeBack 18 = .ok (.iaload, 1) := by decide +kernel
theorem dX6_takeBack_19 : decode cX6_takeBack 19 = .ok (.istore_n 3, 1) := by decide +kernel
theorem dX6_takeBack_20 : decode cX6_takeBack 20 = .ok (.aload_n 0, 1) := by decide +kernel
theorem dX6_takeBack_21 : decode cX6_takeBack 21 = .ok (.getfield 40, 3) := by decide +kernel
theorem dX6_takeBack_24 : decode cX6_takeBack 24 = .ok (.getfield 241, 3) := by decide +kernel
theorem dX6_takeBack_27 : decode cX6_takeBack 27 = .ok (.iload_n 1, 1) := by decide +kernel
theorem dX6_takeBack_28 : decode cX6_takeBack 28 = .ok (.iaload, 1) := by decide +kernel
theorem dX6_takeBack_29 : decode cX6_takeBack 29 = .ok (.istore 4, 2) := by decide +kernel
theorem dX6_takeBack_31 : decode cX6_takeBack 31 = .ok (.aload_n 0, 1) := by decide +kernel
theorem dX6_takeBack_32 : decode cX6_takeBack 32 = .ok (.getfield 40, 3) := by decide +kernel
theorem dX6_takeBack_35 : decode cX6_takeBack 35 = .ok (.getfield 244, 3) := by decide +kernel
theorem dX6_takeBack_38 : decode cX6_takeBack 38 = .ok (.iload_n 1, 1) := by decide +kernel
theorem dX6_takeBack_39 : decode cX6_takeBack 39 = .ok (.iaload, 1) := by decide +kernel
theorem dX6_takeBack_40 : decode cX6_takeBack 40 = .ok (.istore 5, 2) := by decide +kernel
theorem dX6_takeBack_42 : decode cX6_takeBack 42 = .ok (.aload_n 0, 1) := by decide +kernel
theorem dX6_takeBack_43 : decode cX6_takeBack 43 = .ok (.getfield 40, 3) := by decide +kernel
theorem dX6_takeBack_46 : decode cX6_takeBack 46 = .ok (.getfield 247, 3) := by decide +kernel
theorem dX6_takeBack_49 : decode cX6_takeBack 49 = .ok (.iload_n 1, 1) := by decide +kernel
theorem dX6_takeBack_50 : decode cX6_takeBack 50 = .ok (.iaload, 1) := by decide +kernel
theorem dX6_takeBack_51 : decode cX6_takeBack 51 = .ok (.tableswitch 68 0 2 #[25, 40, 52], 25) := by decide +kernel
theorem dX6_takeBack_76 : decode cX6_takeBack 76 = .ok (.aload_n 0, 1) := by decide +kernel
theorem dX6_takeBack_77 : decode cX6_takeBack 77 = .ok (.getfield 12, 3) := by decide +kernel
theorem dX6_takeBack_80 : decode cX6_takeBack 80 = .ok (.iload_n 2, 1) := by decide +kernel
theorem dX6_takeBack_81 : decode cX6_takeBack 81 = .ok (.iload 4, 2) := by decide +kernel
theorem dX6_takeBack_83 : decode cX6_takeBack 83 = .ok (.iload 5, 2) := by decide +kernel
theorem dX6_takeBack_85 : decode cX6_takeBack 85 = .ok (.invokevirtual 78, 3) := by decide +kernel
theorem dX6_takeBack_88 : decode cX6_takeBack 88 = .ok (.goto 31, 3) := by decide +kernel
theorem dX6_takeBack_91 : decode cX6_takeBack 91 = .ok (.aload_n 0, 1) := by decide +kernel
theorem dX6_takeBack_92 : decode cX6_takeBack 92 = .ok (.getfield 19, 3) := by decide +kernel
theorem dX6_takeBack_95 : decode cX6_takeBack 95 = .ok (.iload_n 2, 1) := by decide +kernel
theorem dX6_takeBack_96 : decode cX6_takeBack 96 = .ok (.iload_n 3, 1) := by decide +kernel
theorem dX6_takeBack_97 : decode cX6_takeBack 97 = .ok (.invokevirtual 137, 3) := by decide +kernel
theorem dX6_takeBack_100 : decode cX6_takeBack 100 = .ok (.goto 19, 3) := by decide +kernel
theorem dX6_takeBack_103 : decode cX6_takeBack 103 = .ok (.aload_n 0, 1) := by decide +kernel
theorem dX6_takeBack_104 : decode cX6_takeBack 104 = .ok (.getfield 19, 3) := by decide +kernel
theorem dX6_takeBack_107 : decode cX6_takeBack 107 = .ok (.iload_n 2, 1) := by decide +kernel
theorem dX6_takeBack_108 : decode cX6_takeBack 108 = .ok (.iload_n 3, 1) := by decide +kernel
theorem dX6_takeBack_109 : decode cX6_takeBack 109 = .ok (.iload 4, 2) := by decide +kernel
theorem dX6_takeBack_111 : decode cX6_takeBack 111 = .ok (.iload 5, 2) := by decide +kernel
theorem dX6_takeBack_113 : decode cX6_takeBack 113 = .ok (.invokevirtual 119, 3) := by decide +kernel
theorem dX6_takeBack_116 : decode cX6_takeBack 116 = .ok (.goto 3, 3) := by decide +kernel
theorem dX6_takeBack_119 : decode cX6_takeBack 119 = .ok (.return_, 1) := by decide +kernel
theorem dX6_linesCross_0 : decode cX6_linesCross 0 = .ok (.aload_n 0, 1) := by decide +kernel
theorem dX6_linesCross_1 : decode cX6_linesCross 1 = .ok (.getfield 19, 3) := by decide +kernel
theorem dX6_linesCross_4 : decode cX6_linesCross 4 = .ok (.getfield 131, 3) := by decide +kernel
theorem dX6_linesCross_7 : decode cX6_linesCross 7 = .ok (.iload_n 1, 1) := by decide +kernel
theorem dX6_linesCross_8 : decode cX6_linesCross 8 = .ok (.iaload, 1) := by decide +kernel
theorem dX6_linesCross_9 : decode cX6_linesCross 9 = .ok (.istore_n 3, 1) := by decide +kernel
theorem dX6_linesCross_10 : decode cX6_linesCross 10 = .ok (.aload_n 0, 1) := by decide +kernel
theorem dX6_linesCross_11 : decode cX6_linesCross 11 = .ok (.getfield 19, 3) := by decide +kernel
theorem dX6_linesCross_14 : decode cX6_linesCross 14 = .ok (.getfield 134, 3) := by decide +kernel
theorem dX6_linesCross_17 : decode cX6_linesCross 17 = .ok (.iload_n 1, 1) := by decide +kernel
theorem dX6_linesCross_18 : decode cX6_linesCross 18 = .ok (.iaload, 1) := by decide +kernel
theorem dX6_linesCross_19 : decode cX6_linesCross 19 = .ok (.istore 4, 2) := by decide +kernel
theorem dX6_linesCross_21 : decode cX6_linesCross 21 = .ok (.aload_n 0, 1) := by decide +kernel
theorem dX6_linesCross_22 : decode cX6_linesCross 22 = .ok (.getfield 19, 3) := by decide +kernel
theorem dX6_linesCross_25 : decode cX6_linesCross 25 = .ok (.getfield 131, 3) := by decide +kernel
theorem dX6_linesCross_28 : decode cX6_linesCross 28 = .ok (.iload_n 2, 1) := by decide +kernel
theorem dX6_linesCross_29 : decode cX6_linesCross 29 = .ok (.iaload, 1) := by decide +kernel
theorem dX6_linesCross_30 : decode cX6_linesCross 30 = .ok (.istore 5, 2) := by decide +kernel
theorem dX6_linesCross_32 : decode cX6_linesCross 32 = .ok (.aload_n 0, 1) := by decide +kernel
theorem dX6_linesCross_33 : decode cX6_linesCross 33 = .ok (.getfield 19, 3) := by decide +kernel
theorem dX6_linesCross_36 : decode cX6_linesCross 36 = .ok (.getfield 134, 3) := by decide +kernel
theorem dX6_linesCross_39 : decode cX6_linesCross 39 = .ok (.iload_n 2, 1) := by decide +kernel
theorem dX6_linesCross_40 : decode cX6_linesCross 40 = .ok (.iaload, 1) := by decide +kernel
theorem dX6_linesCross_41 : decode cX6_linesCross 41 = .ok (.istore 6, 2) := by decide +kernel
theorem dX6_linesCross_43 : decode cX6_linesCross 43 = .ok (.iload_n 3, 1) := by decide +kernel
theorem dX6_linesCross_44 : decode cX6_linesCross 44 = .ok (.iload 5, 2) := by decide +kernel
theorem dX6_linesCross_46 : decode cX6_linesCross 46 = .ok (.if_icmp .eq 23, 3) := by decide +kernel
theorem dX6_linesCross_49 : decode cX6_linesCross 49 = .ok (.iload_n 3, 1) := by decide +kernel
theorem dX6_linesCross_50 : decode cX6_linesCross 50 = .ok (.iload 6, 2) := by decide +kernel
theorem dX6_linesCross_52 : decode cX6_linesCross 52 = .ok (.if_icmp .eq 17, 3) := by decide +kernel
theorem dX6_linesCross_55 : decode cX6_linesCross 55 = .ok (.iload 4, 2) := by decide +kernel
theorem dX6_linesCross_57 : decode cX6_linesCross 57 = .ok (.iload 5, 2) := by decide +kernel
theorem dX6_linesCross_59 : decode cX6_linesCross 59 = .ok (.if_icmp .eq 10, 3) := by decide +kernel
theorem dX6_linesCross_62 : decode cX6_linesCross 62 = .ok (.iload 4, 2) := by decide +kernel
theorem dX6_linesCross_64 : decode cX6_linesCross 64 = .ok (.iload 6, 2) := by decide +kernel
theorem dX6_linesCross_66 : decode cX6_linesCross 66 = .ok (.if_icmp .ne 7, 3) := by decide +kernel
theorem dX6_linesCross_69 : decode cX6_linesCross 69 = .ok (.iconst 1, 1) := by decide +kernel
theorem dX6_linesCross_70 : decode cX6_linesCross 70 = .ok (.goto 4, 3) := by decide +kernel
theorem dX6_linesCross_73 : decode cX6_linesCross 73 = .ok (.iconst 0, 1) := by decide +kernel
theorem dX6_linesCross_74 : decode cX6_linesCross 74 = .ok (.istore 7, 2) := by decide +kernel
theorem dX6_linesCross_76 : decode cX6_linesCross 76 = .ok (.iload 7, 2) := by decide +kernel
theorem dX6_linesCross_78 : decode cX6_linesCross 78 = .ok (.ifCond .ne 24, 3) := by decide +kernel
theorem dX6_linesCross_81 : decode cX6_linesCross 81 = .ok (.aload_n 0, 1) := by decide +kernel
theorem dX6_linesCross_82 : decode cX6_linesCross 82 = .ok (.getfield 12, 3) := by decide +kernel
theorem dX6_linesCross_85 : decode cX6_linesCross 85 = .ok (.iload_n 3, 1) := by decide +kernel
theorem dX6_linesCross_86 : decode cX6_linesCross 86 = .ok (.iload 4, 2) := by decide +kernel
theorem dX6_linesCross_88 : decode cX6_linesCross 88 = .ok (.iload 5, 2) := by decide +kernel
theorem dX6_linesCross_90 : decode cX6_linesCross 90 = .ok (.iload 6, 2) := by decide +kernel
theorem dX6_linesCross_92 : decode cX6_linesCross 92 = .ok (.invokevirtual 250, 3) := by decide +kernel
theorem dX6_linesCross_95 : decode cX6_linesCross 95 = .ok (.ifCond .eq 7, 3) := by decide +kernel
theorem dX6_linesCross_98 : decode cX6_linesCross 98 = .ok (.iconst 1, 1) := by decide +kernel
theorem dX6_linesCross_99 : decode cX6_linesCross 99 = .ok (.goto 4, 3) := by decide +kernel
theorem dX6_linesCross_102 : decode cX6_linesCross 102 = .ok (.iconst 0, 1) := by decide +kernel
theorem dX6_linesCross_103 : decode cX6_linesCross 103 = .ok (.ireturn, 1) := by decide +kernel
theorem dX6_skyTurn_0 : decode cX6_skyTurn 0 = .ok (.bipush 15, 2) := by decide +kernel
theorem dX6_skyTurn_2 : decode cX6_skyTurn 2 = .ok (.iload_n 1, 1) := by decide +kernel
theorem dX6_skyTurn_3 : decode cX6_skyTurn 3 = .ok (.imul, 1) := by decide +kernel
theorem dX6_skyTurn_4 : decode cX6_skyTurn 4 = .ok (.iload_n 0, 1) := by decide +kernel
theorem dX6_skyTurn_5 : decode cX6_skyTurn 5 = .ok (.iadd, 1) := by decide +kernel
theorem dX6_skyTurn_6 : decode cX6_skyTurn 6 = .ok (.ireturn, 1) := by decide +kernel
theorem dX6_figureIsUp_0 : decode cX6_figureIsUp 0 = .ok (.aload_n 0, 1) := by decide +kernel
theorem dX6_figureIsUp_1 : decode cX6_figureIsUp 1 = .ok (.iload_n 1, 1) := by decide +kernel
theorem dX6_figureIsUp_2 : decode cX6_figureIsUp 2 = .ok (.iload_n 2, 1) := by decide +kernel
theorem dX6_figureIsUp_3 : decode cX6_figureIsUp 3 = .ok (.iload_n 3, 1) := by decide +kernel
theorem dX6_figureIsUp_4 : decode cX6_figureIsUp 4 = .ok (.invokevirtual 198, 3) := by decide +kernel
theorem dX6_figureIsUp_7 : decode cX6_figureIsUp 7 = .ok (.ifCond .le 7, 3) := by decide +kernel
theorem dX6_figureIsUp_10 : decode cX6_figureIsUp 10 = .ok (.iconst 1, 1) := by decide +kernel
theorem dX6_figureIsUp_11 : decode cX6_figureIsUp 11 = .ok (.goto 4, 3) := by decide +kernel
theorem dX6_figureIsUp_14 : decode cX6_figureIsUp 14 = .ok (.iconst 0, 1) := by decide +kernel
theorem dX6_figureIsUp_15 : decode cX6_figureIsUp 15 = .ok (.ireturn, 1) := by decide +kernel
theorem dX6_lowestHeight_0 : decode cX6_lowestHeight 0 = .ok (.aload_n 0, 1) := by decide +kernel
theorem dX6_lowestHeight_1 : decode cX6_lowestHeight 1 = .ok (.getfield 19, 3) := by decide +kernel
theorem dX6_lowestHeight_4 : decode cX6_lowestHeight 4 = .ok (.getfield 102, 3) := by decide +kernel
theorem dX6_lowestHeight_7 : decode cX6_lowestHeight 7 = .ok (.iload_n 1, 1) := by decide +kernel
theorem dX6_lowestHeight_8 : decode cX6_lowestHeight 8 = .ok (.iaload, 1) := by decide +kernel
theorem dX6_lowestHeight_9 : decode cX6_lowestHeight 9 = .ok (.istore 4, 2) := by decide +kernel
theorem dX6_lowestHeight_11 : decode cX6_lowestHeight 11 = .ok (.iload 4, 2) := by decide +kernel
theorem dX6_lowestHeight_13 : decode cX6_lowestHeight 13 = .ok (.ifCond .ne 7, 3) := by decide +kernel
theorem dX6_lowestHeight_16 : decode cX6_lowestHeight 16 = .ok (.iconst 0, 1) := by decide +kernel
theorem dX6_lowestHeight_17 : decode cX6_lowestHeight 17 = .ok (.goto 6, 3) := by decide +kernel
theorem dX6_lowestHeight_20 : decode cX6_lowestHeight 20 = .ok (.sipush 1000, 3) := by decide +kernel
theorem dX6_lowestHeight_23 : decode cX6_lowestHeight 23 = .ok (.istore 5, 2) := by decide +kernel
theorem dX6_lowestHeight_25 : decode cX6_lowestHeight 25 = .ok (.iconst 0, 1) := by decide +kernel
theorem dX6_lowestHeight_26 : decode cX6_lowestHeight 26 = .ok (.istore 6, 2) := by decide +kernel
theorem dX6_lowestHeight_28 : decode cX6_lowestHeight 28 = .ok (.iload 6, 2) := by decide +kernel
theorem dX6_lowestHeight_30 : decode cX6_lowestHeight 30 = .ok (.iload 4, 2) := by decide +kernel
theorem dX6_lowestHeight_32 : decode cX6_lowestHeight 32 = .ok (.if_icmp .ge 69, 3) := by decide +kernel
theorem dX6_lowestHeight_35 : decode cX6_lowestHeight 35 = .ok (.iload_n 1, 1) := by decide +kernel
theorem dX6_lowestHeight_36 : decode cX6_lowestHeight 36 = .ok (.iload 6, 2) := by decide +kernel
theorem dX6_lowestHeight_38 : decode cX6_lowestHeight 38 = .ok (.invokestatic 128, 3) := by decide +kernel
theorem dX6_lowestHeight_41 : decode cX6_lowestHeight 41 = .ok (.istore 7, 2) := by decide +kernel
theorem dX6_lowestHeight_43 : decode cX6_lowestHeight 43 = .ok (.iload 5, 2) := by decide +kernel
theorem dX6_lowestHeight_45 : decode cX6_lowestHeight 45 = .ok (.aload_n 0, 1) := by decide +kernel
theorem dX6_lowestHeight_46 : decode cX6_lowestHeight 46 = .ok (.getfield 12, 3) := by decide +kernel
theorem dX6_lowestHeight_49 : decode cX6_lowestHeight 49 = .ok (.aload_n 0, 1) := by decide +kernel
theorem dX6_lowestHeight_50 : decode cX6_lowestHeight 50 = .ok (.getfield 19, 3) := by decide +kernel
theorem dX6_lowestHeight_53 : decode cX6_lowestHeight 53 = .ok (.getfield 131, 3) := by decide +kernel
theorem dX6_lowestHeight_56 : decode cX6_lowestHeight 56 = .ok (.iload 7, 2) := by decide +kernel
theorem dX6_lowestHeight_58 : decode cX6_lowestHeight 58 = .ok (.iaload, 1) := by decide +kernel
theorem dX6_lowestHeight_59 : decode cX6_lowestHeight 59 = .ok (.iload_n 2, 1) := by decide +kernel
theorem dX6_lowestHeight_60 : decode cX6_lowestHeight 60 = .ok (.iload_n 3, 1) := by decide +kernel
theorem dX6_lowestHeight_61 : decode cX6_lowestHeight 61 = .ok (.invokevirtual 188, 3) := by decide +kernel
theorem dX6_lowestHeight_64 : decode cX6_lowestHeight 64 = .ok (.invokestatic 254, 3) := by decide +kernel
theorem dX6_lowestHeight_67 : decode cX6_lowestHeight 67 = .ok (.istore 5, 2) := by decide +kernel
theorem dX6_lowestHeight_69 : decode cX6_lowestHeight 69 = .ok (.iload 5, 2) := by decide +kernel
theorem dX6_lowestHeight_71 : decode cX6_lowestHeight 71 = .ok (.aload_n 0, 1) := by decide +kernel
theorem dX6_lowestHeight_72 : decode cX6_lowestHeight 72 = .ok (.getfield 12, 3) := by decide +kernel
theorem dX6_lowestHeight_75 : decode cX6_lowestHeight 75 = .ok (.aload_n 0, 1) := by decide +kernel
theorem dX6_lowestHeight_76 : decode cX6_lowestHeight 76 = .ok (.getfield 19, 3) := by decide +kernel
theorem dX6_lowestHeight_79 : decode cX6_lowestHeight 79 = .ok (.getfield 134, 3) := by decide +kernel
theorem dX6_lowestHeight_82 : decode cX6_lowestHeight 82 = .ok (.iload 7, 2) := by decide +kernel
theorem dX6_lowestHeight_84 : decode cX6_lowestHeight 84 = .ok (.iaload, 1) := by decide +kernel
theorem dX6_lowestHeight_85 : decode cX6_lowestHeight 85 = .ok (.iload_n 2, 1) := by decide +kernel
theorem dX6_lowestHeight_86 : decode cX6_lowestHeight 86 = .ok (.iload_n 3, 1) := by decide +kernel
theorem dX6_lowestHeight_87 : decode cX6_lowestHeight 87 = .ok (.invokevirtual 188, 3) := by decide +kernel
theorem dX6_lowestHeight_90 : decode cX6_lowestHeight 90 = .ok (.invokestatic 254, 3) := by decide +kernel
theorem dX6_lowestHeight_93 : decode cX6_lowestHeight 93 = .ok (.istore 5, 2) := by decide +kernel
theorem dX6_lowestHeight_95 : decode cX6_lowestHeight 95 = .ok (.iinc 6 1, 3) := by decide +kernel
theorem dX6_lowestHeight_98 : decode cX6_lowestHeight 98 = .ok (.goto (-70), 3) := by decide +kernel
theorem dX6_lowestHeight_101 : decode cX6_lowestHeight 101 = .ok (.iload 5, 2) := by decide +kernel
theorem dX6_lowestHeight_103 : decode cX6_lowestHeight 103 = .ok (.ireturn, 1) := by decide +kernel
theorem dX6_hoursOfStar_0 : decode cX6_hoursOfStar 0 = .ok (.iconst 0, 1) := by decide +kernel
theorem dX6_hoursOfStar_1 : decode cX6_hoursOfStar 1 = .ok (.istore 4, 2) := by decide +kernel
theorem dX6_hoursOfStar_3 : decode cX6_hoursOfStar 3 = .ok (.iconst 0, 1) := by decide +kernel
theorem dX6_hoursOfStar_4 : decode cX6_hoursOfStar 4 = .ok (.istore 5, 2) := by decide +kernel
theorem dX6_hoursOfStar_6 : decode cX6_hoursOfStar 6 = .ok (.iload 5, 2) := by decide +kernel
theorem dX6_hoursOfStar_8 : decode cX6_hoursOfStar 8 = .ok (.bipush 24, 2) := by decide +kernel
theorem dX6_hoursOfStar_10 : decode cX6_hoursOfStar 10 = .ok (.if_icmp .ge 36, 3) := by decide +kernel
theorem dX6_hoursOfStar_13 : decode cX6_hoursOfStar 13 = .ok (.aload_n 0, 1) := by decide +kernel
theorem dX6_hoursOfStar_14 : decode cX6_hoursOfStar 14 = .ok (.getfield 12, 3) := by decide +kernel
theorem dX6_hoursOfStar_17 : decode cX6_hoursOfStar 17 = .ok (.iload_n 1, 1) := by decide +kernel
theorem dX6_hoursOfStar_18 : decode cX6_hoursOfStar 18 = .ok (.iload_n 2, 1) := by decide +kernel
theorem dX6_hoursOfStar_19 : decode cX6_hoursOfStar 19 = .ok (.iload_n 3, 1) := by decide +kernel
theorem dX6_hoursOfStar_20 : decode cX6_hoursOfStar 20 = .ok (.iload 5, 2) := by decide +kernel
theorem dX6_hoursOfStar_22 : decode cX6_hoursOfStar 22 = .ok (.invokestatic 185, 3) := by decide +kernel
theorem dX6_hoursOfStar_25 : decode cX6_hoursOfStar 25 = .ok (.invokevirtual 188, 3) := by decide +kernel
theorem dX6_hoursOfStar_28 : decode cX6_hoursOfStar 28 = .ok (.ifCond .le 12, 3) := by decide +kernel
theorem dX6_hoursOfStar_31 : decode cX6_hoursOfStar 31 = .ok (.iload 4, 2) := by decide +kernel
theorem dX6_hoursOfStar_33 : decode cX6_hoursOfStar 33 = .ok (.iconst 1, 1) := by decide +kernel
theorem dX6_hoursOfStar_34 : decode cX6_hoursOfStar 34 = .ok (.iload 5, 2) := by decide +kernel
theorem dX6_hoursOfStar_36 : decode cX6_hoursOfStar 36 = .ok (.ishl, 1) := by decide +kernel
theorem dX6_hoursOfStar_37 : decode cX6_hoursOfStar 37 = .ok (.ior, 1) := by decide +kernel
theorem dX6_hoursOfStar_38 : decode cX6_hoursOfStar 38 = .ok (.istore 4, 2) := by decide +kernel
theorem dX6_hoursOfStar_40 : decode cX6_hoursOfStar 40 = .ok (.iinc 5 1, 3) := by decide +kernel
theorem dX6_hoursOfStar_43 : decode cX6_hoursOfStar 43 = .ok (.goto (-37), 3) := by decide +kernel
theorem dX6_hoursOfStar_46 : decode cX6_hoursOfStar 46 = .ok (.iload 4, 2) := by decide +kernel
theorem dX6_hoursOfStar_48 : decode cX6_hoursOfStar 48 = .ok (.ireturn, 1) := by decide +kernel
theorem dX6_showIsWrong_0 : decode cX6_showIsWrong 0 = .ok (.aload_n 0, 1) := by decide +kernel
theorem dX6_showIsWrong_1 : decode cX6_showIsWrong 1 = .ok (.getfield 33, 3) := by decide +kernel
theorem dX6_showIsWrong_4 : decode cX6_showIsWrong 4 = .ok (.getfield 259, 3) := by decide +kernel
theorem dX6_showIsWrong_7 : decode cX6_showIsWrong 7 = .ok (.iload_n 1, 1) := by decide +kernel
theorem dX6_showIsWrong_8 : decode cX6_showIsWrong 8 = .ok (.iaload, 1) := by decide +kernel
theorem dX6_showIsWrong_9 : decode cX6_showIsWrong 9 = .ok (.istore_n 2, 1) := by decide +kernel
theorem dX6_showIsWrong_10 : decode cX6_showIsWrong 10 = .ok (.aload_n 0, 1) := by decide +kernel
theorem dX6_showIsWrong_11 : decode cX6_showIsWrong 11 = .ok (.getfield 26, 3) := by decide +kernel
theorem dX6_showIsWrong_14 : decode cX6_showIsWrong 14 = .ok (.getfield 173, 3) := by decide +kernel
theorem dX6_showIsWrong_17 : decode cX6_showIsWrong 17 = .ok (.iload_n 2, 1) := by decide +kernel
theorem dX6_showIsWrong_18 : decode cX6_showIsWrong 18 = .ok (.iaload, 1) := by decide +kernel
theorem dX6_showIsWrong_19 : decode cX6_showIsWrong 19 = .ok (.aload_n 0, 1) := by decide +kernel
theorem dX6_showIsWrong_20 : decode cX6_showIsWrong 20 = .ok (.getfield 33, 3) := by decide +kernel
theorem dX6_showIsWrong_23 : decode cX6_showIsWrong 23 = .ok (.getfield 262, 3) := by decide +kernel
theorem dX6_showIsWrong_26 : decode cX6_showIsWrong 26 = .ok (.iload_n 1, 1) := by decide +kernel
theorem dX6_showIsWrong_27 : decode cX6_showIsWrong 27 = .ok (.iaload, 1) := by decide +kernel
theorem dX6_showIsWrong_28 : decode cX6_showIsWrong 28 = .ok (.if_icmp .ne 29, 3) := by decide +kernel
theorem dX6_showIsWrong_31 : decode cX6_showIsWrong 31 = .ok (.aload_n 0, 1) := by decide +kernel
theorem dX6_showIsWrong_32 : decode cX6_showIsWrong 32 = .ok (.iload_n 2, 1) := by decide +kernel
theorem dX6_showIsWrong_33 : decode cX6_showIsWrong 33 = .ok (.aload_n 0, 1) := by decide +kernel
theorem dX6_showIsWrong_34 : decode cX6_showIsWrong 34 = .ok (.getfield 33, 3) := by decide +kernel
theorem dX6_showIsWrong_37 : decode cX6_showIsWrong 37 = .ok (.getfield 265, 3) := by decide +kernel
theorem dX6_showIsWrong_40 : decode cX6_showIsWrong 40 = .ok (.iload_n 1, 1) := by decide +kernel
theorem dX6_showIsWrong_41 : decode cX6_showIsWrong 41 = .ok (.iaload, 1) := by decide +kernel
theorem dX6_showIsWrong_42 : decode cX6_showIsWrong 42 = .ok (.aload_n 0, 1) := by decide +kernel
theorem dX6_showIsWrong_43 : decode cX6_showIsWrong 43 = .ok (.getfield 33, 3) := by decide +kernel
theorem dX6_showIsWrong_46 : decode cX6_showIsWrong 46 = .ok (.getfield 268, 3) := by decide +kernel
theorem dX6_showIsWrong_49 : decode cX6_showIsWrong 49 = .ok (.iload_n 1, 1) := by decide +kernel
theorem dX6_showIsWrong_50 : decode cX6_showIsWrong 50 = .ok (.iaload, 1) := by decide +kernel
theorem dX6_showIsWrong_51 : decode cX6_showIsWrong 51 = .ok (.invokevirtual 198, 3) := by decide +kernel
theorem dX6_showIsWrong_54 : decode cX6_showIsWrong 54 = .ok (.ifCond .gt 7, 3) := by decide +kernel
theorem dX6_showIsWrong_57 : decode cX6_showIsWrong 57 = .ok (.iconst 1, 1) := by decide +kernel
theorem dX6_showIsWrong_58 : decode cX6_showIsWrong 58 = .ok (.goto 4, 3) := by decide +kernel
theorem dX6_showIsWrong_61 : decode cX6_showIsWrong 61 = .ok (.iconst 0, 1) := by decide +kernel
theorem dX6_showIsWrong_62 : decode cX6_showIsWrong 62 = .ok (.ireturn, 1) := by decide +kernel
theorem dX6_countWrongShows_0 : decode cX6_countWrongShows 0 = .ok (.iconst 0, 1) := by decide +kernel
theorem dX6_countWrongShows_1 : decode cX6_countWrongShows 1 = .ok (.istore_n 1, 1) := by decide +kernel
theorem dX6_countWrongShows_2 : decode cX6_countWrongShows 2 = .ok (.iconst 0, 1) := by decide +kernel
theorem dX6_countWrongShows_3 : decode cX6_countWrongShows 3 = .ok (.istore_n 2, 1) := by decide +kernel
theorem dX6_countWrongShows_4 : decode cX6_countWrongShows 4 = .ok (.iload_n 2, 1) := by decide +kernel
theorem dX6_countWrongShows_5 : decode cX6_countWrongShows 5 = .ok (.aload_n 0, 1) := by decide +kernel
theorem dX6_countWrongShows_6 : decode cX6_countWrongShows 6 = .ok (.getfield 33, 3) := by decide +kernel
theorem dX6_countWrongShows_9 : decode cX6_countWrongShows 9 = .ok (.getfield 205, 3) := by decide +kernel
theorem dX6_countWrongShows_12 : decode cX6_countWrongShows 12 = .ok (.if_icmp .ge 20, 3) := by decide +kernel
theorem dX6_countWrongShows_15 : decode cX6_countWrongShows 15 = .ok (.aload_n 0, 1) := by decide +kernel
theorem dX6_countWrongShows_16 : decode cX6_countWrongShows 16 = .ok (.iload_n 2, 1) := by decide +kernel
theorem dX6_countWrongShows_17 : decode cX6_countWrongShows 17 = .ok (.invokevirtual 215, 3) := by decide +kernel
theorem dX6_countWrongShows_20 : decode cX6_countWrongShows 20 = .ok (.ifCond .eq 6, 3) := by decide +kernel
theorem dX6_countWrongShows_23 : decode cX6_countWrongShows 23 = .ok (.iinc 1 1, 3) := by decide +kernel
theorem dX6_countWrongShows_26 : decode cX6_countWrongShows 26 = .ok (.iinc 2 1, 3) := by decide +kernel
theorem dX6_countWrongShows_29 : decode cX6_countWrongShows 29 = .ok (.goto (-25), 3) := by decide +kernel
theorem dX6_countWrongShows_32 : decode cX6_countWrongShows 32 = .ok (.iload_n 1, 1) := by decide +kernel
theorem dX6_countWrongShows_33 : decode cX6_countWrongShows 33 = .ok (.ireturn, 1) := by decide +kernel
theorem dX7_init_0 : decode cX7_init 0 = .ok (.aload_n 0, 1) := by decide +kernel
theorem dX7_init_1 : decode cX7_init 1 = .ok (.invokespecial 1, 3) := by decide +kernel
theorem dX7_init_4 : decode cX7_init 4 = .ok (.aload_n 0, 1) := by decide +kernel
theorem dX7_init_5 : decode cX7_init 5 = .ok (.bipush 24, 2) := by decide +kernel
theorem dX7_init_7 : decode cX7_init 7 = .ok (.newarray .int, 2) := by decide +kernel
theorem dX7_init_9 : decode cX7_init 9 = .ok (.putfield 7, 3) := by decide +kernel
theorem dX7_init_12 : decode cX7_init 12 = .ok (.aload_n 0, 1) := by decide +kernel
theorem dX7_init_13 : decode cX7_init 13 = .ok (.bipush 24, 2) := by decide +kernel
theorem dX7_init_15 : decode cX7_init 15 = .ok (.newarray .int, 2) := by decide +kernel
theorem dX7_init_17 : decode cX7_init 17 = .ok (.putfield 13, 3) := by decide +kernel
theorem dX7_init_20 : decode cX7_init 20 = .ok (.aload_n 0, 1) := by decide +kernel
theorem dX7_init_21 : decode cX7_init 21 = .ok (.bipush 80, 2) := by decide +kernel
theorem dX7_init_23 : decode cX7_init 23 = .ok (.newarray .int, 2) := by decide +kernel
theorem dX7_init_25 : decode cX7_init 25 = .ok (.putfield 16, 3) := by decide +kernel
theorem dX7_init_28 : decode cX7_init 28 = .ok (.aload_n 0, 1) := by decide +kernel
theorem dX7_init_29 : decode cX7_init 29 = .ok (.bipush 80, 2) := by decide +kernel
theorem dX7_init_31 : decode cX7_init 31 = .ok (.newarray .int, 2) := by decide +kernel
theorem dX7_init_33 : decode cX7_init 33 = .ok (.putfield 19, 3) := by decide +kernel
theorem dX7_init_36 : decode cX7_init 36 = .ok (.aload_n 0, 1) := by decide +kernel
theorem dX7_init_37 : decode cX7_init 37 = .ok (.bipush 8, 2) := by decide +kernel
theorem dX7_init_39 : decode cX7_init 39 = .ok (.newarray .int, 2) := by decide +kernel
theorem dX7_init_41 : decode cX7_init 41 = .ok (.putfield 22, 3) := by decide +kernel
theorem dX7_init_44 : decode cX7_init 44 = .ok (.aload_n 0, 1) := by decide +kernel
theorem dX7_init_45 : decode cX7_init 45 = .ok (.bipush 48, 2) := by decide +kernel
theorem dX7_init_47 : decode cX7_init 47 = .ok (.newarray .int, 2) := by decide +kernel
theorem dX7_init_49 : decode cX7_init 49 = .ok (.putfield 25, 3) := by decide +kernel
theorem dX7_init_52 : decode cX7_init 52 = .ok (.aload_n 0, 1) := by decide +kernel
theorem dX7_init_53 : decode cX7_init 53 = .ok (.bipush 8, 2) := by decide +kernel
theorem dX7_init_55 : decode cX7_init 55 = .ok (.newarray .int, 2) := by decide +kernel
theorem dX7_init_57 : decode cX7_init 57 = .ok (.putfield 28, 3) := by decide +kernel
theorem dX7_init_60 : decode cX7_init 60 = .ok (.aload_n 0, 1) := by decide +kernel
theorem dX7_init_61 : decode cX7_init 61 = .ok (.bipush 60, 2) := by decide +kernel
theorem dX7_init_63 : decode cX7_init 63 = .ok (.newarray .int, 2) := by decide +kernel
theorem dX7_init_65 : decode cX7_init 65 = .ok (.putfield 31, 3) := by decide +kernel
theorem dX7_init_68 : decode cX7_init 68 = .ok (.aload_n 0, 1) := by decide +kernel
theorem dX7_init_69 : decode cX7_init 69 = .ok (.sipush 150, 3) := by decide +kernel
theorem dX7_init_72 : decode cX7_init 72 = .ok (.newarray .int, 2) := by decide +kernel
theorem dX7_init_74 : decode cX7_init 74 = .ok (.putfield 34, 3) := by decide +kernel
theorem dX7_init_77 : decode cX7_init 77 = .ok (.return_, 1) := by decide +kernel
theorem dX7_thrown_0 : decode cX7_thrown 0 = .ok (.aload_n 0, 1) := by decide +kernel
theorem dX7_thrown_1 : decode cX7_thrown 1 = .ok (.getfield 37, 3) := by decide +kernel
theorem dX7_thrown_4 : decode cX7_thrown 4 = .ok (.ireturn, 1) := by decide +kernel
theorem dX7_isFine_0 : decode cX7_isFine 0 = .ok (.aload_n 0, 1) := by decide +kernel
theorem dX7_isFine_1 : decode cX7_isFine 1 = .ok (.iload_n 1, 1) := by decide +kernel
theorem dX7_isFine_2 : decode cX7_isFine 2 = .ok (.putfield 37, 3) := by decide +kernel
theorem dX7_isFine_5 : decode cX7_isFine 5 = .ok (.iload_n 1, 1) := by decide +kernel
theorem dX7_isFine_6 : decode cX7_isFine 6 = .ok (.ifCond .ne 7, 3) := by decide +kernel
theorem dX7_isFine_9 : decode cX7_isFine 9 = .ok (.iconst 1, 1) := by decide +kernel
theorem dX7_isFine_10 : decode cX7_isFine 10 = .ok (.goto 4, 3) := by decide +kernel
theorem dX7_isFine_13 : decode cX7_isFine 13 = .ok (.iconst 0, 1) := by decide +kernel
theorem dX7_isFine_14 : decode cX7_isFine 14 = .ok (.ireturn, 1) := by decide +kernel
theorem dX7_isIn_0 : decode cX7_isIn 0 = .ok (.iload_n 0, 1) := by decide +kernel
theorem dX7_isIn_1 : decode cX7_isIn 1 = .ok (.iload_n 1, 1) := by decide +kernel
theorem dX7_isIn_2 : decode cX7_isIn 2 = .ok (.if_icmp .lt 12, 3) := by decide +kernel
theorem dX7_isIn_5 : decode cX7_isIn 5 = .ok (.iload_n 0, 1) := by decide +kernel
theorem dX7_isIn_6 : decode cX7_isIn 6 = .ok (.iload_n 2, 1) := by decide +kernel
theorem dX7_isIn_7 : decode cX7_isIn 7 = .ok (.if_icmp .gt 7, 3) := by decide +kernel
theorem dX7_isIn_10 : decode cX7_isIn 10 = .ok (.iconst 1, 1) := by decide +kernel
theorem dX7_isIn_11 : decode cX7_isIn 11 = .ok (.goto 4, 3) := by decide +kernel
theorem dX7_isIn_14 : decode cX7_isIn 14 = .ok (.iconst 0, 1) := by decide +kernel
theorem dX7_isIn_15 : decode cX7_isIn 15 = .ok (.ireturn, 1) := by decide +kernel
theorem dX7_isStar_0 : decode cX7_isStar 0 = .ok (.iload_n 1, 1) := by decide +kernel
theorem dX7_isStar_1 : decode cX7_isStar 1 = .ok (.iconst 0, 1) := by decide +kernel
theorem dX7_isStar_2 : decode cX7_isStar 2 = .ok (.aload_n 0, 1) := by decide +kernel
theorem dX7_isStar_3 : decode cX7_isStar 3 = .ok (.getfield 41, 3) := by decide +kernel
theorem dX7_isStar_6 : decode cX7_isStar 6 = .ok (.iconst 1, 1) := by decide +kernel
theorem dX7_isStar_7 : decode cX7_isStar 7 = .ok (.isub, 1) := by decide +kernel
theorem dX7_isStar_8 : decode cX7_isStar 8 = .ok (.invokestatic 44, 3) := by decide +kernel
theorem dX7_isStar_11 : decode cX7_isStar 11 = .ok (.ireturn, 1) := by decide +kernel
theorem dX7_isFigure_0 : decode cX7_isFigure 0 = .ok (.iload_n 1, 1) := by decide +kernel
theorem dX7_isFigure_1 : decode cX7_isFigure 1 = .ok (.iconst 0, 1) := by decide +kernel
theorem dX7_isFigure_2 : decode cX7_isFigure 2 = .ok (.aload_n 0, 1) := by decide +kernel
theorem dX7_isFigure_3 : decode cX7_isFigure 3 = .ok (.getfield 48, 3) := by decide +kernel
theorem dX7_isFigure_6 : decode cX7_isFigure 6 = .ok (.iconst 1, 1) := by decide +kernel
theorem dX7_isFigure_7 : decode cX7_isFigure 7 = .ok (.isub, 1) := by decide +kernel
theorem dX7_isFigure_8 : decode cX7_isFigure 8 = .ok (.invokestatic 44, 3) := by decide +kernel
theorem dX7_isFigure_11 : decode cX7_isFigure 11 = .ok (.ireturn, 1) := by decide +kernel
theorem dX7_isPlace_0 : decode cX7_isPlace 0 = .ok (.iload_n 0, 1) := by decide +kernel
theorem dX7_isPlace_1 : decode cX7_isPlace 1 = .ok (.iconst 0, 1) := by decide +kernel
theorem dX7_isPlace_2 : decode cX7_isPlace 2 = .ok (.sipush 359, 3) := by decide +kernel
theorem dX7_isPlace_5 : decode cX7_isPlace 5 = .ok (.invokestatic 44, 3) := by decide +kernel
theorem dX7_isPlace_8 : decode cX7_isPlace 8 = .ok (.ifCond .eq 18, 3) := by decide +kernel
theorem dX7_isPlace_11 : decode cX7_isPlace 11 = .ok (.iload_n 1, 1) := by decide +kernel
theorem dX7_isPlace_12 : decode cX7_isPlace 12 = .ok (.bipush (-90), 2) := by decide +kernel
theorem dX7_isPlace_14 : decode cX7_isPlace 14 = .ok (.bipush 90, 2) := by decide +kernel
theorem dX7_isPlace_16 : decode cX7_isPlace 16 = .ok (.invokestatic 44, 3) := by decide +kernel
theorem dX7_isPlace_19 : decode cX7_isPlace 19 = .ok (.ifCond .eq 7, 3) := by decide +kernel
theorem dX7_isPlace_22 : decode cX7_isPlace 22 = .ok (.iconst 1, 1) := by decide +kernel
theorem dX7_isPlace_23 : decode cX7_isPlace 23 = .ok (.goto 4, 3) := by decide +kernel
theorem dX7_isPlace_26 : decode cX7_isPlace 26 = .ok (.iconst 0, 1) := by decide +kernel
theorem dX7_isPlace_27 : decode cX7_isPlace 27 = .ok (.ireturn, 1) := by decide +kernel
theorem dX7_addStar_0 : decode cX7_addStar 0 = .ok (.aload_n 0, 1) := by decide +kernel
theorem dX7_addStar_1 : decode cX7_addStar 1 = .ok (.iload_n 1, 1) := by decide +kernel
theorem dX7_addStar_2 : decode cX7_addStar 2 = .ok (.iload_n 2, 1) := by decide +kernel
theorem dX7_addStar_3 : decode cX7_addStar 3 = .ok (.invokestatic 51, 3) := by decide +kernel
theorem dX7_addStar_6 : decode cX7_addStar 6 = .ok (.ifCond .ne 7, 3) := by decide +kernel
theorem dX7_addStar_9 : decode cX7_addStar 9 = .ok (.iconst 1, 1) := by decide +kernel
theorem dX7_addStar_10 : decode cX7_addStar 10 = .ok (.goto 17, 3) := by decide +kernel
theorem dX7_addStar_13 : decode cX7_addStar 13 = .ok (.aload_n 0, 1) := by decide +kernel
theorem dX7_addStar_14 : decode cX7_addStar 14 = .ok (.getfield 41, 3) := by decide +kernel
theorem dX7_addStar_17 : decode cX7_addStar 17 = .ok (.bipush 24, 2) := by decide +kernel
theorem dX7_addStar_19 : decode cX7_addStar 19 = .ok (.if_icmp .ne 7, 3) := by decide +kernel
theorem dX7_addStar_22 : decode cX7_addStar 22 = .ok (.iconst 2, 1) := by decide +kernel
theorem dX7_addStar_23 : decode cX7_addStar 23 = .ok (.goto 4, 3) := by decide +kernel
theorem dX7_addStar_26 : decode cX7_addStar 26 = .ok (.iconst 0, 1) := by decide +kernel
theorem dX7_addStar_27 : decode cX7_addStar 27 = .ok (.invokevirtual 55, 3) := by decide +kernel
theorem dX7_addStar_30 : decode cX7_addStar 30 = .ok (.ifCond .ne 5, 3) := by decide +kernel
theorem dX7_addStar_33 : decode cX7_addStar 33 = .ok (.iconst 0, 1) := by decide +kernel
theorem dX7_addStar_34 : decode cX7_addStar 34 = .ok (.ireturn, 1) := by decide +kernel
theorem dX7_addStar_35 : decode cX7_addStar 35 = .ok (.aload_n 0, 1) := by decide +kernel
theorem dX7_addStar_36 : decode cX7_addStar 36 = .ok (.getfield 7, 3) := by decide +kernel
theorem dX7_addStar_39 : decode cX7_addStar 39 = .ok (.aload_n 0, 1) := by decide +kernel
theorem dX7_addStar_40 : decode cX7_addStar 40 = .ok (.getfield 41, 3) := by decide +kernel
theorem dX7_addStar_43 : decode cX7_addStar 43 = .ok (.iload_n 1, 1) := by decide +kernel
theorem dX7_addStar_44 : decode cX7_addStar 44 = .ok (.iastore, 1) := by decide +kernel
theorem dX7_addStar_45 : decode cX7_addStar 45 = .ok (.aload_n 0, 1) := by decide +kernel
theorem dX7_addStar_46 : decode cX7_addStar 46 = .ok (.getfield 13, 3) := by decide +kernel
theorem dX7_addStar_49 : decode cX7_addStar 49 = .ok (.aload_n 0, 1) := by decide +kernel
theorem dX7_addStar_50 : decode cX7_addStar 50 = .ok (.getfield 41, 3) := by decide +kernel
theorem dX7_addStar_53 : decode cX7_addStar 53 = .ok (.iload_n 2, 1) := by decide +kernel
theorem dX7_addStar_54 : decode cX7_addStar 54 = .ok (.iastore, 1) := by decide +kernel
theorem dX7_addStar_55 : decode cX7_addStar 55 = .ok (.aload_n 0, 1) := by decide +kernel
theorem dX7_addStar_56 : decode cX7_addStar 56 = .ok (.dup, 1) := by decide +kernel
theorem dX7_addStar_57 : decode cX7_addStar 57 = .ok (.getfield 41, 3) := by decide +kernel
theorem dX7_addStar_60 : decode cX7_addStar 60 = .ok (.iconst 1, 1) := by decide +kernel
theorem dX7_addStar_61 : decode cX7_addStar 61 = .ok (.iadd, 1) := by decide +kernel
theorem dX7_addStar_62 : decode cX7_addStar 62 = .ok (.putfield 41, 3) := by decide +kernel
theorem dX7_addStar_65 : decode cX7_addStar 65 = .ok (.aload_n 0, 1) := by decide +kernel
theorem dX7_addStar_66 : decode cX7_addStar 66 = .ok (.getfield 41, 3) := by decide +kernel
theorem dX7_addStar_69 : decode cX7_addStar 69 = .ok (.iconst 1, 1) := by decide +kernel
theorem dX7_addStar_70 : decode cX7_addStar 70 = .ok (.isub, 1) := by decide +kernel
theorem dX7_addStar_71 : decode cX7_addStar 71 = .ok (.ireturn, 1) := by decide +kernel
theorem dX7_notes_0 : decode cX7_notes 0 = .ok (.aload_n 0, 1) := by decide +kernel
theorem dX7_notes_1 : decode cX7_notes 1 = .ok (.getfield 59, 3) := by decide +kernel
theorem dX7_notes_4 : decode cX7_notes 4 = .ok (.bipush 30, 2) := by decide +kernel
theorem dX7_notes_6 : decode cX7_notes 6 = .ok (.if_icmp .ne 49, 3) := by decide +kernel
theorem dX7_notes_9 : decode cX7_notes 9 = .ok (.aload_n 0, 1) := by decide +kernel
theorem dX7_notes_10 : decode cX7_notes 10 = .ok (.dup, 1) := by decide +kernel
theorem dX7_notes_11 : decode cX7_notes 11 = .ok (.getfield 59, 3) := by decide +kernel
theorem dX7_notes_14 : decode cX7_notes 14 = .ok (.iconst 1, 1) := by decide +kernel
theorem dX7_notes_15 : decode cX7_notes 15 = .ok (.isub, 1) := by decide +kernel
theorem dX7_notes_16 : decode cX7_notes 16 = .ok (.putfield 59, 3) := by decide +kernel
theorem dX7_notes_19 : decode cX7_notes 19 = .ok (.iconst 0, 1) := by decide +kernel
theorem dX7_notes_20 : decode cX7_notes 20 = .ok (.istore 6, 2) := by decide +kernel
theorem dX7_notes_22 : decode cX7_notes 22 = .ok (.iload 6, 2) := by decide +kernel
theorem dX7_notes_24 : decode cX7_notes 24 = .ok (.iconst 5, 1) := by decide +kernel
theorem dX7_notes_25 : decode cX7_notes 25 = .ok (.aload_n 0, 1) := by decide +kernel
theorem dX7_notes_26 : decode cX7_notes 26 = .ok (.getfield 59, 3) := by decide +kernel
theorem dX7_notes_29 : decode cX7_notes 29 = .ok (.imul, 1) := by decide +kernel
theorem dX7_notes_30 : decode cX7_notes 30 = .ok (.if_icmp .ge 25, 3) := by decide +kernel
theorem dX7_notes_33 : decode cX7_notes 33 = .ok (.aload_n 0, 1) := by decide +kernel
theorem dX7_notes_34 : decode cX7_notes 34 = .ok (.getfield 34, 3) := by decide +kernel
theorem dX7_notes_37 : decode cX7_notes 37 = .ok (.iload 6, 2) := by decide +kernel
theorem dX7_notes_39 : decode cX7_notes 39 = .ok (.aload_n 0, 1) := by decide +kernel
theorem dX7_notes_40 : decode cX7_notes 40 = .ok (.getfield 34, 3) := by decide +kernel
theorem dX7_notes_43 : decode cX7_notes 43 = .ok (.iload 6, 2) := by decide +kernel
theorem dX7_notes_45 : decode cX7_notes 45 = .ok (.iconst 5, 1) := by decide +kernel
theorem dX7_notes_46 : decode cX7_notes 46 = .ok (.iadd, 1) := by decide +kernel
theorem dX7_notes_47 : decode cX7_notes 47 = .ok (.iaload, 1) := by decide +kernel
theorem dX7_notes_48 : decode cX7_notes 48 = .ok (.iastore, 1) := by decide +kernel
theorem dX7_notes_49 : decode cX7_notes 49 = .ok (.iinc 6 1, 3) := by decide +kernel
theorem dX7_notes_52 : decode cX7_notes 52 = .ok (.goto (-30), 3) := by decide +kernel
theorem dX7_notes_55 : decode cX7_notes 55 = .ok (.aload_n 0, 1) := by decide +kernel
theorem dX7_notes_56 : decode cX7_notes 56 = .ok (.getfield 34, 3) := by decide +kernel
theorem dX7_notes_59 : decode cX7_notes 59 = .ok (.iconst 5, 1) := by decide +kernel
theorem dX7_notes_60 : decode cX7_notes 60 = .ok (.aload_n 0, 1) := by decide +kernel
theorem dX7_notes_61 : decode cX7_notes 61 = .ok (.getfield 59, 3) := by decide +kernel
theorem dX7_notes_64 : decode cX7_notes 64 = .ok (.imul, 1) := by decide +kernel
theorem dX7_notes_65 : decode cX7_notes 65 = .ok (.iload_n 1, 1) := by decide +kernel
theorem dX7_notes_66 : decode cX7_notes 66 = .ok (.iastore, 1) := by decide +kernel
theorem dX7_notes_67 : decode cX7_notes 67 = .ok (.aload_n 0, 1) := by decide +kernel
theorem dX7_notes_68 : decode cX7_notes 68 = .ok (.getfield 34, 3) := by decide +kernel
theorem dX7_notes_71 : decode cX7_notes 71 = .ok (.iconst 5, 1) := by decide +kernel
theorem dX7_notes_72 : decode cX7_notes 72 = .ok (.aload_n 0, 1) := by decide +kernel
theorem dX7_notes_73 : decode cX7_notes 73 = .ok (.getfield 59, 3) := by decide +kernel
theorem dX7_notes_76 : decode cX7_notes 76 = .ok (.imul, 1) := by decide +kernel
theorem dX7_notes_77 : decode cX7_notes 77 = .ok (.iconst 1, 1) := by decide +kernel
theorem dX7_notes_78 : decode cX7_notes 78 = .ok (.iadd, 1) := by decide +kernel
theorem dX7_notes_79 : decode cX7_notes 79 = .ok (.iload_n 2, 1) := by decide +kernel
theorem dX7_notes_80 : decode cX7_notes 80 = .ok (.iastore, 1) := by decide +kernel
theorem dX7_notes_81 : decode cX7_notes 81 = .ok (.aload_n 0, 1) := by decide +kernel
theorem dX7_notes_82 : decode cX7_notes 82 = .ok (.getfield 34, 3) := by decide +kernel
theorem dX7_notes_85 : decode cX7_notes 85 = .ok (.iconst 5, 1) := by decide +kernel
theorem dX7_notes_86 : decode cX7_notes 86 = .ok (.aload_n 0, 1) := by decide +kernel
theorem dX7_notes_87 : decode cX7_notes 87 = .ok (.getfield 59, 3) := by decide +kernel
theorem dX7_notes_90 : decode cX7_notes 90 = .ok (.imul, 1) := by decide +kernel
theorem dX7_notes_91 : decode cX7_notes 91 = .ok (.iconst 2, 1) := by decide +kernel
theorem dX7_notes_92 : decode cX7_notes 92 = .ok (.iadd, 1) := by decide +kernel
theorem dX7_notes_93 : decode cX7_notes 93 = .ok (.iload_n 3, 1) := by decide +kernel
theorem dX7_notes_94 : decode cX7_notes 94 = .ok (.iastore, 1) := by decide +kernel
theorem dX7_notes_95 : decode cX7_notes 95 = .ok (.aload_n 0, 1) := by decide +kernel
theorem dX7_notes_96 : decode cX7_notes 96 = .ok (.getfield 34, 3) := by decide +kernel
theorem dX7_notes_99 : decode cX7_notes 99 = .ok (.iconst 5, 1) := by decide +kernel
theorem dX7_notes_100 : decode cX7_notes 100 = .ok (.aload_n 0, 1) := by decide +kernel
theorem dX7_notes_101 : decode cX7_notes 101 = .ok (.getfield 59, 3) := by decide +kernel
theorem dX7_notes_104 : decode cX7_notes 104 = .ok (.imul, 1) := by decide +kernel
theorem dX7_notes_105 : decode cX7_notes 105 = .ok (.iconst 3, 1) := by decide +kernel
theorem dX7_notes_106 : decode cX7_notes 106 = .ok (.iadd, 1) := by decide +kernel
theorem dX7_notes_107 : decode cX7_notes 107 = .ok (.iload 4, 2) := by decide +kernel
theorem dX7_notes_109 : decode cX7_notes 109 = .ok (.iastore, 1) := by decide +kernel
theorem dX7_notes_110 : decode cX7_notes 110 = .ok (.aload_n 0, 1) := by decide +kernel
theorem dX7_notes_111 : decode cX7_notes 111 = .ok (.getfield 34, 3) := by decide +kernel
theorem dX7_notes_114 : decode cX7_notes 114 = .ok (.iconst 5, 1) := by decide +kernel
theorem dX7_notes_115 : decode cX7_notes 115 = .ok (.aload_n 0, 1) := by decide +kernel
theorem dX7_notes_116 : decode cX7_notes 116 = .ok (.getfield 59, 3) := by decide +kernel
theorem dX7_notes_119 : decode cX7_notes 119 = .ok (.imul, 1) := by decide +kernel
theorem dX7_notes_120 : decode cX7_notes 120 = .ok (.iconst 4, 1) := by decide +kernel
theorem dX7_notes_121 : decode cX7_notes 121 = .ok (.iadd, 1) := by decide +kernel
theorem dX7_notes_122 : decode cX7_notes 122 = .ok (.iload 5, 2) := by decide +kernel
theorem dX7_notes_124 : decode cX7_notes 124 = .ok (.iastore, 1) := by decide +kernel
theorem dX7_notes_125 : decode cX7_notes 125 = .ok (.aload_n 0, 1) := by decide +kernel
theorem dX7_notes_126 : decode cX7_notes 126 = .ok (.dup, 1) := by decide +kernel
theorem dX7_notes_127 : decode cX7_notes 127 = .ok (.getfield 59, 3) := by decide +kernel
theorem dX7_notes_130 : decode cX7_notes 130 = .ok (.iconst 1, 1) := by decide +kernel
theorem dX7_notes_131 : decode cX7_notes 131 = .ok (.iadd, 1) := by decide +kernel
theorem dX7_notes_132 : decode cX7_notes 132 = .ok (.putfield 59, 3) := by decide +kernel
theorem dX7_notes_135 : decode cX7_notes 135 = .ok (.return_, 1) := by decide +kernel
theorem dX7_correct_0 : decode cX7_correct 0 = .ok (.aload_n 0, 1) := by decide +kernel
theorem dX7_correct_1 : decode cX7_correct 1 = .ok (.aload_n 0, 1) := by decide +kernel
theorem dX7_correct_2 : decode cX7_correct 2 = .ok (.iload_n 1, 1) := by decide +kernel
theorem dX7_correct_3 : decode cX7_correct 3 = .ok (.invokevirtual 62, 3) := by decide +kernel
theorem dX7_correct_6 : decode cX7_correct 6 = .ok (.ifCond .ne 7, 3) := by decide +kernel
theorem dX7_correct_9 : decode cX7_correct 9 = .ok (.iconst 1, 1) := by decide +kernel
theorem dX7_correct_10 : decode cX7_correct 10 = .ok (.goto 16, 3) := by decide +kernel
theorem dX7_correct_13 : decode cX7_correct 13 = .ok (.iload_n 2, 1) := by decide +kernel
theorem dX7_correct_14 : decode cX7_correct 14 = .ok (.iload_n 3, 1) := by decide +kernel
theorem dX7_correct_15 : decode cX7_correct 15 = .ok (.invokestatic 51, 3) := by decide +kernel
theorem dX7_correct_18 : decode cX7_correct 18 = .ok (.ifCond .ne 7, 3) := by decide +kernel
theorem dX7_correct_21 : decode cX7_correct 21 = .ok (.iconst 2, 1) := by decide +kernel
theorem dX7_correct_22 : decode cX7_correct 22 = .ok (.goto 4, 3) := by decide +kernel
theorem dX7_correct_25 : decode cX7_correct 25 = .ok (.iconst 0, 1) := by decide +kernel
theorem dX7_correct_26 : decode cX7_correct 26 = .ok (.invokevirtual 55, 3) := by decide +kernel
theorem dX7_correct_29 : decode cX7_correct 29 = .ok (.ifCond .ne 5, 3) := by decide +kernel
theorem dX7_correct_32 : decode cX7_correct 32 = .ok (.iconst 0, 1) := by decide +kernel
theorem dX7_correct_33 : decode cX7_correct 33 = .ok (.ireturn, 1) := by decide +kernel
theorem dX7_correct_34 : decode cX7_correct 34 = .ok (.aload_n 0, 1) := by decide +kernel
theorem dX7_correct_35 : decode cX7_correct 35 = .ok (.iconst 0, 1) := by decide +kernel
theorem dX7_correct_36 : decode cX7_correct 36 = .ok (.iload_n 1, 1) := by decide +kernel
theorem dX7_correct_37 : decode cX7_correct 37 = .ok (.aload_n 0, 1) := by decide +kernel
theorem dX7_correct_38 : decode cX7_correct 38 = .ok (.getfield 7, 3) := by decide +kernel
theorem dX7_correct_41 : decode cX7_correct 41 = .ok (.iload_n 1, 1) := by decide +kernel
theorem dX7_correct_42 : decode cX7_correct 42 = .ok (.iaload, 1) := by decide +kernel
theorem dX7_correct_43 : decode cX7_correct 43 = .ok (.aload_n 0, 1) := by decide +kernel
theorem dX7_correct_44 : decode cX7_correct 44 = .ok (.getfield 13, 3) := by decide +kernel
theorem dX7_correct_47 : decode cX7_correct 47 = .ok (.iload_n 1, 1) := by decide +kernel
theorem dX7_correct_48 : decode cX7_correct 48 = .ok (.iaload, 1) := by decide +kernel
theorem dX7_correct_49 : decode cX7_correct 49 = .ok (.iconst 0, 1) := by decide +kernel
theorem dX7_correct_50 : decode cX7_correct 50 = .ok (.invokevirtual 65, 3) := by decide +kernel
theorem dX7_correct_53 : decode cX7_correct 53 = .ok (.aload_n 0, 1) := by decide +kernel
theorem dX7_correct_54 : decode cX7_correct 54 = .ok (.getfield 7, 3) := by decide +kernel
theorem dX7_correct_57 : decode cX7_correct 57 = .ok (.iload_n 1, 1) := by decide +kernel
theorem dX7_correct_58 : decode cX7_correct 58 = .ok (.iload_n 2, 1) := by decide +kernel
theorem dX7_correct_59 : decode cX7_correct 59 = .ok (.iastore, 1) := by decide +kernel
theorem dX7_correct_60 : decode cX7_correct 60 = .ok (.aload_n 0, 1) := by decide +kernel
theorem dX7_correct_61 : decode cX7_correct 61 = .ok (.getfield 13, 3) := by decide +kernel
theorem dX7_correct_64 : decode cX7_correct 64 = .ok (.iload_n 1, 1) := by decide +kernel
theorem dX7_correct_65 : decode cX7_correct 65 = .ok (.iload_n 3, 1) := by decide +kernel
theorem dX7_correct_66 : decode cX7_correct 66 = .ok (.iastore, 1) := by decide +kernel
theorem dX7_correct_67 : decode cX7_correct 67 = .ok (.aload_n 0, 1) := by decide +kernel
theorem dX7_correct_68 : decode cX7_correct 68 = .ok (.invokevirtual 69, 3) := by decide +kernel
theorem dX7_correct_71 : decode cX7_correct 71 = .ok (.ireturn, 1) := by decide +kernel
theorem dX7_addFigure_0 : decode cX7_addFigure 0 = .ok (.aload_n 0, 1) := by decide +kernel
theorem dX7_addFigure_1 : decode cX7_addFigure 1 = .ok (.aload_n 0, 1) := by decide +kernel
theorem dX7_addFigure_2 : decode cX7_addFigure 2 = .ok (.getfield 48, 3) := by decide +kernel
theorem dX7_addFigure_5 : decode cX7_addFigure 5 = .ok (.bipush 8, 2) := by decide +kernel
theorem dX7_addFigure_7 : decode cX7_addFigure 7 = .ok (.if_icmp .ne 7, 3) := by decide +kernel
theorem dX7_addFigure_10 : decode cX7_addFigure 10 = .ok (.iconst 1, 1) := by decide +kernel
theorem dX7_addFigure_11 : decode cX7_addFigure 11 = .ok (.goto 4, 3) := by decide +kernel
theorem dX7_addFigure_14 : decode cX7_addFigure 14 = .ok (.iconst 0, 1) := by decide +kernel
theorem dX7_addFigure_15 : decode cX7_addFigure 15 = .ok (.invokevirtual 55, 3) := by decide +kernel
theorem dX7_addFigure_18 : decode cX7_addFigure 18 = .ok (.ifCond .ne 5, 3) := by decide +kernel
theorem dX7_addFigure_21 : decode cX7_addFigure 21 = .ok (.iconst 0, 1) := by decide +kernel
theorem dX7_addFigure_22 : decode cX7_addFigure 22 = .ok (.ireturn, 1) := by decide +kernel
theorem dX7_addFigure_23 : decode cX7_addFigure 23 = .ok (.aload_n 0, 1) := by decide +kernel
theorem dX7_addFigure_24 : decode cX7_addFigure 24 = .ok (.dup, 1) := by decide +kernel
theorem dX7_addFigure_25 : decode cX7_addFigure 25 = .ok (.getfield 48, 3) := by decide +kernel
theorem dX7_addFigure_28 : decode cX7_addFigure 28 = .ok (.iconst 1, 1) := by decide +kernel
theorem dX7_addFigure_29 : decode cX7_addFigure 29 = .ok (.iadd, 1) := by decide +kernel
theorem dX7_addFigure_30 : decode cX7_addFigure 30 = .ok (.putfield 48, 3) := by decide +kernel
theorem dX7_addFigure_33 : decode cX7_addFigure 33 = .ok (.aload_n 0, 1) := by decide +kernel
theorem dX7_addFigure_34 : decode cX7_addFigure 34 = .ok (.getfield 48, 3) := by decide +kernel
theorem dX7_addFigure_37 : decode cX7_addFigure 37 = .ok (.iconst 1, 1) := by decide +kernel
theorem dX7_addFigure_38 : decode cX7_addFigure 38 = .ok (.isub, 1) := by decide +kernel
theorem dX7_addFigure_39 : decode cX7_addFigure 39 = .ok (.ireturn, 1) := by decide +kernel
theorem dX7_isOf_0 : decode cX7_isOf 0 = .ok (.iconst 0, 1) := by decide +kernel
theorem dX7_isOf_1 : decode cX7_isOf 1 = .ok (.istore_n 3, 1) := by decide +kernel
theorem dX7_isOf_2 : decode cX7_isOf 2 = .ok (.bipush 10, 2) := by decide +kernel
theorem dX7_isOf_4 : decode cX7_isOf 4 = .ok (.iload_n 1, 1) := by decide +kernel
theorem dX7_isOf_5 : decode cX7_isOf 5 = .ok (.imul, 1) := by decide +kernel
theorem dX7_isOf_6 : decode cX7_isOf 6 = .ok (.istore 4, 2) := by decide +kernel
theorem dX7_isOf_8 : decode cX7_isOf 8 = .ok (.iload 4, 2) := by decide +kernel
theorem dX7_isOf_10 : decode cX7_isOf 10 = .ok (.bipush 10, 2) := by decide +kernel
theorem dX7_isOf_12 : decode cX7_isOf 12 = .ok (.iload_n 1, 1) := by decide +kernel
theorem dX7_isOf_13 : decode cX7_isOf 13 = .ok (.imul, 1) := by decide +kernel
theorem dX7_isOf_14 : decode cX7_isOf 14 = .ok (.aload_n 0, 1) := by decide +kernel
theorem dX7_isOf_15 : decode cX7_isOf 15 = .ok (.getfield 22, 3) := by decide +kernel
theorem dX7_isOf_18 : decode cX7_isOf 18 = .ok (.iload_n 1, 1) := by decide +kernel
theorem dX7_isOf_19 : decode cX7_isOf 19 = .ok (.iaload, 1) := by decide +kernel
theorem dX7_isOf_20 : decode cX7_isOf 20 = .ok (.iadd, 1) := by decide +kernel
theorem dX7_isOf_21 : decode cX7_isOf 21 = .ok (.if_icmp .ge 41, 3) := by decide +kernel
theorem dX7_isOf_24 : decode cX7_isOf 24 = .ok (.iload_n 3, 1) := by decide +kernel
theorem dX7_isOf_25 : decode cX7_isOf 25 = .ok (.ifCond .ne 25, 3) := by decide +kernel
theorem dX7_isOf_28 : decode cX7_isOf 28 = .ok (.aload_n 0, 1) := by decide +kernel
theorem dX7_isOf_29 : decode cX7_isOf 29 = .ok (.getfield 16, 3) := by decide +kernel
theorem dX7_isOf_32 : decode cX7_isOf 32 = .ok (.iload 4, 2) := by decide +kernel
theorem dX7_isOf_34 : decode cX7_isOf 34 = .ok (.iaload, 1) := by decide +kernel
theorem dX7_isOf_35 : decode cX7_isOf 35 = .ok (.iload_n 2, 1) := by decide +kernel
theorem dX7_isOf_36 : decode cX7_isOf 36 = .ok (.if_icmp .eq 14, 3) := by decide +kernel
theorem dX7_isOf_39 : decode cX7_isOf 39 = .ok (.aload_n 0, 1) := by decide +kernel
theorem dX7_isOf_40 : decode cX7_isOf 40 = .ok (.getfield 19, 3) := by decide +kernel
theorem dX7_isOf_43 : decode cX7_isOf 43 = .ok (.iload 4, 2) := by decide +kernel
theorem dX7_isOf_45 : decode cX7_isOf 45 = .ok (.iaload, 1) := by decide +kernel
theorem dX7_isOf_46 : decode cX7_isOf 46 = .ok (.iload_n 2, 1) := by decide +kernel
theorem dX7_isOf_47 : decode cX7_isOf 47 = .ok (.if_icmp .ne 7, 3) := by decide +kernel
theorem dX7_isOf_50 : decode cX7_isOf 50 = .ok (.iconst 1, 1) := by decide +kernel
theorem dX7_isOf_51 : decode cX7_isOf 51 = .ok (.goto 4, 3) := by decide +kernel
theorem dX7_isOf_54 : decode cX7_isOf 54 = .ok (.iconst 0, 1) := by decide +kernel
theorem dX7_isOf_55 : decode cX7_isOf 55 = .ok (.istore_n 3, 1) := by decide +kernel
theorem dX7_isOf_56 : decode cX7_isOf 56 = .ok (.iinc 4 1, 3) := by decide +kernel
theorem dX7_isOf_59 : decode cX7_isOf 59 = .ok (.goto (-51), 3) := by decide +kernel
theorem dX7_isOf_62 : decode cX7_isOf 62 = .ok (.iload_n 3, 1) := by decide +kernel
theorem dX7_isOf_63 : decode cX7_isOf 63 = .ok (.ireturn, 1) := by decide +kernel
theorem dX7_figureNow_0 : decode cX7_figureNow 0 = .ok (.iconst (-1), 1) := by decide +kernel
theorem dX7_figureNow_1 : decode cX7_figureNow 1 = .ok (.istore_n 2, 1) := by decide +kernel
theorem dX7_figureNow_2 : decode cX7_figureNow 2 = .ok (.iconst 0, 1) := by decide +kernel
theorem dX7_figureNow_3 : decode cX7_figureNow 3 = .ok (.istore_n 3, 1) := by decide +kernel
theorem dX7_figureNow_4 : decode cX7_figureNow 4 = .ok (.iload_n 3, 1) := by decide +kernel
theorem dX7_figureNow_5 : decode cX7_figureNow 5 = .ok (.aload_n 0, 1) := by decide +kernel
theorem dX7_figureNow_6 : decode cX7_figureNow 6 = .ok (.getfield 48, 3) := by decide +kernel
theorem dX7_figureNow_9 : decode cX7_figureNow 9 = .ok (.if_icmp .ge 24, 3) := by decide +kernel
theorem dX7_figureNow_12 : decode cX7_figureNow 12 = .ok (.aload_n 0, 1) := by decide +kernel
theorem dX7_figureNow_13 : decode cX7_figureNow 13 = .ok (.iload_n 3, 1) := by decide +kernel
theorem dX7_figureNow_14 : decode cX7_figureNow 14 = .ok (.iload_n 1, 1) := by decide +kernel
theorem dX7_figureNow_15 : decode cX7_figureNow 15 = .ok (.invokevirtual 73, 3) := by decide +kernel
theorem dX7_figureNow_18 : decode cX7_figureNow 18 = .ok (.ifCond .eq 7, 3) := by decide +kernel
theorem dX7_figureNow_21 : decode cX7_figureNow 21 = .ok (.iload_n 3, 1) := by decide +kernel
theorem dX7_figureNow_22 : decode cX7_figureNow 22 = .ok (.goto 4, 3) := by decide +kernel
theorem dX7_figureNow_25 : decode cX7_figureNow 25 = .ok (.iload_n 2, 1) := by decide +kernel
theorem dX7_figureNow_26 : decode cX7_figureNow 26 = .ok (.istore_n 2, 1) := by decide +kernel
theorem dX7_figureNow_27 : decode cX7_figureNow 27 = .ok (.iinc 3 1, 3) := by decide +kernel
theorem dX7_figureNow_30 : decode cX7_figureNow 30 = .ok (.goto (-26), 3) := by decide +kernel
theorem dX7_figureNow_33 : decode cX7_figureNow 33 = .ok (.iload_n 2, 1) := by decide +kernel
theorem dX7_figureNow_34 : decode cX7_figureNow 34 = .ok (.ireturn, 1) := by decide +kernel
theorem dX7_isFree_0 : decode cX7_isFree 0 = .ok (.aload_n 0, 1) := by decide +kernel
theorem dX7_isFree_1 : decode cX7_isFree 1 = .ok (.iload_n 2, 1) := by decide +kernel
theorem dX7_isFree_2 : decode cX7_isFree 2 = .ok (.invokevirtual 76, 3) := by decide +kernel
theorem dX7_isFree_5 : decode cX7_isFree 5 = .ok (.iconst (-1), 1) := by decide +kernel
theorem dX7_isFree_6 : decode cX7_isFree 6 = .ok (.if_icmp .eq 12, 3) := by decide +kernel
theorem dX7_isFree_9 : decode cX7_isFree 9 = .ok (.aload_n 0, 1) := by decide +kernel
theorem dX7_isFree_10 : decode cX7_isFree 10 = .ok (.iload_n 2, 1) := by decide +kernel
theorem dX7_isFree_11 : decode cX7_isFree 11 = .ok (.invokevirtual 76, 3) := by decide +kernel
theorem dX7_isFree_14 : decode cX7_isFree 14 = .ok (.iload_n 1, 1) := by decide +kernel
theorem dX7_isFree_15 : decode cX7_isFree 15 = .ok (.if_icmp .ne 7, 3) := by decide +kernel
theorem dX7_isFree_18 : decode cX7_isFree 18 = .ok (.iconst 1, 1) := by decide +kernel
theorem dX7_isFree_19 : decode cX7_isFree 19 = .ok (.goto 4, 3) := by decide +kernel
theorem dX7_isFree_22 : decode cX7_isFree 22 = .ok (.iconst 0, 1) := by decide +kernel
theorem dX7_isFree_23 : decode cX7_isFree 23 = .ok (.ireturn, 1) := by decide +kernel
theorem dX7_hasLine_0 : decode cX7_hasLine 0 = .ok (.iconst 0, 1) := by decide +kernel
theorem dX7_hasLine_1 : decode cX7_hasLine 1 = .ok (.istore 4, 2) := by decide +kernel
theorem dX7_hasLine_3 : decode cX7_hasLine 3 = .ok (.bipush 10, 2) := by decide +kernel
theorem dX7_hasLine_5 : decode cX7_hasLine 5 = .ok (.iload_n 1, 1) := by decide +kernel
theorem dX7_hasLine_6 : decode cX7_hasLine 6 = .ok (.imul, 1) := by decide +kernel
theorem dX7_hasLine_7 : decode cX7_hasLine 7 = .ok (.istore 5, 2) := by decide +kernel
theorem dX7_hasLine_9 : decode cX7_hasLine 9 = .ok (.iload 5, 2) := by decide +kernel
theorem dX7_hasLine_11 : decode cX7_hasLine 11 = .ok (.bipush 10, 2) := by decide +kernel
theorem dX7_hasLine_13 : decode cX7_hasLine 13 = .ok (.iload_n 1, 1) := by decide +kernel
theorem dX7_hasLine_14 : decode cX7_hasLine 14 = .ok (.imul, 1) := by decide +kernel
theorem dX7_hasLine_15 : decode cX7_hasLine 15 = .ok (.aload_n 0, 1) := by decide +kernel
theorem dX7_hasLine_16 : decode cX7_hasLine 16 = .ok (.getfield 22, 3) := by decide +kernel
theorem dX7_hasLine_19 : decode cX7_hasLine 19 = .ok (.iload_n 1, 1) := by decide +kernel
theorem dX7_hasLine_20 : decode cX7_hasLine 20 = .ok (.iaload, 1) := by decide +kernel
theorem dX7_hasLine_21 : decode cX7_hasLine 21 = .ok (.iadd, 1) := by decide +kernel
theorem dX7_hasLine_22 : decode cX7_hasLine 22 = .ok (.if_icmp .ge 65, 3) := by decide +kernel
theorem dX7_hasLine_25 : decode cX7_hasLine 25 = .ok (.iload 4, 2) := by decide +kernel
theorem dX7_hasLine_27 : decode cX7_hasLine 27 = .ok (.ifCond .ne 47, 3) := by decide +kernel
theorem dX7_hasLine_30 : decode cX7_hasLine 30 = .ok (.aload_n 0, 1) := by decide +kernel
theorem dX7_hasLine_31 : decode cX7_hasLine 31 = .ok (.getfield 16, 3) := by decide +kernel
theorem dX7_hasLine_34 : decode cX7_hasLine 34 = .ok (.iload 5, 2) := by decide +kernel
theorem dX7_hasLine_36 : decode cX7_hasLine 36 = .ok (.iaload, 1) := by decide +kernel
theorem dX7_hasLine_37 : decode cX7_hasLine 37 = .ok (.iload_n 2, 1) := by decide +kernel
theorem dX7_hasLine_38 : decode cX7_hasLine 38 = .ok (.if_icmp .ne 14, 3) := by decide +kernel
theorem dX7_hasLine_41 : decode cX7_hasLine 41 = .ok (.aload_n 0, 1) := by decide +kernel
theorem dX7_hasLine_42 : decode cX7_hasLine 42 = .ok (.getfield 19, 3) := by decide +kernel
theorem dX7_hasLine_45 : decode cX7_hasLine 45 = .ok (.iload 5, 2) := by decide +kernel
theorem dX7_hasLine_47 : decode cX7_hasLine 47 = .ok (.iaload, 1) := by decide +kernel
theorem dX7_hasLine_48 : decode cX7_hasLine 48 = .ok (.iload_n 3, 1) := by decide +kernel
theorem dX7_hasLine_49 : decode cX7_hasLine 49 = .ok (.if_icmp .eq 25, 3) := by decide +kernel
theorem dX7_hasLine_52 : decode cX7_hasLine 52 = .ok (.aload_n 0, 1) := by decide +kernel
theorem dX7_hasLine_53 : decode cX7_hasLine 53 = .ok (.getfield 16, 3) := by decide +kernel
theorem dX7_hasLine_56 : decode cX7_hasLine 56 = .ok (.iload 5, 2) := by decide +kernel
theorem dX7_hasLine_58 : decode cX7_hasLine 58 = .ok (.iaload, 1) := by decide +kernel
theorem dX7_hasLine_59 : decode cX7_hasLine 59 = .ok (.iload_n 3, 1) := by decide +kernel
theorem dX7_hasLine_60 : decode cX7_hasLine 60 = .ok (.if_icmp .ne 18, 3) := by decide +kernel
theorem dX7_hasLine_63 : decode cX7_hasLine 63 = .ok (.aload_n 0, 1) := by decide +kernel
theorem dX7_hasLine_64 : decode cX7_hasLine 64 = .ok (.getfield 19, 3) := by decide +kernel
theorem dX7_hasLine_67 : decode cX7_hasLine 67 = .ok (.iload 5, 2) := by decide +kernel
theorem dX7_hasLine_69 : decode cX7_hasLine 69 = .ok (.iaload, 1) := by decide +kernel
theorem dX7_hasLine_70 : decode cX7_hasLine 70 = .ok (.iload_n 2, 1) := by decide +kernel
theorem dX7_hasLine_71 : decode cX7_hasLine 71 = .ok (.if_icmp .ne 7, 3) := by decide +kernel
theorem dX7_hasLine_74 : decode cX7_hasLine 74 = .ok (.iconst 1, 1) := by decide +kernel
theorem dX7_hasLine_75 : decode cX7_hasLine 75 = .ok (.goto 4, 3) := by decide +kernel
theorem dX7_hasLine_78 : decode cX7_hasLine 78 = .ok (.iconst 0, 1) := by decide +kernel
theorem dX7_hasLine_79 : decode cX7_hasLine 79 = .ok (.istore 4, 2) := by decide +kernel
theorem dX7_hasLine_81 : decode cX7_hasLine 81 = .ok (.iinc 5 1, 3) := by decide +kernel
theorem dX7_hasLine_84 : decode cX7_hasLine 84 = .ok (.goto (-75), 3) := by decide +kernel
theorem dX7_hasLine_87 : decode cX7_hasLine 87 = .ok (.iload 4, 2) := by decide +kernel
theorem dX7_hasLine_89 : decode cX7_hasLine 89 = .ok (.ireturn, 1) := by decide +kernel
theorem dX7_puts_0 : decode cX7_puts 0 = .ok (.bipush 10, 2) := by decide +kernel
theorem dX7_puts_2 : decode cX7_puts 2 = .ok (.iload_n 1, 1) := by decide +kernel
theorem dX7_puts_3 : decode cX7_puts 3 = .ok (.imul, 1) := by decide +kernel
theorem dX7_puts_4 : decode cX7_puts 4 = .ok (.aload_n 0, 1) := by decide +kernel
theorem dX7_puts_5 : decode cX7_puts 5 = .ok (.getfield 22, 3) := by decide +kernel
theorem dX7_puts_8 : decode cX7_puts 8 = .ok (.iload_n 1, 1) := by decide +kernel
theorem dX7_puts_9 : decode cX7_puts 9 = .ok (.iaload, 1) := by decide +kernel
theorem dX7_puts_10 : decode cX7_puts 10 = .ok (.iadd, 1) := by decide +kernel
theorem dX7_puts_11 : decode cX7_puts 11 = .ok (.istore 5, 2) := by decide +kernel
theorem dX7_puts_13 : decode cX7_puts 13 = .ok (.iload 5, 2) := by decide +kernel
theorem dX7_puts_15 : decode cX7_puts 15 = .ok (.bipush 10, 2) := by decide +kernel
theorem dX7_puts_17 : decode cX7_puts 17 = .ok (.iload_n 1, 1) := by decide +kernel
theorem dX7_puts_18 : decode cX7_puts 18 = .ok (.imul, 1) := by decide +kernel
theorem dX7_puts_19 : decode cX7_puts 19 = .ok (.iload_n 2, 1) := by decide +kernel
theorem dX7_puts_20 : decode cX7_puts 20 = .ok (.iadd, 1) := by decide +kernel
theorem dX7_puts_21 : decode cX7_puts 21 = .ok (.if_icmp .le 41, 3) := by decide +kernel
theorem dX7_puts_24 : decode cX7_puts 24 = .ok (.aload_n 0, 1) := by decide +kernel
theorem dX7_puts_25 : decode cX7_puts 25 = .ok (.getfield 16, 3) := by decide +kernel
theorem dX7_puts_28 : decode cX7_puts 28 = .ok (.iload 5, 2) := by decide +kernel
theorem dX7_puts_30 : decode cX7_puts 30 = .ok (.aload_n 0, 1) := by decide +kernel
theorem dX7_puts_31 : decode cX7_puts 31 = .ok (.getfield 16, 3) := by decide +kernel
theorem dX7_puts_34 : decode cX7_puts 34 = .ok (.iload 5, 2) := by decide +kernel
theorem dX7_puts_36 : decode cX7_puts 36 = .ok (.iconst 1, 1) := by decide +kernel
theorem dX7_puts_37 : decode cX7_puts 37 = .ok (.isub, 1) := by decide +kernel
theorem dX7_puts_38 : decode cX7_puts 38 = .ok (.iaload, 1) := by decide +kernel
theorem dX7_puts_39 : decode cX7_puts 39 = .ok (.iastore, 1) := by decide +kernel
theorem dX7_puts_40 : decode cX7_puts 40 = .ok (.aload_n 0, 1) := by decide +kernel
theorem dX7_puts_41 : decode cX7_puts 41 = .ok (.getfield 19, 3) := by decide +kernel
theorem dX7_puts_44 : decode cX7_puts 44 = .ok (.iload 5, 2) := by decide +kernel
theorem dX7_puts_46 : decode cX7_puts 46 = .ok (.aload_n 0, 1) := by decide +kernel
theorem dX7_puts_47 : decode cX7_puts 47 = .ok (.getfield 19, 3) := by decide +kernel
theorem dX7_puts_50 : decode cX7_puts 50 = .ok (.iload 5, 2) := by decide +kernel
theorem dX7_puts_52 : decode cX7_puts 52 = .ok (.iconst 1, 1) := by decide +kernel
theorem dX7_puts_53 : decode cX7_puts 53 = .ok (.isub, 1) := by decide +kernel
theorem dX7_puts_54 : decode cX7_puts 54 = .ok (.iaload, 1) := by decide +kernel
theorem dX7_puts_55 : decode cX7_puts 55 = .ok (.iastore, 1) := by decide +kernel
theorem dX7_puts_56 : decode cX7_puts 56 = .ok (.iinc 5 (-1), 3) := by decide +kernel
theorem dX7_puts_59 : decode cX7_puts 59 = .ok (.goto (-46), 3) := by decide +kernel
theorem dX7_puts_62 : decode cX7_puts 62 = .ok (.aload_n 0, 1) := by decide +kernel
theorem dX7_puts_63 : decode cX7_puts 63 = .ok (.getfield 16, 3) := by decide +kernel
theorem dX7_puts_66 : decode cX7_puts 66 = .ok (.bipush 10, 2) := by decide +kernel
theorem dX7_puts_68 : decode cX7_puts 68 = .ok (.iload_n 1, 1) := by decide +kernel
theorem dX7_puts_69 : decode cX7_puts 69 = .ok (.imul, 1) := by decide +kernel
theorem dX7_puts_70 : decode cX7_puts 70 = .ok (.iload_n 2, 1) := by decide +kernel
theorem dX7_puts_71 : decode cX7_puts 71 = .ok (.iadd, 1) := by decide +kernel
theorem dX7_puts_72 : decode cX7_puts 72 = .ok (.iload_n 3, 1) := by decide +kernel
theorem dX7_puts_73 : decode cX7_puts 73 = .ok (.iastore, 1) := by decide +kernel
theorem dX7_puts_74 : decode cX7_puts 74 = .ok (.aload_n 0, 1) := by decide +kernel
theorem dX7_puts_75 : decode cX7_puts 75 = .ok (.getfield 19, 3) := by decide +kernel
theorem dX7_puts_78 : decode cX7_puts 78 = .ok (.bipush 10, 2) := by decide +kernel
theorem dX7_puts_80 : decode cX7_puts 80 = .ok (.iload_n 1, 1) := by decide +kernel
theorem dX7_puts_81 : decode cX7_puts 81 = .ok (.imul, 1) := by decide +kernel
theorem dX7_puts_82 : decode cX7_puts 82 = .ok (.iload_n 2, 1) := by decide +kernel
theorem dX7_puts_83 : decode cX7_puts 83 = .ok (.iadd, 1) := by decide +kernel
theorem dX7_puts_84 : decode cX7_puts 84 = .ok (.iload 4, 2) := by decide +kernel
theorem dX7_puts_86 : decode cX7_puts 86 = .ok (.iastore, 1) := by decide +kernel
theorem dX7_puts_87 : decode cX7_puts 87 = .ok (.aload_n 0, 1) := by decide +kernel
theorem dX7_puts_88 : decode cX7_puts 88 = .ok (.getfield 22, 3) := by decide +kernel
theorem dX7_puts_91 : decode cX7_puts 91 = .ok (.iload_n 1, 1) := by decide +kernel
theorem dX7_puts_92 : decode cX7_puts 92 = .ok (.dup2, 1) := by decide +kernel
theorem dX7_puts_93 : decode cX7_puts 93 = .ok (.iaload, 1) := by decide +kernel
theorem dX7_puts_94 : decode cX7_puts 94 = .ok (.iconst 1, 1) := by decide +kernel
theorem dX7_puts_95 : decode cX7_puts 95 = .ok (.iadd, 1) := by decide +kernel
theorem dX7_puts_96 : decode cX7_puts 96 = .ok (.iastore, 1) := by decide +kernel
theorem dX7_puts_97 : decode cX7_puts 97 = .ok (.return_, 1) := by decide +kernel
theorem dX7_takes_0 : decode cX7_takes 0 = .ok (.aload_n 0, 1) := by decide +kernel
theorem dX7_takes_1 : decode cX7_takes 1 = .ok (.getfield 22, 3) := by decide +kernel
theorem dX7_takes_4 : decode cX7_takes 4 = .ok (.iload_n 1, 1) := by decide +kernel
theorem dX7_takes_5 : decode cX7_takes 5 = .ok (.dup2, 1) := by decide +kernel
theorem dX7_takes_6 : decode cX7_takes 6 = .ok (.iaload, 1) := by decide +kernel
theorem dX7_takes_7 : decode cX7_takes 7 = .ok (.iconst 1, 1) := by decide +kernel
theorem dX7_takes_8 : decode cX7_takes 8 = .ok (.isub, 1) := by decide +kernel
theorem dX7_takes_9 : decode cX7_takes 9 = .ok (.iastore, 1) := by decide +kernel
theorem dX7_takes_10 : decode cX7_takes 10 = .ok (.bipush 10, 2) := by decide +kernel
theorem dX7_takes_12 : decode cX7_takes 12 = .ok (.iload_n 1, 1) := by decide +kernel
theorem dX7_takes_13 : decode cX7_takes 13 = .ok (.imul, 1) := by decide +kernel
theorem dX7_takes_14 : decode cX7_takes 14 = .ok (.iload_n 2, 1) := by decide +kernel
theorem dX7_takes_15 : decode cX7_takes 15 = .ok (.iadd, 1) := by decide +kernel
theorem dX7_takes_16 : decode cX7_takes 16 = .ok (.istore_n 3, 1) := by decide +kernel
theorem dX7_takes_17 : decode cX7_takes 17 = .ok (.iload_n 3, 1) := by decide +kernel
theorem dX7_takes_18 : decode cX7_takes 18 = .ok (.bipush 10, 2) := by decide +kernel
theorem dX7_takes_20 : decode cX7_takes 20 = .ok (.iload_n 1, 1) := by decide +kernel
theorem dX7_takes_21 : decode cX7_takes 21 = .ok (.imul, 1) := by decide +kernel
theorem dX7_takes_22 : decode cX7_takes 22 = .ok (.aload_n 0, 1) := by decide +kernel
theorem dX7_takes_23 : decode cX7_takes 23 = .ok (.getfield 22, 3) := by decide +kernel
theorem dX7_takes_26 : decode cX7_takes 26 = .ok (.iload_n 1, 1) := by decide +kernel
theorem dX7_takes_27 : decode cX7_takes 27 = .ok (.iaload, 1) := by decide +kernel
theorem dX7_takes_28 : decode cX7_takes 28 = .ok (.iadd, 1) := by decide +kernel
theorem dX7_takes_29 : decode cX7_takes 29 = .ok (.if_icmp .ge 37, 3) := by decide +kernel
theorem dX7_takes_32 : decode cX7_takes 32 = .ok (.aload_n 0, 1) := by decide +kernel
theorem dX7_takes_33 : decode cX7_takes 33 = .ok (.getfield 16, 3) := by decide +kernel
theorem dX7_takes_36 : decode cX7_takes 36 = .ok (.iload_n 3, 1) := by decide +kernel
theorem dX7_takes_37 : decode cX7_takes 37 = .ok (.aload_n 0, 1) := by decide +kernel
theorem dX7_takes_38 : decode cX7_takes 38 = .ok (.getfield 16, 3) := by decide +kernel
theorem dX7_takes_41 : decode cX7_takes 41 = .ok (.iload_n 3, 1) := by decide +kernel
theorem dX7_takes_42 : decode cX7_takes 42 = .ok (.iconst 1, 1) := by decide +kernel
theorem dX7_takes_43 : decode cX7_takes 43 = .ok (.iadd, 1) := by decide +kernel
theorem dX7_takes_44 : decode cX7_takes 44 = .ok (.iaload, 1) := by decide +kernel
theorem dX7_takes_45 : decode cX7_takes 45 = .ok (.iastore, 1) := by decide +kernel
theorem dX7_takes_46 : decode cX7_takes 46 = .ok (.aload_n 0, 1) := by decide +kernel
theorem dX7_takes_47 : decode cX7_takes 47 = .ok (.getfield 19, 3) := by decide +kernel
theorem dX7_takes_50 : decode cX7_takes 50 = .ok (.iload_n 3, 1) := by decide +kernel
theorem dX7_takes_51 : decode cX7_takes 51 = .ok (.aload_n 0, 1) := by decide +kernel
theorem dX7_takes_52 : decode cX7_takes 52 = .ok (.getfield 19, 3) := by decide +kernel
theorem dX7_takes_55 : decode cX7_takes 55 = .ok (.iload_n 3, 1) := by decide +kernel
theorem dX7_takes_56 : decode cX7_takes 56 = .ok (.iconst 1, 1) := by decide +kernel
theorem dX7_takes_57 : decode cX7_takes 57 = .ok (.iadd, 1) := by decide +kernel
theorem dX7_takes_58 : decode cX7_takes 58 = .ok (.iaload, 1) := by decide +kernel
theorem dX7_takes_59 : decode cX7_takes 59 = .ok (.iastore, 1) := by decide +kernel
theorem dX7_takes_60 : decode cX7_takes 60 = .ok (.iinc 3 1, 3) := by decide +kernel
theorem dX7_takes_63 : decode cX7_takes 63 = .ok (.goto (-46), 3) := by decide +kernel
theorem dX7_takes_66 : decode cX7_takes 66 = .ok (.return_, 1) := by decide +kernel
theorem dX7_draw_0 : decode cX7_draw 0 = .ok (.aload_n 0, 1) := by decide +kernel
theorem dX7_draw_1 : decode cX7_draw 1 = .ok (.iload_n 1, 1) := by decide +kernel
theorem dX7_draw_2 : decode cX7_draw 2 = .ok (.invokevirtual 80, 3) := by decide +kernel
theorem dX7_draw_5 : decode cX7_draw 5 = .ok (.ifCond .eq 23, 3) := by decide +kernel
theorem dX7_draw_8 : decode cX7_draw 8 = .ok (.aload_n 0, 1) := by decide +kernel
theorem dX7_draw_9 : decode cX7_draw 9 = .ok (.iload_n 2, 1) := by decide +kernel
theorem dX7_draw_10 : decode cX7_draw 10 = .ok (.invokevirtual 62, 3) := by decide +kernel
theorem dX7_draw_13 : decode cX7_draw 13 = .ok (.ifCond .eq 15, 3) := by decide +kernel
theorem dX7_draw_16 : decode cX7_draw 16 = .ok (.aload_n 0, 1) := by decide +kernel
theorem dX7_draw_17 : decode cX7_draw 17 = .ok (.iload_n 3, 1) := by decide +kernel
theorem dX7_draw_18 : decode cX7_draw 18 = .ok (.invokevirtual 62, 3) := by decide +kernel
theorem dX7_draw_21 : decode cX7_draw 21 = .ok (.ifCond .eq 7, 3) := by decide +kernel
theorem dX7_draw_24 : decode cX7_draw 24 = .ok (.iconst 1, 1) := by decide +kernel
theorem dX7_draw_25 : decode cX7_draw 25 = .ok (.goto 4, 3) := by decide +kernel
theorem dX7_draw_28 : decode cX7_draw 28 = .ok (.iconst 0, 1) := by decide +kernel
theorem dX7_draw_29 : decode cX7_draw 29 = .ok (.istore 4, 2) := by decide +kernel
theorem dX7_draw_31 : decode cX7_draw 31 = .ok (.iload 4, 2) := by decide +kernel
theorem dX7_draw_33 : decode cX7_draw 33 = .ok (.ifCond .eq 46, 3) := by decide +kernel
theorem dX7_draw_36 : decode cX7_draw 36 = .ok (.aload_n 0, 1) := by decide +kernel
theorem dX7_draw_37 : decode cX7_draw 37 = .ok (.getfield 22, 3) := by decide +kernel
theorem dX7_draw_40 : decode cX7_draw 40 = .ok (.iload_n 1, 1) := by decide +kernel
theorem dX7_draw_41 : decode cX7_draw 41 = .ok (.iaload, 1) := by decide +kernel
theorem dX7_draw_42 : decode cX7_draw 42 = .ok (.bipush 10, 2) := by decide +kernel
theorem dX7_draw_44 : decode cX7_draw 44 = .ok (.if_icmp .ge 35, 3) := by decide +kernel
theorem dX7_draw_47 : decode cX7_draw 47 = .ok (.aload_n 0, 1) := by decide +kernel
theorem dX7_draw_48 : decode cX7_draw 48 = .ok (.iload_n 1, 1) := by decide +kernel
theorem dX7_draw_49 : decode cX7_draw 49 = .ok (.iload_n 2, 1) := by decide +kernel
theorem dX7_draw_50 : decode cX7_draw 50 = .ok (.iload_n 3, 1) := by decide +kernel
theorem dX7_draw_51 : decode cX7_draw 51 = .ok (.invokevirtual 83, 3) := by decide +kernel
theorem dX7_draw_54 : decode cX7_draw 54 = .ok (.ifCond .ne 25, 3) := by decide +kernel
theorem dX7_draw_57 : decode cX7_draw 57 = .ok (.aload_n 0, 1) := by decide +kernel
theorem dX7_draw_58 : decode cX7_draw 58 = .ok (.iload_n 1, 1) := by decide +kernel
theorem dX7_draw_59 : decode cX7_draw 59 = .ok (.iload_n 2, 1) := by decide +kernel
theorem dX7_draw_60 : decode cX7_draw 60 = .ok (.invokevirtual 86, 3) := by decide +kernel
theorem dX7_draw_63 : decode cX7_draw 63 = .ok (.ifCond .eq 16, 3) := by decide +kernel
theorem dX7_draw_66 : decode cX7_draw 66 = .ok (.aload_n 0, 1) := by decide +kernel
theorem dX7_draw_67 : decode cX7_draw 67 = .ok (.iload_n 1, 1) := by decide +kernel
theorem dX7_draw_68 : decode cX7_draw 68 = .ok (.iload_n 3, 1) := by decide +kernel
theorem dX7_draw_69 : decode cX7_draw 69 = .ok (.invokevirtual 86, 3) := by decide +kernel
theorem dX7_draw_72 : decode cX7_draw 72 = .ok (.ifCond .eq 7, 3) := by decide +kernel
theorem dX7_draw_75 : decode cX7_draw 75 = .ok (.iconst 1, 1) := by decide +kernel
theorem dX7_draw_76 : decode cX7_draw 76 = .ok (.goto 4, 3) := by decide +kernel
theorem dX7_draw_79 : decode cX7_draw 79 = .ok (.iconst 0, 1) := by decide +kernel
theorem dX7_draw_80 : decode cX7_draw 80 = .ok (.istore 5, 2) := by decide +kernel
theorem dX7_draw_82 : decode cX7_draw 82 = .ok (.aload_n 0, 1) := by decide +kernel
theorem dX7_draw_83 : decode cX7_draw 83 = .ok (.iload 4, 2) := by decide +kernel
theorem dX7_draw_85 : decode cX7_draw 85 = .ok (.ifCond .ne 7, 3) := by decide +kernel
theorem dX7_draw_88 : decode cX7_draw 88 = .ok (.iconst 1, 1) := by decide +kernel
theorem dX7_draw_89 : decode cX7_draw 89 = .ok (.goto 22, 3) := by decide +kernel
theorem dX7_draw_92 : decode cX7_draw 92 = .ok (.iload_n 2, 1) := by decide +kernel
theorem dX7_draw_93 : decode cX7_draw 93 = .ok (.iload_n 3, 1) := by decide +kernel
theorem dX7_draw_94 : decode cX7_draw 94 = .ok (.if_icmp .ne 7, 3) := by decide +kernel
theorem dX7_draw_97 : decode cX7_draw 97 = .ok (.iconst 2, 1) := by decide +kernel
theorem dX7_draw_98 : decode cX7_draw 98 = .ok (.goto 13, 3) := by decide +kernel
theorem dX7_draw_101 : decode cX7_draw 101 = .ok (.iload 5, 2) := by decide +kernel
theorem dX7_draw_103 : decode cX7_draw 103 = .ok (.ifCond .ne 7, 3) := by decide +kernel
theorem dX7_draw_106 : decode cX7_draw 106 = .ok (.iconst 3, 1) := by decide +kernel
theorem dX7_draw_107 : decode cX7_draw 107 = .ok (.goto 4, 3) := by decide +kernel
theorem dX7_draw_110 : decode cX7_draw 110 = .ok (.iconst 0, 1) := by decide +kernel
theorem dX7_draw_111 : decode cX7_draw 111 = .ok (.invokevirtual 55, 3) := by decide +kernel
theorem dX7_draw_114 : decode cX7_draw 114 = .ok (.ifCond .ne 5, 3) := by decide +kernel
theorem dX7_draw_117 : decode cX7_draw 117 = .ok (.iconst 0, 1) := by decide +kernel
theorem dX7_draw_118 : decode cX7_draw 118 = .ok (.ireturn, 1) := by decide +kernel
theorem dX7_draw_119 : decode cX7_draw 119 = .ok (.aload_n 0, 1) := by decide +kernel
theorem dX7_draw_120 : decode cX7_draw 120 = .ok (.iload_n 1, 1) := by decide +kernel
theorem dX7_draw_121 : decode cX7_draw 121 = .ok (.aload_n 0, 1) := by decide +kernel
theorem dX7_draw_122 : decode cX7_draw 122 = .ok (.getfield 22, 3) := by decide +kernel
theorem dX7_draw_125 : decode cX7_draw 125 = .ok (.iload_n 1, 1) := by decide +kernel
theorem dX7_draw_126 : decode cX7_draw 126 = .ok (.iaload, 1) := by decide +kernel
theorem dX7_draw_127 : decode cX7_draw 127 = .ok (.iload_n 2, 1) := by decide +kernel
theorem dX7_draw_128 : decode cX7_draw 128 = .ok (.iload_n 3, 1) := by decide +kernel
theorem dX7_draw_129 : decode cX7_draw 129 = .ok (.invokevirtual 89, 3) := by decide +kernel
theorem dX7_draw_132 : decode cX7_draw 132 = .ok (.aload_n 0, 1) := by decide +kernel
theorem dX7_draw_133 : decode cX7_draw 133 = .ok (.iconst 1, 1) := by decide +kernel
theorem dX7_draw_134 : decode cX7_draw 134 = .ok (.iload_n 1, 1) := by decide +kernel
theorem dX7_draw_135 : decode cX7_draw 135 = .ok (.aload_n 0, 1) := by decide +kernel
theorem dX7_draw_136 : decode cX7_draw 136 = .ok (.getfield 22, 3) := by decide +kernel
theorem dX7_draw_139 : decode cX7_draw 139 = .ok (.iload_n 1, 1) := by decide +kernel
theorem dX7_draw_140 : decode cX7_draw 140 = .ok (.iaload, 1) := by decide +kernel
theorem dX7_draw_141 : decode cX7_draw 141 = .ok (.iconst 1, 1) := by decide +kernel
theorem dX7_draw_142 : decode cX7_draw 142 = .ok (.isub, 1) := by decide +kernel
theorem dX7_draw_143 : decode cX7_draw 143 = .ok (.iload_n 2, 1) := by decide +kernel
theorem dX7_draw_144 : decode cX7_draw 144 = .ok (.iload_n 3, 1) := by decide +kernel
theorem dX7_draw_145 : decode cX7_draw 145 = .ok (.invokevirtual 65, 3) := by decide +kernel
theorem dX7_draw_148 : decode cX7_draw 148 = .ok (.aload_n 0, 1) := by decide +kernel
theorem dX7_draw_149 : decode cX7_draw 149 = .ok (.getfield 22, 3) := by decide +kernel
theorem dX7_draw_152 : decode cX7_draw 152 = .ok (.iload_n 1, 1) := by decide +kernel
theorem dX7_draw_153 : decode cX7_draw 153 = .ok (.iaload, 1) := by decide +kernel
theorem dX7_draw_154 : decode cX7_draw 154 = .ok (.iconst 1, 1) := by decide +kernel
theorem dX7_draw_155 : decode cX7_draw 155 = .ok (.isub, 1) := by decide +kernel
theorem dX7_draw_156 : decode cX7_draw 156 = .ok (.ireturn, 1) := by decide +kernel
theorem dX7_erase_0 : decode cX7_erase 0 = .ok (.aload_n 0, 1) := by decide +kernel
theorem dX7_erase_1 : decode cX7_erase 1 = .ok (.iload_n 1, 1) := by decide +kernel
theorem dX7_erase_2 : decode cX7_erase 2 = .ok (.invokevirtual 80, 3) := by decide +kernel
theorem dX7_erase_5 : decode cX7_erase 5 = .ok (.ifCond .eq 23, 3) := by decide +kernel
theorem dX7_erase_8 : decode cX7_erase 8 = .ok (.iload_n 2, 1) := by decide +kernel
theorem dX7_erase_9 : decode cX7_erase 9 = .ok (.iconst 0, 1) := by decide +kernel
theorem dX7_erase_10 : decode cX7_erase 10 = .ok (.aload_n 0, 1) := by decide +kernel
theorem dX7_erase_11 : decode cX7_erase 11 = .ok (.getfield 22, 3) := by decide +kernel
theorem dX7_erase_14 : decode cX7_erase 14 = .ok (.iload_n 1, 1) := by decide +kernel
theorem dX7_erase_15 : decode cX7_erase 15 = .ok (.iaload, 1) := by decide +kernel
theorem dX7_erase_16 : decode cX7_erase 16 = .ok (.iconst 1, 1) := by decide +kernel
theorem dX7_erase_17 : decode cX7_erase 17 = .ok (.isub, 1) := by decide +kernel
theorem dX7_erase_18 : decode cX7_erase 18 = .ok (.invokestatic 44, 3) := by decide +kernel
theorem dX7_erase_21 : decode cX7_erase 21 = .ok (.ifCond .eq 7, 3) := by decide +kernel
theorem dX7_erase_24 : decode cX7_erase 24 = .ok (.iconst 1, 1) := by decide +kernel
theorem dX7_erase_25 : decode cX7_erase 25 = .ok (.goto 4, 3) := by decide +kernel
theorem dX7_erase_28 : decode cX7_erase 28 = .ok (.iconst 0, 1) := by decide +kernel
theorem dX7_erase_29 : decode cX7_erase 29 = .ok (.istore_n 3, 1) := by decide +kernel
theorem dX7_erase_30 : decode cX7_erase 30 = .ok (.aload_n 0, 1) := by decide +kernel
theorem dX7_erase_31 : decode cX7_erase 31 = .ok (.iload_n 3, 1) := by decide +kernel
theorem dX7_erase_32 : decode cX7_erase 32 = .ok (.ifCond .eq 7, 3) := by decide +kernel
theorem dX7_erase_35 : decode cX7_erase 35 = .ok (.iconst 0, 1) := by decide +kernel
theorem dX7_erase_36 : decode cX7_erase 36 = .ok (.goto 4, 3) := by decide +kernel
theorem dX7_erase_39 : decode cX7_erase 39 = .ok (.iconst 1, 1) := by decide +kernel
theorem dX7_erase_40 : decode cX7_erase 40 = .ok (.invokevirtual 55, 3) := by decide +kernel
theorem dX7_erase_43 : decode cX7_erase 43 = .ok (.ifCond .ne 5, 3) := by decide +kernel
theorem dX7_erase_46 : decode cX7_erase 46 = .ok (.iconst 0, 1) := by decide +kernel
theorem dX7_erase_47 : decode cX7_erase 47 = .ok (.ireturn, 1) := by decide +kernel
theorem dX7_erase_48 : decode cX7_erase 48 = .ok (.aload_n 0, 1) := by decide +kernel
theorem dX7_erase_49 : decode cX7_erase 49 = .ok (.iconst 2, 1) := by decide +kernel
theorem dX7_erase_50 : decode cX7_erase 50 = .ok (.iload_n 1, 1) := by decide +kernel
theorem dX7_erase_51 : decode cX7_erase 51 = .ok (.iload_n 2, 1) := by decide +kernel
theorem dX7_erase_52 : decode cX7_erase 52 = .ok (.aload_n 0, 1) := by decide +kernel
theorem dX7_erase_53 : decode cX7_erase 53 = .ok (.getfield 16, 3) := by decide +kernel
theorem dX7_erase_56 : decode cX7_erase 56 = .ok (.bipush 10, 2) := by decide +kernel
theorem dX7_erase_58 : decode cX7_erase 58 = .ok (.iload_n 1, 1) := by decide +kernel
theorem dX7_erase_59 : decode cX7_erase 59 = .ok (.imul, 1) := by decide +kernel
theorem dX7_erase_60 : decode cX7_erase 60 = .ok (.iload_n 2, 1) := by decide +kernel
theorem dX7_erase_61 : decode cX7_erase 61 = .ok (.iadd, 1) := by decide +kernel
theorem dX7_erase_62 : decode cX7_erase 62 = .ok (.iaload, 1) := by decide +kernel
theorem dX7_erase_63 : decode cX7_erase 63 = .ok (.aload_n 0, 1) := by decide +kernel
theorem dX7_erase_64 : decode cX7_erase 64 = .ok (.getfield 19, 3) := by decide +kernel
theorem dX7_erase_67 : decode cX7_erase 67 = .ok (.bipush 10, 2) := by decide +kernel
theorem dX7_erase_69 : decode cX7_erase 69 = .ok (.iload_n 1, 1) := by decide +kernel
theorem dX7_erase_70 : decode cX7_erase 70 = .ok (.imul, 1) := by decide +kernel
theorem dX7_erase_71 : decode cX7_erase 71 = .ok (.iload_n 2, 1) := by decide +kernel
theorem dX7_erase_72 : decode cX7_erase 72 = .ok (.iadd, 1) := by decide +kernel
theorem dX7_erase_73 : decode cX7_erase 73 = .ok (.iaload, 1) := by decide +kernel
theorem dX7_erase_74 : decode cX7_erase 74 = .ok (.invokevirtual 65, 3) := by decide +kernel
theorem dX7_erase_77 : decode cX7_erase 77 = .ok (.aload_n 0, 1) := by decide +kernel
theorem dX7_erase_78 : decode cX7_erase 78 = .ok (.iload_n 1, 1) := by decide +kernel
theorem dX7_erase_79 : decode cX7_erase 79 = .ok (.iload_n 2, 1) := by decide +kernel
theorem dX7_erase_80 : decode cX7_erase 80 = .ok (.invokevirtual 93, 3) := by decide +kernel
theorem dX7_erase_83 : decode cX7_erase 83 = .ok (.aload_n 0, 1) := by decide +kernel
theorem dX7_erase_84 : decode cX7_erase 84 = .ok (.getfield 22, 3) := by decide +kernel
theorem dX7_erase_87 : decode cX7_erase 87 = .ok (.iload_n 1, 1) := by decide +kernel
theorem dX7_erase_88 : decode cX7_erase 88 = .ok (.iaload, 1) := by decide +kernel
theorem dX7_erase_89 : decode cX7_erase 89 = .ok (.ireturn, 1) := by decide +kernel
theorem dX7_undo_0 : decode cX7_undo 0 = .ok (.aload_n 0, 1) := by decide +kernel
theorem dX7_undo_1 : decode cX7_undo 1 = .ok (.aload_n 0, 1) := by decide +kernel
theorem dX7_undo_2 : decode cX7_undo 2 = .ok (.getfield 59, 3) := by decide +kernel
theorem dX7_undo_5 : decode cX7_undo 5 = .ok (.ifCond .ne 7, 3) := by decide +kernel
theorem dX7_undo_8 : decode cX7_undo 8 = .ok (.iconst 1, 1) := by decide +kernel
theorem dX7_undo_9 : decode cX7_undo 9 = .ok (.goto 4, 3) := by decide +kernel
theorem dX7_undo_12 : decode cX7_undo 12 = .ok (.iconst 0, 1) := by decide +kernel
theorem dX7_undo_13 : decode cX7_undo 13 = .ok (.invokevirtual 55, 3) := by decide +kernel
theorem dX7_undo_16 : decode cX7_undo 16 = .ok (.ifCond .ne 5, 3) := by decide +kernel
theorem dX7_undo_19 : decode cX7_undo 19 = .ok (.iconst 0, 1) := by decide +kernel
theorem dX7_undo_20 : decode cX7_undo 20 = .ok (.ireturn, 1) := by decide +kernel
theorem dX7_undo_21 : decode cX7_undo 21 = .ok (.aload_n 0, 1) := by decide +kernel
theorem dX7_undo_22 : decode cX7_undo 22 = .ok (.dup, 1) := by decide +kernel
theorem dX7_undo_23 : decode cX7_undo 23 = .ok (.getfield 59, 3) := by decide +kernel
theorem dX7_undo_26 : decode cX7_undo 26 = .ok (.iconst 1, 1) := by decide +kernel
theorem dX7_undo_27 : decode cX7_undo 27 = .ok (.isub, 1) := by decide +kernel
theorem dX7_undo_28 : decode cX7_undo 28 = .ok (.putfield 59, 3) := by decide +kernel
theorem dX7_undo_31 : decode cX7_undo 31 = .ok (.iconst 5, 1) := by decide +kernel
theorem dX7_undo_32 : decode cX7_undo 32 = .ok (.aload_n 0, 1) := by decide +kernel
theorem dX7_undo_33 : decode cX7_undo 33 = .ok (.getfield 59, 3) := by decide +kernel
theorem dX7_undo_36 : decode cX7_undo 36 = .ok (.imul, 1) := by decide +kernel
theorem dX7_undo_37 : decode cX7_undo 37 = .ok (.istore_n 1, 1) := by decide +kernel
theorem dX7_undo_38 : decode cX7_undo 38 = .ok (.aload_n 0, 1) := by decide +kernel
theorem dX7_undo_39 : decode cX7_undo 39 = .ok (.getfield 34, 3) := by decide +kernel
theorem dX7_undo_42 : decode cX7_undo 42 = .ok (.iload_n 1, 1) := by decide +kernel
theorem dX7_undo_43 : decode cX7_undo 43 = .ok (.iconst 1, 1) := by decide +kernel
theorem dX7_undo_44 : decode cX7_undo 44 = .ok (.iadd, 1) := by decide +kernel
theorem dX7_undo_45 : decode cX7_undo 45 = .ok (.iaload, 1) := by decide +kernel
theorem dX7_undo_46 : decode cX7_undo 46 = .ok (.istore_n 2, 1) := by decide +kernel
theorem dX7_undo_47 : decode cX7_undo 47 = .ok (.aload_n 0, 1) := by decide +kernel
theorem dX7_undo_48 : decode cX7_undo 48 = .ok (.getfield 34, 3) := by decide +kernel
theorem dX7_undo_51 : decode cX7_undo 51 = .ok (.iload_n 1, 1) := by decide +kernel
theorem dX7_undo_52 : decode cX7_undo 52 = .ok (.iaload, 1) := by decide +kernel
theorem dX7_undo_53 : decode cX7_undo 53 = .ok (.ifCond .ne 34, 3) := by decide +kernel
theorem dX7_undo_56 : decode cX7_undo 56 = .ok (.aload_n 0, 1) := by decide +kernel
theorem dX7_undo_57 : decode cX7_undo 57 = .ok (.getfield 7, 3) := by decide +kernel
theorem dX7_undo_60 : decode cX7_undo 60 = .ok (.iload_n 2, 1) := by decide +kernel
theorem dX7_undo_61 : decode cX7_undo 61 = .ok (.aload_n 0, 1) := by decide +kernel
theorem dX7_undo_62 : decode cX7_undo 62 = .ok (.getfield 34, 3) := by decide +kernel
theorem dX7_undo_65 : decode cX7_undo 65 = .ok (.iload_n 1, 1) := by decide +kernel
theorem dX7_undo_66 : decode cX7_undo 66 = .ok (.iconst 2, 1) := by decide +kernel
theorem dX7_undo_67 : decode cX7_undo 67 = .ok (.iadd, 1) := by decide +kernel
theorem dX7_undo_68 : decode cX7_undo 68 = .ok (.iaload, 1) := by decide +kernel
theorem dX7_undo_69 : decode cX7_undo 69 = .ok (.iastore, 1) := by decide +kernel
theorem dX7_undo_70 : decode cX7_undo 70 = .ok (.aload_n 0, 1) := by decide +kernel
theorem dX7_undo_71 : decode cX7_undo 71 = .ok (.getfield 13, 3) := by decide +kernel
theorem dX7_undo_74 : decode cX7_undo 74 = .ok (.iload_n 2, 1) := by decide +kernel
theorem dX7_undo_75 : decode cX7_undo 75 = .ok (.aload_n 0, 1) := by decide +kernel
theorem dX7_undo_76 : decode cX7_undo 76 = .ok (.getfield 34, 3) := by decide +kernel
theorem dX7_undo_79 : decode cX7_undo 79 = .ok (.iload_n 1, 1) := by decide +kernel
theorem dX7_undo_80 : decode cX7_undo 80 = .ok (.iconst 3, 1) := by decide +kernel
theorem dX7_undo_81 : decode cX7_undo 81 = .ok (.iadd, 1) := by decide +kernel
theorem dX7_undo_82 : decode cX7_undo 82 = .ok (.iaload, 1) := by decide +kernel
theorem dX7_undo_83 : decode cX7_undo 83 = .ok (.iastore, 1) := by decide +kernel
theorem dX7_undo_84 : decode cX7_undo 84 = .ok (.goto 58, 3) := by decide +kernel
theorem dX7_undo_87 : decode cX7_undo 87 = .ok (.aload_n 0, 1) := by decide +kernel
theorem dX7_undo_88 : decode cX7_undo 88 = .ok (.getfield 34, 3) := by decide +kernel
theorem dX7_undo_91 : decode cX7_undo 91 = .ok (.iload_n 1, 1) := by decide +kernel
theorem dX7_undo_92 : decode cX7_undo 92 = .ok (.iaload, 1) := by decide +kernel
theorem dX7_undo_93 : decode cX7_undo 93 = .ok (.iconst 1, 1) := by decide +kernel
theorem dX7_undo_94 : decode cX7_undo 94 = .ok (.if_icmp .ne 19, 3) := by decide +kernel
theorem dX7_undo_97 : decode cX7_undo 97 = .ok (.aload_n 0, 1) := by decide +kernel
theorem dX7_undo_98 : decode cX7_undo 98 = .ok (.iload_n 2, 1) := by decide +kernel
theorem dX7_undo_99 : decode cX7_undo 99 = .ok (.aload_n 0, 1) := by decide +kernel
theorem dX7_undo_100 : decode cX7_undo 100 = .ok (.getfield 34, 3) := by decide +kernel
theorem dX7_undo_103 : decode cX7_undo 103 = .ok (.iload_n 1, 1) := by decide +kernel
theorem dX7_undo_104 : decode cX7_undo 104 = .ok (.iconst 2, 1) := by decide +kernel
theorem dX7_undo_105 : decode cX7_undo 105 = .ok (.iadd, 1) := by decide +kernel
theorem dX7_undo_106 : decode cX7_undo 106 = .ok (.iaload, 1) := by decide +kernel
theorem dX7_undo_107 : decode cX7_undo 107 = .ok (.invokevirtual 93, 3) := by decide +kernel
theorem dX7_undo_110 : decode cX7_undo 110 = .ok (.goto 32, 3) := by decide +kernel
theorem dX7_undo_113 : decode cX7_undo 113 = .ok (.aload_n 0, 1) := by decide +kernel
theorem dX7_undo_114 : decode cX7_undo 114 = .ok (.iload_n 2, 1) := by decide +kernel
theorem dX7_undo_115 : decode cX7_undo 115 = .ok (.aload_n 0, 1) := by decide +kernel
theorem dX7_undo_116 : decode cX7_undo 116 = .ok (.getfield 34, 3) := by decide +kernel
theorem dX7_undo_119 : decode cX7_undo 119 = .ok (.iload_n 1, 1) := by decide +kernel
theorem dX7_undo_120 : decode cX7_undo 120 = .ok (.iconst 2, 1) := by decide +kernel
theorem dX7_undo_121 : decode cX7_undo 121 = .ok (.iadd, 1) := by decide +kernel
theorem dX7_undo_122 : decode cX7_undo 122 = .ok (.iaload, 1) := by decide +kernel
theorem dX7_undo_123 : decode cX7_undo 123 = .ok (.aload_n 0, 1) := by decide +kernel
theorem dX7_undo_124 : decode cX7_undo 124 = .ok (.getfield 34, 3) := by decide +kernel
theorem dX7_undo_127 : decode cX7_undo 127 = .ok (.iload_n 1, 1) := by decide +kernel
theorem dX7_undo_128 : decode cX7_undo 128 = .ok (.iconst 3, 1) := by decide +kernel
theorem dX7_undo_129 : decode cX7_undo 129 = .ok (.iadd, 1) := by decide +kernel
theorem dX7_undo_130 : decode cX7_undo 130 = .ok (.iaload, 1) := by decide +kernel
theorem dX7_undo_131 : decode cX7_undo 131 = .ok (.aload_n 0, 1) := by decide +kernel
theorem dX7_undo_132 : decode cX7_undo 132 = .ok (.getfield 34, 3) := by decide +kernel
theorem dX7_undo_135 : decode cX7_undo 135 = .ok (.iload_n 1, 1) := by decide +kernel
theorem dX7_undo_136 : decode cX7_undo 136 = .ok (.iconst 4, 1) := by decide +kernel
theorem dX7_undo_137 : decode cX7_undo 137 = .ok (.iadd, 1) := by decide +kernel
theorem dX7_undo_138 : decode cX7_undo 138 = .ok (.iaload, 1) := by decide +kernel
theorem dX7_undo_139 : decode cX7_undo 139 = .ok (.invokevirtual 89, 3) := by decide +kernel
theorem dX7_undo_142 : decode cX7_undo 142 = .ok (.aload_n 0, 1) := by decide +kernel
theorem dX7_undo_143 : decode cX7_undo 143 = .ok (.getfield 59, 3) := by decide +kernel
theorem dX7_undo_146 : decode cX7_undo 146 = .ok (.ireturn, 1) := by decide +kernel
theorem dX7_stars_0 : decode cX7_stars 0 = .ok (.aload_n 0, 1) := by decide +kernel
theorem dX7_stars_1 : decode cX7_stars 1 = .ok (.iconst 0, 1) := by decide +kernel
theorem dX7_stars_2 : decode cX7_stars 2 = .ok (.putfield 37, 3) := by decide +kernel
theorem dX7_stars_5 : decode cX7_stars 5 = .ok (.aload_n 0, 1) := by decide +kernel
theorem dX7_stars_6 : decode cX7_stars 6 = .ok (.getfield 41, 3) := by decide +kernel
theorem dX7_stars_9 : decode cX7_stars 9 = .ok (.ireturn, 1) := by decide +kernel
theorem dX7_figures_0 : decode cX7_figures 0 = .ok (.aload_n 0, 1) := by decide +kernel
theorem dX7_figures_1 : decode cX7_figures 1 = .ok (.iconst 0, 1) := by decide +kernel
theorem dX7_figures_2 : decode cX7_figures 2 = .ok (.putfield 37, 3) := by decide +kernel
theorem dX7_figures_5 : decode cX7_figures 5 = .ok (.aload_n 0, 1) := by decide +kernel
theorem dX7_figures_6 : decode cX7_figures 6 = .ok (.getfield 48, 3) := by decide +kernel
theorem dX7_figures_9 : decode cX7_figures 9 = .ok (.ireturn, 1) := by decide +kernel
theorem dX7_lines_0 : decode cX7_lines 0 = .ok (.aload_n 0, 1) := by decide +kernel
theorem dX7_lines_1 : decode cX7_lines 1 = .ok (.aload_n 0, 1) := by decide +kernel
theorem dX7_lines_2 : decode cX7_lines 2 = .ok (.iload_n 1, 1) := by decide +kernel
theorem dX7_lines_3 : decode cX7_lines 3 = .ok (.invokevirtual 80, 3) := by decide +kernel
theorem dX7_lines_6 : decode cX7_lines 6 = .ok (.ifCond .eq 7, 3) := by decide +kernel
theorem dX7_lines_9 : decode cX7_lines 9 = .ok (.iconst 0, 1) := by decide +kernel
theorem dX7_lines_10 : decode cX7_lines 10 = .ok (.goto 4, 3) := by decide +kernel
theorem dX7_lines_13 : decode cX7_lines 13 = .ok (.iconst 1, 1) := by decide +kernel
theorem dX7_lines_14 : decode cX7_lines 14 = .ok (.invokevirtual 55, 3) := by decide +kernel
theorem dX7_lines_17 : decode cX7_lines 17 = .ok (.ifCond .eq 12, 3) := by decide +kernel
theorem dX7_lines_20 : decode cX7_lines 20 = .ok (.aload_n 0, 1) := by decide +kernel
theorem dX7_lines_21 : decode cX7_lines 21 = .ok (.getfield 22, 3) := by decide +kernel
theorem dX7_lines_24 : decode cX7_lines 24 = .ok (.iload_n 1, 1) := by decide +kernel
theorem dX7_lines_25 : decode cX7_lines 25 = .ok (.iaload, 1) := by decide +kernel
theorem dX7_lines_26 : decode cX7_lines 26 = .ok (.goto 4, 3) := by decide +kernel
theorem dX7_lines_29 : decode cX7_lines 29 = .ok (.iconst 0, 1) := by decide +kernel
theorem dX7_lines_30 : decode cX7_lines 30 = .ok (.ireturn, 1) := by decide +kernel
theorem dX7_placeOf_0 : decode cX7_placeOf 0 = .ok (.aload_n 0, 1) := by decide +kernel
theorem dX7_placeOf_1 : decode cX7_placeOf 1 = .ok (.aload_n 0, 1) := by decide +kernel
theorem dX7_placeOf_2 : decode cX7_placeOf 2 = .ok (.iload_n 1, 1) := by decide +kernel
theorem dX7_placeOf_3 : decode cX7_placeOf 3 = .ok (.invokevirtual 62, 3) := by decide +kernel
theorem dX7_placeOf_6 : decode cX7_placeOf 6 = .ok (.ifCond .eq 7, 3) := by decide +kernel
theorem dX7_placeOf_9 : decode cX7_placeOf 9 = .ok (.iconst 0, 1) := by decide +kernel
theorem dX7_placeOf_10 : decode cX7_placeOf 10 = .ok (.goto 4, 3) := by decide +kernel
theorem dX7_placeOf_13 : decode cX7_placeOf 13 = .ok (.iconst 1, 1) := by decide +kernel
theorem dX7_placeOf_14 : decode cX7_placeOf 14 = .ok (.invokevirtual 55, 3) := by decide +kernel
theorem dX7_placeOf_17 : decode cX7_placeOf 17 = .ok (.ifCond .eq 26, 3) := by decide +kernel
theorem dX7_placeOf_20 : decode cX7_placeOf 20 = .ok (.sipush 1000, 3) := by decide +kernel
theorem dX7_placeOf_23 : decode cX7_placeOf 23 = .ok (.aload_n 0, 1) := by decide +kernel
theorem dX7_placeOf_24 : decode cX7_placeOf 24 = .ok (.getfield 7, 3) := by decide +kernel
theorem dX7_placeOf_27 : decode cX7_placeOf 27 = .ok (.iload_n 1, 1) := by decide +kernel
theorem dX7_placeOf_28 : decode cX7_placeOf 28 = .ok (.iaload, 1) := by decide +kernel
theorem dX7_placeOf_29 : decode cX7_placeOf 29 = .ok (.imul, 1) := by decide +kernel
theorem dX7_placeOf_30 : decode cX7_placeOf 30 = .ok (.aload_n 0, 1) := by decide +kernel
theorem dX7_placeOf_31 : decode cX7_placeOf 31 = .ok (.getfield 13, 3) := by decide +kernel
theorem dX7_placeOf_34 : decode cX7_placeOf 34 = .ok (.iload_n 1, 1) := by decide +kernel
theorem dX7_placeOf_35 : decode cX7_placeOf 35 = .ok (.iaload, 1) := by decide +kernel
theorem dX7_placeOf_36 : decode cX7_placeOf 36 = .ok (.iadd, 1) := by decide +kernel
theorem dX7_placeOf_37 : decode cX7_placeOf 37 = .ok (.bipush 90, 2) := by decide +kernel
theorem dX7_placeOf_39 : decode cX7_placeOf 39 = .ok (.iadd, 1) := by decide +kernel
theorem dX7_placeOf_40 : decode cX7_placeOf 40 = .ok (.goto 4, 3) := by decide +kernel
theorem dX7_placeOf_43 : decode cX7_placeOf 43 = .ok (.iconst 0, 1) := by decide +kernel
theorem dX7_placeOf_44 : decode cX7_placeOf 44 = .ok (.ireturn, 1) := by decide +kernel
