theorem dX6_bestHour_0 : decode cX6_bestHour 0 = .ok (.aload_n 0, 1) := by decide +kernel
theorem dX6_bestHour_1 : decode cX6_bestHour 1 = .ok (.iload_n 1, 1) := by decide +kernel
theorem dX6_bestHour_2 : decode cX6_bestHour 2 = .ok (.invokevirtual 94, 3) := by decide +kernel
theorem dX6_bestHour_5 : decode cX6_bestHour 5 = .ok (.iload_n 2, 1) := by decide +kernel
theorem dX6_bestHour_6 : decode cX6_bestHour 6 = .ok (.invokestatic 176, 3) := by decide +kernel
theorem dX6_bestHour_9 : decode cX6_bestHour 9 = .ok (.iload_n 3, 1) := by decide +kernel
theorem dX6_bestHour_10 : decode cX6_bestHour 10 = .ok (.invokestatic 179, 3) := by decide +kernel
theorem dX6_bestHour_13 : decode cX6_bestHour 13 = .ok (.iconst (-1), 1) := by decide +kernel
theorem dX6_bestHour_14 : decode cX6_bestHour 14 = .ok (.istore 4, 2) := by decide +kernel
theorem dX6_bestHour_16 : decode cX6_bestHour 16 = .ok (.iconst 0, 1) := by decide +kernel
theorem dX6_bestHour_17 : decode cX6_bestHour 17 = .ok (.istore 5, 2) := by decide +kernel
theorem dX6_bestHour_19 : decode cX6_bestHour 19 = .ok (.iconst 0, 1) := by decide +kernel
theorem dX6_bestHour_20 : decode cX6_bestHour 20 = .ok (.istore 6, 2) := by decide +kernel
theorem dX6_bestHour_22 : decode cX6_bestHour 22 = .ok (.iload 6, 2) := by decide +kernel
theorem dX6_bestHour_24 : decode cX6_bestHour 24 = .ok (.bipush 24, 2) := by decide +kernel
theorem dX6_bestHour_26 : decode cX6_bestHour 26 = .ok (.if_icmp .ge 38, 3) := by decide +kernel
theorem dX6_bestHour_29 : decode cX6_bestHour 29 = .ok (.aload_n 0, 1) := by decide +kernel
theorem dX6_bestHour_30 : decode cX6_bestHour 30 = .ok (.iload_n 1, 1) := by decide +kernel
theorem dX6_bestHour_31 : decode cX6_bestHour 31 = .ok (.iload_n 2, 1) := by decide +kernel
theorem dX6_bestHour_32 : decode cX6_bestHour 32 = .ok (.iload_n 3, 1) := by decide +kernel
theorem dX6_bestHour_33 : decode cX6_bestHour 33 = .ok (.iload 6, 2) := by decide +kernel
theorem dX6_bestHour_35 : decode cX6_bestHour 35 = .ok (.invokestatic 185, 3) := by decide +kernel
theorem dX6_bestHour_38 : decode cX6_bestHour 38 = .ok (.invokevirtual 198, 3) := by decide +kernel
theorem dX6_bestHour_41 : decode cX6_bestHour 41 = .ok (.istore 7, 2) := by decide +kernel
theorem dX6_bestHour_43 : decode cX6_bestHour 43 = .ok (.iload 7, 2) := by decide +kernel
theorem dX6_bestHour_45 : decode cX6_bestHour 45 = .ok (.iload 5, 2) := by decide +kernel
theorem dX6_bestHour_47 : decode cX6_bestHour 47 = .ok (.if_icmp .le 11, 3) := by decide +kernel
theorem dX6_bestHour_50 : decode cX6_bestHour 50 = .ok (.iload 6, 2) := by decide +kernel
theorem dX6_bestHour_52 : decode cX6_bestHour 52 = .ok (.istore 4, 2) := by decide +kernel
theorem dX6_bestHour_54 : decode cX6_bestHour 54 = .ok (.iload 7, 2) := by decide +kernel
theorem dX6_bestHour_56 : decode cX6_bestHour 56 = .ok (.istore 5, 2) := by decide +kernel
theorem dX6_bestHour_58 : decode cX6_bestHour 58 = .ok (.iinc 6 1, 3) := by decide +kernel
theorem dX6_bestHour_61 : decode cX6_bestHour 61 = .ok (.goto (-39), 3) := by decide +kernel
theorem dX6_bestHour_64 : decode cX6_bestHour 64 = .ok (.iload 4, 2) := by decide +kernel
theorem dX6_bestHour_66 : decode cX6_bestHour 66 = .ok (.ireturn, 1) := by decide +kernel
theorem dX6_plan_0 : decode cX6_plan 0 = .ok (.aload_n 0, 1) := by decide +kernel
theorem dX6_plan_1 : decode cX6_plan 1 = .ok (.iload_n 1, 1) := by decide +kernel
theorem dX6_plan_2 : decode cX6_plan 2 = .ok (.invokevirtual 94, 3) := by decide +kernel
theorem dX6_plan_5 : decode cX6_plan 5 = .ok (.iload_n 2, 1) := by decide +kernel
theorem dX6_plan_6 : decode cX6_plan 6 = .ok (.invokestatic 176, 3) := by decide +kernel
theorem dX6_plan_9 : decode cX6_plan 9 = .ok (.iload_n 3, 1) := by decide +kernel
theorem dX6_plan_10 : decode cX6_plan 10 = .ok (.invokestatic 179, 3) := by decide +kernel
theorem dX6_plan_13 : decode cX6_plan 13 = .ok (.iload 4, 2) := by decide +kernel
theorem dX6_plan_15 : decode cX6_plan 15 = .ok (.invokestatic 182, 3) := by decide +kernel
theorem dX6_plan_18 : decode cX6_plan 18 = .ok (.iload_n 3, 1) := by decide +kernel
theorem dX6_plan_19 : decode cX6_plan 19 = .ok (.iload 4, 2) := by decide +kernel
theorem dX6_plan_21 : decode cX6_plan 21 = .ok (.invokestatic 185, 3) := by decide +kernel
theorem dX6_plan_24 : decode cX6_plan 24 = .ok (.istore 5, 2) := by decide +kernel
theorem dX6_plan_26 : decode cX6_plan 26 = .ok (.aload_n 0, 1) := by decide +kernel
theorem dX6_plan_27 : decode cX6_plan 27 = .ok (.iload_n 1, 1) := by decide +kernel
theorem dX6_plan_28 : decode cX6_plan 28 = .ok (.iload_n 2, 1) := by decide +kernel
theorem dX6_plan_29 : decode cX6_plan 29 = .ok (.iload 5, 2) := by decide +kernel
theorem dX6_plan_31 : decode cX6_plan 31 = .ok (.invokevirtual 191, 3) := by decide +kernel
theorem dX6_plan_34 : decode cX6_plan 34 = .ok (.ifCond .ne 13, 3) := by decide +kernel
theorem dX6_plan_37 : decode cX6_plan 37 = .ok (.new 52, 3) := by decide +kernel
theorem dX6_plan_40 : decode cX6_plan 40 = .ok (.dup, 1) := by decide +kernel
theorem dX6_plan_41 : decode cX6_plan 41 = .ok (.ldc 201, 2) := by decide +kernel
theorem dX6_plan_43 : decode cX6_plan 43 = .ok (.invokespecial 56, 3) := by decide +kernel
theorem dX6_plan_46 : decode cX6_plan 46 = .ok (.athrow, 1) := by decide +kernel
theorem dX6_plan_47 : decode cX6_plan 47 = .ok (.aload_n 0, 1) := by decide +kernel
theorem dX6_plan_48 : decode cX6_plan 48 = .ok (.getfield 26, 3) := by decide +kernel
theorem dX6_plan_51 : decode cX6_plan 51 = .ok (.getfield 173, 3) := by decide +kernel
theorem dX6_plan_54 : decode cX6_plan 54 = .ok (.iload_n 1, 1) := by decide +kernel
theorem dX6_plan_55 : decode cX6_plan 55 = .ok (.iaload, 1) := by decide +kernel
theorem dX6_plan_56 : decode cX6_plan 56 = .ok (.istore 6, 2) := by decide +kernel
theorem dX6_plan_58 : decode cX6_plan 58 = .ok (.iload 6, 2) := by decide +kernel
theorem dX6_plan_60 : decode cX6_plan 60 = .ok (.iconst (-1), 1) := by decide +kernel
theorem dX6_plan_61 : decode cX6_plan 61 = .ok (.if_icmp .ne 13, 3) := by decide +kernel
theorem dX6_plan_64 : decode cX6_plan 64 = .ok (.new 52, 3) := by decide +kernel
theorem dX6_plan_67 : decode cX6_plan 67 = .ok (.dup, 1) := by decide +kernel
theorem dX6_plan_68 : decode cX6_plan 68 = .ok (.ldc 203, 2) := by decide +kernel
theorem dX6_plan_70 : decode cX6_plan 70 = .ok (.invokespecial 56, 3) := by decide +kernel
theorem dX6_plan_73 : decode cX6_plan 73 = .ok (.athrow, 1) := by decide +kernel
theorem dX6_plan_74 : decode cX6_plan 74 = .ok (.aload_n 0, 1) := by decide +kernel
theorem dX6_plan_75 : decode cX6_plan 75 = .ok (.getfield 33, 3) := by decide +kernel
theorem dX6_plan_78 : decode cX6_plan 78 = .ok (.getfield 205, 3) := by decide +kernel
theorem dX6_plan_81 : decode cX6_plan 81 = .ok (.bipush 12, 2) := by decide +kernel
theorem dX6_plan_83 : decode cX6_plan 83 = .ok (.if_icmp .lt 13, 3) := by decide +kernel
theorem dX6_plan_86 : decode cX6_plan 86 = .ok (.new 52, 3) := by decide +kernel
theorem dX6_plan_89 : decode cX6_plan 89 = .ok (.dup, 1) := by decide +kernel
theorem dX6_plan_90 : decode cX6_plan 90 = .ok (.ldc 208, 2) := by decide +kernel
theorem dX6_plan_92 : decode cX6_plan 92 = .ok (.invokespecial 56, 3) := by decide +kernel
theorem dX6_plan_95 : decode cX6_plan 95 = .ok (.athrow, 1) := by decide +kernel
theorem dX6_plan_96 : decode cX6_plan 96 = .ok (.aload_n 0, 1) := by decide +kernel
theorem dX6_plan_97 : decode cX6_plan 97 = .ok (.getfield 33, 3) := by decide +kernel
theorem dX6_plan_100 : decode cX6_plan 100 = .ok (.iload_n 1, 1) := by decide +kernel
theorem dX6_plan_101 : decode cX6_plan 101 = .ok (.iload 6, 2) := by decide +kernel
theorem dX6_plan_103 : decode cX6_plan 103 = .ok (.iload_n 2, 1) := by decide +kernel
theorem dX6_plan_104 : decode cX6_plan 104 = .ok (.iload 5, 2) := by decide +kernel
theorem dX6_plan_106 : decode cX6_plan 106 = .ok (.invokevirtual 210, 3) := by decide +kernel
theorem dX6_plan_109 : decode cX6_plan 109 = .ok (.ireturn, 1) := by decide +kernel
theorem dX6_isWrong_0 : decode cX6_isWrong 0 = .ok (.iload_n 1, 1) := by decide +kernel
theorem dX6_isWrong_1 : decode cX6_isWrong 1 = .ok (.ifCond .lt 14, 3) := by decide +kernel
theorem dX6_isWrong_4 : decode cX6_isWrong 4 = .ok (.iload_n 1, 1) := by decide +kernel
theorem dX6_isWrong_5 : decode cX6_isWrong 5 = .ok (.aload_n 0, 1) := by decide +kernel
theorem dX6_isWrong_6 : decode cX6_isWrong 6 = .ok (.getfield 33, 3) := by decide +kernel
theorem dX6_isWrong_9 : decode cX6_isWrong 9 = .ok (.getfield 205, 3) := by decide +kernel
theorem dX6_isWrong_12 : decode cX6_isWrong 12 = .ok (.if_icmp .lt 13, 3) := by decide +kernel
theorem dX6_isWrong_15 : decode cX6_isWrong 15 = .ok (.new 123, 3) := by decide +kernel
theorem dX6_isWrong_18 : decode cX6_isWrong 18 = .ok (.dup, 1) := by decide +kernel
theorem dX6_isWrong_19 : decode cX6_isWrong 19 = .ok (.ldc 213, 2) := by decide +kernel
theorem dX6_isWrong_21 : decode cX6_isWrong 21 = .ok (.invokespecial 127, 3) := by decide +kernel
theorem dX6_isWrong_24 : decode cX6_isWrong 24 = .ok (.athrow, 1) := by decide +kernel
theorem dX6_isWrong_25 : decode cX6_isWrong 25 = .ok (.aload_n 0, 1) := by decide +kernel
theorem dX6_isWrong_26 : decode cX6_isWrong 26 = .ok (.iload_n 1, 1) := by decide +kernel
theorem dX6_isWrong_27 : decode cX6_isWrong 27 = .ok (.invokevirtual 215, 3) := by decide +kernel
theorem dX6_isWrong_30 : decode cX6_isWrong 30 = .ok (.ireturn, 1) := by decide +kernel
theorem dX6_wrong_0 : decode cX6_wrong 0 = .ok (.aload_n 0, 1) := by decide +kernel
theorem dX6_wrong_1 : decode cX6_wrong 1 = .ok (.invokevirtual 82, 3) := by decide +kernel
theorem dX6_wrong_4 : decode cX6_wrong 4 = .ok (.ireturn, 1) := by decide +kernel
theorem dX6_needStar_0 : decode cX6_needStar 0 = .ok (.iload_n 1, 1) := by decide +kernel
theorem dX6_needStar_1 : decode cX6_needStar 1 = .ok (.ifCond .lt 14, 3) := by decide +kernel
theorem dX6_needStar_4 : decode cX6_needStar 4 = .ok (.iload_n 1, 1) := by decide +kernel
theorem dX6_needStar_5 : decode cX6_needStar 5 = .ok (.aload_n 0, 1) := by decide +kernel
theorem dX6_needStar_6 : decode cX6_needStar 6 = .ok (.getfield 12, 3) := by decide +kernel
theorem dX6_needStar_9 : decode cX6_needStar 9 = .ok (.getfield 48, 3) := by decide +kernel
theorem dX6_needStar_12 : decode cX6_needStar 12 = .ok (.if_icmp .lt 13, 3) := by decide +kernel
theorem dX6_needStar_15 : decode cX6_needStar 15 = .ok (.new 123, 3) := by decide +kernel
theorem dX6_needStar_18 : decode cX6_needStar 18 = .ok (.dup, 1) := by decide +kernel
theorem dX6_needStar_19 : decode cX6_needStar 19 = .ok (.ldc 219, 2) := by decide +kernel
theorem dX6_needStar_21 : decode cX6_needStar 21 = .ok (.invokespecial 127, 3) := by decide +kernel
theorem dX6_needStar_24 : decode cX6_needStar 24 = .ok (.athrow, 1) := by decide +kernel
theorem dX6_needStar_25 : decode cX6_needStar 25 = .ok (.return_, 1) := by decide +kernel
theorem dX6_needFigure_0 : decode cX6_needFigure 0 = .ok (.iload_n 1, 1) := by decide +kernel
theorem dX6_needFigure_1 : decode cX6_needFigure 1 = .ok (.ifCond .lt 14, 3) := by decide +kernel
theorem dX6_needFigure_4 : decode cX6_needFigure 4 = .ok (.iload_n 1, 1) := by decide +kernel
theorem dX6_needFigure_5 : decode cX6_needFigure 5 = .ok (.aload_n 0, 1) := by decide +kernel
theorem dX6_needFigure_6 : decode cX6_needFigure 6 = .ok (.getfield 19, 3) := by decide +kernel
theorem dX6_needFigure_9 : decode cX6_needFigure 9 = .ok (.getfield 86, 3) := by decide +kernel
theorem dX6_needFigure_12 : decode cX6_needFigure 12 = .ok (.if_icmp .lt 13, 3) := by decide +kernel
theorem dX6_needFigure_15 : decode cX6_needFigure 15 = .ok (.new 123, 3) := by decide +kernel
theorem dX6_needFigure_18 : decode cX6_needFigure 18 = .ok (.dup, 1) := by decide +kernel
theorem dX6_needFigure_19 : decode cX6_needFigure 19 = .ok (.ldc 221, 2) := by decide +kernel
theorem dX6_needFigure_21 : decode cX6_needFigure 21 = .ok (.invokespecial 127, 3) := by decide +kernel
theorem dX6_needFigure_24 : decode cX6_needFigure 24 = .ok (.athrow, 1) := by decide +kernel
theorem dX6_needFigure_25 : decode cX6_needFigure 25 = .ok (.return_, 1) := by decide +kernel
theorem dX6_needPlace_0 : decode cX6_needPlace 0 = .ok (.iload_n 0, 1) := by decide +kernel
theorem dX6_needPlace_1 : decode cX6_needPlace 1 = .ok (.ifCond .lt 10, 3) := by decide +kernel
theorem dX6_needPlace_4 : decode cX6_needPlace 4 = .ok (.iload_n 0, 1) := by decide +kernel
theorem dX6_needPlace_5 : decode cX6_needPlace 5 = .ok (.sipush 360, 3) := by decide +kernel
theorem dX6_needPlace_8 : decode cX6_needPlace 8 = .ok (.if_icmp .lt 13, 3) := by decide +kernel
theorem dX6_needPlace_11 : decode cX6_needPlace 11 = .ok (.new 97, 3) := by decide +kernel
theorem dX6_needPlace_14 : decode cX6_needPlace 14 = .ok (.dup, 1) := by decide +kernel
theorem dX6_needPlace_15 : decode cX6_needPlace 15 = .ok (.ldc 223, 2) := by decide +kernel
theorem dX6_needPlace_17 : decode cX6_needPlace 17 = .ok (.invokespecial 101, 3) := by decide +kernel
theorem dX6_needPlace_20 : decode cX6_needPlace 20 = .ok (.athrow, 1) := by decide +kernel
theorem dX6_needPlace_21 : decode cX6_needPlace 21 = .ok (.iload_n 1, 1) := by decide +kernel
theorem dX6_needPlace_22 : decode cX6_needPlace 22 = .ok (.bipush (-90), 2) := by decide +kernel
theorem dX6_needPlace_24 : decode cX6_needPlace 24 = .ok (.if_icmp .lt 9, 3) := by decide +kernel
theorem dX6_needPlace_27 : decode cX6_needPlace 27 = .ok (.iload_n 1, 1) := by decide +kernel
theorem dX6_needPlace_28 : decode cX6_needPlace 28 = .ok (.bipush 90, 2) := by decide +kernel
theorem dX6_needPlace_30 : decode cX6_needPlace 30 = .ok (.if_icmp .le 13, 3) := by decide +kernel
theorem dX6_needPlace_33 : decode cX6_needPlace 33 = .ok (.new 97, 3) := by decide +kernel
theorem dX6_needPlace_36 : decode cX6_needPlace 36 = .ok (.dup, 1) := by decide +kernel
theorem dX6_needPlace_37 : decode cX6_needPlace 37 = .ok (.ldc 225, 2) := by decide +kernel
theorem dX6_needPlace_39 : decode cX6_needPlace 39 = .ok (.invokespecial 101, 3) := by decide +kernel
theorem dX6_needPlace_42 : decode cX6_needPlace 42 = .ok (.athrow, 1) := by decide +kernel
theorem dX6_needPlace_43 : decode cX6_needPlace 43 = .ok (.return_, 1) := by decide +kernel
theorem dX6_needName_0 : decode cX6_needName 0 = .ok (.iload_n 0, 1) := by decide +kernel
theorem dX6_needName_1 : decode cX6_needName 1 = .ok (.ifCond .lt 9, 3) := by decide +kernel
theorem dX6_needName_4 : decode cX6_needName 4 = .ok (.iload_n 0, 1) := by decide +kernel
theorem dX6_needName_5 : decode cX6_needName 5 = .ok (.bipush 10, 2) := by decide +kernel
theorem dX6_needName_7 : decode cX6_needName 7 = .ok (.if_icmp .lt 13, 3) := by decide +kernel
theorem dX6_needName_10 : decode cX6_needName 10 = .ok (.new 97, 3) := by decide +kernel
theorem dX6_needName_13 : decode cX6_needName 13 = .ok (.dup, 1) := by decide +kernel
theorem dX6_needName_14 : decode cX6_needName 14 = .ok (.ldc 227, 2) := by decide +kernel
theorem dX6_needName_16 : decode cX6_needName 16 = .ok (.invokespecial 101, 3) := by decide +kernel
theorem dX6_needName_19 : decode cX6_needName 19 = .ok (.athrow, 1) := by decide +kernel
theorem dX6_needName_20 : decode cX6_needName 20 = .ok (.return_, 1) := by decide +kernel
theorem dX6_needLatitude_0 : decode cX6_needLatitude 0 = .ok (.iload_n 0, 1) := by decide +kernel
theorem dX6_needLatitude_1 : decode cX6_needLatitude 1 = .ok (.bipush (-90), 2) := by decide +kernel
theorem dX6_needLatitude_3 : decode cX6_needLatitude 3 = .ok (.if_icmp .lt 9, 3) := by decide +kernel
theorem dX6_needLatitude_6 : decode cX6_needLatitude 6 = .ok (.iload_n 0, 1) := by decide +kernel
theorem dX6_needLatitude_7 : decode cX6_needLatitude 7 = .ok (.bipush 90, 2) := by decide +kernel
theorem dX6_needLatitude_9 : decode cX6_needLatitude 9 = .ok (.if_icmp .le 13, 3) := by decide +kernel
theorem dX6_needLatitude_12 : decode cX6_needLatitude 12 = .ok (.new 97, 3) := by decide +kernel
theorem dX6_needLatitude_15 : decode cX6_needLatitude 15 = .ok (.dup, 1) := by decide +kernel
theorem dX6_needLatitude_16 : decode cX6_needLatitude 16 = .ok (.ldc 229, 2) := by decide +kernel
theorem dX6_needLatitude_18 : decode cX6_needLatitude 18 = .ok (.invokespecial 101, 3) := by decide +kernel
theorem dX6_needLatitude_21 : decode cX6_needLatitude 21 = .ok (.athrow, 1) := by decide +kernel
theorem dX6_needLatitude_22 : decode cX6_needLatitude 22 = .ok (.return_, 1) := by decide +kernel
theorem dX6_needDay_0 : decode cX6_needDay 0 = .ok (.iload_n 0, 1) := by decide +kernel
theorem dX6_needDay_1 : decode cX6_needDay 1 = .ok (.ifCond .lt 10, 3) := by decide +kernel
theorem dX6_needDay_4 : decode cX6_needDay 4 = .ok (.iload_n 0, 1) := by decide +kernel
theorem dX6_needDay_5 : decode cX6_needDay 5 = .ok (.sipush 365, 3) := by decide +kernel
theorem dX6_needDay_8 : decode cX6_needDay 8 = .ok (.if_icmp .lt 13, 3) := by decide +kernel
theorem dX6_needDay_11 : decode cX6_needDay 11 = .ok (.new 97, 3) := by decide +kernel
theorem dX6_needDay_14 : decode cX6_needDay 14 = .ok (.dup, 1) := by decide +kernel
theorem dX6_needDay_15 : decode cX6_needDay 15 = .ok (.ldc 231, 2) := by decide +kernel
theorem dX6_needDay_17 : decode cX6_needDay 17 = .ok (.invokespecial 101, 3) := by decide +kernel
theorem dX6_needDay_20 : decode cX6_needDay 20 = .ok (.athrow, 1) := by decide +kernel
theorem dX6_needDay_21 : decode cX6_needDay 21 = .ok (.return_, 1) := by decide +kernel
theorem dX6_needHour_0 : decode cX6_needHour 0 = .ok (.iload_n 0, 1) := by decide +kernel
theorem dX6_needHour_1 : decode cX6_needHour 1 = .ok (.ifCond .lt 9, 3) := by decide +kernel
theorem dX6_needHour_4 : decode cX6_needHour 4 = .ok (.iload_n 0, 1) := by decide +kernel
theorem dX6_needHour_5 : decode cX6_needHour 5 = .ok (.bipush 24, 2) := by decide +kernel
theorem dX6_needHour_7 : decode cX6_needHour 7 = .ok (.if_icmp .lt 13, 3) := by decide +kernel
theorem dX6_needHour_10 : decode cX6_needHour 10 = .ok (.new 97, 3) := by decide +kernel
theorem dX6_needHour_13 : decode cX6_needHour 13 = .ok (.dup, 1) := by decide +kernel
theorem dX6_needHour_14 : decode cX6_needHour 14 = .ok (.ldc 233, 2) := by decide +kernel
theorem dX6_needHour_16 : decode cX6_needHour 16 = .ok (.invokespecial 101, 3) := by decide +kernel
theorem dX6_needHour_19 : decode cX6_needHour 19 = .ok (.athrow, 1) := by decide +kernel
theorem dX6_needHour_20 : decode cX6_needHour 20 = .ok (.return_, 1) := by decide +kernel
theorem dX6_takeBack_0 : decode cX6_takeBack 0 = .ok (.aload_n 0, 1) := by decide +kernel
theorem dX6_takeBack_1 : decode cX6_takeBack 1 = .ok (.getfield 40, 3) := by decide +kernel
theorem dX6_takeBack_4 : decode cX6_takeBack 4 = .ok (.getfield 235, 3) := by decide +kernel
theorem dX6_takeBack_7 : decode cX6_takeBack 7 = .ok (.iload_n 1, 1) := by decide +kernel
theorem dX6_takeBack_8 : decode cX6_takeBack 8 = .ok (.iaload, 1) := by decide +kernel
theorem dX6_takeBack_9 : decode cX6_takeBack 9 = .ok (.istore_n 2, 1) := by decide +kernel
theorem dX6_takeBack_10 : decode cX6_takeBack 10 = .ok (.aload_n 0, 1) := by decide +kernel
theorem dX6_takeBack_11 : decode cX6_takeBack 11 = .ok (.getfield 40, 3) := by decide +kernel
theorem dX6_takeBack_14 : decode cX6_takeBack 14 = .ok (.getfield 238, 3) := by decide +kernel
theorem dX6_takeBack_17 : decode cX6_takeBack 17 = .ok (.iload_n 1, 1) := by decide +kernel
theorem dX6_takeBack_18 : decode cX6_takeBack 18 = .ok (.iaload, 1) := by decide +kernel
theorem dX6_takeBack_19 : decode cX6_takeBack 19 = .ok (.istore_n 3, 1) := by decide +kernel
theorem dX6_takeBack_20 : decode cX6_takeBack 20 = .ok (.aload_n 0, 1) := by decide +kernel
theorem dX6_takeBack_21 : decode cX6_takeBack 21 = .ok (.getfield 40, 3) := by decide +kernel
theorem dX6_takeBack_24 : decode cX6_takeBack 24 = .ok (.getfield 241, 3) := by decide +kernel
theorem dX6_takeBack_27 : decode cX6_takeBack 27 = .ok (.iload_n 1, 1) := by decide +kernel
theorem dX6_takeBack_28 : decode cX6_takeBack 28 = .ok (.iaload, 1) := by decide +kernel
theorem dX6_takeBack_29 : decode cX6_takeBack 29 = .ok (.istore 4, 2) := by decide +kernel
theorem dX6_takeBack_31 : decode cX6_takeBack 31 = .ok (.aload_n 0, 1) := by decide +kernel
theorem dX6_takeBack_32 : decode cX6_takeBack 32 = .ok (.getfield 40, 3) := by decide +kernel
theorem dX6_takeBack_35 : decode cX6_takeBack 35 = .ok (.getfield 244, 3) := by decide +kernel
theorem dX6_takeBack_38 : decode cX6_takeBack 38 = .ok (.iload_n 1, 1) := by decide +kernel
theorem dX6_takeBack_39 : decode cX6_takeBack 39 = .ok (.iaload, 1) := by decide +kernel
theorem dX6_takeBack_40 : decode cX6_takeBack 40 = .ok (.istore 5, 2) := by decide +kernel
theorem dX6_takeBack_42 : decode cX6_takeBack 42 = .ok (.aload_n 0, 1) := by decide +kernel
theorem dX6_takeBack_43 : decode cX6_takeBack 43 = .ok (.getfield 40, 3) := by decide +kernel
theorem dX6_takeBack_46 : decode cX6_takeBack 46 = .ok (.getfield 247, 3) := by decide +kernel
theorem dX6_takeBack_49 : decode cX6_takeBack 49 = .ok (.iload_n 1, 1) := by decide +kernel
theorem dX6_takeBack_50 : decode cX6_takeBack 50 = .ok (.iaload, 1) := by decide +kernel
theorem dX6_takeBack_51 : decode cX6_takeBack 51 = .ok (.tableswitch 68 0 2 #[25, 40, 52], 25) := by decide +kernel
theorem dX6_takeBack_76 : decode cX6_takeBack 76 = .ok (.aload_n 0, 1) := by decide +kernel
theorem dX6_takeBack_77 : decode cX6_takeBack 77 = .ok (.getfield 12, 3) := by decide +kernel
theorem dX6_takeBack_80 : decode cX6_takeBack 80 = .ok (.iload_n 2, 1) := by decide +kernel
theorem dX6_takeBack_81 : decode cX6_takeBack 81 = .ok (.iload 4, 2) := by decide +kernel
theorem dX6_takeBack_83 : decode cX6_takeBack 83 = .ok (.iload 5, 2) := by decide +kernel
theorem dX6_takeBack_85 : decode cX6_takeBack 85 = .ok (.invokevirtual 78, 3) := by decide +kernel
theorem dX6_takeBack_88 : decode cX6_takeBack 88 = .ok (.goto 31, 3) := by decide +kernel
theorem dX6_takeBack_91 : decode cX6_takeBack 91 = .ok (.aload_n 0, 1) := by decide +kernel
theorem dX6_takeBack_92 : decode cX6_takeBack 92 = .ok (.getfield 19, 3) := by decide +kernel
theorem dX6_takeBack_95 : decode cX6_takeBack 95 = .ok (.iload_n 2, 1) := by decide +kernel
theorem dX6_takeBack_96 : decode cX6_takeBack 96 = .ok (.iload_n 3, 1) := by decide +kernel
theorem dX6_takeBack_97 : decode cX6_takeBack 97 = .ok (.invokevirtual 137, 3) := by decide +kernel
theorem dX6_takeBack_100 : decode cX6_takeBack 100 = .ok (.goto 19, 3) := by decide +kernel
theorem dX6_takeBack_103 : decode cX6_takeBack 103 = .ok (.aload_n 0, 1) := by decide +kernel
theorem dX6_takeBack_104 : decode cX6_takeBack 104 = .ok (.getfield 19, 3) := by decide +kernel
theorem dX6_takeBack_107 : decode cX6_takeBack 107 = .ok (.iload_n 2, 1) := by decide +kernel
theorem dX6_takeBack_108 : decode cX6_takeBack 108 = .ok (.iload_n 3, 1) := by decide +kernel
theorem dX6_takeBack_109 : decode cX6_takeBack 109 = .ok (.iload 4, 2) := by decide +kernel
theorem dX6_takeBack_111 : decode cX6_takeBack 111 = .ok (.iload 5, 2) := by decide +kernel
theorem dX6_takeBack_113 : decode cX6_takeBack 113 = .ok (.invokevirtual 119, 3) := by decide +kernel
theorem dX6_takeBack_116 : decode cX6_takeBack 116 = .ok (.goto 3, 3) := by decide +kernel
theorem dX6_takeBack_119 : decode cX6_takeBack 119 = .ok (.return_, 1) := by decide +kernel
theorem dX6_linesCross_0 : decode cX6_linesCross 0 = .ok (.aload_n 0, 1) := by decide +kernel
theorem dX6_linesCross_1 : decode cX6_linesCross 1 = .ok (.getfield 19, 3) := by decide +kernel
theorem dX6_linesCross_4 : decode cX6_linesCross 4 = .ok (.getfield 131, 3) := by decide +kernel
theorem dX6_linesCross_7 : decode cX6_linesCross 7 = .ok (.iload_n 1, 1) := by decide +kernel
theorem dX6_linesCross_8 : decode cX6_linesCross 8 = .ok (.iaload, 1) := by decide +kernel
theorem dX6_linesCross_9 : decode cX6_linesCross 9 = .ok (.istore_n 3, 1) := by decide +kernel
theorem dX6_linesCross_10 : decode cX6_linesCross 10 = .ok (.aload_n 0, 1) := by decide +kernel
theorem dX6_linesCross_11 : decode cX6_linesCross 11 = .ok (.getfield 19, 3) := by decide +kernel
theorem dX6_linesCross_14 : decode cX6_linesCross 14 = .ok (.getfield 134, 3) := by decide +kernel
theorem dX6_linesCross_17 : decode cX6_linesCross 17 = .ok (.iload_n 1, 1) := by decide +kernel
theorem dX6_linesCross_18 : decode cX6_linesCross 18 = .ok (.iaload, 1) := by decide +kernel
theorem dX6_linesCross_19 : decode cX6_linesCross 19 = .ok (.istore 4, 2) := by decide +kernel
theorem dX6_linesCross_21 : decode cX6_linesCross 21 = .ok (.aload_n 0, 1) := by decide +kernel
theorem dX6_linesCross_22 : decode cX6_linesCross 22 = .ok (.getfield 19, 3) := by decide +kernel
theorem dX6_linesCross_25 : decode cX6_linesCross 25 = .ok (.getfield 131, 3) := by decide +kernel
theorem dX6_linesCross_28 : decode cX6_linesCross 28 = .ok (.iload_n 2, 1) := by decide +kernel
theorem dX6_linesCross_29 : decode cX6_linesCross 29 = .ok (.iaload, 1) := by decide +kernel
theorem dX6_linesCross_30 : decode cX6_linesCross 30 = .ok (.istore 5, 2) := by decide +kernel
theorem dX6_linesCross_32 : decode cX6_linesCross 32 = .ok (.aload_n 0, 1) := by decide +kernel
theorem dX6_linesCross_33 : decode cX6_linesCross 33 = .ok (.getfield 19, 3) := by decide +kernel
theorem dX6_linesCross_36 : decode cX6_linesCross 36 = .ok (.getfield 134, 3) := by decide +kernel
theorem dX6_linesCross_39 : decode cX6_linesCross 39 = .ok (.iload_n 2, 1) := by decide +kernel
theorem dX6_linesCross_40 : decode cX6_linesCross 40 = .ok (.iaload, 1) := by decide +kernel
theorem dX6_linesCross_41 : decode cX6_linesCross 41 = .ok (.istore 6, 2) := by decide +kernel
theorem dX6_linesCross_43 : decode cX6_linesCross 43 = .ok (.iload_n 3, 1) := by decide +kernel
theorem dX6_linesCross_44 : decode cX6_linesCross 44 = .ok (.iload 5, 2) := by decide +kernel
theorem dX6_linesCross_46 : decode cX6_linesCross 46 = .ok (.if_icmp .eq 23, 3) := by decide +kernel
theorem dX6_linesCross_49 : decode cX6_linesCross 49 = .ok (.iload_n 3, 1) := by decide +kernel
theorem dX6_linesCross_50 : decode cX6_linesCross 50 = .ok (.iload 6, 2) := by decide +kernel
theorem dX6_linesCross_52 : decode cX6_linesCross 52 = .ok (.if_icmp .eq 17, 3) := by decide +kernel
theorem dX6_linesCross_55 : decode cX6_linesCross 55 = .ok (.iload 4, 2) := by decide +kernel
theorem dX6_linesCross_57 : decode cX6_linesCross 57 = .ok (.iload 5, 2) := by decide +kernel
theorem dX6_linesCross_59 : decode cX6_linesCross 59 = .ok (.if_icmp .eq 10, 3) := by decide +kernel
theorem dX6_linesCross_62 : decode cX6_linesCross 62 = .ok (.iload 4, 2) := by decide +kernel
theorem dX6_linesCross_64 : decode cX6_linesCross 64 = .ok (.iload 6, 2) := by decide +kernel
theorem dX6_linesCross_66 : decode cX6_linesCross 66 = .ok (.if_icmp .ne 7, 3) := by decide +kernel
theorem dX6_linesCross_69 : decode cX6_linesCross 69 = .ok (.iconst 1, 1) := by decide +kernel
theorem dX6_linesCross_70 : decode cX6_linesCross 70 = .ok (.goto 4, 3) := by decide +kernel
theorem dX6_linesCross_73 : decode cX6_linesCross 73 = .ok (.iconst 0, 1) := by decide +kernel
theorem dX6_linesCross_74 : decode cX6_linesCross 74 = .ok (.istore 7, 2) := by decide +kernel
theorem dX6_linesCross_76 : decode cX6_linesCross 76 = .ok (.iload 7, 2) := by decide +kernel
theorem dX6_linesCross_78 : decode cX6_linesCross 78 = .ok (.ifCond .ne 24, 3) := by decide +kernel
theorem dX6_linesCross_81 : decode cX6_linesCross 81 = .ok (.aload_n 0, 1) := by decide +kernel
theorem dX6_linesCross_82 : decode cX6_linesCross 82 = .ok (.getfield 12, 3) := by decide +kernel
theorem dX6_linesCross_85 : decode cX6_linesCross 85 = .ok (.iload_n 3, 1) := by decide +kernel
theorem dX6_linesCross_86 : decode cX6_linesCross 86 = .ok (.iload 4, 2) := by decide +kernel
theorem dX6_linesCross_88 : decode cX6_linesCross 88 = .ok (.iload 5, 2) := by decide +kernel
theorem dX6_linesCross_90 : decode cX6_linesCross 90 = .ok (.iload 6, 2) := by decide +kernel
theorem dX6_linesCross_92 : decode cX6_linesCross 92 = .ok (.invokevirtual 250, 3) := by decide +kernel
theorem dX6_linesCross_95 : decode cX6_linesCross 95 = .ok (.ifCond .eq 7, 3) := by decide +kernel
theorem dX6_linesCross_98 : decode cX6_linesCross 98 = .ok (.iconst 1, 1) := by decide +kernel
theorem dX6_linesCross_99 : decode cX6_linesCross 99 = .ok (.goto 4, 3) := by decide +kernel
theorem dX6_linesCross_102 : decode cX6_linesCross 102 = .ok (.iconst 0, 1) := by decide +kernel
theorem dX6_linesCross_103 : decode cX6_linesCross 103 = .ok (.ireturn, 1) := by decide +kernel
theorem dX6_skyTurn_0 : decode cX6_skyTurn 0 = .ok (.bipush 15, 2) := by decide +kernel
theorem dX6_skyTurn_2 : decode cX6_skyTurn 2 = .ok (.iload_n 1, 1) := by decide +kernel
theorem dX6_skyTurn_3 : decode cX6_skyTurn 3 = .ok (.imul, 1) := by decide +kernel
theorem dX6_skyTurn_4 : decode cX6_skyTurn 4 = .ok (.iload_n 0, 1) := by decide +kernel
theorem dX6_skyTurn_5 : decode cX6_skyTurn 5 = .ok (.iadd, 1) := by decide +kernel
theorem dX6_skyTurn_6 : decode cX6_skyTurn 6 = .ok (.ireturn, 1) := by decide +kernel
theorem dX6_figureIsUp_0 : decode cX6_figureIsUp 0 = .ok (.aload_n 0, 1) := by decide +kernel
theorem dX6_figureIsUp_1 : decode cX6_figureIsUp 1 = .ok (.iload_n 1, 1) := by decide +kernel
theorem dX6_figureIsUp_2 : decode cX6_figureIsUp 2 = .ok (.iload_n 2, 1) := by decide +kernel
theorem dX6_figureIsUp_3 : decode cX6_figureIsUp 3 = .ok (.iload_n 3, 1) := by decide +kernel
theorem dX6_figureIsUp_4 : decode cX6_figureIsUp 4 = .ok (.invokevirtual 198, 3) := by decide +kernel
theorem dX6_figureIsUp_7 : decode cX6_figureIsUp 7 = .ok (.ifCond .le 7, 3) := by decide +kernel
theorem dX6_figureIsUp_10 : decode cX6_figureIsUp 10 = .ok (.iconst 1, 1) := by decide +kernel
theorem dX6_figureIsUp_11 : decode cX6_figureIsUp 11 = .ok (.goto 4, 3) := by decide +kernel
theorem dX6_figureIsUp_14 : decode cX6_figureIsUp 14 = .ok (.iconst 0, 1) := by decide +kernel
theorem dX6_figureIsUp_15 : decode cX6_figureIsUp 15 = .ok (.ireturn, 1) := by decide +kernel
theorem dX6_lowestHeight_0 : decode cX6_lowestHeight 0 = .ok (.aload_n 0, 1) := by decide +kernel
theorem dX6_lowestHeight_1 : decode cX6_lowestHeight 1 = .ok (.getfield 19, 3) := by decide +kernel
theorem dX6_lowestHeight_4 : decode cX6_lowestHeight 4 = .ok (.getfield 102, 3) := by decide +kernel
theorem dX6_lowestHeight_7 : decode cX6_lowestHeight 7 = .ok (.iload_n 1, 1) := by decide +kernel
theorem dX6_lowestHeight_8 : decode cX6_lowestHeight 8 = .ok (.iaload, 1) := by decide +kernel
theorem dX6_lowestHeight_9 : decode cX6_lowestHeight 9 = .ok (.istore 4, 2) := by decide +kernel
theorem dX6_lowestHeight_11 : decode cX6_lowestHeight 11 = .ok (.iload 4, 2) := by decide +kernel
theorem dX6_lowestHeight_13 : decode cX6_lowestHeight 13 = .ok (.ifCond .ne 7, 3) := by decide +kernel
theorem dX6_lowestHeight_16 : decode cX6_lowestHeight 16 = .ok (.iconst 0, 1) := by decide +kernel
theorem dX6_lowestHeight_17 : decode cX6_lowestHeight 17 = .ok (.goto 6, 3) := by decide +kernel
theorem dX6_lowestHeight_20 : decode cX6_lowestHeight 20 = .ok (.sipush 1000, 3) := by decide +kernel
theorem dX6_lowestHeight_23 : decode cX6_lowestHeight 23 = .ok (.istore 5, 2) := by decide +kernel
theorem dX6_lowestHeight_25 : decode cX6_lowestHeight 25 = .ok (.iconst 0, 1) := by decide +kernel
theorem dX6_lowestHeight_26 : decode cX6_lowestHeight 26 = .ok (.istore 6, 2) := by decide +kernel
theorem dX6_lowestHeight_28 : decode cX6_lowestHeight 28 = .ok (.iload 6, 2) := by decide +kernel
theorem dX6_lowestHeight_30 : decode cX6_lowestHeight 30 = .ok (.iload 4, 2) := by decide +kernel
theorem dX6_lowestHeight_32 : decode cX6_lowestHeight 32 = .ok (.if_icmp .ge 69, 3) := by decide +kernel
theorem dX6_lowestHeight_35 : decode cX6_lowestHeight 35 = .ok (.iload_n 1, 1) := by decide +kernel
theorem dX6_lowestHeight_36 : decode cX6_lowestHeight 36 = .ok (.iload 6, 2) := by decide +kernel
theorem dX6_lowestHeight_38 : decode cX6_lowestHeight 38 = .ok (.invokestatic 128, 3) := by decide +kernel
theorem dX6_lowestHeight_41 : decode cX6_lowestHeight 41 = .ok (.istore 7, 2) := by decide +kernel
theorem dX6_lowestHeight_43 : decode cX6_lowestHeight 43 = .ok (.iload 5, 2) := by decide +kernel
theorem dX6_lowestHeight_45 : decode cX6_lowestHeight 45 = .ok (.aload_n 0, 1) := by decide +kernel
theorem dX6_lowestHeight_46 : decode cX6_lowestHeight 46 = .ok (.getfield 12, 3) := by decide +kernel
theorem dX6_lowestHeight_49 : decode cX6_lowestHeight 49 = .ok (.aload_n 0, 1) := by decide +kernel
theorem dX6_lowestHeight_50 : decode cX6_lowestHeight 50 = .ok (.getfield 19, 3) := by decide +kernel
theorem dX6_lowestHeight_53 : decode cX6_lowestHeight 53 = .ok (.getfield 131, 3) := by decide +kernel
theorem dX6_lowestHeight_56 : decode cX6_lowestHeight 56 = .ok (.iload 7, 2) := by decide +kernel
theorem dX6_lowestHeight_58 : decode cX6_lowestHeight 58 = .ok (.iaload, 1) := by decide +kernel
theorem dX6_lowestHeight_59 : decode cX6_lowestHeight 59 = .ok (.iload_n 2, 1) := by decide +kernel
theorem dX6_lowestHeight_60 : decode cX6_lowestHeight 60 = .ok (.iload_n 3, 1) := by decide +kernel
theorem dX6_lowestHeight_61 : decode cX6_lowestHeight 61 = .ok (.invokevirtual 188, 3) := by decide +kernel
theorem dX6_lowestHeight_64 : decode cX6_lowestHeight 64 = .ok (.invokestatic 254, 3) := by decide +kernel
theorem dX6_lowestHeight_67 : decode cX6_lowestHeight 67 = .ok (.istore 5, 2) := by decide +kernel
theorem dX6_lowestHeight_69 : decode cX6_lowestHeight 69 = .ok (.iload 5, 2) := by decide +kernel
theorem dX6_lowestHeight_71 : decode cX6_lowestHeight 71 = .ok (.aload_n 0, 1) := by decide +kernel
theorem dX6_lowestHeight_72 : decode cX6_lowestHeight 72 = .ok (.getfield 12, 3) := by decide +kernel
theorem dX6_lowestHeight_75 : decode cX6_lowestHeight 75 = .ok (.aload_n 0, 1) := by decide +kernel
theorem dX6_lowestHeight_76 : decode cX6_lowestHeight 76 = .ok (.getfield 19, 3) := by decide +kernel
theorem dX6_lowestHeight_79 : decode cX6_lowestHeight 79 = .ok (.getfield 134, 3) := by decide +kernel
theorem dX6_lowestHeight_82 : decode cX6_lowestHeight 82 = .ok (.iload 7, 2) := by decide +kernel
theorem dX6_lowestHeight_84 : decode cX6_lowestHeight 84 = .ok (.iaload, 1) := by decide +kernel
theorem dX6_lowestHeight_85 : decode cX6_lowestHeight 85 = .ok (.iload_n 2, 1) := by decide +kernel
theorem dX6_lowestHeight_86 : decode cX6_lowestHeight 86 = .ok (.iload_n 3, 1) := by decide +kernel
theorem dX6_lowestHeight_87 : decode cX6_lowestHeight 87 = .ok (.invokevirtual 188, 3) := by decide +kernel
theorem dX6_lowestHeight_90 : decode cX6_lowestHeight 90 = .ok (.invokestatic 254, 3) := by decide +kernel
theorem dX6_lowestHeight_93 : decode cX6_lowestHeight 93 = .ok (.istore 5, 2) := by decide +kernel
theorem dX6_lowestHeight_95 : decode cX6_lowestHeight 95 = .ok (.iinc 6 1, 3) := by decide +kernel
theorem dX6_lowestHeight_98 : decode cX6_lowestHeight 98 = .ok (.goto (-70), 3) := by decide +kernel
theorem dX6_lowestHeight_101 : decode cX6_lowestHeight 101 = .ok (.iload 5, 2) := by decide +kernel
theorem dX6_lowestHeight_103 : decode cX6_lowestHeight 103 = .ok (.ireturn, 1) := by decide +kernel
theorem dX6_hoursOfStar_0 : decode cX6_hoursOfStar 0 = .ok (.iconst 0, 1) := by decide +kernel
theorem dX6_hoursOfStar_1 : decode cX6_hoursOfStar 1 = .ok (.istore 4, 2) := by decide +kernel
theorem dX6_hoursOfStar_3 : decode cX6_hoursOfStar 3 = .ok (.iconst 0, 1) := by decide +kernel
theorem dX6_hoursOfStar_4 : decode cX6_hoursOfStar 4 = .ok (.istore 5, 2) := by decide +kernel
theorem dX6_hoursOfStar_6 : decode cX6_hoursOfStar 6 = .ok (.iload 5, 2) := by decide +kernel
theorem dX6_hoursOfStar_8 : decode cX6_hoursOfStar 8 = .ok (.bipush 24, 2) := by decide +kernel
theorem dX6_hoursOfStar_10 : decode cX6_hoursOfStar 10 = .ok (.if_icmp .ge 36, 3) := by decide +kernel
theorem dX6_hoursOfStar_13 : decode cX6_hoursOfStar 13 = .ok (.aload_n 0, 1) := by decide +kernel
theorem dX6_hoursOfStar_14 : decode cX6_hoursOfStar 14 = .ok (.getfield 12, 3) := by decide +kernel
theorem dX6_hoursOfStar_17 : decode cX6_hoursOfStar 17 = .ok (.iload_n 1, 1) := by decide +kernel
theorem dX6_hoursOfStar_18 : decode cX6_hoursOfStar 18 = .ok (.iload_n 2, 1) := by decide +kernel
theorem dX6_hoursOfStar_19 : decode cX6_hoursOfStar 19 = .ok (.iload_n 3, 1) := by decide +kernel
theorem dX6_hoursOfStar_20 : decode cX6_hoursOfStar 20 = .ok (.iload 5, 2) := by decide +kernel
theorem dX6_hoursOfStar_22 : decode cX6_hoursOfStar 22 = .ok (.invokestatic 185, 3) := by decide +kernel
theorem dX6_hoursOfStar_25 : decode cX6_hoursOfStar 25 = .ok (.invokevirtual 188, 3) := by decide +kernel
theorem dX6_hoursOfStar_28 : decode cX6_hoursOfStar 28 = .ok (.ifCond .le 12, 3) := by decide +kernel
theorem dX6_hoursOfStar_31 : decode cX6_hoursOfStar 31 = .ok (.iload 4, 2) := by decide +kernel
theorem dX6_hoursOfStar_33 : decode cX6_hoursOfStar 33 = .ok (.iconst 1, 1) := by decide +kernel
theorem dX6_hoursOfStar_34 : decode cX6_hoursOfStar 34 = .ok (.iload 5, 2) := by decide +kernel
theorem dX6_hoursOfStar_36 : decode cX6_hoursOfStar 36 = .ok (.ishl, 1) := by decide +kernel
theorem dX6_hoursOfStar_37 : decode cX6_hoursOfStar 37 = .ok (.ior, 1) := by decide +kernel
theorem dX6_hoursOfStar_38 : decode cX6_hoursOfStar 38 = .ok (.istore 4, 2) := by decide +kernel
theorem dX6_hoursOfStar_40 : decode cX6_hoursOfStar 40 = .ok (.iinc 5 1, 3) := by decide +kernel
theorem dX6_hoursOfStar_43 : decode cX6_hoursOfStar 43 = .ok (.goto (-37), 3) := by decide +kernel
theorem dX6_hoursOfStar_46 : decode cX6_hoursOfStar 46 = .ok (.iload 4, 2) := by decide +kernel
theorem dX6_hoursOfStar_48 : decode cX6_hoursOfStar 48 = .ok (.ireturn, 1) := by decide +kernel
theorem dX6_showIsWrong_0 : decode cX6_showIsWrong 0 = .ok (.aload_n 0, 1) := by decide +kernel
theorem dX6_showIsWrong_1 : decode cX6_showIsWrong 1 = .ok (.getfield 33, 3) := by decide +kernel
theorem dX6_showIsWrong_4 : decode cX6_showIsWrong 4 = .ok (.getfield 259, 3) := by decide +kernel
theorem dX6_showIsWrong_7 : decode cX6_showIsWrong 7 = .ok (.iload_n 1, 1) := by decide +kernel
theorem dX6_showIsWrong_8 : decode cX6_showIsWrong 8 = .ok (.iaload, 1) := by decide +kernel
theorem dX6_showIsWrong_9 : decode cX6_showIsWrong 9 = .ok (.istore_n 2, 1) := by decide +kernel
theorem dX6_showIsWrong_10 : decode cX6_showIsWrong 10 = .ok (.aload_n 0, 1) := by decide +kernel
theorem dX6_showIsWrong_11 : decode cX6_showIsWrong 11 = .ok (.getfield 26, 3) := by decide +kernel
theorem dX6_showIsWrong_14 : decode cX6_showIsWrong 14 = .ok (.getfield 173, 3) := by decide +kernel
theorem dX6_showIsWrong_17 : decode cX6_showIsWrong 17 = .ok (.iload_n 2, 1) := by decide +kernel
theorem dX6_showIsWrong_18 : decode cX6_showIsWrong 18 = .ok (.iaload, 1) := by decide +kernel
theorem dX6_showIsWrong_19 : decode cX6_showIsWrong 19 = .ok (.aload_n 0, 1) := by decide +kernel
theorem dX6_showIsWrong_20 : decode cX6_showIsWrong 20 = .ok (.getfield 33, 3) := by decide +kernel
theorem dX6_showIsWrong_23 : decode cX6_showIsWrong 23 = .ok (.getfield 262, 3) := by decide +kernel
theorem dX6_showIsWrong_26 : decode cX6_showIsWrong 26 = .ok (.iload_n 1, 1) := by decide +kernel
theorem dX6_showIsWrong_27 : decode cX6_showIsWrong 27 = .ok (.iaload, 1) := by decide +kernel
theorem dX6_showIsWrong_28 : decode cX6_showIsWrong 28 = .ok (.if_icmp .ne 29, 3) := by decide +kernel
theorem dX6_showIsWrong_31 : decode cX6_showIsWrong 31 = .ok (.aload_n 0, 1) := by decide +kernel
theorem dX6_showIsWrong_32 : decode cX6_showIsWrong 32 = .ok (.iload_n 2, 1) := by decide +kernel
theorem dX6_showIsWrong_33 : decode cX6_showIsWrong 33 = .ok (.aload_n 0, 1) := by decide +kernel
theorem dX6_showIsWrong_34 : decode cX6_showIsWrong 34 = .ok (.getfield 33, 3) := by decide +kernel
theorem dX6_showIsWrong_37 : decode cX6_showIsWrong 37 = .ok (.getfield 265, 3) := by decide +kernel
theorem dX6_showIsWrong_40 : decode cX6_showIsWrong 40 = .ok (.iload_n 1, 1) := by decide +kernel
theorem dX6_showIsWrong_41 : decode cX6_showIsWrong 41 = .ok (.iaload, 1) := by decide +kernel
theorem dX6_showIsWrong_42 : decode cX6_showIsWrong 42 = .ok (.aload_n 0, 1) := by decide +kernel
theorem dX6_showIsWrong_43 : decode cX6_showIsWrong 43 = .ok (.getfield 33, 3) := by decide +kernel
theorem dX6_showIsWrong_46 : decode cX6_showIsWrong 46 = .ok (.getfield 268, 3) := by decide +kernel
theorem dX6_showIsWrong_49 : decode cX6_showIsWrong 49 = .ok (.iload_n 1, 1) := by decide +kernel
theorem dX6_showIsWrong_50 : decode cX6_showIsWrong 50 = .ok (.iaload, 1) := by decide +kernel
theorem dX6_showIsWrong_51 : decode cX6_showIsWrong 51 = .ok (.invokevirtual 198, 3) := by decide +kernel
theorem dX6_showIsWrong_54 : decode cX6_showIsWrong 54 = .ok (.ifCond .gt 7, 3) := by decide +kernel
theorem dX6_showIsWrong_57 : decode cX6_showIsWrong 57 = .ok (.iconst 1, 1) := by decide +kernel
theorem dX6_showIsWrong_58 : decode cX6_showIsWrong 58 = .ok (.goto 4, 3) := by decide +kernel
theorem dX6_showIsWrong_61 : decode cX6_showIsWrong 61 = .ok (.iconst 0, 1) := by decide +kernel
theorem dX6_showIsWrong_62 : decode cX6_showIsWrong 62 = .ok (.ireturn, 1) := by decide +kernel
theorem dX6_countWrongShows_0 : decode cX6_countWrongShows 0 = .ok (.iconst 0, 1) := by decide +kernel
theorem dX6_countWrongShows_1 : decode cX6_countWrongShows 1 = .ok (.istore_n 1, 1) := by decide +kernel
theorem dX6_countWrongShows_2 : decode cX6_countWrongShows 2 = .ok (.iconst 0, 1) := by decide +kernel
theorem dX6_countWrongShows_3 : decode cX6_countWrongShows 3 = .ok (.istore_n 2, 1) := by decide +kernel
theorem dX6_countWrongShows_4 : decode cX6_countWrongShows 4 = .ok (.iload_n 2, 1) := by decide +kernel
theorem dX6_countWrongShows_5 : decode cX6_countWrongShows 5 = .ok (.aload_n 0, 1) := by decide +kernel
theorem dX6_countWrongShows_6 : decode cX6_countWrongShows 6 = .ok (.getfield 33, 3) := by decide +kernel
theorem dX6_countWrongShows_9 : decode cX6_countWrongShows 9 = .ok (.getfield 205, 3) := by decide +kernel
theorem dX6_countWrongShows_12 : decode cX6_countWrongShows 12 = .ok (.if_icmp .ge 20, 3) := by decide +kernel
theorem dX6_countWrongShows_15 : decode cX6_countWrongShows 15 = .ok (.aload_n 0, 1) := by decide +kernel
theorem dX6_countWrongShows_16 : decode cX6_countWrongShows 16 = .ok (.iload_n 2, 1) := by decide +kernel
theorem dX6_countWrongShows_17 : decode cX6_countWrongShows 17 = .ok (.invokevirtual 215, 3) := by decide +kernel
theorem dX6_countWrongShows_20 : decode cX6_countWrongShows 20 = .ok (.ifCond .eq 6, 3) := by decide +kernel
theorem dX6_countWrongShows_23 : decode cX6_countWrongShows 23 = .ok (.iinc 1 1, 3) := by decide +kernel
theorem dX6_countWrongShows_26 : decode cX6_countWrongShows 26 = .ok (.iinc 2 1, 3) := by decide +kernel
theorem dX6_countWrongShows_29 : decode cX6_countWrongShows 29 = .ok (.goto (-25), 3) := by decide +kernel
theorem dX6_countWrongShows_32 : decode cX6_countWrongShows 32 = .ok (.iload_n 1, 1) := by decide +kernel
theorem dX6_countWrongShows_33 : decode cX6_countWrongShows 33 = .ok (.ireturn, 1) := by decide +kernel
theorem dJ6_compare_7cf53_0 : decode cJ6_compare_7cf53 0 = .ok (.iload_n 0, 1) := by decide +kernel
theorem dJ6_compare_7cf53_1 : decode cJ6_compare_7cf53 1 = .ok (.iload_n 1, 1) := by decide +kernel
theorem dJ6_compare_7cf53_2 : decode cJ6_compare_7cf53 2 = .ok (.if_icmp .ge 7, 3) := by decide +kernel
theorem dJ6_compare_7cf53_5 : decode cJ6_compare_7cf53 5 = .ok (.iconst (-1), 1) := by decide +kernel
theorem dJ6_compare_7cf53_6 : decode cJ6_compare_7cf53 6 = .ok (.goto 13, 3) := by decide +kernel
theorem dJ6_compare_7cf53_9 : decode cJ6_compare_7cf53 9 = .ok (.iload_n 0, 1) := by decide +kernel
theorem dJ6_compare_7cf53_10 : decode cJ6_compare_7cf53 10 = .ok (.iload_n 1, 1) := by decide +kernel
theorem dJ6_compare_7cf53_11 : decode cJ6_compare_7cf53 11 = .ok (.if_icmp .ne 7, 3) := by decide +kernel
theorem dJ6_compare_7cf53_14 : decode cJ6_compare_7cf53 14 = .ok (.iconst 0, 1) := by decide +kernel
theorem dJ6_compare_7cf53_15 : decode cJ6_compare_7cf53 15 = .ok (.goto 4, 3) := by decide +kernel
theorem dJ6_compare_7cf53_18 : decode cJ6_compare_7cf53 18 = .ok (.iconst 1, 1) := by decide +kernel
theorem dJ6_compare_7cf53_19 : decode cJ6_compare_7cf53 19 = .ok (.ireturn, 1) := by decide +kernel
theorem dJ9_floorDiv_7cf53_0 : decode cJ9_floorDiv_7cf53 0 = .ok (.iload_n 0, 1) := by decide +kernel
theorem dJ9_floorDiv_7cf53_1 : decode cJ9_floorDiv_7cf53 1 = .ok (.iload_n 1, 1) := by decide +kernel
theorem dJ9_floorDiv_7cf53_2 : decode cJ9_floorDiv_7cf53 2 = .ok (.idiv, 1) := by decide +kernel
theorem dJ9_floorDiv_7cf53_3 : decode cJ9_floorDiv_7cf53 3 = .ok (.istore_n 2, 1) := by decide +kernel
theorem dJ9_floorDiv_7cf53_4 : decode cJ9_floorDiv_7cf53 4 = .ok (.iload_n 0, 1) := by decide +kernel
theorem dJ9_floorDiv_7cf53_5 : decode cJ9_floorDiv_7cf53 5 = .ok (.iload_n 1, 1) := by decide +kernel
theorem dJ9_floorDiv_7cf53_6 : decode cJ9_floorDiv_7cf53 6 = .ok (.ixor, 1) := by decide +kernel
theorem dJ9_floorDiv_7cf53_7 : decode cJ9_floorDiv_7cf53 7 = .ok (.ifCond .ge 14, 3) := by decide +kernel
theorem dJ9_floorDiv_7cf53_10 : decode cJ9_floorDiv_7cf53 10 = .ok (.iload_n 2, 1) := by decide +kernel
theorem dJ9_floorDiv_7cf53_11 : decode cJ9_floorDiv_7cf53 11 = .ok (.iload_n 1, 1) := by decide +kernel
theorem dJ9_floorDiv_7cf53_12 : decode cJ9_floorDiv_7cf53 12 = .ok (.imul, 1) := by decide +kernel
theorem dJ9_floorDiv_7cf53_13 : decode cJ9_floorDiv_7cf53 13 = .ok (.iload_n 0, 1) := by decide +kernel
theorem dJ9_floorDiv_7cf53_14 : decode cJ9_floorDiv_7cf53 14 = .ok (.if_icmp .eq 7, 3) := by decide +kernel
theorem dJ9_floorDiv_7cf53_17 : decode cJ9_floorDiv_7cf53 17 = .ok (.iload_n 2, 1) := by decide +kernel
theorem dJ9_floorDiv_7cf53_18 : decode cJ9_floorDiv_7cf53 18 = .ok (.iconst 1, 1) := by decide +kernel
theorem dJ9_floorDiv_7cf53_19 : decode cJ9_floorDiv_7cf53 19 = .ok (.isub, 1) := by decide +kernel
theorem dJ9_floorDiv_7cf53_20 : decode cJ9_floorDiv_7cf53 20 = .ok (.ireturn, 1) := by decide +kernel
theorem dJ9_floorDiv_7cf53_21 : decode cJ9_floorDiv_7cf53 21 = .ok (.iload_n 2, 1) := by decide +kernel
theorem dJ9_floorDiv_7cf53_22 : decode cJ9_floorDiv_7cf53 22 = .ok (.ireturn, 1) := by decide +kernel
theorem dJ9_floorMod_7cf53_0 : decode cJ9_floorMod_7cf53 0 = .ok (.iload_n 0, 1) := by decide +kernel
theorem dJ9_floorMod_7cf53_1 : decode cJ9_floorMod_7cf53 1 = .ok (.iload_n 1, 1) := by decide +kernel
theorem dJ9_floorMod_7cf53_2 : decode cJ9_floorMod_7cf53 2 = .ok (.irem, 1) := by decide +kernel
theorem dJ9_floorMod_7cf53_3 : decode cJ9_floorMod_7cf53 3 = .ok (.istore_n 2, 1) := by decide +kernel
theorem dJ9_floorMod_7cf53_4 : decode cJ9_floorMod_7cf53 4 = .ok (.iload_n 0, 1) := by decide +kernel
theorem dJ9_floorMod_7cf53_5 : decode cJ9_floorMod_7cf53 5 = .ok (.iload_n 1, 1) := by decide +kernel
theorem dJ9_floorMod_7cf53_6 : decode cJ9_floorMod_7cf53 6 = .ok (.ixor, 1) := by decide +kernel
theorem dJ9_floorMod_7cf53_7 : decode cJ9_floorMod_7cf53 7 = .ok (.ifCond .ge 11, 3) := by decide +kernel
theorem dJ9_floorMod_7cf53_10 : decode cJ9_floorMod_7cf53 10 = .ok (.iload_n 2, 1) := by decide +kernel
theorem dJ9_floorMod_7cf53_11 : decode cJ9_floorMod_7cf53 11 = .ok (.ifCond .eq 7, 3) := by decide +kernel
theorem dJ9_floorMod_7cf53_14 : decode cJ9_floorMod_7cf53 14 = .ok (.iload_n 2, 1) := by decide +kernel
theorem dJ9_floorMod_7cf53_15 : decode cJ9_floorMod_7cf53 15 = .ok (.iload_n 1, 1) := by decide +kernel
theorem dJ9_floorMod_7cf53_16 : decode cJ9_floorMod_7cf53 16 = .ok (.iadd, 1) := by decide +kernel
theorem dJ9_floorMod_7cf53_17 : decode cJ9_floorMod_7cf53 17 = .ok (.ireturn, 1) := by decide +kernel
theorem dJ9_floorMod_7cf53_18 : decode cJ9_floorMod_7cf53 18 = .ok (.iload_n 2, 1) := by decide +kernel
theorem dJ9_floorMod_7cf53_19 : decode cJ9_floorMod_7cf53 19 = .ok (.ireturn, 1) := by decide +kernel
theorem dJ9_max_7cf53_0 : decode cJ9_max_7cf53 0 = .ok (.iload_n 0, 1) := by decide +kernel
theorem dJ9_max_7cf53_1 : decode cJ9_max_7cf53 1 = .ok (.iload_n 1, 1) := by decide +kernel
theorem dJ9_max_7cf53_2 : decode cJ9_max_7cf53 2 = .ok (.if_icmp .lt 7, 3) := by decide +kernel
theorem dJ9_max_7cf53_5 : decode cJ9_max_7cf53 5 = .ok (.iload_n 0, 1) := by decide +kernel
theorem dJ9_max_7cf53_6 : decode cJ9_max_7cf53 6 = .ok (.goto 4, 3) := by decide +kernel
theorem dJ9_max_7cf53_9 : decode cJ9_max_7cf53 9 = .ok (.iload_n 1, 1) := by decide +kernel
theorem dJ9_max_7cf53_10 : decode cJ9_max_7cf53 10 = .ok (.ireturn, 1) := by decide +kernel
theorem dJ9_min_7cf53_0 : decode cJ9_min_7cf53 0 = .ok (.iload_n 0, 1) := by decide +kernel
theorem dJ9_min_7cf53_1 : decode cJ9_min_7cf53 1 = .ok (.iload_n 1, 1) := by decide +kernel
theorem dJ9_min_7cf53_2 : decode cJ9_min_7cf53 2 = .ok (.if_icmp .gt 7, 3) := by decide +kernel
theorem dJ9_min_7cf53_5 : decode cJ9_min_7cf53 5 = .ok (.iload_n 0, 1) := by decide +kernel
theorem dJ9_min_7cf53_6 : decode cJ9_min_7cf53 6 = .ok (.goto 4, 3) := by decide +kernel
theorem dJ9_min_7cf53_9 : decode cJ9_min_7cf53 9 = .ok (.iload_n 1, 1) := by decide +kernel
theorem dJ9_min_7cf53_10 : decode cJ9_min_7cf53 10 = .ok (.ireturn, 1) := by decide +kernel
theorem dJ7_fill_53178_0 : decode cJ7_fill_53178 0 = .ok (.iconst 0, 1) := by decide +kernel
theorem dJ7_fill_53178_1 : decode cJ7_fill_53178 1 = .ok (.istore_n 2, 1) := by decide +kernel
theorem dJ7_fill_53178_2 : decode cJ7_fill_53178 2 = .ok (.aload_n 0, 1) := by decide +kernel
theorem dJ7_fill_53178_3 : decode cJ7_fill_53178 3 = .ok (.arraylength, 1) := by decide +kernel
theorem dJ7_fill_53178_4 : decode cJ7_fill_53178 4 = .ok (.istore_n 3, 1) := by decide +kernel
theorem dJ7_fill_53178_5 : decode cJ7_fill_53178 5 = .ok (.iload_n 2, 1) := by decide +kernel
theorem dJ7_fill_53178_6 : decode cJ7_fill_53178 6 = .ok (.iload_n 3, 1) := by decide +kernel
theorem dJ7_fill_53178_7 : decode cJ7_fill_53178 7 = .ok (.if_icmp .ge 13, 3) := by decide +kernel
theorem dJ7_fill_53178_10 : decode cJ7_fill_53178 10 = .ok (.aload_n 0, 1) := by decide +kernel
theorem dJ7_fill_53178_11 : decode cJ7_fill_53178 11 = .ok (.iload_n 2, 1) := by decide +kernel
theorem dJ7_fill_53178_12 : decode cJ7_fill_53178 12 = .ok (.iload_n 1, 1) := by decide +kernel
theorem dJ7_fill_53178_13 : decode cJ7_fill_53178 13 = .ok (.iastore, 1) := by decide +kernel
theorem dJ7_fill_53178_14 : decode cJ7_fill_53178 14 = .ok (.iinc 2 1, 3) := by decide +kernel
theorem dJ7_fill_53178_17 : decode cJ7_fill_53178 17 = .ok (.goto (-12), 3) := by decide +kernel
theorem dJ7_fill_53178_20 : decode cJ7_fill_53178 20 = .ok (.return_, 1) := by decide +kernel
theorem dL_draws_0 : decode cL_draws 0 = .ok (.aload_n 0, 1) := by decide +kernel
theorem dL_draws_1 : decode cL_draws 1 = .ok (.iload_n 1, 1) := by decide +kernel
theorem dL_draws_2 : decode cL_draws 2 = .ok (.iload_n 2, 1) := by decide +kernel
theorem dL_draws_3 : decode cL_draws 3 = .ok (.iload_n 3, 1) := by decide +kernel
theorem dL_draws_4 : decode cL_draws 4 = .ok (.invokevirtual 7, 3) := by decide +kernel
theorem dL_draws_7 : decode cL_draws 7 = .ok (.ireturn, 1) := by decide +kernel
theorem dL_draws_8 : decode cL_draws 8 = .ok (.astore 4, 2) := by decide +kernel
theorem dL_draws_10 : decode cL_draws 10 = .ok (.bipush (-2), 2) := by decide +kernel
theorem dL_draws_12 : decode cL_draws 12 = .ok (.ireturn, 1) := by decide +kernel
theorem dL_draws_13 : decode cL_draws 13 = .ok (.astore 4, 2) := by decide +kernel
theorem dL_draws_15 : decode cL_draws 15 = .ok (.bipush (-3), 2) := by decide +kernel
theorem dL_draws_17 : decode cL_draws 17 = .ok (.ireturn, 1) := by decide +kernel
theorem dL_undoes_0 : decode cL_undoes 0 = .ok (.aload_n 0, 1) := by decide +kernel
theorem dL_undoes_1 : decode cL_undoes 1 = .ok (.invokevirtual 17, 3) := by decide +kernel
theorem dL_undoes_4 : decode cL_undoes 4 = .ok (.ireturn, 1) := by decide +kernel
theorem dL_undoes_5 : decode cL_undoes 5 = .ok (.astore_n 1, 1) := by decide +kernel
theorem dL_undoes_6 : decode cL_undoes 6 = .ok (.bipush (-3), 2) := by decide +kernel
theorem dL_undoes_8 : decode cL_undoes 8 = .ok (.ireturn, 1) := by decide +kernel
theorem dL_plans_0 : decode cL_plans 0 = .ok (.aload_n 0, 1) := by decide +kernel
theorem dL_plans_1 : decode cL_plans 1 = .ok (.iload_n 1, 1) := by decide +kernel
theorem dL_plans_2 : decode cL_plans 2 = .ok (.iload_n 2, 1) := by decide +kernel
theorem dL_plans_3 : decode cL_plans 3 = .ok (.iload_n 3, 1) := by decide +kernel
theorem dL_plans_4 : decode cL_plans 4 = .ok (.iload 4, 2) := by decide +kernel
theorem dL_plans_6 : decode cL_plans 6 = .ok (.invokevirtual 21, 3) := by decide +kernel
theorem dL_plans_9 : decode cL_plans 9 = .ok (.ireturn, 1) := by decide +kernel
theorem dL_plans_10 : decode cL_plans 10 = .ok (.astore 5, 2) := by decide +kernel
theorem dL_plans_12 : decode cL_plans 12 = .ok (.bipush (-3), 2) := by decide +kernel
theorem dL_plans_14 : decode cL_plans 14 = .ok (.ireturn, 1) := by decide +kernel
theorem dL_print_0 : decode cL_print 0 = .ok (.ldc2_w 25, 3) := by decide +kernel
theorem dL_print_3 : decode cL_print 3 = .ok (.lstore_n 1, 1) := by decide +kernel
theorem dL_print_4 : decode cL_print 4 = .ok (.iconst 0, 1) := by decide +kernel
theorem dL_print_5 : decode cL_print 5 = .ok (.istore_n 3, 1) := by decide +kernel
theorem dL_print_6 : decode cL_print 6 = .ok (.iload_n 3, 1) := by decide +kernel
theorem dL_print_7 : decode cL_print 7 = .ok (.aload_n 0, 1) := by decide +kernel
theorem dL_print_8 : decode cL_print 8 = .ok (.invokevirtual 27, 3) := by decide +kernel
theorem dL_print_11 : decode cL_print 11 = .ok (.if_icmp .ge 35, 3) := by decide +kernel
theorem dL_print_14 : decode cL_print 14 = .ok (.lload_n 1, 1) := by decide +kernel
theorem dL_print_15 : decode cL_print 15 = .ok (.ldc2_w 30, 3) := by decide +kernel
theorem dL_print_18 : decode cL_print 18 = .ok (.lmul, 1) := by decide +kernel
theorem dL_print_19 : decode cL_print 19 = .ok (.aload_n 0, 1) := by decide +kernel
theorem dL_print_20 : decode cL_print 20 = .ok (.iload_n 3, 1) := by decide +kernel
theorem dL_print_21 : decode cL_print 21 = .ok (.invokevirtual 32, 3) := by decide +kernel
theorem dL_print_24 : decode cL_print 24 = .ok (.i2l, 1) := by decide +kernel
theorem dL_print_25 : decode cL_print 25 = .ok (.ladd, 1) := by decide +kernel
theorem dL_print_26 : decode cL_print 26 = .ok (.lstore_n 1, 1) := by decide +kernel
theorem dL_print_27 : decode cL_print 27 = .ok (.lload_n 1, 1) := by decide +kernel
theorem dL_print_28 : decode cL_print 28 = .ok (.ldc2_w 36, 3) := by decide +kernel
theorem dL_print_31 : decode cL_print 31 = .ok (.lmul, 1) := by decide +kernel
theorem dL_print_32 : decode cL_print 32 = .ok (.aload_n 0, 1) := by decide +kernel
theorem dL_print_33 : decode cL_print 33 = .ok (.iload_n 3, 1) := by decide +kernel
theorem dL_print_34 : decode cL_print 34 = .ok (.invokevirtual 38, 3) := by decide +kernel
theorem dL_print_37 : decode cL_print 37 = .ok (.i2l, 1) := by decide +kernel
theorem dL_print_38 : decode cL_print 38 = .ok (.ladd, 1) := by decide +kernel
theorem dL_print_39 : decode cL_print 39 = .ok (.lstore_n 1, 1) := by decide +kernel
theorem dL_print_40 : decode cL_print 40 = .ok (.iinc 3 1, 3) := by decide +kernel
theorem dL_print_43 : decode cL_print 43 = .ok (.goto (-37), 3) := by decide +kernel
theorem dL_print_46 : decode cL_print 46 = .ok (.iconst 0, 1) := by decide +kernel
theorem dL_print_47 : decode cL_print 47 = .ok (.istore_n 3, 1) := by decide +kernel
theorem dL_print_48 : decode cL_print 48 = .ok (.iload_n 3, 1) := by decide +kernel
theorem dL_print_49 : decode cL_print 49 = .ok (.aload_n 0, 1) := by decide +kernel
theorem dL_print_50 : decode cL_print 50 = .ok (.invokevirtual 41, 3) := by decide +kernel
theorem dL_print_53 : decode cL_print 53 = .ok (.if_icmp .ge 36, 3) := by decide +kernel
theorem dL_print_56 : decode cL_print 56 = .ok (.lload_n 1, 1) := by decide +kernel
theorem dL_print_57 : decode cL_print 57 = .ok (.ldc2_w 36, 3) := by decide +kernel
theorem dL_print_60 : decode cL_print 60 = .ok (.lmul, 1) := by decide +kernel
theorem dL_print_61 : decode cL_print 61 = .ok (.aload_n 0, 1) := by decide +kernel
theorem dL_print_62 : decode cL_print 62 = .ok (.iload_n 3, 1) := by decide +kernel
theorem dL_print_63 : decode cL_print 63 = .ok (.invokevirtual 44, 3) := by decide +kernel
theorem dL_print_66 : decode cL_print 66 = .ok (.i2l, 1) := by decide +kernel
theorem dL_print_67 : decode cL_print 67 = .ok (.ladd, 1) := by decide +kernel
theorem dL_print_68 : decode cL_print 68 = .ok (.lstore_n 1, 1) := by decide +kernel
theorem dL_print_69 : decode cL_print 69 = .ok (.lload_n 1, 1) := by decide +kernel
theorem dL_print_70 : decode cL_print 70 = .ok (.ldc2_w 47, 3) := by decide +kernel
theorem dL_print_73 : decode cL_print 73 = .ok (.lmul, 1) := by decide +kernel
theorem dL_print_74 : decode cL_print 74 = .ok (.aload_n 0, 1) := by decide +kernel
theorem dL_print_75 : decode cL_print 75 = .ok (.iload_n 3, 1) := by decide +kernel
theorem dL_print_76 : decode cL_print 76 = .ok (.iload_n 3, 1) := by decide +kernel
theorem dL_print_77 : decode cL_print 77 = .ok (.invokevirtual 49, 3) := by decide +kernel
theorem dL_print_80 : decode cL_print 80 = .ok (.i2l, 1) := by decide +kernel
theorem dL_print_81 : decode cL_print 81 = .ok (.ladd, 1) := by decide +kernel
theorem dL_print_82 : decode cL_print 82 = .ok (.lstore_n 1, 1) := by decide +kernel
theorem dL_print_83 : decode cL_print 83 = .ok (.iinc 3 1, 3) := by decide +kernel
theorem dL_print_86 : decode cL_print 86 = .ok (.goto (-38), 3) := by decide +kernel
theorem dL_print_89 : decode cL_print 89 = .ok (.lload_n 1, 1) := by decide +kernel
theorem dL_print_90 : decode cL_print 90 = .ok (.lreturn, 1) := by decide +kernel
theorem dL_areNames_0 : decode cL_areNames 0 = .ok (.iconst 0, 1) := by decide +kernel
theorem dL_areNames_1 : decode cL_areNames 1 = .ok (.istore_n 1, 1) := by decide +kernel
theorem dL_areNames_2 : decode cL_areNames 2 = .ok (.iconst 1, 1) := by decide +kernel
theorem dL_areNames_3 : decode cL_areNames 3 = .ok (.istore_n 2, 1) := by decide +kernel
theorem dL_areNames_4 : decode cL_areNames 4 = .ok (.iconst 0, 1) := by decide +kernel
theorem dL_areNames_5 : decode cL_areNames 5 = .ok (.istore_n 3, 1) := by decide +kernel
theorem dL_areNames_6 : decode cL_areNames 6 = .ok (.iload_n 3, 1) := by decide +kernel
theorem dL_areNames_7 : decode cL_areNames 7 = .ok (.aload_n 0, 1) := by decide +kernel
theorem dL_areNames_8 : decode cL_areNames 8 = .ok (.invokevirtual 41, 3) := by decide +kernel
theorem dL_areNames_11 : decode cL_areNames 11 = .ok (.if_icmp .ge 68, 3) := by decide +kernel
theorem dL_areNames_14 : decode cL_areNames 14 = .ok (.iload_n 2, 1) := by decide +kernel
theorem dL_areNames_15 : decode cL_areNames 15 = .ok (.ifCond .eq 64, 3) := by decide +kernel
theorem dL_areNames_18 : decode cL_areNames 18 = .ok (.aload_n 0, 1) := by decide +kernel
theorem dL_areNames_19 : decode cL_areNames 19 = .ok (.iload_n 3, 1) := by decide +kernel
theorem dL_areNames_20 : decode cL_areNames 20 = .ok (.invokevirtual 53, 3) := by decide +kernel
theorem dL_areNames_23 : decode cL_areNames 23 = .ok (.istore 4, 2) := by decide +kernel
theorem dL_areNames_25 : decode cL_areNames 25 = .ok (.iload 4, 2) := by decide +kernel
theorem dL_areNames_27 : decode cL_areNames 27 = .ok (.iconst (-1), 1) := by decide +kernel
theorem dL_areNames_28 : decode cL_areNames 28 = .ok (.if_icmp .eq 22, 3) := by decide +kernel
theorem dL_areNames_31 : decode cL_areNames 31 = .ok (.iload_n 1, 1) := by decide +kernel
theorem dL_areNames_32 : decode cL_areNames 32 = .ok (.iload 4, 2) := by decide +kernel
theorem dL_areNames_34 : decode cL_areNames 34 = .ok (.ishr, 1) := by decide +kernel
theorem dL_areNames_35 : decode cL_areNames 35 = .ok (.iconst 1, 1) := by decide +kernel
theorem dL_areNames_36 : decode cL_areNames 36 = .ok (.iand, 1) := by decide +kernel
theorem dL_areNames_37 : decode cL_areNames 37 = .ok (.ifCond .ne 17, 3) := by decide +kernel
theorem dL_areNames_40 : decode cL_areNames 40 = .ok (.aload_n 0, 1) := by decide +kernel
theorem dL_areNames_41 : decode cL_areNames 41 = .ok (.iload_n 3, 1) := by decide +kernel
theorem dL_areNames_42 : decode cL_areNames 42 = .ok (.iload 4, 2) := by decide +kernel
theorem dL_areNames_44 : decode cL_areNames 44 = .ok (.invokevirtual 56, 3) := by decide +kernel
theorem dL_areNames_47 : decode cL_areNames 47 = .ok (.ifCond .le 7, 3) := by decide +kernel
theorem dL_areNames_50 : decode cL_areNames 50 = .ok (.iconst 1, 1) := by decide +kernel
theorem dL_areNames_51 : decode cL_areNames 51 = .ok (.goto 4, 3) := by decide +kernel
theorem dL_areNames_54 : decode cL_areNames 54 = .ok (.iconst 0, 1) := by decide +kernel
theorem dL_areNames_55 : decode cL_areNames 55 = .ok (.istore_n 2, 1) := by decide +kernel
theorem dL_areNames_56 : decode cL_areNames 56 = .ok (.iload_n 1, 1) := by decide +kernel
theorem dL_areNames_57 : decode cL_areNames 57 = .ok (.iload 4, 2) := by decide +kernel
theorem dL_areNames_59 : decode cL_areNames 59 = .ok (.iconst (-1), 1) := by decide +kernel
theorem dL_areNames_60 : decode cL_areNames 60 = .ok (.if_icmp .ne 7, 3) := by decide +kernel
theorem dL_areNames_63 : decode cL_areNames 63 = .ok (.iconst 0, 1) := by decide +kernel
theorem dL_areNames_64 : decode cL_areNames 64 = .ok (.goto 7, 3) := by decide +kernel
theorem dL_areNames_67 : decode cL_areNames 67 = .ok (.iconst 1, 1) := by decide +kernel
theorem dL_areNames_68 : decode cL_areNames 68 = .ok (.iload 4, 2) := by decide +kernel
theorem dL_areNames_70 : decode cL_areNames 70 = .ok (.ishl, 1) := by decide +kernel
theorem dL_areNames_71 : decode cL_areNames 71 = .ok (.ior, 1) := by decide +kernel
theorem dL_areNames_72 : decode cL_areNames 72 = .ok (.istore_n 1, 1) := by decide +kernel
theorem dL_areNames_73 : decode cL_areNames 73 = .ok (.iinc 3 1, 3) := by decide +kernel
theorem dL_areNames_76 : decode cL_areNames 76 = .ok (.goto (-70), 3) := by decide +kernel
theorem dL_areNames_79 : decode cL_areNames 79 = .ok (.iconst 0, 1) := by decide +kernel
theorem dL_areNames_80 : decode cL_areNames 80 = .ok (.istore_n 3, 1) := by decide +kernel
theorem dL_areNames_81 : decode cL_areNames 81 = .ok (.iload_n 3, 1) := by decide +kernel
theorem dL_areNames_82 : decode cL_areNames 82 = .ok (.aload_n 0, 1) := by decide +kernel
theorem dL_areNames_83 : decode cL_areNames 83 = .ok (.invokevirtual 41, 3) := by decide +kernel
theorem dL_areNames_86 : decode cL_areNames 86 = .ok (.if_icmp .ge 131, 3) := by decide +kernel
theorem dL_areNames_89 : decode cL_areNames 89 = .ok (.iload_n 2, 1) := by decide +kernel
theorem dL_areNames_90 : decode cL_areNames 90 = .ok (.ifCond .eq 127, 3) := by decide +kernel
theorem dL_areNames_93 : decode cL_areNames 93 = .ok (.aload_n 0, 1) := by decide +kernel
theorem dL_areNames_94 : decode cL_areNames 94 = .ok (.iload_n 3, 1) := by decide +kernel
theorem dL_areNames_95 : decode cL_areNames 95 = .ok (.invokevirtual 53, 3) := by decide +kernel
theorem dL_areNames_98 : decode cL_areNames 98 = .ok (.istore 4, 2) := by decide +kernel
theorem dL_areNames_100 : decode cL_areNames 100 = .ok (.iconst 0, 1) := by decide +kernel
theorem dL_areNames_101 : decode cL_areNames 101 = .ok (.istore 5, 2) := by decide +kernel
theorem dL_areNames_103 : decode cL_areNames 103 = .ok (.iconst 0, 1) := by decide +kernel
theorem dL_areNames_104 : decode cL_areNames 104 = .ok (.istore 6, 2) := by decide +kernel
theorem dL_areNames_106 : decode cL_areNames 106 = .ok (.iload 6, 2) := by decide +kernel
theorem dL_areNames_108 : decode cL_areNames 108 = .ok (.bipush 10, 2) := by decide +kernel
theorem dL_areNames_110 : decode cL_areNames 110 = .ok (.if_icmp .ge 84, 3) := by decide +kernel
theorem dL_areNames_113 : decode cL_areNames 113 = .ok (.iload 5, 2) := by decide +kernel
theorem dL_areNames_115 : decode cL_areNames 115 = .ok (.aload_n 0, 1) := by decide +kernel
theorem dL_areNames_116 : decode cL_areNames 116 = .ok (.iload_n 3, 1) := by decide +kernel
theorem dL_areNames_117 : decode cL_areNames 117 = .ok (.iload 6, 2) := by decide +kernel
theorem dL_areNames_119 : decode cL_areNames 119 = .ok (.invokevirtual 56, 3) := by decide +kernel
theorem dL_areNames_122 : decode cL_areNames 122 = .ok (.iadd, 1) := by decide +kernel
theorem dL_areNames_123 : decode cL_areNames 123 = .ok (.istore 5, 2) := by decide +kernel
theorem dL_areNames_125 : decode cL_areNames 125 = .ok (.iload_n 1, 1) := by decide +kernel
theorem dL_areNames_126 : decode cL_areNames 126 = .ok (.iload 6, 2) := by decide +kernel
theorem dL_areNames_128 : decode cL_areNames 128 = .ok (.ishr, 1) := by decide +kernel
theorem dL_areNames_129 : decode cL_areNames 129 = .ok (.iconst 1, 1) := by decide +kernel
theorem dL_areNames_130 : decode cL_areNames 130 = .ok (.iand, 1) := by decide +kernel
theorem dL_areNames_131 : decode cL_areNames 131 = .ok (.ifCond .ne 7, 3) := by decide +kernel
theorem dL_areNames_134 : decode cL_areNames 134 = .ok (.iconst 1, 1) := by decide +kernel
theorem dL_areNames_135 : decode cL_areNames 135 = .ok (.goto 4, 3) := by decide +kernel
theorem dL_areNames_138 : decode cL_areNames 138 = .ok (.iconst 0, 1) := by decide +kernel
theorem dL_areNames_139 : decode cL_areNames 139 = .ok (.istore 7, 2) := by decide +kernel
theorem dL_areNames_141 : decode cL_areNames 141 = .ok (.iload_n 2, 1) := by decide +kernel
theorem dL_areNames_142 : decode cL_areNames 142 = .ok (.ifCond .eq 44, 3) := by decide +kernel
theorem dL_areNames_145 : decode cL_areNames 145 = .ok (.iload 7, 2) := by decide +kernel
theorem dL_areNames_147 : decode cL_areNames 147 = .ok (.ifCond .eq 35, 3) := by decide +kernel
theorem dL_areNames_150 : decode cL_areNames 150 = .ok (.aload_n 0, 1) := by decide +kernel
theorem dL_areNames_151 : decode cL_areNames 151 = .ok (.iload_n 3, 1) := by decide +kernel
theorem dL_areNames_152 : decode cL_areNames 152 = .ok (.iload 6, 2) := by decide +kernel
theorem dL_areNames_154 : decode cL_areNames 154 = .ok (.invokevirtual 56, 3) := by decide +kernel
theorem dL_areNames_157 : decode cL_areNames 157 = .ok (.ifCond .eq 25, 3) := by decide +kernel
theorem dL_areNames_160 : decode cL_areNames 160 = .ok (.iload 4, 2) := by decide +kernel
theorem dL_areNames_162 : decode cL_areNames 162 = .ok (.ifCond .lt 24, 3) := by decide +kernel
theorem dL_areNames_165 : decode cL_areNames 165 = .ok (.aload_n 0, 1) := by decide +kernel
theorem dL_areNames_166 : decode cL_areNames 166 = .ok (.iload_n 3, 1) := by decide +kernel
theorem dL_areNames_167 : decode cL_areNames 167 = .ok (.iload 4, 2) := by decide +kernel
theorem dL_areNames_169 : decode cL_areNames 169 = .ok (.invokevirtual 56, 3) := by decide +kernel
theorem dL_areNames_172 : decode cL_areNames 172 = .ok (.aload_n 0, 1) := by decide +kernel
theorem dL_areNames_173 : decode cL_areNames 173 = .ok (.iload_n 3, 1) := by decide +kernel
theorem dL_areNames_174 : decode cL_areNames 174 = .ok (.iload 6, 2) := by decide +kernel
theorem dL_areNames_176 : decode cL_areNames 176 = .ok (.invokevirtual 56, 3) := by decide +kernel
theorem dL_areNames_179 : decode cL_areNames 179 = .ok (.if_icmp .lt 7, 3) := by decide +kernel
theorem dL_areNames_182 : decode cL_areNames 182 = .ok (.iconst 1, 1) := by decide +kernel
theorem dL_areNames_183 : decode cL_areNames 183 = .ok (.goto 4, 3) := by decide +kernel
theorem dL_areNames_186 : decode cL_areNames 186 = .ok (.iconst 0, 1) := by decide +kernel
theorem dL_areNames_187 : decode cL_areNames 187 = .ok (.istore_n 2, 1) := by decide +kernel
theorem dL_areNames_188 : decode cL_areNames 188 = .ok (.iinc 6 1, 3) := by decide +kernel
theorem dL_areNames_191 : decode cL_areNames 191 = .ok (.goto (-85), 3) := by decide +kernel
theorem dL_areNames_194 : decode cL_areNames 194 = .ok (.iload_n 2, 1) := by decide +kernel
theorem dL_areNames_195 : decode cL_areNames 195 = .ok (.ifCond .eq 14, 3) := by decide +kernel
theorem dL_areNames_198 : decode cL_areNames 198 = .ok (.iload 5, 2) := by decide +kernel
theorem dL_areNames_200 : decode cL_areNames 200 = .ok (.bipush 6, 2) := by decide +kernel
theorem dL_areNames_202 : decode cL_areNames 202 = .ok (.if_icmp .gt 7, 3) := by decide +kernel
theorem dL_areNames_205 : decode cL_areNames 205 = .ok (.iconst 1, 1) := by decide +kernel
theorem dL_areNames_206 : decode cL_areNames 206 = .ok (.goto 4, 3) := by decide +kernel
theorem dL_areNames_209 : decode cL_areNames 209 = .ok (.iconst 0, 1) := by decide +kernel
theorem dL_areNames_210 : decode cL_areNames 210 = .ok (.istore_n 2, 1) := by decide +kernel
theorem dL_areNames_211 : decode cL_areNames 211 = .ok (.iinc 3 1, 3) := by decide +kernel
theorem dL_areNames_214 : decode cL_areNames 214 = .ok (.goto (-133), 3) := by decide +kernel
theorem dL_areNames_217 : decode cL_areNames 217 = .ok (.iload_n 2, 1) := by decide +kernel
theorem dL_areNames_218 : decode cL_areNames 218 = .ok (.ireturn, 1) := by decide +kernel
theorem dL_areHours_0 : decode cL_areHours 0 = .ok (.aload_n 0, 1) := by decide +kernel
theorem dL_areHours_1 : decode cL_areHours 1 = .ok (.iload_n 1, 1) := by decide +kernel
theorem dL_areHours_2 : decode cL_areHours 2 = .ok (.iload_n 2, 1) := by decide +kernel
theorem dL_areHours_3 : decode cL_areHours 3 = .ok (.iload_n 3, 1) := by decide +kernel
theorem dL_areHours_4 : decode cL_areHours 4 = .ok (.invokevirtual 59, 3) := by decide +kernel
theorem dL_areHours_7 : decode cL_areHours 7 = .ok (.istore 5, 2) := by decide +kernel
theorem dL_areHours_9 : decode cL_areHours 9 = .ok (.aload_n 0, 1) := by decide +kernel
theorem dL_areHours_10 : decode cL_areHours 10 = .ok (.iload_n 1, 1) := by decide +kernel
theorem dL_areHours_11 : decode cL_areHours 11 = .ok (.iload_n 2, 1) := by decide +kernel
theorem dL_areHours_12 : decode cL_areHours 12 = .ok (.iload_n 3, 1) := by decide +kernel
theorem dL_areHours_13 : decode cL_areHours 13 = .ok (.invokevirtual 62, 3) := by decide +kernel
theorem dL_areHours_16 : decode cL_areHours 16 = .ok (.istore 6, 2) := by decide +kernel
theorem dL_areHours_18 : decode cL_areHours 18 = .ok (.iload 5, 2) := by decide +kernel
theorem dL_areHours_20 : decode cL_areHours 20 = .ok (.aload_n 0, 1) := by decide +kernel
theorem dL_areHours_21 : decode cL_areHours 21 = .ok (.iload_n 1, 1) := by decide +kernel
theorem dL_areHours_22 : decode cL_areHours 22 = .ok (.iload_n 2, 1) := by decide +kernel
theorem dL_areHours_23 : decode cL_areHours 23 = .ok (.iload_n 3, 1) := by decide +kernel
theorem dL_areHours_24 : decode cL_areHours 24 = .ok (.invokevirtual 65, 3) := by decide +kernel
theorem dL_areHours_27 : decode cL_areHours 27 = .ok (.if_icmp .ne 75, 3) := by decide +kernel
theorem dL_areHours_30 : decode cL_areHours 30 = .ok (.iload 6, 2) := by decide +kernel
theorem dL_areHours_32 : decode cL_areHours 32 = .ok (.iconst (-1), 1) := by decide +kernel
theorem dL_areHours_33 : decode cL_areHours 33 = .ok (.if_icmp .ne 7, 3) := by decide +kernel
theorem dL_areHours_36 : decode cL_areHours 36 = .ok (.iconst 1, 1) := by decide +kernel
theorem dL_areHours_37 : decode cL_areHours 37 = .ok (.goto 4, 3) := by decide +kernel
theorem dL_areHours_40 : decode cL_areHours 40 = .ok (.iconst 0, 1) := by decide +kernel
theorem dL_areHours_41 : decode cL_areHours 41 = .ok (.iload 5, 2) := by decide +kernel
theorem dL_areHours_43 : decode cL_areHours 43 = .ok (.ifCond .ne 7, 3) := by decide +kernel
theorem dL_areHours_46 : decode cL_areHours 46 = .ok (.iconst 1, 1) := by decide +kernel
theorem dL_areHours_47 : decode cL_areHours 47 = .ok (.goto 4, 3) := by decide +kernel
theorem dL_areHours_50 : decode cL_areHours 50 = .ok (.iconst 0, 1) := by decide +kernel
theorem dL_areHours_51 : decode cL_areHours 51 = .ok (.if_icmp .ne 51, 3) := by decide +kernel
theorem dL_areHours_54 : decode cL_areHours 54 = .ok (.iload 6, 2) := by decide +kernel
theorem dL_areHours_56 : decode cL_areHours 56 = .ok (.ifCond .lt 14, 3) := by decide +kernel
theorem dL_areHours_59 : decode cL_areHours 59 = .ok (.iload 5, 2) := by decide +kernel
theorem dL_areHours_61 : decode cL_areHours 61 = .ok (.iload 6, 2) := by decide +kernel
theorem dL_areHours_63 : decode cL_areHours 63 = .ok (.ishr, 1) := by decide +kernel
theorem dL_areHours_64 : decode cL_areHours 64 = .ok (.iconst 1, 1) := by decide +kernel
theorem dL_areHours_65 : decode cL_areHours 65 = .ok (.iand, 1) := by decide +kernel
theorem dL_areHours_66 : decode cL_areHours 66 = .ok (.iconst 1, 1) := by decide +kernel
theorem dL_areHours_67 : decode cL_areHours 67 = .ok (.if_icmp .ne 35, 3) := by decide +kernel
theorem dL_areHours_70 : decode cL_areHours 70 = .ok (.aload_n 0, 1) := by decide +kernel
theorem dL_areHours_71 : decode cL_areHours 71 = .ok (.iload_n 1, 1) := by decide +kernel
theorem dL_areHours_72 : decode cL_areHours 72 = .ok (.iload_n 2, 1) := by decide +kernel
theorem dL_areHours_73 : decode cL_areHours 73 = .ok (.iload_n 3, 1) := by decide +kernel
theorem dL_areHours_74 : decode cL_areHours 74 = .ok (.iload 4, 2) := by decide +kernel
theorem dL_areHours_76 : decode cL_areHours 76 = .ok (.invokevirtual 68, 3) := by decide +kernel
theorem dL_areHours_79 : decode cL_areHours 79 = .ok (.iload 5, 2) := by decide +kernel
theorem dL_areHours_81 : decode cL_areHours 81 = .ok (.iload 4, 2) := by decide +kernel
theorem dL_areHours_83 : decode cL_areHours 83 = .ok (.ishr, 1) := by decide +kernel
theorem dL_areHours_84 : decode cL_areHours 84 = .ok (.iconst 1, 1) := by decide +kernel
theorem dL_areHours_85 : decode cL_areHours 85 = .ok (.iand, 1) := by decide +kernel
theorem dL_areHours_86 : decode cL_areHours 86 = .ok (.iconst 1, 1) := by decide +kernel
theorem dL_areHours_87 : decode cL_areHours 87 = .ok (.if_icmp .ne 7, 3) := by decide +kernel
theorem dL_areHours_90 : decode cL_areHours 90 = .ok (.iconst 1, 1) := by decide +kernel
theorem dL_areHours_91 : decode cL_areHours 91 = .ok (.goto 4, 3) := by decide +kernel
theorem dL_areHours_94 : decode cL_areHours 94 = .ok (.iconst 0, 1) := by decide +kernel
theorem dL_areHours_95 : decode cL_areHours 95 = .ok (.if_icmp .ne 7, 3) := by decide +kernel
theorem dL_areHours_98 : decode cL_areHours 98 = .ok (.iconst 1, 1) := by decide +kernel
theorem dL_areHours_99 : decode cL_areHours 99 = .ok (.goto 4, 3) := by decide +kernel
theorem dL_areHours_102 : decode cL_areHours 102 = .ok (.iconst 0, 1) := by decide +kernel
theorem dL_areHours_103 : decode cL_areHours 103 = .ok (.istore 7, 2) := by decide +kernel
theorem dL_areHours_105 : decode cL_areHours 105 = .ok (.sipush 5000, 3) := by decide +kernel
theorem dL_areHours_108 : decode cL_areHours 108 = .ok (.istore 8, 2) := by decide +kernel
theorem dL_areHours_110 : decode cL_areHours 110 = .ok (.sipush 5000, 3) := by decide +kernel
theorem dL_areHours_113 : decode cL_areHours 113 = .ok (.istore 9, 2) := by decide +kernel
theorem dL_areHours_115 : decode cL_areHours 115 = .ok (.iconst 0, 1) := by decide +kernel
theorem dL_areHours_116 : decode cL_areHours 116 = .ok (.istore 10, 2) := by decide +kernel
theorem dL_areHours_118 : decode cL_areHours 118 = .ok (.iload 10, 2) := by decide +kernel
theorem dL_areHours_120 : decode cL_areHours 120 = .ok (.aload_n 0, 1) := by decide +kernel
theorem dL_areHours_121 : decode cL_areHours 121 = .ok (.invokevirtual 27, 3) := by decide +kernel
theorem dL_areHours_124 : decode cL_areHours 124 = .ok (.if_icmp .ge 86, 3) := by decide +kernel
theorem dL_areHours_127 : decode cL_areHours 127 = .ok (.aload_n 0, 1) := by decide +kernel
theorem dL_areHours_128 : decode cL_areHours 128 = .ok (.iload 10, 2) := by decide +kernel
theorem dL_areHours_130 : decode cL_areHours 130 = .ok (.invokevirtual 38, 3) := by decide +kernel
theorem dL_areHours_133 : decode cL_areHours 133 = .ok (.iload_n 1, 1) := by decide +kernel
theorem dL_areHours_134 : decode cL_areHours 134 = .ok (.if_icmp .ne 70, 3) := by decide +kernel
theorem dL_areHours_137 : decode cL_areHours 137 = .ok (.aload_n 0, 1) := by decide +kernel
theorem dL_areHours_138 : decode cL_areHours 138 = .ok (.iload 10, 2) := by decide +kernel
theorem dL_areHours_140 : decode cL_areHours 140 = .ok (.iload_n 2, 1) := by decide +kernel
theorem dL_areHours_141 : decode cL_areHours 141 = .ok (.iload_n 3, 1) := by decide +kernel
theorem dL_areHours_142 : decode cL_areHours 142 = .ok (.iload 4, 2) := by decide +kernel
theorem dL_areHours_144 : decode cL_areHours 144 = .ok (.invokevirtual 72, 3) := by decide +kernel
theorem dL_areHours_147 : decode cL_areHours 147 = .ok (.istore 11, 2) := by decide +kernel
theorem dL_areHours_149 : decode cL_areHours 149 = .ok (.iload 6, 2) := by decide +kernel
theorem dL_areHours_151 : decode cL_areHours 151 = .ok (.ifCond .ge 9, 3) := by decide +kernel
theorem dL_areHours_154 : decode cL_areHours 154 = .ok (.sipush 5000, 3) := by decide +kernel
theorem dL_areHours_157 : decode cL_areHours 157 = .ok (.goto 13, 3) := by decide +kernel
theorem dL_areHours_160 : decode cL_areHours 160 = .ok (.aload_n 0, 1) := by decide +kernel
theorem dL_areHours_161 : decode cL_areHours 161 = .ok (.iload 10, 2) := by decide +kernel
theorem dL_areHours_163 : decode cL_areHours 163 = .ok (.iload_n 2, 1) := by decide +kernel
theorem dL_areHours_164 : decode cL_areHours 164 = .ok (.iload_n 3, 1) := by decide +kernel
theorem dL_areHours_165 : decode cL_areHours 165 = .ok (.iload 6, 2) := by decide +kernel
theorem dL_areHours_167 : decode cL_areHours 167 = .ok (.invokevirtual 72, 3) := by decide +kernel
theorem dL_areHours_170 : decode cL_areHours 170 = .ok (.istore 12, 2) := by decide +kernel
theorem dL_areHours_172 : decode cL_areHours 172 = .ok (.iload 11, 2) := by decide +kernel
theorem dL_areHours_174 : decode cL_areHours 174 = .ok (.iload 8, 2) := by decide +kernel
theorem dL_areHours_176 : decode cL_areHours 176 = .ok (.if_icmp .ge 8, 3) := by decide +kernel
theorem dL_areHours_179 : decode cL_areHours 179 = .ok (.iload 11, 2) := by decide +kernel
theorem dL_areHours_181 : decode cL_areHours 181 = .ok (.goto 5, 3) := by decide +kernel
theorem dL_areHours_184 : decode cL_areHours 184 = .ok (.iload 8, 2) := by decide +kernel
theorem dL_areHours_186 : decode cL_areHours 186 = .ok (.istore 8, 2) := by decide +kernel
theorem dL_areHours_188 : decode cL_areHours 188 = .ok (.iload 12, 2) := by decide +kernel
theorem dL_areHours_190 : decode cL_areHours 190 = .ok (.iload 9, 2) := by decide +kernel
theorem dL_areHours_192 : decode cL_areHours 192 = .ok (.if_icmp .ge 8, 3) := by decide +kernel
theorem dL_areHours_195 : decode cL_areHours 195 = .ok (.iload 12, 2) := by decide +kernel
theorem dL_areHours_197 : decode cL_areHours 197 = .ok (.goto 5, 3) := by decide +kernel
theorem dL_areHours_200 : decode cL_areHours 200 = .ok (.iload 9, 2) := by decide +kernel
theorem dL_areHours_202 : decode cL_areHours 202 = .ok (.istore 9, 2) := by decide +kernel
theorem dL_areHours_204 : decode cL_areHours 204 = .ok (.iinc 10 1, 3) := by decide +kernel
theorem dL_areHours_207 : decode cL_areHours 207 = .ok (.goto (-89), 3) := by decide +kernel
theorem dL_areHours_210 : decode cL_areHours 210 = .ok (.iload 7, 2) := by decide +kernel
theorem dL_areHours_212 : decode cL_areHours 212 = .ok (.ifCond .eq 76, 3) := by decide +kernel
theorem dL_areHours_215 : decode cL_areHours 215 = .ok (.aload_n 0, 1) := by decide +kernel
theorem dL_areHours_216 : decode cL_areHours 216 = .ok (.iload_n 1, 1) := by decide +kernel
theorem dL_areHours_217 : decode cL_areHours 217 = .ok (.invokevirtual 44, 3) := by decide +kernel
theorem dL_areHours_220 : decode cL_areHours 220 = .ok (.ifCond .le 7, 3) := by decide +kernel
theorem dL_areHours_223 : decode cL_areHours 223 = .ok (.iconst 1, 1) := by decide +kernel
theorem dL_areHours_224 : decode cL_areHours 224 = .ok (.goto 4, 3) := by decide +kernel
theorem dL_areHours_227 : decode cL_areHours 227 = .ok (.iconst 0, 1) := by decide +kernel
theorem dL_areHours_228 : decode cL_areHours 228 = .ok (.iload 8, 2) := by decide +kernel
theorem dL_areHours_230 : decode cL_areHours 230 = .ok (.sipush 5000, 3) := by decide +kernel
theorem dL_areHours_233 : decode cL_areHours 233 = .ok (.if_icmp .ge 7, 3) := by decide +kernel
theorem dL_areHours_236 : decode cL_areHours 236 = .ok (.iconst 1, 1) := by decide +kernel
theorem dL_areHours_237 : decode cL_areHours 237 = .ok (.goto 4, 3) := by decide +kernel
theorem dL_areHours_240 : decode cL_areHours 240 = .ok (.iconst 0, 1) := by decide +kernel
theorem dL_areHours_241 : decode cL_areHours 241 = .ok (.if_icmp .ne 47, 3) := by decide +kernel
theorem dL_areHours_244 : decode cL_areHours 244 = .ok (.iload 5, 2) := by decide +kernel
theorem dL_areHours_246 : decode cL_areHours 246 = .ok (.iload 4, 2) := by decide +kernel
theorem dL_areHours_248 : decode cL_areHours 248 = .ok (.ishr, 1) := by decide +kernel
theorem dL_areHours_249 : decode cL_areHours 249 = .ok (.iconst 1, 1) := by decide +kernel
theorem dL_areHours_250 : decode cL_areHours 250 = .ok (.iand, 1) := by decide +kernel
theorem dL_areHours_251 : decode cL_areHours 251 = .ok (.iload 8, 2) := by decide +kernel
theorem dL_areHours_253 : decode cL_areHours 253 = .ok (.ifCond .le 15, 3) := by decide +kernel
theorem dL_areHours_256 : decode cL_areHours 256 = .ok (.iload 8, 2) := by decide +kernel
theorem dL_areHours_258 : decode cL_areHours 258 = .ok (.sipush 5000, 3) := by decide +kernel
theorem dL_areHours_261 : decode cL_areHours 261 = .ok (.if_icmp .ge 7, 3) := by decide +kernel
theorem dL_areHours_264 : decode cL_areHours 264 = .ok (.iconst 1, 1) := by decide +kernel
theorem dL_areHours_265 : decode cL_areHours 265 = .ok (.goto 4, 3) := by decide +kernel
theorem dL_areHours_268 : decode cL_areHours 268 = .ok (.iconst 0, 1) := by decide +kernel
theorem dL_areHours_269 : decode cL_areHours 269 = .ok (.if_icmp .ne 19, 3) := by decide +kernel
theorem dL_areHours_272 : decode cL_areHours 272 = .ok (.iload 6, 2) := by decide +kernel
theorem dL_areHours_274 : decode cL_areHours 274 = .ok (.ifCond .lt 10, 3) := by decide +kernel
theorem dL_areHours_277 : decode cL_areHours 277 = .ok (.iload 9, 2) := by decide +kernel
theorem dL_areHours_279 : decode cL_areHours 279 = .ok (.iload 8, 2) := by decide +kernel
theorem dL_areHours_281 : decode cL_areHours 281 = .ok (.if_icmp .lt 7, 3) := by decide +kernel
theorem dL_areHours_284 : decode cL_areHours 284 = .ok (.iconst 1, 1) := by decide +kernel
theorem dL_areHours_285 : decode cL_areHours 285 = .ok (.goto 4, 3) := by decide +kernel
theorem dL_areHours_288 : decode cL_areHours 288 = .ok (.iconst 0, 1) := by decide +kernel
theorem dL_areHours_289 : decode cL_areHours 289 = .ok (.ireturn, 1) := by decide +kernel
theorem dL_law_0 : decode cL_law 0 = .ok (.new 8, 3) := by decide +kernel
theorem dL_law_3 : decode cL_law 3 = .ok (.dup, 1) := by decide +kernel
theorem dL_law_4 : decode cL_law 4 = .ok (.invokespecial 75, 3) := by decide +kernel
theorem dL_law_7 : decode cL_law 7 = .ok (.astore_n 1, 1) := by decide +kernel
theorem dL_law_8 : decode cL_law 8 = .ok (.bipush 60, 2) := by decide +kernel
theorem dL_law_10 : decode cL_law 10 = .ok (.newarray .int, 2) := by decide +kernel
theorem dL_law_12 : decode cL_law 12 = .ok (.astore_n 2, 1) := by decide +kernel
theorem dL_law_13 : decode cL_law 13 = .ok (.bipush 64, 2) := by decide +kernel
theorem dL_law_15 : decode cL_law 15 = .ok (.newarray .long, 2) := by decide +kernel
theorem dL_law_17 : decode cL_law 17 = .ok (.astore_n 3, 1) := by decide +kernel
theorem dL_law_18 : decode cL_law 18 = .ok (.iconst 0, 1) := by decide +kernel
theorem dL_law_19 : decode cL_law 19 = .ok (.istore 4, 2) := by decide +kernel
theorem dL_law_21 : decode cL_law 21 = .ok (.iconst 0, 1) := by decide +kernel
theorem dL_law_22 : decode cL_law 22 = .ok (.istore 5, 2) := by decide +kernel
theorem dL_law_24 : decode cL_law 24 = .ok (.aload_n 1, 1) := by decide +kernel
theorem dL_law_25 : decode cL_law 25 = .ok (.invokevirtual 76, 3) := by decide +kernel
theorem dL_law_28 : decode cL_law 28 = .ok (.ifCond .ne 7, 3) := by decide +kernel
theorem dL_law_31 : decode cL_law 31 = .ok (.iconst 1, 1) := by decide +kernel
theorem dL_law_32 : decode cL_law 32 = .ok (.goto 4, 3) := by decide +kernel
theorem dL_law_35 : decode cL_law 35 = .ok (.iconst 0, 1) := by decide +kernel
theorem dL_law_36 : decode cL_law 36 = .ok (.istore 6, 2) := by decide +kernel
theorem dL_law_38 : decode cL_law 38 = .ok (.aload_n 0, 1) := by decide +kernel
theorem dL_law_39 : decode cL_law 39 = .ok (.arraylength, 1) := by decide +kernel
theorem dL_law_40 : decode cL_law 40 = .ok (.bipush 40, 2) := by decide +kernel
theorem dL_law_42 : decode cL_law 42 = .ok (.if_icmp .ge 9, 3) := by decide +kernel
theorem dL_law_45 : decode cL_law 45 = .ok (.sipush 150, 3) := by decide +kernel
theorem dL_law_48 : decode cL_law 48 = .ok (.goto 20, 3) := by decide +kernel
theorem dL_law_51 : decode cL_law 51 = .ok (.aload_n 0, 1) := by decide +kernel
theorem dL_law_52 : decode cL_law 52 = .ok (.arraylength, 1) := by decide +kernel
theorem dL_law_53 : decode cL_law 53 = .ok (.bipush 80, 2) := by decide +kernel
theorem dL_law_55 : decode cL_law 55 = .ok (.if_icmp .ge 10, 3) := by decide +kernel
theorem dL_law_58 : decode cL_law 58 = .ok (.iconst 3, 1) := by decide +kernel
theorem dL_law_59 : decode cL_law 59 = .ok (.aload_n 0, 1) := by decide +kernel
theorem dL_law_60 : decode cL_law 60 = .ok (.arraylength, 1) := by decide +kernel
theorem dL_law_61 : decode cL_law 61 = .ok (.imul, 1) := by decide +kernel
theorem dL_law_62 : decode cL_law 62 = .ok (.goto 6, 3) := by decide +kernel
theorem dL_law_65 : decode cL_law 65 = .ok (.sipush 260, 3) := by decide +kernel
theorem dL_law_68 : decode cL_law 68 = .ok (.istore 7, 2) := by decide +kernel
theorem dL_law_70 : decode cL_law 70 = .ok (.iconst 0, 1) := by decide +kernel
theorem dL_law_71 : decode cL_law 71 = .ok (.istore 8, 2) := by decide +kernel
theorem dL_law_73 : decode cL_law 73 = .ok (.iload 8, 2) := by decide +kernel
theorem dL_law_75 : decode cL_law 75 = .ok (.iload 7, 2) := by decide +kernel
theorem dL_law_77 : decode cL_law 77 = .ok (.if_icmp .ge 1285, 3) := by decide +kernel
theorem dL_law_80 : decode cL_law 80 = .ok (.iload 6, 2) := by decide +kernel
theorem dL_law_82 : decode cL_law 82 = .ok (.ifCond .eq 1280, 3) := by decide +kernel
theorem dL_law_85 : decode cL_law 85 = .ok (.iload 8, 2) := by decide +kernel
theorem dL_law_87 : decode cL_law 87 = .ok (.aload_n 0, 1) := by decide +kernel
theorem dL_law_88 : decode cL_law 88 = .ok (.arraylength, 1) := by decide +kernel
theorem dL_law_89 : decode cL_law 89 = .ok (.if_icmp .ge 10, 3) := by decide +kernel
theorem dL_law_92 : decode cL_law 92 = .ok (.aload_n 0, 1) := by decide +kernel
theorem dL_law_93 : decode cL_law 93 = .ok (.iload 8, 2) := by decide +kernel
theorem dL_law_95 : decode cL_law 95 = .ok (.iaload, 1) := by decide +kernel
theorem dL_law_96 : decode cL_law 96 = .ok (.goto 20, 3) := by decide +kernel
theorem dL_law_99 : decode cL_law 99 = .ok (.ldc 79, 2) := by decide +kernel
theorem dL_law_101 : decode cL_law 101 = .ok (.iload 8, 2) := by decide +kernel
theorem dL_law_103 : decode cL_law 103 = .ok (.imul, 1) := by decide +kernel
theorem dL_law_104 : decode cL_law 104 = .ok (.iload 8, 2) := by decide +kernel
theorem dL_law_106 : decode cL_law 106 = .ok (.imul, 1) := by decide +kernel
theorem dL_law_107 : decode cL_law 107 = .ok (.ldc 80, 2) := by decide +kernel
theorem dL_law_109 : decode cL_law 109 = .ok (.iload 8, 2) := by decide +kernel
theorem dL_law_111 : decode cL_law 111 = .ok (.imul, 1) := by decide +kernel
theorem dL_law_112 : decode cL_law 112 = .ok (.iadd, 1) := by decide +kernel
theorem dL_law_113 : decode cL_law 113 = .ok (.bipush 106, 2) := by decide +kernel
theorem dL_law_115 : decode cL_law 115 = .ok (.iadd, 1) := by decide +kernel
theorem dL_law_116 : decode cL_law 116 = .ok (.istore 9, 2) := by decide +kernel
theorem dL_law_118 : decode cL_law 118 = .ok (.iload 9, 2) := by decide +kernel
theorem dL_law_120 : decode cL_law 120 = .ok (.iconst 4, 1) := by decide +kernel
theorem dL_law_121 : decode cL_law 121 = .ok (.ishr, 1) := by decide +kernel
theorem dL_law_122 : decode cL_law 122 = .ok (.ldc 81, 2) := by decide +kernel
theorem dL_law_124 : decode cL_law 124 = .ok (.iand, 1) := by decide +kernel
theorem dL_law_125 : decode cL_law 125 = .ok (.istore 10, 2) := by decide +kernel
theorem dL_law_127 : decode cL_law 127 = .ok (.iload 8, 2) := by decide +kernel
theorem dL_law_129 : decode cL_law 129 = .ok (.bipush 6, 2) := by decide +kernel
theorem dL_law_131 : decode cL_law 131 = .ok (.if_icmp .ge 7, 3) := by decide +kernel
theorem dL_law_134 : decode cL_law 134 = .ok (.iconst 0, 1) := by decide +kernel
theorem dL_law_135 : decode cL_law 135 = .ok (.goto 19, 3) := by decide +kernel
theorem dL_law_138 : decode cL_law 138 = .ok (.iload 8, 2) := by decide +kernel
theorem dL_law_140 : decode cL_law 140 = .ok (.bipush 8, 2) := by decide +kernel
theorem dL_law_142 : decode cL_law 142 = .ok (.if_icmp .ge 7, 3) := by decide +kernel
theorem dL_law_145 : decode cL_law 145 = .ok (.iconst 1, 1) := by decide +kernel
theorem dL_law_146 : decode cL_law 146 = .ok (.goto 8, 3) := by decide +kernel
theorem dL_law_149 : decode cL_law 149 = .ok (.iload 9, 2) := by decide +kernel
theorem dL_law_151 : decode cL_law 151 = .ok (.bipush 15, 2) := by decide +kernel
theorem dL_law_153 : decode cL_law 153 = .ok (.iand, 1) := by decide +kernel
theorem dL_law_154 : decode cL_law 154 = .ok (.istore 11, 2) := by decide +kernel
theorem dL_law_156 : decode cL_law 156 = .ok (.aload_n 1, 1) := by decide +kernel
theorem dL_law_157 : decode cL_law 157 = .ok (.invokevirtual 27, 3) := by decide +kernel
theorem dL_law_160 : decode cL_law 160 = .ok (.istore 12, 2) := by decide +kernel
theorem dL_law_162 : decode cL_law 162 = .ok (.aload_n 1, 1) := by decide +kernel
theorem dL_law_163 : decode cL_law 163 = .ok (.invokevirtual 41, 3) := by decide +kernel
theorem dL_law_166 : decode cL_law 166 = .ok (.istore 13, 2) := by decide +kernel
theorem dL_law_168 : decode cL_law 168 = .ok (.iload 12, 2) := by decide +kernel
theorem dL_law_170 : decode cL_law 170 = .ok (.ifCond .ne 7, 3) := by decide +kernel
theorem dL_law_173 : decode cL_law 173 = .ok (.iconst 0, 1) := by decide +kernel
theorem dL_law_174 : decode cL_law 174 = .ok (.goto 8, 3) := by decide +kernel
theorem dL_law_177 : decode cL_law 177 = .ok (.iload 10, 2) := by decide +kernel
theorem dL_law_179 : decode cL_law 179 = .ok (.iload 12, 2) := by decide +kernel
theorem dL_law_181 : decode cL_law 181 = .ok (.irem, 1) := by decide +kernel
theorem dL_law_182 : decode cL_law 182 = .ok (.istore 14, 2) := by decide +kernel
theorem dL_law_184 : decode cL_law 184 = .ok (.iload 13, 2) := by decide +kernel
theorem dL_law_186 : decode cL_law 186 = .ok (.ifCond .ne 7, 3) := by decide +kernel
theorem dL_law_189 : decode cL_law 189 = .ok (.iconst 0, 1) := by decide +kernel
theorem dL_law_190 : decode cL_law 190 = .ok (.goto 10, 3) := by decide +kernel
theorem dL_law_193 : decode cL_law 193 = .ok (.iload 10, 2) := by decide +kernel
theorem dL_law_195 : decode cL_law 195 = .ok (.iconst 3, 1) := by decide +kernel
theorem dL_law_196 : decode cL_law 196 = .ok (.ishr, 1) := by decide +kernel
theorem dL_law_197 : decode cL_law 197 = .ok (.iload 13, 2) := by decide +kernel
theorem dL_law_199 : decode cL_law 199 = .ok (.irem, 1) := by decide +kernel
theorem dL_law_200 : decode cL_law 200 = .ok (.istore 15, 2) := by decide +kernel
theorem dL_law_202 : decode cL_law 202 = .ok (.iload 10, 2) := by decide +kernel
theorem dL_law_204 : decode cL_law 204 = .ok (.iconst 4, 1) := by decide +kernel
theorem dL_law_205 : decode cL_law 205 = .ok (.ishr, 1) := by decide +kernel
theorem dL_law_206 : decode cL_law 206 = .ok (.sipush 360, 3) := by decide +kernel
theorem dL_law_209 : decode cL_law 209 = .ok (.irem, 1) := by decide +kernel
theorem dL_law_210 : decode cL_law 210 = .ok (.istore 16, 2) := by decide +kernel
theorem dL_law_212 : decode cL_law 212 = .ok (.iload 10, 2) := by decide +kernel
theorem dL_law_214 : decode cL_law 214 = .ok (.bipush 11, 2) := by decide +kernel
theorem dL_law_216 : decode cL_law 216 = .ok (.ishr, 1) := by decide +kernel
theorem dL_law_217 : decode cL_law 217 = .ok (.sipush 181, 3) := by decide +kernel
theorem dL_law_220 : decode cL_law 220 = .ok (.irem, 1) := by decide +kernel
theorem dL_law_221 : decode cL_law 221 = .ok (.bipush 90, 2) := by decide +kernel
theorem dL_law_223 : decode cL_law 223 = .ok (.isub, 1) := by decide +kernel
theorem dL_law_224 : decode cL_law 224 = .ok (.istore 17, 2) := by decide +kernel
theorem dL_law_226 : decode cL_law 226 = .ok (.iload 11, 2) := by decide +kernel
theorem dL_law_228 : decode cL_law 228 = .ok (.ifCond .ne 67, 3) := by decide +kernel
theorem dL_law_231 : decode cL_law 231 = .ok (.iload 12, 2) := by decide +kernel
theorem dL_law_233 : decode cL_law 233 = .ok (.bipush 24, 2) := by decide +kernel
theorem dL_law_235 : decode cL_law 235 = .ok (.if_icmp .ge 60, 3) := by decide +kernel
theorem dL_law_238 : decode cL_law 238 = .ok (.aload_n 1, 1) := by decide +kernel
theorem dL_law_239 : decode cL_law 239 = .ok (.iload 16, 2) := by decide +kernel
theorem dL_law_241 : decode cL_law 241 = .ok (.iload 17, 2) := by decide +kernel
theorem dL_law_243 : decode cL_law 243 = .ok (.invokevirtual 82, 3) := by decide +kernel
theorem dL_law_246 : decode cL_law 246 = .ok (.iload 12, 2) := by decide +kernel
theorem dL_law_248 : decode cL_law 248 = .ok (.if_icmp .ne 38, 3) := by decide +kernel
theorem dL_law_251 : decode cL_law 251 = .ok (.aload_n 1, 1) := by decide +kernel
theorem dL_law_252 : decode cL_law 252 = .ok (.iload 12, 2) := by decide +kernel
theorem dL_law_254 : decode cL_law 254 = .ok (.invokevirtual 38, 3) := by decide +kernel
theorem dL_law_257 : decode cL_law 257 = .ok (.iconst (-1), 1) := by decide +kernel
theorem dL_law_258 : decode cL_law 258 = .ok (.if_icmp .ne 28, 3) := by decide +kernel
theorem dL_law_261 : decode cL_law 261 = .ok (.aload_n 1, 1) := by decide +kernel
theorem dL_law_262 : decode cL_law 262 = .ok (.iload 12, 2) := by decide +kernel
theorem dL_law_264 : decode cL_law 264 = .ok (.invokevirtual 32, 3) := by decide +kernel
theorem dL_law_267 : decode cL_law 267 = .ok (.sipush 1000, 3) := by decide +kernel
theorem dL_law_270 : decode cL_law 270 = .ok (.iload 16, 2) := by decide +kernel
theorem dL_law_272 : decode cL_law 272 = .ok (.imul, 1) := by decide +kernel
theorem dL_law_273 : decode cL_law 273 = .ok (.iload 17, 2) := by decide +kernel
theorem dL_law_275 : decode cL_law 275 = .ok (.iadd, 1) := by decide +kernel
theorem dL_law_276 : decode cL_law 276 = .ok (.bipush 90, 2) := by decide +kernel
theorem dL_law_278 : decode cL_law 278 = .ok (.iadd, 1) := by decide +kernel
theorem dL_law_279 : decode cL_law 279 = .ok (.if_icmp .ne 7, 3) := by decide +kernel
theorem dL_law_282 : decode cL_law 282 = .ok (.iconst 1, 1) := by decide +kernel
theorem dL_law_283 : decode cL_law 283 = .ok (.goto 4, 3) := by decide +kernel
theorem dL_law_286 : decode cL_law 286 = .ok (.iconst 0, 1) := by decide +kernel
theorem dL_law_287 : decode cL_law 287 = .ok (.istore 6, 2) := by decide +kernel
theorem dL_law_289 : decode cL_law 289 = .ok (.iconst 0, 1) := by decide +kernel
theorem dL_law_290 : decode cL_law 290 = .ok (.istore 4, 2) := by decide +kernel
theorem dL_law_292 : decode cL_law 292 = .ok (.goto 832, 3) := by decide +kernel
theorem dL_law_295 : decode cL_law 295 = .ok (.iload 11, 2) := by decide +kernel
theorem dL_law_297 : decode cL_law 297 = .ok (.iconst 1, 1) := by decide +kernel
theorem dL_law_298 : decode cL_law 298 = .ok (.if_icmp .ne 51, 3) := by decide +kernel
theorem dL_law_301 : decode cL_law 301 = .ok (.iload 13, 2) := by decide +kernel
theorem dL_law_303 : decode cL_law 303 = .ok (.bipush 8, 2) := by decide +kernel
theorem dL_law_305 : decode cL_law 305 = .ok (.if_icmp .ge 44, 3) := by decide +kernel
theorem dL_law_308 : decode cL_law 308 = .ok (.aload_n 1, 1) := by decide +kernel
theorem dL_law_309 : decode cL_law 309 = .ok (.invokevirtual 85, 3) := by decide +kernel
theorem dL_law_312 : decode cL_law 312 = .ok (.iload 13, 2) := by decide +kernel
theorem dL_law_314 : decode cL_law 314 = .ok (.if_icmp .ne 26, 3) := by decide +kernel
theorem dL_law_317 : decode cL_law 317 = .ok (.aload_n 1, 1) := by decide +kernel
theorem dL_law_318 : decode cL_law 318 = .ok (.iload 13, 2) := by decide +kernel
theorem dL_law_320 : decode cL_law 320 = .ok (.invokevirtual 44, 3) := by decide +kernel
theorem dL_law_323 : decode cL_law 323 = .ok (.ifCond .ne 17, 3) := by decide +kernel
theorem dL_law_326 : decode cL_law 326 = .ok (.aload_n 1, 1) := by decide +kernel
theorem dL_law_327 : decode cL_law 327 = .ok (.iload 13, 2) := by decide +kernel
theorem dL_law_329 : decode cL_law 329 = .ok (.invokevirtual 53, 3) := by decide +kernel
theorem dL_law_332 : decode cL_law 332 = .ok (.iconst (-1), 1) := by decide +kernel
theorem dL_law_333 : decode cL_law 333 = .ok (.if_icmp .ne 7, 3) := by decide +kernel
theorem dL_law_336 : decode cL_law 336 = .ok (.iconst 1, 1) := by decide +kernel
theorem dL_law_337 : decode cL_law 337 = .ok (.goto 4, 3) := by decide +kernel
theorem dL_law_340 : decode cL_law 340 = .ok (.iconst 0, 1) := by decide +kernel
theorem dL_law_341 : decode cL_law 341 = .ok (.istore 6, 2) := by decide +kernel
theorem dL_law_343 : decode cL_law 343 = .ok (.iconst 0, 1) := by decide +kernel
theorem dL_law_344 : decode cL_law 344 = .ok (.istore 4, 2) := by decide +kernel
theorem dL_law_346 : decode cL_law 346 = .ok (.goto 778, 3) := by decide +kernel
theorem dL_law_349 : decode cL_law 349 = .ok (.iload 11, 2) := by decide +kernel
theorem dL_law_351 : decode cL_law 351 = .ok (.bipush 9, 2) := by decide +kernel
theorem dL_law_353 : decode cL_law 353 = .ok (.if_icmp .ge 322, 3) := by decide +kernel
theorem dL_law_356 : decode cL_law 356 = .ok (.iload 4, 2) := by decide +kernel
theorem dL_law_358 : decode cL_law 358 = .ok (.bipush 25, 2) := by decide +kernel
theorem dL_law_360 : decode cL_law 360 = .ok (.if_icmp .ge 7, 3) := by decide +kernel
theorem dL_law_363 : decode cL_law 363 = .ok (.iconst 1, 1) := by decide +kernel
theorem dL_law_364 : decode cL_law 364 = .ok (.goto 4, 3) := by decide +kernel
theorem dL_law_367 : decode cL_law 367 = .ok (.iconst 0, 1) := by decide +kernel
theorem dL_law_368 : decode cL_law 368 = .ok (.istore 18, 2) := by decide +kernel
theorem dL_law_370 : decode cL_law 370 = .ok (.aload_n 3, 1) := by decide +kernel
theorem dL_law_371 : decode cL_law 371 = .ok (.iload 4, 2) := by decide +kernel
theorem dL_law_373 : decode cL_law 373 = .ok (.aload_n 1, 1) := by decide +kernel
theorem dL_law_374 : decode cL_law 374 = .ok (.invokestatic 88, 3) := by decide +kernel
theorem dL_law_377 : decode cL_law 377 = .ok (.lastore, 1) := by decide +kernel
theorem dL_law_378 : decode cL_law 378 = .ok (.aload_n 1, 1) := by decide +kernel
theorem dL_law_379 : decode cL_law 379 = .ok (.iload 15, 2) := by decide +kernel
theorem dL_law_381 : decode cL_law 381 = .ok (.invokevirtual 44, 3) := by decide +kernel
theorem dL_law_384 : decode cL_law 384 = .ok (.istore 19, 2) := by decide +kernel
theorem dL_law_386 : decode cL_law 386 = .ok (.iconst 1, 1) := by decide +kernel
theorem dL_law_387 : decode cL_law 387 = .ok (.istore 20, 2) := by decide +kernel
theorem dL_law_389 : decode cL_law 389 = .ok (.iload 11, 2) := by decide +kernel
theorem dL_law_391 : decode cL_law 391 = .ok (.iconst 4, 1) := by decide +kernel
theorem dL_law_392 : decode cL_law 392 = .ok (.if_icmp .ge 51, 3) := by decide +kernel
theorem dL_law_395 : decode cL_law 395 = .ok (.aload_n 1, 1) := by decide +kernel
theorem dL_law_396 : decode cL_law 396 = .ok (.iload 14, 2) := by decide +kernel
theorem dL_law_398 : decode cL_law 398 = .ok (.iload 16, 2) := by decide +kernel
theorem dL_law_400 : decode cL_law 400 = .ok (.iload 17, 2) := by decide +kernel
theorem dL_law_402 : decode cL_law 402 = .ok (.invokevirtual 94, 3) := by decide +kernel
theorem dL_law_405 : decode cL_law 405 = .ok (.aload_n 1, 1) := by decide +kernel
theorem dL_law_406 : decode cL_law 406 = .ok (.invokevirtual 76, 3) := by decide +kernel
theorem dL_law_409 : decode cL_law 409 = .ok (.if_icmp .ne 28, 3) := by decide +kernel
theorem dL_law_412 : decode cL_law 412 = .ok (.aload_n 1, 1) := by decide +kernel
theorem dL_law_413 : decode cL_law 413 = .ok (.iload 14, 2) := by decide +kernel
theorem dL_law_415 : decode cL_law 415 = .ok (.invokevirtual 32, 3) := by decide +kernel
theorem dL_law_418 : decode cL_law 418 = .ok (.sipush 1000, 3) := by decide +kernel
theorem dL_law_421 : decode cL_law 421 = .ok (.iload 16, 2) := by decide +kernel
theorem dL_law_423 : decode cL_law 423 = .ok (.imul, 1) := by decide +kernel
theorem dL_law_424 : decode cL_law 424 = .ok (.iload 17, 2) := by decide +kernel
theorem dL_law_426 : decode cL_law 426 = .ok (.iadd, 1) := by decide +kernel
theorem dL_law_427 : decode cL_law 427 = .ok (.bipush 90, 2) := by decide +kernel
theorem dL_law_429 : decode cL_law 429 = .ok (.iadd, 1) := by decide +kernel
theorem dL_law_430 : decode cL_law 430 = .ok (.if_icmp .ne 7, 3) := by decide +kernel
theorem dL_law_433 : decode cL_law 433 = .ok (.iconst 1, 1) := by decide +kernel
theorem dL_law_434 : decode cL_law 434 = .ok (.goto 4, 3) := by decide +kernel
theorem dL_law_437 : decode cL_law 437 = .ok (.iconst 0, 1) := by decide +kernel
theorem dL_law_438 : decode cL_law 438 = .ok (.istore 6, 2) := by decide +kernel
theorem dL_law_440 : decode cL_law 440 = .ok (.goto 204, 3) := by decide +kernel
theorem dL_law_443 : decode cL_law 443 = .ok (.iload 11, 2) := by decide +kernel
theorem dL_law_445 : decode cL_law 445 = .ok (.bipush 8, 2) := by decide +kernel
theorem dL_law_447 : decode cL_law 447 = .ok (.if_icmp .lt 8, 3) := by decide +kernel
theorem dL_law_450 : decode cL_law 450 = .ok (.iload 19, 2) := by decide +kernel
theorem dL_law_452 : decode cL_law 452 = .ok (.ifCond .ne 164, 3) := by decide +kernel
theorem dL_law_455 : decode cL_law 455 = .ok (.iload 10, 2) := by decide +kernel
theorem dL_law_457 : decode cL_law 457 = .ok (.bipush 7, 2) := by decide +kernel
theorem dL_law_459 : decode cL_law 459 = .ok (.ishr, 1) := by decide +kernel
theorem dL_law_460 : decode cL_law 460 = .ok (.iload 12, 2) := by decide +kernel
theorem dL_law_462 : decode cL_law 462 = .ok (.irem, 1) := by decide +kernel
theorem dL_law_463 : decode cL_law 463 = .ok (.istore 21, 2) := by decide +kernel
theorem dL_law_465 : decode cL_law 465 = .ok (.aload_n 1, 1) := by decide +kernel
theorem dL_law_466 : decode cL_law 466 = .ok (.iload 15, 2) := by decide +kernel
theorem dL_law_468 : decode cL_law 468 = .ok (.iload 14, 2) := by decide +kernel
theorem dL_law_470 : decode cL_law 470 = .ok (.iload 21, 2) := by decide +kernel
theorem dL_law_472 : decode cL_law 472 = .ok (.invokestatic 97, 3) := by decide +kernel
theorem dL_law_475 : decode cL_law 475 = .ok (.istore 22, 2) := by decide +kernel
theorem dL_law_477 : decode cL_law 477 = .ok (.iload 22, 2) := by decide +kernel
theorem dL_law_479 : decode cL_law 479 = .ok (.ifCond .lt 7, 3) := by decide +kernel
theorem dL_law_482 : decode cL_law 482 = .ok (.iconst 1, 1) := by decide +kernel
theorem dL_law_483 : decode cL_law 483 = .ok (.goto 4, 3) := by decide +kernel
theorem dL_law_486 : decode cL_law 486 = .ok (.iconst 0, 1) := by decide +kernel
theorem dL_law_487 : decode cL_law 487 = .ok (.istore 20, 2) := by decide +kernel
theorem dL_law_489 : decode cL_law 489 = .ok (.iload 14, 2) := by decide +kernel
theorem dL_law_491 : decode cL_law 491 = .ok (.iload 21, 2) := by decide +kernel
theorem dL_law_493 : decode cL_law 493 = .ok (.if_icmp .ne 18, 3) := by decide +kernel
theorem dL_law_496 : decode cL_law 496 = .ok (.iload 22, 2) := by decide +kernel
theorem dL_law_498 : decode cL_law 498 = .ok (.bipush (-2), 2) := by decide +kernel
theorem dL_law_500 : decode cL_law 500 = .ok (.if_icmp .ne 7, 3) := by decide +kernel
theorem dL_law_503 : decode cL_law 503 = .ok (.iconst 1, 1) := by decide +kernel
theorem dL_law_504 : decode cL_law 504 = .ok (.goto 107, 3) := by decide +kernel
theorem dL_law_507 : decode cL_law 507 = .ok (.iconst 0, 1) := by decide +kernel
theorem dL_law_508 : decode cL_law 508 = .ok (.goto 103, 3) := by decide +kernel
theorem dL_law_511 : decode cL_law 511 = .ok (.iload 22, 2) := by decide +kernel
theorem dL_law_513 : decode cL_law 513 = .ok (.bipush (-3), 2) := by decide +kernel
theorem dL_law_515 : decode cL_law 515 = .ok (.if_icmp .ne 34, 3) := by decide +kernel
theorem dL_law_518 : decode cL_law 518 = .ok (.aload_n 1, 1) := by decide +kernel
theorem dL_law_519 : decode cL_law 519 = .ok (.iload 15, 2) := by decide +kernel
theorem dL_law_521 : decode cL_law 521 = .ok (.invokevirtual 44, 3) := by decide +kernel
theorem dL_law_524 : decode cL_law 524 = .ok (.iload 19, 2) := by decide +kernel
theorem dL_law_526 : decode cL_law 526 = .ok (.if_icmp .ne 19, 3) := by decide +kernel
theorem dL_law_529 : decode cL_law 529 = .ok (.aload_n 1, 1) := by decide +kernel
theorem dL_law_530 : decode cL_law 530 = .ok (.invokestatic 88, 3) := by decide +kernel
theorem dL_law_533 : decode cL_law 533 = .ok (.aload_n 3, 1) := by decide +kernel
theorem dL_law_534 : decode cL_law 534 = .ok (.iload 4, 2) := by decide +kernel
theorem dL_law_536 : decode cL_law 536 = .ok (.laload, 1) := by decide +kernel
theorem dL_law_537 : decode cL_law 537 = .ok (.lcmp, 1) := by decide +kernel
theorem dL_law_538 : decode cL_law 538 = .ok (.ifCond .ne 7, 3) := by decide +kernel
theorem dL_law_541 : decode cL_law 541 = .ok (.iconst 1, 1) := by decide +kernel
theorem dL_law_542 : decode cL_law 542 = .ok (.goto 69, 3) := by decide +kernel
theorem dL_law_545 : decode cL_law 545 = .ok (.iconst 0, 1) := by decide +kernel
theorem dL_law_546 : decode cL_law 546 = .ok (.goto 65, 3) := by decide +kernel
theorem dL_law_549 : decode cL_law 549 = .ok (.iload 22, 2) := by decide +kernel
theorem dL_law_551 : decode cL_law 551 = .ok (.iload 19, 2) := by decide +kernel
theorem dL_law_553 : decode cL_law 553 = .ok (.if_icmp .ne 57, 3) := by decide +kernel
theorem dL_law_556 : decode cL_law 556 = .ok (.aload_n 1, 1) := by decide +kernel
theorem dL_law_557 : decode cL_law 557 = .ok (.iload 15, 2) := by decide +kernel
theorem dL_law_559 : decode cL_law 559 = .ok (.invokevirtual 44, 3) := by decide +kernel
theorem dL_law_562 : decode cL_law 562 = .ok (.iload 19, 2) := by decide +kernel
theorem dL_law_564 : decode cL_law 564 = .ok (.iconst 1, 1) := by decide +kernel
theorem dL_law_565 : decode cL_law 565 = .ok (.iadd, 1) := by decide +kernel
theorem dL_law_566 : decode cL_law 566 = .ok (.if_icmp .ne 44, 3) := by decide +kernel
theorem dL_law_569 : decode cL_law 569 = .ok (.aload_n 1, 1) := by decide +kernel
theorem dL_law_570 : decode cL_law 570 = .ok (.iload 14, 2) := by decide +kernel
theorem dL_law_572 : decode cL_law 572 = .ok (.invokevirtual 38, 3) := by decide +kernel
theorem dL_law_575 : decode cL_law 575 = .ok (.iload 15, 2) := by decide +kernel
theorem dL_law_577 : decode cL_law 577 = .ok (.if_icmp .ne 33, 3) := by decide +kernel
theorem dL_law_580 : decode cL_law 580 = .ok (.aload_n 1, 1) := by decide +kernel
theorem dL_law_581 : decode cL_law 581 = .ok (.iload 21, 2) := by decide +kernel
theorem dL_law_583 : decode cL_law 583 = .ok (.invokevirtual 38, 3) := by decide +kernel
theorem dL_law_586 : decode cL_law 586 = .ok (.iload 15, 2) := by decide +kernel
theorem dL_law_588 : decode cL_law 588 = .ok (.if_icmp .ne 22, 3) := by decide +kernel
theorem dL_law_591 : decode cL_law 591 = .ok (.aload_n 1, 1) := by decide +kernel
theorem dL_law_592 : decode cL_law 592 = .ok (.iload 15, 2) := by decide +kernel
theorem dL_law_594 : decode cL_law 594 = .ok (.iload 21, 2) := by decide +kernel
theorem dL_law_596 : decode cL_law 596 = .ok (.iload 14, 2) := by decide +kernel
theorem dL_law_598 : decode cL_law 598 = .ok (.invokestatic 97, 3) := by decide +kernel
theorem dL_law_601 : decode cL_law 601 = .ok (.bipush (-3), 2) := by decide +kernel
theorem dL_law_603 : decode cL_law 603 = .ok (.if_icmp .ne 7, 3) := by decide +kernel
theorem dL_law_606 : decode cL_law 606 = .ok (.iconst 1, 1) := by decide +kernel
theorem dL_law_607 : decode cL_law 607 = .ok (.goto 4, 3) := by decide +kernel
theorem dL_law_610 : decode cL_law 610 = .ok (.iconst 0, 1) := by decide +kernel
theorem dL_law_611 : decode cL_law 611 = .ok (.istore 6, 2) := by decide +kernel
theorem dL_law_613 : decode cL_law 613 = .ok (.goto 31, 3) := by decide +kernel
theorem dL_law_616 : decode cL_law 616 = .ok (.aload_n 1, 1) := by decide +kernel
theorem dL_law_617 : decode cL_law 617 = .ok (.iload 15, 2) := by decide +kernel
theorem dL_law_619 : decode cL_law 619 = .ok (.iload 10, 2) := by decide +kernel
theorem dL_law_621 : decode cL_law 621 = .ok (.bipush 7, 2) := by decide +kernel
theorem dL_law_623 : decode cL_law 623 = .ok (.ishr, 1) := by decide +kernel
theorem dL_law_624 : decode cL_law 624 = .ok (.iload 19, 2) := by decide +kernel
theorem dL_law_626 : decode cL_law 626 = .ok (.irem, 1) := by decide +kernel
theorem dL_law_627 : decode cL_law 627 = .ok (.invokevirtual 101, 3) := by decide +kernel
theorem dL_law_630 : decode cL_law 630 = .ok (.iload 19, 2) := by decide +kernel
theorem dL_law_632 : decode cL_law 632 = .ok (.iconst 1, 1) := by decide +kernel
theorem dL_law_633 : decode cL_law 633 = .ok (.isub, 1) := by decide +kernel
theorem dL_law_634 : decode cL_law 634 = .ok (.if_icmp .ne 7, 3) := by decide +kernel
theorem dL_law_637 : decode cL_law 637 = .ok (.iconst 1, 1) := by decide +kernel
theorem dL_law_638 : decode cL_law 638 = .ok (.goto 4, 3) := by decide +kernel
theorem dL_law_641 : decode cL_law 641 = .ok (.iconst 0, 1) := by decide +kernel
theorem dL_law_642 : decode cL_law 642 = .ok (.istore 6, 2) := by decide +kernel
theorem dL_law_644 : decode cL_law 644 = .ok (.iload 4, 2) := by decide +kernel
theorem dL_law_646 : decode cL_law 646 = .ok (.iload 20, 2) := by decide +kernel
theorem dL_law_648 : decode cL_law 648 = .ok (.ifCond .eq 7, 3) := by decide +kernel
theorem dL_law_651 : decode cL_law 651 = .ok (.iconst 1, 1) := by decide +kernel
theorem dL_law_652 : decode cL_law 652 = .ok (.goto 4, 3) := by decide +kernel
theorem dL_law_655 : decode cL_law 655 = .ok (.iconst 0, 1) := by decide +kernel
theorem dL_law_656 : decode cL_law 656 = .ok (.iadd, 1) := by decide +kernel
theorem dL_law_657 : decode cL_law 657 = .ok (.istore 4, 2) := by decide +kernel
theorem dL_law_659 : decode cL_law 659 = .ok (.iload 18, 2) := by decide +kernel
theorem dL_law_661 : decode cL_law 661 = .ok (.ifCond .eq 8, 3) := by decide +kernel
theorem dL_law_664 : decode cL_law 664 = .ok (.iload 4, 2) := by decide +kernel
theorem dL_law_666 : decode cL_law 666 = .ok (.goto 4, 3) := by decide +kernel
theorem dL_law_669 : decode cL_law 669 = .ok (.iconst 0, 1) := by decide +kernel
theorem dL_law_670 : decode cL_law 670 = .ok (.istore 4, 2) := by decide +kernel
theorem dL_law_672 : decode cL_law 672 = .ok (.goto 452, 3) := by decide +kernel
theorem dL_law_675 : decode cL_law 675 = .ok (.iload 11, 2) := by decide +kernel
theorem dL_law_677 : decode cL_law 677 = .ok (.bipush 11, 2) := by decide +kernel
theorem dL_law_679 : decode cL_law 679 = .ok (.if_icmp .ge 86, 3) := by decide +kernel
theorem dL_law_682 : decode cL_law 682 = .ok (.aload_n 1, 1) := by decide +kernel
theorem dL_law_683 : decode cL_law 683 = .ok (.invokestatic 104, 3) := by decide +kernel
theorem dL_law_686 : decode cL_law 686 = .ok (.istore 18, 2) := by decide +kernel
theorem dL_law_688 : decode cL_law 688 = .ok (.iload 18, 2) := by decide +kernel
theorem dL_law_690 : decode cL_law 690 = .ok (.bipush (-3), 2) := by decide +kernel
theorem dL_law_692 : decode cL_law 692 = .ok (.if_icmp .lt 52, 3) := by decide +kernel
theorem dL_law_695 : decode cL_law 695 = .ok (.iload 18, 2) := by decide +kernel
theorem dL_law_697 : decode cL_law 697 = .ok (.bipush 30, 2) := by decide +kernel
theorem dL_law_699 : decode cL_law 699 = .ok (.if_icmp .ge 45, 3) := by decide +kernel
theorem dL_law_702 : decode cL_law 702 = .ok (.iload 18, 2) := by decide +kernel
theorem dL_law_704 : decode cL_law 704 = .ok (.bipush (-3), 2) := by decide +kernel
theorem dL_law_706 : decode cL_law 706 = .ok (.if_icmp .eq 22, 3) := by decide +kernel
theorem dL_law_709 : decode cL_law 709 = .ok (.iload 4, 2) := by decide +kernel
theorem dL_law_711 : decode cL_law 711 = .ok (.ifCond .eq 17, 3) := by decide +kernel
theorem dL_law_714 : decode cL_law 714 = .ok (.aload_n 1, 1) := by decide +kernel
theorem dL_law_715 : decode cL_law 715 = .ok (.invokestatic 88, 3) := by decide +kernel
theorem dL_law_718 : decode cL_law 718 = .ok (.aload_n 3, 1) := by decide +kernel
theorem dL_law_719 : decode cL_law 719 = .ok (.iload 4, 2) := by decide +kernel
theorem dL_law_721 : decode cL_law 721 = .ok (.iconst 1, 1) := by decide +kernel
theorem dL_law_722 : decode cL_law 722 = .ok (.isub, 1) := by decide +kernel
theorem dL_law_723 : decode cL_law 723 = .ok (.laload, 1) := by decide +kernel
theorem dL_law_724 : decode cL_law 724 = .ok (.lcmp, 1) := by decide +kernel
theorem dL_law_725 : decode cL_law 725 = .ok (.ifCond .ne 19, 3) := by decide +kernel
theorem dL_law_728 : decode cL_law 728 = .ok (.iload 18, 2) := by decide +kernel
theorem dL_law_730 : decode cL_law 730 = .ok (.bipush (-3), 2) := by decide +kernel
theorem dL_law_732 : decode cL_law 732 = .ok (.if_icmp .ne 8, 3) := by decide +kernel
theorem dL_law_735 : decode cL_law 735 = .ok (.iload 4, 2) := by decide +kernel
theorem dL_law_737 : decode cL_law 737 = .ok (.ifCond .ne 7, 3) := by decide +kernel
theorem dL_law_740 : decode cL_law 740 = .ok (.iconst 1, 1) := by decide +kernel
theorem dL_law_741 : decode cL_law 741 = .ok (.goto 4, 3) := by decide +kernel
theorem dL_law_744 : decode cL_law 744 = .ok (.iconst 0, 1) := by decide +kernel
theorem dL_law_745 : decode cL_law 745 = .ok (.istore 6, 2) := by decide +kernel
theorem dL_law_747 : decode cL_law 747 = .ok (.iload 4, 2) := by decide +kernel
theorem dL_law_749 : decode cL_law 749 = .ok (.iload 4, 2) := by decide +kernel
theorem dL_law_751 : decode cL_law 751 = .ok (.ifCond .le 7, 3) := by decide +kernel
theorem dL_law_754 : decode cL_law 754 = .ok (.iconst 1, 1) := by decide +kernel
theorem dL_law_755 : decode cL_law 755 = .ok (.goto 4, 3) := by decide +kernel
theorem dL_law_758 : decode cL_law 758 = .ok (.iconst 0, 1) := by decide +kernel
theorem dL_law_759 : decode cL_law 759 = .ok (.isub, 1) := by decide +kernel
theorem dL_law_760 : decode cL_law 760 = .ok (.istore 4, 2) := by decide +kernel
theorem dL_law_762 : decode cL_law 762 = .ok (.goto 362, 3) := by decide +kernel
theorem dL_law_765 : decode cL_law 765 = .ok (.iload 11, 2) := by decide +kernel
theorem dL_law_767 : decode cL_law 767 = .ok (.bipush 14, 2) := by decide +kernel
theorem dL_law_769 : decode cL_law 769 = .ok (.if_icmp .ge 139, 3) := by decide +kernel
theorem dL_law_772 : decode cL_law 772 = .ok (.iload 10, 2) := by decide +kernel
theorem dL_law_774 : decode cL_law 774 = .ok (.bipush 7, 2) := by decide +kernel
theorem dL_law_776 : decode cL_law 776 = .ok (.ishr, 1) := by decide +kernel
theorem dL_law_777 : decode cL_law 777 = .ok (.bipush 6, 2) := by decide +kernel
theorem dL_law_779 : decode cL_law 779 = .ok (.irem, 1) := by decide +kernel
theorem dL_law_780 : decode cL_law 780 = .ok (.istore 18, 2) := by decide +kernel
theorem dL_law_782 : decode cL_law 782 = .ok (.iload 10, 2) := by decide +kernel
theorem dL_law_784 : decode cL_law 784 = .ok (.bipush 10, 2) := by decide +kernel
theorem dL_law_786 : decode cL_law 786 = .ok (.ishr, 1) := by decide +kernel
theorem dL_law_787 : decode cL_law 787 = .ok (.iconst 4, 1) := by decide +kernel
theorem dL_law_788 : decode cL_law 788 = .ok (.irem, 1) := by decide +kernel
theorem dL_law_789 : decode cL_law 789 = .ok (.iload 10, 2) := by decide +kernel
theorem dL_law_791 : decode cL_law 791 = .ok (.bipush 12, 2) := by decide +kernel
theorem dL_law_793 : decode cL_law 793 = .ok (.ishr, 1) := by decide +kernel
theorem dL_law_794 : decode cL_law 794 = .ok (.iconst 3, 1) := by decide +kernel
theorem dL_law_795 : decode cL_law 795 = .ok (.iand, 1) := by decide +kernel
theorem dL_law_796 : decode cL_law 796 = .ok (.ifCond .ne 7, 3) := by decide +kernel
theorem dL_law_799 : decode cL_law 799 = .ok (.iconst 1, 1) := by decide +kernel
theorem dL_law_800 : decode cL_law 800 = .ok (.goto 4, 3) := by decide +kernel
theorem dL_law_803 : decode cL_law 803 = .ok (.iconst 0, 1) := by decide +kernel
