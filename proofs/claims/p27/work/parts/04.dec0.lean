theorem dX0_sine_0 : decode cX0_sine 0 = .ok (.iload_n 0, 1) := by decide +kernel
theorem dX0_sine_1 : decode cX0_sine 1 = .ok (.sipush 360, 3) := by decide +kernel
theorem dX0_sine_4 : decode cX0_sine 4 = .ok (.invokestatic 9, 3) := by decide +kernel
theorem dX0_sine_7 : decode cX0_sine 7 = .ok (.istore_n 1, 1) := by decide +kernel
theorem dX0_sine_8 : decode cX0_sine 8 = .ok (.iload_n 1, 1) := by decide +kernel
theorem dX0_sine_9 : decode cX0_sine 9 = .ok (.sipush 180, 3) := by decide +kernel
theorem dX0_sine_12 : decode cX0_sine 12 = .ok (.irem, 1) := by decide +kernel
theorem dX0_sine_13 : decode cX0_sine 13 = .ok (.istore_n 2, 1) := by decide +kernel
theorem dX0_sine_14 : decode cX0_sine 14 = .ok (.iload_n 2, 1) := by decide +kernel
theorem dX0_sine_15 : decode cX0_sine 15 = .ok (.sipush 180, 3) := by decide +kernel
theorem dX0_sine_18 : decode cX0_sine 18 = .ok (.iload_n 2, 1) := by decide +kernel
theorem dX0_sine_19 : decode cX0_sine 19 = .ok (.isub, 1) := by decide +kernel
theorem dX0_sine_20 : decode cX0_sine 20 = .ok (.imul, 1) := by decide +kernel
theorem dX0_sine_21 : decode cX0_sine 21 = .ok (.istore_n 3, 1) := by decide +kernel
theorem dX0_sine_22 : decode cX0_sine 22 = .ok (.ldc 17, 2) := by decide +kernel
theorem dX0_sine_24 : decode cX0_sine 24 = .ok (.iload_n 3, 1) := by decide +kernel
theorem dX0_sine_25 : decode cX0_sine 25 = .ok (.isub, 1) := by decide +kernel
theorem dX0_sine_26 : decode cX0_sine 26 = .ok (.istore 4, 2) := by decide +kernel
theorem dX0_sine_28 : decode cX0_sine 28 = .ok (.iload 4, 2) := by decide +kernel
theorem dX0_sine_30 : decode cX0_sine 30 = .ok (.ifCond .le 14, 3) := by decide +kernel
theorem dX0_sine_33 : decode cX0_sine 33 = .ok (.sipush 4000, 3) := by decide +kernel
theorem dX0_sine_36 : decode cX0_sine 36 = .ok (.iload_n 3, 1) := by decide +kernel
theorem dX0_sine_37 : decode cX0_sine 37 = .ok (.imul, 1) := by decide +kernel
theorem dX0_sine_38 : decode cX0_sine 38 = .ok (.iload 4, 2) := by decide +kernel
theorem dX0_sine_40 : decode cX0_sine 40 = .ok (.idiv, 1) := by decide +kernel
theorem dX0_sine_41 : decode cX0_sine 41 = .ok (.goto 4, 3) := by decide +kernel
theorem dX0_sine_44 : decode cX0_sine 44 = .ok (.iconst 0, 1) := by decide +kernel
theorem dX0_sine_45 : decode cX0_sine 45 = .ok (.istore 5, 2) := by decide +kernel
theorem dX0_sine_47 : decode cX0_sine 47 = .ok (.iload_n 1, 1) := by decide +kernel
theorem dX0_sine_48 : decode cX0_sine 48 = .ok (.sipush 180, 3) := by decide +kernel
theorem dX0_sine_51 : decode cX0_sine 51 = .ok (.if_icmp .ge 8, 3) := by decide +kernel
theorem dX0_sine_54 : decode cX0_sine 54 = .ok (.iload 5, 2) := by decide +kernel
theorem dX0_sine_56 : decode cX0_sine 56 = .ok (.goto 6, 3) := by decide +kernel
theorem dX0_sine_59 : decode cX0_sine 59 = .ok (.iload 5, 2) := by decide +kernel
theorem dX0_sine_61 : decode cX0_sine 61 = .ok (.ineg, 1) := by decide +kernel
theorem dX0_sine_62 : decode cX0_sine 62 = .ok (.ireturn, 1) := by decide +kernel
theorem dX0_cosine_0 : decode cX0_cosine 0 = .ok (.iload_n 0, 1) := by decide +kernel
theorem dX0_cosine_1 : decode cX0_cosine 1 = .ok (.bipush 90, 2) := by decide +kernel
theorem dX0_cosine_3 : decode cX0_cosine 3 = .ok (.iadd, 1) := by decide +kernel
theorem dX0_cosine_4 : decode cX0_cosine 4 = .ok (.invokestatic 18, 3) := by decide +kernel
theorem dX0_cosine_7 : decode cX0_cosine 7 = .ok (.ireturn, 1) := by decide +kernel
theorem dX1_init_0 : decode cX1_init 0 = .ok (.aload_n 0, 1) := by decide +kernel
theorem dX1_init_1 : decode cX1_init 1 = .ok (.invokespecial 3, 3) := by decide +kernel
theorem dX1_init_4 : decode cX1_init 4 = .ok (.aload_n 0, 1) := by decide +kernel
theorem dX1_init_5 : decode cX1_init 5 = .ok (.bipush 48, 2) := by decide +kernel
theorem dX1_init_7 : decode cX1_init 7 = .ok (.newarray .int, 2) := by decide +kernel
theorem dX1_init_9 : decode cX1_init 9 = .ok (.putfield 9, 3) := by decide +kernel
theorem dX1_init_12 : decode cX1_init 12 = .ok (.aload_n 0, 1) := by decide +kernel
theorem dX1_init_13 : decode cX1_init 13 = .ok (.bipush 80, 2) := by decide +kernel
theorem dX1_init_15 : decode cX1_init 15 = .ok (.newarray .int, 2) := by decide +kernel
theorem dX1_init_17 : decode cX1_init 17 = .ok (.putfield 15, 3) := by decide +kernel
theorem dX1_init_20 : decode cX1_init 20 = .ok (.aload_n 0, 1) := by decide +kernel
theorem dX1_init_21 : decode cX1_init 21 = .ok (.bipush 8, 2) := by decide +kernel
theorem dX1_init_23 : decode cX1_init 23 = .ok (.newarray .int, 2) := by decide +kernel
theorem dX1_init_25 : decode cX1_init 25 = .ok (.putfield 18, 3) := by decide +kernel
theorem dX1_init_28 : decode cX1_init 28 = .ok (.aload_n 0, 1) := by decide +kernel
theorem dX1_init_29 : decode cX1_init 29 = .ok (.getfield 9, 3) := by decide +kernel
theorem dX1_init_32 : decode cX1_init 32 = .ok (.iconst (-1), 1) := by decide +kernel
theorem dX1_init_33 : decode cX1_init 33 = .ok (.invokestatic 21, 3) := by decide +kernel
theorem dX1_init_36 : decode cX1_init 36 = .ok (.aload_n 0, 1) := by decide +kernel
theorem dX1_init_37 : decode cX1_init 37 = .ok (.getfield 18, 3) := by decide +kernel
theorem dX1_init_40 : decode cX1_init 40 = .ok (.iconst (-1), 1) := by decide +kernel
theorem dX1_init_41 : decode cX1_init 41 = .ok (.invokestatic 21, 3) := by decide +kernel
theorem dX1_init_44 : decode cX1_init 44 = .ok (.return_, 1) := by decide +kernel
theorem dX1_replace_0 : decode cX1_replace 0 = .ok (.iload_n 1, 1) := by decide +kernel
theorem dX1_replace_1 : decode cX1_replace 1 = .ok (.bipush 8, 2) := by decide +kernel
theorem dX1_replace_3 : decode cX1_replace 3 = .ok (.imul, 1) := by decide +kernel
theorem dX1_replace_4 : decode cX1_replace 4 = .ok (.iload_n 2, 1) := by decide +kernel
theorem dX1_replace_5 : decode cX1_replace 5 = .ok (.iadd, 1) := by decide +kernel
theorem dX1_replace_6 : decode cX1_replace 6 = .ok (.istore 4, 2) := by decide +kernel
theorem dX1_replace_8 : decode cX1_replace 8 = .ok (.aload_n 0, 1) := by decide +kernel
theorem dX1_replace_9 : decode cX1_replace 9 = .ok (.getfield 9, 3) := by decide +kernel
theorem dX1_replace_12 : decode cX1_replace 12 = .ok (.iload 4, 2) := by decide +kernel
theorem dX1_replace_14 : decode cX1_replace 14 = .ok (.iaload, 1) := by decide +kernel
theorem dX1_replace_15 : decode cX1_replace 15 = .ok (.istore 5, 2) := by decide +kernel
theorem dX1_replace_17 : decode cX1_replace 17 = .ok (.aload_n 0, 1) := by decide +kernel
theorem dX1_replace_18 : decode cX1_replace 18 = .ok (.getfield 9, 3) := by decide +kernel
theorem dX1_replace_21 : decode cX1_replace 21 = .ok (.iload 4, 2) := by decide +kernel
theorem dX1_replace_23 : decode cX1_replace 23 = .ok (.iload_n 3, 1) := by decide +kernel
theorem dX1_replace_24 : decode cX1_replace 24 = .ok (.iastore, 1) := by decide +kernel
theorem dX1_replace_25 : decode cX1_replace 25 = .ok (.aload_n 0, 1) := by decide +kernel
theorem dX1_replace_26 : decode cX1_replace 26 = .ok (.iload_n 2, 1) := by decide +kernel
theorem dX1_replace_27 : decode cX1_replace 27 = .ok (.iload 5, 2) := by decide +kernel
theorem dX1_replace_29 : decode cX1_replace 29 = .ok (.iconst (-1), 1) := by decide +kernel
theorem dX1_replace_30 : decode cX1_replace 30 = .ok (.invokevirtual 27, 3) := by decide +kernel
theorem dX1_replace_33 : decode cX1_replace 33 = .ok (.aload_n 0, 1) := by decide +kernel
theorem dX1_replace_34 : decode cX1_replace 34 = .ok (.iload_n 2, 1) := by decide +kernel
theorem dX1_replace_35 : decode cX1_replace 35 = .ok (.iload_n 3, 1) := by decide +kernel
theorem dX1_replace_36 : decode cX1_replace 36 = .ok (.iconst 1, 1) := by decide +kernel
theorem dX1_replace_37 : decode cX1_replace 37 = .ok (.invokevirtual 27, 3) := by decide +kernel
theorem dX1_replace_40 : decode cX1_replace 40 = .ok (.aload_n 0, 1) := by decide +kernel
theorem dX1_replace_41 : decode cX1_replace 41 = .ok (.invokevirtual 31, 3) := by decide +kernel
theorem dX1_replace_44 : decode cX1_replace 44 = .ok (.iload 5, 2) := by decide +kernel
theorem dX1_replace_46 : decode cX1_replace 46 = .ok (.ireturn, 1) := by decide +kernel
theorem dX1_count_0 : decode cX1_count 0 = .ok (.iload_n 2, 1) := by decide +kernel
theorem dX1_count_1 : decode cX1_count 1 = .ok (.iconst (-1), 1) := by decide +kernel
theorem dX1_count_2 : decode cX1_count 2 = .ok (.if_icmp .eq 18, 3) := by decide +kernel
theorem dX1_count_5 : decode cX1_count 5 = .ok (.aload_n 0, 1) := by decide +kernel
theorem dX1_count_6 : decode cX1_count 6 = .ok (.getfield 15, 3) := by decide +kernel
theorem dX1_count_9 : decode cX1_count 9 = .ok (.iload_n 1, 1) := by decide +kernel
theorem dX1_count_10 : decode cX1_count 10 = .ok (.bipush 10, 2) := by decide +kernel
theorem dX1_count_12 : decode cX1_count 12 = .ok (.imul, 1) := by decide +kernel
theorem dX1_count_13 : decode cX1_count 13 = .ok (.iload_n 2, 1) := by decide +kernel
theorem dX1_count_14 : decode cX1_count 14 = .ok (.iadd, 1) := by decide +kernel
theorem dX1_count_15 : decode cX1_count 15 = .ok (.dup2, 1) := by decide +kernel
theorem dX1_count_16 : decode cX1_count 16 = .ok (.iaload, 1) := by decide +kernel
theorem dX1_count_17 : decode cX1_count 17 = .ok (.iload_n 3, 1) := by decide +kernel
theorem dX1_count_18 : decode cX1_count 18 = .ok (.iadd, 1) := by decide +kernel
theorem dX1_count_19 : decode cX1_count 19 = .ok (.iastore, 1) := by decide +kernel
theorem dX1_count_20 : decode cX1_count 20 = .ok (.return_, 1) := by decide +kernel
theorem dX1_giveNames_0 : decode cX1_giveNames 0 = .ok (.aload_n 0, 1) := by decide +kernel
theorem dX1_giveNames_1 : decode cX1_giveNames 1 = .ok (.getfield 18, 3) := by decide +kernel
theorem dX1_giveNames_4 : decode cX1_giveNames 4 = .ok (.iconst (-1), 1) := by decide +kernel
theorem dX1_giveNames_5 : decode cX1_giveNames 5 = .ok (.invokestatic 21, 3) := by decide +kernel
theorem dX1_giveNames_8 : decode cX1_giveNames 8 = .ok (.iconst 0, 1) := by decide +kernel
theorem dX1_giveNames_9 : decode cX1_giveNames 9 = .ok (.istore_n 1, 1) := by decide +kernel
theorem dX1_giveNames_10 : decode cX1_giveNames 10 = .ok (.bipush 6, 2) := by decide +kernel
theorem dX1_giveNames_12 : decode cX1_giveNames 12 = .ok (.istore_n 2, 1) := by decide +kernel
theorem dX1_giveNames_13 : decode cX1_giveNames 13 = .ok (.iload_n 2, 1) := by decide +kernel
theorem dX1_giveNames_14 : decode cX1_giveNames 14 = .ok (.ifCond .le 33, 3) := by decide +kernel
theorem dX1_giveNames_17 : decode cX1_giveNames 17 = .ok (.iconst 0, 1) := by decide +kernel
theorem dX1_giveNames_18 : decode cX1_giveNames 18 = .ok (.istore_n 3, 1) := by decide +kernel
theorem dX1_giveNames_19 : decode cX1_giveNames 19 = .ok (.iload_n 3, 1) := by decide +kernel
theorem dX1_giveNames_20 : decode cX1_giveNames 20 = .ok (.bipush 8, 2) := by decide +kernel
theorem dX1_giveNames_22 : decode cX1_giveNames 22 = .ok (.if_icmp .ge 19, 3) := by decide +kernel
theorem dX1_giveNames_25 : decode cX1_giveNames 25 = .ok (.iload_n 1, 1) := by decide +kernel
theorem dX1_giveNames_26 : decode cX1_giveNames 26 = .ok (.aload_n 0, 1) := by decide +kernel
theorem dX1_giveNames_27 : decode cX1_giveNames 27 = .ok (.iload_n 3, 1) := by decide +kernel
theorem dX1_giveNames_28 : decode cX1_giveNames 28 = .ok (.iload_n 2, 1) := by decide +kernel
theorem dX1_giveNames_29 : decode cX1_giveNames 29 = .ok (.iload_n 1, 1) := by decide +kernel
theorem dX1_giveNames_30 : decode cX1_giveNames 30 = .ok (.invokevirtual 34, 3) := by decide +kernel
theorem dX1_giveNames_33 : decode cX1_giveNames 33 = .ok (.ior, 1) := by decide +kernel
theorem dX1_giveNames_34 : decode cX1_giveNames 34 = .ok (.istore_n 1, 1) := by decide +kernel
theorem dX1_giveNames_35 : decode cX1_giveNames 35 = .ok (.iinc 3 1, 3) := by decide +kernel
theorem dX1_giveNames_38 : decode cX1_giveNames 38 = .ok (.goto (-19), 3) := by decide +kernel
theorem dX1_giveNames_41 : decode cX1_giveNames 41 = .ok (.iinc 2 (-1), 3) := by decide +kernel
theorem dX1_giveNames_44 : decode cX1_giveNames 44 = .ok (.goto (-31), 3) := by decide +kernel
theorem dX1_giveNames_47 : decode cX1_giveNames 47 = .ok (.return_, 1) := by decide +kernel
theorem dX1_giveName_0 : decode cX1_giveName 0 = .ok (.iconst 0, 1) := by decide +kernel
theorem dX1_giveName_1 : decode cX1_giveName 1 = .ok (.istore 4, 2) := by decide +kernel
theorem dX1_giveName_3 : decode cX1_giveName 3 = .ok (.iload 4, 2) := by decide +kernel
theorem dX1_giveName_5 : decode cX1_giveName 5 = .ok (.bipush 10, 2) := by decide +kernel
theorem dX1_giveName_7 : decode cX1_giveName 7 = .ok (.if_icmp .ge 69, 3) := by decide +kernel
theorem dX1_giveName_10 : decode cX1_giveName 10 = .ok (.aload_n 0, 1) := by decide +kernel
theorem dX1_giveName_11 : decode cX1_giveName 11 = .ok (.getfield 18, 3) := by decide +kernel
theorem dX1_giveName_14 : decode cX1_giveName 14 = .ok (.iload_n 1, 1) := by decide +kernel
theorem dX1_giveName_15 : decode cX1_giveName 15 = .ok (.iaload, 1) := by decide +kernel
theorem dX1_giveName_16 : decode cX1_giveName 16 = .ok (.iconst (-1), 1) := by decide +kernel
theorem dX1_giveName_17 : decode cX1_giveName 17 = .ok (.if_icmp .ne 59, 3) := by decide +kernel
theorem dX1_giveName_20 : decode cX1_giveName 20 = .ok (.iload_n 3, 1) := by decide +kernel
theorem dX1_giveName_21 : decode cX1_giveName 21 = .ok (.iconst 1, 1) := by decide +kernel
theorem dX1_giveName_22 : decode cX1_giveName 22 = .ok (.iload 4, 2) := by decide +kernel
theorem dX1_giveName_24 : decode cX1_giveName 24 = .ok (.ishl, 1) := by decide +kernel
theorem dX1_giveName_25 : decode cX1_giveName 25 = .ok (.iand, 1) := by decide +kernel
theorem dX1_giveName_26 : decode cX1_giveName 26 = .ok (.ifCond .ne 7, 3) := by decide +kernel
theorem dX1_giveName_29 : decode cX1_giveName 29 = .ok (.iconst 1, 1) := by decide +kernel
theorem dX1_giveName_30 : decode cX1_giveName 30 = .ok (.goto 4, 3) := by decide +kernel
theorem dX1_giveName_33 : decode cX1_giveName 33 = .ok (.iconst 0, 1) := by decide +kernel
theorem dX1_giveName_34 : decode cX1_giveName 34 = .ok (.istore 5, 2) := by decide +kernel
theorem dX1_giveName_36 : decode cX1_giveName 36 = .ok (.iload 5, 2) := by decide +kernel
theorem dX1_giveName_38 : decode cX1_giveName 38 = .ok (.ifCond .eq 32, 3) := by decide +kernel
theorem dX1_giveName_41 : decode cX1_giveName 41 = .ok (.aload_n 0, 1) := by decide +kernel
theorem dX1_giveName_42 : decode cX1_giveName 42 = .ok (.getfield 15, 3) := by decide +kernel
theorem dX1_giveName_45 : decode cX1_giveName 45 = .ok (.iload_n 1, 1) := by decide +kernel
theorem dX1_giveName_46 : decode cX1_giveName 46 = .ok (.bipush 10, 2) := by decide +kernel
theorem dX1_giveName_48 : decode cX1_giveName 48 = .ok (.imul, 1) := by decide +kernel
theorem dX1_giveName_49 : decode cX1_giveName 49 = .ok (.iload 4, 2) := by decide +kernel
theorem dX1_giveName_51 : decode cX1_giveName 51 = .ok (.iadd, 1) := by decide +kernel
theorem dX1_giveName_52 : decode cX1_giveName 52 = .ok (.iaload, 1) := by decide +kernel
theorem dX1_giveName_53 : decode cX1_giveName 53 = .ok (.iload_n 2, 1) := by decide +kernel
theorem dX1_giveName_54 : decode cX1_giveName 54 = .ok (.if_icmp .ne 16, 3) := by decide +kernel
theorem dX1_giveName_57 : decode cX1_giveName 57 = .ok (.aload_n 0, 1) := by decide +kernel
theorem dX1_giveName_58 : decode cX1_giveName 58 = .ok (.getfield 18, 3) := by decide +kernel
theorem dX1_giveName_61 : decode cX1_giveName 61 = .ok (.iload_n 1, 1) := by decide +kernel
theorem dX1_giveName_62 : decode cX1_giveName 62 = .ok (.iload 4, 2) := by decide +kernel
theorem dX1_giveName_64 : decode cX1_giveName 64 = .ok (.iastore, 1) := by decide +kernel
theorem dX1_giveName_65 : decode cX1_giveName 65 = .ok (.iconst 1, 1) := by decide +kernel
theorem dX1_giveName_66 : decode cX1_giveName 66 = .ok (.iload 4, 2) := by decide +kernel
theorem dX1_giveName_68 : decode cX1_giveName 68 = .ok (.ishl, 1) := by decide +kernel
theorem dX1_giveName_69 : decode cX1_giveName 69 = .ok (.ireturn, 1) := by decide +kernel
theorem dX1_giveName_70 : decode cX1_giveName 70 = .ok (.iinc 4 1, 3) := by decide +kernel
theorem dX1_giveName_73 : decode cX1_giveName 73 = .ok (.goto (-70), 3) := by decide +kernel
theorem dX1_giveName_76 : decode cX1_giveName 76 = .ok (.iconst 0, 1) := by decide +kernel
theorem dX1_giveName_77 : decode cX1_giveName 77 = .ok (.ireturn, 1) := by decide +kernel
theorem dX2_init_0 : decode cX2_init 0 = .ok (.aload_n 0, 1) := by decide +kernel
theorem dX2_init_1 : decode cX2_init 1 = .ok (.invokespecial 3, 3) := by decide +kernel
theorem dX2_init_4 : decode cX2_init 4 = .ok (.aload_n 0, 1) := by decide +kernel
theorem dX2_init_5 : decode cX2_init 5 = .ok (.bipush 24, 2) := by decide +kernel
theorem dX2_init_7 : decode cX2_init 7 = .ok (.newarray .int, 2) := by decide +kernel
theorem dX2_init_9 : decode cX2_init 9 = .ok (.putfield 9, 3) := by decide +kernel
theorem dX2_init_12 : decode cX2_init 12 = .ok (.aload_n 0, 1) := by decide +kernel
theorem dX2_init_13 : decode cX2_init 13 = .ok (.bipush 24, 2) := by decide +kernel
theorem dX2_init_15 : decode cX2_init 15 = .ok (.newarray .int, 2) := by decide +kernel
theorem dX2_init_17 : decode cX2_init 17 = .ok (.putfield 15, 3) := by decide +kernel
theorem dX2_init_20 : decode cX2_init 20 = .ok (.return_, 1) := by decide +kernel
theorem dX2_append_0 : decode cX2_append 0 = .ok (.aload_n 0, 1) := by decide +kernel
theorem dX2_append_1 : decode cX2_append 1 = .ok (.getfield 18, 3) := by decide +kernel
theorem dX2_append_4 : decode cX2_append 4 = .ok (.istore_n 3, 1) := by decide +kernel
theorem dX2_append_5 : decode cX2_append 5 = .ok (.iload_n 3, 1) := by decide +kernel
theorem dX2_append_6 : decode cX2_append 6 = .ok (.bipush 24, 2) := by decide +kernel
theorem dX2_append_8 : decode cX2_append 8 = .ok (.if_icmp .ge 20, 3) := by decide +kernel
theorem dX2_append_11 : decode cX2_append 11 = .ok (.aload_n 0, 1) := by decide +kernel
theorem dX2_append_12 : decode cX2_append 12 = .ok (.iload_n 3, 1) := by decide +kernel
theorem dX2_append_13 : decode cX2_append 13 = .ok (.iload_n 1, 1) := by decide +kernel
theorem dX2_append_14 : decode cX2_append 14 = .ok (.iload_n 2, 1) := by decide +kernel
theorem dX2_append_15 : decode cX2_append 15 = .ok (.invokevirtual 22, 3) := by decide +kernel
theorem dX2_append_18 : decode cX2_append 18 = .ok (.aload_n 0, 1) := by decide +kernel
theorem dX2_append_19 : decode cX2_append 19 = .ok (.dup, 1) := by decide +kernel
theorem dX2_append_20 : decode cX2_append 20 = .ok (.getfield 18, 3) := by decide +kernel
theorem dX2_append_23 : decode cX2_append 23 = .ok (.iconst 1, 1) := by decide +kernel
theorem dX2_append_24 : decode cX2_append 24 = .ok (.iadd, 1) := by decide +kernel
theorem dX2_append_25 : decode cX2_append 25 = .ok (.putfield 18, 3) := by decide +kernel
theorem dX2_append_28 : decode cX2_append 28 = .ok (.iload_n 3, 1) := by decide +kernel
theorem dX2_append_29 : decode cX2_append 29 = .ok (.ireturn, 1) := by decide +kernel
theorem dX2_move_0 : decode cX2_move 0 = .ok (.aload_n 0, 1) := by decide +kernel
theorem dX2_move_1 : decode cX2_move 1 = .ok (.getfield 9, 3) := by decide +kernel
theorem dX2_move_4 : decode cX2_move 4 = .ok (.iload_n 1, 1) := by decide +kernel
theorem dX2_move_5 : decode cX2_move 5 = .ok (.iload_n 2, 1) := by decide +kernel
theorem dX2_move_6 : decode cX2_move 6 = .ok (.iastore, 1) := by decide +kernel
theorem dX2_move_7 : decode cX2_move 7 = .ok (.aload_n 0, 1) := by decide +kernel
theorem dX2_move_8 : decode cX2_move 8 = .ok (.getfield 15, 3) := by decide +kernel
theorem dX2_move_11 : decode cX2_move 11 = .ok (.iload_n 1, 1) := by decide +kernel
theorem dX2_move_12 : decode cX2_move 12 = .ok (.iload_n 3, 1) := by decide +kernel
theorem dX2_move_13 : decode cX2_move 13 = .ok (.iastore, 1) := by decide +kernel
theorem dX2_move_14 : decode cX2_move 14 = .ok (.return_, 1) := by decide +kernel
theorem dX2_heightAt_0 : decode cX2_heightAt 0 = .ok (.aload_n 0, 1) := by decide +kernel
theorem dX2_heightAt_1 : decode cX2_heightAt 1 = .ok (.getfield 15, 3) := by decide +kernel
theorem dX2_heightAt_4 : decode cX2_heightAt 4 = .ok (.iload_n 1, 1) := by decide +kernel
theorem dX2_heightAt_5 : decode cX2_heightAt 5 = .ok (.iaload, 1) := by decide +kernel
theorem dX2_heightAt_6 : decode cX2_heightAt 6 = .ok (.istore 4, 2) := by decide +kernel
theorem dX2_heightAt_8 : decode cX2_heightAt 8 = .ok (.iload_n 2, 1) := by decide +kernel
theorem dX2_heightAt_9 : decode cX2_heightAt 9 = .ok (.invokestatic 26, 3) := by decide +kernel
theorem dX2_heightAt_12 : decode cX2_heightAt 12 = .ok (.iload 4, 2) := by decide +kernel
theorem dX2_heightAt_14 : decode cX2_heightAt 14 = .ok (.invokestatic 26, 3) := by decide +kernel
theorem dX2_heightAt_17 : decode cX2_heightAt 17 = .ok (.imul, 1) := by decide +kernel
theorem dX2_heightAt_18 : decode cX2_heightAt 18 = .ok (.istore 5, 2) := by decide +kernel
theorem dX2_heightAt_20 : decode cX2_heightAt 20 = .ok (.iload_n 2, 1) := by decide +kernel
theorem dX2_heightAt_21 : decode cX2_heightAt 21 = .ok (.invokestatic 32, 3) := by decide +kernel
theorem dX2_heightAt_24 : decode cX2_heightAt 24 = .ok (.iload 4, 2) := by decide +kernel
theorem dX2_heightAt_26 : decode cX2_heightAt 26 = .ok (.invokestatic 32, 3) := by decide +kernel
theorem dX2_heightAt_29 : decode cX2_heightAt 29 = .ok (.imul, 1) := by decide +kernel
theorem dX2_heightAt_30 : decode cX2_heightAt 30 = .ok (.iload_n 3, 1) := by decide +kernel
theorem dX2_heightAt_31 : decode cX2_heightAt 31 = .ok (.aload_n 0, 1) := by decide +kernel
theorem dX2_heightAt_32 : decode cX2_heightAt 32 = .ok (.getfield 9, 3) := by decide +kernel
theorem dX2_heightAt_35 : decode cX2_heightAt 35 = .ok (.iload_n 1, 1) := by decide +kernel
theorem dX2_heightAt_36 : decode cX2_heightAt 36 = .ok (.iaload, 1) := by decide +kernel
theorem dX2_heightAt_37 : decode cX2_heightAt 37 = .ok (.isub, 1) := by decide +kernel
theorem dX2_heightAt_38 : decode cX2_heightAt 38 = .ok (.invokestatic 32, 3) := by decide +kernel
theorem dX2_heightAt_41 : decode cX2_heightAt 41 = .ok (.imul, 1) := by decide +kernel
theorem dX2_heightAt_42 : decode cX2_heightAt 42 = .ok (.istore 6, 2) := by decide +kernel
theorem dX2_heightAt_44 : decode cX2_heightAt 44 = .ok (.iload 5, 2) := by decide +kernel
theorem dX2_heightAt_46 : decode cX2_heightAt 46 = .ok (.iload 6, 2) := by decide +kernel
theorem dX2_heightAt_48 : decode cX2_heightAt 48 = .ok (.sipush 1000, 3) := by decide +kernel
theorem dX2_heightAt_51 : decode cX2_heightAt 51 = .ok (.invokestatic 35, 3) := by decide +kernel
theorem dX2_heightAt_54 : decode cX2_heightAt 54 = .ok (.iadd, 1) := by decide +kernel
theorem dX2_heightAt_55 : decode cX2_heightAt 55 = .ok (.sipush 1000, 3) := by decide +kernel
theorem dX2_heightAt_58 : decode cX2_heightAt 58 = .ok (.invokestatic 35, 3) := by decide +kernel
theorem dX2_heightAt_61 : decode cX2_heightAt 61 = .ok (.ireturn, 1) := by decide +kernel
theorem dX2_meet_0 : decode cX2_meet 0 = .ok (.aload_n 0, 1) := by decide +kernel
theorem dX2_meet_1 : decode cX2_meet 1 = .ok (.getfield 9, 3) := by decide +kernel
theorem dX2_meet_4 : decode cX2_meet 4 = .ok (.iload_n 1, 1) := by decide +kernel
theorem dX2_meet_5 : decode cX2_meet 5 = .ok (.iaload, 1) := by decide +kernel
theorem dX2_meet_6 : decode cX2_meet 6 = .ok (.aload_n 0, 1) := by decide +kernel
theorem dX2_meet_7 : decode cX2_meet 7 = .ok (.getfield 9, 3) := by decide +kernel
theorem dX2_meet_10 : decode cX2_meet 10 = .ok (.iload_n 2, 1) := by decide +kernel
theorem dX2_meet_11 : decode cX2_meet 11 = .ok (.iaload, 1) := by decide +kernel
theorem dX2_meet_12 : decode cX2_meet 12 = .ok (.aload_n 0, 1) := by decide +kernel
theorem dX2_meet_13 : decode cX2_meet 13 = .ok (.getfield 9, 3) := by decide +kernel
theorem dX2_meet_16 : decode cX2_meet 16 = .ok (.iload_n 3, 1) := by decide +kernel
theorem dX2_meet_17 : decode cX2_meet 17 = .ok (.iaload, 1) := by decide +kernel
theorem dX2_meet_18 : decode cX2_meet 18 = .ok (.aload_n 0, 1) := by decide +kernel
theorem dX2_meet_19 : decode cX2_meet 19 = .ok (.getfield 9, 3) := by decide +kernel
theorem dX2_meet_22 : decode cX2_meet 22 = .ok (.iload 4, 2) := by decide +kernel
theorem dX2_meet_24 : decode cX2_meet 24 = .ok (.iaload, 1) := by decide +kernel
theorem dX2_meet_25 : decode cX2_meet 25 = .ok (.invokestatic 41, 3) := by decide +kernel
theorem dX2_meet_28 : decode cX2_meet 28 = .ok (.ifCond .eq 62, 3) := by decide +kernel
theorem dX2_meet_31 : decode cX2_meet 31 = .ok (.aload_n 0, 1) := by decide +kernel
theorem dX2_meet_32 : decode cX2_meet 32 = .ok (.getfield 15, 3) := by decide +kernel
theorem dX2_meet_35 : decode cX2_meet 35 = .ok (.iload_n 1, 1) := by decide +kernel
theorem dX2_meet_36 : decode cX2_meet 36 = .ok (.iaload, 1) := by decide +kernel
theorem dX2_meet_37 : decode cX2_meet 37 = .ok (.aload_n 0, 1) := by decide +kernel
theorem dX2_meet_38 : decode cX2_meet 38 = .ok (.getfield 15, 3) := by decide +kernel
theorem dX2_meet_41 : decode cX2_meet 41 = .ok (.iload_n 2, 1) := by decide +kernel
theorem dX2_meet_42 : decode cX2_meet 42 = .ok (.iaload, 1) := by decide +kernel
theorem dX2_meet_43 : decode cX2_meet 43 = .ok (.aload_n 0, 1) := by decide +kernel
theorem dX2_meet_44 : decode cX2_meet 44 = .ok (.getfield 15, 3) := by decide +kernel
theorem dX2_meet_47 : decode cX2_meet 47 = .ok (.iload_n 3, 1) := by decide +kernel
theorem dX2_meet_48 : decode cX2_meet 48 = .ok (.iaload, 1) := by decide +kernel
theorem dX2_meet_49 : decode cX2_meet 49 = .ok (.aload_n 0, 1) := by decide +kernel
theorem dX2_meet_50 : decode cX2_meet 50 = .ok (.getfield 15, 3) := by decide +kernel
theorem dX2_meet_53 : decode cX2_meet 53 = .ok (.iload 4, 2) := by decide +kernel
theorem dX2_meet_55 : decode cX2_meet 55 = .ok (.iaload, 1) := by decide +kernel
theorem dX2_meet_56 : decode cX2_meet 56 = .ok (.invokestatic 41, 3) := by decide +kernel
theorem dX2_meet_59 : decode cX2_meet 59 = .ok (.ifCond .eq 31, 3) := by decide +kernel
theorem dX2_meet_62 : decode cX2_meet 62 = .ok (.aload_n 0, 1) := by decide +kernel
theorem dX2_meet_63 : decode cX2_meet 63 = .ok (.iload_n 1, 1) := by decide +kernel
theorem dX2_meet_64 : decode cX2_meet 64 = .ok (.iload_n 2, 1) := by decide +kernel
theorem dX2_meet_65 : decode cX2_meet 65 = .ok (.iload_n 3, 1) := by decide +kernel
theorem dX2_meet_66 : decode cX2_meet 66 = .ok (.iload 4, 2) := by decide +kernel
theorem dX2_meet_68 : decode cX2_meet 68 = .ok (.invokevirtual 45, 3) := by decide +kernel
theorem dX2_meet_71 : decode cX2_meet 71 = .ok (.ifCond .eq 19, 3) := by decide +kernel
theorem dX2_meet_74 : decode cX2_meet 74 = .ok (.aload_n 0, 1) := by decide +kernel
theorem dX2_meet_75 : decode cX2_meet 75 = .ok (.iload_n 3, 1) := by decide +kernel
theorem dX2_meet_76 : decode cX2_meet 76 = .ok (.iload 4, 2) := by decide +kernel
theorem dX2_meet_78 : decode cX2_meet 78 = .ok (.iload_n 1, 1) := by decide +kernel
theorem dX2_meet_79 : decode cX2_meet 79 = .ok (.iload_n 2, 1) := by decide +kernel
theorem dX2_meet_80 : decode cX2_meet 80 = .ok (.invokevirtual 45, 3) := by decide +kernel
theorem dX2_meet_83 : decode cX2_meet 83 = .ok (.ifCond .eq 7, 3) := by decide +kernel
theorem dX2_meet_86 : decode cX2_meet 86 = .ok (.iconst 1, 1) := by decide +kernel
theorem dX2_meet_87 : decode cX2_meet 87 = .ok (.goto 4, 3) := by decide +kernel
theorem dX2_meet_90 : decode cX2_meet 90 = .ok (.iconst 0, 1) := by decide +kernel
theorem dX2_meet_91 : decode cX2_meet 91 = .ok (.ireturn, 1) := by decide +kernel
theorem dX2_spansOverlap_0 : decode cX2_spansOverlap 0 = .ok (.iload_n 0, 1) := by decide +kernel
theorem dX2_spansOverlap_1 : decode cX2_spansOverlap 1 = .ok (.iload_n 1, 1) := by decide +kernel
theorem dX2_spansOverlap_2 : decode cX2_spansOverlap 2 = .ok (.invokestatic 48, 3) := by decide +kernel
theorem dX2_spansOverlap_5 : decode cX2_spansOverlap 5 = .ok (.iload_n 2, 1) := by decide +kernel
theorem dX2_spansOverlap_6 : decode cX2_spansOverlap 6 = .ok (.iload_n 3, 1) := by decide +kernel
theorem dX2_spansOverlap_7 : decode cX2_spansOverlap 7 = .ok (.invokestatic 51, 3) := by decide +kernel
theorem dX2_spansOverlap_10 : decode cX2_spansOverlap 10 = .ok (.if_icmp .lt 20, 3) := by decide +kernel
theorem dX2_spansOverlap_13 : decode cX2_spansOverlap 13 = .ok (.iload_n 2, 1) := by decide +kernel
theorem dX2_spansOverlap_14 : decode cX2_spansOverlap 14 = .ok (.iload_n 3, 1) := by decide +kernel
theorem dX2_spansOverlap_15 : decode cX2_spansOverlap 15 = .ok (.invokestatic 48, 3) := by decide +kernel
theorem dX2_spansOverlap_18 : decode cX2_spansOverlap 18 = .ok (.iload_n 0, 1) := by decide +kernel
theorem dX2_spansOverlap_19 : decode cX2_spansOverlap 19 = .ok (.iload_n 1, 1) := by decide +kernel
theorem dX2_spansOverlap_20 : decode cX2_spansOverlap 20 = .ok (.invokestatic 51, 3) := by decide +kernel
theorem dX2_spansOverlap_23 : decode cX2_spansOverlap 23 = .ok (.if_icmp .lt 7, 3) := by decide +kernel
theorem dX2_spansOverlap_26 : decode cX2_spansOverlap 26 = .ok (.iconst 1, 1) := by decide +kernel
theorem dX2_spansOverlap_27 : decode cX2_spansOverlap 27 = .ok (.goto 4, 3) := by decide +kernel
theorem dX2_spansOverlap_30 : decode cX2_spansOverlap 30 = .ok (.iconst 0, 1) := by decide +kernel
theorem dX2_spansOverlap_31 : decode cX2_spansOverlap 31 = .ok (.ireturn, 1) := by decide +kernel
theorem dX2_straddles_0 : decode cX2_straddles 0 = .ok (.aload_n 0, 1) := by decide +kernel
theorem dX2_straddles_1 : decode cX2_straddles 1 = .ok (.iload_n 1, 1) := by decide +kernel
theorem dX2_straddles_2 : decode cX2_straddles 2 = .ok (.iload_n 2, 1) := by decide +kernel
theorem dX2_straddles_3 : decode cX2_straddles 3 = .ok (.iload_n 3, 1) := by decide +kernel
theorem dX2_straddles_4 : decode cX2_straddles 4 = .ok (.invokevirtual 54, 3) := by decide +kernel
theorem dX2_straddles_7 : decode cX2_straddles 7 = .ok (.aload_n 0, 1) := by decide +kernel
theorem dX2_straddles_8 : decode cX2_straddles 8 = .ok (.iload_n 1, 1) := by decide +kernel
theorem dX2_straddles_9 : decode cX2_straddles 9 = .ok (.iload_n 2, 1) := by decide +kernel
theorem dX2_straddles_10 : decode cX2_straddles 10 = .ok (.iload 4, 2) := by decide +kernel
theorem dX2_straddles_12 : decode cX2_straddles 12 = .ok (.invokevirtual 54, 3) := by decide +kernel
theorem dX2_straddles_15 : decode cX2_straddles 15 = .ok (.imul, 1) := by decide +kernel
theorem dX2_straddles_16 : decode cX2_straddles 16 = .ok (.ifCond .gt 7, 3) := by decide +kernel
theorem dX2_straddles_19 : decode cX2_straddles 19 = .ok (.iconst 1, 1) := by decide +kernel
theorem dX2_straddles_20 : decode cX2_straddles 20 = .ok (.goto 4, 3) := by decide +kernel
theorem dX2_straddles_23 : decode cX2_straddles 23 = .ok (.iconst 0, 1) := by decide +kernel
theorem dX2_straddles_24 : decode cX2_straddles 24 = .ok (.ireturn, 1) := by decide +kernel
theorem dX2_sideOf_0 : decode cX2_sideOf 0 = .ok (.aload_n 0, 1) := by decide +kernel
theorem dX2_sideOf_1 : decode cX2_sideOf 1 = .ok (.getfield 9, 3) := by decide +kernel
theorem dX2_sideOf_4 : decode cX2_sideOf 4 = .ok (.iload_n 2, 1) := by decide +kernel
theorem dX2_sideOf_5 : decode cX2_sideOf 5 = .ok (.iaload, 1) := by decide +kernel
theorem dX2_sideOf_6 : decode cX2_sideOf 6 = .ok (.aload_n 0, 1) := by decide +kernel
theorem dX2_sideOf_7 : decode cX2_sideOf 7 = .ok (.getfield 9, 3) := by decide +kernel
theorem dX2_sideOf_10 : decode cX2_sideOf 10 = .ok (.iload_n 1, 1) := by decide +kernel
theorem dX2_sideOf_11 : decode cX2_sideOf 11 = .ok (.iaload, 1) := by decide +kernel
theorem dX2_sideOf_12 : decode cX2_sideOf 12 = .ok (.isub, 1) := by decide +kernel
theorem dX2_sideOf_13 : decode cX2_sideOf 13 = .ok (.aload_n 0, 1) := by decide +kernel
theorem dX2_sideOf_14 : decode cX2_sideOf 14 = .ok (.getfield 15, 3) := by decide +kernel
theorem dX2_sideOf_17 : decode cX2_sideOf 17 = .ok (.iload_n 3, 1) := by decide +kernel
theorem dX2_sideOf_18 : decode cX2_sideOf 18 = .ok (.iaload, 1) := by decide +kernel
theorem dX2_sideOf_19 : decode cX2_sideOf 19 = .ok (.aload_n 0, 1) := by decide +kernel
theorem dX2_sideOf_20 : decode cX2_sideOf 20 = .ok (.getfield 15, 3) := by decide +kernel
theorem dX2_sideOf_23 : decode cX2_sideOf 23 = .ok (.iload_n 1, 1) := by decide +kernel
theorem dX2_sideOf_24 : decode cX2_sideOf 24 = .ok (.iaload, 1) := by decide +kernel
theorem dX2_sideOf_25 : decode cX2_sideOf 25 = .ok (.isub, 1) := by decide +kernel
theorem dX2_sideOf_26 : decode cX2_sideOf 26 = .ok (.imul, 1) := by decide +kernel
theorem dX2_sideOf_27 : decode cX2_sideOf 27 = .ok (.aload_n 0, 1) := by decide +kernel
theorem dX2_sideOf_28 : decode cX2_sideOf 28 = .ok (.getfield 15, 3) := by decide +kernel
theorem dX2_sideOf_31 : decode cX2_sideOf 31 = .ok (.iload_n 2, 1) := by decide +kernel
theorem dX2_sideOf_32 : decode cX2_sideOf 32 = .ok (.iaload, 1) := by decide +kernel
theorem dX2_sideOf_33 : decode cX2_sideOf 33 = .ok (.aload_n 0, 1) := by decide +kernel
theorem dX2_sideOf_34 : decode cX2_sideOf 34 = .ok (.getfield 15, 3) := by decide +kernel
theorem dX2_sideOf_37 : decode cX2_sideOf 37 = .ok (.iload_n 1, 1) := by decide +kernel
theorem dX2_sideOf_38 : decode cX2_sideOf 38 = .ok (.iaload, 1) := by decide +kernel
theorem dX2_sideOf_39 : decode cX2_sideOf 39 = .ok (.isub, 1) := by decide +kernel
theorem dX2_sideOf_40 : decode cX2_sideOf 40 = .ok (.aload_n 0, 1) := by decide +kernel
theorem dX2_sideOf_41 : decode cX2_sideOf 41 = .ok (.getfield 9, 3) := by decide +kernel
theorem dX2_sideOf_44 : decode cX2_sideOf 44 = .ok (.iload_n 3, 1) := by decide +kernel
theorem dX2_sideOf_45 : decode cX2_sideOf 45 = .ok (.iaload, 1) := by decide +kernel
theorem dX2_sideOf_46 : decode cX2_sideOf 46 = .ok (.aload_n 0, 1) := by decide +kernel
theorem dX2_sideOf_47 : decode cX2_sideOf 47 = .ok (.getfield 9, 3) := by decide +kernel
theorem dX2_sideOf_50 : decode cX2_sideOf 50 = .ok (.iload_n 1, 1) := by decide +kernel
theorem dX2_sideOf_51 : decode cX2_sideOf 51 = .ok (.iaload, 1) := by decide +kernel
theorem dX2_sideOf_52 : decode cX2_sideOf 52 = .ok (.isub, 1) := by decide +kernel
theorem dX2_sideOf_53 : decode cX2_sideOf 53 = .ok (.imul, 1) := by decide +kernel
theorem dX2_sideOf_54 : decode cX2_sideOf 54 = .ok (.invokestatic 58, 3) := by decide +kernel
theorem dX2_sideOf_57 : decode cX2_sideOf 57 = .ok (.ireturn, 1) := by decide +kernel
theorem dX3_init_0 : decode cX3_init 0 = .ok (.aload_n 0, 1) := by decide +kernel
theorem dX3_init_1 : decode cX3_init 1 = .ok (.invokespecial 3, 3) := by decide +kernel
theorem dX3_init_4 : decode cX3_init 4 = .ok (.aload_n 0, 1) := by decide +kernel
theorem dX3_init_5 : decode cX3_init 5 = .ok (.bipush 30, 2) := by decide +kernel
theorem dX3_init_7 : decode cX3_init 7 = .ok (.newarray .int, 2) := by decide +kernel
theorem dX3_init_9 : decode cX3_init 9 = .ok (.putfield 9, 3) := by decide +kernel
theorem dX3_init_12 : decode cX3_init 12 = .ok (.aload_n 0, 1) := by decide +kernel
theorem dX3_init_13 : decode cX3_init 13 = .ok (.bipush 30, 2) := by decide +kernel
theorem dX3_init_15 : decode cX3_init 15 = .ok (.newarray .int, 2) := by decide +kernel
theorem dX3_init_17 : decode cX3_init 17 = .ok (.putfield 15, 3) := by decide +kernel
theorem dX3_init_20 : decode cX3_init 20 = .ok (.aload_n 0, 1) := by decide +kernel
theorem dX3_init_21 : decode cX3_init 21 = .ok (.bipush 30, 2) := by decide +kernel
theorem dX3_init_23 : decode cX3_init 23 = .ok (.newarray .int, 2) := by decide +kernel
theorem dX3_init_25 : decode cX3_init 25 = .ok (.putfield 18, 3) := by decide +kernel
theorem dX3_init_28 : decode cX3_init 28 = .ok (.aload_n 0, 1) := by decide +kernel
theorem dX3_init_29 : decode cX3_init 29 = .ok (.bipush 30, 2) := by decide +kernel
theorem dX3_init_31 : decode cX3_init 31 = .ok (.newarray .int, 2) := by decide +kernel
theorem dX3_init_33 : decode cX3_init 33 = .ok (.putfield 21, 3) := by decide +kernel
theorem dX3_init_36 : decode cX3_init 36 = .ok (.aload_n 0, 1) := by decide +kernel
theorem dX3_init_37 : decode cX3_init 37 = .ok (.bipush 30, 2) := by decide +kernel
theorem dX3_init_39 : decode cX3_init 39 = .ok (.newarray .int, 2) := by decide +kernel
theorem dX3_init_41 : decode cX3_init 41 = .ok (.putfield 24, 3) := by decide +kernel
theorem dX3_init_44 : decode cX3_init 44 = .ok (.return_, 1) := by decide +kernel
theorem dX3_keep_0 : decode cX3_keep 0 = .ok (.aload_n 0, 1) := by decide +kernel
theorem dX3_keep_1 : decode cX3_keep 1 = .ok (.getfield 9, 3) := by decide +kernel
theorem dX3_keep_4 : decode cX3_keep 4 = .ok (.aload_n 0, 1) := by decide +kernel
theorem dX3_keep_5 : decode cX3_keep 5 = .ok (.getfield 27, 3) := by decide +kernel
theorem dX3_keep_8 : decode cX3_keep 8 = .ok (.iload_n 1, 1) := by decide +kernel
theorem dX3_keep_9 : decode cX3_keep 9 = .ok (.iastore, 1) := by decide +kernel
theorem dX3_keep_10 : decode cX3_keep 10 = .ok (.aload_n 0, 1) := by decide +kernel
theorem dX3_keep_11 : decode cX3_keep 11 = .ok (.getfield 15, 3) := by decide +kernel
theorem dX3_keep_14 : decode cX3_keep 14 = .ok (.aload_n 0, 1) := by decide +kernel
theorem dX3_keep_15 : decode cX3_keep 15 = .ok (.getfield 27, 3) := by decide +kernel
theorem dX3_keep_18 : decode cX3_keep 18 = .ok (.iload_n 2, 1) := by decide +kernel
theorem dX3_keep_19 : decode cX3_keep 19 = .ok (.iastore, 1) := by decide +kernel
theorem dX3_keep_20 : decode cX3_keep 20 = .ok (.aload_n 0, 1) := by decide +kernel
theorem dX3_keep_21 : decode cX3_keep 21 = .ok (.getfield 18, 3) := by decide +kernel
theorem dX3_keep_24 : decode cX3_keep 24 = .ok (.aload_n 0, 1) := by decide +kernel
theorem dX3_keep_25 : decode cX3_keep 25 = .ok (.getfield 27, 3) := by decide +kernel
theorem dX3_keep_28 : decode cX3_keep 28 = .ok (.iload_n 3, 1) := by decide +kernel
theorem dX3_keep_29 : decode cX3_keep 29 = .ok (.iastore, 1) := by decide +kernel
theorem dX3_keep_30 : decode cX3_keep 30 = .ok (.aload_n 0, 1) := by decide +kernel
theorem dX3_keep_31 : decode cX3_keep 31 = .ok (.getfield 21, 3) := by decide +kernel
theorem dX3_keep_34 : decode cX3_keep 34 = .ok (.aload_n 0, 1) := by decide +kernel
theorem dX3_keep_35 : decode cX3_keep 35 = .ok (.getfield 27, 3) := by decide +kernel
theorem dX3_keep_38 : decode cX3_keep 38 = .ok (.iload 4, 2) := by decide +kernel
theorem dX3_keep_40 : decode cX3_keep 40 = .ok (.iastore, 1) := by decide +kernel
theorem dX3_keep_41 : decode cX3_keep 41 = .ok (.aload_n 0, 1) := by decide +kernel
theorem dX3_keep_42 : decode cX3_keep 42 = .ok (.getfield 24, 3) := by decide +kernel
theorem dX3_keep_45 : decode cX3_keep 45 = .ok (.aload_n 0, 1) := by decide +kernel
theorem dX3_keep_46 : decode cX3_keep 46 = .ok (.getfield 27, 3) := by decide +kernel
theorem dX3_keep_49 : decode cX3_keep 49 = .ok (.iload 5, 2) := by decide +kernel
theorem dX3_keep_51 : decode cX3_keep 51 = .ok (.iastore, 1) := by decide +kernel
theorem dX3_keep_52 : decode cX3_keep 52 = .ok (.aload_n 0, 1) := by decide +kernel
theorem dX3_keep_53 : decode cX3_keep 53 = .ok (.aload_n 0, 1) := by decide +kernel
theorem dX3_keep_54 : decode cX3_keep 54 = .ok (.getfield 27, 3) := by decide +kernel
theorem dX3_keep_57 : decode cX3_keep 57 = .ok (.iconst 1, 1) := by decide +kernel
theorem dX3_keep_58 : decode cX3_keep 58 = .ok (.iadd, 1) := by decide +kernel
theorem dX3_keep_59 : decode cX3_keep 59 = .ok (.bipush 30, 2) := by decide +kernel
theorem dX3_keep_61 : decode cX3_keep 61 = .ok (.irem, 1) := by decide +kernel
theorem dX3_keep_62 : decode cX3_keep 62 = .ok (.putfield 27, 3) := by decide +kernel
theorem dX3_keep_65 : decode cX3_keep 65 = .ok (.aload_n 0, 1) := by decide +kernel
theorem dX3_keep_66 : decode cX3_keep 66 = .ok (.aload_n 0, 1) := by decide +kernel
theorem dX3_keep_67 : decode cX3_keep 67 = .ok (.getfield 31, 3) := by decide +kernel
theorem dX3_keep_70 : decode cX3_keep 70 = .ok (.iconst 1, 1) := by decide +kernel
theorem dX3_keep_71 : decode cX3_keep 71 = .ok (.iadd, 1) := by decide +kernel
theorem dX3_keep_72 : decode cX3_keep 72 = .ok (.bipush 30, 2) := by decide +kernel
theorem dX3_keep_74 : decode cX3_keep 74 = .ok (.invokestatic 34, 3) := by decide +kernel
theorem dX3_keep_77 : decode cX3_keep 77 = .ok (.putfield 31, 3) := by decide +kernel
theorem dX3_keep_80 : decode cX3_keep 80 = .ok (.return_, 1) := by decide +kernel
theorem dX3_stepBack_0 : decode cX3_stepBack 0 = .ok (.aload_n 0, 1) := by decide +kernel
theorem dX3_stepBack_1 : decode cX3_stepBack 1 = .ok (.aload_n 0, 1) := by decide +kernel
theorem dX3_stepBack_2 : decode cX3_stepBack 2 = .ok (.getfield 27, 3) := by decide +kernel
theorem dX3_stepBack_5 : decode cX3_stepBack 5 = .ok (.bipush 30, 2) := by decide +kernel
theorem dX3_stepBack_7 : decode cX3_stepBack 7 = .ok (.iadd, 1) := by decide +kernel
theorem dX3_stepBack_8 : decode cX3_stepBack 8 = .ok (.iconst 1, 1) := by decide +kernel
theorem dX3_stepBack_9 : decode cX3_stepBack 9 = .ok (.isub, 1) := by decide +kernel
theorem dX3_stepBack_10 : decode cX3_stepBack 10 = .ok (.bipush 30, 2) := by decide +kernel
theorem dX3_stepBack_12 : decode cX3_stepBack 12 = .ok (.irem, 1) := by decide +kernel
theorem dX3_stepBack_13 : decode cX3_stepBack 13 = .ok (.putfield 27, 3) := by decide +kernel
theorem dX3_stepBack_16 : decode cX3_stepBack 16 = .ok (.aload_n 0, 1) := by decide +kernel
theorem dX3_stepBack_17 : decode cX3_stepBack 17 = .ok (.dup, 1) := by decide +kernel
theorem dX3_stepBack_18 : decode cX3_stepBack 18 = .ok (.getfield 31, 3) := by decide +kernel
theorem dX3_stepBack_21 : decode cX3_stepBack 21 = .ok (.iconst 1, 1) := by decide +kernel
theorem dX3_stepBack_22 : decode cX3_stepBack 22 = .ok (.isub, 1) := by decide +kernel
theorem dX3_stepBack_23 : decode cX3_stepBack 23 = .ok (.putfield 31, 3) := by decide +kernel
theorem dX3_stepBack_26 : decode cX3_stepBack 26 = .ok (.return_, 1) := by decide +kernel
theorem dX4_init_0 : decode cX4_init 0 = .ok (.aload_n 0, 1) := by decide +kernel
theorem dX4_init_1 : decode cX4_init 1 = .ok (.invokespecial 3, 3) := by decide +kernel
theorem dX4_init_4 : decode cX4_init 4 = .ok (.aload_n 0, 1) := by decide +kernel
theorem dX4_init_5 : decode cX4_init 5 = .ok (.bipush 12, 2) := by decide +kernel
theorem dX4_init_7 : decode cX4_init 7 = .ok (.newarray .int, 2) := by decide +kernel
theorem dX4_init_9 : decode cX4_init 9 = .ok (.putfield 9, 3) := by decide +kernel
theorem dX4_init_12 : decode cX4_init 12 = .ok (.aload_n 0, 1) := by decide +kernel
theorem dX4_init_13 : decode cX4_init 13 = .ok (.bipush 12, 2) := by decide +kernel
theorem dX4_init_15 : decode cX4_init 15 = .ok (.newarray .int, 2) := by decide +kernel
theorem dX4_init_17 : decode cX4_init 17 = .ok (.putfield 15, 3) := by decide +kernel
theorem dX4_init_20 : decode cX4_init 20 = .ok (.aload_n 0, 1) := by decide +kernel
theorem dX4_init_21 : decode cX4_init 21 = .ok (.bipush 12, 2) := by decide +kernel
theorem dX4_init_23 : decode cX4_init 23 = .ok (.newarray .int, 2) := by decide +kernel
theorem dX4_init_25 : decode cX4_init 25 = .ok (.putfield 18, 3) := by decide +kernel
theorem dX4_init_28 : decode cX4_init 28 = .ok (.aload_n 0, 1) := by decide +kernel
theorem dX4_init_29 : decode cX4_init 29 = .ok (.bipush 12, 2) := by decide +kernel
theorem dX4_init_31 : decode cX4_init 31 = .ok (.newarray .int, 2) := by decide +kernel
theorem dX4_init_33 : decode cX4_init 33 = .ok (.putfield 21, 3) := by decide +kernel
theorem dX4_init_36 : decode cX4_init 36 = .ok (.return_, 1) := by decide +kernel
theorem dX4_append_0 : decode cX4_append 0 = .ok (.aload_n 0, 1) := by decide +kernel
theorem dX4_append_1 : decode cX4_append 1 = .ok (.getfield 24, 3) := by decide +kernel
theorem dX4_append_4 : decode cX4_append 4 = .ok (.istore 5, 2) := by decide +kernel
theorem dX4_append_6 : decode cX4_append 6 = .ok (.iload 5, 2) := by decide +kernel
theorem dX4_append_8 : decode cX4_append 8 = .ok (.bipush 12, 2) := by decide +kernel
theorem dX4_append_10 : decode cX4_append 10 = .ok (.if_icmp .ge 46, 3) := by decide +kernel
theorem dX4_append_13 : decode cX4_append 13 = .ok (.aload_n 0, 1) := by decide +kernel
theorem dX4_append_14 : decode cX4_append 14 = .ok (.getfield 9, 3) := by decide +kernel
theorem dX4_append_17 : decode cX4_append 17 = .ok (.iload 5, 2) := by decide +kernel
theorem dX4_append_19 : decode cX4_append 19 = .ok (.iload_n 1, 1) := by decide +kernel
theorem dX4_append_20 : decode cX4_append 20 = .ok (.iastore, 1) := by decide +kernel
theorem dX4_append_21 : decode cX4_append 21 = .ok (.aload_n 0, 1) := by decide +kernel
theorem dX4_append_22 : decode cX4_append 22 = .ok (.getfield 15, 3) := by decide +kernel
theorem dX4_append_25 : decode cX4_append 25 = .ok (.iload 5, 2) := by decide +kernel
theorem dX4_append_27 : decode cX4_append 27 = .ok (.iload_n 2, 1) := by decide +kernel
theorem dX4_append_28 : decode cX4_append 28 = .ok (.iastore, 1) := by decide +kernel
theorem dX4_append_29 : decode cX4_append 29 = .ok (.aload_n 0, 1) := by decide +kernel
theorem dX4_append_30 : decode cX4_append 30 = .ok (.getfield 18, 3) := by decide +kernel
theorem dX4_append_33 : decode cX4_append 33 = .ok (.iload 5, 2) := by decide +kernel
theorem dX4_append_35 : decode cX4_append 35 = .ok (.iload_n 3, 1) := by decide +kernel
theorem dX4_append_36 : decode cX4_append 36 = .ok (.iastore, 1) := by decide +kernel
theorem dX4_append_37 : decode cX4_append 37 = .ok (.aload_n 0, 1) := by decide +kernel
theorem dX4_append_38 : decode cX4_append 38 = .ok (.getfield 21, 3) := by decide +kernel
theorem dX4_append_41 : decode cX4_append 41 = .ok (.iload 5, 2) := by decide +kernel
theorem dX4_append_43 : decode cX4_append 43 = .ok (.iload 4, 2) := by decide +kernel
theorem dX4_append_45 : decode cX4_append 45 = .ok (.iastore, 1) := by decide +kernel
theorem dX4_append_46 : decode cX4_append 46 = .ok (.aload_n 0, 1) := by decide +kernel
theorem dX4_append_47 : decode cX4_append 47 = .ok (.dup, 1) := by decide +kernel
theorem dX4_append_48 : decode cX4_append 48 = .ok (.getfield 24, 3) := by decide +kernel
theorem dX4_append_51 : decode cX4_append 51 = .ok (.iconst 1, 1) := by decide +kernel
theorem dX4_append_52 : decode cX4_append 52 = .ok (.iadd, 1) := by decide +kernel
theorem dX4_append_53 : decode cX4_append 53 = .ok (.putfield 24, 3) := by decide +kernel
theorem dX4_append_56 : decode cX4_append 56 = .ok (.iload 5, 2) := by decide +kernel
theorem dX4_append_58 : decode cX4_append 58 = .ok (.ireturn, 1) := by decide +kernel
theorem dX5_init_0 : decode cX5_init 0 = .ok (.aload_n 0, 1) := by decide +kernel
theorem dX5_init_1 : decode cX5_init 1 = .ok (.invokespecial 3, 3) := by decide +kernel
theorem dX5_init_4 : decode cX5_init 4 = .ok (.aload_n 0, 1) := by decide +kernel
theorem dX5_init_5 : decode cX5_init 5 = .ok (.bipush 8, 2) := by decide +kernel
theorem dX5_init_7 : decode cX5_init 7 = .ok (.newarray .int, 2) := by decide +kernel
theorem dX5_init_9 : decode cX5_init 9 = .ok (.putfield 9, 3) := by decide +kernel
theorem dX5_init_12 : decode cX5_init 12 = .ok (.aload_n 0, 1) := by decide +kernel
theorem dX5_init_13 : decode cX5_init 13 = .ok (.bipush 80, 2) := by decide +kernel
theorem dX5_init_15 : decode cX5_init 15 = .ok (.newarray .int, 2) := by decide +kernel
theorem dX5_init_17 : decode cX5_init 17 = .ok (.putfield 15, 3) := by decide +kernel
theorem dX5_init_20 : decode cX5_init 20 = .ok (.aload_n 0, 1) := by decide +kernel
theorem dX5_init_21 : decode cX5_init 21 = .ok (.bipush 80, 2) := by decide +kernel
theorem dX5_init_23 : decode cX5_init 23 = .ok (.newarray .int, 2) := by decide +kernel
theorem dX5_init_25 : decode cX5_init 25 = .ok (.putfield 18, 3) := by decide +kernel
theorem dX5_init_28 : decode cX5_init 28 = .ok (.return_, 1) := by decide +kernel
theorem dX5_place_0 : decode cX5_place 0 = .ok (.iload_n 0, 1) := by decide +kernel
theorem dX5_place_1 : decode cX5_place 1 = .ok (.bipush 10, 2) := by decide +kernel
theorem dX5_place_3 : decode cX5_place 3 = .ok (.imul, 1) := by decide +kernel
theorem dX5_place_4 : decode cX5_place 4 = .ok (.iload_n 1, 1) := by decide +kernel
theorem dX5_place_5 : decode cX5_place 5 = .ok (.iadd, 1) := by decide +kernel
theorem dX5_place_6 : decode cX5_place 6 = .ok (.ireturn, 1) := by decide +kernel
theorem dX5_appendFigure_0 : decode cX5_appendFigure 0 = .ok (.aload_n 0, 1) := by decide +kernel
theorem dX5_appendFigure_1 : decode cX5_appendFigure 1 = .ok (.getfield 21, 3) := by decide +kernel
theorem dX5_appendFigure_4 : decode cX5_appendFigure 4 = .ok (.istore_n 1, 1) := by decide +kernel
theorem dX5_appendFigure_5 : decode cX5_appendFigure 5 = .ok (.iload_n 1, 1) := by decide +kernel
theorem dX5_appendFigure_6 : decode cX5_appendFigure 6 = .ok (.bipush 8, 2) := by decide +kernel
theorem dX5_appendFigure_8 : decode cX5_appendFigure 8 = .ok (.if_icmp .ge 13, 3) := by decide +kernel
theorem dX5_appendFigure_11 : decode cX5_appendFigure 11 = .ok (.aload_n 0, 1) := by decide +kernel
theorem dX5_appendFigure_12 : decode cX5_appendFigure 12 = .ok (.dup, 1) := by decide +kernel
theorem dX5_appendFigure_13 : decode cX5_appendFigure 13 = .ok (.getfield 21, 3) := by decide +kernel
theorem dX5_appendFigure_16 : decode cX5_appendFigure 16 = .ok (.iconst 1, 1) := by decide +kernel
theorem dX5_appendFigure_17 : decode cX5_appendFigure 17 = .ok (.iadd, 1) := by decide +kernel
theorem dX5_appendFigure_18 : decode cX5_appendFigure 18 = .ok (.putfield 21, 3) := by decide +kernel
theorem dX5_appendFigure_21 : decode cX5_appendFigure 21 = .ok (.iload_n 1, 1) := by decide +kernel
theorem dX5_appendFigure_22 : decode cX5_appendFigure 22 = .ok (.ireturn, 1) := by decide +kernel
theorem dX5_joins_0 : decode cX5_joins 0 = .ok (.iconst 0, 1) := by decide +kernel
theorem dX5_joins_1 : decode cX5_joins 1 = .ok (.istore 4, 2) := by decide +kernel
theorem dX5_joins_3 : decode cX5_joins 3 = .ok (.iload 4, 2) := by decide +kernel
theorem dX5_joins_5 : decode cX5_joins 5 = .ok (.aload_n 0, 1) := by decide +kernel
theorem dX5_joins_6 : decode cX5_joins 6 = .ok (.getfield 9, 3) := by decide +kernel
theorem dX5_joins_9 : decode cX5_joins 9 = .ok (.iload_n 1, 1) := by decide +kernel
theorem dX5_joins_10 : decode cX5_joins 10 = .ok (.iaload, 1) := by decide +kernel
theorem dX5_joins_11 : decode cX5_joins 11 = .ok (.if_icmp .ge 87, 3) := by decide +kernel
theorem dX5_joins_14 : decode cX5_joins 14 = .ok (.iload_n 1, 1) := by decide +kernel
theorem dX5_joins_15 : decode cX5_joins 15 = .ok (.iload 4, 2) := by decide +kernel
theorem dX5_joins_17 : decode cX5_joins 17 = .ok (.invokestatic 25, 3) := by decide +kernel
theorem dX5_joins_20 : decode cX5_joins 20 = .ok (.istore 5, 2) := by decide +kernel
theorem dX5_joins_22 : decode cX5_joins 22 = .ok (.aload_n 0, 1) := by decide +kernel
theorem dX5_joins_23 : decode cX5_joins 23 = .ok (.getfield 15, 3) := by decide +kernel
theorem dX5_joins_26 : decode cX5_joins 26 = .ok (.iload 5, 2) := by decide +kernel
theorem dX5_joins_28 : decode cX5_joins 28 = .ok (.iaload, 1) := by decide +kernel
theorem dX5_joins_29 : decode cX5_joins 29 = .ok (.iload_n 2, 1) := by decide +kernel
theorem dX5_joins_30 : decode cX5_joins 30 = .ok (.if_icmp .ne 18, 3) := by decide +kernel
theorem dX5_joins_33 : decode cX5_joins 33 = .ok (.aload_n 0, 1) := by decide +kernel
theorem dX5_joins_34 : decode cX5_joins 34 = .ok (.getfield 18, 3) := by decide +kernel
theorem dX5_joins_37 : decode cX5_joins 37 = .ok (.iload 5, 2) := by decide +kernel
theorem dX5_joins_39 : decode cX5_joins 39 = .ok (.iaload, 1) := by decide +kernel
theorem dX5_joins_40 : decode cX5_joins 40 = .ok (.iload_n 3, 1) := by decide +kernel
theorem dX5_joins_41 : decode cX5_joins 41 = .ok (.if_icmp .ne 7, 3) := by decide +kernel
theorem dX5_joins_44 : decode cX5_joins 44 = .ok (.iconst 1, 1) := by decide +kernel
theorem dX5_joins_45 : decode cX5_joins 45 = .ok (.goto 4, 3) := by decide +kernel
theorem dX5_joins_48 : decode cX5_joins 48 = .ok (.iconst 0, 1) := by decide +kernel
theorem dX5_joins_49 : decode cX5_joins 49 = .ok (.istore 6, 2) := by decide +kernel
theorem dX5_joins_51 : decode cX5_joins 51 = .ok (.aload_n 0, 1) := by decide +kernel
theorem dX5_joins_52 : decode cX5_joins 52 = .ok (.getfield 15, 3) := by decide +kernel
theorem dX5_joins_55 : decode cX5_joins 55 = .ok (.iload 5, 2) := by decide +kernel
theorem dX5_joins_57 : decode cX5_joins 57 = .ok (.iaload, 1) := by decide +kernel
theorem dX5_joins_58 : decode cX5_joins 58 = .ok (.iload_n 3, 1) := by decide +kernel
theorem dX5_joins_59 : decode cX5_joins 59 = .ok (.if_icmp .ne 18, 3) := by decide +kernel
theorem dX5_joins_62 : decode cX5_joins 62 = .ok (.aload_n 0, 1) := by decide +kernel
theorem dX5_joins_63 : decode cX5_joins 63 = .ok (.getfield 18, 3) := by decide +kernel
theorem dX5_joins_66 : decode cX5_joins 66 = .ok (.iload 5, 2) := by decide +kernel
theorem dX5_joins_68 : decode cX5_joins 68 = .ok (.iaload, 1) := by decide +kernel
theorem dX5_joins_69 : decode cX5_joins 69 = .ok (.iload_n 2, 1) := by decide +kernel
theorem dX5_joins_70 : decode cX5_joins 70 = .ok (.if_icmp .ne 7, 3) := by decide +kernel
theorem dX5_joins_73 : decode cX5_joins 73 = .ok (.iconst 1, 1) := by decide +kernel
theorem dX5_joins_74 : decode cX5_joins 74 = .ok (.goto 4, 3) := by decide +kernel
theorem dX5_joins_77 : decode cX5_joins 77 = .ok (.iconst 0, 1) := by decide +kernel
theorem dX5_joins_78 : decode cX5_joins 78 = .ok (.istore 7, 2) := by decide +kernel
theorem dX5_joins_80 : decode cX5_joins 80 = .ok (.iload 6, 2) := by decide +kernel
theorem dX5_joins_82 : decode cX5_joins 82 = .ok (.ifCond .ne 8, 3) := by decide +kernel
theorem dX5_joins_85 : decode cX5_joins 85 = .ok (.iload 7, 2) := by decide +kernel
theorem dX5_joins_87 : decode cX5_joins 87 = .ok (.ifCond .eq 5, 3) := by decide +kernel
theorem dX5_joins_90 : decode cX5_joins 90 = .ok (.iconst 1, 1) := by decide +kernel
theorem dX5_joins_91 : decode cX5_joins 91 = .ok (.ireturn, 1) := by decide +kernel
theorem dX5_joins_92 : decode cX5_joins 92 = .ok (.iinc 4 1, 3) := by decide +kernel
theorem dX5_joins_95 : decode cX5_joins 95 = .ok (.goto (-92), 3) := by decide +kernel
theorem dX5_joins_98 : decode cX5_joins 98 = .ok (.iconst 0, 1) := by decide +kernel
theorem dX5_joins_99 : decode cX5_joins 99 = .ok (.ireturn, 1) := by decide +kernel
theorem dX5_ownerOf_0 : decode cX5_ownerOf 0 = .ok (.iconst 0, 1) := by decide +kernel
theorem dX5_ownerOf_1 : decode cX5_ownerOf 1 = .ok (.istore_n 2, 1) := by decide +kernel
theorem dX5_ownerOf_2 : decode cX5_ownerOf 2 = .ok (.iload_n 2, 1) := by decide +kernel
theorem dX5_ownerOf_3 : decode cX5_ownerOf 3 = .ok (.aload_n 0, 1) := by decide +kernel
theorem dX5_ownerOf_4 : decode cX5_ownerOf 4 = .ok (.getfield 21, 3) := by decide +kernel
theorem dX5_ownerOf_7 : decode cX5_ownerOf 7 = .ok (.if_icmp .ge 20, 3) := by decide +kernel
theorem dX5_ownerOf_10 : decode cX5_ownerOf 10 = .ok (.aload_n 0, 1) := by decide +kernel
theorem dX5_ownerOf_11 : decode cX5_ownerOf 11 = .ok (.iload_n 2, 1) := by decide +kernel
theorem dX5_ownerOf_12 : decode cX5_ownerOf 12 = .ok (.iload_n 1, 1) := by decide +kernel
theorem dX5_ownerOf_13 : decode cX5_ownerOf 13 = .ok (.invokevirtual 29, 3) := by decide +kernel
theorem dX5_ownerOf_16 : decode cX5_ownerOf 16 = .ok (.ifCond .eq 5, 3) := by decide +kernel
theorem dX5_ownerOf_19 : decode cX5_ownerOf 19 = .ok (.iload_n 2, 1) := by decide +kernel
theorem dX5_ownerOf_20 : decode cX5_ownerOf 20 = .ok (.ireturn, 1) := by decide +kernel
theorem dX5_ownerOf_21 : decode cX5_ownerOf 21 = .ok (.iinc 2 1, 3) := by decide +kernel
theorem dX5_ownerOf_24 : decode cX5_ownerOf 24 = .ok (.goto (-22), 3) := by decide +kernel
theorem dX5_ownerOf_27 : decode cX5_ownerOf 27 = .ok (.iconst (-1), 1) := by decide +kernel
theorem dX5_ownerOf_28 : decode cX5_ownerOf 28 = .ok (.ireturn, 1) := by decide +kernel
theorem dX5_isOfAnother_0 : decode cX5_isOfAnother 0 = .ok (.aload_n 0, 1) := by decide +kernel
theorem dX5_isOfAnother_1 : decode cX5_isOfAnother 1 = .ok (.iload_n 2, 1) := by decide +kernel
theorem dX5_isOfAnother_2 : decode cX5_isOfAnother 2 = .ok (.invokevirtual 33, 3) := by decide +kernel
theorem dX5_isOfAnother_5 : decode cX5_isOfAnother 5 = .ok (.istore_n 3, 1) := by decide +kernel
theorem dX5_isOfAnother_6 : decode cX5_isOfAnother 6 = .ok (.iload_n 3, 1) := by decide +kernel
theorem dX5_isOfAnother_7 : decode cX5_isOfAnother 7 = .ok (.iconst (-1), 1) := by decide +kernel
theorem dX5_isOfAnother_8 : decode cX5_isOfAnother 8 = .ok (.if_icmp .eq 12, 3) := by decide +kernel
theorem dX5_isOfAnother_11 : decode cX5_isOfAnother 11 = .ok (.iload_n 3, 1) := by decide +kernel
theorem dX5_isOfAnother_12 : decode cX5_isOfAnother 12 = .ok (.iload_n 1, 1) := by decide +kernel
theorem dX5_isOfAnother_13 : decode cX5_isOfAnother 13 = .ok (.if_icmp .eq 7, 3) := by decide +kernel
theorem dX5_isOfAnother_16 : decode cX5_isOfAnother 16 = .ok (.iconst 1, 1) := by decide +kernel
theorem dX5_isOfAnother_17 : decode cX5_isOfAnother 17 = .ok (.goto 4, 3) := by decide +kernel
theorem dX5_isOfAnother_20 : decode cX5_isOfAnother 20 = .ok (.iconst 0, 1) := by decide +kernel
theorem dX5_isOfAnother_21 : decode cX5_isOfAnother 21 = .ok (.ireturn, 1) := by decide +kernel
theorem dX5_insert_0 : decode cX5_insert 0 = .ok (.aload_n 0, 1) := by decide +kernel
theorem dX5_insert_1 : decode cX5_insert 1 = .ok (.getfield 9, 3) := by decide +kernel
theorem dX5_insert_4 : decode cX5_insert 4 = .ok (.iload_n 1, 1) := by decide +kernel
theorem dX5_insert_5 : decode cX5_insert 5 = .ok (.iaload, 1) := by decide +kernel
theorem dX5_insert_6 : decode cX5_insert 6 = .ok (.istore 5, 2) := by decide +kernel
theorem dX5_insert_8 : decode cX5_insert 8 = .ok (.iload_n 2, 1) := by decide +kernel
theorem dX5_insert_9 : decode cX5_insert 9 = .ok (.ifCond .lt 16, 3) := by decide +kernel
theorem dX5_insert_12 : decode cX5_insert 12 = .ok (.iload_n 2, 1) := by decide +kernel
theorem dX5_insert_13 : decode cX5_insert 13 = .ok (.iload 5, 2) := by decide +kernel
theorem dX5_insert_15 : decode cX5_insert 15 = .ok (.if_icmp .gt 10, 3) := by decide +kernel
theorem dX5_insert_18 : decode cX5_insert 18 = .ok (.iload 5, 2) := by decide +kernel
theorem dX5_insert_20 : decode cX5_insert 20 = .ok (.bipush 10, 2) := by decide +kernel
theorem dX5_insert_22 : decode cX5_insert 22 = .ok (.if_icmp .lt 4, 3) := by decide +kernel
theorem dX5_insert_25 : decode cX5_insert 25 = .ok (.return_, 1) := by decide +kernel
theorem dX5_insert_26 : decode cX5_insert 26 = .ok (.iload_n 1, 1) := by decide +kernel
theorem dX5_insert_27 : decode cX5_insert 27 = .ok (.iload 5, 2) := by decide +kernel
theorem dX5_insert_29 : decode cX5_insert 29 = .ok (.invokestatic 25, 3) := by decide +kernel
theorem dX5_insert_32 : decode cX5_insert 32 = .ok (.istore 6, 2) := by decide +kernel
theorem dX5_insert_34 : decode cX5_insert 34 = .ok (.iload 6, 2) := by decide +kernel
theorem dX5_insert_36 : decode cX5_insert 36 = .ok (.iload_n 1, 1) := by decide +kernel
theorem dX5_insert_37 : decode cX5_insert 37 = .ok (.iload_n 2, 1) := by decide +kernel
theorem dX5_insert_38 : decode cX5_insert 38 = .ok (.invokestatic 25, 3) := by decide +kernel
theorem dX5_insert_41 : decode cX5_insert 41 = .ok (.if_icmp .le 41, 3) := by decide +kernel
theorem dX5_insert_44 : decode cX5_insert 44 = .ok (.aload_n 0, 1) := by decide +kernel
theorem dX5_insert_45 : decode cX5_insert 45 = .ok (.getfield 15, 3) := by decide +kernel
theorem dX5_insert_48 : decode cX5_insert 48 = .ok (.iload 6, 2) := by decide +kernel
theorem dX5_insert_50 : decode cX5_insert 50 = .ok (.aload_n 0, 1) := by decide +kernel
theorem dX5_insert_51 : decode cX5_insert 51 = .ok (.getfield 15, 3) := by decide +kernel
theorem dX5_insert_54 : decode cX5_insert 54 = .ok (.iload 6, 2) := by decide +kernel
theorem dX5_insert_56 : decode cX5_insert 56 = .ok (.iconst 1, 1) := by decide +kernel
theorem dX5_insert_57 : decode cX5_insert 57 = .ok (.isub, 1) := by decide +kernel
theorem dX5_insert_58 : decode cX5_insert 58 = .ok (.iaload, 1) := by decide +kernel
theorem dX5_insert_59 : decode cX5_insert 59 = .ok (.iastore, 1) := by decide +kernel
theorem dX5_insert_60 : decode cX5_insert 60 = .ok (.aload_n 0, 1) := by decide +kernel
theorem dX5_insert_61 : decode cX5_insert 61 = .ok (.getfield 18, 3) := by decide +kernel
theorem dX5_insert_64 : decode cX5_insert 64 = .ok (.iload 6, 2) := by decide +kernel
theorem dX5_insert_66 : decode cX5_insert 66 = .ok (.aload_n 0, 1) := by decide +kernel
theorem dX5_insert_67 : decode cX5_insert 67 = .ok (.getfield 18, 3) := by decide +kernel
theorem dX5_insert_70 : decode cX5_insert 70 = .ok (.iload 6, 2) := by decide +kernel
theorem dX5_insert_72 : decode cX5_insert 72 = .ok (.iconst 1, 1) := by decide +kernel
theorem dX5_insert_73 : decode cX5_insert 73 = .ok (.isub, 1) := by decide +kernel
theorem dX5_insert_74 : decode cX5_insert 74 = .ok (.iaload, 1) := by decide +kernel
theorem dX5_insert_75 : decode cX5_insert 75 = .ok (.iastore, 1) := by decide +kernel
theorem dX5_insert_76 : decode cX5_insert 76 = .ok (.iinc 6 (-1), 3) := by decide +kernel
theorem dX5_insert_79 : decode cX5_insert 79 = .ok (.goto (-45), 3) := by decide +kernel
theorem dX5_insert_82 : decode cX5_insert 82 = .ok (.aload_n 0, 1) := by decide +kernel
theorem dX5_insert_83 : decode cX5_insert 83 = .ok (.getfield 15, 3) := by decide +kernel
theorem dX5_insert_86 : decode cX5_insert 86 = .ok (.iload_n 1, 1) := by decide +kernel
theorem dX5_insert_87 : decode cX5_insert 87 = .ok (.iload_n 2, 1) := by decide +kernel
theorem dX5_insert_88 : decode cX5_insert 88 = .ok (.invokestatic 25, 3) := by decide +kernel
theorem dX5_insert_91 : decode cX5_insert 91 = .ok (.iload_n 3, 1) := by decide +kernel
theorem dX5_insert_92 : decode cX5_insert 92 = .ok (.iastore, 1) := by decide +kernel
theorem dX5_insert_93 : decode cX5_insert 93 = .ok (.aload_n 0, 1) := by decide +kernel
theorem dX5_insert_94 : decode cX5_insert 94 = .ok (.getfield 18, 3) := by decide +kernel
theorem dX5_insert_97 : decode cX5_insert 97 = .ok (.iload_n 1, 1) := by decide +kernel
theorem dX5_insert_98 : decode cX5_insert 98 = .ok (.iload_n 2, 1) := by decide +kernel
theorem dX5_insert_99 : decode cX5_insert 99 = .ok (.invokestatic 25, 3) := by decide +kernel
theorem dX5_insert_102 : decode cX5_insert 102 = .ok (.iload 4, 2) := by decide +kernel
theorem dX5_insert_104 : decode cX5_insert 104 = .ok (.iastore, 1) := by decide +kernel
theorem dX5_insert_105 : decode cX5_insert 105 = .ok (.aload_n 0, 1) := by decide +kernel
theorem dX5_insert_106 : decode cX5_insert 106 = .ok (.getfield 9, 3) := by decide +kernel
theorem dX5_insert_109 : decode cX5_insert 109 = .ok (.iload_n 1, 1) := by decide +kernel
theorem dX5_insert_110 : decode cX5_insert 110 = .ok (.iload 5, 2) := by decide +kernel
theorem dX5_insert_112 : decode cX5_insert 112 = .ok (.iconst 1, 1) := by decide +kernel
theorem dX5_insert_113 : decode cX5_insert 113 = .ok (.iadd, 1) := by decide +kernel
theorem dX5_insert_114 : decode cX5_insert 114 = .ok (.iastore, 1) := by decide +kernel
theorem dX5_insert_115 : decode cX5_insert 115 = .ok (.return_, 1) := by decide +kernel
theorem dX5_remove_0 : decode cX5_remove 0 = .ok (.aload_n 0, 1) := by decide +kernel
theorem dX5_remove_1 : decode cX5_remove 1 = .ok (.getfield 9, 3) := by decide +kernel
theorem dX5_remove_4 : decode cX5_remove 4 = .ok (.iload_n 1, 1) := by decide +kernel
theorem dX5_remove_5 : decode cX5_remove 5 = .ok (.iaload, 1) := by decide +kernel
theorem dX5_remove_6 : decode cX5_remove 6 = .ok (.istore_n 3, 1) := by decide +kernel
theorem dX5_remove_7 : decode cX5_remove 7 = .ok (.iload_n 2, 1) := by decide +kernel
theorem dX5_remove_8 : decode cX5_remove 8 = .ok (.ifCond .lt 8, 3) := by decide +kernel
theorem dX5_remove_11 : decode cX5_remove 11 = .ok (.iload_n 2, 1) := by decide +kernel
theorem dX5_remove_12 : decode cX5_remove 12 = .ok (.iload_n 3, 1) := by decide +kernel
theorem dX5_remove_13 : decode cX5_remove 13 = .ok (.if_icmp .lt 4, 3) := by decide +kernel
theorem dX5_remove_16 : decode cX5_remove 16 = .ok (.return_, 1) := by decide +kernel
theorem dX5_remove_17 : decode cX5_remove 17 = .ok (.iload_n 1, 1) := by decide +kernel
theorem dX5_remove_18 : decode cX5_remove 18 = .ok (.iload_n 2, 1) := by decide +kernel
theorem dX5_remove_19 : decode cX5_remove 19 = .ok (.invokestatic 25, 3) := by decide +kernel
theorem dX5_remove_22 : decode cX5_remove 22 = .ok (.istore 4, 2) := by decide +kernel
theorem dX5_remove_24 : decode cX5_remove 24 = .ok (.iload 4, 2) := by decide +kernel
theorem dX5_remove_26 : decode cX5_remove 26 = .ok (.iload_n 1, 1) := by decide +kernel
theorem dX5_remove_27 : decode cX5_remove 27 = .ok (.iload_n 3, 1) := by decide +kernel
theorem dX5_remove_28 : decode cX5_remove 28 = .ok (.iconst 1, 1) := by decide +kernel
theorem dX5_remove_29 : decode cX5_remove 29 = .ok (.isub, 1) := by decide +kernel
theorem dX5_remove_30 : decode cX5_remove 30 = .ok (.invokestatic 25, 3) := by decide +kernel
theorem dX5_remove_33 : decode cX5_remove 33 = .ok (.if_icmp .ge 41, 3) := by decide +kernel
theorem dX5_remove_36 : decode cX5_remove 36 = .ok (.aload_n 0, 1) := by decide +kernel
theorem dX5_remove_37 : decode cX5_remove 37 = .ok (.getfield 15, 3) := by decide +kernel
theorem dX5_remove_40 : decode cX5_remove 40 = .ok (.iload 4, 2) := by decide +kernel
theorem dX5_remove_42 : decode cX5_remove 42 = .ok (.aload_n 0, 1) := by decide +kernel
theorem dX5_remove_43 : decode cX5_remove 43 = .ok (.getfield 15, 3) := by decide +kernel
theorem dX5_remove_46 : decode cX5_remove 46 = .ok (.iload 4, 2) := by decide +kernel
theorem dX5_remove_48 : decode cX5_remove 48 = .ok (.iconst 1, 1) := by decide +kernel
theorem dX5_remove_49 : decode cX5_remove 49 = .ok (.iadd, 1) := by decide +kernel
theorem dX5_remove_50 : decode cX5_remove 50 = .ok (.iaload, 1) := by decide +kernel
theorem dX5_remove_51 : decode cX5_remove 51 = .ok (.iastore, 1) := by decide +kernel
theorem dX5_remove_52 : decode cX5_remove 52 = .ok (.aload_n 0, 1) := by decide +kernel
theorem dX5_remove_53 : decode cX5_remove 53 = .ok (.getfield 18, 3) := by decide +kernel
theorem dX5_remove_56 : decode cX5_remove 56 = .ok (.iload 4, 2) := by decide +kernel
theorem dX5_remove_58 : decode cX5_remove 58 = .ok (.aload_n 0, 1) := by decide +kernel
theorem dX5_remove_59 : decode cX5_remove 59 = .ok (.getfield 18, 3) := by decide +kernel
theorem dX5_remove_62 : decode cX5_remove 62 = .ok (.iload 4, 2) := by decide +kernel
theorem dX5_remove_64 : decode cX5_remove 64 = .ok (.iconst 1, 1) := by decide +kernel
theorem dX5_remove_65 : decode cX5_remove 65 = .ok (.iadd, 1) := by decide +kernel
theorem dX5_remove_66 : decode cX5_remove 66 = .ok (.iaload, 1) := by decide +kernel
theorem dX5_remove_67 : decode cX5_remove 67 = .ok (.iastore, 1) := by decide +kernel
theorem dX5_remove_68 : decode cX5_remove 68 = .ok (.iinc 4 1, 3) := by decide +kernel
theorem dX5_remove_71 : decode cX5_remove 71 = .ok (.goto (-47), 3) := by decide +kernel
theorem dX5_remove_74 : decode cX5_remove 74 = .ok (.aload_n 0, 1) := by decide +kernel
theorem dX5_remove_75 : decode cX5_remove 75 = .ok (.getfield 9, 3) := by decide +kernel
theorem dX5_remove_78 : decode cX5_remove 78 = .ok (.iload_n 1, 1) := by decide +kernel
theorem dX5_remove_79 : decode cX5_remove 79 = .ok (.iload_n 3, 1) := by decide +kernel
theorem dX5_remove_80 : decode cX5_remove 80 = .ok (.iconst 1, 1) := by decide +kernel
theorem dX5_remove_81 : decode cX5_remove 81 = .ok (.isub, 1) := by decide +kernel
theorem dX5_remove_82 : decode cX5_remove 82 = .ok (.iastore, 1) := by decide +kernel
theorem dX5_remove_83 : decode cX5_remove 83 = .ok (.return_, 1) := by decide +kernel
theorem dX5_hasStar_0 : decode cX5_hasStar 0 = .ok (.iconst 0, 1) := by decide +kernel
theorem dX5_hasStar_1 : decode cX5_hasStar 1 = .ok (.istore_n 3, 1) := by decide +kernel
theorem dX5_hasStar_2 : decode cX5_hasStar 2 = .ok (.iload_n 3, 1) := by decide +kernel
theorem dX5_hasStar_3 : decode cX5_hasStar 3 = .ok (.aload_n 0, 1) := by decide +kernel
theorem dX5_hasStar_4 : decode cX5_hasStar 4 = .ok (.getfield 9, 3) := by decide +kernel
theorem dX5_hasStar_7 : decode cX5_hasStar 7 = .ok (.iload_n 1, 1) := by decide +kernel
theorem dX5_hasStar_8 : decode cX5_hasStar 8 = .ok (.iaload, 1) := by decide +kernel
theorem dX5_hasStar_9 : decode cX5_hasStar 9 = .ok (.if_icmp .ge 40, 3) := by decide +kernel
theorem dX5_hasStar_12 : decode cX5_hasStar 12 = .ok (.iload_n 1, 1) := by decide +kernel
theorem dX5_hasStar_13 : decode cX5_hasStar 13 = .ok (.iload_n 3, 1) := by decide +kernel
theorem dX5_hasStar_14 : decode cX5_hasStar 14 = .ok (.invokestatic 25, 3) := by decide +kernel
theorem dX5_hasStar_17 : decode cX5_hasStar 17 = .ok (.istore 4, 2) := by decide +kernel
theorem dX5_hasStar_19 : decode cX5_hasStar 19 = .ok (.aload_n 0, 1) := by decide +kernel
theorem dX5_hasStar_20 : decode cX5_hasStar 20 = .ok (.getfield 15, 3) := by decide +kernel
theorem dX5_hasStar_23 : decode cX5_hasStar 23 = .ok (.iload 4, 2) := by decide +kernel
theorem dX5_hasStar_25 : decode cX5_hasStar 25 = .ok (.iaload, 1) := by decide +kernel
theorem dX5_hasStar_26 : decode cX5_hasStar 26 = .ok (.iload_n 2, 1) := by decide +kernel
theorem dX5_hasStar_27 : decode cX5_hasStar 27 = .ok (.if_icmp .eq 14, 3) := by decide +kernel
theorem dX5_hasStar_30 : decode cX5_hasStar 30 = .ok (.aload_n 0, 1) := by decide +kernel
theorem dX5_hasStar_31 : decode cX5_hasStar 31 = .ok (.getfield 18, 3) := by decide +kernel
theorem dX5_hasStar_34 : decode cX5_hasStar 34 = .ok (.iload 4, 2) := by decide +kernel
theorem dX5_hasStar_36 : decode cX5_hasStar 36 = .ok (.iaload, 1) := by decide +kernel
theorem dX5_hasStar_37 : decode cX5_hasStar 37 = .ok (.iload_n 2, 1) := by decide +kernel
theorem dX5_hasStar_38 : decode cX5_hasStar 38 = .ok (.if_icmp .ne 5, 3) := by decide +kernel
theorem dX5_hasStar_41 : decode cX5_hasStar 41 = .ok (.iconst 1, 1) := by decide +kernel
theorem dX5_hasStar_42 : decode cX5_hasStar 42 = .ok (.ireturn, 1) := by decide +kernel
theorem dX5_hasStar_43 : decode cX5_hasStar 43 = .ok (.iinc 3 1, 3) := by decide +kernel
theorem dX5_hasStar_46 : decode cX5_hasStar 46 = .ok (.goto (-44), 3) := by decide +kernel
theorem dX5_hasStar_49 : decode cX5_hasStar 49 = .ok (.iconst 0, 1) := by decide +kernel
theorem dX5_hasStar_50 : decode cX5_hasStar 50 = .ok (.ireturn, 1) := by decide +kernel
theorem dX6_init_0 : decode cX6_init 0 = .ok (.aload_n 0, 1) := by decide +kernel
theorem dX6_init_1 : decode cX6_init 1 = .ok (.invokespecial 3, 3) := by decide +kernel
theorem dX6_init_4 : decode cX6_init 4 = .ok (.aload_n 0, 1) := by decide +kernel
theorem dX6_init_5 : decode cX6_init 5 = .ok (.new 9, 3) := by decide +kernel
theorem dX6_init_8 : decode cX6_init 8 = .ok (.dup, 1) := by decide +kernel
theorem dX6_init_9 : decode cX6_init 9 = .ok (.invokespecial 11, 3) := by decide +kernel
theorem dX6_init_12 : decode cX6_init 12 = .ok (.putfield 12, 3) := by decide +kernel
theorem dX6_init_15 : decode cX6_init 15 = .ok (.aload_n 0, 1) := by decide +kernel
theorem dX6_init_16 : decode cX6_init 16 = .ok (.new 16, 3) := by decide +kernel
theorem dX6_init_19 : decode cX6_init 19 = .ok (.dup, 1) := by decide +kernel
theorem dX6_init_20 : decode cX6_init 20 = .ok (.invokespecial 18, 3) := by decide +kernel
theorem dX6_init_23 : decode cX6_init 23 = .ok (.putfield 19, 3) := by decide +kernel
theorem dX6_init_26 : decode cX6_init 26 = .ok (.aload_n 0, 1) := by decide +kernel
theorem dX6_init_27 : decode cX6_init 27 = .ok (.new 23, 3) := by decide +kernel
theorem dX6_init_30 : decode cX6_init 30 = .ok (.dup, 1) := by decide +kernel
theorem dX6_init_31 : decode cX6_init 31 = .ok (.invokespecial 25, 3) := by decide +kernel
theorem dX6_init_34 : decode cX6_init 34 = .ok (.putfield 26, 3) := by decide +kernel
theorem dX6_init_37 : decode cX6_init 37 = .ok (.aload_n 0, 1) := by decide +kernel
theorem dX6_init_38 : decode cX6_init 38 = .ok (.new 30, 3) := by decide +kernel
theorem dX6_init_41 : decode cX6_init 41 = .ok (.dup, 1) := by decide +kernel
theorem dX6_init_42 : decode cX6_init 42 = .ok (.invokespecial 32, 3) := by decide +kernel
theorem dX6_init_45 : decode cX6_init 45 = .ok (.putfield 33, 3) := by decide +kernel
theorem dX6_init_48 : decode cX6_init 48 = .ok (.aload_n 0, 1) := by decide +kernel
theorem dX6_init_49 : decode cX6_init 49 = .ok (.new 37, 3) := by decide +kernel
theorem dX6_init_52 : decode cX6_init 52 = .ok (.dup, 1) := by decide +kernel
theorem dX6_init_53 : decode cX6_init 53 = .ok (.invokespecial 39, 3) := by decide +kernel
theorem dX6_init_56 : decode cX6_init 56 = .ok (.putfield 40, 3) := by decide +kernel
theorem dX6_init_59 : decode cX6_init 59 = .ok (.return_, 1) := by decide +kernel
theorem dX6_addStar_0 : decode cX6_addStar 0 = .ok (.iload_n 1, 1) := by decide +kernel
theorem dX6_addStar_1 : decode cX6_addStar 1 = .ok (.iload_n 2, 1) := by decide +kernel
theorem dX6_addStar_2 : decode cX6_addStar 2 = .ok (.invokestatic 44, 3) := by decide +kernel
theorem dX6_addStar_5 : decode cX6_addStar 5 = .ok (.aload_n 0, 1) := by decide +kernel
theorem dX6_addStar_6 : decode cX6_addStar 6 = .ok (.getfield 12, 3) := by decide +kernel
theorem dX6_addStar_9 : decode cX6_addStar 9 = .ok (.getfield 48, 3) := by decide +kernel
theorem dX6_addStar_12 : decode cX6_addStar 12 = .ok (.bipush 24, 2) := by decide +kernel
theorem dX6_addStar_14 : decode cX6_addStar 14 = .ok (.if_icmp .lt 13, 3) := by decide +kernel
theorem dX6_addStar_17 : decode cX6_addStar 17 = .ok (.new 52, 3) := by decide +kernel
theorem dX6_addStar_20 : decode cX6_addStar 20 = .ok (.dup, 1) := by decide +kernel
theorem dX6_addStar_21 : decode cX6_addStar 21 = .ok (.ldc 54, 2) := by decide +kernel
theorem dX6_addStar_23 : decode cX6_addStar 23 = .ok (.invokespecial 56, 3) := by decide +kernel
theorem dX6_addStar_26 : decode cX6_addStar 26 = .ok (.athrow, 1) := by decide +kernel
theorem dX6_addStar_27 : decode cX6_addStar 27 = .ok (.aload_n 0, 1) := by decide +kernel
theorem dX6_addStar_28 : decode cX6_addStar 28 = .ok (.getfield 12, 3) := by decide +kernel
theorem dX6_addStar_31 : decode cX6_addStar 31 = .ok (.iload_n 1, 1) := by decide +kernel
theorem dX6_addStar_32 : decode cX6_addStar 32 = .ok (.iload_n 2, 1) := by decide +kernel
theorem dX6_addStar_33 : decode cX6_addStar 33 = .ok (.invokevirtual 59, 3) := by decide +kernel
theorem dX6_addStar_36 : decode cX6_addStar 36 = .ok (.ireturn, 1) := by decide +kernel
theorem dX6_correct_0 : decode cX6_correct 0 = .ok (.aload_n 0, 1) := by decide +kernel
theorem dX6_correct_1 : decode cX6_correct 1 = .ok (.iload_n 1, 1) := by decide +kernel
theorem dX6_correct_2 : decode cX6_correct 2 = .ok (.invokevirtual 63, 3) := by decide +kernel
theorem dX6_correct_5 : decode cX6_correct 5 = .ok (.iload_n 2, 1) := by decide +kernel
theorem dX6_correct_6 : decode cX6_correct 6 = .ok (.iload_n 3, 1) := by decide +kernel
theorem dX6_correct_7 : decode cX6_correct 7 = .ok (.invokestatic 44, 3) := by decide +kernel
theorem dX6_correct_10 : decode cX6_correct 10 = .ok (.aload_n 0, 1) := by decide +kernel
theorem dX6_correct_11 : decode cX6_correct 11 = .ok (.getfield 40, 3) := by decide +kernel
theorem dX6_correct_14 : decode cX6_correct 14 = .ok (.iconst 0, 1) := by decide +kernel
theorem dX6_correct_15 : decode cX6_correct 15 = .ok (.iload_n 1, 1) := by decide +kernel
theorem dX6_correct_16 : decode cX6_correct 16 = .ok (.iconst 0, 1) := by decide +kernel
theorem dX6_correct_17 : decode cX6_correct 17 = .ok (.aload_n 0, 1) := by decide +kernel
theorem dX6_correct_18 : decode cX6_correct 18 = .ok (.getfield 12, 3) := by decide +kernel
theorem dX6_correct_21 : decode cX6_correct 21 = .ok (.getfield 67, 3) := by decide +kernel
theorem dX6_correct_24 : decode cX6_correct 24 = .ok (.iload_n 1, 1) := by decide +kernel
theorem dX6_correct_25 : decode cX6_correct 25 = .ok (.iaload, 1) := by decide +kernel
theorem dX6_correct_26 : decode cX6_correct 26 = .ok (.aload_n 0, 1) := by decide +kernel
theorem dX6_correct_27 : decode cX6_correct 27 = .ok (.getfield 12, 3) := by decide +kernel
theorem dX6_correct_30 : decode cX6_correct 30 = .ok (.getfield 71, 3) := by decide +kernel
theorem dX6_correct_33 : decode cX6_correct 33 = .ok (.iload_n 1, 1) := by decide +kernel
theorem dX6_correct_34 : decode cX6_correct 34 = .ok (.iaload, 1) := by decide +kernel
theorem dX6_correct_35 : decode cX6_correct 35 = .ok (.invokevirtual 74, 3) := by decide +kernel
theorem dX6_correct_38 : decode cX6_correct 38 = .ok (.aload_n 0, 1) := by decide +kernel
theorem dX6_correct_39 : decode cX6_correct 39 = .ok (.getfield 12, 3) := by decide +kernel
theorem dX6_correct_42 : decode cX6_correct 42 = .ok (.iload_n 1, 1) := by decide +kernel
theorem dX6_correct_43 : decode cX6_correct 43 = .ok (.iload_n 2, 1) := by decide +kernel
theorem dX6_correct_44 : decode cX6_correct 44 = .ok (.iload_n 3, 1) := by decide +kernel
theorem dX6_correct_45 : decode cX6_correct 45 = .ok (.invokevirtual 78, 3) := by decide +kernel
theorem dX6_correct_48 : decode cX6_correct 48 = .ok (.aload_n 0, 1) := by decide +kernel
theorem dX6_correct_49 : decode cX6_correct 49 = .ok (.invokevirtual 82, 3) := by decide +kernel
theorem dX6_correct_52 : decode cX6_correct 52 = .ok (.ireturn, 1) := by decide +kernel
theorem dX6_addFigure_0 : decode cX6_addFigure 0 = .ok (.aload_n 0, 1) := by decide +kernel
theorem dX6_addFigure_1 : decode cX6_addFigure 1 = .ok (.getfield 19, 3) := by decide +kernel
theorem dX6_addFigure_4 : decode cX6_addFigure 4 = .ok (.getfield 86, 3) := by decide +kernel
theorem dX6_addFigure_7 : decode cX6_addFigure 7 = .ok (.bipush 8, 2) := by decide +kernel
theorem dX6_addFigure_9 : decode cX6_addFigure 9 = .ok (.if_icmp .lt 13, 3) := by decide +kernel
theorem dX6_addFigure_12 : decode cX6_addFigure 12 = .ok (.new 52, 3) := by decide +kernel
theorem dX6_addFigure_15 : decode cX6_addFigure 15 = .ok (.dup, 1) := by decide +kernel
theorem dX6_addFigure_16 : decode cX6_addFigure 16 = .ok (.ldc 89, 2) := by decide +kernel
theorem dX6_addFigure_18 : decode cX6_addFigure 18 = .ok (.invokespecial 56, 3) := by decide +kernel
theorem dX6_addFigure_21 : decode cX6_addFigure 21 = .ok (.athrow, 1) := by decide +kernel
theorem dX6_addFigure_22 : decode cX6_addFigure 22 = .ok (.aload_n 0, 1) := by decide +kernel
theorem dX6_addFigure_23 : decode cX6_addFigure 23 = .ok (.getfield 19, 3) := by decide +kernel
theorem dX6_addFigure_26 : decode cX6_addFigure 26 = .ok (.invokevirtual 91, 3) := by decide +kernel
theorem dX6_addFigure_29 : decode cX6_addFigure 29 = .ok (.ireturn, 1) := by decide +kernel
theorem dX6_draw_0 : decode cX6_draw 0 = .ok (.aload_n 0, 1) := by decide +kernel
theorem dX6_draw_1 : decode cX6_draw 1 = .ok (.iload_n 1, 1) := by decide +kernel
theorem dX6_draw_2 : decode cX6_draw 2 = .ok (.invokevirtual 94, 3) := by decide +kernel
theorem dX6_draw_5 : decode cX6_draw 5 = .ok (.aload_n 0, 1) := by decide +kernel
theorem dX6_draw_6 : decode cX6_draw 6 = .ok (.iload_n 2, 1) := by decide +kernel
theorem dX6_draw_7 : decode cX6_draw 7 = .ok (.invokevirtual 63, 3) := by decide +kernel
theorem dX6_draw_10 : decode cX6_draw 10 = .ok (.aload_n 0, 1) := by decide +kernel
theorem dX6_draw_11 : decode cX6_draw 11 = .ok (.iload_n 3, 1) := by decide +kernel
theorem dX6_draw_12 : decode cX6_draw 12 = .ok (.invokevirtual 63, 3) := by decide +kernel
theorem dX6_draw_15 : decode cX6_draw 15 = .ok (.iload_n 2, 1) := by decide +kernel
theorem dX6_draw_16 : decode cX6_draw 16 = .ok (.iload_n 3, 1) := by decide +kernel
theorem dX6_draw_17 : decode cX6_draw 17 = .ok (.if_icmp .ne 13, 3) := by decide +kernel
theorem dX6_draw_20 : decode cX6_draw 20 = .ok (.new 97, 3) := by decide +kernel
theorem dX6_draw_23 : decode cX6_draw 23 = .ok (.dup, 1) := by decide +kernel
theorem dX6_draw_24 : decode cX6_draw 24 = .ok (.ldc 99, 2) := by decide +kernel
theorem dX6_draw_26 : decode cX6_draw 26 = .ok (.invokespecial 101, 3) := by decide +kernel
theorem dX6_draw_29 : decode cX6_draw 29 = .ok (.athrow, 1) := by decide +kernel
theorem dX6_draw_30 : decode cX6_draw 30 = .ok (.aload_n 0, 1) := by decide +kernel
theorem dX6_draw_31 : decode cX6_draw 31 = .ok (.getfield 19, 3) := by decide +kernel
theorem dX6_draw_34 : decode cX6_draw 34 = .ok (.getfield 102, 3) := by decide +kernel
theorem dX6_draw_37 : decode cX6_draw 37 = .ok (.iload_n 1, 1) := by decide +kernel
theorem dX6_draw_38 : decode cX6_draw 38 = .ok (.iaload, 1) := by decide +kernel
theorem dX6_draw_39 : decode cX6_draw 39 = .ok (.istore 4, 2) := by decide +kernel
theorem dX6_draw_41 : decode cX6_draw 41 = .ok (.iload 4, 2) := by decide +kernel
theorem dX6_draw_43 : decode cX6_draw 43 = .ok (.bipush 10, 2) := by decide +kernel
theorem dX6_draw_45 : decode cX6_draw 45 = .ok (.if_icmp .lt 13, 3) := by decide +kernel
theorem dX6_draw_48 : decode cX6_draw 48 = .ok (.new 52, 3) := by decide +kernel
theorem dX6_draw_51 : decode cX6_draw 51 = .ok (.dup, 1) := by decide +kernel
theorem dX6_draw_52 : decode cX6_draw 52 = .ok (.ldc 105, 2) := by decide +kernel
theorem dX6_draw_54 : decode cX6_draw 54 = .ok (.invokespecial 56, 3) := by decide +kernel
theorem dX6_draw_57 : decode cX6_draw 57 = .ok (.athrow, 1) := by decide +kernel
theorem dX6_draw_58 : decode cX6_draw 58 = .ok (.aload_n 0, 1) := by decide +kernel
theorem dX6_draw_59 : decode cX6_draw 59 = .ok (.getfield 19, 3) := by decide +kernel
theorem dX6_draw_62 : decode cX6_draw 62 = .ok (.iload_n 1, 1) := by decide +kernel
theorem dX6_draw_63 : decode cX6_draw 63 = .ok (.iload_n 2, 1) := by decide +kernel
theorem dX6_draw_64 : decode cX6_draw 64 = .ok (.iload_n 3, 1) := by decide +kernel
theorem dX6_draw_65 : decode cX6_draw 65 = .ok (.invokevirtual 107, 3) := by decide +kernel
theorem dX6_draw_68 : decode cX6_draw 68 = .ok (.ifCond .eq 13, 3) := by decide +kernel
theorem dX6_draw_71 : decode cX6_draw 71 = .ok (.new 52, 3) := by decide +kernel
theorem dX6_draw_74 : decode cX6_draw 74 = .ok (.dup, 1) := by decide +kernel
theorem dX6_draw_75 : decode cX6_draw 75 = .ok (.ldc 111, 2) := by decide +kernel
theorem dX6_draw_77 : decode cX6_draw 77 = .ok (.invokespecial 56, 3) := by decide +kernel
theorem dX6_draw_80 : decode cX6_draw 80 = .ok (.athrow, 1) := by decide +kernel
theorem dX6_draw_81 : decode cX6_draw 81 = .ok (.aload_n 0, 1) := by decide +kernel
theorem dX6_draw_82 : decode cX6_draw 82 = .ok (.getfield 19, 3) := by decide +kernel
theorem dX6_draw_85 : decode cX6_draw 85 = .ok (.iload_n 1, 1) := by decide +kernel
theorem dX6_draw_86 : decode cX6_draw 86 = .ok (.iload_n 2, 1) := by decide +kernel
theorem dX6_draw_87 : decode cX6_draw 87 = .ok (.invokevirtual 113, 3) := by decide +kernel
theorem dX6_draw_90 : decode cX6_draw 90 = .ok (.ifCond .ne 15, 3) := by decide +kernel
theorem dX6_draw_93 : decode cX6_draw 93 = .ok (.aload_n 0, 1) := by decide +kernel
theorem dX6_draw_94 : decode cX6_draw 94 = .ok (.getfield 19, 3) := by decide +kernel
theorem dX6_draw_97 : decode cX6_draw 97 = .ok (.iload_n 1, 1) := by decide +kernel
theorem dX6_draw_98 : decode cX6_draw 98 = .ok (.iload_n 3, 1) := by decide +kernel
theorem dX6_draw_99 : decode cX6_draw 99 = .ok (.invokevirtual 113, 3) := by decide +kernel
theorem dX6_draw_102 : decode cX6_draw 102 = .ok (.ifCond .eq 13, 3) := by decide +kernel
theorem dX6_draw_105 : decode cX6_draw 105 = .ok (.new 52, 3) := by decide +kernel
theorem dX6_draw_108 : decode cX6_draw 108 = .ok (.dup, 1) := by decide +kernel
theorem dX6_draw_109 : decode cX6_draw 109 = .ok (.ldc 117, 2) := by decide +kernel
theorem dX6_draw_111 : decode cX6_draw 111 = .ok (.invokespecial 56, 3) := by decide +kernel
theorem dX6_draw_114 : decode cX6_draw 114 = .ok (.athrow, 1) := by decide +kernel
theorem dX6_draw_115 : decode cX6_draw 115 = .ok (.aload_n 0, 1) := by decide +kernel
theorem dX6_draw_116 : decode cX6_draw 116 = .ok (.getfield 40, 3) := by decide +kernel
theorem dX6_draw_119 : decode cX6_draw 119 = .ok (.iconst 1, 1) := by decide +kernel
theorem dX6_draw_120 : decode cX6_draw 120 = .ok (.iload_n 1, 1) := by decide +kernel
theorem dX6_draw_121 : decode cX6_draw 121 = .ok (.iload 4, 2) := by decide +kernel
theorem dX6_draw_123 : decode cX6_draw 123 = .ok (.iload_n 2, 1) := by decide +kernel
theorem dX6_draw_124 : decode cX6_draw 124 = .ok (.iload_n 3, 1) := by decide +kernel
theorem dX6_draw_125 : decode cX6_draw 125 = .ok (.invokevirtual 74, 3) := by decide +kernel
theorem dX6_draw_128 : decode cX6_draw 128 = .ok (.aload_n 0, 1) := by decide +kernel
theorem dX6_draw_129 : decode cX6_draw 129 = .ok (.getfield 19, 3) := by decide +kernel
theorem dX6_draw_132 : decode cX6_draw 132 = .ok (.iload_n 1, 1) := by decide +kernel
theorem dX6_draw_133 : decode cX6_draw 133 = .ok (.iload 4, 2) := by decide +kernel
theorem dX6_draw_135 : decode cX6_draw 135 = .ok (.iload_n 2, 1) := by decide +kernel
theorem dX6_draw_136 : decode cX6_draw 136 = .ok (.iload_n 3, 1) := by decide +kernel
theorem dX6_draw_137 : decode cX6_draw 137 = .ok (.invokevirtual 119, 3) := by decide +kernel
theorem dX6_draw_140 : decode cX6_draw 140 = .ok (.iload 4, 2) := by decide +kernel
theorem dX6_draw_142 : decode cX6_draw 142 = .ok (.ireturn, 1) := by decide +kernel
theorem dX6_erase_0 : decode cX6_erase 0 = .ok (.aload_n 0, 1) := by decide +kernel
theorem dX6_erase_1 : decode cX6_erase 1 = .ok (.iload_n 1, 1) := by decide +kernel
theorem dX6_erase_2 : decode cX6_erase 2 = .ok (.invokevirtual 94, 3) := by decide +kernel
theorem dX6_erase_5 : decode cX6_erase 5 = .ok (.iload_n 2, 1) := by decide +kernel
theorem dX6_erase_6 : decode cX6_erase 6 = .ok (.ifCond .lt 16, 3) := by decide +kernel
theorem dX6_erase_9 : decode cX6_erase 9 = .ok (.iload_n 2, 1) := by decide +kernel
theorem dX6_erase_10 : decode cX6_erase 10 = .ok (.aload_n 0, 1) := by decide +kernel
theorem dX6_erase_11 : decode cX6_erase 11 = .ok (.getfield 19, 3) := by decide +kernel
theorem dX6_erase_14 : decode cX6_erase 14 = .ok (.getfield 102, 3) := by decide +kernel
theorem dX6_erase_17 : decode cX6_erase 17 = .ok (.iload_n 1, 1) := by decide +kernel
theorem dX6_erase_18 : decode cX6_erase 18 = .ok (.iaload, 1) := by decide +kernel
theorem dX6_erase_19 : decode cX6_erase 19 = .ok (.if_icmp .lt 13, 3) := by decide +kernel
theorem dX6_erase_22 : decode cX6_erase 22 = .ok (.new 123, 3) := by decide +kernel
theorem dX6_erase_25 : decode cX6_erase 25 = .ok (.dup, 1) := by decide +kernel
theorem dX6_erase_26 : decode cX6_erase 26 = .ok (.ldc 125, 2) := by decide +kernel
theorem dX6_erase_28 : decode cX6_erase 28 = .ok (.invokespecial 127, 3) := by decide +kernel
theorem dX6_erase_31 : decode cX6_erase 31 = .ok (.athrow, 1) := by decide +kernel
theorem dX6_erase_32 : decode cX6_erase 32 = .ok (.iload_n 1, 1) := by decide +kernel
theorem dX6_erase_33 : decode cX6_erase 33 = .ok (.iload_n 2, 1) := by decide +kernel
theorem dX6_erase_34 : decode cX6_erase 34 = .ok (.invokestatic 128, 3) := by decide +kernel
theorem dX6_erase_37 : decode cX6_erase 37 = .ok (.istore_n 3, 1) := by decide +kernel
theorem dX6_erase_38 : decode cX6_erase 38 = .ok (.aload_n 0, 1) := by decide +kernel
theorem dX6_erase_39 : decode cX6_erase 39 = .ok (.getfield 40, 3) := by decide +kernel
theorem dX6_erase_42 : decode cX6_erase 42 = .ok (.iconst 2, 1) := by decide +kernel
theorem dX6_erase_43 : decode cX6_erase 43 = .ok (.iload_n 1, 1) := by decide +kernel
theorem dX6_erase_44 : decode cX6_erase 44 = .ok (.iload_n 2, 1) := by decide +kernel
theorem dX6_erase_45 : decode cX6_erase 45 = .ok (.aload_n 0, 1) := by decide +kernel
theorem dX6_erase_46 : decode cX6_erase 46 = .ok (.getfield 19, 3) := by decide +kernel
theorem dX6_erase_49 : decode cX6_erase 49 = .ok (.getfield 131, 3) := by decide +kernel
theorem dX6_erase_52 : decode cX6_erase 52 = .ok (.iload_n 3, 1) := by decide +kernel
theorem dX6_erase_53 : decode cX6_erase 53 = .ok (.iaload, 1) := by decide +kernel
theorem dX6_erase_54 : decode cX6_erase 54 = .ok (.aload_n 0, 1) := by decide +kernel
theorem dX6_erase_55 : decode cX6_erase 55 = .ok (.getfield 19, 3) := by decide +kernel
theorem dX6_erase_58 : decode cX6_erase 58 = .ok (.getfield 134, 3) := by decide +kernel
theorem dX6_erase_61 : decode cX6_erase 61 = .ok (.iload_n 3, 1) := by decide +kernel
theorem dX6_erase_62 : decode cX6_erase 62 = .ok (.iaload, 1) := by decide +kernel
theorem dX6_erase_63 : decode cX6_erase 63 = .ok (.invokevirtual 74, 3) := by decide +kernel
theorem dX6_erase_66 : decode cX6_erase 66 = .ok (.aload_n 0, 1) := by decide +kernel
theorem dX6_erase_67 : decode cX6_erase 67 = .ok (.getfield 19, 3) := by decide +kernel
theorem dX6_erase_70 : decode cX6_erase 70 = .ok (.iload_n 1, 1) := by decide +kernel
theorem dX6_erase_71 : decode cX6_erase 71 = .ok (.iload_n 2, 1) := by decide +kernel
theorem dX6_erase_72 : decode cX6_erase 72 = .ok (.invokevirtual 137, 3) := by decide +kernel
theorem dX6_erase_75 : decode cX6_erase 75 = .ok (.aload_n 0, 1) := by decide +kernel
theorem dX6_erase_76 : decode cX6_erase 76 = .ok (.getfield 19, 3) := by decide +kernel
theorem dX6_erase_79 : decode cX6_erase 79 = .ok (.getfield 102, 3) := by decide +kernel
theorem dX6_erase_82 : decode cX6_erase 82 = .ok (.iload_n 1, 1) := by decide +kernel
theorem dX6_erase_83 : decode cX6_erase 83 = .ok (.iaload, 1) := by decide +kernel
theorem dX6_erase_84 : decode cX6_erase 84 = .ok (.ireturn, 1) := by decide +kernel
theorem dX6_undo_0 : decode cX6_undo 0 = .ok (.aload_n 0, 1) := by decide +kernel
theorem dX6_undo_1 : decode cX6_undo 1 = .ok (.getfield 40, 3) := by decide +kernel
theorem dX6_undo_4 : decode cX6_undo 4 = .ok (.getfield 140, 3) := by decide +kernel
theorem dX6_undo_7 : decode cX6_undo 7 = .ok (.ifCond .gt 13, 3) := by decide +kernel
theorem dX6_undo_10 : decode cX6_undo 10 = .ok (.new 52, 3) := by decide +kernel
theorem dX6_undo_13 : decode cX6_undo 13 = .ok (.dup, 1) := by decide +kernel
theorem dX6_undo_14 : decode cX6_undo 14 = .ok (.ldc 143, 2) := by decide +kernel
theorem dX6_undo_16 : decode cX6_undo 16 = .ok (.invokespecial 56, 3) := by decide +kernel
theorem dX6_undo_19 : decode cX6_undo 19 = .ok (.athrow, 1) := by decide +kernel
theorem dX6_undo_20 : decode cX6_undo 20 = .ok (.aload_n 0, 1) := by decide +kernel
theorem dX6_undo_21 : decode cX6_undo 21 = .ok (.getfield 40, 3) := by decide +kernel
theorem dX6_undo_24 : decode cX6_undo 24 = .ok (.invokevirtual 145, 3) := by decide +kernel
theorem dX6_undo_27 : decode cX6_undo 27 = .ok (.aload_n 0, 1) := by decide +kernel
theorem dX6_undo_28 : decode cX6_undo 28 = .ok (.aload_n 0, 1) := by decide +kernel
theorem dX6_undo_29 : decode cX6_undo 29 = .ok (.getfield 40, 3) := by decide +kernel
theorem dX6_undo_32 : decode cX6_undo 32 = .ok (.getfield 148, 3) := by decide +kernel
theorem dX6_undo_35 : decode cX6_undo 35 = .ok (.invokevirtual 151, 3) := by decide +kernel
theorem dX6_undo_38 : decode cX6_undo 38 = .ok (.aload_n 0, 1) := by decide +kernel
theorem dX6_undo_39 : decode cX6_undo 39 = .ok (.getfield 40, 3) := by decide +kernel
theorem dX6_undo_42 : decode cX6_undo 42 = .ok (.getfield 140, 3) := by decide +kernel
theorem dX6_undo_45 : decode cX6_undo 45 = .ok (.ireturn, 1) := by decide +kernel
theorem dX6_stars_0 : decode cX6_stars 0 = .ok (.aload_n 0, 1) := by decide +kernel
theorem dX6_stars_1 : decode cX6_stars 1 = .ok (.getfield 12, 3) := by decide +kernel
theorem dX6_stars_4 : decode cX6_stars 4 = .ok (.getfield 48, 3) := by decide +kernel
theorem dX6_stars_7 : decode cX6_stars 7 = .ok (.ireturn, 1) := by decide +kernel
theorem dX6_figures_0 : decode cX6_figures 0 = .ok (.aload_n 0, 1) := by decide +kernel
theorem dX6_figures_1 : decode cX6_figures 1 = .ok (.getfield 19, 3) := by decide +kernel
theorem dX6_figures_4 : decode cX6_figures 4 = .ok (.getfield 86, 3) := by decide +kernel
theorem dX6_figures_7 : decode cX6_figures 7 = .ok (.ireturn, 1) := by decide +kernel
theorem dX6_lines_0 : decode cX6_lines 0 = .ok (.aload_n 0, 1) := by decide +kernel
theorem dX6_lines_1 : decode cX6_lines 1 = .ok (.iload_n 1, 1) := by decide +kernel
theorem dX6_lines_2 : decode cX6_lines 2 = .ok (.invokevirtual 94, 3) := by decide +kernel
theorem dX6_lines_5 : decode cX6_lines 5 = .ok (.aload_n 0, 1) := by decide +kernel
theorem dX6_lines_6 : decode cX6_lines 6 = .ok (.getfield 19, 3) := by decide +kernel
theorem dX6_lines_9 : decode cX6_lines 9 = .ok (.getfield 102, 3) := by decide +kernel
theorem dX6_lines_12 : decode cX6_lines 12 = .ok (.iload_n 1, 1) := by decide +kernel
theorem dX6_lines_13 : decode cX6_lines 13 = .ok (.iaload, 1) := by decide +kernel
theorem dX6_lines_14 : decode cX6_lines 14 = .ok (.ireturn, 1) := by decide +kernel
theorem dX6_placeOf_0 : decode cX6_placeOf 0 = .ok (.aload_n 0, 1) := by decide +kernel
theorem dX6_placeOf_1 : decode cX6_placeOf 1 = .ok (.iload_n 1, 1) := by decide +kernel
theorem dX6_placeOf_2 : decode cX6_placeOf 2 = .ok (.invokevirtual 63, 3) := by decide +kernel
theorem dX6_placeOf_5 : decode cX6_placeOf 5 = .ok (.sipush 1000, 3) := by decide +kernel
theorem dX6_placeOf_8 : decode cX6_placeOf 8 = .ok (.aload_n 0, 1) := by decide +kernel
theorem dX6_placeOf_9 : decode cX6_placeOf 9 = .ok (.getfield 12, 3) := by decide +kernel
theorem dX6_placeOf_12 : decode cX6_placeOf 12 = .ok (.getfield 67, 3) := by decide +kernel
theorem dX6_placeOf_15 : decode cX6_placeOf 15 = .ok (.iload_n 1, 1) := by decide +kernel
theorem dX6_placeOf_16 : decode cX6_placeOf 16 = .ok (.iaload, 1) := by decide +kernel
theorem dX6_placeOf_17 : decode cX6_placeOf 17 = .ok (.imul, 1) := by decide +kernel
theorem dX6_placeOf_18 : decode cX6_placeOf 18 = .ok (.aload_n 0, 1) := by decide +kernel
theorem dX6_placeOf_19 : decode cX6_placeOf 19 = .ok (.getfield 12, 3) := by decide +kernel
theorem dX6_placeOf_22 : decode cX6_placeOf 22 = .ok (.getfield 71, 3) := by decide +kernel
theorem dX6_placeOf_25 : decode cX6_placeOf 25 = .ok (.iload_n 1, 1) := by decide +kernel
theorem dX6_placeOf_26 : decode cX6_placeOf 26 = .ok (.iaload, 1) := by decide +kernel
theorem dX6_placeOf_27 : decode cX6_placeOf 27 = .ok (.iadd, 1) := by decide +kernel
theorem dX6_placeOf_28 : decode cX6_placeOf 28 = .ok (.bipush 90, 2) := by decide +kernel
theorem dX6_placeOf_30 : decode cX6_placeOf 30 = .ok (.iadd, 1) := by decide +kernel
theorem dX6_placeOf_31 : decode cX6_placeOf 31 = .ok (.ireturn, 1) := by decide +kernel
theorem dX6_figureOf_0 : decode cX6_figureOf 0 = .ok (.aload_n 0, 1) := by decide +kernel
theorem dX6_figureOf_1 : decode cX6_figureOf 1 = .ok (.iload_n 1, 1) := by decide +kernel
theorem dX6_figureOf_2 : decode cX6_figureOf 2 = .ok (.invokevirtual 63, 3) := by decide +kernel
theorem dX6_figureOf_5 : decode cX6_figureOf 5 = .ok (.aload_n 0, 1) := by decide +kernel
theorem dX6_figureOf_6 : decode cX6_figureOf 6 = .ok (.getfield 19, 3) := by decide +kernel
theorem dX6_figureOf_9 : decode cX6_figureOf 9 = .ok (.iload_n 1, 1) := by decide +kernel
theorem dX6_figureOf_10 : decode cX6_figureOf 10 = .ok (.invokevirtual 154, 3) := by decide +kernel
theorem dX6_figureOf_13 : decode cX6_figureOf 13 = .ok (.ireturn, 1) := by decide +kernel
theorem dX6_crossings_0 : decode cX6_crossings 0 = .ok (.aload_n 0, 1) := by decide +kernel
theorem dX6_crossings_1 : decode cX6_crossings 1 = .ok (.iload_n 1, 1) := by decide +kernel
theorem dX6_crossings_2 : decode cX6_crossings 2 = .ok (.invokevirtual 94, 3) := by decide +kernel
theorem dX6_crossings_5 : decode cX6_crossings 5 = .ok (.aload_n 0, 1) := by decide +kernel
theorem dX6_crossings_6 : decode cX6_crossings 6 = .ok (.iload_n 2, 1) := by decide +kernel
theorem dX6_crossings_7 : decode cX6_crossings 7 = .ok (.invokevirtual 94, 3) := by decide +kernel
theorem dX6_crossings_10 : decode cX6_crossings 10 = .ok (.iconst 0, 1) := by decide +kernel
theorem dX6_crossings_11 : decode cX6_crossings 11 = .ok (.istore_n 3, 1) := by decide +kernel
theorem dX6_crossings_12 : decode cX6_crossings 12 = .ok (.iconst 0, 1) := by decide +kernel
theorem dX6_crossings_13 : decode cX6_crossings 13 = .ok (.istore 4, 2) := by decide +kernel
theorem dX6_crossings_15 : decode cX6_crossings 15 = .ok (.iload 4, 2) := by decide +kernel
theorem dX6_crossings_17 : decode cX6_crossings 17 = .ok (.aload_n 0, 1) := by decide +kernel
theorem dX6_crossings_18 : decode cX6_crossings 18 = .ok (.getfield 19, 3) := by decide +kernel
theorem dX6_crossings_21 : decode cX6_crossings 21 = .ok (.getfield 102, 3) := by decide +kernel
theorem dX6_crossings_24 : decode cX6_crossings 24 = .ok (.iload_n 1, 1) := by decide +kernel
theorem dX6_crossings_25 : decode cX6_crossings 25 = .ok (.iaload, 1) := by decide +kernel
theorem dX6_crossings_26 : decode cX6_crossings 26 = .ok (.if_icmp .ge 70, 3) := by decide +kernel
theorem dX6_crossings_29 : decode cX6_crossings 29 = .ok (.iload_n 1, 1) := by decide +kernel
theorem dX6_crossings_30 : decode cX6_crossings 30 = .ok (.iload_n 2, 1) := by decide +kernel
theorem dX6_crossings_31 : decode cX6_crossings 31 = .ok (.if_icmp .ne 10, 3) := by decide +kernel
theorem dX6_crossings_34 : decode cX6_crossings 34 = .ok (.iload 4, 2) := by decide +kernel
theorem dX6_crossings_36 : decode cX6_crossings 36 = .ok (.iconst 1, 1) := by decide +kernel
theorem dX6_crossings_37 : decode cX6_crossings 37 = .ok (.iadd, 1) := by decide +kernel
theorem dX6_crossings_38 : decode cX6_crossings 38 = .ok (.goto 4, 3) := by decide +kernel
theorem dX6_crossings_41 : decode cX6_crossings 41 = .ok (.iconst 0, 1) := by decide +kernel
theorem dX6_crossings_42 : decode cX6_crossings 42 = .ok (.istore 5, 2) := by decide +kernel
theorem dX6_crossings_44 : decode cX6_crossings 44 = .ok (.iload 5, 2) := by decide +kernel
theorem dX6_crossings_46 : decode cX6_crossings 46 = .ok (.istore 6, 2) := by decide +kernel
theorem dX6_crossings_48 : decode cX6_crossings 48 = .ok (.iload 6, 2) := by decide +kernel
theorem dX6_crossings_50 : decode cX6_crossings 50 = .ok (.aload_n 0, 1) := by decide +kernel
theorem dX6_crossings_51 : decode cX6_crossings 51 = .ok (.getfield 19, 3) := by decide +kernel
theorem dX6_crossings_54 : decode cX6_crossings 54 = .ok (.getfield 102, 3) := by decide +kernel
theorem dX6_crossings_57 : decode cX6_crossings 57 = .ok (.iload_n 2, 1) := by decide +kernel
theorem dX6_crossings_58 : decode cX6_crossings 58 = .ok (.iaload, 1) := by decide +kernel
theorem dX6_crossings_59 : decode cX6_crossings 59 = .ok (.if_icmp .ge 31, 3) := by decide +kernel
theorem dX6_crossings_62 : decode cX6_crossings 62 = .ok (.aload_n 0, 1) := by decide +kernel
theorem dX6_crossings_63 : decode cX6_crossings 63 = .ok (.iload_n 1, 1) := by decide +kernel
theorem dX6_crossings_64 : decode cX6_crossings 64 = .ok (.iload 4, 2) := by decide +kernel
theorem dX6_crossings_66 : decode cX6_crossings 66 = .ok (.invokestatic 128, 3) := by decide +kernel
theorem dX6_crossings_69 : decode cX6_crossings 69 = .ok (.iload_n 2, 1) := by decide +kernel
theorem dX6_crossings_70 : decode cX6_crossings 70 = .ok (.iload 6, 2) := by decide +kernel
theorem dX6_crossings_72 : decode cX6_crossings 72 = .ok (.invokestatic 128, 3) := by decide +kernel
theorem dX6_crossings_75 : decode cX6_crossings 75 = .ok (.invokevirtual 158, 3) := by decide +kernel
theorem dX6_crossings_78 : decode cX6_crossings 78 = .ok (.ifCond .eq 6, 3) := by decide +kernel
theorem dX6_crossings_81 : decode cX6_crossings 81 = .ok (.iinc 3 1, 3) := by decide +kernel
theorem dX6_crossings_84 : decode cX6_crossings 84 = .ok (.iinc 6 1, 3) := by decide +kernel
theorem dX6_crossings_87 : decode cX6_crossings 87 = .ok (.goto (-39), 3) := by decide +kernel
theorem dX6_crossings_90 : decode cX6_crossings 90 = .ok (.iinc 4 1, 3) := by decide +kernel
theorem dX6_crossings_93 : decode cX6_crossings 93 = .ok (.goto (-78), 3) := by decide +kernel
theorem dX6_crossings_96 : decode cX6_crossings 96 = .ok (.iload_n 3, 1) := by decide +kernel
theorem dX6_crossings_97 : decode cX6_crossings 97 = .ok (.ireturn, 1) := by decide +kernel
theorem dX6_vote_0 : decode cX6_vote 0 = .ok (.iload_n 1, 1) := by decide +kernel
theorem dX6_vote_1 : decode cX6_vote 1 = .ok (.ifCond .lt 9, 3) := by decide +kernel
theorem dX6_vote_4 : decode cX6_vote 4 = .ok (.iload_n 1, 1) := by decide +kernel
theorem dX6_vote_5 : decode cX6_vote 5 = .ok (.bipush 6, 2) := by decide +kernel
theorem dX6_vote_7 : decode cX6_vote 7 = .ok (.if_icmp .lt 13, 3) := by decide +kernel
theorem dX6_vote_10 : decode cX6_vote 10 = .ok (.new 123, 3) := by decide +kernel
theorem dX6_vote_13 : decode cX6_vote 13 = .ok (.dup, 1) := by decide +kernel
theorem dX6_vote_14 : decode cX6_vote 14 = .ok (.ldc 161, 2) := by decide +kernel
theorem dX6_vote_16 : decode cX6_vote 16 = .ok (.invokespecial 127, 3) := by decide +kernel
theorem dX6_vote_19 : decode cX6_vote 19 = .ok (.athrow, 1) := by decide +kernel
theorem dX6_vote_20 : decode cX6_vote 20 = .ok (.aload_n 0, 1) := by decide +kernel
theorem dX6_vote_21 : decode cX6_vote 21 = .ok (.iload_n 2, 1) := by decide +kernel
theorem dX6_vote_22 : decode cX6_vote 22 = .ok (.invokevirtual 94, 3) := by decide +kernel
theorem dX6_vote_25 : decode cX6_vote 25 = .ok (.iload_n 3, 1) := by decide +kernel
theorem dX6_vote_26 : decode cX6_vote 26 = .ok (.iconst (-1), 1) := by decide +kernel
theorem dX6_vote_27 : decode cX6_vote 27 = .ok (.if_icmp .eq 7, 3) := by decide +kernel
theorem dX6_vote_30 : decode cX6_vote 30 = .ok (.iload_n 3, 1) := by decide +kernel
theorem dX6_vote_31 : decode cX6_vote 31 = .ok (.invokestatic 163, 3) := by decide +kernel
theorem dX6_vote_34 : decode cX6_vote 34 = .ok (.aload_n 0, 1) := by decide +kernel
theorem dX6_vote_35 : decode cX6_vote 35 = .ok (.getfield 26, 3) := by decide +kernel
theorem dX6_vote_38 : decode cX6_vote 38 = .ok (.iload_n 1, 1) := by decide +kernel
theorem dX6_vote_39 : decode cX6_vote 39 = .ok (.iload_n 2, 1) := by decide +kernel
theorem dX6_vote_40 : decode cX6_vote 40 = .ok (.iload_n 3, 1) := by decide +kernel
theorem dX6_vote_41 : decode cX6_vote 41 = .ok (.invokevirtual 166, 3) := by decide +kernel
theorem dX6_vote_44 : decode cX6_vote 44 = .ok (.ireturn, 1) := by decide +kernel
theorem dX6_votes_0 : decode cX6_votes 0 = .ok (.aload_n 0, 1) := by decide +kernel
theorem dX6_votes_1 : decode cX6_votes 1 = .ok (.iload_n 1, 1) := by decide +kernel
theorem dX6_votes_2 : decode cX6_votes 2 = .ok (.invokevirtual 94, 3) := by decide +kernel
theorem dX6_votes_5 : decode cX6_votes 5 = .ok (.iload_n 2, 1) := by decide +kernel
theorem dX6_votes_6 : decode cX6_votes 6 = .ok (.invokestatic 163, 3) := by decide +kernel
theorem dX6_votes_9 : decode cX6_votes 9 = .ok (.aload_n 0, 1) := by decide +kernel
theorem dX6_votes_10 : decode cX6_votes 10 = .ok (.getfield 26, 3) := by decide +kernel
theorem dX6_votes_13 : decode cX6_votes 13 = .ok (.getfield 170, 3) := by decide +kernel
theorem dX6_votes_16 : decode cX6_votes 16 = .ok (.iload_n 1, 1) := by decide +kernel
theorem dX6_votes_17 : decode cX6_votes 17 = .ok (.bipush 10, 2) := by decide +kernel
theorem dX6_votes_19 : decode cX6_votes 19 = .ok (.imul, 1) := by decide +kernel
theorem dX6_votes_20 : decode cX6_votes 20 = .ok (.iload_n 2, 1) := by decide +kernel
theorem dX6_votes_21 : decode cX6_votes 21 = .ok (.iadd, 1) := by decide +kernel
theorem dX6_votes_22 : decode cX6_votes 22 = .ok (.iaload, 1) := by decide +kernel
theorem dX6_votes_23 : decode cX6_votes 23 = .ok (.ireturn, 1) := by decide +kernel
theorem dX6_nameOf_0 : decode cX6_nameOf 0 = .ok (.aload_n 0, 1) := by decide +kernel
theorem dX6_nameOf_1 : decode cX6_nameOf 1 = .ok (.iload_n 1, 1) := by decide +kernel
theorem dX6_nameOf_2 : decode cX6_nameOf 2 = .ok (.invokevirtual 94, 3) := by decide +kernel
theorem dX6_nameOf_5 : decode cX6_nameOf 5 = .ok (.aload_n 0, 1) := by decide +kernel
theorem dX6_nameOf_6 : decode cX6_nameOf 6 = .ok (.getfield 26, 3) := by decide +kernel
theorem dX6_nameOf_9 : decode cX6_nameOf 9 = .ok (.getfield 173, 3) := by decide +kernel
theorem dX6_nameOf_12 : decode cX6_nameOf 12 = .ok (.iload_n 1, 1) := by decide +kernel
theorem dX6_nameOf_13 : decode cX6_nameOf 13 = .ok (.iaload, 1) := by decide +kernel
theorem dX6_nameOf_14 : decode cX6_nameOf 14 = .ok (.ireturn, 1) := by decide +kernel
theorem dX6_height_0 : decode cX6_height 0 = .ok (.aload_n 0, 1) := by decide +kernel
theorem dX6_height_1 : decode cX6_height 1 = .ok (.iload_n 1, 1) := by decide +kernel
theorem dX6_height_2 : decode cX6_height 2 = .ok (.invokevirtual 63, 3) := by decide +kernel
theorem dX6_height_5 : decode cX6_height 5 = .ok (.iload_n 2, 1) := by decide +kernel
theorem dX6_height_6 : decode cX6_height 6 = .ok (.invokestatic 176, 3) := by decide +kernel
theorem dX6_height_9 : decode cX6_height 9 = .ok (.iload_n 3, 1) := by decide +kernel
theorem dX6_height_10 : decode cX6_height 10 = .ok (.invokestatic 179, 3) := by decide +kernel
theorem dX6_height_13 : decode cX6_height 13 = .ok (.iload 4, 2) := by decide +kernel
theorem dX6_height_15 : decode cX6_height 15 = .ok (.invokestatic 182, 3) := by decide +kernel
theorem dX6_height_18 : decode cX6_height 18 = .ok (.aload_n 0, 1) := by decide +kernel
theorem dX6_height_19 : decode cX6_height 19 = .ok (.getfield 12, 3) := by decide +kernel
theorem dX6_height_22 : decode cX6_height 22 = .ok (.iload_n 1, 1) := by decide +kernel
theorem dX6_height_23 : decode cX6_height 23 = .ok (.iload_n 2, 1) := by decide +kernel
theorem dX6_height_24 : decode cX6_height 24 = .ok (.iload_n 3, 1) := by decide +kernel
theorem dX6_height_25 : decode cX6_height 25 = .ok (.iload 4, 2) := by decide +kernel
theorem dX6_height_27 : decode cX6_height 27 = .ok (.invokestatic 185, 3) := by decide +kernel
theorem dX6_height_30 : decode cX6_height 30 = .ok (.invokevirtual 188, 3) := by decide +kernel
theorem dX6_height_33 : decode cX6_height 33 = .ok (.ireturn, 1) := by decide +kernel
theorem dX6_isUp_0 : decode cX6_isUp 0 = .ok (.aload_n 0, 1) := by decide +kernel
theorem dX6_isUp_1 : decode cX6_isUp 1 = .ok (.iload_n 1, 1) := by decide +kernel
theorem dX6_isUp_2 : decode cX6_isUp 2 = .ok (.invokevirtual 94, 3) := by decide +kernel
theorem dX6_isUp_5 : decode cX6_isUp 5 = .ok (.iload_n 2, 1) := by decide +kernel
theorem dX6_isUp_6 : decode cX6_isUp 6 = .ok (.invokestatic 176, 3) := by decide +kernel
theorem dX6_isUp_9 : decode cX6_isUp 9 = .ok (.iload_n 3, 1) := by decide +kernel
theorem dX6_isUp_10 : decode cX6_isUp 10 = .ok (.invokestatic 179, 3) := by decide +kernel
theorem dX6_isUp_13 : decode cX6_isUp 13 = .ok (.iload 4, 2) := by decide +kernel
theorem dX6_isUp_15 : decode cX6_isUp 15 = .ok (.invokestatic 182, 3) := by decide +kernel
theorem dX6_isUp_18 : decode cX6_isUp 18 = .ok (.aload_n 0, 1) := by decide +kernel
theorem dX6_isUp_19 : decode cX6_isUp 19 = .ok (.iload_n 1, 1) := by decide +kernel
theorem dX6_isUp_20 : decode cX6_isUp 20 = .ok (.iload_n 2, 1) := by decide +kernel
theorem dX6_isUp_21 : decode cX6_isUp 21 = .ok (.iload_n 3, 1) := by decide +kernel
theorem dX6_isUp_22 : decode cX6_isUp 22 = .ok (.iload 4, 2) := by decide +kernel
theorem dX6_isUp_24 : decode cX6_isUp 24 = .ok (.invokestatic 185, 3) := by decide +kernel
theorem dX6_isUp_27 : decode cX6_isUp 27 = .ok (.invokevirtual 191, 3) := by decide +kernel
theorem dX6_isUp_30 : decode cX6_isUp 30 = .ok (.ireturn, 1) := by decide +kernel
theorem dX6_hours_0 : decode cX6_hours 0 = .ok (.aload_n 0, 1) := by decide +kernel
theorem dX6_hours_1 : decode cX6_hours 1 = .ok (.iload_n 1, 1) := by decide +kernel
theorem dX6_hours_2 : decode cX6_hours 2 = .ok (.invokevirtual 94, 3) := by decide +kernel
theorem dX6_hours_5 : decode cX6_hours 5 = .ok (.iload_n 2, 1) := by decide +kernel
theorem dX6_hours_6 : decode cX6_hours 6 = .ok (.invokestatic 176, 3) := by decide +kernel
theorem dX6_hours_9 : decode cX6_hours 9 = .ok (.iload_n 3, 1) := by decide +kernel
theorem dX6_hours_10 : decode cX6_hours 10 = .ok (.invokestatic 179, 3) := by decide +kernel
theorem dX6_hours_13 : decode cX6_hours 13 = .ok (.iconst 0, 1) := by decide +kernel
theorem dX6_hours_14 : decode cX6_hours 14 = .ok (.istore 4, 2) := by decide +kernel
theorem dX6_hours_16 : decode cX6_hours 16 = .ok (.iconst 0, 1) := by decide +kernel
theorem dX6_hours_17 : decode cX6_hours 17 = .ok (.istore 5, 2) := by decide +kernel
theorem dX6_hours_19 : decode cX6_hours 19 = .ok (.iload 5, 2) := by decide +kernel
theorem dX6_hours_21 : decode cX6_hours 21 = .ok (.bipush 24, 2) := by decide +kernel
theorem dX6_hours_23 : decode cX6_hours 23 = .ok (.if_icmp .ge 33, 3) := by decide +kernel
theorem dX6_hours_26 : decode cX6_hours 26 = .ok (.aload_n 0, 1) := by decide +kernel
theorem dX6_hours_27 : decode cX6_hours 27 = .ok (.iload_n 1, 1) := by decide +kernel
theorem dX6_hours_28 : decode cX6_hours 28 = .ok (.iload_n 2, 1) := by decide +kernel
theorem dX6_hours_29 : decode cX6_hours 29 = .ok (.iload_n 3, 1) := by decide +kernel
theorem dX6_hours_30 : decode cX6_hours 30 = .ok (.iload 5, 2) := by decide +kernel
theorem dX6_hours_32 : decode cX6_hours 32 = .ok (.invokestatic 185, 3) := by decide +kernel
theorem dX6_hours_35 : decode cX6_hours 35 = .ok (.invokevirtual 191, 3) := by decide +kernel
theorem dX6_hours_38 : decode cX6_hours 38 = .ok (.ifCond .eq 12, 3) := by decide +kernel
theorem dX6_hours_41 : decode cX6_hours 41 = .ok (.iload 4, 2) := by decide +kernel
theorem dX6_hours_43 : decode cX6_hours 43 = .ok (.iconst 1, 1) := by decide +kernel
theorem dX6_hours_44 : decode cX6_hours 44 = .ok (.iload 5, 2) := by decide +kernel
theorem dX6_hours_46 : decode cX6_hours 46 = .ok (.ishl, 1) := by decide +kernel
theorem dX6_hours_47 : decode cX6_hours 47 = .ok (.ior, 1) := by decide +kernel
theorem dX6_hours_48 : decode cX6_hours 48 = .ok (.istore 4, 2) := by decide +kernel
theorem dX6_hours_50 : decode cX6_hours 50 = .ok (.iinc 5 1, 3) := by decide +kernel
theorem dX6_hours_53 : decode cX6_hours 53 = .ok (.goto (-34), 3) := by decide +kernel
theorem dX6_hours_56 : decode cX6_hours 56 = .ok (.iload 4, 2) := by decide +kernel
theorem dX6_hours_58 : decode cX6_hours 58 = .ok (.ireturn, 1) := by decide +kernel
theorem dX6_hoursByStars_0 : decode cX6_hoursByStars 0 = .ok (.aload_n 0, 1) := by decide +kernel
theorem dX6_hoursByStars_1 : decode cX6_hoursByStars 1 = .ok (.iload_n 1, 1) := by decide +kernel
theorem dX6_hoursByStars_2 : decode cX6_hoursByStars 2 = .ok (.invokevirtual 94, 3) := by decide +kernel
theorem dX6_hoursByStars_5 : decode cX6_hoursByStars 5 = .ok (.iload_n 2, 1) := by decide +kernel
theorem dX6_hoursByStars_6 : decode cX6_hoursByStars 6 = .ok (.invokestatic 176, 3) := by decide +kernel
theorem dX6_hoursByStars_9 : decode cX6_hoursByStars 9 = .ok (.iload_n 3, 1) := by decide +kernel
theorem dX6_hoursByStars_10 : decode cX6_hoursByStars 10 = .ok (.invokestatic 179, 3) := by decide +kernel
theorem dX6_hoursByStars_13 : decode cX6_hoursByStars 13 = .ok (.aload_n 0, 1) := by decide +kernel
theorem dX6_hoursByStars_14 : decode cX6_hoursByStars 14 = .ok (.getfield 19, 3) := by decide +kernel
theorem dX6_hoursByStars_17 : decode cX6_hoursByStars 17 = .ok (.getfield 102, 3) := by decide +kernel
theorem dX6_hoursByStars_20 : decode cX6_hoursByStars 20 = .ok (.iload_n 1, 1) := by decide +kernel
theorem dX6_hoursByStars_21 : decode cX6_hoursByStars 21 = .ok (.iaload, 1) := by decide +kernel
theorem dX6_hoursByStars_22 : decode cX6_hoursByStars 22 = .ok (.istore 4, 2) := by decide +kernel
theorem dX6_hoursByStars_24 : decode cX6_hoursByStars 24 = .ok (.iload 4, 2) := by decide +kernel
theorem dX6_hoursByStars_26 : decode cX6_hoursByStars 26 = .ok (.ifCond .ne 7, 3) := by decide +kernel
theorem dX6_hoursByStars_29 : decode cX6_hoursByStars 29 = .ok (.iconst 0, 1) := by decide +kernel
theorem dX6_hoursByStars_30 : decode cX6_hoursByStars 30 = .ok (.goto 5, 3) := by decide +kernel
theorem dX6_hoursByStars_33 : decode cX6_hoursByStars 33 = .ok (.ldc 194, 2) := by decide +kernel
theorem dX6_hoursByStars_35 : decode cX6_hoursByStars 35 = .ok (.istore 5, 2) := by decide +kernel
theorem dX6_hoursByStars_37 : decode cX6_hoursByStars 37 = .ok (.iconst 0, 1) := by decide +kernel
theorem dX6_hoursByStars_38 : decode cX6_hoursByStars 38 = .ok (.istore 6, 2) := by decide +kernel
theorem dX6_hoursByStars_40 : decode cX6_hoursByStars 40 = .ok (.iload 6, 2) := by decide +kernel
theorem dX6_hoursByStars_42 : decode cX6_hoursByStars 42 = .ok (.iload 4, 2) := by decide +kernel
theorem dX6_hoursByStars_44 : decode cX6_hoursByStars 44 = .ok (.if_icmp .ge 59, 3) := by decide +kernel
theorem dX6_hoursByStars_47 : decode cX6_hoursByStars 47 = .ok (.iload_n 1, 1) := by decide +kernel
theorem dX6_hoursByStars_48 : decode cX6_hoursByStars 48 = .ok (.iload 6, 2) := by decide +kernel
theorem dX6_hoursByStars_50 : decode cX6_hoursByStars 50 = .ok (.invokestatic 128, 3) := by decide +kernel
theorem dX6_hoursByStars_53 : decode cX6_hoursByStars 53 = .ok (.istore 7, 2) := by decide +kernel
theorem dX6_hoursByStars_55 : decode cX6_hoursByStars 55 = .ok (.iload 5, 2) := by decide +kernel
theorem dX6_hoursByStars_57 : decode cX6_hoursByStars 57 = .ok (.aload_n 0, 1) := by decide +kernel
theorem dX6_hoursByStars_58 : decode cX6_hoursByStars 58 = .ok (.aload_n 0, 1) := by decide +kernel
theorem dX6_hoursByStars_59 : decode cX6_hoursByStars 59 = .ok (.getfield 19, 3) := by decide +kernel
theorem dX6_hoursByStars_62 : decode cX6_hoursByStars 62 = .ok (.getfield 131, 3) := by decide +kernel
theorem dX6_hoursByStars_65 : decode cX6_hoursByStars 65 = .ok (.iload 7, 2) := by decide +kernel
theorem dX6_hoursByStars_67 : decode cX6_hoursByStars 67 = .ok (.iaload, 1) := by decide +kernel
theorem dX6_hoursByStars_68 : decode cX6_hoursByStars 68 = .ok (.iload_n 2, 1) := by decide +kernel
theorem dX6_hoursByStars_69 : decode cX6_hoursByStars 69 = .ok (.iload_n 3, 1) := by decide +kernel
theorem dX6_hoursByStars_70 : decode cX6_hoursByStars 70 = .ok (.invokevirtual 195, 3) := by decide +kernel
theorem dX6_hoursByStars_73 : decode cX6_hoursByStars 73 = .ok (.iand, 1) := by decide +kernel
theorem dX6_hoursByStars_74 : decode cX6_hoursByStars 74 = .ok (.istore 5, 2) := by decide +kernel
theorem dX6_hoursByStars_76 : decode cX6_hoursByStars 76 = .ok (.iload 5, 2) := by decide +kernel
theorem dX6_hoursByStars_78 : decode cX6_hoursByStars 78 = .ok (.aload_n 0, 1) := by decide +kernel
theorem dX6_hoursByStars_79 : decode cX6_hoursByStars 79 = .ok (.aload_n 0, 1) := by decide +kernel
theorem dX6_hoursByStars_80 : decode cX6_hoursByStars 80 = .ok (.getfield 19, 3) := by decide +kernel
theorem dX6_hoursByStars_83 : decode cX6_hoursByStars 83 = .ok (.getfield 134, 3) := by decide +kernel
theorem dX6_hoursByStars_86 : decode cX6_hoursByStars 86 = .ok (.iload 7, 2) := by decide +kernel
theorem dX6_hoursByStars_88 : decode cX6_hoursByStars 88 = .ok (.iaload, 1) := by decide +kernel
theorem dX6_hoursByStars_89 : decode cX6_hoursByStars 89 = .ok (.iload_n 2, 1) := by decide +kernel
theorem dX6_hoursByStars_90 : decode cX6_hoursByStars 90 = .ok (.iload_n 3, 1) := by decide +kernel
theorem dX6_hoursByStars_91 : decode cX6_hoursByStars 91 = .ok (.invokevirtual 195, 3) := by decide +kernel
theorem dX6_hoursByStars_94 : decode cX6_hoursByStars 94 = .ok (.iand, 1) := by decide +kernel
theorem dX6_hoursByStars_95 : decode cX6_hoursByStars 95 = .ok (.istore 5, 2) := by decide +kernel
theorem dX6_hoursByStars_97 : decode cX6_hoursByStars 97 = .ok (.iinc 6 1, 3) := by decide +kernel
theorem dX6_hoursByStars_100 : decode cX6_hoursByStars 100 = .ok (.goto (-60), 3) := by decide +kernel
theorem dX6_hoursByStars_103 : decode cX6_hoursByStars 103 = .ok (.iload 5, 2) := by decide +kernel
theorem dX6_hoursByStars_105 : decode cX6_hoursByStars 105 = .ok (.ireturn, 1) := by decide +kernel
