theorem dX0_init_0 : decode cX0_init 0 = .ok (.aload_n 0, 1) := by decide +kernel
theorem dX0_init_1 : decode cX0_init 1 = .ok (.invokespecial 3, 3) := by decide +kernel
theorem dX0_init_4 : decode cX0_init 4 = .ok (.aload_n 0, 1) := by decide +kernel
theorem dX0_init_5 : decode cX0_init 5 = .ok (.bipush 8, 2) := by decide +kernel
theorem dX0_init_7 : decode cX0_init 7 = .ok (.newarray .int, 2) := by decide +kernel
theorem dX0_init_9 : decode cX0_init 9 = .ok (.putfield 9, 3) := by decide +kernel
theorem dX0_init_12 : decode cX0_init 12 = .ok (.aload_n 0, 1) := by decide +kernel
theorem dX0_init_13 : decode cX0_init 13 = .ok (.bipush 8, 2) := by decide +kernel
theorem dX0_init_15 : decode cX0_init 15 = .ok (.newarray .int, 2) := by decide +kernel
theorem dX0_init_17 : decode cX0_init 17 = .ok (.putfield 15, 3) := by decide +kernel
theorem dX0_init_20 : decode cX0_init 20 = .ok (.aload_n 0, 1) := by decide +kernel
theorem dX0_init_21 : decode cX0_init 21 = .ok (.bipush 8, 2) := by decide +kernel
theorem dX0_init_23 : decode cX0_init 23 = .ok (.newarray .int, 2) := by decide +kernel
theorem dX0_init_25 : decode cX0_init 25 = .ok (.putfield 18, 3) := by decide +kernel
theorem dX0_init_28 : decode cX0_init 28 = .ok (.aload_n 0, 1) := by decide +kernel
theorem dX0_init_29 : decode cX0_init 29 = .ok (.bipush 8, 2) := by decide +kernel
theorem dX0_init_31 : decode cX0_init 31 = .ok (.newarray .int, 2) := by decide +kernel
theorem dX0_init_33 : decode cX0_init 33 = .ok (.putfield 21, 3) := by decide +kernel
theorem dX0_init_36 : decode cX0_init 36 = .ok (.aload_n 0, 1) := by decide +kernel
theorem dX0_init_37 : decode cX0_init 37 = .ok (.bipush 8, 2) := by decide +kernel
theorem dX0_init_39 : decode cX0_init 39 = .ok (.newarray .int, 2) := by decide +kernel
theorem dX0_init_41 : decode cX0_init 41 = .ok (.putfield 24, 3) := by decide +kernel
theorem dX0_init_44 : decode cX0_init 44 = .ok (.aload_n 0, 1) := by decide +kernel
theorem dX0_init_45 : decode cX0_init 45 = .ok (.iconst 0, 1) := by decide +kernel
theorem dX0_init_46 : decode cX0_init 46 = .ok (.putfield 27, 3) := by decide +kernel
theorem dX0_init_49 : decode cX0_init 49 = .ok (.return_, 1) := by decide +kernel
theorem dX0_size_0 : decode cX0_size 0 = .ok (.aload_n 0, 1) := by decide +kernel
theorem dX0_size_1 : decode cX0_size 1 = .ok (.getfield 27, 3) := by decide +kernel
theorem dX0_size_4 : decode cX0_size 4 = .ok (.ireturn, 1) := by decide +kernel
theorem dX0_has_0 : decode cX0_has 0 = .ok (.iload_n 1, 1) := by decide +kernel
theorem dX0_has_1 : decode cX0_has 1 = .ok (.i2l, 1) := by decide +kernel
theorem dX0_has_2 : decode cX0_has 2 = .ok (.lconst 0, 1) := by decide +kernel
theorem dX0_has_3 : decode cX0_has 3 = .ok (.aload_n 0, 1) := by decide +kernel
theorem dX0_has_4 : decode cX0_has 4 = .ok (.getfield 27, 3) := by decide +kernel
theorem dX0_has_7 : decode cX0_has 7 = .ok (.iconst 1, 1) := by decide +kernel
theorem dX0_has_8 : decode cX0_has 8 = .ok (.isub, 1) := by decide +kernel
theorem dX0_has_9 : decode cX0_has 9 = .ok (.i2l, 1) := by decide +kernel
theorem dX0_has_10 : decode cX0_has 10 = .ok (.invokestatic 31, 3) := by decide +kernel
theorem dX0_has_13 : decode cX0_has 13 = .ok (.ireturn, 1) := by decide +kernel
theorem dX0_add_0 : decode cX0_add 0 = .ok (.aload_n 0, 1) := by decide +kernel
theorem dX0_add_1 : decode cX0_add 1 = .ok (.getfield 27, 3) := by decide +kernel
theorem dX0_add_4 : decode cX0_add 4 = .ok (.bipush 8, 2) := by decide +kernel
theorem dX0_add_6 : decode cX0_add 6 = .ok (.if_icmp .lt 5, 3) := by decide +kernel
theorem dX0_add_9 : decode cX0_add 9 = .ok (.iconst (-1), 1) := by decide +kernel
theorem dX0_add_10 : decode cX0_add 10 = .ok (.ireturn, 1) := by decide +kernel
theorem dX0_add_11 : decode cX0_add 11 = .ok (.aload_n 0, 1) := by decide +kernel
theorem dX0_add_12 : decode cX0_add 12 = .ok (.getfield 9, 3) := by decide +kernel
theorem dX0_add_15 : decode cX0_add 15 = .ok (.aload_n 0, 1) := by decide +kernel
theorem dX0_add_16 : decode cX0_add 16 = .ok (.getfield 27, 3) := by decide +kernel
theorem dX0_add_19 : decode cX0_add 19 = .ok (.iload_n 1, 1) := by decide +kernel
theorem dX0_add_20 : decode cX0_add 20 = .ok (.iastore, 1) := by decide +kernel
theorem dX0_add_21 : decode cX0_add 21 = .ok (.aload_n 0, 1) := by decide +kernel
theorem dX0_add_22 : decode cX0_add 22 = .ok (.getfield 15, 3) := by decide +kernel
theorem dX0_add_25 : decode cX0_add 25 = .ok (.aload_n 0, 1) := by decide +kernel
theorem dX0_add_26 : decode cX0_add 26 = .ok (.getfield 27, 3) := by decide +kernel
theorem dX0_add_29 : decode cX0_add 29 = .ok (.iload_n 2, 1) := by decide +kernel
theorem dX0_add_30 : decode cX0_add 30 = .ok (.iastore, 1) := by decide +kernel
theorem dX0_add_31 : decode cX0_add 31 = .ok (.aload_n 0, 1) := by decide +kernel
theorem dX0_add_32 : decode cX0_add 32 = .ok (.getfield 18, 3) := by decide +kernel
theorem dX0_add_35 : decode cX0_add 35 = .ok (.aload_n 0, 1) := by decide +kernel
theorem dX0_add_36 : decode cX0_add 36 = .ok (.getfield 27, 3) := by decide +kernel
theorem dX0_add_39 : decode cX0_add 39 = .ok (.iload_n 3, 1) := by decide +kernel
theorem dX0_add_40 : decode cX0_add 40 = .ok (.iastore, 1) := by decide +kernel
theorem dX0_add_41 : decode cX0_add 41 = .ok (.aload_n 0, 1) := by decide +kernel
theorem dX0_add_42 : decode cX0_add 42 = .ok (.getfield 21, 3) := by decide +kernel
theorem dX0_add_45 : decode cX0_add 45 = .ok (.aload_n 0, 1) := by decide +kernel
theorem dX0_add_46 : decode cX0_add 46 = .ok (.getfield 27, 3) := by decide +kernel
theorem dX0_add_49 : decode cX0_add 49 = .ok (.iload 4, 2) := by decide +kernel
theorem dX0_add_51 : decode cX0_add 51 = .ok (.iastore, 1) := by decide +kernel
theorem dX0_add_52 : decode cX0_add 52 = .ok (.aload_n 0, 1) := by decide +kernel
theorem dX0_add_53 : decode cX0_add 53 = .ok (.dup, 1) := by decide +kernel
theorem dX0_add_54 : decode cX0_add 54 = .ok (.getfield 27, 3) := by decide +kernel
theorem dX0_add_57 : decode cX0_add 57 = .ok (.iconst 1, 1) := by decide +kernel
theorem dX0_add_58 : decode cX0_add 58 = .ok (.iadd, 1) := by decide +kernel
theorem dX0_add_59 : decode cX0_add 59 = .ok (.putfield 27, 3) := by decide +kernel
theorem dX0_add_62 : decode cX0_add 62 = .ok (.aload_n 0, 1) := by decide +kernel
theorem dX0_add_63 : decode cX0_add 63 = .ok (.getfield 27, 3) := by decide +kernel
theorem dX0_add_66 : decode cX0_add 66 = .ok (.iconst 1, 1) := by decide +kernel
theorem dX0_add_67 : decode cX0_add 67 = .ok (.isub, 1) := by decide +kernel
theorem dX0_add_68 : decode cX0_add 68 = .ok (.ireturn, 1) := by decide +kernel
theorem dX0_valuesFor_0 : decode cX0_valuesFor 0 = .ok (.aload_n 0, 1) := by decide +kernel
theorem dX0_valuesFor_1 : decode cX0_valuesFor 1 = .ok (.getfield 24, 3) := by decide +kernel
theorem dX0_valuesFor_4 : decode cX0_valuesFor 4 = .ok (.iconst 1, 1) := by decide +kernel
theorem dX0_valuesFor_5 : decode cX0_valuesFor 5 = .ok (.iload_n 2, 1) := by decide +kernel
theorem dX0_valuesFor_6 : decode cX0_valuesFor 6 = .ok (.iastore, 1) := by decide +kernel
theorem dX0_valuesFor_7 : decode cX0_valuesFor 7 = .ok (.aload_n 0, 1) := by decide +kernel
theorem dX0_valuesFor_8 : decode cX0_valuesFor 8 = .ok (.getfield 24, 3) := by decide +kernel
theorem dX0_valuesFor_11 : decode cX0_valuesFor 11 = .ok (.bipush 6, 2) := by decide +kernel
theorem dX0_valuesFor_13 : decode cX0_valuesFor 13 = .ok (.iload_n 3, 1) := by decide +kernel
theorem dX0_valuesFor_14 : decode cX0_valuesFor 14 = .ok (.iastore, 1) := by decide +kernel
theorem dX0_valuesFor_15 : decode cX0_valuesFor 15 = .ok (.aload_n 0, 1) := by decide +kernel
theorem dX0_valuesFor_16 : decode cX0_valuesFor 16 = .ok (.getfield 24, 3) := by decide +kernel
theorem dX0_valuesFor_19 : decode cX0_valuesFor 19 = .ok (.bipush 7, 2) := by decide +kernel
theorem dX0_valuesFor_21 : decode cX0_valuesFor 21 = .ok (.iconst 1, 1) := by decide +kernel
theorem dX0_valuesFor_22 : decode cX0_valuesFor 22 = .ok (.iastore, 1) := by decide +kernel
theorem dX0_valuesFor_23 : decode cX0_valuesFor 23 = .ok (.aload_n 0, 1) := by decide +kernel
theorem dX0_valuesFor_24 : decode cX0_valuesFor 24 = .ok (.iload_n 1, 1) := by decide +kernel
theorem dX0_valuesFor_25 : decode cX0_valuesFor 25 = .ok (.invokevirtual 35, 3) := by decide +kernel
theorem dX0_valuesFor_28 : decode cX0_valuesFor 28 = .ok (.ifCond .eq 51, 3) := by decide +kernel
theorem dX0_valuesFor_31 : decode cX0_valuesFor 31 = .ok (.aload_n 0, 1) := by decide +kernel
theorem dX0_valuesFor_32 : decode cX0_valuesFor 32 = .ok (.getfield 24, 3) := by decide +kernel
theorem dX0_valuesFor_35 : decode cX0_valuesFor 35 = .ok (.iconst 2, 1) := by decide +kernel
theorem dX0_valuesFor_36 : decode cX0_valuesFor 36 = .ok (.aload_n 0, 1) := by decide +kernel
theorem dX0_valuesFor_37 : decode cX0_valuesFor 37 = .ok (.getfield 9, 3) := by decide +kernel
theorem dX0_valuesFor_40 : decode cX0_valuesFor 40 = .ok (.iload_n 1, 1) := by decide +kernel
theorem dX0_valuesFor_41 : decode cX0_valuesFor 41 = .ok (.iaload, 1) := by decide +kernel
theorem dX0_valuesFor_42 : decode cX0_valuesFor 42 = .ok (.iastore, 1) := by decide +kernel
theorem dX0_valuesFor_43 : decode cX0_valuesFor 43 = .ok (.aload_n 0, 1) := by decide +kernel
theorem dX0_valuesFor_44 : decode cX0_valuesFor 44 = .ok (.getfield 24, 3) := by decide +kernel
theorem dX0_valuesFor_47 : decode cX0_valuesFor 47 = .ok (.iconst 3, 1) := by decide +kernel
theorem dX0_valuesFor_48 : decode cX0_valuesFor 48 = .ok (.aload_n 0, 1) := by decide +kernel
theorem dX0_valuesFor_49 : decode cX0_valuesFor 49 = .ok (.getfield 15, 3) := by decide +kernel
theorem dX0_valuesFor_52 : decode cX0_valuesFor 52 = .ok (.iload_n 1, 1) := by decide +kernel
theorem dX0_valuesFor_53 : decode cX0_valuesFor 53 = .ok (.iaload, 1) := by decide +kernel
theorem dX0_valuesFor_54 : decode cX0_valuesFor 54 = .ok (.iastore, 1) := by decide +kernel
theorem dX0_valuesFor_55 : decode cX0_valuesFor 55 = .ok (.aload_n 0, 1) := by decide +kernel
theorem dX0_valuesFor_56 : decode cX0_valuesFor 56 = .ok (.getfield 24, 3) := by decide +kernel
theorem dX0_valuesFor_59 : decode cX0_valuesFor 59 = .ok (.iconst 4, 1) := by decide +kernel
theorem dX0_valuesFor_60 : decode cX0_valuesFor 60 = .ok (.aload_n 0, 1) := by decide +kernel
theorem dX0_valuesFor_61 : decode cX0_valuesFor 61 = .ok (.getfield 18, 3) := by decide +kernel
theorem dX0_valuesFor_64 : decode cX0_valuesFor 64 = .ok (.iload_n 1, 1) := by decide +kernel
theorem dX0_valuesFor_65 : decode cX0_valuesFor 65 = .ok (.iaload, 1) := by decide +kernel
theorem dX0_valuesFor_66 : decode cX0_valuesFor 66 = .ok (.iastore, 1) := by decide +kernel
theorem dX0_valuesFor_67 : decode cX0_valuesFor 67 = .ok (.aload_n 0, 1) := by decide +kernel
theorem dX0_valuesFor_68 : decode cX0_valuesFor 68 = .ok (.getfield 24, 3) := by decide +kernel
theorem dX0_valuesFor_71 : decode cX0_valuesFor 71 = .ok (.iconst 5, 1) := by decide +kernel
theorem dX0_valuesFor_72 : decode cX0_valuesFor 72 = .ok (.aload_n 0, 1) := by decide +kernel
theorem dX0_valuesFor_73 : decode cX0_valuesFor 73 = .ok (.getfield 21, 3) := by decide +kernel
theorem dX0_valuesFor_76 : decode cX0_valuesFor 76 = .ok (.iload_n 1, 1) := by decide +kernel
theorem dX0_valuesFor_77 : decode cX0_valuesFor 77 = .ok (.iaload, 1) := by decide +kernel
theorem dX0_valuesFor_78 : decode cX0_valuesFor 78 = .ok (.iastore, 1) := by decide +kernel
theorem dX0_valuesFor_79 : decode cX0_valuesFor 79 = .ok (.aload_n 0, 1) := by decide +kernel
theorem dX0_valuesFor_80 : decode cX0_valuesFor 80 = .ok (.getfield 24, 3) := by decide +kernel
theorem dX0_valuesFor_83 : decode cX0_valuesFor 83 = .ok (.areturn, 1) := by decide +kernel
theorem dX1_init_0 : decode cX1_init 0 = .ok (.aload_n 0, 1) := by decide +kernel
theorem dX1_init_1 : decode cX1_init 1 = .ok (.invokespecial 3, 3) := by decide +kernel
theorem dX1_init_4 : decode cX1_init 4 = .ok (.aload_n 0, 1) := by decide +kernel
theorem dX1_init_5 : decode cX1_init 5 = .ok (.sipush 400, 3) := by decide +kernel
theorem dX1_init_8 : decode cX1_init 8 = .ok (.newarray .long, 2) := by decide +kernel
theorem dX1_init_10 : decode cX1_init 10 = .ok (.putfield 9, 3) := by decide +kernel
theorem dX1_init_13 : decode cX1_init 13 = .ok (.aload_n 0, 1) := by decide +kernel
theorem dX1_init_14 : decode cX1_init 14 = .ok (.sipush 400, 3) := by decide +kernel
theorem dX1_init_17 : decode cX1_init 17 = .ok (.newarray .long, 2) := by decide +kernel
theorem dX1_init_19 : decode cX1_init 19 = .ok (.putfield 15, 3) := by decide +kernel
theorem dX1_init_22 : decode cX1_init 22 = .ok (.aload_n 0, 1) := by decide +kernel
theorem dX1_init_23 : decode cX1_init 23 = .ok (.sipush 400, 3) := by decide +kernel
theorem dX1_init_26 : decode cX1_init 26 = .ok (.newarray .long, 2) := by decide +kernel
theorem dX1_init_28 : decode cX1_init 28 = .ok (.putfield 18, 3) := by decide +kernel
theorem dX1_init_31 : decode cX1_init 31 = .ok (.aload_n 0, 1) := by decide +kernel
theorem dX1_init_32 : decode cX1_init 32 = .ok (.sipush 400, 3) := by decide +kernel
theorem dX1_init_35 : decode cX1_init 35 = .ok (.newarray .long, 2) := by decide +kernel
theorem dX1_init_37 : decode cX1_init 37 = .ok (.putfield 21, 3) := by decide +kernel
theorem dX1_init_40 : decode cX1_init 40 = .ok (.aload_n 0, 1) := by decide +kernel
theorem dX1_init_41 : decode cX1_init 41 = .ok (.sipush 400, 3) := by decide +kernel
theorem dX1_init_44 : decode cX1_init 44 = .ok (.newarray .long, 2) := by decide +kernel
theorem dX1_init_46 : decode cX1_init 46 = .ok (.putfield 24, 3) := by decide +kernel
theorem dX1_init_49 : decode cX1_init 49 = .ok (.aload_n 0, 1) := by decide +kernel
theorem dX1_init_50 : decode cX1_init 50 = .ok (.iconst 0, 1) := by decide +kernel
theorem dX1_init_51 : decode cX1_init 51 = .ok (.putfield 27, 3) := by decide +kernel
theorem dX1_init_54 : decode cX1_init 54 = .ok (.aload_n 0, 1) := by decide +kernel
theorem dX1_init_55 : decode cX1_init 55 = .ok (.lconst 0, 1) := by decide +kernel
theorem dX1_init_56 : decode cX1_init 56 = .ok (.putfield 31, 3) := by decide +kernel
theorem dX1_init_59 : decode cX1_init 59 = .ok (.aload_n 0, 1) := by decide +kernel
theorem dX1_init_60 : decode cX1_init 60 = .ok (.iconst 0, 1) := by decide +kernel
theorem dX1_init_61 : decode cX1_init 61 = .ok (.putfield 35, 3) := by decide +kernel
theorem dX1_init_64 : decode cX1_init 64 = .ok (.return_, 1) := by decide +kernel
theorem dX1_size_0 : decode cX1_size 0 = .ok (.aload_n 0, 1) := by decide +kernel
theorem dX1_size_1 : decode cX1_size 1 = .ok (.getfield 27, 3) := by decide +kernel
theorem dX1_size_4 : decode cX1_size 4 = .ok (.ireturn, 1) := by decide +kernel
theorem dX1_add_0 : decode cX1_add 0 = .ok (.aload_n 0, 1) := by decide +kernel
theorem dX1_add_1 : decode cX1_add 1 = .ok (.getfield 27, 3) := by decide +kernel
theorem dX1_add_4 : decode cX1_add 4 = .ok (.sipush 400, 3) := by decide +kernel
theorem dX1_add_7 : decode cX1_add 7 = .ok (.if_icmp .lt 5, 3) := by decide +kernel
theorem dX1_add_10 : decode cX1_add 10 = .ok (.iconst (-1), 1) := by decide +kernel
theorem dX1_add_11 : decode cX1_add 11 = .ok (.ireturn, 1) := by decide +kernel
theorem dX1_add_12 : decode cX1_add 12 = .ok (.aload_n 0, 1) := by decide +kernel
theorem dX1_add_13 : decode cX1_add 13 = .ok (.getfield 9, 3) := by decide +kernel
theorem dX1_add_16 : decode cX1_add 16 = .ok (.aload_n 0, 1) := by decide +kernel
theorem dX1_add_17 : decode cX1_add 17 = .ok (.getfield 27, 3) := by decide +kernel
theorem dX1_add_20 : decode cX1_add 20 = .ok (.lload_n 1, 1) := by decide +kernel
theorem dX1_add_21 : decode cX1_add 21 = .ok (.lastore, 1) := by decide +kernel
theorem dX1_add_22 : decode cX1_add 22 = .ok (.aload_n 0, 1) := by decide +kernel
theorem dX1_add_23 : decode cX1_add 23 = .ok (.dup, 1) := by decide +kernel
theorem dX1_add_24 : decode cX1_add 24 = .ok (.getfield 31, 3) := by decide +kernel
theorem dX1_add_27 : decode cX1_add 27 = .ok (.lload_n 1, 1) := by decide +kernel
theorem dX1_add_28 : decode cX1_add 28 = .ok (.ladd, 1) := by decide +kernel
theorem dX1_add_29 : decode cX1_add 29 = .ok (.putfield 31, 3) := by decide +kernel
theorem dX1_add_32 : decode cX1_add 32 = .ok (.aload_n 0, 1) := by decide +kernel
theorem dX1_add_33 : decode cX1_add 33 = .ok (.dup, 1) := by decide +kernel
theorem dX1_add_34 : decode cX1_add 34 = .ok (.getfield 27, 3) := by decide +kernel
theorem dX1_add_37 : decode cX1_add 37 = .ok (.iconst 1, 1) := by decide +kernel
theorem dX1_add_38 : decode cX1_add 38 = .ok (.iadd, 1) := by decide +kernel
theorem dX1_add_39 : decode cX1_add 39 = .ok (.putfield 27, 3) := by decide +kernel
theorem dX1_add_42 : decode cX1_add 42 = .ok (.aload_n 0, 1) := by decide +kernel
theorem dX1_add_43 : decode cX1_add 43 = .ok (.iconst 0, 1) := by decide +kernel
theorem dX1_add_44 : decode cX1_add 44 = .ok (.putfield 35, 3) := by decide +kernel
theorem dX1_add_47 : decode cX1_add 47 = .ok (.aload_n 0, 1) := by decide +kernel
theorem dX1_add_48 : decode cX1_add 48 = .ok (.getfield 27, 3) := by decide +kernel
theorem dX1_add_51 : decode cX1_add 51 = .ok (.ireturn, 1) := by decide +kernel
theorem dX1_keepRun_0 : decode cX1_keepRun 0 = .ok (.aload_n 0, 1) := by decide +kernel
theorem dX1_keepRun_1 : decode cX1_keepRun 1 = .ok (.iconst 1, 1) := by decide +kernel
theorem dX1_keepRun_2 : decode cX1_keepRun 2 = .ok (.putfield 35, 3) := by decide +kernel
theorem dX1_keepRun_5 : decode cX1_keepRun 5 = .ok (.aload_n 0, 1) := by decide +kernel
theorem dX1_keepRun_6 : decode cX1_keepRun 6 = .ok (.lload_n 1, 1) := by decide +kernel
theorem dX1_keepRun_7 : decode cX1_keepRun 7 = .ok (.lload_n 3, 1) := by decide +kernel
theorem dX1_keepRun_8 : decode cX1_keepRun 8 = .ok (.invokevirtual 39, 3) := by decide +kernel
theorem dX1_keepRun_11 : decode cX1_keepRun 11 = .ok (.ireturn, 1) := by decide +kernel
theorem dX1_goThrough_0 : decode cX1_goThrough 0 = .ok (.lconst 0, 1) := by decide +kernel
theorem dX1_goThrough_1 : decode cX1_goThrough 1 = .ok (.lstore 5, 2) := by decide +kernel
theorem dX1_goThrough_3 : decode cX1_goThrough 3 = .ok (.lconst 0, 1) := by decide +kernel
theorem dX1_goThrough_4 : decode cX1_goThrough 4 = .ok (.lstore 7, 2) := by decide +kernel
theorem dX1_goThrough_6 : decode cX1_goThrough 6 = .ok (.iconst 0, 1) := by decide +kernel
theorem dX1_goThrough_7 : decode cX1_goThrough 7 = .ok (.istore 9, 2) := by decide +kernel
theorem dX1_goThrough_9 : decode cX1_goThrough 9 = .ok (.iconst 0, 1) := by decide +kernel
theorem dX1_goThrough_10 : decode cX1_goThrough 10 = .ok (.istore 10, 2) := by decide +kernel
theorem dX1_goThrough_12 : decode cX1_goThrough 12 = .ok (.iload 10, 2) := by decide +kernel
theorem dX1_goThrough_14 : decode cX1_goThrough 14 = .ok (.aload_n 0, 1) := by decide +kernel
theorem dX1_goThrough_15 : decode cX1_goThrough 15 = .ok (.getfield 27, 3) := by decide +kernel
theorem dX1_goThrough_18 : decode cX1_goThrough 18 = .ok (.if_icmp .ge 118, 3) := by decide +kernel
theorem dX1_goThrough_21 : decode cX1_goThrough 21 = .ok (.lload 5, 2) := by decide +kernel
theorem dX1_goThrough_23 : decode cX1_goThrough 23 = .ok (.aload_n 0, 1) := by decide +kernel
theorem dX1_goThrough_24 : decode cX1_goThrough 24 = .ok (.getfield 9, 3) := by decide +kernel
theorem dX1_goThrough_27 : decode cX1_goThrough 27 = .ok (.iload 10, 2) := by decide +kernel
theorem dX1_goThrough_29 : decode cX1_goThrough 29 = .ok (.laload, 1) := by decide +kernel
theorem dX1_goThrough_30 : decode cX1_goThrough 30 = .ok (.ladd, 1) := by decide +kernel
theorem dX1_goThrough_31 : decode cX1_goThrough 31 = .ok (.lstore 5, 2) := by decide +kernel
theorem dX1_goThrough_33 : decode cX1_goThrough 33 = .ok (.aload_n 0, 1) := by decide +kernel
theorem dX1_goThrough_34 : decode cX1_goThrough 34 = .ok (.getfield 18, 3) := by decide +kernel
theorem dX1_goThrough_37 : decode cX1_goThrough 37 = .ok (.iload 10, 2) := by decide +kernel
theorem dX1_goThrough_39 : decode cX1_goThrough 39 = .ok (.lload 5, 2) := by decide +kernel
theorem dX1_goThrough_41 : decode cX1_goThrough 41 = .ok (.lload_n 1, 1) := by decide +kernel
theorem dX1_goThrough_42 : decode cX1_goThrough 42 = .ok (.invokestatic 43, 3) := by decide +kernel
theorem dX1_goThrough_45 : decode cX1_goThrough 45 = .ok (.lastore, 1) := by decide +kernel
theorem dX1_goThrough_46 : decode cX1_goThrough 46 = .ok (.lload 5, 2) := by decide +kernel
theorem dX1_goThrough_48 : decode cX1_goThrough 48 = .ok (.aload_n 0, 1) := by decide +kernel
theorem dX1_goThrough_49 : decode cX1_goThrough 49 = .ok (.getfield 18, 3) := by decide +kernel
theorem dX1_goThrough_52 : decode cX1_goThrough 52 = .ok (.iload 10, 2) := by decide +kernel
theorem dX1_goThrough_54 : decode cX1_goThrough 54 = .ok (.laload, 1) := by decide +kernel
theorem dX1_goThrough_55 : decode cX1_goThrough 55 = .ok (.lsub, 1) := by decide +kernel
theorem dX1_goThrough_56 : decode cX1_goThrough 56 = .ok (.lstore 5, 2) := by decide +kernel
theorem dX1_goThrough_58 : decode cX1_goThrough 58 = .ok (.aload_n 0, 1) := by decide +kernel
theorem dX1_goThrough_59 : decode cX1_goThrough 59 = .ok (.getfield 21, 3) := by decide +kernel
theorem dX1_goThrough_62 : decode cX1_goThrough 62 = .ok (.iload 10, 2) := by decide +kernel
theorem dX1_goThrough_64 : decode cX1_goThrough 64 = .ok (.lconst 0, 1) := by decide +kernel
theorem dX1_goThrough_65 : decode cX1_goThrough 65 = .ok (.lload 5, 2) := by decide +kernel
theorem dX1_goThrough_67 : decode cX1_goThrough 67 = .ok (.lload_n 3, 1) := by decide +kernel
theorem dX1_goThrough_68 : decode cX1_goThrough 68 = .ok (.lsub, 1) := by decide +kernel
theorem dX1_goThrough_69 : decode cX1_goThrough 69 = .ok (.invokestatic 49, 3) := by decide +kernel
theorem dX1_goThrough_72 : decode cX1_goThrough 72 = .ok (.lastore, 1) := by decide +kernel
theorem dX1_goThrough_73 : decode cX1_goThrough 73 = .ok (.lload 5, 2) := by decide +kernel
theorem dX1_goThrough_75 : decode cX1_goThrough 75 = .ok (.aload_n 0, 1) := by decide +kernel
theorem dX1_goThrough_76 : decode cX1_goThrough 76 = .ok (.getfield 21, 3) := by decide +kernel
theorem dX1_goThrough_79 : decode cX1_goThrough 79 = .ok (.iload 10, 2) := by decide +kernel
theorem dX1_goThrough_81 : decode cX1_goThrough 81 = .ok (.laload, 1) := by decide +kernel
theorem dX1_goThrough_82 : decode cX1_goThrough 82 = .ok (.lsub, 1) := by decide +kernel
theorem dX1_goThrough_83 : decode cX1_goThrough 83 = .ok (.lstore 5, 2) := by decide +kernel
theorem dX1_goThrough_85 : decode cX1_goThrough 85 = .ok (.aload_n 0, 1) := by decide +kernel
theorem dX1_goThrough_86 : decode cX1_goThrough 86 = .ok (.getfield 15, 3) := by decide +kernel
theorem dX1_goThrough_89 : decode cX1_goThrough 89 = .ok (.iload 10, 2) := by decide +kernel
theorem dX1_goThrough_91 : decode cX1_goThrough 91 = .ok (.lload 5, 2) := by decide +kernel
theorem dX1_goThrough_93 : decode cX1_goThrough 93 = .ok (.lastore, 1) := by decide +kernel
theorem dX1_goThrough_94 : decode cX1_goThrough 94 = .ok (.lload 7, 2) := by decide +kernel
theorem dX1_goThrough_96 : decode cX1_goThrough 96 = .ok (.aload_n 0, 1) := by decide +kernel
theorem dX1_goThrough_97 : decode cX1_goThrough 97 = .ok (.getfield 21, 3) := by decide +kernel
theorem dX1_goThrough_100 : decode cX1_goThrough 100 = .ok (.iload 10, 2) := by decide +kernel
theorem dX1_goThrough_102 : decode cX1_goThrough 102 = .ok (.laload, 1) := by decide +kernel
theorem dX1_goThrough_103 : decode cX1_goThrough 103 = .ok (.ladd, 1) := by decide +kernel
theorem dX1_goThrough_104 : decode cX1_goThrough 104 = .ok (.lstore 7, 2) := by decide +kernel
theorem dX1_goThrough_106 : decode cX1_goThrough 106 = .ok (.aload_n 0, 1) := by decide +kernel
theorem dX1_goThrough_107 : decode cX1_goThrough 107 = .ok (.getfield 24, 3) := by decide +kernel
theorem dX1_goThrough_110 : decode cX1_goThrough 110 = .ok (.iload 10, 2) := by decide +kernel
theorem dX1_goThrough_112 : decode cX1_goThrough 112 = .ok (.lload 7, 2) := by decide +kernel
theorem dX1_goThrough_114 : decode cX1_goThrough 114 = .ok (.lastore, 1) := by decide +kernel
theorem dX1_goThrough_115 : decode cX1_goThrough 115 = .ok (.aload_n 0, 1) := by decide +kernel
theorem dX1_goThrough_116 : decode cX1_goThrough 116 = .ok (.getfield 21, 3) := by decide +kernel
theorem dX1_goThrough_119 : decode cX1_goThrough 119 = .ok (.iload 10, 2) := by decide +kernel
theorem dX1_goThrough_121 : decode cX1_goThrough 121 = .ok (.laload, 1) := by decide +kernel
theorem dX1_goThrough_122 : decode cX1_goThrough 122 = .ok (.lconst 0, 1) := by decide +kernel
theorem dX1_goThrough_123 : decode cX1_goThrough 123 = .ok (.lcmp, 1) := by decide +kernel
theorem dX1_goThrough_124 : decode cX1_goThrough 124 = .ok (.ifCond .le 6, 3) := by decide +kernel
theorem dX1_goThrough_127 : decode cX1_goThrough 127 = .ok (.iinc 9 1, 3) := by decide +kernel
theorem dX1_goThrough_130 : decode cX1_goThrough 130 = .ok (.iinc 10 1, 3) := by decide +kernel
theorem dX1_goThrough_133 : decode cX1_goThrough 133 = .ok (.goto (-121), 3) := by decide +kernel
theorem dX1_goThrough_136 : decode cX1_goThrough 136 = .ok (.iload 9, 2) := by decide +kernel
theorem dX1_goThrough_138 : decode cX1_goThrough 138 = .ok (.ireturn, 1) := by decide +kernel
theorem dX1_recall_0 : decode cX1_recall 0 = .ok (.aload_n 0, 1) := by decide +kernel
theorem dX1_recall_1 : decode cX1_recall 1 = .ok (.getfield 35, 3) := by decide +kernel
theorem dX1_recall_4 : decode cX1_recall 4 = .ok (.ifCond .eq 19, 3) := by decide +kernel
theorem dX1_recall_7 : decode cX1_recall 7 = .ok (.iload_n 1, 1) := by decide +kernel
theorem dX1_recall_8 : decode cX1_recall 8 = .ok (.i2l, 1) := by decide +kernel
theorem dX1_recall_9 : decode cX1_recall 9 = .ok (.lconst 0, 1) := by decide +kernel
theorem dX1_recall_10 : decode cX1_recall 10 = .ok (.aload_n 0, 1) := by decide +kernel
theorem dX1_recall_11 : decode cX1_recall 11 = .ok (.getfield 27, 3) := by decide +kernel
theorem dX1_recall_14 : decode cX1_recall 14 = .ok (.iconst 1, 1) := by decide +kernel
theorem dX1_recall_15 : decode cX1_recall 15 = .ok (.isub, 1) := by decide +kernel
theorem dX1_recall_16 : decode cX1_recall 16 = .ok (.i2l, 1) := by decide +kernel
theorem dX1_recall_17 : decode cX1_recall 17 = .ok (.invokestatic 52, 3) := by decide +kernel
theorem dX1_recall_20 : decode cX1_recall 20 = .ok (.ifCond .ne 7, 3) := by decide +kernel
theorem dX1_recall_23 : decode cX1_recall 23 = .ok (.ldc2_w 56, 3) := by decide +kernel
theorem dX1_recall_26 : decode cX1_recall 26 = .ok (.lreturn, 1) := by decide +kernel
theorem dX1_recall_27 : decode cX1_recall 27 = .ok (.iload_n 2, 1) := by decide +kernel
theorem dX1_recall_28 : decode cX1_recall 28 = .ok (.tableswitch 60 0 3 #[32, 39, 46, 53], 32) := by decide +kernel
theorem dX1_recall_60 : decode cX1_recall 60 = .ok (.aload_n 0, 1) := by decide +kernel
theorem dX1_recall_61 : decode cX1_recall 61 = .ok (.getfield 15, 3) := by decide +kernel
theorem dX1_recall_64 : decode cX1_recall 64 = .ok (.iload_n 1, 1) := by decide +kernel
theorem dX1_recall_65 : decode cX1_recall 65 = .ok (.laload, 1) := by decide +kernel
theorem dX1_recall_66 : decode cX1_recall 66 = .ok (.lreturn, 1) := by decide +kernel
theorem dX1_recall_67 : decode cX1_recall 67 = .ok (.aload_n 0, 1) := by decide +kernel
theorem dX1_recall_68 : decode cX1_recall 68 = .ok (.getfield 18, 3) := by decide +kernel
theorem dX1_recall_71 : decode cX1_recall 71 = .ok (.iload_n 1, 1) := by decide +kernel
theorem dX1_recall_72 : decode cX1_recall 72 = .ok (.laload, 1) := by decide +kernel
theorem dX1_recall_73 : decode cX1_recall 73 = .ok (.lreturn, 1) := by decide +kernel
theorem dX1_recall_74 : decode cX1_recall 74 = .ok (.aload_n 0, 1) := by decide +kernel
theorem dX1_recall_75 : decode cX1_recall 75 = .ok (.getfield 21, 3) := by decide +kernel
theorem dX1_recall_78 : decode cX1_recall 78 = .ok (.iload_n 1, 1) := by decide +kernel
theorem dX1_recall_79 : decode cX1_recall 79 = .ok (.laload, 1) := by decide +kernel
theorem dX1_recall_80 : decode cX1_recall 80 = .ok (.lreturn, 1) := by decide +kernel
theorem dX1_recall_81 : decode cX1_recall 81 = .ok (.aload_n 0, 1) := by decide +kernel
theorem dX1_recall_82 : decode cX1_recall 82 = .ok (.getfield 24, 3) := by decide +kernel
theorem dX1_recall_85 : decode cX1_recall 85 = .ok (.iload_n 1, 1) := by decide +kernel
theorem dX1_recall_86 : decode cX1_recall 86 = .ok (.laload, 1) := by decide +kernel
theorem dX1_recall_87 : decode cX1_recall 87 = .ok (.lreturn, 1) := by decide +kernel
theorem dX1_recall_88 : decode cX1_recall 88 = .ok (.ldc2_w 56, 3) := by decide +kernel
theorem dX1_recall_91 : decode cX1_recall 91 = .ok (.lreturn, 1) := by decide +kernel
theorem dX1_leastRoom_0 : decode cX1_leastRoom 0 = .ok (.aload_n 0, 1) := by decide +kernel
theorem dX1_leastRoom_1 : decode cX1_leastRoom 1 = .ok (.iconst 0, 1) := by decide +kernel
theorem dX1_leastRoom_2 : decode cX1_leastRoom 2 = .ok (.putfield 35, 3) := by decide +kernel
theorem dX1_leastRoom_5 : decode cX1_leastRoom 5 = .ok (.lconst 0, 1) := by decide +kernel
theorem dX1_leastRoom_6 : decode cX1_leastRoom 6 = .ok (.lstore 4, 2) := by decide +kernel
theorem dX1_leastRoom_8 : decode cX1_leastRoom 8 = .ok (.aload_n 0, 1) := by decide +kernel
theorem dX1_leastRoom_9 : decode cX1_leastRoom 9 = .ok (.getfield 31, 3) := by decide +kernel
theorem dX1_leastRoom_12 : decode cX1_leastRoom 12 = .ok (.lstore 6, 2) := by decide +kernel
theorem dX1_leastRoom_14 : decode cX1_leastRoom 14 = .ok (.iconst 0, 1) := by decide +kernel
theorem dX1_leastRoom_15 : decode cX1_leastRoom 15 = .ok (.istore 8, 2) := by decide +kernel
theorem dX1_leastRoom_17 : decode cX1_leastRoom 17 = .ok (.iload 8, 2) := by decide +kernel
theorem dX1_leastRoom_19 : decode cX1_leastRoom 19 = .ok (.bipush 60, 2) := by decide +kernel
theorem dX1_leastRoom_21 : decode cX1_leastRoom 21 = .ok (.if_icmp .ge 55, 3) := by decide +kernel
theorem dX1_leastRoom_24 : decode cX1_leastRoom 24 = .ok (.lload 4, 2) := by decide +kernel
theorem dX1_leastRoom_26 : decode cX1_leastRoom 26 = .ok (.lload 6, 2) := by decide +kernel
theorem dX1_leastRoom_28 : decode cX1_leastRoom 28 = .ok (.lcmp, 1) := by decide +kernel
theorem dX1_leastRoom_29 : decode cX1_leastRoom 29 = .ok (.ifCond .ge 47, 3) := by decide +kernel
theorem dX1_leastRoom_32 : decode cX1_leastRoom 32 = .ok (.lload 4, 2) := by decide +kernel
theorem dX1_leastRoom_34 : decode cX1_leastRoom 34 = .ok (.lload 6, 2) := by decide +kernel
theorem dX1_leastRoom_36 : decode cX1_leastRoom 36 = .ok (.lload 4, 2) := by decide +kernel
theorem dX1_leastRoom_38 : decode cX1_leastRoom 38 = .ok (.lsub, 1) := by decide +kernel
theorem dX1_leastRoom_39 : decode cX1_leastRoom 39 = .ok (.ldc2_w 58, 3) := by decide +kernel
theorem dX1_leastRoom_42 : decode cX1_leastRoom 42 = .ok (.ldiv, 1) := by decide +kernel
theorem dX1_leastRoom_43 : decode cX1_leastRoom 43 = .ok (.ladd, 1) := by decide +kernel
theorem dX1_leastRoom_44 : decode cX1_leastRoom 44 = .ok (.lstore 9, 2) := by decide +kernel
theorem dX1_leastRoom_46 : decode cX1_leastRoom 46 = .ok (.aload_n 0, 1) := by decide +kernel
theorem dX1_leastRoom_47 : decode cX1_leastRoom 47 = .ok (.lload_n 1, 1) := by decide +kernel
theorem dX1_leastRoom_48 : decode cX1_leastRoom 48 = .ok (.lload 9, 2) := by decide +kernel
theorem dX1_leastRoom_50 : decode cX1_leastRoom 50 = .ok (.invokevirtual 39, 3) := by decide +kernel
theorem dX1_leastRoom_53 : decode cX1_leastRoom 53 = .ok (.iload_n 3, 1) := by decide +kernel
theorem dX1_leastRoom_54 : decode cX1_leastRoom 54 = .ok (.if_icmp .gt 10, 3) := by decide +kernel
theorem dX1_leastRoom_57 : decode cX1_leastRoom 57 = .ok (.lload 9, 2) := by decide +kernel
theorem dX1_leastRoom_59 : decode cX1_leastRoom 59 = .ok (.lstore 6, 2) := by decide +kernel
theorem dX1_leastRoom_61 : decode cX1_leastRoom 61 = .ok (.goto 9, 3) := by decide +kernel
theorem dX1_leastRoom_64 : decode cX1_leastRoom 64 = .ok (.lload 9, 2) := by decide +kernel
theorem dX1_leastRoom_66 : decode cX1_leastRoom 66 = .ok (.lconst 1, 1) := by decide +kernel
theorem dX1_leastRoom_67 : decode cX1_leastRoom 67 = .ok (.ladd, 1) := by decide +kernel
theorem dX1_leastRoom_68 : decode cX1_leastRoom 68 = .ok (.lstore 4, 2) := by decide +kernel
theorem dX1_leastRoom_70 : decode cX1_leastRoom 70 = .ok (.iinc 8 1, 3) := by decide +kernel
theorem dX1_leastRoom_73 : decode cX1_leastRoom 73 = .ok (.goto (-56), 3) := by decide +kernel
theorem dX1_leastRoom_76 : decode cX1_leastRoom 76 = .ok (.lload 4, 2) := by decide +kernel
theorem dX1_leastRoom_78 : decode cX1_leastRoom 78 = .ok (.lreturn, 1) := by decide +kernel
theorem dX2_init_0 : decode cX2_init 0 = .ok (.aload_n 0, 1) := by decide +kernel
theorem dX2_init_1 : decode cX2_init 1 = .ok (.invokespecial 3, 3) := by decide +kernel
theorem dX2_init_4 : decode cX2_init 4 = .ok (.aload_n 0, 1) := by decide +kernel
theorem dX2_init_5 : decode cX2_init 5 = .ok (.bipush 20, 2) := by decide +kernel
theorem dX2_init_7 : decode cX2_init 7 = .ok (.newarray .int, 2) := by decide +kernel
theorem dX2_init_9 : decode cX2_init 9 = .ok (.putfield 9, 3) := by decide +kernel
theorem dX2_init_12 : decode cX2_init 12 = .ok (.aload_n 0, 1) := by decide +kernel
theorem dX2_init_13 : decode cX2_init 13 = .ok (.bipush 20, 2) := by decide +kernel
theorem dX2_init_15 : decode cX2_init 15 = .ok (.newarray .int, 2) := by decide +kernel
theorem dX2_init_17 : decode cX2_init 17 = .ok (.putfield 15, 3) := by decide +kernel
theorem dX2_init_20 : decode cX2_init 20 = .ok (.aload_n 0, 1) := by decide +kernel
theorem dX2_init_21 : decode cX2_init 21 = .ok (.bipush 20, 2) := by decide +kernel
theorem dX2_init_23 : decode cX2_init 23 = .ok (.newarray .long, 2) := by decide +kernel
theorem dX2_init_25 : decode cX2_init 25 = .ok (.putfield 18, 3) := by decide +kernel
theorem dX2_init_28 : decode cX2_init 28 = .ok (.aload_n 0, 1) := by decide +kernel
theorem dX2_init_29 : decode cX2_init 29 = .ok (.iconst 0, 1) := by decide +kernel
theorem dX2_init_30 : decode cX2_init 30 = .ok (.putfield 22, 3) := by decide +kernel
theorem dX2_init_33 : decode cX2_init 33 = .ok (.return_, 1) := by decide +kernel
theorem dX2_size_0 : decode cX2_size 0 = .ok (.aload_n 0, 1) := by decide +kernel
theorem dX2_size_1 : decode cX2_size 1 = .ok (.getfield 22, 3) := by decide +kernel
theorem dX2_size_4 : decode cX2_size 4 = .ok (.ireturn, 1) := by decide +kernel
theorem dX2_add_0 : decode cX2_add 0 = .ok (.aload_n 0, 1) := by decide +kernel
theorem dX2_add_1 : decode cX2_add 1 = .ok (.getfield 22, 3) := by decide +kernel
theorem dX2_add_4 : decode cX2_add 4 = .ok (.bipush 20, 2) := by decide +kernel
theorem dX2_add_6 : decode cX2_add 6 = .ok (.if_icmp .lt 5, 3) := by decide +kernel
theorem dX2_add_9 : decode cX2_add 9 = .ok (.iconst (-1), 1) := by decide +kernel
theorem dX2_add_10 : decode cX2_add 10 = .ok (.ireturn, 1) := by decide +kernel
theorem dX2_add_11 : decode cX2_add 11 = .ok (.lconst 0, 1) := by decide +kernel
theorem dX2_add_12 : decode cX2_add 12 = .ok (.lstore_n 3, 1) := by decide +kernel
theorem dX2_add_13 : decode cX2_add 13 = .ok (.aload_n 0, 1) := by decide +kernel
theorem dX2_add_14 : decode cX2_add 14 = .ok (.getfield 22, 3) := by decide +kernel
theorem dX2_add_17 : decode cX2_add 17 = .ok (.ifCond .le 67, 3) := by decide +kernel
theorem dX2_add_20 : decode cX2_add 20 = .ok (.aload_n 0, 1) := by decide +kernel
theorem dX2_add_21 : decode cX2_add 21 = .ok (.getfield 22, 3) := by decide +kernel
theorem dX2_add_24 : decode cX2_add 24 = .ok (.iconst 1, 1) := by decide +kernel
theorem dX2_add_25 : decode cX2_add 25 = .ok (.isub, 1) := by decide +kernel
theorem dX2_add_26 : decode cX2_add 26 = .ok (.istore 5, 2) := by decide +kernel
theorem dX2_add_28 : decode cX2_add 28 = .ok (.iload_n 1, 1) := by decide +kernel
theorem dX2_add_29 : decode cX2_add 29 = .ok (.aload_n 0, 1) := by decide +kernel
theorem dX2_add_30 : decode cX2_add 30 = .ok (.getfield 9, 3) := by decide +kernel
theorem dX2_add_33 : decode cX2_add 33 = .ok (.iload 5, 2) := by decide +kernel
theorem dX2_add_35 : decode cX2_add 35 = .ok (.iaload, 1) := by decide +kernel
theorem dX2_add_36 : decode cX2_add 36 = .ok (.if_icmp .le 14, 3) := by decide +kernel
theorem dX2_add_39 : decode cX2_add 39 = .ok (.iload_n 2, 1) := by decide +kernel
theorem dX2_add_40 : decode cX2_add 40 = .ok (.aload_n 0, 1) := by decide +kernel
theorem dX2_add_41 : decode cX2_add 41 = .ok (.getfield 15, 3) := by decide +kernel
theorem dX2_add_44 : decode cX2_add 44 = .ok (.iload 5, 2) := by decide +kernel
theorem dX2_add_46 : decode cX2_add 46 = .ok (.iaload, 1) := by decide +kernel
theorem dX2_add_47 : decode cX2_add 47 = .ok (.if_icmp .ge 5, 3) := by decide +kernel
theorem dX2_add_50 : decode cX2_add 50 = .ok (.iconst (-1), 1) := by decide +kernel
theorem dX2_add_51 : decode cX2_add 51 = .ok (.ireturn, 1) := by decide +kernel
theorem dX2_add_52 : decode cX2_add 52 = .ok (.aload_n 0, 1) := by decide +kernel
theorem dX2_add_53 : decode cX2_add 53 = .ok (.getfield 18, 3) := by decide +kernel
theorem dX2_add_56 : decode cX2_add 56 = .ok (.iload 5, 2) := by decide +kernel
theorem dX2_add_58 : decode cX2_add 58 = .ok (.laload, 1) := by decide +kernel
theorem dX2_add_59 : decode cX2_add 59 = .ok (.aload_n 0, 1) := by decide +kernel
theorem dX2_add_60 : decode cX2_add 60 = .ok (.getfield 15, 3) := by decide +kernel
theorem dX2_add_63 : decode cX2_add 63 = .ok (.iload 5, 2) := by decide +kernel
theorem dX2_add_65 : decode cX2_add 65 = .ok (.iaload, 1) := by decide +kernel
theorem dX2_add_66 : decode cX2_add 66 = .ok (.i2l, 1) := by decide +kernel
theorem dX2_add_67 : decode cX2_add 67 = .ok (.iload_n 2, 1) := by decide +kernel
theorem dX2_add_68 : decode cX2_add 68 = .ok (.i2l, 1) := by decide +kernel
theorem dX2_add_69 : decode cX2_add 69 = .ok (.iload_n 1, 1) := by decide +kernel
theorem dX2_add_70 : decode cX2_add 70 = .ok (.aload_n 0, 1) := by decide +kernel
theorem dX2_add_71 : decode cX2_add 71 = .ok (.getfield 9, 3) := by decide +kernel
theorem dX2_add_74 : decode cX2_add 74 = .ok (.iload 5, 2) := by decide +kernel
theorem dX2_add_76 : decode cX2_add 76 = .ok (.iaload, 1) := by decide +kernel
theorem dX2_add_77 : decode cX2_add 77 = .ok (.isub, 1) := by decide +kernel
theorem dX2_add_78 : decode cX2_add 78 = .ok (.i2l, 1) := by decide +kernel
theorem dX2_add_79 : decode cX2_add 79 = .ok (.invokestatic 26, 3) := by decide +kernel
theorem dX2_add_82 : decode cX2_add 82 = .ok (.ladd, 1) := by decide +kernel
theorem dX2_add_83 : decode cX2_add 83 = .ok (.lstore_n 3, 1) := by decide +kernel
theorem dX2_add_84 : decode cX2_add 84 = .ok (.aload_n 0, 1) := by decide +kernel
theorem dX2_add_85 : decode cX2_add 85 = .ok (.getfield 9, 3) := by decide +kernel
theorem dX2_add_88 : decode cX2_add 88 = .ok (.aload_n 0, 1) := by decide +kernel
theorem dX2_add_89 : decode cX2_add 89 = .ok (.getfield 22, 3) := by decide +kernel
theorem dX2_add_92 : decode cX2_add 92 = .ok (.iload_n 1, 1) := by decide +kernel
theorem dX2_add_93 : decode cX2_add 93 = .ok (.iastore, 1) := by decide +kernel
theorem dX2_add_94 : decode cX2_add 94 = .ok (.aload_n 0, 1) := by decide +kernel
theorem dX2_add_95 : decode cX2_add 95 = .ok (.getfield 15, 3) := by decide +kernel
theorem dX2_add_98 : decode cX2_add 98 = .ok (.aload_n 0, 1) := by decide +kernel
theorem dX2_add_99 : decode cX2_add 99 = .ok (.getfield 22, 3) := by decide +kernel
theorem dX2_add_102 : decode cX2_add 102 = .ok (.iload_n 2, 1) := by decide +kernel
theorem dX2_add_103 : decode cX2_add 103 = .ok (.iastore, 1) := by decide +kernel
theorem dX2_add_104 : decode cX2_add 104 = .ok (.aload_n 0, 1) := by decide +kernel
theorem dX2_add_105 : decode cX2_add 105 = .ok (.getfield 18, 3) := by decide +kernel
theorem dX2_add_108 : decode cX2_add 108 = .ok (.aload_n 0, 1) := by decide +kernel
theorem dX2_add_109 : decode cX2_add 109 = .ok (.getfield 22, 3) := by decide +kernel
theorem dX2_add_112 : decode cX2_add 112 = .ok (.lload_n 3, 1) := by decide +kernel
theorem dX2_add_113 : decode cX2_add 113 = .ok (.lastore, 1) := by decide +kernel
theorem dX2_add_114 : decode cX2_add 114 = .ok (.aload_n 0, 1) := by decide +kernel
theorem dX2_add_115 : decode cX2_add 115 = .ok (.dup, 1) := by decide +kernel
theorem dX2_add_116 : decode cX2_add 116 = .ok (.getfield 22, 3) := by decide +kernel
theorem dX2_add_119 : decode cX2_add 119 = .ok (.iconst 1, 1) := by decide +kernel
theorem dX2_add_120 : decode cX2_add 120 = .ok (.iadd, 1) := by decide +kernel
theorem dX2_add_121 : decode cX2_add 121 = .ok (.putfield 22, 3) := by decide +kernel
theorem dX2_add_124 : decode cX2_add 124 = .ok (.aload_n 0, 1) := by decide +kernel
theorem dX2_add_125 : decode cX2_add 125 = .ok (.getfield 22, 3) := by decide +kernel
theorem dX2_add_128 : decode cX2_add 128 = .ok (.ireturn, 1) := by decide +kernel
theorem dX2_between_0 : decode cX2_between 0 = .ok (.lload_n 0, 1) := by decide +kernel
theorem dX2_between_1 : decode cX2_between 1 = .ok (.lload_n 2, 1) := by decide +kernel
theorem dX2_between_2 : decode cX2_between 2 = .ok (.ladd, 1) := by decide +kernel
theorem dX2_between_3 : decode cX2_between 3 = .ok (.lload 4, 2) := by decide +kernel
theorem dX2_between_5 : decode cX2_between 5 = .ok (.lmul, 1) := by decide +kernel
theorem dX2_between_6 : decode cX2_between 6 = .ok (.ldc2_w 30, 3) := by decide +kernel
theorem dX2_between_9 : decode cX2_between 9 = .ok (.lmul, 1) := by decide +kernel
theorem dX2_between_10 : decode cX2_between 10 = .ok (.lreturn, 1) := by decide +kernel
theorem dX2_reaches_0 : decode cX2_reaches 0 = .ok (.aload_n 0, 1) := by decide +kernel
theorem dX2_reaches_1 : decode cX2_reaches 1 = .ok (.getfield 22, 3) := by decide +kernel
theorem dX2_reaches_4 : decode cX2_reaches 4 = .ok (.ifCond .le 32, 3) := by decide +kernel
theorem dX2_reaches_7 : decode cX2_reaches 7 = .ok (.aload_n 0, 1) := by decide +kernel
theorem dX2_reaches_8 : decode cX2_reaches 8 = .ok (.getfield 9, 3) := by decide +kernel
theorem dX2_reaches_11 : decode cX2_reaches 11 = .ok (.iconst 0, 1) := by decide +kernel
theorem dX2_reaches_12 : decode cX2_reaches 12 = .ok (.iaload, 1) := by decide +kernel
theorem dX2_reaches_13 : decode cX2_reaches 13 = .ok (.iload_n 1, 1) := by decide +kernel
theorem dX2_reaches_14 : decode cX2_reaches 14 = .ok (.if_icmp .gt 22, 3) := by decide +kernel
theorem dX2_reaches_17 : decode cX2_reaches 17 = .ok (.iload_n 1, 1) := by decide +kernel
theorem dX2_reaches_18 : decode cX2_reaches 18 = .ok (.aload_n 0, 1) := by decide +kernel
theorem dX2_reaches_19 : decode cX2_reaches 19 = .ok (.getfield 9, 3) := by decide +kernel
theorem dX2_reaches_22 : decode cX2_reaches 22 = .ok (.aload_n 0, 1) := by decide +kernel
theorem dX2_reaches_23 : decode cX2_reaches 23 = .ok (.getfield 22, 3) := by decide +kernel
theorem dX2_reaches_26 : decode cX2_reaches 26 = .ok (.iconst 1, 1) := by decide +kernel
theorem dX2_reaches_27 : decode cX2_reaches 27 = .ok (.isub, 1) := by decide +kernel
theorem dX2_reaches_28 : decode cX2_reaches 28 = .ok (.iaload, 1) := by decide +kernel
theorem dX2_reaches_29 : decode cX2_reaches 29 = .ok (.if_icmp .gt 7, 3) := by decide +kernel
theorem dX2_reaches_32 : decode cX2_reaches 32 = .ok (.iconst 1, 1) := by decide +kernel
theorem dX2_reaches_33 : decode cX2_reaches 33 = .ok (.goto 4, 3) := by decide +kernel
theorem dX2_reaches_36 : decode cX2_reaches 36 = .ok (.iconst 0, 1) := by decide +kernel
theorem dX2_reaches_37 : decode cX2_reaches 37 = .ok (.ireturn, 1) := by decide +kernel
theorem dX2_areaAt_0 : decode cX2_areaAt 0 = .ok (.aload_n 0, 1) := by decide +kernel
theorem dX2_areaAt_1 : decode cX2_areaAt 1 = .ok (.iload_n 1, 1) := by decide +kernel
theorem dX2_areaAt_2 : decode cX2_areaAt 2 = .ok (.invokevirtual 32, 3) := by decide +kernel
theorem dX2_areaAt_5 : decode cX2_areaAt 5 = .ok (.istore_n 2, 1) := by decide +kernel
theorem dX2_areaAt_6 : decode cX2_areaAt 6 = .ok (.iload_n 2, 1) := by decide +kernel
theorem dX2_areaAt_7 : decode cX2_areaAt 7 = .ok (.iconst 1, 1) := by decide +kernel
theorem dX2_areaAt_8 : decode cX2_areaAt 8 = .ok (.iadd, 1) := by decide +kernel
theorem dX2_areaAt_9 : decode cX2_areaAt 9 = .ok (.istore_n 3, 1) := by decide +kernel
theorem dX2_areaAt_10 : decode cX2_areaAt 10 = .ok (.iload_n 3, 1) := by decide +kernel
theorem dX2_areaAt_11 : decode cX2_areaAt 11 = .ok (.aload_n 0, 1) := by decide +kernel
theorem dX2_areaAt_12 : decode cX2_areaAt 12 = .ok (.getfield 22, 3) := by decide +kernel
theorem dX2_areaAt_15 : decode cX2_areaAt 15 = .ok (.if_icmp .lt 10, 3) := by decide +kernel
theorem dX2_areaAt_18 : decode cX2_areaAt 18 = .ok (.aload_n 0, 1) := by decide +kernel
theorem dX2_areaAt_19 : decode cX2_areaAt 19 = .ok (.getfield 15, 3) := by decide +kernel
theorem dX2_areaAt_22 : decode cX2_areaAt 22 = .ok (.iload_n 2, 1) := by decide +kernel
theorem dX2_areaAt_23 : decode cX2_areaAt 23 = .ok (.iaload, 1) := by decide +kernel
theorem dX2_areaAt_24 : decode cX2_areaAt 24 = .ok (.ireturn, 1) := by decide +kernel
theorem dX2_areaAt_25 : decode cX2_areaAt 25 = .ok (.aload_n 0, 1) := by decide +kernel
theorem dX2_areaAt_26 : decode cX2_areaAt 26 = .ok (.getfield 9, 3) := by decide +kernel
theorem dX2_areaAt_29 : decode cX2_areaAt 29 = .ok (.iload_n 3, 1) := by decide +kernel
theorem dX2_areaAt_30 : decode cX2_areaAt 30 = .ok (.iaload, 1) := by decide +kernel
theorem dX2_areaAt_31 : decode cX2_areaAt 31 = .ok (.i2l, 1) := by decide +kernel
theorem dX2_areaAt_32 : decode cX2_areaAt 32 = .ok (.aload_n 0, 1) := by decide +kernel
theorem dX2_areaAt_33 : decode cX2_areaAt 33 = .ok (.getfield 9, 3) := by decide +kernel
theorem dX2_areaAt_36 : decode cX2_areaAt 36 = .ok (.iload_n 2, 1) := by decide +kernel
theorem dX2_areaAt_37 : decode cX2_areaAt 37 = .ok (.iaload, 1) := by decide +kernel
theorem dX2_areaAt_38 : decode cX2_areaAt 38 = .ok (.i2l, 1) := by decide +kernel
theorem dX2_areaAt_39 : decode cX2_areaAt 39 = .ok (.lsub, 1) := by decide +kernel
theorem dX2_areaAt_40 : decode cX2_areaAt 40 = .ok (.lstore 4, 2) := by decide +kernel
theorem dX2_areaAt_42 : decode cX2_areaAt 42 = .ok (.lload 4, 2) := by decide +kernel
theorem dX2_areaAt_44 : decode cX2_areaAt 44 = .ok (.lconst 0, 1) := by decide +kernel
theorem dX2_areaAt_45 : decode cX2_areaAt 45 = .ok (.lcmp, 1) := by decide +kernel
theorem dX2_areaAt_46 : decode cX2_areaAt 46 = .ok (.ifCond .gt 10, 3) := by decide +kernel
theorem dX2_areaAt_49 : decode cX2_areaAt 49 = .ok (.aload_n 0, 1) := by decide +kernel
theorem dX2_areaAt_50 : decode cX2_areaAt 50 = .ok (.getfield 15, 3) := by decide +kernel
theorem dX2_areaAt_53 : decode cX2_areaAt 53 = .ok (.iload_n 2, 1) := by decide +kernel
theorem dX2_areaAt_54 : decode cX2_areaAt 54 = .ok (.iaload, 1) := by decide +kernel
theorem dX2_areaAt_55 : decode cX2_areaAt 55 = .ok (.ireturn, 1) := by decide +kernel
theorem dX2_areaAt_56 : decode cX2_areaAt 56 = .ok (.aload_n 0, 1) := by decide +kernel
theorem dX2_areaAt_57 : decode cX2_areaAt 57 = .ok (.getfield 15, 3) := by decide +kernel
theorem dX2_areaAt_60 : decode cX2_areaAt 60 = .ok (.iload_n 3, 1) := by decide +kernel
theorem dX2_areaAt_61 : decode cX2_areaAt 61 = .ok (.iaload, 1) := by decide +kernel
theorem dX2_areaAt_62 : decode cX2_areaAt 62 = .ok (.i2l, 1) := by decide +kernel
theorem dX2_areaAt_63 : decode cX2_areaAt 63 = .ok (.aload_n 0, 1) := by decide +kernel
theorem dX2_areaAt_64 : decode cX2_areaAt 64 = .ok (.getfield 15, 3) := by decide +kernel
theorem dX2_areaAt_67 : decode cX2_areaAt 67 = .ok (.iload_n 2, 1) := by decide +kernel
theorem dX2_areaAt_68 : decode cX2_areaAt 68 = .ok (.iaload, 1) := by decide +kernel
theorem dX2_areaAt_69 : decode cX2_areaAt 69 = .ok (.i2l, 1) := by decide +kernel
theorem dX2_areaAt_70 : decode cX2_areaAt 70 = .ok (.lsub, 1) := by decide +kernel
theorem dX2_areaAt_71 : decode cX2_areaAt 71 = .ok (.lstore 6, 2) := by decide +kernel
theorem dX2_areaAt_73 : decode cX2_areaAt 73 = .ok (.aload_n 0, 1) := by decide +kernel
theorem dX2_areaAt_74 : decode cX2_areaAt 74 = .ok (.getfield 15, 3) := by decide +kernel
theorem dX2_areaAt_77 : decode cX2_areaAt 77 = .ok (.iload_n 2, 1) := by decide +kernel
theorem dX2_areaAt_78 : decode cX2_areaAt 78 = .ok (.iaload, 1) := by decide +kernel
theorem dX2_areaAt_79 : decode cX2_areaAt 79 = .ok (.lload 6, 2) := by decide +kernel
theorem dX2_areaAt_81 : decode cX2_areaAt 81 = .ok (.iload_n 1, 1) := by decide +kernel
theorem dX2_areaAt_82 : decode cX2_areaAt 82 = .ok (.aload_n 0, 1) := by decide +kernel
theorem dX2_areaAt_83 : decode cX2_areaAt 83 = .ok (.getfield 9, 3) := by decide +kernel
theorem dX2_areaAt_86 : decode cX2_areaAt 86 = .ok (.iload_n 2, 1) := by decide +kernel
theorem dX2_areaAt_87 : decode cX2_areaAt 87 = .ok (.iaload, 1) := by decide +kernel
theorem dX2_areaAt_88 : decode cX2_areaAt 88 = .ok (.isub, 1) := by decide +kernel
theorem dX2_areaAt_89 : decode cX2_areaAt 89 = .ok (.i2l, 1) := by decide +kernel
theorem dX2_areaAt_90 : decode cX2_areaAt 90 = .ok (.lmul, 1) := by decide +kernel
theorem dX2_areaAt_91 : decode cX2_areaAt 91 = .ok (.lload 4, 2) := by decide +kernel
theorem dX2_areaAt_93 : decode cX2_areaAt 93 = .ok (.ldiv, 1) := by decide +kernel
theorem dX2_areaAt_94 : decode cX2_areaAt 94 = .ok (.l2i, 1) := by decide +kernel
theorem dX2_areaAt_95 : decode cX2_areaAt 95 = .ok (.iadd, 1) := by decide +kernel
theorem dX2_areaAt_96 : decode cX2_areaAt 96 = .ok (.ireturn, 1) := by decide +kernel
theorem dX2_contentAt_0 : decode cX2_contentAt 0 = .ok (.aload_n 0, 1) := by decide +kernel
theorem dX2_contentAt_1 : decode cX2_contentAt 1 = .ok (.iload_n 1, 1) := by decide +kernel
theorem dX2_contentAt_2 : decode cX2_contentAt 2 = .ok (.invokevirtual 32, 3) := by decide +kernel
theorem dX2_contentAt_5 : decode cX2_contentAt 5 = .ok (.istore_n 2, 1) := by decide +kernel
theorem dX2_contentAt_6 : decode cX2_contentAt 6 = .ok (.aload_n 0, 1) := by decide +kernel
theorem dX2_contentAt_7 : decode cX2_contentAt 7 = .ok (.getfield 18, 3) := by decide +kernel
theorem dX2_contentAt_10 : decode cX2_contentAt 10 = .ok (.iload_n 2, 1) := by decide +kernel
theorem dX2_contentAt_11 : decode cX2_contentAt 11 = .ok (.laload, 1) := by decide +kernel
theorem dX2_contentAt_12 : decode cX2_contentAt 12 = .ok (.aload_n 0, 1) := by decide +kernel
theorem dX2_contentAt_13 : decode cX2_contentAt 13 = .ok (.getfield 15, 3) := by decide +kernel
theorem dX2_contentAt_16 : decode cX2_contentAt 16 = .ok (.iload_n 2, 1) := by decide +kernel
theorem dX2_contentAt_17 : decode cX2_contentAt 17 = .ok (.iaload, 1) := by decide +kernel
theorem dX2_contentAt_18 : decode cX2_contentAt 18 = .ok (.i2l, 1) := by decide +kernel
theorem dX2_contentAt_19 : decode cX2_contentAt 19 = .ok (.aload_n 0, 1) := by decide +kernel
theorem dX2_contentAt_20 : decode cX2_contentAt 20 = .ok (.iload_n 1, 1) := by decide +kernel
theorem dX2_contentAt_21 : decode cX2_contentAt 21 = .ok (.invokevirtual 36, 3) := by decide +kernel
theorem dX2_contentAt_24 : decode cX2_contentAt 24 = .ok (.i2l, 1) := by decide +kernel
theorem dX2_contentAt_25 : decode cX2_contentAt 25 = .ok (.iload_n 1, 1) := by decide +kernel
theorem dX2_contentAt_26 : decode cX2_contentAt 26 = .ok (.aload_n 0, 1) := by decide +kernel
theorem dX2_contentAt_27 : decode cX2_contentAt 27 = .ok (.getfield 9, 3) := by decide +kernel
theorem dX2_contentAt_30 : decode cX2_contentAt 30 = .ok (.iload_n 2, 1) := by decide +kernel
theorem dX2_contentAt_31 : decode cX2_contentAt 31 = .ok (.iaload, 1) := by decide +kernel
theorem dX2_contentAt_32 : decode cX2_contentAt 32 = .ok (.isub, 1) := by decide +kernel
theorem dX2_contentAt_33 : decode cX2_contentAt 33 = .ok (.i2l, 1) := by decide +kernel
theorem dX2_contentAt_34 : decode cX2_contentAt 34 = .ok (.invokestatic 26, 3) := by decide +kernel
theorem dX2_contentAt_37 : decode cX2_contentAt 37 = .ok (.ladd, 1) := by decide +kernel
theorem dX2_contentAt_38 : decode cX2_contentAt 38 = .ok (.lreturn, 1) := by decide +kernel
theorem dX2_lastUpTo_0 : decode cX2_lastUpTo 0 = .ok (.iconst 0, 1) := by decide +kernel
theorem dX2_lastUpTo_1 : decode cX2_lastUpTo 1 = .ok (.istore_n 2, 1) := by decide +kernel
theorem dX2_lastUpTo_2 : decode cX2_lastUpTo 2 = .ok (.iconst 1, 1) := by decide +kernel
theorem dX2_lastUpTo_3 : decode cX2_lastUpTo 3 = .ok (.istore_n 3, 1) := by decide +kernel
theorem dX2_lastUpTo_4 : decode cX2_lastUpTo 4 = .ok (.iload_n 3, 1) := by decide +kernel
theorem dX2_lastUpTo_5 : decode cX2_lastUpTo 5 = .ok (.aload_n 0, 1) := by decide +kernel
theorem dX2_lastUpTo_6 : decode cX2_lastUpTo 6 = .ok (.getfield 22, 3) := by decide +kernel
theorem dX2_lastUpTo_9 : decode cX2_lastUpTo 9 = .ok (.if_icmp .ge 21, 3) := by decide +kernel
theorem dX2_lastUpTo_12 : decode cX2_lastUpTo 12 = .ok (.aload_n 0, 1) := by decide +kernel
theorem dX2_lastUpTo_13 : decode cX2_lastUpTo 13 = .ok (.getfield 9, 3) := by decide +kernel
theorem dX2_lastUpTo_16 : decode cX2_lastUpTo 16 = .ok (.iload_n 3, 1) := by decide +kernel
theorem dX2_lastUpTo_17 : decode cX2_lastUpTo 17 = .ok (.iaload, 1) := by decide +kernel
theorem dX2_lastUpTo_18 : decode cX2_lastUpTo 18 = .ok (.iload_n 1, 1) := by decide +kernel
theorem dX2_lastUpTo_19 : decode cX2_lastUpTo 19 = .ok (.if_icmp .gt 5, 3) := by decide +kernel
theorem dX2_lastUpTo_22 : decode cX2_lastUpTo 22 = .ok (.iload_n 3, 1) := by decide +kernel
theorem dX2_lastUpTo_23 : decode cX2_lastUpTo 23 = .ok (.istore_n 2, 1) := by decide +kernel
theorem dX2_lastUpTo_24 : decode cX2_lastUpTo 24 = .ok (.iinc 3 1, 3) := by decide +kernel
theorem dX2_lastUpTo_27 : decode cX2_lastUpTo 27 = .ok (.goto (-23), 3) := by decide +kernel
theorem dX2_lastUpTo_30 : decode cX2_lastUpTo 30 = .ok (.iload_n 2, 1) := by decide +kernel
theorem dX2_lastUpTo_31 : decode cX2_lastUpTo 31 = .ok (.ireturn, 1) := by decide +kernel
theorem dX2_levelOf_0 : decode cX2_levelOf 0 = .ok (.aload_n 0, 1) := by decide +kernel
theorem dX2_levelOf_1 : decode cX2_levelOf 1 = .ok (.getfield 22, 3) := by decide +kernel
theorem dX2_levelOf_4 : decode cX2_levelOf 4 = .ok (.ifCond .eq 22, 3) := by decide +kernel
theorem dX2_levelOf_7 : decode cX2_levelOf 7 = .ok (.lload_n 1, 1) := by decide +kernel
theorem dX2_levelOf_8 : decode cX2_levelOf 8 = .ok (.lconst 0, 1) := by decide +kernel
theorem dX2_levelOf_9 : decode cX2_levelOf 9 = .ok (.aload_n 0, 1) := by decide +kernel
theorem dX2_levelOf_10 : decode cX2_levelOf 10 = .ok (.getfield 18, 3) := by decide +kernel
theorem dX2_levelOf_13 : decode cX2_levelOf 13 = .ok (.aload_n 0, 1) := by decide +kernel
theorem dX2_levelOf_14 : decode cX2_levelOf 14 = .ok (.getfield 22, 3) := by decide +kernel
theorem dX2_levelOf_17 : decode cX2_levelOf 17 = .ok (.iconst 1, 1) := by decide +kernel
theorem dX2_levelOf_18 : decode cX2_levelOf 18 = .ok (.isub, 1) := by decide +kernel
theorem dX2_levelOf_19 : decode cX2_levelOf 19 = .ok (.laload, 1) := by decide +kernel
theorem dX2_levelOf_20 : decode cX2_levelOf 20 = .ok (.invokestatic 39, 3) := by decide +kernel
theorem dX2_levelOf_23 : decode cX2_levelOf 23 = .ok (.ifCond .ne 6, 3) := by decide +kernel
theorem dX2_levelOf_26 : decode cX2_levelOf 26 = .ok (.ldc 43, 2) := by decide +kernel
theorem dX2_levelOf_28 : decode cX2_levelOf 28 = .ok (.ireturn, 1) := by decide +kernel
theorem dX2_levelOf_29 : decode cX2_levelOf 29 = .ok (.aload_n 0, 1) := by decide +kernel
theorem dX2_levelOf_30 : decode cX2_levelOf 30 = .ok (.getfield 9, 3) := by decide +kernel
theorem dX2_levelOf_33 : decode cX2_levelOf 33 = .ok (.iconst 0, 1) := by decide +kernel
theorem dX2_levelOf_34 : decode cX2_levelOf 34 = .ok (.iaload, 1) := by decide +kernel
theorem dX2_levelOf_35 : decode cX2_levelOf 35 = .ok (.istore_n 3, 1) := by decide +kernel
theorem dX2_levelOf_36 : decode cX2_levelOf 36 = .ok (.aload_n 0, 1) := by decide +kernel
theorem dX2_levelOf_37 : decode cX2_levelOf 37 = .ok (.getfield 9, 3) := by decide +kernel
theorem dX2_levelOf_40 : decode cX2_levelOf 40 = .ok (.aload_n 0, 1) := by decide +kernel
theorem dX2_levelOf_41 : decode cX2_levelOf 41 = .ok (.getfield 22, 3) := by decide +kernel
theorem dX2_levelOf_44 : decode cX2_levelOf 44 = .ok (.iconst 1, 1) := by decide +kernel
theorem dX2_levelOf_45 : decode cX2_levelOf 45 = .ok (.isub, 1) := by decide +kernel
theorem dX2_levelOf_46 : decode cX2_levelOf 46 = .ok (.iaload, 1) := by decide +kernel
theorem dX2_levelOf_47 : decode cX2_levelOf 47 = .ok (.istore 4, 2) := by decide +kernel
theorem dX2_levelOf_49 : decode cX2_levelOf 49 = .ok (.iconst 0, 1) := by decide +kernel
theorem dX2_levelOf_50 : decode cX2_levelOf 50 = .ok (.istore 5, 2) := by decide +kernel
theorem dX2_levelOf_52 : decode cX2_levelOf 52 = .ok (.iload 5, 2) := by decide +kernel
theorem dX2_levelOf_54 : decode cX2_levelOf 54 = .ok (.bipush 20, 2) := by decide +kernel
theorem dX2_levelOf_56 : decode cX2_levelOf 56 = .ok (.if_icmp .ge 50, 3) := by decide +kernel
theorem dX2_levelOf_59 : decode cX2_levelOf 59 = .ok (.iload_n 3, 1) := by decide +kernel
theorem dX2_levelOf_60 : decode cX2_levelOf 60 = .ok (.iload 4, 2) := by decide +kernel
theorem dX2_levelOf_62 : decode cX2_levelOf 62 = .ok (.if_icmp .ge 44, 3) := by decide +kernel
theorem dX2_levelOf_65 : decode cX2_levelOf 65 = .ok (.iload_n 3, 1) := by decide +kernel
theorem dX2_levelOf_66 : decode cX2_levelOf 66 = .ok (.iload 4, 2) := by decide +kernel
theorem dX2_levelOf_68 : decode cX2_levelOf 68 = .ok (.iload_n 3, 1) := by decide +kernel
theorem dX2_levelOf_69 : decode cX2_levelOf 69 = .ok (.isub, 1) := by decide +kernel
theorem dX2_levelOf_70 : decode cX2_levelOf 70 = .ok (.iconst 1, 1) := by decide +kernel
theorem dX2_levelOf_71 : decode cX2_levelOf 71 = .ok (.iadd, 1) := by decide +kernel
theorem dX2_levelOf_72 : decode cX2_levelOf 72 = .ok (.iconst 2, 1) := by decide +kernel
theorem dX2_levelOf_73 : decode cX2_levelOf 73 = .ok (.idiv, 1) := by decide +kernel
theorem dX2_levelOf_74 : decode cX2_levelOf 74 = .ok (.iadd, 1) := by decide +kernel
theorem dX2_levelOf_75 : decode cX2_levelOf 75 = .ok (.istore 6, 2) := by decide +kernel
theorem dX2_levelOf_77 : decode cX2_levelOf 77 = .ok (.aload_n 0, 1) := by decide +kernel
theorem dX2_levelOf_78 : decode cX2_levelOf 78 = .ok (.iload 6, 2) := by decide +kernel
theorem dX2_levelOf_80 : decode cX2_levelOf 80 = .ok (.invokevirtual 44, 3) := by decide +kernel
theorem dX2_levelOf_83 : decode cX2_levelOf 83 = .ok (.lload_n 1, 1) := by decide +kernel
theorem dX2_levelOf_84 : decode cX2_levelOf 84 = .ok (.lcmp, 1) := by decide +kernel
theorem dX2_levelOf_85 : decode cX2_levelOf 85 = .ok (.ifCond .gt 9, 3) := by decide +kernel
theorem dX2_levelOf_88 : decode cX2_levelOf 88 = .ok (.iload 6, 2) := by decide +kernel
theorem dX2_levelOf_90 : decode cX2_levelOf 90 = .ok (.istore_n 3, 1) := by decide +kernel
theorem dX2_levelOf_91 : decode cX2_levelOf 91 = .ok (.goto 9, 3) := by decide +kernel
theorem dX2_levelOf_94 : decode cX2_levelOf 94 = .ok (.iload 6, 2) := by decide +kernel
theorem dX2_levelOf_96 : decode cX2_levelOf 96 = .ok (.iconst 1, 1) := by decide +kernel
theorem dX2_levelOf_97 : decode cX2_levelOf 97 = .ok (.isub, 1) := by decide +kernel
theorem dX2_levelOf_98 : decode cX2_levelOf 98 = .ok (.istore 4, 2) := by decide +kernel
theorem dX2_levelOf_100 : decode cX2_levelOf 100 = .ok (.iinc 5 1, 3) := by decide +kernel
theorem dX2_levelOf_103 : decode cX2_levelOf 103 = .ok (.goto (-51), 3) := by decide +kernel
theorem dX2_levelOf_106 : decode cX2_levelOf 106 = .ok (.iload_n 3, 1) := by decide +kernel
theorem dX2_levelOf_107 : decode cX2_levelOf 107 = .ok (.ireturn, 1) := by decide +kernel
theorem dX3_init_0 : decode cX3_init 0 = .ok (.aload_n 0, 1) := by decide +kernel
theorem dX3_init_1 : decode cX3_init 1 = .ok (.invokespecial 3, 3) := by decide +kernel
theorem dX3_init_4 : decode cX3_init 4 = .ok (.aload_n 0, 1) := by decide +kernel
theorem dX3_init_5 : decode cX3_init 5 = .ok (.bipush 40, 2) := by decide +kernel
theorem dX3_init_7 : decode cX3_init 7 = .ok (.newarray .int, 2) := by decide +kernel
theorem dX3_init_9 : decode cX3_init 9 = .ok (.putfield 9, 3) := by decide +kernel
theorem dX3_init_12 : decode cX3_init 12 = .ok (.aload_n 0, 1) := by decide +kernel
theorem dX3_init_13 : decode cX3_init 13 = .ok (.bipush 40, 2) := by decide +kernel
theorem dX3_init_15 : decode cX3_init 15 = .ok (.newarray .int, 2) := by decide +kernel
theorem dX3_init_17 : decode cX3_init 17 = .ok (.putfield 15, 3) := by decide +kernel
theorem dX3_init_20 : decode cX3_init 20 = .ok (.aload_n 0, 1) := by decide +kernel
theorem dX3_init_21 : decode cX3_init 21 = .ok (.bipush 40, 2) := by decide +kernel
theorem dX3_init_23 : decode cX3_init 23 = .ok (.newarray .int, 2) := by decide +kernel
theorem dX3_init_25 : decode cX3_init 25 = .ok (.putfield 18, 3) := by decide +kernel
theorem dX3_init_28 : decode cX3_init 28 = .ok (.aload_n 0, 1) := by decide +kernel
theorem dX3_init_29 : decode cX3_init 29 = .ok (.iconst 0, 1) := by decide +kernel
theorem dX3_init_30 : decode cX3_init 30 = .ok (.putfield 21, 3) := by decide +kernel
theorem dX3_init_33 : decode cX3_init 33 = .ok (.return_, 1) := by decide +kernel
theorem dX3_size_0 : decode cX3_size 0 = .ok (.aload_n 0, 1) := by decide +kernel
theorem dX3_size_1 : decode cX3_size 1 = .ok (.getfield 21, 3) := by decide +kernel
theorem dX3_size_4 : decode cX3_size 4 = .ok (.ireturn, 1) := by decide +kernel
theorem dX3_minutesOf_0 : decode cX3_minutesOf 0 = .ok (.iload_n 1, 1) := by decide +kernel
theorem dX3_minutesOf_1 : decode cX3_minutesOf 1 = .ok (.i2l, 1) := by decide +kernel
theorem dX3_minutesOf_2 : decode cX3_minutesOf 2 = .ok (.lconst 0, 1) := by decide +kernel
theorem dX3_minutesOf_3 : decode cX3_minutesOf 3 = .ok (.aload_n 0, 1) := by decide +kernel
theorem dX3_minutesOf_4 : decode cX3_minutesOf 4 = .ok (.getfield 21, 3) := by decide +kernel
theorem dX3_minutesOf_7 : decode cX3_minutesOf 7 = .ok (.iconst 1, 1) := by decide +kernel
theorem dX3_minutesOf_8 : decode cX3_minutesOf 8 = .ok (.isub, 1) := by decide +kernel
theorem dX3_minutesOf_9 : decode cX3_minutesOf 9 = .ok (.i2l, 1) := by decide +kernel
theorem dX3_minutesOf_10 : decode cX3_minutesOf 10 = .ok (.invokestatic 25, 3) := by decide +kernel
theorem dX3_minutesOf_13 : decode cX3_minutesOf 13 = .ok (.ifCond .eq 12, 3) := by decide +kernel
theorem dX3_minutesOf_16 : decode cX3_minutesOf 16 = .ok (.aload_n 0, 1) := by decide +kernel
theorem dX3_minutesOf_17 : decode cX3_minutesOf 17 = .ok (.getfield 15, 3) := by decide +kernel
theorem dX3_minutesOf_20 : decode cX3_minutesOf 20 = .ok (.iload_n 1, 1) := by decide +kernel
theorem dX3_minutesOf_21 : decode cX3_minutesOf 21 = .ok (.iaload, 1) := by decide +kernel
theorem dX3_minutesOf_22 : decode cX3_minutesOf 22 = .ok (.goto 4, 3) := by decide +kernel
theorem dX3_minutesOf_25 : decode cX3_minutesOf 25 = .ok (.iconst (-1), 1) := by decide +kernel
theorem dX3_minutesOf_26 : decode cX3_minutesOf 26 = .ok (.ireturn, 1) := by decide +kernel
theorem dX3_add_0 : decode cX3_add 0 = .ok (.aload_n 0, 1) := by decide +kernel
theorem dX3_add_1 : decode cX3_add 1 = .ok (.getfield 21, 3) := by decide +kernel
theorem dX3_add_4 : decode cX3_add 4 = .ok (.bipush 40, 2) := by decide +kernel
theorem dX3_add_6 : decode cX3_add 6 = .ok (.if_icmp .lt 5, 3) := by decide +kernel
theorem dX3_add_9 : decode cX3_add 9 = .ok (.iconst (-1), 1) := by decide +kernel
theorem dX3_add_10 : decode cX3_add 10 = .ok (.ireturn, 1) := by decide +kernel
theorem dX3_add_11 : decode cX3_add 11 = .ok (.iconst 0, 1) := by decide +kernel
theorem dX3_add_12 : decode cX3_add 12 = .ok (.istore 4, 2) := by decide +kernel
theorem dX3_add_14 : decode cX3_add 14 = .ok (.iconst (-1), 1) := by decide +kernel
theorem dX3_add_15 : decode cX3_add 15 = .ok (.istore 5, 2) := by decide +kernel
theorem dX3_add_17 : decode cX3_add 17 = .ok (.iconst 0, 1) := by decide +kernel
theorem dX3_add_18 : decode cX3_add 18 = .ok (.istore 6, 2) := by decide +kernel
theorem dX3_add_20 : decode cX3_add 20 = .ok (.iload 6, 2) := by decide +kernel
theorem dX3_add_22 : decode cX3_add 22 = .ok (.aload_n 0, 1) := by decide +kernel
theorem dX3_add_23 : decode cX3_add 23 = .ok (.getfield 21, 3) := by decide +kernel
theorem dX3_add_26 : decode cX3_add 26 = .ok (.if_icmp .ge 27, 3) := by decide +kernel
theorem dX3_add_29 : decode cX3_add 29 = .ok (.aload_n 0, 1) := by decide +kernel
theorem dX3_add_30 : decode cX3_add 30 = .ok (.getfield 9, 3) := by decide +kernel
theorem dX3_add_33 : decode cX3_add 33 = .ok (.iload 6, 2) := by decide +kernel
theorem dX3_add_35 : decode cX3_add 35 = .ok (.iaload, 1) := by decide +kernel
theorem dX3_add_36 : decode cX3_add 36 = .ok (.iload_n 1, 1) := by decide +kernel
theorem dX3_add_37 : decode cX3_add 37 = .ok (.if_icmp .ne 10, 3) := by decide +kernel
theorem dX3_add_40 : decode cX3_add 40 = .ok (.iinc 4 1, 3) := by decide +kernel
theorem dX3_add_43 : decode cX3_add 43 = .ok (.iload 6, 2) := by decide +kernel
theorem dX3_add_45 : decode cX3_add 45 = .ok (.istore 5, 2) := by decide +kernel
theorem dX3_add_47 : decode cX3_add 47 = .ok (.iinc 6 1, 3) := by decide +kernel
theorem dX3_add_50 : decode cX3_add 50 = .ok (.goto (-30), 3) := by decide +kernel
theorem dX3_add_53 : decode cX3_add 53 = .ok (.iload 5, 2) := by decide +kernel
theorem dX3_add_55 : decode cX3_add 55 = .ok (.iconst (-1), 1) := by decide +kernel
theorem dX3_add_56 : decode cX3_add 56 = .ok (.if_icmp .eq 16, 3) := by decide +kernel
theorem dX3_add_59 : decode cX3_add 59 = .ok (.aload_n 0, 1) := by decide +kernel
theorem dX3_add_60 : decode cX3_add 60 = .ok (.iload 5, 2) := by decide +kernel
theorem dX3_add_62 : decode cX3_add 62 = .ok (.iload_n 2, 1) := by decide +kernel
theorem dX3_add_63 : decode cX3_add 63 = .ok (.iload_n 3, 1) := by decide +kernel
theorem dX3_add_64 : decode cX3_add 64 = .ok (.invokevirtual 29, 3) := by decide +kernel
theorem dX3_add_67 : decode cX3_add 67 = .ok (.ifCond .ne 5, 3) := by decide +kernel
theorem dX3_add_70 : decode cX3_add 70 = .ok (.iconst (-1), 1) := by decide +kernel
theorem dX3_add_71 : decode cX3_add 71 = .ok (.ireturn, 1) := by decide +kernel
theorem dX3_add_72 : decode cX3_add 72 = .ok (.aload_n 0, 1) := by decide +kernel
theorem dX3_add_73 : decode cX3_add 73 = .ok (.getfield 9, 3) := by decide +kernel
theorem dX3_add_76 : decode cX3_add 76 = .ok (.aload_n 0, 1) := by decide +kernel
theorem dX3_add_77 : decode cX3_add 77 = .ok (.getfield 21, 3) := by decide +kernel
theorem dX3_add_80 : decode cX3_add 80 = .ok (.iload_n 1, 1) := by decide +kernel
theorem dX3_add_81 : decode cX3_add 81 = .ok (.iastore, 1) := by decide +kernel
theorem dX3_add_82 : decode cX3_add 82 = .ok (.aload_n 0, 1) := by decide +kernel
theorem dX3_add_83 : decode cX3_add 83 = .ok (.getfield 15, 3) := by decide +kernel
theorem dX3_add_86 : decode cX3_add 86 = .ok (.aload_n 0, 1) := by decide +kernel
theorem dX3_add_87 : decode cX3_add 87 = .ok (.getfield 21, 3) := by decide +kernel
theorem dX3_add_90 : decode cX3_add 90 = .ok (.iload_n 2, 1) := by decide +kernel
theorem dX3_add_91 : decode cX3_add 91 = .ok (.iastore, 1) := by decide +kernel
theorem dX3_add_92 : decode cX3_add 92 = .ok (.aload_n 0, 1) := by decide +kernel
theorem dX3_add_93 : decode cX3_add 93 = .ok (.getfield 18, 3) := by decide +kernel
theorem dX3_add_96 : decode cX3_add 96 = .ok (.aload_n 0, 1) := by decide +kernel
theorem dX3_add_97 : decode cX3_add 97 = .ok (.getfield 21, 3) := by decide +kernel
theorem dX3_add_100 : decode cX3_add 100 = .ok (.iload_n 3, 1) := by decide +kernel
theorem dX3_add_101 : decode cX3_add 101 = .ok (.iastore, 1) := by decide +kernel
theorem dX3_add_102 : decode cX3_add 102 = .ok (.aload_n 0, 1) := by decide +kernel
theorem dX3_add_103 : decode cX3_add 103 = .ok (.dup, 1) := by decide +kernel
theorem dX3_add_104 : decode cX3_add 104 = .ok (.getfield 21, 3) := by decide +kernel
theorem dX3_add_107 : decode cX3_add 107 = .ok (.iconst 1, 1) := by decide +kernel
theorem dX3_add_108 : decode cX3_add 108 = .ok (.iadd, 1) := by decide +kernel
theorem dX3_add_109 : decode cX3_add 109 = .ok (.putfield 21, 3) := by decide +kernel
theorem dX3_add_112 : decode cX3_add 112 = .ok (.iload 4, 2) := by decide +kernel
theorem dX3_add_114 : decode cX3_add 114 = .ok (.iconst 1, 1) := by decide +kernel
theorem dX3_add_115 : decode cX3_add 115 = .ok (.iadd, 1) := by decide +kernel
theorem dX3_add_116 : decode cX3_add 116 = .ok (.ireturn, 1) := by decide +kernel
theorem dX3_mayFollow_0 : decode cX3_mayFollow 0 = .ok (.iload_n 2, 1) := by decide +kernel
theorem dX3_mayFollow_1 : decode cX3_mayFollow 1 = .ok (.aload_n 0, 1) := by decide +kernel
theorem dX3_mayFollow_2 : decode cX3_mayFollow 2 = .ok (.getfield 15, 3) := by decide +kernel
theorem dX3_mayFollow_5 : decode cX3_mayFollow 5 = .ok (.iload_n 1, 1) := by decide +kernel
theorem dX3_mayFollow_6 : decode cX3_mayFollow 6 = .ok (.iaload, 1) := by decide +kernel
theorem dX3_mayFollow_7 : decode cX3_mayFollow 7 = .ok (.if_icmp .le 17, 3) := by decide +kernel
theorem dX3_mayFollow_10 : decode cX3_mayFollow 10 = .ok (.iload_n 3, 1) := by decide +kernel
theorem dX3_mayFollow_11 : decode cX3_mayFollow 11 = .ok (.aload_n 0, 1) := by decide +kernel
theorem dX3_mayFollow_12 : decode cX3_mayFollow 12 = .ok (.getfield 18, 3) := by decide +kernel
theorem dX3_mayFollow_15 : decode cX3_mayFollow 15 = .ok (.iload_n 1, 1) := by decide +kernel
theorem dX3_mayFollow_16 : decode cX3_mayFollow 16 = .ok (.iaload, 1) := by decide +kernel
theorem dX3_mayFollow_17 : decode cX3_mayFollow 17 = .ok (.if_icmp .le 7, 3) := by decide +kernel
theorem dX3_mayFollow_20 : decode cX3_mayFollow 20 = .ok (.iconst 1, 1) := by decide +kernel
theorem dX3_mayFollow_21 : decode cX3_mayFollow 21 = .ok (.goto 4, 3) := by decide +kernel
theorem dX3_mayFollow_24 : decode cX3_mayFollow 24 = .ok (.iconst 0, 1) := by decide +kernel
theorem dX3_mayFollow_25 : decode cX3_mayFollow 25 = .ok (.istore 4, 2) := by decide +kernel
theorem dX3_mayFollow_27 : decode cX3_mayFollow 27 = .ok (.iload_n 3, 1) := by decide +kernel
theorem dX3_mayFollow_28 : decode cX3_mayFollow 28 = .ok (.i2l, 1) := by decide +kernel
theorem dX3_mayFollow_29 : decode cX3_mayFollow 29 = .ok (.aload_n 0, 1) := by decide +kernel
theorem dX3_mayFollow_30 : decode cX3_mayFollow 30 = .ok (.getfield 15, 3) := by decide +kernel
theorem dX3_mayFollow_33 : decode cX3_mayFollow 33 = .ok (.iload_n 1, 1) := by decide +kernel
theorem dX3_mayFollow_34 : decode cX3_mayFollow 34 = .ok (.iaload, 1) := by decide +kernel
theorem dX3_mayFollow_35 : decode cX3_mayFollow 35 = .ok (.i2l, 1) := by decide +kernel
theorem dX3_mayFollow_36 : decode cX3_mayFollow 36 = .ok (.lmul, 1) := by decide +kernel
theorem dX3_mayFollow_37 : decode cX3_mayFollow 37 = .ok (.aload_n 0, 1) := by decide +kernel
theorem dX3_mayFollow_38 : decode cX3_mayFollow 38 = .ok (.getfield 18, 3) := by decide +kernel
theorem dX3_mayFollow_41 : decode cX3_mayFollow 41 = .ok (.iload_n 1, 1) := by decide +kernel
theorem dX3_mayFollow_42 : decode cX3_mayFollow 42 = .ok (.iaload, 1) := by decide +kernel
theorem dX3_mayFollow_43 : decode cX3_mayFollow 43 = .ok (.i2l, 1) := by decide +kernel
theorem dX3_mayFollow_44 : decode cX3_mayFollow 44 = .ok (.iload_n 2, 1) := by decide +kernel
theorem dX3_mayFollow_45 : decode cX3_mayFollow 45 = .ok (.i2l, 1) := by decide +kernel
theorem dX3_mayFollow_46 : decode cX3_mayFollow 46 = .ok (.lmul, 1) := by decide +kernel
theorem dX3_mayFollow_47 : decode cX3_mayFollow 47 = .ok (.lcmp, 1) := by decide +kernel
theorem dX3_mayFollow_48 : decode cX3_mayFollow 48 = .ok (.ifCond .le 7, 3) := by decide +kernel
theorem dX3_mayFollow_51 : decode cX3_mayFollow 51 = .ok (.iconst 1, 1) := by decide +kernel
theorem dX3_mayFollow_52 : decode cX3_mayFollow 52 = .ok (.goto 4, 3) := by decide +kernel
theorem dX3_mayFollow_55 : decode cX3_mayFollow 55 = .ok (.iconst 0, 1) := by decide +kernel
theorem dX3_mayFollow_56 : decode cX3_mayFollow 56 = .ok (.istore 5, 2) := by decide +kernel
theorem dX3_mayFollow_58 : decode cX3_mayFollow 58 = .ok (.iload 4, 2) := by decide +kernel
theorem dX3_mayFollow_60 : decode cX3_mayFollow 60 = .ok (.ifCond .eq 12, 3) := by decide +kernel
theorem dX3_mayFollow_63 : decode cX3_mayFollow 63 = .ok (.iload 5, 2) := by decide +kernel
theorem dX3_mayFollow_65 : decode cX3_mayFollow 65 = .ok (.ifCond .ne 7, 3) := by decide +kernel
theorem dX3_mayFollow_68 : decode cX3_mayFollow 68 = .ok (.iconst 1, 1) := by decide +kernel
theorem dX3_mayFollow_69 : decode cX3_mayFollow 69 = .ok (.goto 4, 3) := by decide +kernel
theorem dX3_mayFollow_72 : decode cX3_mayFollow 72 = .ok (.iconst 0, 1) := by decide +kernel
theorem dX3_mayFollow_73 : decode cX3_mayFollow 73 = .ok (.ireturn, 1) := by decide +kernel
theorem dX3_need_0 : decode cX3_need 0 = .ok (.aload_n 0, 1) := by decide +kernel
theorem dX3_need_1 : decode cX3_need 1 = .ok (.iload_n 1, 1) := by decide +kernel
theorem dX3_need_2 : decode cX3_need 2 = .ok (.iload_n 2, 1) := by decide +kernel
theorem dX3_need_3 : decode cX3_need 3 = .ok (.invokevirtual 33, 3) := by decide +kernel
theorem dX3_need_6 : decode cX3_need 6 = .ok (.iload_n 3, 1) := by decide +kernel
theorem dX3_need_7 : decode cX3_need 7 = .ok (.i2l, 1) := by decide +kernel
theorem dX3_need_8 : decode cX3_need 8 = .ok (.aload_n 0, 1) := by decide +kernel
theorem dX3_need_9 : decode cX3_need 9 = .ok (.iload_n 1, 1) := by decide +kernel
theorem dX3_need_10 : decode cX3_need 10 = .ok (.invokevirtual 37, 3) := by decide +kernel
theorem dX3_need_13 : decode cX3_need 13 = .ok (.lmul, 1) := by decide +kernel
theorem dX3_need_14 : decode cX3_need 14 = .ok (.lsub, 1) := by decide +kernel
theorem dX3_need_15 : decode cX3_need 15 = .ok (.lreturn, 1) := by decide +kernel
theorem dX3_comes_0 : decode cX3_comes 0 = .ok (.aload_n 0, 1) := by decide +kernel
theorem dX3_comes_1 : decode cX3_comes 1 = .ok (.getfield 18, 3) := by decide +kernel
theorem dX3_comes_4 : decode cX3_comes 4 = .ok (.iload_n 1, 1) := by decide +kernel
theorem dX3_comes_5 : decode cX3_comes 5 = .ok (.iaload, 1) := by decide +kernel
theorem dX3_comes_6 : decode cX3_comes 6 = .ok (.i2l, 1) := by decide +kernel
theorem dX3_comes_7 : decode cX3_comes 7 = .ok (.iload_n 2, 1) := by decide +kernel
theorem dX3_comes_8 : decode cX3_comes 8 = .ok (.i2l, 1) := by decide +kernel
theorem dX3_comes_9 : decode cX3_comes 9 = .ok (.lmul, 1) := by decide +kernel
theorem dX3_comes_10 : decode cX3_comes 10 = .ok (.ldc2_w 41, 3) := by decide +kernel
theorem dX3_comes_13 : decode cX3_comes 13 = .ok (.ldiv, 1) := by decide +kernel
theorem dX3_comes_14 : decode cX3_comes 14 = .ok (.lreturn, 1) := by decide +kernel
theorem dX3_secondsOf_0 : decode cX3_secondsOf 0 = .ok (.ldc2_w 43, 3) := by decide +kernel
theorem dX3_secondsOf_3 : decode cX3_secondsOf 3 = .ok (.aload_n 0, 1) := by decide +kernel
theorem dX3_secondsOf_4 : decode cX3_secondsOf 4 = .ok (.getfield 15, 3) := by decide +kernel
theorem dX3_secondsOf_7 : decode cX3_secondsOf 7 = .ok (.iload_n 1, 1) := by decide +kernel
theorem dX3_secondsOf_8 : decode cX3_secondsOf 8 = .ok (.iaload, 1) := by decide +kernel
theorem dX3_secondsOf_9 : decode cX3_secondsOf 9 = .ok (.i2l, 1) := by decide +kernel
theorem dX3_secondsOf_10 : decode cX3_secondsOf 10 = .ok (.lmul, 1) := by decide +kernel
theorem dX3_secondsOf_11 : decode cX3_secondsOf 11 = .ok (.lreturn, 1) := by decide +kernel
theorem dX3_neediest_0 : decode cX3_neediest 0 = .ok (.iconst (-1), 1) := by decide +kernel
theorem dX3_neediest_1 : decode cX3_neediest 1 = .ok (.istore 4, 2) := by decide +kernel
theorem dX3_neediest_3 : decode cX3_neediest 3 = .ok (.lconst 0, 1) := by decide +kernel
theorem dX3_neediest_4 : decode cX3_neediest 4 = .ok (.lstore 5, 2) := by decide +kernel
theorem dX3_neediest_6 : decode cX3_neediest 6 = .ok (.iconst 0, 1) := by decide +kernel
theorem dX3_neediest_7 : decode cX3_neediest 7 = .ok (.istore 7, 2) := by decide +kernel
theorem dX3_neediest_9 : decode cX3_neediest 9 = .ok (.iload 7, 2) := by decide +kernel
theorem dX3_neediest_11 : decode cX3_neediest 11 = .ok (.aload_n 0, 1) := by decide +kernel
theorem dX3_neediest_12 : decode cX3_neediest 12 = .ok (.getfield 21, 3) := by decide +kernel
theorem dX3_neediest_15 : decode cX3_neediest 15 = .ok (.if_icmp .ge 55, 3) := by decide +kernel
theorem dX3_neediest_18 : decode cX3_neediest 18 = .ok (.aload_n 0, 1) := by decide +kernel
theorem dX3_neediest_19 : decode cX3_neediest 19 = .ok (.getfield 9, 3) := by decide +kernel
theorem dX3_neediest_22 : decode cX3_neediest 22 = .ok (.iload 7, 2) := by decide +kernel
theorem dX3_neediest_24 : decode cX3_neediest 24 = .ok (.iaload, 1) := by decide +kernel
theorem dX3_neediest_25 : decode cX3_neediest 25 = .ok (.iload_n 1, 1) := by decide +kernel
theorem dX3_neediest_26 : decode cX3_neediest 26 = .ok (.if_icmp .eq 6, 3) := by decide +kernel
theorem dX3_neediest_29 : decode cX3_neediest 29 = .ok (.goto 35, 3) := by decide +kernel
theorem dX3_neediest_32 : decode cX3_neediest 32 = .ok (.aload_n 0, 1) := by decide +kernel
theorem dX3_neediest_33 : decode cX3_neediest 33 = .ok (.iload 7, 2) := by decide +kernel
theorem dX3_neediest_35 : decode cX3_neediest 35 = .ok (.iload_n 2, 1) := by decide +kernel
theorem dX3_neediest_36 : decode cX3_neediest 36 = .ok (.iload_n 3, 1) := by decide +kernel
theorem dX3_neediest_37 : decode cX3_neediest 37 = .ok (.invokevirtual 45, 3) := by decide +kernel
theorem dX3_neediest_40 : decode cX3_neediest 40 = .ok (.lstore 8, 2) := by decide +kernel
theorem dX3_neediest_42 : decode cX3_neediest 42 = .ok (.iload 4, 2) := by decide +kernel
theorem dX3_neediest_44 : decode cX3_neediest 44 = .ok (.iconst (-1), 1) := by decide +kernel
theorem dX3_neediest_45 : decode cX3_neediest 45 = .ok (.if_icmp .eq 11, 3) := by decide +kernel
theorem dX3_neediest_48 : decode cX3_neediest 48 = .ok (.lload 8, 2) := by decide +kernel
theorem dX3_neediest_50 : decode cX3_neediest 50 = .ok (.lload 5, 2) := by decide +kernel
theorem dX3_neediest_52 : decode cX3_neediest 52 = .ok (.lcmp, 1) := by decide +kernel
theorem dX3_neediest_53 : decode cX3_neediest 53 = .ok (.ifCond .le 11, 3) := by decide +kernel
theorem dX3_neediest_56 : decode cX3_neediest 56 = .ok (.iload 7, 2) := by decide +kernel
theorem dX3_neediest_58 : decode cX3_neediest 58 = .ok (.istore 4, 2) := by decide +kernel
theorem dX3_neediest_60 : decode cX3_neediest 60 = .ok (.lload 8, 2) := by decide +kernel
theorem dX3_neediest_62 : decode cX3_neediest 62 = .ok (.lstore 5, 2) := by decide +kernel
theorem dX3_neediest_64 : decode cX3_neediest 64 = .ok (.iinc 7 1, 3) := by decide +kernel
theorem dX3_neediest_67 : decode cX3_neediest 67 = .ok (.goto (-58), 3) := by decide +kernel
theorem dX3_neediest_70 : decode cX3_neediest 70 = .ok (.iload 4, 2) := by decide +kernel
theorem dX3_neediest_72 : decode cX3_neediest 72 = .ok (.ireturn, 1) := by decide +kernel
theorem dX3_leastOutflow_0 : decode cX3_leastOutflow 0 = .ok (.ldc2_w 49, 3) := by decide +kernel
theorem dX3_leastOutflow_3 : decode cX3_leastOutflow 3 = .ok (.lstore 5, 2) := by decide +kernel
theorem dX3_leastOutflow_5 : decode cX3_leastOutflow 5 = .ok (.iconst 0, 1) := by decide +kernel
theorem dX3_leastOutflow_6 : decode cX3_leastOutflow 6 = .ok (.istore 7, 2) := by decide +kernel
theorem dX3_leastOutflow_8 : decode cX3_leastOutflow 8 = .ok (.iload 7, 2) := by decide +kernel
theorem dX3_leastOutflow_10 : decode cX3_leastOutflow 10 = .ok (.aload_n 0, 1) := by decide +kernel
theorem dX3_leastOutflow_11 : decode cX3_leastOutflow 11 = .ok (.getfield 21, 3) := by decide +kernel
theorem dX3_leastOutflow_14 : decode cX3_leastOutflow 14 = .ok (.if_icmp .ge 35, 3) := by decide +kernel
theorem dX3_leastOutflow_17 : decode cX3_leastOutflow 17 = .ok (.aload_n 0, 1) := by decide +kernel
theorem dX3_leastOutflow_18 : decode cX3_leastOutflow 18 = .ok (.getfield 9, 3) := by decide +kernel
theorem dX3_leastOutflow_21 : decode cX3_leastOutflow 21 = .ok (.iload 7, 2) := by decide +kernel
theorem dX3_leastOutflow_23 : decode cX3_leastOutflow 23 = .ok (.iaload, 1) := by decide +kernel
theorem dX3_leastOutflow_24 : decode cX3_leastOutflow 24 = .ok (.iload_n 1, 1) := by decide +kernel
theorem dX3_leastOutflow_25 : decode cX3_leastOutflow 25 = .ok (.if_icmp .ne 18, 3) := by decide +kernel
theorem dX3_leastOutflow_28 : decode cX3_leastOutflow 28 = .ok (.lload 5, 2) := by decide +kernel
theorem dX3_leastOutflow_30 : decode cX3_leastOutflow 30 = .ok (.aload_n 0, 1) := by decide +kernel
theorem dX3_leastOutflow_31 : decode cX3_leastOutflow 31 = .ok (.iload 7, 2) := by decide +kernel
theorem dX3_leastOutflow_33 : decode cX3_leastOutflow 33 = .ok (.iload_n 2, 1) := by decide +kernel
theorem dX3_leastOutflow_34 : decode cX3_leastOutflow 34 = .ok (.lload_n 3, 1) := by decide +kernel
theorem dX3_leastOutflow_35 : decode cX3_leastOutflow 35 = .ok (.invokevirtual 51, 3) := by decide +kernel
theorem dX3_leastOutflow_38 : decode cX3_leastOutflow 38 = .ok (.invokestatic 55, 3) := by decide +kernel
theorem dX3_leastOutflow_41 : decode cX3_leastOutflow 41 = .ok (.lstore 5, 2) := by decide +kernel
theorem dX3_leastOutflow_43 : decode cX3_leastOutflow 43 = .ok (.iinc 7 1, 3) := by decide +kernel
theorem dX3_leastOutflow_46 : decode cX3_leastOutflow 46 = .ok (.goto (-38), 3) := by decide +kernel
theorem dX3_leastOutflow_49 : decode cX3_leastOutflow 49 = .ok (.lload 5, 2) := by decide +kernel
theorem dX3_leastOutflow_51 : decode cX3_leastOutflow 51 = .ok (.lreturn, 1) := by decide +kernel
theorem dX3_leastOutflowFor_0 : decode cX3_leastOutflowFor 0 = .ok (.aload_n 0, 1) := by decide +kernel
theorem dX3_leastOutflowFor_1 : decode cX3_leastOutflowFor 1 = .ok (.iload_n 1, 1) := by decide +kernel
theorem dX3_leastOutflowFor_2 : decode cX3_leastOutflowFor 2 = .ok (.iload_n 2, 1) := by decide +kernel
theorem dX3_leastOutflowFor_3 : decode cX3_leastOutflowFor 3 = .ok (.invokevirtual 33, 3) := by decide +kernel
theorem dX3_leastOutflowFor_6 : decode cX3_leastOutflowFor 6 = .ok (.lload_n 3, 1) := by decide +kernel
theorem dX3_leastOutflowFor_7 : decode cX3_leastOutflowFor 7 = .ok (.lsub, 1) := by decide +kernel
theorem dX3_leastOutflowFor_8 : decode cX3_leastOutflowFor 8 = .ok (.lstore 5, 2) := by decide +kernel
theorem dX3_leastOutflowFor_10 : decode cX3_leastOutflowFor 10 = .ok (.aload_n 0, 1) := by decide +kernel
theorem dX3_leastOutflowFor_11 : decode cX3_leastOutflowFor 11 = .ok (.iload_n 1, 1) := by decide +kernel
theorem dX3_leastOutflowFor_12 : decode cX3_leastOutflowFor 12 = .ok (.invokevirtual 37, 3) := by decide +kernel
theorem dX3_leastOutflowFor_15 : decode cX3_leastOutflowFor 15 = .ok (.lstore 7, 2) := by decide +kernel
theorem dX3_leastOutflowFor_17 : decode cX3_leastOutflowFor 17 = .ok (.lload 5, 2) := by decide +kernel
theorem dX3_leastOutflowFor_19 : decode cX3_leastOutflowFor 19 = .ok (.lconst 0, 1) := by decide +kernel
theorem dX3_leastOutflowFor_20 : decode cX3_leastOutflowFor 20 = .ok (.lcmp, 1) := by decide +kernel
theorem dX3_leastOutflowFor_21 : decode cX3_leastOutflowFor 21 = .ok (.ifCond .le 10, 3) := by decide +kernel
theorem dX3_leastOutflowFor_24 : decode cX3_leastOutflowFor 24 = .ok (.lload 7, 2) := by decide +kernel
theorem dX3_leastOutflowFor_26 : decode cX3_leastOutflowFor 26 = .ok (.lconst 0, 1) := by decide +kernel
theorem dX3_leastOutflowFor_27 : decode cX3_leastOutflowFor 27 = .ok (.lcmp, 1) := by decide +kernel
theorem dX3_leastOutflowFor_28 : decode cX3_leastOutflowFor 28 = .ok (.ifCond .gt 5, 3) := by decide +kernel
theorem dX3_leastOutflowFor_31 : decode cX3_leastOutflowFor 31 = .ok (.lconst 0, 1) := by decide +kernel
theorem dX3_leastOutflowFor_32 : decode cX3_leastOutflowFor 32 = .ok (.lreturn, 1) := by decide +kernel
theorem dX3_leastOutflowFor_33 : decode cX3_leastOutflowFor 33 = .ok (.lload 5, 2) := by decide +kernel
theorem dX3_leastOutflowFor_35 : decode cX3_leastOutflowFor 35 = .ok (.lload 7, 2) := by decide +kernel
theorem dX3_leastOutflowFor_37 : decode cX3_leastOutflowFor 37 = .ok (.ladd, 1) := by decide +kernel
theorem dX3_leastOutflowFor_38 : decode cX3_leastOutflowFor 38 = .ok (.lconst 1, 1) := by decide +kernel
theorem dX3_leastOutflowFor_39 : decode cX3_leastOutflowFor 39 = .ok (.lsub, 1) := by decide +kernel
theorem dX3_leastOutflowFor_40 : decode cX3_leastOutflowFor 40 = .ok (.lload 7, 2) := by decide +kernel
theorem dX3_leastOutflowFor_42 : decode cX3_leastOutflowFor 42 = .ok (.ldiv, 1) := by decide +kernel
theorem dX3_leastOutflowFor_43 : decode cX3_leastOutflowFor 43 = .ok (.lreturn, 1) := by decide +kernel
theorem dX4_init_0 : decode cX4_init 0 = .ok (.aload_n 0, 1) := by decide +kernel
theorem dX4_init_1 : decode cX4_init 1 = .ok (.invokespecial 3, 3) := by decide +kernel
theorem dX4_init_4 : decode cX4_init 4 = .ok (.aload_n 0, 1) := by decide +kernel
theorem dX4_init_5 : decode cX4_init 5 = .ok (.bipush 50, 2) := by decide +kernel
theorem dX4_init_7 : decode cX4_init 7 = .ok (.newarray .int, 2) := by decide +kernel
theorem dX4_init_9 : decode cX4_init 9 = .ok (.putfield 9, 3) := by decide +kernel
theorem dX4_init_12 : decode cX4_init 12 = .ok (.aload_n 0, 1) := by decide +kernel
theorem dX4_init_13 : decode cX4_init 13 = .ok (.iconst 0, 1) := by decide +kernel
theorem dX4_init_14 : decode cX4_init 14 = .ok (.putfield 15, 3) := by decide +kernel
theorem dX4_init_17 : decode cX4_init 17 = .ok (.return_, 1) := by decide +kernel
theorem dX4_size_0 : decode cX4_size 0 = .ok (.aload_n 0, 1) := by decide +kernel
theorem dX4_size_1 : decode cX4_size 1 = .ok (.getfield 15, 3) := by decide +kernel
theorem dX4_size_4 : decode cX4_size 4 = .ok (.ireturn, 1) := by decide +kernel
theorem dX4_add_0 : decode cX4_add 0 = .ok (.aload_n 0, 1) := by decide +kernel
theorem dX4_add_1 : decode cX4_add 1 = .ok (.getfield 15, 3) := by decide +kernel
theorem dX4_add_4 : decode cX4_add 4 = .ok (.bipush 50, 2) := by decide +kernel
theorem dX4_add_6 : decode cX4_add 6 = .ok (.if_icmp .lt 5, 3) := by decide +kernel
theorem dX4_add_9 : decode cX4_add 9 = .ok (.iconst (-1), 1) := by decide +kernel
theorem dX4_add_10 : decode cX4_add 10 = .ok (.ireturn, 1) := by decide +kernel
theorem dX4_add_11 : decode cX4_add 11 = .ok (.aload_n 0, 1) := by decide +kernel
theorem dX4_add_12 : decode cX4_add 12 = .ok (.getfield 9, 3) := by decide +kernel
theorem dX4_add_15 : decode cX4_add 15 = .ok (.aload_n 0, 1) := by decide +kernel
theorem dX4_add_16 : decode cX4_add 16 = .ok (.getfield 15, 3) := by decide +kernel
theorem dX4_add_19 : decode cX4_add 19 = .ok (.iload_n 1, 1) := by decide +kernel
theorem dX4_add_20 : decode cX4_add 20 = .ok (.iastore, 1) := by decide +kernel
theorem dX4_add_21 : decode cX4_add 21 = .ok (.aload_n 0, 1) := by decide +kernel
theorem dX4_add_22 : decode cX4_add 22 = .ok (.dup, 1) := by decide +kernel
theorem dX4_add_23 : decode cX4_add 23 = .ok (.getfield 15, 3) := by decide +kernel
theorem dX4_add_26 : decode cX4_add 26 = .ok (.iconst 1, 1) := by decide +kernel
theorem dX4_add_27 : decode cX4_add 27 = .ok (.iadd, 1) := by decide +kernel
theorem dX4_add_28 : decode cX4_add 28 = .ok (.putfield 15, 3) := by decide +kernel
theorem dX4_add_31 : decode cX4_add 31 = .ok (.aload_n 0, 1) := by decide +kernel
theorem dX4_add_32 : decode cX4_add 32 = .ok (.getfield 15, 3) := by decide +kernel
theorem dX4_add_35 : decode cX4_add 35 = .ok (.ireturn, 1) := by decide +kernel
theorem dX4_firstNotBelow_0 : decode cX4_firstNotBelow 0 = .ok (.iconst 1, 1) := by decide +kernel
theorem dX4_firstNotBelow_1 : decode cX4_firstNotBelow 1 = .ok (.istore_n 1, 1) := by decide +kernel
theorem dX4_firstNotBelow_2 : decode cX4_firstNotBelow 2 = .ok (.iload_n 1, 1) := by decide +kernel
theorem dX4_firstNotBelow_3 : decode cX4_firstNotBelow 3 = .ok (.aload_n 0, 1) := by decide +kernel
theorem dX4_firstNotBelow_4 : decode cX4_firstNotBelow 4 = .ok (.getfield 15, 3) := by decide +kernel
theorem dX4_firstNotBelow_7 : decode cX4_firstNotBelow 7 = .ok (.if_icmp .ge 28, 3) := by decide +kernel
theorem dX4_firstNotBelow_10 : decode cX4_firstNotBelow 10 = .ok (.aload_n 0, 1) := by decide +kernel
theorem dX4_firstNotBelow_11 : decode cX4_firstNotBelow 11 = .ok (.getfield 9, 3) := by decide +kernel
theorem dX4_firstNotBelow_14 : decode cX4_firstNotBelow 14 = .ok (.iload_n 1, 1) := by decide +kernel
theorem dX4_firstNotBelow_15 : decode cX4_firstNotBelow 15 = .ok (.iaload, 1) := by decide +kernel
theorem dX4_firstNotBelow_16 : decode cX4_firstNotBelow 16 = .ok (.aload_n 0, 1) := by decide +kernel
theorem dX4_firstNotBelow_17 : decode cX4_firstNotBelow 17 = .ok (.getfield 9, 3) := by decide +kernel
theorem dX4_firstNotBelow_20 : decode cX4_firstNotBelow 20 = .ok (.iload_n 1, 1) := by decide +kernel
theorem dX4_firstNotBelow_21 : decode cX4_firstNotBelow 21 = .ok (.iconst 1, 1) := by decide +kernel
theorem dX4_firstNotBelow_22 : decode cX4_firstNotBelow 22 = .ok (.isub, 1) := by decide +kernel
theorem dX4_firstNotBelow_23 : decode cX4_firstNotBelow 23 = .ok (.iaload, 1) := by decide +kernel
theorem dX4_firstNotBelow_24 : decode cX4_firstNotBelow 24 = .ok (.if_icmp .lt 5, 3) := by decide +kernel
theorem dX4_firstNotBelow_27 : decode cX4_firstNotBelow 27 = .ok (.iload_n 1, 1) := by decide +kernel
theorem dX4_firstNotBelow_28 : decode cX4_firstNotBelow 28 = .ok (.ireturn, 1) := by decide +kernel
theorem dX4_firstNotBelow_29 : decode cX4_firstNotBelow 29 = .ok (.iinc 1 1, 3) := by decide +kernel
theorem dX4_firstNotBelow_32 : decode cX4_firstNotBelow 32 = .ok (.goto (-30), 3) := by decide +kernel
theorem dX4_firstNotBelow_35 : decode cX4_firstNotBelow 35 = .ok (.iconst (-1), 1) := by decide +kernel
theorem dX4_firstNotBelow_36 : decode cX4_firstNotBelow 36 = .ok (.ireturn, 1) := by decide +kernel
theorem dX5_init_0 : decode cX5_init 0 = .ok (.aload_n 0, 1) := by decide +kernel
theorem dX5_init_1 : decode cX5_init 1 = .ok (.invokespecial 3, 3) := by decide +kernel
theorem dX5_init_4 : decode cX5_init 4 = .ok (.aload_n 0, 1) := by decide +kernel
theorem dX5_init_5 : decode cX5_init 5 = .ok (.sipush 300, 3) := by decide +kernel
theorem dX5_init_8 : decode cX5_init 8 = .ok (.newarray .char, 2) := by decide +kernel
theorem dX5_init_10 : decode cX5_init 10 = .ok (.putfield 9, 3) := by decide +kernel
theorem dX5_init_13 : decode cX5_init 13 = .ok (.aload_n 0, 1) := by decide +kernel
theorem dX5_init_14 : decode cX5_init 14 = .ok (.iconst 0, 1) := by decide +kernel
theorem dX5_init_15 : decode cX5_init 15 = .ok (.putfield 15, 3) := by decide +kernel
theorem dX5_init_18 : decode cX5_init 18 = .ok (.aload_n 0, 1) := by decide +kernel
theorem dX5_init_19 : decode cX5_init 19 = .ok (.iconst 0, 1) := by decide +kernel
theorem dX5_init_20 : decode cX5_init 20 = .ok (.putfield 19, 3) := by decide +kernel
theorem dX5_init_23 : decode cX5_init 23 = .ok (.return_, 1) := by decide +kernel
theorem dX5_size_0 : decode cX5_size 0 = .ok (.aload_n 0, 1) := by decide +kernel
theorem dX5_size_1 : decode cX5_size 1 = .ok (.getfield 15, 3) := by decide +kernel
theorem dX5_size_4 : decode cX5_size 4 = .ok (.ireturn, 1) := by decide +kernel
theorem dX5_position_0 : decode cX5_position 0 = .ok (.aload_n 0, 1) := by decide +kernel
theorem dX5_position_1 : decode cX5_position 1 = .ok (.getfield 19, 3) := by decide +kernel
theorem dX5_position_4 : decode cX5_position 4 = .ok (.ireturn, 1) := by decide +kernel
theorem dX5_clear_0 : decode cX5_clear 0 = .ok (.aload_n 0, 1) := by decide +kernel
theorem dX5_clear_1 : decode cX5_clear 1 = .ok (.iconst 0, 1) := by decide +kernel
theorem dX5_clear_2 : decode cX5_clear 2 = .ok (.putfield 15, 3) := by decide +kernel
theorem dX5_clear_5 : decode cX5_clear 5 = .ok (.return_, 1) := by decide +kernel
theorem dX5_collect_0 : decode cX5_collect 0 = .ok (.aload_n 0, 1) := by decide +kernel
theorem dX5_collect_1 : decode cX5_collect 1 = .ok (.getfield 15, 3) := by decide +kernel
theorem dX5_collect_4 : decode cX5_collect 4 = .ok (.sipush 300, 3) := by decide +kernel
theorem dX5_collect_7 : decode cX5_collect 7 = .ok (.if_icmp .lt 5, 3) := by decide +kernel
theorem dX5_collect_10 : decode cX5_collect 10 = .ok (.iconst 0, 1) := by decide +kernel
theorem dX5_collect_11 : decode cX5_collect 11 = .ok (.ireturn, 1) := by decide +kernel
theorem dX5_collect_12 : decode cX5_collect 12 = .ok (.aload_n 0, 1) := by decide +kernel
theorem dX5_collect_13 : decode cX5_collect 13 = .ok (.getfield 9, 3) := by decide +kernel
theorem dX5_collect_16 : decode cX5_collect 16 = .ok (.aload_n 0, 1) := by decide +kernel
theorem dX5_collect_17 : decode cX5_collect 17 = .ok (.getfield 15, 3) := by decide +kernel
theorem dX5_collect_20 : decode cX5_collect 20 = .ok (.iload_n 1, 1) := by decide +kernel
theorem dX5_collect_21 : decode cX5_collect 21 = .ok (.castore, 1) := by decide +kernel
theorem dX5_collect_22 : decode cX5_collect 22 = .ok (.aload_n 0, 1) := by decide +kernel
theorem dX5_collect_23 : decode cX5_collect 23 = .ok (.dup, 1) := by decide +kernel
theorem dX5_collect_24 : decode cX5_collect 24 = .ok (.getfield 15, 3) := by decide +kernel
theorem dX5_collect_27 : decode cX5_collect 27 = .ok (.iconst 1, 1) := by decide +kernel
theorem dX5_collect_28 : decode cX5_collect 28 = .ok (.iadd, 1) := by decide +kernel
theorem dX5_collect_29 : decode cX5_collect 29 = .ok (.putfield 15, 3) := by decide +kernel
theorem dX5_collect_32 : decode cX5_collect 32 = .ok (.iconst 1, 1) := by decide +kernel
theorem dX5_collect_33 : decode cX5_collect 33 = .ok (.ireturn, 1) := by decide +kernel
theorem dX5_readStates_0 : decode cX5_readStates 0 = .ok (.aload_n 0, 1) := by decide +kernel
theorem dX5_readStates_1 : decode cX5_readStates 1 = .ok (.iconst 0, 1) := by decide +kernel
theorem dX5_readStates_2 : decode cX5_readStates 2 = .ok (.putfield 19, 3) := by decide +kernel
theorem dX5_readStates_5 : decode cX5_readStates 5 = .ok (.aload_n 1, 1) := by decide +kernel
theorem dX5_readStates_6 : decode cX5_readStates 6 = .ok (.invokevirtual 22, 3) := by decide +kernel
theorem dX5_readStates_9 : decode cX5_readStates 9 = .ok (.iconst 0, 1) := by decide +kernel
theorem dX5_readStates_10 : decode cX5_readStates 10 = .ok (.istore_n 2, 1) := by decide +kernel
theorem dX5_readStates_11 : decode cX5_readStates 11 = .ok (.iload_n 2, 1) := by decide +kernel
theorem dX5_readStates_12 : decode cX5_readStates 12 = .ok (.bipush 6, 2) := by decide +kernel
theorem dX5_readStates_14 : decode cX5_readStates 14 = .ok (.if_icmp .ge 52, 3) := by decide +kernel
theorem dX5_readStates_17 : decode cX5_readStates 17 = .ok (.aload_n 0, 1) := by decide +kernel
theorem dX5_readStates_18 : decode cX5_readStates 18 = .ok (.aload_n 1, 1) := by decide +kernel
theorem dX5_readStates_19 : decode cX5_readStates 19 = .ok (.invokevirtual 27, 3) := by decide +kernel
theorem dX5_readStates_22 : decode cX5_readStates 22 = .ok (.ifCond .ne 5, 3) := by decide +kernel
theorem dX5_readStates_25 : decode cX5_readStates 25 = .ok (.iconst 0, 1) := by decide +kernel
theorem dX5_readStates_26 : decode cX5_readStates 26 = .ok (.ireturn, 1) := by decide +kernel
theorem dX5_readStates_27 : decode cX5_readStates 27 = .ok (.aload_n 1, 1) := by decide +kernel
theorem dX5_readStates_28 : decode cX5_readStates 28 = .ok (.invokevirtual 31, 3) := by decide +kernel
theorem dX5_readStates_31 : decode cX5_readStates 31 = .ok (.aload_n 0, 1) := by decide +kernel
theorem dX5_readStates_32 : decode cX5_readStates 32 = .ok (.invokevirtual 34, 3) := by decide +kernel
theorem dX5_readStates_35 : decode cX5_readStates 35 = .ok (.istore_n 3, 1) := by decide +kernel
theorem dX5_readStates_36 : decode cX5_readStates 36 = .ok (.iload_n 3, 1) := by decide +kernel
theorem dX5_readStates_37 : decode cX5_readStates 37 = .ok (.ifCond .ne 5, 3) := by decide +kernel
theorem dX5_readStates_40 : decode cX5_readStates 40 = .ok (.iconst 1, 1) := by decide +kernel
theorem dX5_readStates_41 : decode cX5_readStates 41 = .ok (.ireturn, 1) := by decide +kernel
theorem dX5_readStates_42 : decode cX5_readStates 42 = .ok (.iload_n 3, 1) := by decide +kernel
theorem dX5_readStates_43 : decode cX5_readStates 43 = .ok (.bipush 59, 2) := by decide +kernel
theorem dX5_readStates_45 : decode cX5_readStates 45 = .ok (.if_icmp .eq 5, 3) := by decide +kernel
theorem dX5_readStates_48 : decode cX5_readStates 48 = .ok (.iconst 0, 1) := by decide +kernel
theorem dX5_readStates_49 : decode cX5_readStates 49 = .ok (.ireturn, 1) := by decide +kernel
theorem dX5_readStates_50 : decode cX5_readStates 50 = .ok (.aload_n 0, 1) := by decide +kernel
theorem dX5_readStates_51 : decode cX5_readStates 51 = .ok (.dup, 1) := by decide +kernel
theorem dX5_readStates_52 : decode cX5_readStates 52 = .ok (.getfield 19, 3) := by decide +kernel
theorem dX5_readStates_55 : decode cX5_readStates 55 = .ok (.iconst 1, 1) := by decide +kernel
theorem dX5_readStates_56 : decode cX5_readStates 56 = .ok (.iadd, 1) := by decide +kernel
theorem dX5_readStates_57 : decode cX5_readStates 57 = .ok (.putfield 19, 3) := by decide +kernel
theorem dX5_readStates_60 : decode cX5_readStates 60 = .ok (.iinc 2 1, 3) := by decide +kernel
theorem dX5_readStates_63 : decode cX5_readStates 63 = .ok (.goto (-52), 3) := by decide +kernel
theorem dX5_readStates_66 : decode cX5_readStates 66 = .ok (.aload_n 0, 1) := by decide +kernel
theorem dX5_readStates_67 : decode cX5_readStates 67 = .ok (.invokevirtual 38, 3) := by decide +kernel
theorem dX5_readStates_70 : decode cX5_readStates 70 = .ok (.ireturn, 1) := by decide +kernel
theorem dX5_readTests_0 : decode cX5_readTests 0 = .ok (.iconst 0, 1) := by decide +kernel
theorem dX5_readTests_1 : decode cX5_readTests 1 = .ok (.istore_n 2, 1) := by decide +kernel
theorem dX5_readTests_2 : decode cX5_readTests 2 = .ok (.iload_n 2, 1) := by decide +kernel
theorem dX5_readTests_3 : decode cX5_readTests 3 = .ok (.iconst 5, 1) := by decide +kernel
theorem dX5_readTests_4 : decode cX5_readTests 4 = .ok (.if_icmp .ge 40, 3) := by decide +kernel
theorem dX5_readTests_7 : decode cX5_readTests 7 = .ok (.aload_n 0, 1) := by decide +kernel
theorem dX5_readTests_8 : decode cX5_readTests 8 = .ok (.aload_n 1, 1) := by decide +kernel
theorem dX5_readTests_9 : decode cX5_readTests 9 = .ok (.invokevirtual 42, 3) := by decide +kernel
theorem dX5_readTests_12 : decode cX5_readTests 12 = .ok (.ifCond .ne 5, 3) := by decide +kernel
theorem dX5_readTests_15 : decode cX5_readTests 15 = .ok (.iconst 0, 1) := by decide +kernel
theorem dX5_readTests_16 : decode cX5_readTests 16 = .ok (.ireturn, 1) := by decide +kernel
theorem dX5_readTests_17 : decode cX5_readTests 17 = .ok (.aload_n 0, 1) := by decide +kernel
theorem dX5_readTests_18 : decode cX5_readTests 18 = .ok (.invokevirtual 34, 3) := by decide +kernel
theorem dX5_readTests_21 : decode cX5_readTests 21 = .ok (.bipush 38, 2) := by decide +kernel
theorem dX5_readTests_23 : decode cX5_readTests 23 = .ok (.if_icmp .eq 5, 3) := by decide +kernel
theorem dX5_readTests_26 : decode cX5_readTests 26 = .ok (.iconst 1, 1) := by decide +kernel
theorem dX5_readTests_27 : decode cX5_readTests 27 = .ok (.ireturn, 1) := by decide +kernel
theorem dX5_readTests_28 : decode cX5_readTests 28 = .ok (.aload_n 0, 1) := by decide +kernel
theorem dX5_readTests_29 : decode cX5_readTests 29 = .ok (.dup, 1) := by decide +kernel
theorem dX5_readTests_30 : decode cX5_readTests 30 = .ok (.getfield 19, 3) := by decide +kernel
theorem dX5_readTests_33 : decode cX5_readTests 33 = .ok (.iconst 1, 1) := by decide +kernel
theorem dX5_readTests_34 : decode cX5_readTests 34 = .ok (.iadd, 1) := by decide +kernel
theorem dX5_readTests_35 : decode cX5_readTests 35 = .ok (.putfield 19, 3) := by decide +kernel
theorem dX5_readTests_38 : decode cX5_readTests 38 = .ok (.iinc 2 1, 3) := by decide +kernel
theorem dX5_readTests_41 : decode cX5_readTests 41 = .ok (.goto (-39), 3) := by decide +kernel
theorem dX5_readTests_44 : decode cX5_readTests 44 = .ok (.aload_n 0, 1) := by decide +kernel
theorem dX5_readTests_45 : decode cX5_readTests 45 = .ok (.invokevirtual 38, 3) := by decide +kernel
theorem dX5_readTests_48 : decode cX5_readTests 48 = .ok (.ireturn, 1) := by decide +kernel
theorem dX5_readTest_0 : decode cX5_readTest 0 = .ok (.aload_n 1, 1) := by decide +kernel
theorem dX5_readTest_1 : decode cX5_readTest 1 = .ok (.invokevirtual 45, 3) := by decide +kernel
theorem dX5_readTest_4 : decode cX5_readTest 4 = .ok (.aload_n 0, 1) := by decide +kernel
theorem dX5_readTest_5 : decode cX5_readTest 5 = .ok (.aload_n 1, 1) := by decide +kernel
theorem dX5_readTest_6 : decode cX5_readTest 6 = .ok (.iconst 1, 1) := by decide +kernel
theorem dX5_readTest_7 : decode cX5_readTest 7 = .ok (.invokevirtual 48, 3) := by decide +kernel
theorem dX5_readTest_10 : decode cX5_readTest 10 = .ok (.ifCond .ne 5, 3) := by decide +kernel
theorem dX5_readTest_13 : decode cX5_readTest 13 = .ok (.iconst 0, 1) := by decide +kernel
theorem dX5_readTest_14 : decode cX5_readTest 14 = .ok (.ireturn, 1) := by decide +kernel
theorem dX5_readTest_15 : decode cX5_readTest 15 = .ok (.aload_n 0, 1) := by decide +kernel
theorem dX5_readTest_16 : decode cX5_readTest 16 = .ok (.invokevirtual 34, 3) := by decide +kernel
theorem dX5_readTest_19 : decode cX5_readTest 19 = .ok (.istore_n 2, 1) := by decide +kernel
theorem dX5_readTest_20 : decode cX5_readTest 20 = .ok (.iload_n 2, 1) := by decide +kernel
theorem dX5_readTest_21 : decode cX5_readTest 21 = .ok (.bipush 60, 2) := by decide +kernel
theorem dX5_readTest_23 : decode cX5_readTest 23 = .ok (.if_icmp .eq 17, 3) := by decide +kernel
theorem dX5_readTest_26 : decode cX5_readTest 26 = .ok (.iload_n 2, 1) := by decide +kernel
theorem dX5_readTest_27 : decode cX5_readTest 27 = .ok (.bipush 62, 2) := by decide +kernel
theorem dX5_readTest_29 : decode cX5_readTest 29 = .ok (.if_icmp .eq 11, 3) := by decide +kernel
theorem dX5_readTest_32 : decode cX5_readTest 32 = .ok (.iload_n 2, 1) := by decide +kernel
theorem dX5_readTest_33 : decode cX5_readTest 33 = .ok (.bipush 61, 2) := by decide +kernel
theorem dX5_readTest_35 : decode cX5_readTest 35 = .ok (.if_icmp .eq 5, 3) := by decide +kernel
theorem dX5_readTest_38 : decode cX5_readTest 38 = .ok (.iconst 0, 1) := by decide +kernel
theorem dX5_readTest_39 : decode cX5_readTest 39 = .ok (.ireturn, 1) := by decide +kernel
theorem dX5_readTest_40 : decode cX5_readTest 40 = .ok (.aload_n 0, 1) := by decide +kernel
theorem dX5_readTest_41 : decode cX5_readTest 41 = .ok (.dup, 1) := by decide +kernel
theorem dX5_readTest_42 : decode cX5_readTest 42 = .ok (.getfield 19, 3) := by decide +kernel
theorem dX5_readTest_45 : decode cX5_readTest 45 = .ok (.iconst 1, 1) := by decide +kernel
theorem dX5_readTest_46 : decode cX5_readTest 46 = .ok (.iadd, 1) := by decide +kernel
theorem dX5_readTest_47 : decode cX5_readTest 47 = .ok (.putfield 19, 3) := by decide +kernel
theorem dX5_readTest_50 : decode cX5_readTest 50 = .ok (.aload_n 0, 1) := by decide +kernel
theorem dX5_readTest_51 : decode cX5_readTest 51 = .ok (.aload_n 1, 1) := by decide +kernel
theorem dX5_readTest_52 : decode cX5_readTest 52 = .ok (.iconst (-1), 1) := by decide +kernel
theorem dX5_readTest_53 : decode cX5_readTest 53 = .ok (.invokevirtual 48, 3) := by decide +kernel
theorem dX5_readTest_56 : decode cX5_readTest 56 = .ok (.ifCond .ne 5, 3) := by decide +kernel
theorem dX5_readTest_59 : decode cX5_readTest 59 = .ok (.iconst 0, 1) := by decide +kernel
theorem dX5_readTest_60 : decode cX5_readTest 60 = .ok (.ireturn, 1) := by decide +kernel
theorem dX5_readTest_61 : decode cX5_readTest 61 = .ok (.aload_n 1, 1) := by decide +kernel
theorem dX5_readTest_62 : decode cX5_readTest 62 = .ok (.iload_n 2, 1) := by decide +kernel
theorem dX5_readTest_63 : decode cX5_readTest 63 = .ok (.invokevirtual 52, 3) := by decide +kernel
theorem dX5_readTest_66 : decode cX5_readTest 66 = .ok (.iconst 1, 1) := by decide +kernel
theorem dX5_readTest_67 : decode cX5_readTest 67 = .ok (.ireturn, 1) := by decide +kernel
theorem dX5_readSum_0 : decode cX5_readSum 0 = .ok (.iload_n 2, 1) := by decide +kernel
theorem dX5_readSum_1 : decode cX5_readSum 1 = .ok (.istore_n 3, 1) := by decide +kernel
theorem dX5_readSum_2 : decode cX5_readSum 2 = .ok (.iconst 0, 1) := by decide +kernel
theorem dX5_readSum_3 : decode cX5_readSum 3 = .ok (.istore 4, 2) := by decide +kernel
theorem dX5_readSum_5 : decode cX5_readSum 5 = .ok (.iload 4, 2) := by decide +kernel
theorem dX5_readSum_7 : decode cX5_readSum 7 = .ok (.iconst 4, 1) := by decide +kernel
theorem dX5_readSum_8 : decode cX5_readSum 8 = .ok (.if_icmp .ge 66, 3) := by decide +kernel
theorem dX5_readSum_11 : decode cX5_readSum 11 = .ok (.aload_n 0, 1) := by decide +kernel
theorem dX5_readSum_12 : decode cX5_readSum 12 = .ok (.aload_n 1, 1) := by decide +kernel
theorem dX5_readSum_13 : decode cX5_readSum 13 = .ok (.iload_n 3, 1) := by decide +kernel
theorem dX5_readSum_14 : decode cX5_readSum 14 = .ok (.invokevirtual 56, 3) := by decide +kernel
theorem dX5_readSum_17 : decode cX5_readSum 17 = .ok (.ifCond .ne 5, 3) := by decide +kernel
theorem dX5_readSum_20 : decode cX5_readSum 20 = .ok (.iconst 0, 1) := by decide +kernel
theorem dX5_readSum_21 : decode cX5_readSum 21 = .ok (.ireturn, 1) := by decide +kernel
theorem dX5_readSum_22 : decode cX5_readSum 22 = .ok (.aload_n 0, 1) := by decide +kernel
theorem dX5_readSum_23 : decode cX5_readSum 23 = .ok (.invokevirtual 34, 3) := by decide +kernel
theorem dX5_readSum_26 : decode cX5_readSum 26 = .ok (.istore 5, 2) := by decide +kernel
theorem dX5_readSum_28 : decode cX5_readSum 28 = .ok (.iload 5, 2) := by decide +kernel
theorem dX5_readSum_30 : decode cX5_readSum 30 = .ok (.bipush 43, 2) := by decide +kernel
theorem dX5_readSum_32 : decode cX5_readSum 32 = .ok (.if_icmp .eq 12, 3) := by decide +kernel
theorem dX5_readSum_35 : decode cX5_readSum 35 = .ok (.iload 5, 2) := by decide +kernel
theorem dX5_readSum_37 : decode cX5_readSum 37 = .ok (.bipush 45, 2) := by decide +kernel
theorem dX5_readSum_39 : decode cX5_readSum 39 = .ok (.if_icmp .eq 5, 3) := by decide +kernel
theorem dX5_readSum_42 : decode cX5_readSum 42 = .ok (.iconst 1, 1) := by decide +kernel
theorem dX5_readSum_43 : decode cX5_readSum 43 = .ok (.ireturn, 1) := by decide +kernel
theorem dX5_readSum_44 : decode cX5_readSum 44 = .ok (.iload 5, 2) := by decide +kernel
theorem dX5_readSum_46 : decode cX5_readSum 46 = .ok (.bipush 43, 2) := by decide +kernel
theorem dX5_readSum_48 : decode cX5_readSum 48 = .ok (.if_icmp .ne 7, 3) := by decide +kernel
theorem dX5_readSum_51 : decode cX5_readSum 51 = .ok (.iload_n 2, 1) := by decide +kernel
theorem dX5_readSum_52 : decode cX5_readSum 52 = .ok (.goto 5, 3) := by decide +kernel
theorem dX5_readSum_55 : decode cX5_readSum 55 = .ok (.iload_n 2, 1) := by decide +kernel
theorem dX5_readSum_56 : decode cX5_readSum 56 = .ok (.ineg, 1) := by decide +kernel
theorem dX5_readSum_57 : decode cX5_readSum 57 = .ok (.istore_n 3, 1) := by decide +kernel
theorem dX5_readSum_58 : decode cX5_readSum 58 = .ok (.aload_n 0, 1) := by decide +kernel
theorem dX5_readSum_59 : decode cX5_readSum 59 = .ok (.dup, 1) := by decide +kernel
theorem dX5_readSum_60 : decode cX5_readSum 60 = .ok (.getfield 19, 3) := by decide +kernel
theorem dX5_readSum_63 : decode cX5_readSum 63 = .ok (.iconst 1, 1) := by decide +kernel
theorem dX5_readSum_64 : decode cX5_readSum 64 = .ok (.iadd, 1) := by decide +kernel
theorem dX5_readSum_65 : decode cX5_readSum 65 = .ok (.putfield 19, 3) := by decide +kernel
theorem dX5_readSum_68 : decode cX5_readSum 68 = .ok (.iinc 4 1, 3) := by decide +kernel
theorem dX5_readSum_71 : decode cX5_readSum 71 = .ok (.goto (-66), 3) := by decide +kernel
theorem dX5_readSum_74 : decode cX5_readSum 74 = .ok (.aload_n 0, 1) := by decide +kernel
theorem dX5_readSum_75 : decode cX5_readSum 75 = .ok (.invokevirtual 38, 3) := by decide +kernel
theorem dX5_readSum_78 : decode cX5_readSum 78 = .ok (.ireturn, 1) := by decide +kernel
theorem dX5_readTerm_0 : decode cX5_readTerm 0 = .ok (.aload_n 0, 1) := by decide +kernel
theorem dX5_readTerm_1 : decode cX5_readTerm 1 = .ok (.invokevirtual 34, 3) := by decide +kernel
theorem dX5_readTerm_4 : decode cX5_readTerm 4 = .ok (.pop, 1) := by decide +kernel
theorem dX5_readTerm_5 : decode cX5_readTerm 5 = .ok (.aload_n 0, 1) := by decide +kernel
theorem dX5_readTerm_6 : decode cX5_readTerm 6 = .ok (.getfield 19, 3) := by decide +kernel
theorem dX5_readTerm_9 : decode cX5_readTerm 9 = .ok (.istore_n 3, 1) := by decide +kernel
theorem dX5_readTerm_10 : decode cX5_readTerm 10 = .ok (.aload_n 0, 1) := by decide +kernel
theorem dX5_readTerm_11 : decode cX5_readTerm 11 = .ok (.invokevirtual 59, 3) := by decide +kernel
theorem dX5_readTerm_14 : decode cX5_readTerm 14 = .ok (.istore 4, 2) := by decide +kernel
theorem dX5_readTerm_16 : decode cX5_readTerm 16 = .ok (.aload_n 0, 1) := by decide +kernel
theorem dX5_readTerm_17 : decode cX5_readTerm 17 = .ok (.getfield 19, 3) := by decide +kernel
theorem dX5_readTerm_20 : decode cX5_readTerm 20 = .ok (.iload_n 3, 1) := by decide +kernel
theorem dX5_readTerm_21 : decode cX5_readTerm 21 = .ok (.if_icmp .le 7, 3) := by decide +kernel
theorem dX5_readTerm_24 : decode cX5_readTerm 24 = .ok (.iconst 1, 1) := by decide +kernel
theorem dX5_readTerm_25 : decode cX5_readTerm 25 = .ok (.goto 4, 3) := by decide +kernel
theorem dX5_readTerm_28 : decode cX5_readTerm 28 = .ok (.iconst 0, 1) := by decide +kernel
theorem dX5_readTerm_29 : decode cX5_readTerm 29 = .ok (.istore 5, 2) := by decide +kernel
theorem dX5_readTerm_31 : decode cX5_readTerm 31 = .ok (.ldc 63, 2) := by decide +kernel
theorem dX5_readTerm_33 : decode cX5_readTerm 33 = .ok (.aload_n 0, 1) := by decide +kernel
theorem dX5_readTerm_34 : decode cX5_readTerm 34 = .ok (.invokevirtual 34, 3) := by decide +kernel
theorem dX5_readTerm_37 : decode cX5_readTerm 37 = .ok (.invokevirtual 65, 3) := by decide +kernel
theorem dX5_readTerm_40 : decode cX5_readTerm 40 = .ok (.istore 6, 2) := by decide +kernel
theorem dX5_readTerm_42 : decode cX5_readTerm 42 = .ok (.iload 6, 2) := by decide +kernel
theorem dX5_readTerm_44 : decode cX5_readTerm 44 = .ok (.ifCond .lt 7, 3) := by decide +kernel
theorem dX5_readTerm_47 : decode cX5_readTerm 47 = .ok (.iconst 1, 1) := by decide +kernel
theorem dX5_readTerm_48 : decode cX5_readTerm 48 = .ok (.goto 4, 3) := by decide +kernel
theorem dX5_readTerm_51 : decode cX5_readTerm 51 = .ok (.iconst 0, 1) := by decide +kernel
theorem dX5_readTerm_52 : decode cX5_readTerm 52 = .ok (.istore 7, 2) := by decide +kernel
theorem dX5_readTerm_54 : decode cX5_readTerm 54 = .ok (.iload 5, 2) := by decide +kernel
theorem dX5_readTerm_56 : decode cX5_readTerm 56 = .ok (.ifCond .ne 10, 3) := by decide +kernel
theorem dX5_readTerm_59 : decode cX5_readTerm 59 = .ok (.iload 7, 2) := by decide +kernel
theorem dX5_readTerm_61 : decode cX5_readTerm 61 = .ok (.ifCond .ne 5, 3) := by decide +kernel
theorem dX5_readTerm_64 : decode cX5_readTerm 64 = .ok (.iconst 0, 1) := by decide +kernel
theorem dX5_readTerm_65 : decode cX5_readTerm 65 = .ok (.ireturn, 1) := by decide +kernel
theorem dX5_readTerm_66 : decode cX5_readTerm 66 = .ok (.iload 4, 2) := by decide +kernel
theorem dX5_readTerm_68 : decode cX5_readTerm 68 = .ok (.iconst (-1), 1) := by decide +kernel
theorem dX5_readTerm_69 : decode cX5_readTerm 69 = .ok (.if_icmp .eq 13, 3) := by decide +kernel
theorem dX5_readTerm_72 : decode cX5_readTerm 72 = .ok (.iload 7, 2) := by decide +kernel
theorem dX5_readTerm_74 : decode cX5_readTerm 74 = .ok (.ifCond .eq 15, 3) := by decide +kernel
theorem dX5_readTerm_77 : decode cX5_readTerm 77 = .ok (.iload 4, 2) := by decide +kernel
theorem dX5_readTerm_79 : decode cX5_readTerm 79 = .ok (.ifCond .ne 10, 3) := by decide +kernel
theorem dX5_readTerm_82 : decode cX5_readTerm 82 = .ok (.aload_n 0, 1) := by decide +kernel
theorem dX5_readTerm_83 : decode cX5_readTerm 83 = .ok (.iload_n 3, 1) := by decide +kernel
theorem dX5_readTerm_84 : decode cX5_readTerm 84 = .ok (.putfield 19, 3) := by decide +kernel
theorem dX5_readTerm_87 : decode cX5_readTerm 87 = .ok (.iconst 0, 1) := by decide +kernel
theorem dX5_readTerm_88 : decode cX5_readTerm 88 = .ok (.ireturn, 1) := by decide +kernel
theorem dX5_readTerm_89 : decode cX5_readTerm 89 = .ok (.aload_n 1, 1) := by decide +kernel
theorem dX5_readTerm_90 : decode cX5_readTerm 90 = .ok (.iload 7, 2) := by decide +kernel
theorem dX5_readTerm_92 : decode cX5_readTerm 92 = .ok (.ifCond .eq 8, 3) := by decide +kernel
theorem dX5_readTerm_95 : decode cX5_readTerm 95 = .ok (.iload 6, 2) := by decide +kernel
theorem dX5_readTerm_97 : decode cX5_readTerm 97 = .ok (.goto 5, 3) := by decide +kernel
theorem dX5_readTerm_100 : decode cX5_readTerm 100 = .ok (.bipush 7, 2) := by decide +kernel
theorem dX5_readTerm_102 : decode cX5_readTerm 102 = .ok (.iload_n 2, 1) := by decide +kernel
theorem dX5_readTerm_103 : decode cX5_readTerm 103 = .ok (.iload 4, 2) := by decide +kernel
theorem dX5_readTerm_105 : decode cX5_readTerm 105 = .ok (.imul, 1) := by decide +kernel
theorem dX5_readTerm_106 : decode cX5_readTerm 106 = .ok (.invokevirtual 71, 3) := by decide +kernel
theorem dX5_readTerm_109 : decode cX5_readTerm 109 = .ok (.iload 7, 2) := by decide +kernel
theorem dX5_readTerm_111 : decode cX5_readTerm 111 = .ok (.ifCond .eq 13, 3) := by decide +kernel
theorem dX5_readTerm_114 : decode cX5_readTerm 114 = .ok (.aload_n 0, 1) := by decide +kernel
theorem dX5_readTerm_115 : decode cX5_readTerm 115 = .ok (.dup, 1) := by decide +kernel
theorem dX5_readTerm_116 : decode cX5_readTerm 116 = .ok (.getfield 19, 3) := by decide +kernel
theorem dX5_readTerm_119 : decode cX5_readTerm 119 = .ok (.iconst 1, 1) := by decide +kernel
theorem dX5_readTerm_120 : decode cX5_readTerm 120 = .ok (.iadd, 1) := by decide +kernel
theorem dX5_readTerm_121 : decode cX5_readTerm 121 = .ok (.putfield 19, 3) := by decide +kernel
theorem dX5_readTerm_124 : decode cX5_readTerm 124 = .ok (.iconst 1, 1) := by decide +kernel
theorem dX5_readTerm_125 : decode cX5_readTerm 125 = .ok (.ireturn, 1) := by decide +kernel
theorem dX5_readNumber_0 : decode cX5_readNumber 0 = .ok (.aload_n 0, 1) := by decide +kernel
theorem dX5_readNumber_1 : decode cX5_readNumber 1 = .ok (.getfield 19, 3) := by decide +kernel
theorem dX5_readNumber_4 : decode cX5_readNumber 4 = .ok (.istore_n 1, 1) := by decide +kernel
theorem dX5_readNumber_5 : decode cX5_readNumber 5 = .ok (.iconst 0, 1) := by decide +kernel
theorem dX5_readNumber_6 : decode cX5_readNumber 6 = .ok (.istore_n 2, 1) := by decide +kernel
theorem dX5_readNumber_7 : decode cX5_readNumber 7 = .ok (.aload_n 0, 1) := by decide +kernel
theorem dX5_readNumber_8 : decode cX5_readNumber 8 = .ok (.getfield 19, 3) := by decide +kernel
theorem dX5_readNumber_11 : decode cX5_readNumber 11 = .ok (.aload_n 0, 1) := by decide +kernel
theorem dX5_readNumber_12 : decode cX5_readNumber 12 = .ok (.getfield 15, 3) := by decide +kernel
theorem dX5_readNumber_15 : decode cX5_readNumber 15 = .ok (.if_icmp .ge 72, 3) := by decide +kernel
theorem dX5_readNumber_18 : decode cX5_readNumber 18 = .ok (.bipush 48, 2) := by decide +kernel
theorem dX5_readNumber_20 : decode cX5_readNumber 20 = .ok (.aload_n 0, 1) := by decide +kernel
theorem dX5_readNumber_21 : decode cX5_readNumber 21 = .ok (.getfield 9, 3) := by decide +kernel
theorem dX5_readNumber_24 : decode cX5_readNumber 24 = .ok (.aload_n 0, 1) := by decide +kernel
theorem dX5_readNumber_25 : decode cX5_readNumber 25 = .ok (.getfield 19, 3) := by decide +kernel
theorem dX5_readNumber_28 : decode cX5_readNumber 28 = .ok (.caload, 1) := by decide +kernel
theorem dX5_readNumber_29 : decode cX5_readNumber 29 = .ok (.if_icmp .gt 58, 3) := by decide +kernel
theorem dX5_readNumber_32 : decode cX5_readNumber 32 = .ok (.aload_n 0, 1) := by decide +kernel
theorem dX5_readNumber_33 : decode cX5_readNumber 33 = .ok (.getfield 9, 3) := by decide +kernel
theorem dX5_readNumber_36 : decode cX5_readNumber 36 = .ok (.aload_n 0, 1) := by decide +kernel
theorem dX5_readNumber_37 : decode cX5_readNumber 37 = .ok (.getfield 19, 3) := by decide +kernel
theorem dX5_readNumber_40 : decode cX5_readNumber 40 = .ok (.caload, 1) := by decide +kernel
theorem dX5_readNumber_41 : decode cX5_readNumber 41 = .ok (.bipush 57, 2) := by decide +kernel
theorem dX5_readNumber_43 : decode cX5_readNumber 43 = .ok (.if_icmp .gt 44, 3) := by decide +kernel
theorem dX5_readNumber_46 : decode cX5_readNumber 46 = .ok (.aload_n 0, 1) := by decide +kernel
theorem dX5_readNumber_47 : decode cX5_readNumber 47 = .ok (.getfield 19, 3) := by decide +kernel
theorem dX5_readNumber_50 : decode cX5_readNumber 50 = .ok (.iload_n 1, 1) := by decide +kernel
theorem dX5_readNumber_51 : decode cX5_readNumber 51 = .ok (.isub, 1) := by decide +kernel
theorem dX5_readNumber_52 : decode cX5_readNumber 52 = .ok (.iconst 5, 1) := by decide +kernel
theorem dX5_readNumber_53 : decode cX5_readNumber 53 = .ok (.if_icmp .ge 21, 3) := by decide +kernel
theorem dX5_readNumber_56 : decode cX5_readNumber 56 = .ok (.bipush 10, 2) := by decide +kernel
theorem dX5_readNumber_58 : decode cX5_readNumber 58 = .ok (.iload_n 2, 1) := by decide +kernel
theorem dX5_readNumber_59 : decode cX5_readNumber 59 = .ok (.imul, 1) := by decide +kernel
theorem dX5_readNumber_60 : decode cX5_readNumber 60 = .ok (.aload_n 0, 1) := by decide +kernel
theorem dX5_readNumber_61 : decode cX5_readNumber 61 = .ok (.getfield 9, 3) := by decide +kernel
theorem dX5_readNumber_64 : decode cX5_readNumber 64 = .ok (.aload_n 0, 1) := by decide +kernel
theorem dX5_readNumber_65 : decode cX5_readNumber 65 = .ok (.getfield 19, 3) := by decide +kernel
theorem dX5_readNumber_68 : decode cX5_readNumber 68 = .ok (.caload, 1) := by decide +kernel
theorem dX5_readNumber_69 : decode cX5_readNumber 69 = .ok (.bipush 48, 2) := by decide +kernel
theorem dX5_readNumber_71 : decode cX5_readNumber 71 = .ok (.isub, 1) := by decide +kernel
theorem dX5_readNumber_72 : decode cX5_readNumber 72 = .ok (.iadd, 1) := by decide +kernel
theorem dX5_readNumber_73 : decode cX5_readNumber 73 = .ok (.istore_n 2, 1) := by decide +kernel
theorem dX5_readNumber_74 : decode cX5_readNumber 74 = .ok (.aload_n 0, 1) := by decide +kernel
theorem dX5_readNumber_75 : decode cX5_readNumber 75 = .ok (.dup, 1) := by decide +kernel
theorem dX5_readNumber_76 : decode cX5_readNumber 76 = .ok (.getfield 19, 3) := by decide +kernel
theorem dX5_readNumber_79 : decode cX5_readNumber 79 = .ok (.iconst 1, 1) := by decide +kernel
theorem dX5_readNumber_80 : decode cX5_readNumber 80 = .ok (.iadd, 1) := by decide +kernel
theorem dX5_readNumber_81 : decode cX5_readNumber 81 = .ok (.putfield 19, 3) := by decide +kernel
theorem dX5_readNumber_84 : decode cX5_readNumber 84 = .ok (.goto (-77), 3) := by decide +kernel
theorem dX5_readNumber_87 : decode cX5_readNumber 87 = .ok (.aload_n 0, 1) := by decide +kernel
theorem dX5_readNumber_88 : decode cX5_readNumber 88 = .ok (.getfield 19, 3) := by decide +kernel
theorem dX5_readNumber_91 : decode cX5_readNumber 91 = .ok (.iload_n 1, 1) := by decide +kernel
theorem dX5_readNumber_92 : decode cX5_readNumber 92 = .ok (.isub, 1) := by decide +kernel
theorem dX5_readNumber_93 : decode cX5_readNumber 93 = .ok (.istore_n 3, 1) := by decide +kernel
theorem dX5_readNumber_94 : decode cX5_readNumber 94 = .ok (.iload_n 3, 1) := by decide +kernel
theorem dX5_readNumber_95 : decode cX5_readNumber 95 = .ok (.ifCond .ne 5, 3) := by decide +kernel
theorem dX5_readNumber_98 : decode cX5_readNumber 98 = .ok (.iconst 1, 1) := by decide +kernel
theorem dX5_readNumber_99 : decode cX5_readNumber 99 = .ok (.ireturn, 1) := by decide +kernel
theorem dX5_readNumber_100 : decode cX5_readNumber 100 = .ok (.iload_n 3, 1) := by decide +kernel
theorem dX5_readNumber_101 : decode cX5_readNumber 101 = .ok (.iconst 1, 1) := by decide +kernel
theorem dX5_readNumber_102 : decode cX5_readNumber 102 = .ok (.if_icmp .le 18, 3) := by decide +kernel
theorem dX5_readNumber_105 : decode cX5_readNumber 105 = .ok (.aload_n 0, 1) := by decide +kernel
theorem dX5_readNumber_106 : decode cX5_readNumber 106 = .ok (.getfield 9, 3) := by decide +kernel
theorem dX5_readNumber_109 : decode cX5_readNumber 109 = .ok (.iload_n 1, 1) := by decide +kernel
theorem dX5_readNumber_110 : decode cX5_readNumber 110 = .ok (.caload, 1) := by decide +kernel
theorem dX5_readNumber_111 : decode cX5_readNumber 111 = .ok (.bipush 48, 2) := by decide +kernel
theorem dX5_readNumber_113 : decode cX5_readNumber 113 = .ok (.if_icmp .ne 7, 3) := by decide +kernel
theorem dX5_readNumber_116 : decode cX5_readNumber 116 = .ok (.iconst 1, 1) := by decide +kernel
theorem dX5_readNumber_117 : decode cX5_readNumber 117 = .ok (.goto 4, 3) := by decide +kernel
theorem dX5_readNumber_120 : decode cX5_readNumber 120 = .ok (.iconst 0, 1) := by decide +kernel
theorem dX5_readNumber_121 : decode cX5_readNumber 121 = .ok (.istore 4, 2) := by decide +kernel
theorem dX5_readNumber_123 : decode cX5_readNumber 123 = .ok (.iload_n 3, 1) := by decide +kernel
theorem dX5_readNumber_124 : decode cX5_readNumber 124 = .ok (.iconst 5, 1) := by decide +kernel
theorem dX5_readNumber_125 : decode cX5_readNumber 125 = .ok (.if_icmp .gt 8, 3) := by decide +kernel
theorem dX5_readNumber_128 : decode cX5_readNumber 128 = .ok (.iload 4, 2) := by decide +kernel
theorem dX5_readNumber_130 : decode cX5_readNumber 130 = .ok (.ifCond .eq 7, 3) := by decide +kernel
theorem dX5_readNumber_133 : decode cX5_readNumber 133 = .ok (.iconst (-1), 1) := by decide +kernel
theorem dX5_readNumber_134 : decode cX5_readNumber 134 = .ok (.goto 4, 3) := by decide +kernel
theorem dX5_readNumber_137 : decode cX5_readNumber 137 = .ok (.iload_n 2, 1) := by decide +kernel
theorem dX5_readNumber_138 : decode cX5_readNumber 138 = .ok (.ireturn, 1) := by decide +kernel
theorem dX5_standAtOneTooMany_0 : decode cX5_standAtOneTooMany 0 = .ok (.aload_n 0, 1) := by decide +kernel
theorem dX5_standAtOneTooMany_1 : decode cX5_standAtOneTooMany 1 = .ok (.invokevirtual 34, 3) := by decide +kernel
theorem dX5_standAtOneTooMany_4 : decode cX5_standAtOneTooMany 4 = .ok (.pop, 1) := by decide +kernel
theorem dX5_standAtOneTooMany_5 : decode cX5_standAtOneTooMany 5 = .ok (.iconst 0, 1) := by decide +kernel
theorem dX5_standAtOneTooMany_6 : decode cX5_standAtOneTooMany 6 = .ok (.ireturn, 1) := by decide +kernel
theorem dX5_toNextSign_0 : decode cX5_toNextSign 0 = .ok (.aload_n 0, 1) := by decide +kernel
theorem dX5_toNextSign_1 : decode cX5_toNextSign 1 = .ok (.getfield 19, 3) := by decide +kernel
theorem dX5_toNextSign_4 : decode cX5_toNextSign 4 = .ok (.aload_n 0, 1) := by decide +kernel
theorem dX5_toNextSign_5 : decode cX5_toNextSign 5 = .ok (.getfield 15, 3) := by decide +kernel
theorem dX5_toNextSign_8 : decode cX5_toNextSign 8 = .ok (.if_icmp .ge 30, 3) := by decide +kernel
theorem dX5_toNextSign_11 : decode cX5_toNextSign 11 = .ok (.aload_n 0, 1) := by decide +kernel
theorem dX5_toNextSign_12 : decode cX5_toNextSign 12 = .ok (.getfield 9, 3) := by decide +kernel
theorem dX5_toNextSign_15 : decode cX5_toNextSign 15 = .ok (.aload_n 0, 1) := by decide +kernel
theorem dX5_toNextSign_16 : decode cX5_toNextSign 16 = .ok (.getfield 19, 3) := by decide +kernel
theorem dX5_toNextSign_19 : decode cX5_toNextSign 19 = .ok (.caload, 1) := by decide +kernel
theorem dX5_toNextSign_20 : decode cX5_toNextSign 20 = .ok (.bipush 32, 2) := by decide +kernel
theorem dX5_toNextSign_22 : decode cX5_toNextSign 22 = .ok (.if_icmp .ne 16, 3) := by decide +kernel
theorem dX5_toNextSign_25 : decode cX5_toNextSign 25 = .ok (.aload_n 0, 1) := by decide +kernel
theorem dX5_toNextSign_26 : decode cX5_toNextSign 26 = .ok (.dup, 1) := by decide +kernel
theorem dX5_toNextSign_27 : decode cX5_toNextSign 27 = .ok (.getfield 19, 3) := by decide +kernel
theorem dX5_toNextSign_30 : decode cX5_toNextSign 30 = .ok (.iconst 1, 1) := by decide +kernel
theorem dX5_toNextSign_31 : decode cX5_toNextSign 31 = .ok (.iadd, 1) := by decide +kernel
theorem dX5_toNextSign_32 : decode cX5_toNextSign 32 = .ok (.putfield 19, 3) := by decide +kernel
theorem dX5_toNextSign_35 : decode cX5_toNextSign 35 = .ok (.goto (-35), 3) := by decide +kernel
theorem dX5_toNextSign_38 : decode cX5_toNextSign 38 = .ok (.aload_n 0, 1) := by decide +kernel
theorem dX5_toNextSign_39 : decode cX5_toNextSign 39 = .ok (.getfield 19, 3) := by decide +kernel
theorem dX5_toNextSign_42 : decode cX5_toNextSign 42 = .ok (.aload_n 0, 1) := by decide +kernel
theorem dX5_toNextSign_43 : decode cX5_toNextSign 43 = .ok (.getfield 15, 3) := by decide +kernel
theorem dX5_toNextSign_46 : decode cX5_toNextSign 46 = .ok (.if_icmp .ge 15, 3) := by decide +kernel
theorem dX5_toNextSign_49 : decode cX5_toNextSign 49 = .ok (.aload_n 0, 1) := by decide +kernel
theorem dX5_toNextSign_50 : decode cX5_toNextSign 50 = .ok (.getfield 9, 3) := by decide +kernel
theorem dX5_toNextSign_53 : decode cX5_toNextSign 53 = .ok (.aload_n 0, 1) := by decide +kernel
theorem dX5_toNextSign_54 : decode cX5_toNextSign 54 = .ok (.getfield 19, 3) := by decide +kernel
theorem dX5_toNextSign_57 : decode cX5_toNextSign 57 = .ok (.caload, 1) := by decide +kernel
theorem dX5_toNextSign_58 : decode cX5_toNextSign 58 = .ok (.goto 4, 3) := by decide +kernel
theorem dX5_toNextSign_61 : decode cX5_toNextSign 61 = .ok (.iconst 0, 1) := by decide +kernel
theorem dX5_toNextSign_62 : decode cX5_toNextSign 62 = .ok (.ireturn, 1) := by decide +kernel
theorem dX6_init_0 : decode cX6_init 0 = .ok (.aload_n 0, 1) := by decide +kernel
theorem dX6_init_1 : decode cX6_init 1 = .ok (.invokespecial 3, 3) := by decide +kernel
theorem dX6_init_4 : decode cX6_init 4 = .ok (.aload_n 0, 1) := by decide +kernel
theorem dX6_init_5 : decode cX6_init 5 = .ok (.bipush 6, 2) := by decide +kernel
theorem dX6_init_7 : decode cX6_init 7 = .ok (.newarray .int, 2) := by decide +kernel
theorem dX6_init_9 : decode cX6_init 9 = .ok (.putfield 9, 3) := by decide +kernel
theorem dX6_init_12 : decode cX6_init 12 = .ok (.aload_n 0, 1) := by decide +kernel
theorem dX6_init_13 : decode cX6_init 13 = .ok (.bipush 30, 2) := by decide +kernel
theorem dX6_init_15 : decode cX6_init 15 = .ok (.newarray .char, 2) := by decide +kernel
theorem dX6_init_17 : decode cX6_init 17 = .ok (.putfield 15, 3) := by decide +kernel
theorem dX6_init_20 : decode cX6_init 20 = .ok (.aload_n 0, 1) := by decide +kernel
theorem dX6_init_21 : decode cX6_init 21 = .ok (.bipush 30, 2) := by decide +kernel
theorem dX6_init_23 : decode cX6_init 23 = .ok (.bipush 8, 2) := by decide +kernel
theorem dX6_init_25 : decode cX6_init 25 = .ok (.multianewarray 19 2, 4) := by decide +kernel
theorem dX6_init_29 : decode cX6_init 29 = .ok (.putfield 21, 3) := by decide +kernel
theorem dX6_init_32 : decode cX6_init 32 = .ok (.aload_n 0, 1) := by decide +kernel
theorem dX6_init_33 : decode cX6_init 33 = .ok (.bipush 6, 2) := by decide +kernel
theorem dX6_init_35 : decode cX6_init 35 = .ok (.newarray .long, 2) := by decide +kernel
theorem dX6_init_37 : decode cX6_init 37 = .ok (.putfield 24, 3) := by decide +kernel
theorem dX6_init_40 : decode cX6_init 40 = .ok (.aload_n 0, 1) := by decide +kernel
theorem dX6_init_41 : decode cX6_init 41 = .ok (.bipush 6, 2) := by decide +kernel
theorem dX6_init_43 : decode cX6_init 43 = .ok (.newarray .long, 2) := by decide +kernel
theorem dX6_init_45 : decode cX6_init 45 = .ok (.putfield 28, 3) := by decide +kernel
theorem dX6_init_48 : decode cX6_init 48 = .ok (.aload_n 0, 1) := by decide +kernel
theorem dX6_init_49 : decode cX6_init 49 = .ok (.iconst 0, 1) := by decide +kernel
theorem dX6_init_50 : decode cX6_init 50 = .ok (.putfield 31, 3) := by decide +kernel
theorem dX6_init_53 : decode cX6_init 53 = .ok (.aload_n 0, 1) := by decide +kernel
theorem dX6_init_54 : decode cX6_init 54 = .ok (.iconst 0, 1) := by decide +kernel
theorem dX6_init_55 : decode cX6_init 55 = .ok (.putfield 35, 3) := by decide +kernel
theorem dX6_init_58 : decode cX6_init 58 = .ok (.return_, 1) := by decide +kernel
theorem dX6_size_0 : decode cX6_size 0 = .ok (.aload_n 0, 1) := by decide +kernel
theorem dX6_size_1 : decode cX6_size 1 = .ok (.getfield 31, 3) := by decide +kernel
theorem dX6_size_4 : decode cX6_size 4 = .ok (.ireturn, 1) := by decide +kernel
theorem dX6_clear_0 : decode cX6_clear 0 = .ok (.aload_n 0, 1) := by decide +kernel
theorem dX6_clear_1 : decode cX6_clear 1 = .ok (.iconst 0, 1) := by decide +kernel
theorem dX6_clear_2 : decode cX6_clear 2 = .ok (.putfield 31, 3) := by decide +kernel
theorem dX6_clear_5 : decode cX6_clear 5 = .ok (.aload_n 0, 1) := by decide +kernel
theorem dX6_clear_6 : decode cX6_clear 6 = .ok (.iconst 0, 1) := by decide +kernel
theorem dX6_clear_7 : decode cX6_clear 7 = .ok (.putfield 35, 3) := by decide +kernel
theorem dX6_clear_10 : decode cX6_clear 10 = .ok (.return_, 1) := by decide +kernel
theorem dX6_beginTest_0 : decode cX6_beginTest 0 = .ok (.aload_n 0, 1) := by decide +kernel
theorem dX6_beginTest_1 : decode cX6_beginTest 1 = .ok (.getfield 35, 3) := by decide +kernel
theorem dX6_beginTest_4 : decode cX6_beginTest 4 = .ok (.aload_n 0, 1) := by decide +kernel
theorem dX6_beginTest_5 : decode cX6_beginTest 5 = .ok (.getfield 21, 3) := by decide +kernel
theorem dX6_beginTest_8 : decode cX6_beginTest 8 = .ok (.arraylength, 1) := by decide +kernel
theorem dX6_beginTest_9 : decode cX6_beginTest 9 = .ok (.if_icmp .ge 29, 3) := by decide +kernel
theorem dX6_beginTest_12 : decode cX6_beginTest 12 = .ok (.iconst 0, 1) := by decide +kernel
theorem dX6_beginTest_13 : decode cX6_beginTest 13 = .ok (.istore_n 1, 1) := by decide +kernel
theorem dX6_beginTest_14 : decode cX6_beginTest 14 = .ok (.iload_n 1, 1) := by decide +kernel
theorem dX6_beginTest_15 : decode cX6_beginTest 15 = .ok (.bipush 8, 2) := by decide +kernel
theorem dX6_beginTest_17 : decode cX6_beginTest 17 = .ok (.if_icmp .ge 21, 3) := by decide +kernel
theorem dX6_beginTest_20 : decode cX6_beginTest 20 = .ok (.aload_n 0, 1) := by decide +kernel
theorem dX6_beginTest_21 : decode cX6_beginTest 21 = .ok (.getfield 21, 3) := by decide +kernel
theorem dX6_beginTest_24 : decode cX6_beginTest 24 = .ok (.aload_n 0, 1) := by decide +kernel
theorem dX6_beginTest_25 : decode cX6_beginTest 25 = .ok (.getfield 35, 3) := by decide +kernel
theorem dX6_beginTest_28 : decode cX6_beginTest 28 = .ok (.aaload, 1) := by decide +kernel
theorem dX6_beginTest_29 : decode cX6_beginTest 29 = .ok (.iload_n 1, 1) := by decide +kernel
theorem dX6_beginTest_30 : decode cX6_beginTest 30 = .ok (.iconst 0, 1) := by decide +kernel
theorem dX6_beginTest_31 : decode cX6_beginTest 31 = .ok (.iastore, 1) := by decide +kernel
theorem dX6_beginTest_32 : decode cX6_beginTest 32 = .ok (.iinc 1 1, 3) := by decide +kernel
theorem dX6_beginTest_35 : decode cX6_beginTest 35 = .ok (.goto (-21), 3) := by decide +kernel
theorem dX6_beginTest_38 : decode cX6_beginTest 38 = .ok (.return_, 1) := by decide +kernel
theorem dX6_addTerm_0 : decode cX6_addTerm 0 = .ok (.aload_n 0, 1) := by decide +kernel
theorem dX6_addTerm_1 : decode cX6_addTerm 1 = .ok (.getfield 35, 3) := by decide +kernel
theorem dX6_addTerm_4 : decode cX6_addTerm 4 = .ok (.aload_n 0, 1) := by decide +kernel
theorem dX6_addTerm_5 : decode cX6_addTerm 5 = .ok (.getfield 21, 3) := by decide +kernel
theorem dX6_addTerm_8 : decode cX6_addTerm 8 = .ok (.arraylength, 1) := by decide +kernel
theorem dX6_addTerm_9 : decode cX6_addTerm 9 = .ok (.if_icmp .ge 29, 3) := by decide +kernel
theorem dX6_addTerm_12 : decode cX6_addTerm 12 = .ok (.iconst 0, 1) := by decide +kernel
theorem dX6_addTerm_13 : decode cX6_addTerm 13 = .ok (.iload_n 1, 1) := by decide +kernel
theorem dX6_addTerm_14 : decode cX6_addTerm 14 = .ok (.if_icmp .gt 24, 3) := by decide +kernel
theorem dX6_addTerm_17 : decode cX6_addTerm 17 = .ok (.iload_n 1, 1) := by decide +kernel
theorem dX6_addTerm_18 : decode cX6_addTerm 18 = .ok (.bipush 8, 2) := by decide +kernel
theorem dX6_addTerm_20 : decode cX6_addTerm 20 = .ok (.if_icmp .ge 18, 3) := by decide +kernel
theorem dX6_addTerm_23 : decode cX6_addTerm 23 = .ok (.aload_n 0, 1) := by decide +kernel
theorem dX6_addTerm_24 : decode cX6_addTerm 24 = .ok (.getfield 21, 3) := by decide +kernel
theorem dX6_addTerm_27 : decode cX6_addTerm 27 = .ok (.aload_n 0, 1) := by decide +kernel
theorem dX6_addTerm_28 : decode cX6_addTerm 28 = .ok (.getfield 35, 3) := by decide +kernel
theorem dX6_addTerm_31 : decode cX6_addTerm 31 = .ok (.aaload, 1) := by decide +kernel
theorem dX6_addTerm_32 : decode cX6_addTerm 32 = .ok (.iload_n 1, 1) := by decide +kernel
theorem dX6_addTerm_33 : decode cX6_addTerm 33 = .ok (.dup2, 1) := by decide +kernel
theorem dX6_addTerm_34 : decode cX6_addTerm 34 = .ok (.iaload, 1) := by decide +kernel
theorem dX6_addTerm_35 : decode cX6_addTerm 35 = .ok (.iload_n 2, 1) := by decide +kernel
theorem dX6_addTerm_36 : decode cX6_addTerm 36 = .ok (.iadd, 1) := by decide +kernel
theorem dX6_addTerm_37 : decode cX6_addTerm 37 = .ok (.iastore, 1) := by decide +kernel
theorem dX6_addTerm_38 : decode cX6_addTerm 38 = .ok (.return_, 1) := by decide +kernel
theorem dX6_endTest_0 : decode cX6_endTest 0 = .ok (.aload_n 0, 1) := by decide +kernel
theorem dX6_endTest_1 : decode cX6_endTest 1 = .ok (.getfield 35, 3) := by decide +kernel
theorem dX6_endTest_4 : decode cX6_endTest 4 = .ok (.aload_n 0, 1) := by decide +kernel
theorem dX6_endTest_5 : decode cX6_endTest 5 = .ok (.getfield 15, 3) := by decide +kernel
theorem dX6_endTest_8 : decode cX6_endTest 8 = .ok (.arraylength, 1) := by decide +kernel
theorem dX6_endTest_9 : decode cX6_endTest 9 = .ok (.if_icmp .ge 23, 3) := by decide +kernel
theorem dX6_endTest_12 : decode cX6_endTest 12 = .ok (.aload_n 0, 1) := by decide +kernel
theorem dX6_endTest_13 : decode cX6_endTest 13 = .ok (.getfield 15, 3) := by decide +kernel
theorem dX6_endTest_16 : decode cX6_endTest 16 = .ok (.aload_n 0, 1) := by decide +kernel
theorem dX6_endTest_17 : decode cX6_endTest 17 = .ok (.getfield 35, 3) := by decide +kernel
theorem dX6_endTest_20 : decode cX6_endTest 20 = .ok (.iload_n 1, 1) := by decide +kernel
theorem dX6_endTest_21 : decode cX6_endTest 21 = .ok (.castore, 1) := by decide +kernel
theorem dX6_endTest_22 : decode cX6_endTest 22 = .ok (.aload_n 0, 1) := by decide +kernel
theorem dX6_endTest_23 : decode cX6_endTest 23 = .ok (.dup, 1) := by decide +kernel
theorem dX6_endTest_24 : decode cX6_endTest 24 = .ok (.getfield 35, 3) := by decide +kernel
theorem dX6_endTest_27 : decode cX6_endTest 27 = .ok (.iconst 1, 1) := by decide +kernel
theorem dX6_endTest_28 : decode cX6_endTest 28 = .ok (.iadd, 1) := by decide +kernel
theorem dX6_endTest_29 : decode cX6_endTest 29 = .ok (.putfield 35, 3) := by decide +kernel
theorem dX6_endTest_32 : decode cX6_endTest 32 = .ok (.return_, 1) := by decide +kernel
theorem dX6_endState_0 : decode cX6_endState 0 = .ok (.aload_n 0, 1) := by decide +kernel
theorem dX6_endState_1 : decode cX6_endState 1 = .ok (.getfield 31, 3) := by decide +kernel
theorem dX6_endState_4 : decode cX6_endState 4 = .ok (.bipush 6, 2) := by decide +kernel
theorem dX6_endState_6 : decode cX6_endState 6 = .ok (.if_icmp .ge 26, 3) := by decide +kernel
theorem dX6_endState_9 : decode cX6_endState 9 = .ok (.aload_n 0, 1) := by decide +kernel
theorem dX6_endState_10 : decode cX6_endState 10 = .ok (.getfield 9, 3) := by decide +kernel
theorem dX6_endState_13 : decode cX6_endState 13 = .ok (.aload_n 0, 1) := by decide +kernel
theorem dX6_endState_14 : decode cX6_endState 14 = .ok (.getfield 31, 3) := by decide +kernel
theorem dX6_endState_17 : decode cX6_endState 17 = .ok (.aload_n 0, 1) := by decide +kernel
theorem dX6_endState_18 : decode cX6_endState 18 = .ok (.getfield 35, 3) := by decide +kernel
theorem dX6_endState_21 : decode cX6_endState 21 = .ok (.iastore, 1) := by decide +kernel
theorem dX6_endState_22 : decode cX6_endState 22 = .ok (.aload_n 0, 1) := by decide +kernel
theorem dX6_endState_23 : decode cX6_endState 23 = .ok (.dup, 1) := by decide +kernel
theorem dX6_endState_24 : decode cX6_endState 24 = .ok (.getfield 31, 3) := by decide +kernel
theorem dX6_endState_27 : decode cX6_endState 27 = .ok (.iconst 1, 1) := by decide +kernel
theorem dX6_endState_28 : decode cX6_endState 28 = .ok (.iadd, 1) := by decide +kernel
theorem dX6_endState_29 : decode cX6_endState 29 = .ok (.putfield 31, 3) := by decide +kernel
theorem dX6_endState_32 : decode cX6_endState 32 = .ok (.return_, 1) := by decide +kernel
theorem dX6_findSpans_0 : decode cX6_findSpans 0 = .ok (.iconst 0, 1) := by decide +kernel
theorem dX6_findSpans_1 : decode cX6_findSpans 1 = .ok (.istore_n 2, 1) := by decide +kernel
theorem dX6_findSpans_2 : decode cX6_findSpans 2 = .ok (.iconst 0, 1) := by decide +kernel
theorem dX6_findSpans_3 : decode cX6_findSpans 3 = .ok (.istore_n 3, 1) := by decide +kernel
theorem dX6_findSpans_4 : decode cX6_findSpans 4 = .ok (.iload_n 3, 1) := by decide +kernel
theorem dX6_findSpans_5 : decode cX6_findSpans 5 = .ok (.aload_n 0, 1) := by decide +kernel
theorem dX6_findSpans_6 : decode cX6_findSpans 6 = .ok (.getfield 31, 3) := by decide +kernel
theorem dX6_findSpans_9 : decode cX6_findSpans 9 = .ok (.if_icmp .ge 48, 3) := by decide +kernel
theorem dX6_findSpans_12 : decode cX6_findSpans 12 = .ok (.aload_n 0, 1) := by decide +kernel
theorem dX6_findSpans_13 : decode cX6_findSpans 13 = .ok (.getfield 24, 3) := by decide +kernel
theorem dX6_findSpans_16 : decode cX6_findSpans 16 = .ok (.iload_n 3, 1) := by decide +kernel
theorem dX6_findSpans_17 : decode cX6_findSpans 17 = .ok (.lconst 0, 1) := by decide +kernel
theorem dX6_findSpans_18 : decode cX6_findSpans 18 = .ok (.lastore, 1) := by decide +kernel
theorem dX6_findSpans_19 : decode cX6_findSpans 19 = .ok (.aload_n 0, 1) := by decide +kernel
theorem dX6_findSpans_20 : decode cX6_findSpans 20 = .ok (.getfield 28, 3) := by decide +kernel
theorem dX6_findSpans_23 : decode cX6_findSpans 23 = .ok (.iload_n 3, 1) := by decide +kernel
theorem dX6_findSpans_24 : decode cX6_findSpans 24 = .ok (.ldc2_w 38, 3) := by decide +kernel
theorem dX6_findSpans_27 : decode cX6_findSpans 27 = .ok (.lastore, 1) := by decide +kernel
theorem dX6_findSpans_28 : decode cX6_findSpans 28 = .ok (.iload_n 2, 1) := by decide +kernel
theorem dX6_findSpans_29 : decode cX6_findSpans 29 = .ok (.aload_n 0, 1) := by decide +kernel
theorem dX6_findSpans_30 : decode cX6_findSpans 30 = .ok (.getfield 9, 3) := by decide +kernel
theorem dX6_findSpans_33 : decode cX6_findSpans 33 = .ok (.iload_n 3, 1) := by decide +kernel
theorem dX6_findSpans_34 : decode cX6_findSpans 34 = .ok (.iaload, 1) := by decide +kernel
theorem dX6_findSpans_35 : decode cX6_findSpans 35 = .ok (.if_icmp .ge 16, 3) := by decide +kernel
theorem dX6_findSpans_38 : decode cX6_findSpans 38 = .ok (.aload_n 0, 1) := by decide +kernel
theorem dX6_findSpans_39 : decode cX6_findSpans 39 = .ok (.iload_n 3, 1) := by decide +kernel
theorem dX6_findSpans_40 : decode cX6_findSpans 40 = .ok (.iload_n 2, 1) := by decide +kernel
theorem dX6_findSpans_41 : decode cX6_findSpans 41 = .ok (.aload_n 1, 1) := by decide +kernel
theorem dX6_findSpans_42 : decode cX6_findSpans 42 = .ok (.invokevirtual 40, 3) := by decide +kernel
theorem dX6_findSpans_45 : decode cX6_findSpans 45 = .ok (.iinc 2 1, 3) := by decide +kernel
theorem dX6_findSpans_48 : decode cX6_findSpans 48 = .ok (.goto (-20), 3) := by decide +kernel
theorem dX6_findSpans_51 : decode cX6_findSpans 51 = .ok (.iinc 3 1, 3) := by decide +kernel
theorem dX6_findSpans_54 : decode cX6_findSpans 54 = .ok (.goto (-50), 3) := by decide +kernel
theorem dX6_findSpans_57 : decode cX6_findSpans 57 = .ok (.return_, 1) := by decide +kernel
theorem dX6_narrowByTest_0 : decode cX6_narrowByTest 0 = .ok (.aload_n 0, 1) := by decide +kernel
theorem dX6_narrowByTest_1 : decode cX6_narrowByTest 1 = .ok (.getfield 21, 3) := by decide +kernel
theorem dX6_narrowByTest_4 : decode cX6_narrowByTest 4 = .ok (.iload_n 2, 1) := by decide +kernel
theorem dX6_narrowByTest_5 : decode cX6_narrowByTest 5 = .ok (.aaload, 1) := by decide +kernel
theorem dX6_narrowByTest_6 : decode cX6_narrowByTest 6 = .ok (.iconst 0, 1) := by decide +kernel
theorem dX6_narrowByTest_7 : decode cX6_narrowByTest 7 = .ok (.iaload, 1) := by decide +kernel
theorem dX6_narrowByTest_8 : decode cX6_narrowByTest 8 = .ok (.i2l, 1) := by decide +kernel
theorem dX6_narrowByTest_9 : decode cX6_narrowByTest 9 = .ok (.lstore 4, 2) := by decide +kernel
theorem dX6_narrowByTest_11 : decode cX6_narrowByTest 11 = .ok (.lconst 0, 1) := by decide +kernel
theorem dX6_narrowByTest_12 : decode cX6_narrowByTest 12 = .ok (.lstore 6, 2) := by decide +kernel
theorem dX6_narrowByTest_14 : decode cX6_narrowByTest 14 = .ok (.iconst 1, 1) := by decide +kernel
theorem dX6_narrowByTest_15 : decode cX6_narrowByTest 15 = .ok (.istore 8, 2) := by decide +kernel
theorem dX6_narrowByTest_17 : decode cX6_narrowByTest 17 = .ok (.iload 8, 2) := by decide +kernel
theorem dX6_narrowByTest_19 : decode cX6_narrowByTest 19 = .ok (.bipush 8, 2) := by decide +kernel
theorem dX6_narrowByTest_21 : decode cX6_narrowByTest 21 = .ok (.if_icmp .ge 37, 3) := by decide +kernel
theorem dX6_narrowByTest_24 : decode cX6_narrowByTest 24 = .ok (.iload 8, 2) := by decide +kernel
theorem dX6_narrowByTest_26 : decode cX6_narrowByTest 26 = .ok (.aload_n 3, 1) := by decide +kernel
theorem dX6_narrowByTest_27 : decode cX6_narrowByTest 27 = .ok (.arraylength, 1) := by decide +kernel
theorem dX6_narrowByTest_28 : decode cX6_narrowByTest 28 = .ok (.if_icmp .ge 30, 3) := by decide +kernel
theorem dX6_narrowByTest_31 : decode cX6_narrowByTest 31 = .ok (.lload 6, 2) := by decide +kernel
theorem dX6_narrowByTest_33 : decode cX6_narrowByTest 33 = .ok (.aload_n 0, 1) := by decide +kernel
theorem dX6_narrowByTest_34 : decode cX6_narrowByTest 34 = .ok (.getfield 21, 3) := by decide +kernel
theorem dX6_narrowByTest_37 : decode cX6_narrowByTest 37 = .ok (.iload_n 2, 1) := by decide +kernel
theorem dX6_narrowByTest_38 : decode cX6_narrowByTest 38 = .ok (.aaload, 1) := by decide +kernel
theorem dX6_narrowByTest_39 : decode cX6_narrowByTest 39 = .ok (.iload 8, 2) := by decide +kernel
theorem dX6_narrowByTest_41 : decode cX6_narrowByTest 41 = .ok (.iaload, 1) := by decide +kernel
theorem dX6_narrowByTest_42 : decode cX6_narrowByTest 42 = .ok (.i2l, 1) := by decide +kernel
theorem dX6_narrowByTest_43 : decode cX6_narrowByTest 43 = .ok (.aload_n 3, 1) := by decide +kernel
theorem dX6_narrowByTest_44 : decode cX6_narrowByTest 44 = .ok (.iload 8, 2) := by decide +kernel
theorem dX6_narrowByTest_46 : decode cX6_narrowByTest 46 = .ok (.iaload, 1) := by decide +kernel
theorem dX6_narrowByTest_47 : decode cX6_narrowByTest 47 = .ok (.i2l, 1) := by decide +kernel
theorem dX6_narrowByTest_48 : decode cX6_narrowByTest 48 = .ok (.lmul, 1) := by decide +kernel
theorem dX6_narrowByTest_49 : decode cX6_narrowByTest 49 = .ok (.ladd, 1) := by decide +kernel
theorem dX6_narrowByTest_50 : decode cX6_narrowByTest 50 = .ok (.lstore 6, 2) := by decide +kernel
theorem dX6_narrowByTest_52 : decode cX6_narrowByTest 52 = .ok (.iinc 8 1, 3) := by decide +kernel
theorem dX6_narrowByTest_55 : decode cX6_narrowByTest 55 = .ok (.goto (-38), 3) := by decide +kernel
theorem dX6_narrowByTest_58 : decode cX6_narrowByTest 58 = .ok (.aload_n 0, 1) := by decide +kernel
theorem dX6_narrowByTest_59 : decode cX6_narrowByTest 59 = .ok (.getfield 15, 3) := by decide +kernel
theorem dX6_narrowByTest_62 : decode cX6_narrowByTest 62 = .ok (.iload_n 2, 1) := by decide +kernel
theorem dX6_narrowByTest_63 : decode cX6_narrowByTest 63 = .ok (.caload, 1) := by decide +kernel
theorem dX6_narrowByTest_64 : decode cX6_narrowByTest 64 = .ok (.istore 8, 2) := by decide +kernel
theorem dX6_narrowByTest_66 : decode cX6_narrowByTest 66 = .ok (.iload 8, 2) := by decide +kernel
theorem dX6_narrowByTest_68 : decode cX6_narrowByTest 68 = .ok (.bipush 61, 2) := by decide +kernel
theorem dX6_narrowByTest_70 : decode cX6_narrowByTest 70 = .ok (.if_icmp .ne 7, 3) := by decide +kernel
theorem dX6_narrowByTest_73 : decode cX6_narrowByTest 73 = .ok (.lconst 0, 1) := by decide +kernel
theorem dX6_narrowByTest_74 : decode cX6_narrowByTest 74 = .ok (.goto 6, 3) := by decide +kernel
theorem dX6_narrowByTest_77 : decode cX6_narrowByTest 77 = .ok (.ldc2_w 44, 3) := by decide +kernel
theorem dX6_narrowByTest_80 : decode cX6_narrowByTest 80 = .ok (.lstore 9, 2) := by decide +kernel
theorem dX6_narrowByTest_82 : decode cX6_narrowByTest 82 = .ok (.iload 8, 2) := by decide +kernel
theorem dX6_narrowByTest_84 : decode cX6_narrowByTest 84 = .ok (.bipush 62, 2) := by decide +kernel
theorem dX6_narrowByTest_86 : decode cX6_narrowByTest 86 = .ok (.if_icmp .eq 15, 3) := by decide +kernel
theorem dX6_narrowByTest_89 : decode cX6_narrowByTest 89 = .ok (.aload_n 0, 1) := by decide +kernel
theorem dX6_narrowByTest_90 : decode cX6_narrowByTest 90 = .ok (.iload_n 1, 1) := by decide +kernel
theorem dX6_narrowByTest_91 : decode cX6_narrowByTest 91 = .ok (.lload 4, 2) := by decide +kernel
theorem dX6_narrowByTest_93 : decode cX6_narrowByTest 93 = .ok (.lload 9, 2) := by decide +kernel
theorem dX6_narrowByTest_95 : decode cX6_narrowByTest 95 = .ok (.lload 6, 2) := by decide +kernel
theorem dX6_narrowByTest_97 : decode cX6_narrowByTest 97 = .ok (.lsub, 1) := by decide +kernel
theorem dX6_narrowByTest_98 : decode cX6_narrowByTest 98 = .ok (.invokevirtual 46, 3) := by decide +kernel
theorem dX6_narrowByTest_101 : decode cX6_narrowByTest 101 = .ok (.iload 8, 2) := by decide +kernel
theorem dX6_narrowByTest_103 : decode cX6_narrowByTest 103 = .ok (.bipush 60, 2) := by decide +kernel
theorem dX6_narrowByTest_105 : decode cX6_narrowByTest 105 = .ok (.if_icmp .eq 16, 3) := by decide +kernel
theorem dX6_narrowByTest_108 : decode cX6_narrowByTest 108 = .ok (.aload_n 0, 1) := by decide +kernel
theorem dX6_narrowByTest_109 : decode cX6_narrowByTest 109 = .ok (.iload_n 1, 1) := by decide +kernel
theorem dX6_narrowByTest_110 : decode cX6_narrowByTest 110 = .ok (.lload 4, 2) := by decide +kernel
theorem dX6_narrowByTest_112 : decode cX6_narrowByTest 112 = .ok (.lneg, 1) := by decide +kernel
theorem dX6_narrowByTest_113 : decode cX6_narrowByTest 113 = .ok (.lload 9, 2) := by decide +kernel
theorem dX6_narrowByTest_115 : decode cX6_narrowByTest 115 = .ok (.lload 6, 2) := by decide +kernel
theorem dX6_narrowByTest_117 : decode cX6_narrowByTest 117 = .ok (.ladd, 1) := by decide +kernel
theorem dX6_narrowByTest_118 : decode cX6_narrowByTest 118 = .ok (.invokevirtual 46, 3) := by decide +kernel
theorem dX6_narrowByTest_121 : decode cX6_narrowByTest 121 = .ok (.return_, 1) := by decide +kernel
theorem dX6_narrow_0 : decode cX6_narrow 0 = .ok (.lload_n 2, 1) := by decide +kernel
theorem dX6_narrow_1 : decode cX6_narrow 1 = .ok (.lconst 0, 1) := by decide +kernel
theorem dX6_narrow_2 : decode cX6_narrow 2 = .ok (.lcmp, 1) := by decide +kernel
theorem dX6_narrow_3 : decode cX6_narrow 3 = .ok (.ifCond .le 27, 3) := by decide +kernel
theorem dX6_narrow_6 : decode cX6_narrow 6 = .ok (.aload_n 0, 1) := by decide +kernel
theorem dX6_narrow_7 : decode cX6_narrow 7 = .ok (.getfield 28, 3) := by decide +kernel
theorem dX6_narrow_10 : decode cX6_narrow 10 = .ok (.iload_n 1, 1) := by decide +kernel
theorem dX6_narrow_11 : decode cX6_narrow 11 = .ok (.aload_n 0, 1) := by decide +kernel
theorem dX6_narrow_12 : decode cX6_narrow 12 = .ok (.getfield 28, 3) := by decide +kernel
theorem dX6_narrow_15 : decode cX6_narrow 15 = .ok (.iload_n 1, 1) := by decide +kernel
theorem dX6_narrow_16 : decode cX6_narrow 16 = .ok (.laload, 1) := by decide +kernel
theorem dX6_narrow_17 : decode cX6_narrow 17 = .ok (.lload 4, 2) := by decide +kernel
theorem dX6_narrow_19 : decode cX6_narrow 19 = .ok (.lload_n 2, 1) := by decide +kernel
theorem dX6_narrow_20 : decode cX6_narrow 20 = .ok (.invokestatic 50, 3) := by decide +kernel
theorem dX6_narrow_23 : decode cX6_narrow 23 = .ok (.invokestatic 56, 3) := by decide +kernel
theorem dX6_narrow_26 : decode cX6_narrow 26 = .ok (.lastore, 1) := by decide +kernel
theorem dX6_narrow_27 : decode cX6_narrow 27 = .ok (.goto 51, 3) := by decide +kernel
theorem dX6_narrow_30 : decode cX6_narrow 30 = .ok (.lload_n 2, 1) := by decide +kernel
theorem dX6_narrow_31 : decode cX6_narrow 31 = .ok (.lconst 0, 1) := by decide +kernel
theorem dX6_narrow_32 : decode cX6_narrow 32 = .ok (.lcmp, 1) := by decide +kernel
theorem dX6_narrow_33 : decode cX6_narrow 33 = .ok (.ifCond .ge 29, 3) := by decide +kernel
theorem dX6_narrow_36 : decode cX6_narrow 36 = .ok (.aload_n 0, 1) := by decide +kernel
theorem dX6_narrow_37 : decode cX6_narrow 37 = .ok (.getfield 24, 3) := by decide +kernel
theorem dX6_narrow_40 : decode cX6_narrow 40 = .ok (.iload_n 1, 1) := by decide +kernel
theorem dX6_narrow_41 : decode cX6_narrow 41 = .ok (.aload_n 0, 1) := by decide +kernel
theorem dX6_narrow_42 : decode cX6_narrow 42 = .ok (.getfield 24, 3) := by decide +kernel
theorem dX6_narrow_45 : decode cX6_narrow 45 = .ok (.iload_n 1, 1) := by decide +kernel
theorem dX6_narrow_46 : decode cX6_narrow 46 = .ok (.laload, 1) := by decide +kernel
theorem dX6_narrow_47 : decode cX6_narrow 47 = .ok (.lload 4, 2) := by decide +kernel
theorem dX6_narrow_49 : decode cX6_narrow 49 = .ok (.lload_n 2, 1) := by decide +kernel
theorem dX6_narrow_50 : decode cX6_narrow 50 = .ok (.lneg, 1) := by decide +kernel
theorem dX6_narrow_51 : decode cX6_narrow 51 = .ok (.invokestatic 50, 3) := by decide +kernel
theorem dX6_narrow_54 : decode cX6_narrow 54 = .ok (.lneg, 1) := by decide +kernel
theorem dX6_narrow_55 : decode cX6_narrow 55 = .ok (.invokestatic 59, 3) := by decide +kernel
theorem dX6_narrow_58 : decode cX6_narrow 58 = .ok (.lastore, 1) := by decide +kernel
theorem dX6_narrow_59 : decode cX6_narrow 59 = .ok (.goto 19, 3) := by decide +kernel
theorem dX6_narrow_62 : decode cX6_narrow 62 = .ok (.lload 4, 2) := by decide +kernel
theorem dX6_narrow_64 : decode cX6_narrow 64 = .ok (.lconst 0, 1) := by decide +kernel
theorem dX6_narrow_65 : decode cX6_narrow 65 = .ok (.lcmp, 1) := by decide +kernel
theorem dX6_narrow_66 : decode cX6_narrow 66 = .ok (.ifCond .ge 12, 3) := by decide +kernel
theorem dX6_narrow_69 : decode cX6_narrow 69 = .ok (.aload_n 0, 1) := by decide +kernel
theorem dX6_narrow_70 : decode cX6_narrow 70 = .ok (.getfield 28, 3) := by decide +kernel
theorem dX6_narrow_73 : decode cX6_narrow 73 = .ok (.iload_n 1, 1) := by decide +kernel
theorem dX6_narrow_74 : decode cX6_narrow 74 = .ok (.ldc2_w 44, 3) := by decide +kernel
theorem dX6_narrow_77 : decode cX6_narrow 77 = .ok (.lastore, 1) := by decide +kernel
theorem dX6_narrow_78 : decode cX6_narrow 78 = .ok (.return_, 1) := by decide +kernel
theorem dX6_spans_0 : decode cX6_spans 0 = .ok (.aload_n 0, 1) := by decide +kernel
theorem dX6_spans_1 : decode cX6_spans 1 = .ok (.getfield 24, 3) := by decide +kernel
theorem dX6_spans_4 : decode cX6_spans 4 = .ok (.iload_n 1, 1) := by decide +kernel
theorem dX6_spans_5 : decode cX6_spans 5 = .ok (.laload, 1) := by decide +kernel
theorem dX6_spans_6 : decode cX6_spans 6 = .ok (.lload_n 2, 1) := by decide +kernel
theorem dX6_spans_7 : decode cX6_spans 7 = .ok (.lcmp, 1) := by decide +kernel
theorem dX6_spans_8 : decode cX6_spans 8 = .ok (.ifCond .gt 18, 3) := by decide +kernel
theorem dX6_spans_11 : decode cX6_spans 11 = .ok (.lload_n 2, 1) := by decide +kernel
theorem dX6_spans_12 : decode cX6_spans 12 = .ok (.aload_n 0, 1) := by decide +kernel
theorem dX6_spans_13 : decode cX6_spans 13 = .ok (.getfield 28, 3) := by decide +kernel
theorem dX6_spans_16 : decode cX6_spans 16 = .ok (.iload_n 1, 1) := by decide +kernel
theorem dX6_spans_17 : decode cX6_spans 17 = .ok (.laload, 1) := by decide +kernel
theorem dX6_spans_18 : decode cX6_spans 18 = .ok (.lcmp, 1) := by decide +kernel
theorem dX6_spans_19 : decode cX6_spans 19 = .ok (.ifCond .gt 7, 3) := by decide +kernel
theorem dX6_spans_22 : decode cX6_spans 22 = .ok (.iconst 1, 1) := by decide +kernel
theorem dX6_spans_23 : decode cX6_spans 23 = .ok (.goto 4, 3) := by decide +kernel
theorem dX6_spans_26 : decode cX6_spans 26 = .ok (.iconst 0, 1) := by decide +kernel
theorem dX6_spans_27 : decode cX6_spans 27 = .ok (.ireturn, 1) := by decide +kernel
theorem dX6_firstAt_0 : decode cX6_firstAt 0 = .ok (.iconst 0, 1) := by decide +kernel
theorem dX6_firstAt_1 : decode cX6_firstAt 1 = .ok (.istore_n 2, 1) := by decide +kernel
theorem dX6_firstAt_2 : decode cX6_firstAt 2 = .ok (.iload_n 2, 1) := by decide +kernel
theorem dX6_firstAt_3 : decode cX6_firstAt 3 = .ok (.aload_n 0, 1) := by decide +kernel
theorem dX6_firstAt_4 : decode cX6_firstAt 4 = .ok (.getfield 31, 3) := by decide +kernel
theorem dX6_firstAt_7 : decode cX6_firstAt 7 = .ok (.if_icmp .ge 21, 3) := by decide +kernel
theorem dX6_firstAt_10 : decode cX6_firstAt 10 = .ok (.aload_n 0, 1) := by decide +kernel
theorem dX6_firstAt_11 : decode cX6_firstAt 11 = .ok (.iload_n 2, 1) := by decide +kernel
theorem dX6_firstAt_12 : decode cX6_firstAt 12 = .ok (.iload_n 1, 1) := by decide +kernel
theorem dX6_firstAt_13 : decode cX6_firstAt 13 = .ok (.i2l, 1) := by decide +kernel
theorem dX6_firstAt_14 : decode cX6_firstAt 14 = .ok (.invokevirtual 62, 3) := by decide +kernel
theorem dX6_firstAt_17 : decode cX6_firstAt 17 = .ok (.ifCond .eq 5, 3) := by decide +kernel
theorem dX6_firstAt_20 : decode cX6_firstAt 20 = .ok (.iload_n 2, 1) := by decide +kernel
theorem dX6_firstAt_21 : decode cX6_firstAt 21 = .ok (.ireturn, 1) := by decide +kernel
theorem dX6_firstAt_22 : decode cX6_firstAt 22 = .ok (.iinc 2 1, 3) := by decide +kernel
theorem dX6_firstAt_25 : decode cX6_firstAt 25 = .ok (.goto (-23), 3) := by decide +kernel
theorem dX6_firstAt_28 : decode cX6_firstAt 28 = .ok (.iconst (-1), 1) := by decide +kernel
theorem dX6_firstAt_29 : decode cX6_firstAt 29 = .ok (.ireturn, 1) := by decide +kernel
theorem dX6_leastHead_0 : decode cX6_leastHead 0 = .ok (.iload_n 1, 1) := by decide +kernel
theorem dX6_leastHead_1 : decode cX6_leastHead 1 = .ok (.i2l, 1) := by decide +kernel
theorem dX6_leastHead_2 : decode cX6_leastHead 2 = .ok (.lconst 0, 1) := by decide +kernel
theorem dX6_leastHead_3 : decode cX6_leastHead 3 = .ok (.aload_n 0, 1) := by decide +kernel
theorem dX6_leastHead_4 : decode cX6_leastHead 4 = .ok (.getfield 31, 3) := by decide +kernel
theorem dX6_leastHead_7 : decode cX6_leastHead 7 = .ok (.iconst 1, 1) := by decide +kernel
theorem dX6_leastHead_8 : decode cX6_leastHead 8 = .ok (.isub, 1) := by decide +kernel
theorem dX6_leastHead_9 : decode cX6_leastHead 9 = .ok (.i2l, 1) := by decide +kernel
theorem dX6_leastHead_10 : decode cX6_leastHead 10 = .ok (.invokestatic 66, 3) := by decide +kernel
theorem dX6_leastHead_13 : decode cX6_leastHead 13 = .ok (.ifCond .ne 5, 3) := by decide +kernel
theorem dX6_leastHead_16 : decode cX6_leastHead 16 = .ok (.iconst (-1), 1) := by decide +kernel
theorem dX6_leastHead_17 : decode cX6_leastHead 17 = .ok (.ireturn, 1) := by decide +kernel
theorem dX6_leastHead_18 : decode cX6_leastHead 18 = .ok (.aload_n 0, 1) := by decide +kernel
theorem dX6_leastHead_19 : decode cX6_leastHead 19 = .ok (.getfield 24, 3) := by decide +kernel
theorem dX6_leastHead_22 : decode cX6_leastHead 22 = .ok (.iload_n 1, 1) := by decide +kernel
theorem dX6_leastHead_23 : decode cX6_leastHead 23 = .ok (.laload, 1) := by decide +kernel
theorem dX6_leastHead_24 : decode cX6_leastHead 24 = .ok (.lstore_n 2, 1) := by decide +kernel
theorem dX6_leastHead_25 : decode cX6_leastHead 25 = .ok (.iconst 0, 1) := by decide +kernel
theorem dX6_leastHead_26 : decode cX6_leastHead 26 = .ok (.istore 4, 2) := by decide +kernel
theorem dX6_leastHead_28 : decode cX6_leastHead 28 = .ok (.iload 4, 2) := by decide +kernel
theorem dX6_leastHead_30 : decode cX6_leastHead 30 = .ok (.iload_n 1, 1) := by decide +kernel
theorem dX6_leastHead_31 : decode cX6_leastHead 31 = .ok (.if_icmp .ge 44, 3) := by decide +kernel
theorem dX6_leastHead_34 : decode cX6_leastHead 34 = .ok (.iconst 0, 1) := by decide +kernel
theorem dX6_leastHead_35 : decode cX6_leastHead 35 = .ok (.istore 5, 2) := by decide +kernel
theorem dX6_leastHead_37 : decode cX6_leastHead 37 = .ok (.iload 5, 2) := by decide +kernel
theorem dX6_leastHead_39 : decode cX6_leastHead 39 = .ok (.iload_n 1, 1) := by decide +kernel
theorem dX6_leastHead_40 : decode cX6_leastHead 40 = .ok (.if_icmp .ge 29, 3) := by decide +kernel
theorem dX6_leastHead_43 : decode cX6_leastHead 43 = .ok (.aload_n 0, 1) := by decide +kernel
theorem dX6_leastHead_44 : decode cX6_leastHead 44 = .ok (.iload 5, 2) := by decide +kernel
theorem dX6_leastHead_46 : decode cX6_leastHead 46 = .ok (.lload_n 2, 1) := by decide +kernel
theorem dX6_leastHead_47 : decode cX6_leastHead 47 = .ok (.invokevirtual 62, 3) := by decide +kernel
theorem dX6_leastHead_50 : decode cX6_leastHead 50 = .ok (.ifCond .eq 13, 3) := by decide +kernel
theorem dX6_leastHead_53 : decode cX6_leastHead 53 = .ok (.aload_n 0, 1) := by decide +kernel
theorem dX6_leastHead_54 : decode cX6_leastHead 54 = .ok (.getfield 28, 3) := by decide +kernel
theorem dX6_leastHead_57 : decode cX6_leastHead 57 = .ok (.iload 5, 2) := by decide +kernel
theorem dX6_leastHead_59 : decode cX6_leastHead 59 = .ok (.laload, 1) := by decide +kernel
theorem dX6_leastHead_60 : decode cX6_leastHead 60 = .ok (.lconst 1, 1) := by decide +kernel
theorem dX6_leastHead_61 : decode cX6_leastHead 61 = .ok (.ladd, 1) := by decide +kernel
theorem dX6_leastHead_62 : decode cX6_leastHead 62 = .ok (.lstore_n 2, 1) := by decide +kernel
theorem dX6_leastHead_63 : decode cX6_leastHead 63 = .ok (.iinc 5 1, 3) := by decide +kernel
theorem dX6_leastHead_66 : decode cX6_leastHead 66 = .ok (.goto (-29), 3) := by decide +kernel
theorem dX6_leastHead_69 : decode cX6_leastHead 69 = .ok (.iinc 4 1, 3) := by decide +kernel
theorem dX6_leastHead_72 : decode cX6_leastHead 72 = .ok (.goto (-44), 3) := by decide +kernel
theorem dX6_leastHead_75 : decode cX6_leastHead 75 = .ok (.lload_n 2, 1) := by decide +kernel
theorem dX6_leastHead_76 : decode cX6_leastHead 76 = .ok (.aload_n 0, 1) := by decide +kernel
theorem dX6_leastHead_77 : decode cX6_leastHead 77 = .ok (.getfield 28, 3) := by decide +kernel
theorem dX6_leastHead_80 : decode cX6_leastHead 80 = .ok (.iload_n 1, 1) := by decide +kernel
theorem dX6_leastHead_81 : decode cX6_leastHead 81 = .ok (.laload, 1) := by decide +kernel
theorem dX6_leastHead_82 : decode cX6_leastHead 82 = .ok (.lcmp, 1) := by decide +kernel
theorem dX6_leastHead_83 : decode cX6_leastHead 83 = .ok (.ifCond .gt 8, 3) := by decide +kernel
theorem dX6_leastHead_86 : decode cX6_leastHead 86 = .ok (.lload_n 2, 1) := by decide +kernel
theorem dX6_leastHead_87 : decode cX6_leastHead 87 = .ok (.l2i, 1) := by decide +kernel
theorem dX6_leastHead_88 : decode cX6_leastHead 88 = .ok (.goto 4, 3) := by decide +kernel
theorem dX6_leastHead_91 : decode cX6_leastHead 91 = .ok (.iconst (-1), 1) := by decide +kernel
theorem dX6_leastHead_92 : decode cX6_leastHead 92 = .ok (.ireturn, 1) := by decide +kernel
theorem dX7_init_0 : decode cX7_init 0 = .ok (.aload_n 0, 1) := by decide +kernel
theorem dX7_init_1 : decode cX7_init 1 = .ok (.invokespecial 1, 3) := by decide +kernel
theorem dX7_init_4 : decode cX7_init 4 = .ok (.aload_n 0, 1) := by decide +kernel
theorem dX7_init_5 : decode cX7_init 5 = .ok (.new 7, 3) := by decide +kernel
theorem dX7_init_8 : decode cX7_init 8 = .ok (.dup, 1) := by decide +kernel
theorem dX7_init_9 : decode cX7_init 9 = .ok (.invokespecial 9, 3) := by decide +kernel
theorem dX7_init_12 : decode cX7_init 12 = .ok (.putfield 10, 3) := by decide +kernel
theorem dX7_init_15 : decode cX7_init 15 = .ok (.aload_n 0, 1) := by decide +kernel
theorem dX7_init_16 : decode cX7_init 16 = .ok (.new 16, 3) := by decide +kernel
theorem dX7_init_19 : decode cX7_init 19 = .ok (.dup, 1) := by decide +kernel
theorem dX7_init_20 : decode cX7_init 20 = .ok (.invokespecial 18, 3) := by decide +kernel
theorem dX7_init_23 : decode cX7_init 23 = .ok (.putfield 19, 3) := by decide +kernel
theorem dX7_init_26 : decode cX7_init 26 = .ok (.aload_n 0, 1) := by decide +kernel
theorem dX7_init_27 : decode cX7_init 27 = .ok (.new 23, 3) := by decide +kernel
theorem dX7_init_30 : decode cX7_init 30 = .ok (.dup, 1) := by decide +kernel
theorem dX7_init_31 : decode cX7_init 31 = .ok (.invokespecial 25, 3) := by decide +kernel
theorem dX7_init_34 : decode cX7_init 34 = .ok (.putfield 26, 3) := by decide +kernel
theorem dX7_init_37 : decode cX7_init 37 = .ok (.aload_n 0, 1) := by decide +kernel
theorem dX7_init_38 : decode cX7_init 38 = .ok (.new 30, 3) := by decide +kernel
theorem dX7_init_41 : decode cX7_init 41 = .ok (.dup, 1) := by decide +kernel
theorem dX7_init_42 : decode cX7_init 42 = .ok (.invokespecial 32, 3) := by decide +kernel
theorem dX7_init_45 : decode cX7_init 45 = .ok (.putfield 33, 3) := by decide +kernel
theorem dX7_init_48 : decode cX7_init 48 = .ok (.aload_n 0, 1) := by decide +kernel
theorem dX7_init_49 : decode cX7_init 49 = .ok (.new 37, 3) := by decide +kernel
theorem dX7_init_52 : decode cX7_init 52 = .ok (.dup, 1) := by decide +kernel
theorem dX7_init_53 : decode cX7_init 53 = .ok (.invokespecial 39, 3) := by decide +kernel
theorem dX7_init_56 : decode cX7_init 56 = .ok (.putfield 40, 3) := by decide +kernel
theorem dX7_init_59 : decode cX7_init 59 = .ok (.aload_n 0, 1) := by decide +kernel
theorem dX7_init_60 : decode cX7_init 60 = .ok (.new 37, 3) := by decide +kernel
theorem dX7_init_63 : decode cX7_init 63 = .ok (.dup, 1) := by decide +kernel
theorem dX7_init_64 : decode cX7_init 64 = .ok (.invokespecial 39, 3) := by decide +kernel
theorem dX7_init_67 : decode cX7_init 67 = .ok (.putfield 44, 3) := by decide +kernel
theorem dX7_init_70 : decode cX7_init 70 = .ok (.aload_n 0, 1) := by decide +kernel
theorem dX7_init_71 : decode cX7_init 71 = .ok (.new 47, 3) := by decide +kernel
theorem dX7_init_74 : decode cX7_init 74 = .ok (.dup, 1) := by decide +kernel
theorem dX7_init_75 : decode cX7_init 75 = .ok (.invokespecial 49, 3) := by decide +kernel
theorem dX7_init_78 : decode cX7_init 78 = .ok (.putfield 50, 3) := by decide +kernel
theorem dX7_init_81 : decode cX7_init 81 = .ok (.aload_n 0, 1) := by decide +kernel
theorem dX7_init_82 : decode cX7_init 82 = .ok (.new 54, 3) := by decide +kernel
theorem dX7_init_85 : decode cX7_init 85 = .ok (.dup, 1) := by decide +kernel
theorem dX7_init_86 : decode cX7_init 86 = .ok (.invokespecial 56, 3) := by decide +kernel
theorem dX7_init_89 : decode cX7_init 89 = .ok (.putfield 57, 3) := by decide +kernel
theorem dX7_init_92 : decode cX7_init 92 = .ok (.return_, 1) := by decide +kernel
theorem dX7_rain_0 : decode cX7_rain 0 = .ok (.iload_n 1, 1) := by decide +kernel
theorem dX7_rain_1 : decode cX7_rain 1 = .ok (.i2l, 1) := by decide +kernel
theorem dX7_rain_2 : decode cX7_rain 2 = .ok (.lconst 1, 1) := by decide +kernel
theorem dX7_rain_3 : decode cX7_rain 3 = .ok (.ldc2_w 61, 3) := by decide +kernel
theorem dX7_rain_6 : decode cX7_rain 6 = .ok (.invokestatic 63, 3) := by decide +kernel
theorem dX7_rain_9 : decode cX7_rain 9 = .ok (.ifCond .eq 27, 3) := by decide +kernel
theorem dX7_rain_12 : decode cX7_rain 12 = .ok (.iload_n 2, 1) := by decide +kernel
theorem dX7_rain_13 : decode cX7_rain 13 = .ok (.i2l, 1) := by decide +kernel
theorem dX7_rain_14 : decode cX7_rain 14 = .ok (.lconst 1, 1) := by decide +kernel
theorem dX7_rain_15 : decode cX7_rain 15 = .ok (.ldc2_w 67, 3) := by decide +kernel
theorem dX7_rain_18 : decode cX7_rain 18 = .ok (.invokestatic 63, 3) := by decide +kernel
theorem dX7_rain_21 : decode cX7_rain 21 = .ok (.ifCond .eq 15, 3) := by decide +kernel
theorem dX7_rain_24 : decode cX7_rain 24 = .ok (.iload_n 3, 1) := by decide +kernel
theorem dX7_rain_25 : decode cX7_rain 25 = .ok (.i2l, 1) := by decide +kernel
theorem dX7_rain_26 : decode cX7_rain 26 = .ok (.lconst 1, 1) := by decide +kernel
theorem dX7_rain_27 : decode cX7_rain 27 = .ok (.ldc2_w 69, 3) := by decide +kernel
theorem dX7_rain_30 : decode cX7_rain 30 = .ok (.invokestatic 63, 3) := by decide +kernel
theorem dX7_rain_33 : decode cX7_rain 33 = .ok (.ifCond .ne 5, 3) := by decide +kernel
theorem dX7_rain_36 : decode cX7_rain 36 = .ok (.iconst (-1), 1) := by decide +kernel
theorem dX7_rain_37 : decode cX7_rain 37 = .ok (.ireturn, 1) := by decide +kernel
theorem dX7_rain_38 : decode cX7_rain 38 = .ok (.aload_n 0, 1) := by decide +kernel
theorem dX7_rain_39 : decode cX7_rain 39 = .ok (.getfield 10, 3) := by decide +kernel
theorem dX7_rain_42 : decode cX7_rain 42 = .ok (.iload_n 1, 1) := by decide +kernel
theorem dX7_rain_43 : decode cX7_rain 43 = .ok (.iload_n 2, 1) := by decide +kernel
theorem dX7_rain_44 : decode cX7_rain 44 = .ok (.iload_n 3, 1) := by decide +kernel
theorem dX7_rain_45 : decode cX7_rain 45 = .ok (.invokevirtual 71, 3) := by decide +kernel
theorem dX7_rain_48 : decode cX7_rain 48 = .ok (.ireturn, 1) := by decide +kernel
theorem dX7_volume_0 : decode cX7_volume 0 = .ok (.aload_n 0, 1) := by decide +kernel
theorem dX7_volume_1 : decode cX7_volume 1 = .ok (.iload_n 1, 1) := by decide +kernel
theorem dX7_volume_2 : decode cX7_volume 2 = .ok (.iload_n 2, 1) := by decide +kernel
theorem dX7_volume_3 : decode cX7_volume 3 = .ok (.iload_n 3, 1) := by decide +kernel
theorem dX7_volume_4 : decode cX7_volume 4 = .ok (.invokevirtual 75, 3) := by decide +kernel
theorem dX7_volume_7 : decode cX7_volume 7 = .ok (.istore 4, 2) := by decide +kernel
theorem dX7_volume_9 : decode cX7_volume 9 = .ok (.iload 4, 2) := by decide +kernel
theorem dX7_volume_11 : decode cX7_volume 11 = .ok (.iconst (-1), 1) := by decide +kernel
theorem dX7_volume_12 : decode cX7_volume 12 = .ok (.if_icmp .ne 9, 3) := by decide +kernel
theorem dX7_volume_15 : decode cX7_volume 15 = .ok (.ldc2_w 78, 3) := by decide +kernel
theorem dX7_volume_18 : decode cX7_volume 18 = .ok (.goto 18, 3) := by decide +kernel
theorem dX7_volume_21 : decode cX7_volume 21 = .ok (.lconst 0, 1) := by decide +kernel
theorem dX7_volume_22 : decode cX7_volume 22 = .ok (.aload_n 0, 1) := by decide +kernel
theorem dX7_volume_23 : decode cX7_volume 23 = .ok (.getfield 10, 3) := by decide +kernel
theorem dX7_volume_26 : decode cX7_volume 26 = .ok (.iload 4, 2) := by decide +kernel
theorem dX7_volume_28 : decode cX7_volume 28 = .ok (.iload_n 2, 1) := by decide +kernel
theorem dX7_volume_29 : decode cX7_volume 29 = .ok (.iload_n 3, 1) := by decide +kernel
theorem dX7_volume_30 : decode cX7_volume 30 = .ok (.invokevirtual 80, 3) := by decide +kernel
theorem dX7_volume_33 : decode cX7_volume 33 = .ok (.invokestatic 84, 3) := by decide +kernel
theorem dX7_volume_36 : decode cX7_volume 36 = .ok (.lreturn, 1) := by decide +kernel
theorem dX7_by_0 : decode cX7_by 0 = .ok (.aload_n 0, 1) := by decide +kernel
theorem dX7_by_1 : decode cX7_by 1 = .ok (.iload_n 1, 1) := by decide +kernel
theorem dX7_by_2 : decode cX7_by 2 = .ok (.iload_n 2, 1) := by decide +kernel
theorem dX7_by_3 : decode cX7_by 3 = .ok (.iload_n 3, 1) := by decide +kernel
theorem dX7_by_4 : decode cX7_by 4 = .ok (.invokevirtual 75, 3) := by decide +kernel
theorem dX7_by_7 : decode cX7_by 7 = .ok (.istore 4, 2) := by decide +kernel
theorem dX7_by_9 : decode cX7_by 9 = .ok (.iload 4, 2) := by decide +kernel
theorem dX7_by_11 : decode cX7_by 11 = .ok (.iconst (-1), 1) := by decide +kernel
theorem dX7_by_12 : decode cX7_by 12 = .ok (.if_icmp .ne 7, 3) := by decide +kernel
theorem dX7_by_15 : decode cX7_by 15 = .ok (.iconst (-1), 1) := by decide +kernel
theorem dX7_by_16 : decode cX7_by 16 = .ok (.goto 12, 3) := by decide +kernel
theorem dX7_by_19 : decode cX7_by 19 = .ok (.aload_n 0, 1) := by decide +kernel
theorem dX7_by_20 : decode cX7_by 20 = .ok (.getfield 10, 3) := by decide +kernel
theorem dX7_by_23 : decode cX7_by 23 = .ok (.iload 4, 2) := by decide +kernel
theorem dX7_by_25 : decode cX7_by 25 = .ok (.invokevirtual 90, 3) := by decide +kernel
theorem dX7_by_28 : decode cX7_by 28 = .ok (.ireturn, 1) := by decide +kernel
theorem dX7_outflow_0 : decode cX7_outflow 0 = .ok (.iload_n 2, 1) := by decide +kernel
theorem dX7_outflow_1 : decode cX7_outflow 1 = .ok (.i2l, 1) := by decide +kernel
theorem dX7_outflow_2 : decode cX7_outflow 2 = .ok (.lconst 0, 1) := by decide +kernel
theorem dX7_outflow_3 : decode cX7_outflow 3 = .ok (.ldc2_w 94, 3) := by decide +kernel
theorem dX7_outflow_6 : decode cX7_outflow 6 = .ok (.invokestatic 63, 3) := by decide +kernel
theorem dX7_outflow_9 : decode cX7_outflow 9 = .ok (.ifCond .eq 14, 3) := by decide +kernel
theorem dX7_outflow_12 : decode cX7_outflow 12 = .ok (.lload_n 3, 1) := by decide +kernel
theorem dX7_outflow_13 : decode cX7_outflow 13 = .ok (.lconst 0, 1) := by decide +kernel
theorem dX7_outflow_14 : decode cX7_outflow 14 = .ok (.ldc2_w 96, 3) := by decide +kernel
theorem dX7_outflow_17 : decode cX7_outflow 17 = .ok (.invokestatic 63, 3) := by decide +kernel
theorem dX7_outflow_20 : decode cX7_outflow 20 = .ok (.ifCond .ne 5, 3) := by decide +kernel
theorem dX7_outflow_23 : decode cX7_outflow 23 = .ok (.iconst (-1), 1) := by decide +kernel
theorem dX7_outflow_24 : decode cX7_outflow 24 = .ok (.ireturn, 1) := by decide +kernel
theorem dX7_outflow_25 : decode cX7_outflow 25 = .ok (.aload_n 0, 1) := by decide +kernel
theorem dX7_outflow_26 : decode cX7_outflow 26 = .ok (.getfield 10, 3) := by decide +kernel
theorem dX7_outflow_29 : decode cX7_outflow 29 = .ok (.iload_n 1, 1) := by decide +kernel
theorem dX7_outflow_30 : decode cX7_outflow 30 = .ok (.iload_n 2, 1) := by decide +kernel
theorem dX7_outflow_31 : decode cX7_outflow 31 = .ok (.lload_n 3, 1) := by decide +kernel
theorem dX7_outflow_32 : decode cX7_outflow 32 = .ok (.invokevirtual 98, 3) := by decide +kernel
theorem dX7_outflow_35 : decode cX7_outflow 35 = .ok (.lstore 5, 2) := by decide +kernel
theorem dX7_outflow_37 : decode cX7_outflow 37 = .ok (.lload 5, 2) := by decide +kernel
theorem dX7_outflow_39 : decode cX7_outflow 39 = .ok (.lconst 0, 1) := by decide +kernel
theorem dX7_outflow_40 : decode cX7_outflow 40 = .ok (.ldc2_w 69, 3) := by decide +kernel
theorem dX7_outflow_43 : decode cX7_outflow 43 = .ok (.invokestatic 63, 3) := by decide +kernel
theorem dX7_outflow_46 : decode cX7_outflow 46 = .ok (.ifCond .eq 9, 3) := by decide +kernel
theorem dX7_outflow_49 : decode cX7_outflow 49 = .ok (.lload 5, 2) := by decide +kernel
theorem dX7_outflow_51 : decode cX7_outflow 51 = .ok (.l2i, 1) := by decide +kernel
theorem dX7_outflow_52 : decode cX7_outflow 52 = .ok (.goto 4, 3) := by decide +kernel
theorem dX7_outflow_55 : decode cX7_outflow 55 = .ok (.iconst (-1), 1) := by decide +kernel
theorem dX7_outflow_56 : decode cX7_outflow 56 = .ok (.ireturn, 1) := by decide +kernel
theorem dX7_level_0 : decode cX7_level 0 = .ok (.iload_n 1, 1) := by decide +kernel
theorem dX7_level_1 : decode cX7_level 1 = .ok (.i2l, 1) := by decide +kernel
theorem dX7_level_2 : decode cX7_level 2 = .ok (.ldc2_w 102, 3) := by decide +kernel
theorem dX7_level_5 : decode cX7_level 5 = .ok (.ldc2_w 69, 3) := by decide +kernel
theorem dX7_level_8 : decode cX7_level 8 = .ok (.invokestatic 63, 3) := by decide +kernel
theorem dX7_level_11 : decode cX7_level 11 = .ok (.ifCond .eq 15, 3) := by decide +kernel
theorem dX7_level_14 : decode cX7_level 14 = .ok (.iload_n 2, 1) := by decide +kernel
theorem dX7_level_15 : decode cX7_level 15 = .ok (.i2l, 1) := by decide +kernel
theorem dX7_level_16 : decode cX7_level 16 = .ok (.lconst 0, 1) := by decide +kernel
theorem dX7_level_17 : decode cX7_level 17 = .ok (.ldc2_w 94, 3) := by decide +kernel
theorem dX7_level_20 : decode cX7_level 20 = .ok (.invokestatic 63, 3) := by decide +kernel
theorem dX7_level_23 : decode cX7_level 23 = .ok (.ifCond .ne 5, 3) := by decide +kernel
theorem dX7_level_26 : decode cX7_level 26 = .ok (.iconst (-1), 1) := by decide +kernel
theorem dX7_level_27 : decode cX7_level 27 = .ok (.ireturn, 1) := by decide +kernel
theorem dX7_level_28 : decode cX7_level 28 = .ok (.aload_n 0, 1) := by decide +kernel
theorem dX7_level_29 : decode cX7_level 29 = .ok (.getfield 19, 3) := by decide +kernel
theorem dX7_level_32 : decode cX7_level 32 = .ok (.iload_n 1, 1) := by decide +kernel
theorem dX7_level_33 : decode cX7_level 33 = .ok (.iload_n 2, 1) := by decide +kernel
theorem dX7_level_34 : decode cX7_level 34 = .ok (.invokevirtual 104, 3) := by decide +kernel
theorem dX7_level_37 : decode cX7_level 37 = .ok (.ireturn, 1) := by decide +kernel
theorem dX7_area_0 : decode cX7_area 0 = .ok (.aload_n 0, 1) := by decide +kernel
theorem dX7_area_1 : decode cX7_area 1 = .ok (.getfield 19, 3) := by decide +kernel
theorem dX7_area_4 : decode cX7_area 4 = .ok (.iload_n 1, 1) := by decide +kernel
theorem dX7_area_5 : decode cX7_area 5 = .ok (.invokevirtual 107, 3) := by decide +kernel
theorem dX7_area_8 : decode cX7_area 8 = .ok (.ifCond .eq 14, 3) := by decide +kernel
theorem dX7_area_11 : decode cX7_area 11 = .ok (.aload_n 0, 1) := by decide +kernel
theorem dX7_area_12 : decode cX7_area 12 = .ok (.getfield 19, 3) := by decide +kernel
theorem dX7_area_15 : decode cX7_area 15 = .ok (.iload_n 1, 1) := by decide +kernel
theorem dX7_area_16 : decode cX7_area 16 = .ok (.invokevirtual 111, 3) := by decide +kernel
theorem dX7_area_19 : decode cX7_area 19 = .ok (.goto 4, 3) := by decide +kernel
theorem dX7_area_22 : decode cX7_area 22 = .ok (.iconst (-1), 1) := by decide +kernel
theorem dX7_area_23 : decode cX7_area 23 = .ok (.ireturn, 1) := by decide +kernel
theorem dX7_content_0 : decode cX7_content 0 = .ok (.aload_n 0, 1) := by decide +kernel
theorem dX7_content_1 : decode cX7_content 1 = .ok (.getfield 19, 3) := by decide +kernel
theorem dX7_content_4 : decode cX7_content 4 = .ok (.iload_n 1, 1) := by decide +kernel
theorem dX7_content_5 : decode cX7_content 5 = .ok (.invokevirtual 107, 3) := by decide +kernel
theorem dX7_content_8 : decode cX7_content 8 = .ok (.ifCond .eq 14, 3) := by decide +kernel
theorem dX7_content_11 : decode cX7_content 11 = .ok (.aload_n 0, 1) := by decide +kernel
theorem dX7_content_12 : decode cX7_content 12 = .ok (.getfield 19, 3) := by decide +kernel
theorem dX7_content_15 : decode cX7_content 15 = .ok (.iload_n 1, 1) := by decide +kernel
theorem dX7_content_16 : decode cX7_content 16 = .ok (.invokevirtual 114, 3) := by decide +kernel
theorem dX7_content_19 : decode cX7_content 19 = .ok (.goto 6, 3) := by decide +kernel
theorem dX7_content_22 : decode cX7_content 22 = .ok (.ldc2_w 78, 3) := by decide +kernel
theorem dX7_content_25 : decode cX7_content 25 = .ok (.lreturn, 1) := by decide +kernel
theorem dX7_fill_0 : decode cX7_fill 0 = .ok (.aload_n 0, 1) := by decide +kernel
theorem dX7_fill_1 : decode cX7_fill 1 = .ok (.getfield 19, 3) := by decide +kernel
theorem dX7_fill_4 : decode cX7_fill 4 = .ok (.lload_n 1, 1) := by decide +kernel
theorem dX7_fill_5 : decode cX7_fill 5 = .ok (.invokevirtual 118, 3) := by decide +kernel
theorem dX7_fill_8 : decode cX7_fill 8 = .ok (.ireturn, 1) := by decide +kernel
theorem dX7_culvert_0 : decode cX7_culvert 0 = .ok (.iload_n 1, 1) := by decide +kernel
theorem dX7_culvert_1 : decode cX7_culvert 1 = .ok (.i2l, 1) := by decide +kernel
theorem dX7_culvert_2 : decode cX7_culvert 2 = .ok (.lconst 1, 1) := by decide +kernel
theorem dX7_culvert_3 : decode cX7_culvert 3 = .ok (.ldc2_w 67, 3) := by decide +kernel
theorem dX7_culvert_6 : decode cX7_culvert 6 = .ok (.invokestatic 63, 3) := by decide +kernel
theorem dX7_culvert_9 : decode cX7_culvert 9 = .ok (.ifCond .eq 40, 3) := by decide +kernel
theorem dX7_culvert_12 : decode cX7_culvert 12 = .ok (.iload_n 2, 1) := by decide +kernel
theorem dX7_culvert_13 : decode cX7_culvert 13 = .ok (.i2l, 1) := by decide +kernel
theorem dX7_culvert_14 : decode cX7_culvert 14 = .ok (.lconst 1, 1) := by decide +kernel
theorem dX7_culvert_15 : decode cX7_culvert 15 = .ok (.ldc2_w 67, 3) := by decide +kernel
theorem dX7_culvert_18 : decode cX7_culvert 18 = .ok (.invokestatic 63, 3) := by decide +kernel
theorem dX7_culvert_21 : decode cX7_culvert 21 = .ok (.ifCond .eq 28, 3) := by decide +kernel
theorem dX7_culvert_24 : decode cX7_culvert 24 = .ok (.iload_n 3, 1) := by decide +kernel
theorem dX7_culvert_25 : decode cX7_culvert 25 = .ok (.i2l, 1) := by decide +kernel
theorem dX7_culvert_26 : decode cX7_culvert 26 = .ok (.lconst 1, 1) := by decide +kernel
theorem dX7_culvert_27 : decode cX7_culvert 27 = .ok (.ldc2_w 69, 3) := by decide +kernel
theorem dX7_culvert_30 : decode cX7_culvert 30 = .ok (.invokestatic 63, 3) := by decide +kernel
theorem dX7_culvert_33 : decode cX7_culvert 33 = .ok (.ifCond .eq 16, 3) := by decide +kernel
theorem dX7_culvert_36 : decode cX7_culvert 36 = .ok (.iload 4, 2) := by decide +kernel
theorem dX7_culvert_38 : decode cX7_culvert 38 = .ok (.i2l, 1) := by decide +kernel
theorem dX7_culvert_39 : decode cX7_culvert 39 = .ok (.lconst 0, 1) := by decide +kernel
theorem dX7_culvert_40 : decode cX7_culvert 40 = .ok (.ldc2_w 67, 3) := by decide +kernel
theorem dX7_culvert_43 : decode cX7_culvert 43 = .ok (.invokestatic 63, 3) := by decide +kernel
theorem dX7_culvert_46 : decode cX7_culvert 46 = .ok (.ifCond .ne 5, 3) := by decide +kernel
theorem dX7_culvert_49 : decode cX7_culvert 49 = .ok (.iconst (-1), 1) := by decide +kernel
theorem dX7_culvert_50 : decode cX7_culvert 50 = .ok (.ireturn, 1) := by decide +kernel
theorem dX7_culvert_51 : decode cX7_culvert 51 = .ok (.aload_n 0, 1) := by decide +kernel
theorem dX7_culvert_52 : decode cX7_culvert 52 = .ok (.getfield 26, 3) := by decide +kernel
theorem dX7_culvert_55 : decode cX7_culvert 55 = .ok (.iload_n 1, 1) := by decide +kernel
theorem dX7_culvert_56 : decode cX7_culvert 56 = .ok (.iload_n 2, 1) := by decide +kernel
theorem dX7_culvert_57 : decode cX7_culvert 57 = .ok (.iload_n 3, 1) := by decide +kernel
theorem dX7_culvert_58 : decode cX7_culvert 58 = .ok (.iload 4, 2) := by decide +kernel
theorem dX7_culvert_60 : decode cX7_culvert 60 = .ok (.invokevirtual 122, 3) := by decide +kernel
theorem dX7_culvert_63 : decode cX7_culvert 63 = .ok (.ireturn, 1) := by decide +kernel
theorem dX7_unit_0 : decode cX7_unit 0 = .ok (.iload_n 1, 1) := by decide +kernel
theorem dX7_unit_1 : decode cX7_unit 1 = .ok (.i2l, 1) := by decide +kernel
theorem dX7_unit_2 : decode cX7_unit 2 = .ok (.ldc2_w 125, 3) := by decide +kernel
theorem dX7_unit_5 : decode cX7_unit 5 = .ok (.ldc2_w 127, 3) := by decide +kernel
theorem dX7_unit_8 : decode cX7_unit 8 = .ok (.invokestatic 63, 3) := by decide +kernel
theorem dX7_unit_11 : decode cX7_unit 11 = .ok (.ifCond .eq 19, 3) := by decide +kernel
theorem dX7_unit_14 : decode cX7_unit 14 = .ok (.aload_n 0, 1) := by decide +kernel
theorem dX7_unit_15 : decode cX7_unit 15 = .ok (.getfield 33, 3) := by decide +kernel
theorem dX7_unit_18 : decode cX7_unit 18 = .ok (.iload_n 1, 1) := by decide +kernel
theorem dX7_unit_19 : decode cX7_unit 19 = .ok (.i2c, 1) := by decide +kernel
theorem dX7_unit_20 : decode cX7_unit 20 = .ok (.invokevirtual 129, 3) := by decide +kernel
theorem dX7_unit_23 : decode cX7_unit 23 = .ok (.ifCond .eq 7, 3) := by decide +kernel
theorem dX7_unit_26 : decode cX7_unit 26 = .ok (.iconst 1, 1) := by decide +kernel
theorem dX7_unit_27 : decode cX7_unit 27 = .ok (.goto 4, 3) := by decide +kernel
theorem dX7_unit_30 : decode cX7_unit 30 = .ok (.iconst 0, 1) := by decide +kernel
theorem dX7_unit_31 : decode cX7_unit 31 = .ok (.ireturn, 1) := by decide +kernel
theorem dX7_states_0 : decode cX7_states 0 = .ok (.aload_n 0, 1) := by decide +kernel
theorem dX7_states_1 : decode cX7_states 1 = .ok (.getfield 33, 3) := by decide +kernel
theorem dX7_states_4 : decode cX7_states 4 = .ok (.aload_n 0, 1) := by decide +kernel
theorem dX7_states_5 : decode cX7_states 5 = .ok (.getfield 44, 3) := by decide +kernel
theorem dX7_states_8 : decode cX7_states 8 = .ok (.invokevirtual 133, 3) := by decide +kernel
theorem dX7_states_11 : decode cX7_states 11 = .ok (.istore_n 1, 1) := by decide +kernel
theorem dX7_states_12 : decode cX7_states 12 = .ok (.iload_n 1, 1) := by decide +kernel
theorem dX7_states_13 : decode cX7_states 13 = .ok (.ifCond .eq 13, 3) := by decide +kernel
theorem dX7_states_16 : decode cX7_states 16 = .ok (.aload_n 0, 1) := by decide +kernel
theorem dX7_states_17 : decode cX7_states 17 = .ok (.getfield 44, 3) := by decide +kernel
theorem dX7_states_20 : decode cX7_states 20 = .ok (.invokevirtual 137, 3) := by decide +kernel
theorem dX7_states_23 : decode cX7_states 23 = .ok (.goto 12, 3) := by decide +kernel
theorem dX7_states_26 : decode cX7_states 26 = .ok (.iconst (-1), 1) := by decide +kernel
theorem dX7_states_27 : decode cX7_states 27 = .ok (.aload_n 0, 1) := by decide +kernel
theorem dX7_states_28 : decode cX7_states 28 = .ok (.getfield 33, 3) := by decide +kernel
theorem dX7_states_31 : decode cX7_states 31 = .ok (.invokevirtual 141, 3) := by decide +kernel
theorem dX7_states_34 : decode cX7_states 34 = .ok (.isub, 1) := by decide +kernel
theorem dX7_states_35 : decode cX7_states 35 = .ok (.istore_n 2, 1) := by decide +kernel
theorem dX7_states_36 : decode cX7_states 36 = .ok (.iload_n 1, 1) := by decide +kernel
theorem dX7_states_37 : decode cX7_states 37 = .ok (.ifCond .eq 21, 3) := by decide +kernel
theorem dX7_states_40 : decode cX7_states 40 = .ok (.aload_n 0, 1) := by decide +kernel
theorem dX7_states_41 : decode cX7_states 41 = .ok (.getfield 40, 3) := by decide +kernel
theorem dX7_states_44 : decode cX7_states 44 = .ok (.astore_n 3, 1) := by decide +kernel
theorem dX7_states_45 : decode cX7_states 45 = .ok (.aload_n 0, 1) := by decide +kernel
theorem dX7_states_46 : decode cX7_states 46 = .ok (.aload_n 0, 1) := by decide +kernel
theorem dX7_states_47 : decode cX7_states 47 = .ok (.getfield 44, 3) := by decide +kernel
theorem dX7_states_50 : decode cX7_states 50 = .ok (.putfield 40, 3) := by decide +kernel
theorem dX7_states_53 : decode cX7_states 53 = .ok (.aload_n 0, 1) := by decide +kernel
theorem dX7_states_54 : decode cX7_states 54 = .ok (.aload_n 3, 1) := by decide +kernel
theorem dX7_states_55 : decode cX7_states 55 = .ok (.putfield 44, 3) := by decide +kernel
theorem dX7_states_58 : decode cX7_states 58 = .ok (.aload_n 0, 1) := by decide +kernel
theorem dX7_states_59 : decode cX7_states 59 = .ok (.getfield 33, 3) := by decide +kernel
theorem dX7_states_62 : decode cX7_states 62 = .ok (.invokevirtual 144, 3) := by decide +kernel
theorem dX7_states_65 : decode cX7_states 65 = .ok (.iload_n 2, 1) := by decide +kernel
theorem dX7_states_66 : decode cX7_states 66 = .ok (.ireturn, 1) := by decide +kernel
theorem dX7_state_0 : decode cX7_state 0 = .ok (.aload_n 0, 1) := by decide +kernel
theorem dX7_state_1 : decode cX7_state 1 = .ok (.getfield 26, 3) := by decide +kernel
theorem dX7_state_4 : decode cX7_state 4 = .ok (.iload_n 1, 1) := by decide +kernel
theorem dX7_state_5 : decode cX7_state 5 = .ok (.invokevirtual 147, 3) := by decide +kernel
theorem dX7_state_8 : decode cX7_state 8 = .ok (.ifCond .eq 25, 3) := by decide +kernel
theorem dX7_state_11 : decode cX7_state 11 = .ok (.iload_n 2, 1) := by decide +kernel
theorem dX7_state_12 : decode cX7_state 12 = .ok (.invokestatic 150, 3) := by decide +kernel
theorem dX7_state_15 : decode cX7_state 15 = .ok (.ifCond .eq 18, 3) := by decide +kernel
theorem dX7_state_18 : decode cX7_state 18 = .ok (.iload_n 3, 1) := by decide +kernel
theorem dX7_state_19 : decode cX7_state 19 = .ok (.invokestatic 150, 3) := by decide +kernel
theorem dX7_state_22 : decode cX7_state 22 = .ok (.ifCond .eq 11, 3) := by decide +kernel
theorem dX7_state_25 : decode cX7_state 25 = .ok (.iload 4, 2) := by decide +kernel
theorem dX7_state_27 : decode cX7_state 27 = .ok (.invokestatic 150, 3) := by decide +kernel
theorem dX7_state_30 : decode cX7_state 30 = .ok (.ifCond .ne 5, 3) := by decide +kernel
theorem dX7_state_33 : decode cX7_state 33 = .ok (.iconst (-1), 1) := by decide +kernel
theorem dX7_state_34 : decode cX7_state 34 = .ok (.ireturn, 1) := by decide +kernel
theorem dX7_state_35 : decode cX7_state 35 = .ok (.aload_n 0, 1) := by decide +kernel
theorem dX7_state_36 : decode cX7_state 36 = .ok (.getfield 40, 3) := by decide +kernel
theorem dX7_state_39 : decode cX7_state 39 = .ok (.aload_n 0, 1) := by decide +kernel
theorem dX7_state_40 : decode cX7_state 40 = .ok (.getfield 26, 3) := by decide +kernel
theorem dX7_state_43 : decode cX7_state 43 = .ok (.iload_n 1, 1) := by decide +kernel
theorem dX7_state_44 : decode cX7_state 44 = .ok (.iload_n 3, 1) := by decide +kernel
theorem dX7_state_45 : decode cX7_state 45 = .ok (.iload 4, 2) := by decide +kernel
theorem dX7_state_47 : decode cX7_state 47 = .ok (.invokevirtual 153, 3) := by decide +kernel
theorem dX7_state_50 : decode cX7_state 50 = .ok (.invokevirtual 157, 3) := by decide +kernel
theorem dX7_state_53 : decode cX7_state 53 = .ok (.aload_n 0, 1) := by decide +kernel
theorem dX7_state_54 : decode cX7_state 54 = .ok (.getfield 40, 3) := by decide +kernel
theorem dX7_state_57 : decode cX7_state 57 = .ok (.iload_n 2, 1) := by decide +kernel
theorem dX7_state_58 : decode cX7_state 58 = .ok (.invokevirtual 161, 3) := by decide +kernel
theorem dX7_state_61 : decode cX7_state 61 = .ok (.ireturn, 1) := by decide +kernel
theorem dX7_head_0 : decode cX7_head 0 = .ok (.aload_n 0, 1) := by decide +kernel
theorem dX7_head_1 : decode cX7_head 1 = .ok (.getfield 26, 3) := by decide +kernel
theorem dX7_head_4 : decode cX7_head 4 = .ok (.iload_n 1, 1) := by decide +kernel
theorem dX7_head_5 : decode cX7_head 5 = .ok (.invokevirtual 147, 3) := by decide +kernel
theorem dX7_head_8 : decode cX7_head 8 = .ok (.ifCond .eq 37, 3) := by decide +kernel
theorem dX7_head_11 : decode cX7_head 11 = .ok (.iload_n 2, 1) := by decide +kernel
theorem dX7_head_12 : decode cX7_head 12 = .ok (.i2l, 1) := by decide +kernel
theorem dX7_head_13 : decode cX7_head 13 = .ok (.lconst 0, 1) := by decide +kernel
theorem dX7_head_14 : decode cX7_head 14 = .ok (.aload_n 0, 1) := by decide +kernel
theorem dX7_head_15 : decode cX7_head 15 = .ok (.getfield 40, 3) := by decide +kernel
theorem dX7_head_18 : decode cX7_head 18 = .ok (.invokevirtual 137, 3) := by decide +kernel
theorem dX7_head_21 : decode cX7_head 21 = .ok (.iconst 1, 1) := by decide +kernel
theorem dX7_head_22 : decode cX7_head 22 = .ok (.isub, 1) := by decide +kernel
theorem dX7_head_23 : decode cX7_head 23 = .ok (.i2l, 1) := by decide +kernel
theorem dX7_head_24 : decode cX7_head 24 = .ok (.invokestatic 63, 3) := by decide +kernel
theorem dX7_head_27 : decode cX7_head 27 = .ok (.ifCond .eq 18, 3) := by decide +kernel
theorem dX7_head_30 : decode cX7_head 30 = .ok (.iload_n 3, 1) := by decide +kernel
theorem dX7_head_31 : decode cX7_head 31 = .ok (.invokestatic 150, 3) := by decide +kernel
theorem dX7_head_34 : decode cX7_head 34 = .ok (.ifCond .eq 11, 3) := by decide +kernel
theorem dX7_head_37 : decode cX7_head 37 = .ok (.iload 4, 2) := by decide +kernel
theorem dX7_head_39 : decode cX7_head 39 = .ok (.invokestatic 150, 3) := by decide +kernel
theorem dX7_head_42 : decode cX7_head 42 = .ok (.ifCond .ne 5, 3) := by decide +kernel
theorem dX7_head_45 : decode cX7_head 45 = .ok (.iconst (-1), 1) := by decide +kernel
theorem dX7_head_46 : decode cX7_head 46 = .ok (.ireturn, 1) := by decide +kernel
theorem dX7_head_47 : decode cX7_head 47 = .ok (.aload_n 0, 1) := by decide +kernel
theorem dX7_head_48 : decode cX7_head 48 = .ok (.getfield 40, 3) := by decide +kernel
theorem dX7_head_51 : decode cX7_head 51 = .ok (.aload_n 0, 1) := by decide +kernel
theorem dX7_head_52 : decode cX7_head 52 = .ok (.getfield 26, 3) := by decide +kernel
theorem dX7_head_55 : decode cX7_head 55 = .ok (.iload_n 1, 1) := by decide +kernel
theorem dX7_head_56 : decode cX7_head 56 = .ok (.iload_n 3, 1) := by decide +kernel
theorem dX7_head_57 : decode cX7_head 57 = .ok (.iload 4, 2) := by decide +kernel
theorem dX7_head_59 : decode cX7_head 59 = .ok (.invokevirtual 153, 3) := by decide +kernel
theorem dX7_head_62 : decode cX7_head 62 = .ok (.invokevirtual 157, 3) := by decide +kernel
theorem dX7_head_65 : decode cX7_head 65 = .ok (.aload_n 0, 1) := by decide +kernel
theorem dX7_head_66 : decode cX7_head 66 = .ok (.getfield 40, 3) := by decide +kernel
theorem dX7_head_69 : decode cX7_head 69 = .ok (.iload_n 2, 1) := by decide +kernel
theorem dX7_head_70 : decode cX7_head 70 = .ok (.invokevirtual 164, 3) := by decide +kernel
theorem dX7_head_73 : decode cX7_head 73 = .ok (.ireturn, 1) := by decide +kernel
theorem dX7_day_0 : decode cX7_day 0 = .ok (.lload_n 1, 1) := by decide +kernel
theorem dX7_day_1 : decode cX7_day 1 = .ok (.lconst 0, 1) := by decide +kernel
theorem dX7_day_2 : decode cX7_day 2 = .ok (.ldc2_w 167, 3) := by decide +kernel
theorem dX7_day_5 : decode cX7_day 5 = .ok (.invokestatic 63, 3) := by decide +kernel
theorem dX7_day_8 : decode cX7_day 8 = .ok (.ifCond .eq 14, 3) := by decide +kernel
theorem dX7_day_11 : decode cX7_day 11 = .ok (.aload_n 0, 1) := by decide +kernel
theorem dX7_day_12 : decode cX7_day 12 = .ok (.getfield 50, 3) := by decide +kernel
theorem dX7_day_15 : decode cX7_day 15 = .ok (.lload_n 1, 1) := by decide +kernel
theorem dX7_day_16 : decode cX7_day 16 = .ok (.invokevirtual 169, 3) := by decide +kernel
theorem dX7_day_19 : decode cX7_day 19 = .ok (.goto 4, 3) := by decide +kernel
theorem dX7_day_22 : decode cX7_day 22 = .ok (.iconst (-1), 1) := by decide +kernel
theorem dX7_day_23 : decode cX7_day 23 = .ok (.ireturn, 1) := by decide +kernel
theorem dX7_run_0 : decode cX7_run 0 = .ok (.lload_n 1, 1) := by decide +kernel
theorem dX7_run_1 : decode cX7_run 1 = .ok (.lconst 0, 1) := by decide +kernel
theorem dX7_run_2 : decode cX7_run 2 = .ok (.ldc2_w 171, 3) := by decide +kernel
theorem dX7_run_5 : decode cX7_run 5 = .ok (.invokestatic 63, 3) := by decide +kernel
theorem dX7_run_8 : decode cX7_run 8 = .ok (.ifCond .eq 14, 3) := by decide +kernel
theorem dX7_run_11 : decode cX7_run 11 = .ok (.lload_n 3, 1) := by decide +kernel
theorem dX7_run_12 : decode cX7_run 12 = .ok (.lconst 0, 1) := by decide +kernel
theorem dX7_run_13 : decode cX7_run 13 = .ok (.ldc2_w 171, 3) := by decide +kernel
theorem dX7_run_16 : decode cX7_run 16 = .ok (.invokestatic 63, 3) := by decide +kernel
theorem dX7_run_19 : decode cX7_run 19 = .ok (.ifCond .ne 5, 3) := by decide +kernel
theorem dX7_run_22 : decode cX7_run 22 = .ok (.iconst (-1), 1) := by decide +kernel
theorem dX7_run_23 : decode cX7_run 23 = .ok (.ireturn, 1) := by decide +kernel
theorem dX7_run_24 : decode cX7_run 24 = .ok (.aload_n 0, 1) := by decide +kernel
theorem dX7_run_25 : decode cX7_run 25 = .ok (.getfield 50, 3) := by decide +kernel
theorem dX7_run_28 : decode cX7_run 28 = .ok (.lload_n 1, 1) := by decide +kernel
theorem dX7_run_29 : decode cX7_run 29 = .ok (.lload_n 3, 1) := by decide +kernel
theorem dX7_run_30 : decode cX7_run 30 = .ok (.invokevirtual 173, 3) := by decide +kernel
theorem dX7_run_33 : decode cX7_run 33 = .ok (.ireturn, 1) := by decide +kernel
theorem dX7_behind_0 : decode cX7_behind 0 = .ok (.aload_n 0, 1) := by decide +kernel
theorem dX7_behind_1 : decode cX7_behind 1 = .ok (.getfield 50, 3) := by decide +kernel
theorem dX7_behind_4 : decode cX7_behind 4 = .ok (.iload_n 1, 1) := by decide +kernel
theorem dX7_behind_5 : decode cX7_behind 5 = .ok (.iload_n 2, 1) := by decide +kernel
theorem dX7_behind_6 : decode cX7_behind 6 = .ok (.invokevirtual 177, 3) := by decide +kernel
theorem dX7_behind_9 : decode cX7_behind 9 = .ok (.lreturn, 1) := by decide +kernel
theorem dX7_room_0 : decode cX7_room 0 = .ok (.lload_n 1, 1) := by decide +kernel
theorem dX7_room_1 : decode cX7_room 1 = .ok (.lconst 0, 1) := by decide +kernel
theorem dX7_room_2 : decode cX7_room 2 = .ok (.ldc2_w 171, 3) := by decide +kernel
theorem dX7_room_5 : decode cX7_room 5 = .ok (.invokestatic 63, 3) := by decide +kernel
theorem dX7_room_8 : decode cX7_room 8 = .ok (.ifCond .eq 15, 3) := by decide +kernel
theorem dX7_room_11 : decode cX7_room 11 = .ok (.iload_n 3, 1) := by decide +kernel
theorem dX7_room_12 : decode cX7_room 12 = .ok (.i2l, 1) := by decide +kernel
theorem dX7_room_13 : decode cX7_room 13 = .ok (.lconst 0, 1) := by decide +kernel
theorem dX7_room_14 : decode cX7_room 14 = .ok (.ldc2_w 181, 3) := by decide +kernel
theorem dX7_room_17 : decode cX7_room 17 = .ok (.invokestatic 63, 3) := by decide +kernel
theorem dX7_room_20 : decode cX7_room 20 = .ok (.ifCond .ne 7, 3) := by decide +kernel
theorem dX7_room_23 : decode cX7_room 23 = .ok (.ldc2_w 78, 3) := by decide +kernel
theorem dX7_room_26 : decode cX7_room 26 = .ok (.lreturn, 1) := by decide +kernel
theorem dX7_room_27 : decode cX7_room 27 = .ok (.aload_n 0, 1) := by decide +kernel
theorem dX7_room_28 : decode cX7_room 28 = .ok (.getfield 50, 3) := by decide +kernel
theorem dX7_room_31 : decode cX7_room 31 = .ok (.lload_n 1, 1) := by decide +kernel
theorem dX7_room_32 : decode cX7_room 32 = .ok (.iload_n 3, 1) := by decide +kernel
theorem dX7_room_33 : decode cX7_room 33 = .ok (.invokevirtual 183, 3) := by decide +kernel
theorem dX7_room_36 : decode cX7_room 36 = .ok (.lreturn, 1) := by decide +kernel
theorem dX7_way_0 : decode cX7_way 0 = .ok (.iload_n 1, 1) := by decide +kernel
theorem dX7_way_1 : decode cX7_way 1 = .ok (.i2l, 1) := by decide +kernel
theorem dX7_way_2 : decode cX7_way 2 = .ok (.ldc2_w 102, 3) := by decide +kernel
theorem dX7_way_5 : decode cX7_way 5 = .ok (.ldc2_w 69, 3) := by decide +kernel
theorem dX7_way_8 : decode cX7_way 8 = .ok (.invokestatic 63, 3) := by decide +kernel
theorem dX7_way_11 : decode cX7_way 11 = .ok (.ifCond .eq 14, 3) := by decide +kernel
theorem dX7_way_14 : decode cX7_way 14 = .ok (.aload_n 0, 1) := by decide +kernel
theorem dX7_way_15 : decode cX7_way 15 = .ok (.getfield 57, 3) := by decide +kernel
theorem dX7_way_18 : decode cX7_way 18 = .ok (.iload_n 1, 1) := by decide +kernel
theorem dX7_way_19 : decode cX7_way 19 = .ok (.invokevirtual 187, 3) := by decide +kernel
theorem dX7_way_22 : decode cX7_way 22 = .ok (.goto 4, 3) := by decide +kernel
theorem dX7_way_25 : decode cX7_way 25 = .ok (.iconst (-1), 1) := by decide +kernel
theorem dX7_way_26 : decode cX7_way 26 = .ok (.ireturn, 1) := by decide +kernel
theorem dX7_stops_0 : decode cX7_stops 0 = .ok (.aload_n 0, 1) := by decide +kernel
theorem dX7_stops_1 : decode cX7_stops 1 = .ok (.getfield 57, 3) := by decide +kernel
theorem dX7_stops_4 : decode cX7_stops 4 = .ok (.invokevirtual 189, 3) := by decide +kernel
theorem dX7_stops_7 : decode cX7_stops 7 = .ok (.ireturn, 1) := by decide +kernel
theorem dX7_count_0 : decode cX7_count 0 = .ok (.iload_n 1, 1) := by decide +kernel
theorem dX7_count_1 : decode cX7_count 1 = .ok (.tableswitch 99 0 6 #[43, 51, 59, 67, 75, 83, 91], 43) := by decide +kernel
theorem dX7_count_44 : decode cX7_count 44 = .ok (.aload_n 0, 1) := by decide +kernel
theorem dX7_count_45 : decode cX7_count 45 = .ok (.getfield 10, 3) := by decide +kernel
theorem dX7_count_48 : decode cX7_count 48 = .ok (.invokevirtual 192, 3) := by decide +kernel
theorem dX7_count_51 : decode cX7_count 51 = .ok (.ireturn, 1) := by decide +kernel
theorem dX7_count_52 : decode cX7_count 52 = .ok (.aload_n 0, 1) := by decide +kernel
theorem dX7_count_53 : decode cX7_count 53 = .ok (.getfield 19, 3) := by decide +kernel
theorem dX7_count_56 : decode cX7_count 56 = .ok (.invokevirtual 193, 3) := by decide +kernel
theorem dX7_count_59 : decode cX7_count 59 = .ok (.ireturn, 1) := by decide +kernel
theorem dX7_count_60 : decode cX7_count 60 = .ok (.aload_n 0, 1) := by decide +kernel
theorem dX7_count_61 : decode cX7_count 61 = .ok (.getfield 26, 3) := by decide +kernel
theorem dX7_count_64 : decode cX7_count 64 = .ok (.invokevirtual 194, 3) := by decide +kernel
theorem dX7_count_67 : decode cX7_count 67 = .ok (.ireturn, 1) := by decide +kernel
theorem dX7_count_68 : decode cX7_count 68 = .ok (.aload_n 0, 1) := by decide +kernel
theorem dX7_count_69 : decode cX7_count 69 = .ok (.getfield 40, 3) := by decide +kernel
theorem dX7_count_72 : decode cX7_count 72 = .ok (.invokevirtual 137, 3) := by decide +kernel
theorem dX7_count_75 : decode cX7_count 75 = .ok (.ireturn, 1) := by decide +kernel
theorem dX7_count_76 : decode cX7_count 76 = .ok (.aload_n 0, 1) := by decide +kernel
theorem dX7_count_77 : decode cX7_count 77 = .ok (.getfield 50, 3) := by decide +kernel
theorem dX7_count_80 : decode cX7_count 80 = .ok (.invokevirtual 195, 3) := by decide +kernel
theorem dX7_count_83 : decode cX7_count 83 = .ok (.ireturn, 1) := by decide +kernel
theorem dX7_count_84 : decode cX7_count 84 = .ok (.aload_n 0, 1) := by decide +kernel
theorem dX7_count_85 : decode cX7_count 85 = .ok (.getfield 57, 3) := by decide +kernel
theorem dX7_count_88 : decode cX7_count 88 = .ok (.invokevirtual 196, 3) := by decide +kernel
theorem dX7_count_91 : decode cX7_count 91 = .ok (.ireturn, 1) := by decide +kernel
theorem dX7_count_92 : decode cX7_count 92 = .ok (.aload_n 0, 1) := by decide +kernel
theorem dX7_count_93 : decode cX7_count 93 = .ok (.getfield 33, 3) := by decide +kernel
theorem dX7_count_96 : decode cX7_count 96 = .ok (.invokevirtual 197, 3) := by decide +kernel
theorem dX7_count_99 : decode cX7_count 99 = .ok (.ireturn, 1) := by decide +kernel
theorem dX7_count_100 : decode cX7_count 100 = .ok (.iconst (-1), 1) := by decide +kernel
theorem dX7_count_101 : decode cX7_count 101 = .ok (.ireturn, 1) := by decide +kernel
theorem dX7_neediestRain_0 : decode cX7_neediestRain 0 = .ok (.iload_n 2, 1) := by decide +kernel
theorem dX7_neediestRain_1 : decode cX7_neediestRain 1 = .ok (.i2l, 1) := by decide +kernel
theorem dX7_neediestRain_2 : decode cX7_neediestRain 2 = .ok (.lconst 0, 1) := by decide +kernel
theorem dX7_neediestRain_3 : decode cX7_neediestRain 3 = .ok (.ldc2_w 94, 3) := by decide +kernel
theorem dX7_neediestRain_6 : decode cX7_neediestRain 6 = .ok (.invokestatic 63, 3) := by decide +kernel
theorem dX7_neediestRain_9 : decode cX7_neediestRain 9 = .ok (.ifCond .eq 15, 3) := by decide +kernel
theorem dX7_neediestRain_12 : decode cX7_neediestRain 12 = .ok (.iload_n 3, 1) := by decide +kernel
theorem dX7_neediestRain_13 : decode cX7_neediestRain 13 = .ok (.i2l, 1) := by decide +kernel
theorem dX7_neediestRain_14 : decode cX7_neediestRain 14 = .ok (.lconst 0, 1) := by decide +kernel
theorem dX7_neediestRain_15 : decode cX7_neediestRain 15 = .ok (.ldc2_w 69, 3) := by decide +kernel
theorem dX7_neediestRain_18 : decode cX7_neediestRain 18 = .ok (.invokestatic 63, 3) := by decide +kernel
theorem dX7_neediestRain_21 : decode cX7_neediestRain 21 = .ok (.ifCond .ne 5, 3) := by decide +kernel
theorem dX7_neediestRain_24 : decode cX7_neediestRain 24 = .ok (.iconst (-1), 1) := by decide +kernel
theorem dX7_neediestRain_25 : decode cX7_neediestRain 25 = .ok (.ireturn, 1) := by decide +kernel
theorem dX7_neediestRain_26 : decode cX7_neediestRain 26 = .ok (.aload_n 0, 1) := by decide +kernel
theorem dX7_neediestRain_27 : decode cX7_neediestRain 27 = .ok (.getfield 10, 3) := by decide +kernel
theorem dX7_neediestRain_30 : decode cX7_neediestRain 30 = .ok (.iload_n 1, 1) := by decide +kernel
theorem dX7_neediestRain_31 : decode cX7_neediestRain 31 = .ok (.iload_n 2, 1) := by decide +kernel
theorem dX7_neediestRain_32 : decode cX7_neediestRain 32 = .ok (.iload_n 3, 1) := by decide +kernel
theorem dX7_neediestRain_33 : decode cX7_neediestRain 33 = .ok (.invokevirtual 198, 3) := by decide +kernel
theorem dX7_neediestRain_36 : decode cX7_neediestRain 36 = .ok (.ireturn, 1) := by decide +kernel
theorem dX7_within_0 : decode cX7_within 0 = .ok (.lload_n 2, 1) := by decide +kernel
theorem dX7_within_1 : decode cX7_within 1 = .ok (.lload_n 0, 1) := by decide +kernel
theorem dX7_within_2 : decode cX7_within 2 = .ok (.lcmp, 1) := by decide +kernel
theorem dX7_within_3 : decode cX7_within 3 = .ok (.ifCond .gt 14, 3) := by decide +kernel
theorem dX7_within_6 : decode cX7_within 6 = .ok (.lload_n 0, 1) := by decide +kernel
theorem dX7_within_7 : decode cX7_within 7 = .ok (.lload 4, 2) := by decide +kernel
theorem dX7_within_9 : decode cX7_within 9 = .ok (.lcmp, 1) := by decide +kernel
theorem dX7_within_10 : decode cX7_within 10 = .ok (.ifCond .gt 7, 3) := by decide +kernel
theorem dX7_within_13 : decode cX7_within 13 = .ok (.iconst 1, 1) := by decide +kernel
theorem dX7_within_14 : decode cX7_within 14 = .ok (.goto 4, 3) := by decide +kernel
theorem dX7_within_17 : decode cX7_within 17 = .ok (.iconst 0, 1) := by decide +kernel
theorem dX7_within_18 : decode cX7_within 18 = .ok (.ireturn, 1) := by decide +kernel
theorem dX7_isWaterOrFlow_0 : decode cX7_isWaterOrFlow 0 = .ok (.iload_n 0, 1) := by decide +kernel
theorem dX7_isWaterOrFlow_1 : decode cX7_isWaterOrFlow 1 = .ok (.i2l, 1) := by decide +kernel
theorem dX7_isWaterOrFlow_2 : decode cX7_isWaterOrFlow 2 = .ok (.lconst 0, 1) := by decide +kernel
theorem dX7_isWaterOrFlow_3 : decode cX7_isWaterOrFlow 3 = .ok (.ldc2_w 201, 3) := by decide +kernel
theorem dX7_isWaterOrFlow_6 : decode cX7_isWaterOrFlow 6 = .ok (.invokestatic 63, 3) := by decide +kernel
theorem dX7_isWaterOrFlow_9 : decode cX7_isWaterOrFlow 9 = .ok (.ireturn, 1) := by decide +kernel
