theorem dX0_init_0 : decode cX0_init 0 = .ok (.aload_n 0, 1) := by decide +kernel
theorem dX0_init_1 : decode cX0_init 1 = .ok (.invokespecial 3, 3) := by decide +kernel
theorem dX0_init_4 : decode cX0_init 4 = .ok (.aload_n 0, 1) := by decide +kernel
theorem dX0_init_5 : decode cX0_init 5 = .ok (.bipush (-2), 2) := by decide +kernel
theorem dX0_init_7 : decode cX0_init 7 = .ok (.putfield 9, 3) := by decide +kernel
theorem dX0_init_10 : decode cX0_init 10 = .ok (.aload_n 0, 1) := by decide +kernel
theorem dX0_init_11 : decode cX0_init 11 = .ok (.bipush (-2), 2) := by decide +kernel
theorem dX0_init_13 : decode cX0_init 13 = .ok (.putfield 15, 3) := by decide +kernel
theorem dX0_init_16 : decode cX0_init 16 = .ok (.aload_n 0, 1) := by decide +kernel
theorem dX0_init_17 : decode cX0_init 17 = .ok (.bipush (-2), 2) := by decide +kernel
theorem dX0_init_19 : decode cX0_init 19 = .ok (.putfield 18, 3) := by decide +kernel
theorem dX0_init_22 : decode cX0_init 22 = .ok (.aload_n 0, 1) := by decide +kernel
theorem dX0_init_23 : decode cX0_init 23 = .ok (.ldc 21, 2) := by decide +kernel
theorem dX0_init_25 : decode cX0_init 25 = .ok (.putfield 22, 3) := by decide +kernel
theorem dX0_init_28 : decode cX0_init 28 = .ok (.aload_n 0, 1) := by decide +kernel
theorem dX0_init_29 : decode cX0_init 29 = .ok (.ldc 21, 2) := by decide +kernel
theorem dX0_init_31 : decode cX0_init 31 = .ok (.putfield 25, 3) := by decide +kernel
theorem dX0_init_34 : decode cX0_init 34 = .ok (.aload_n 0, 1) := by decide +kernel
theorem dX0_init_35 : decode cX0_init 35 = .ok (.ldc 21, 2) := by decide +kernel
theorem dX0_init_37 : decode cX0_init 37 = .ok (.putfield 28, 3) := by decide +kernel
theorem dX0_init_40 : decode cX0_init 40 = .ok (.aload_n 0, 1) := by decide +kernel
theorem dX0_init_41 : decode cX0_init 41 = .ok (.ldc 21, 2) := by decide +kernel
theorem dX0_init_43 : decode cX0_init 43 = .ok (.putfield 31, 3) := by decide +kernel
theorem dX0_init_46 : decode cX0_init 46 = .ok (.aload_n 0, 1) := by decide +kernel
theorem dX0_init_47 : decode cX0_init 47 = .ok (.iload_n 1, 1) := by decide +kernel
theorem dX0_init_48 : decode cX0_init 48 = .ok (.putfield 34, 3) := by decide +kernel
theorem dX0_init_51 : decode cX0_init 51 = .ok (.aload_n 0, 1) := by decide +kernel
theorem dX0_init_52 : decode cX0_init 52 = .ok (.iload_n 2, 1) := by decide +kernel
theorem dX0_init_53 : decode cX0_init 53 = .ok (.putfield 37, 3) := by decide +kernel
theorem dX0_init_56 : decode cX0_init 56 = .ok (.aload_n 0, 1) := by decide +kernel
theorem dX0_init_57 : decode cX0_init 57 = .ok (.iload_n 3, 1) := by decide +kernel
theorem dX0_init_58 : decode cX0_init 58 = .ok (.putfield 40, 3) := by decide +kernel
theorem dX0_init_61 : decode cX0_init 61 = .ok (.aload_n 0, 1) := by decide +kernel
theorem dX0_init_62 : decode cX0_init 62 = .ok (.aload 4, 2) := by decide +kernel
theorem dX0_init_64 : decode cX0_init 64 = .ok (.bipush 6, 2) := by decide +kernel
theorem dX0_init_66 : decode cX0_init 66 = .ok (.invokestatic 43, 3) := by decide +kernel
theorem dX0_init_69 : decode cX0_init 69 = .ok (.putfield 49, 3) := by decide +kernel
theorem dX0_init_72 : decode cX0_init 72 = .ok (.return_, 1) := by decide +kernel
theorem dX0_byChampion_0 : decode cX0_byChampion 0 = .ok (.aload_n 0, 1) := by decide +kernel
theorem dX0_byChampion_1 : decode cX0_byChampion 1 = .ok (.iload_n 1, 1) := by decide +kernel
theorem dX0_byChampion_2 : decode cX0_byChampion 2 = .ok (.putfield 15, 3) := by decide +kernel
theorem dX0_byChampion_5 : decode cX0_byChampion 5 = .ok (.aload_n 0, 1) := by decide +kernel
theorem dX0_byChampion_6 : decode cX0_byChampion 6 = .ok (.iload_n 2, 1) := by decide +kernel
theorem dX0_byChampion_7 : decode cX0_byChampion 7 = .ok (.putfield 25, 3) := by decide +kernel
theorem dX0_byChampion_10 : decode cX0_byChampion 10 = .ok (.aload_n 0, 1) := by decide +kernel
theorem dX0_byChampion_11 : decode cX0_byChampion 11 = .ok (.iload_n 1, 1) := by decide +kernel
theorem dX0_byChampion_12 : decode cX0_byChampion 12 = .ok (.putfield 9, 3) := by decide +kernel
theorem dX0_byChampion_15 : decode cX0_byChampion 15 = .ok (.aload_n 0, 1) := by decide +kernel
theorem dX0_byChampion_16 : decode cX0_byChampion 16 = .ok (.iload_n 2, 1) := by decide +kernel
theorem dX0_byChampion_17 : decode cX0_byChampion 17 = .ok (.putfield 22, 3) := by decide +kernel
theorem dX0_byChampion_20 : decode cX0_byChampion 20 = .ok (.return_, 1) := by decide +kernel
theorem dX0_byRival_0 : decode cX0_byRival 0 = .ok (.aload_n 0, 1) := by decide +kernel
theorem dX0_byRival_1 : decode cX0_byRival 1 = .ok (.iload_n 1, 1) := by decide +kernel
theorem dX0_byRival_2 : decode cX0_byRival 2 = .ok (.putfield 18, 3) := by decide +kernel
theorem dX0_byRival_5 : decode cX0_byRival 5 = .ok (.aload_n 0, 1) := by decide +kernel
theorem dX0_byRival_6 : decode cX0_byRival 6 = .ok (.iload_n 2, 1) := by decide +kernel
theorem dX0_byRival_7 : decode cX0_byRival 7 = .ok (.putfield 28, 3) := by decide +kernel
theorem dX0_byRival_10 : decode cX0_byRival 10 = .ok (.iload_n 3, 1) := by decide +kernel
theorem dX0_byRival_11 : decode cX0_byRival 11 = .ok (.ifCond .eq 13, 3) := by decide +kernel
theorem dX0_byRival_14 : decode cX0_byRival 14 = .ok (.aload_n 0, 1) := by decide +kernel
theorem dX0_byRival_15 : decode cX0_byRival 15 = .ok (.iload_n 1, 1) := by decide +kernel
theorem dX0_byRival_16 : decode cX0_byRival 16 = .ok (.putfield 9, 3) := by decide +kernel
theorem dX0_byRival_19 : decode cX0_byRival 19 = .ok (.aload_n 0, 1) := by decide +kernel
theorem dX0_byRival_20 : decode cX0_byRival 20 = .ok (.iload_n 2, 1) := by decide +kernel
theorem dX0_byRival_21 : decode cX0_byRival 21 = .ok (.putfield 22, 3) := by decide +kernel
theorem dX0_byRival_24 : decode cX0_byRival 24 = .ok (.return_, 1) := by decide +kernel
theorem dX1_init_0 : decode cX1_init 0 = .ok (.aload_n 0, 1) := by decide +kernel
theorem dX1_init_1 : decode cX1_init 1 = .ok (.invokespecial 3, 3) := by decide +kernel
theorem dX1_init_4 : decode cX1_init 4 = .ok (.aload_n 0, 1) := by decide +kernel
theorem dX1_init_5 : decode cX1_init 5 = .ok (.bipush 6, 2) := by decide +kernel
theorem dX1_init_7 : decode cX1_init 7 = .ok (.newarray .int, 2) := by decide +kernel
theorem dX1_init_9 : decode cX1_init 9 = .ok (.putfield 9, 3) := by decide +kernel
theorem dX1_init_12 : decode cX1_init 12 = .ok (.aload_n 0, 1) := by decide +kernel
theorem dX1_init_13 : decode cX1_init 13 = .ok (.bipush 6, 2) := by decide +kernel
theorem dX1_init_15 : decode cX1_init 15 = .ok (.newarray .int, 2) := by decide +kernel
theorem dX1_init_17 : decode cX1_init 17 = .ok (.putfield 15, 3) := by decide +kernel
theorem dX1_init_20 : decode cX1_init 20 = .ok (.aload_n 0, 1) := by decide +kernel
theorem dX1_init_21 : decode cX1_init 21 = .ok (.bipush 20, 2) := by decide +kernel
theorem dX1_init_23 : decode cX1_init 23 = .ok (.newarray .int, 2) := by decide +kernel
theorem dX1_init_25 : decode cX1_init 25 = .ok (.putfield 18, 3) := by decide +kernel
theorem dX1_init_28 : decode cX1_init 28 = .ok (.aload_n 0, 1) := by decide +kernel
theorem dX1_init_29 : decode cX1_init 29 = .ok (.sipush 2001, 3) := by decide +kernel
theorem dX1_init_32 : decode cX1_init 32 = .ok (.newarray .int, 2) := by decide +kernel
theorem dX1_init_34 : decode cX1_init 34 = .ok (.putfield 21, 3) := by decide +kernel
theorem dX1_init_37 : decode cX1_init 37 = .ok (.aload_n 0, 1) := by decide +kernel
theorem dX1_init_38 : decode cX1_init 38 = .ok (.sipush 2001, 3) := by decide +kernel
theorem dX1_init_41 : decode cX1_init 41 = .ok (.newarray .int, 2) := by decide +kernel
theorem dX1_init_43 : decode cX1_init 43 = .ok (.putfield 24, 3) := by decide +kernel
theorem dX1_init_46 : decode cX1_init 46 = .ok (.aload_n 0, 1) := by decide +kernel
theorem dX1_init_47 : decode cX1_init 47 = .ok (.bipush 24, 2) := by decide +kernel
theorem dX1_init_49 : decode cX1_init 49 = .ok (.newarray .int, 2) := by decide +kernel
theorem dX1_init_51 : decode cX1_init 51 = .ok (.putfield 27, 3) := by decide +kernel
theorem dX1_init_54 : decode cX1_init 54 = .ok (.aload_n 0, 1) := by decide +kernel
theorem dX1_init_55 : decode cX1_init 55 = .ok (.bipush 24, 2) := by decide +kernel
theorem dX1_init_57 : decode cX1_init 57 = .ok (.newarray .int, 2) := by decide +kernel
theorem dX1_init_59 : decode cX1_init 59 = .ok (.putfield 30, 3) := by decide +kernel
theorem dX1_init_62 : decode cX1_init 62 = .ok (.aload_n 0, 1) := by decide +kernel
theorem dX1_init_63 : decode cX1_init 63 = .ok (.bipush (-2), 2) := by decide +kernel
theorem dX1_init_65 : decode cX1_init 65 = .ok (.putfield 33, 3) := by decide +kernel
theorem dX1_init_68 : decode cX1_init 68 = .ok (.aload_n 0, 1) := by decide +kernel
theorem dX1_init_69 : decode cX1_init 69 = .ok (.bipush (-2), 2) := by decide +kernel
theorem dX1_init_71 : decode cX1_init 71 = .ok (.putfield 37, 3) := by decide +kernel
theorem dX1_init_74 : decode cX1_init 74 = .ok (.aload_n 0, 1) := by decide +kernel
theorem dX1_init_75 : decode cX1_init 75 = .ok (.getfield 9, 3) := by decide +kernel
theorem dX1_init_78 : decode cX1_init 78 = .ok (.sipush (-1000), 3) := by decide +kernel
theorem dX1_init_81 : decode cX1_init 81 = .ok (.invokestatic 40, 3) := by decide +kernel
theorem dX1_init_84 : decode cX1_init 84 = .ok (.aload_n 0, 1) := by decide +kernel
theorem dX1_init_85 : decode cX1_init 85 = .ok (.getfield 15, 3) := by decide +kernel
theorem dX1_init_88 : decode cX1_init 88 = .ok (.sipush 1000, 3) := by decide +kernel
theorem dX1_init_91 : decode cX1_init 91 = .ok (.invokestatic 40, 3) := by decide +kernel
theorem dX1_init_94 : decode cX1_init 94 = .ok (.return_, 1) := by decide +kernel
theorem dX1_dropRival_0 : decode cX1_dropRival 0 = .ok (.aload_n 0, 1) := by decide +kernel
theorem dX1_dropRival_1 : decode cX1_dropRival 1 = .ok (.bipush (-2), 2) := by decide +kernel
theorem dX1_dropRival_3 : decode cX1_dropRival 3 = .ok (.putfield 37, 3) := by decide +kernel
theorem dX1_dropRival_6 : decode cX1_dropRival 6 = .ok (.aload_n 0, 1) := by decide +kernel
theorem dX1_dropRival_7 : decode cX1_dropRival 7 = .ok (.iconst 0, 1) := by decide +kernel
theorem dX1_dropRival_8 : decode cX1_dropRival 8 = .ok (.putfield 46, 3) := by decide +kernel
theorem dX1_dropRival_11 : decode cX1_dropRival 11 = .ok (.return_, 1) := by decide +kernel
theorem dX1_rememberFormer_0 : decode cX1_rememberFormer 0 = .ok (.aload_n 0, 1) := by decide +kernel
theorem dX1_rememberFormer_1 : decode cX1_rememberFormer 1 = .ok (.getfield 33, 3) := by decide +kernel
theorem dX1_rememberFormer_4 : decode cX1_rememberFormer 4 = .ok (.bipush (-2), 2) := by decide +kernel
theorem dX1_rememberFormer_6 : decode cX1_rememberFormer 6 = .ok (.if_icmp .ne 4, 3) := by decide +kernel
theorem dX1_rememberFormer_9 : decode cX1_rememberFormer 9 = .ok (.return_, 1) := by decide +kernel
theorem dX1_rememberFormer_10 : decode cX1_rememberFormer 10 = .ok (.aload_n 0, 1) := by decide +kernel
theorem dX1_rememberFormer_11 : decode cX1_rememberFormer 11 = .ok (.getfield 49, 3) := by decide +kernel
theorem dX1_rememberFormer_14 : decode cX1_rememberFormer 14 = .ok (.bipush 20, 2) := by decide +kernel
theorem dX1_rememberFormer_16 : decode cX1_rememberFormer 16 = .ok (.if_icmp .lt 24, 3) := by decide +kernel
theorem dX1_rememberFormer_19 : decode cX1_rememberFormer 19 = .ok (.aload_n 0, 1) := by decide +kernel
theorem dX1_rememberFormer_20 : decode cX1_rememberFormer 20 = .ok (.getfield 18, 3) := by decide +kernel
theorem dX1_rememberFormer_23 : decode cX1_rememberFormer 23 = .ok (.iconst 1, 1) := by decide +kernel
theorem dX1_rememberFormer_24 : decode cX1_rememberFormer 24 = .ok (.aload_n 0, 1) := by decide +kernel
theorem dX1_rememberFormer_25 : decode cX1_rememberFormer 25 = .ok (.getfield 18, 3) := by decide +kernel
theorem dX1_rememberFormer_28 : decode cX1_rememberFormer 28 = .ok (.iconst 0, 1) := by decide +kernel
theorem dX1_rememberFormer_29 : decode cX1_rememberFormer 29 = .ok (.bipush 19, 2) := by decide +kernel
theorem dX1_rememberFormer_31 : decode cX1_rememberFormer 31 = .ok (.invokestatic 52, 3) := by decide +kernel
theorem dX1_rememberFormer_34 : decode cX1_rememberFormer 34 = .ok (.aload_n 0, 1) := by decide +kernel
theorem dX1_rememberFormer_35 : decode cX1_rememberFormer 35 = .ok (.bipush 19, 2) := by decide +kernel
theorem dX1_rememberFormer_37 : decode cX1_rememberFormer 37 = .ok (.putfield 49, 3) := by decide +kernel
theorem dX1_rememberFormer_40 : decode cX1_rememberFormer 40 = .ok (.aload_n 0, 1) := by decide +kernel
theorem dX1_rememberFormer_41 : decode cX1_rememberFormer 41 = .ok (.getfield 49, 3) := by decide +kernel
theorem dX1_rememberFormer_44 : decode cX1_rememberFormer 44 = .ok (.ifCond .lt 38, 3) := by decide +kernel
theorem dX1_rememberFormer_47 : decode cX1_rememberFormer 47 = .ok (.aload_n 0, 1) := by decide +kernel
theorem dX1_rememberFormer_48 : decode cX1_rememberFormer 48 = .ok (.getfield 49, 3) := by decide +kernel
theorem dX1_rememberFormer_51 : decode cX1_rememberFormer 51 = .ok (.aload_n 0, 1) := by decide +kernel
theorem dX1_rememberFormer_52 : decode cX1_rememberFormer 52 = .ok (.getfield 18, 3) := by decide +kernel
theorem dX1_rememberFormer_55 : decode cX1_rememberFormer 55 = .ok (.arraylength, 1) := by decide +kernel
theorem dX1_rememberFormer_56 : decode cX1_rememberFormer 56 = .ok (.if_icmp .ge 26, 3) := by decide +kernel
theorem dX1_rememberFormer_59 : decode cX1_rememberFormer 59 = .ok (.aload_n 0, 1) := by decide +kernel
theorem dX1_rememberFormer_60 : decode cX1_rememberFormer 60 = .ok (.getfield 18, 3) := by decide +kernel
theorem dX1_rememberFormer_63 : decode cX1_rememberFormer 63 = .ok (.aload_n 0, 1) := by decide +kernel
theorem dX1_rememberFormer_64 : decode cX1_rememberFormer 64 = .ok (.getfield 49, 3) := by decide +kernel
theorem dX1_rememberFormer_67 : decode cX1_rememberFormer 67 = .ok (.aload_n 0, 1) := by decide +kernel
theorem dX1_rememberFormer_68 : decode cX1_rememberFormer 68 = .ok (.getfield 33, 3) := by decide +kernel
theorem dX1_rememberFormer_71 : decode cX1_rememberFormer 71 = .ok (.iastore, 1) := by decide +kernel
theorem dX1_rememberFormer_72 : decode cX1_rememberFormer 72 = .ok (.aload_n 0, 1) := by decide +kernel
theorem dX1_rememberFormer_73 : decode cX1_rememberFormer 73 = .ok (.dup, 1) := by decide +kernel
theorem dX1_rememberFormer_74 : decode cX1_rememberFormer 74 = .ok (.getfield 49, 3) := by decide +kernel
theorem dX1_rememberFormer_77 : decode cX1_rememberFormer 77 = .ok (.iconst 1, 1) := by decide +kernel
theorem dX1_rememberFormer_78 : decode cX1_rememberFormer 78 = .ok (.iadd, 1) := by decide +kernel
theorem dX1_rememberFormer_79 : decode cX1_rememberFormer 79 = .ok (.putfield 49, 3) := by decide +kernel
theorem dX1_rememberFormer_82 : decode cX1_rememberFormer 82 = .ok (.return_, 1) := by decide +kernel
theorem dX1_takeFormer_0 : decode cX1_takeFormer 0 = .ok (.aload_n 0, 1) := by decide +kernel
theorem dX1_takeFormer_1 : decode cX1_takeFormer 1 = .ok (.getfield 49, 3) := by decide +kernel
theorem dX1_takeFormer_4 : decode cX1_takeFormer 4 = .ok (.iconst 1, 1) := by decide +kernel
theorem dX1_takeFormer_5 : decode cX1_takeFormer 5 = .ok (.if_icmp .lt 15, 3) := by decide +kernel
theorem dX1_takeFormer_8 : decode cX1_takeFormer 8 = .ok (.aload_n 0, 1) := by decide +kernel
theorem dX1_takeFormer_9 : decode cX1_takeFormer 9 = .ok (.getfield 49, 3) := by decide +kernel
theorem dX1_takeFormer_12 : decode cX1_takeFormer 12 = .ok (.aload_n 0, 1) := by decide +kernel
theorem dX1_takeFormer_13 : decode cX1_takeFormer 13 = .ok (.getfield 18, 3) := by decide +kernel
theorem dX1_takeFormer_16 : decode cX1_takeFormer 16 = .ok (.arraylength, 1) := by decide +kernel
theorem dX1_takeFormer_17 : decode cX1_takeFormer 17 = .ok (.if_icmp .le 6, 3) := by decide +kernel
theorem dX1_takeFormer_20 : decode cX1_takeFormer 20 = .ok (.bipush (-2), 2) := by decide +kernel
theorem dX1_takeFormer_22 : decode cX1_takeFormer 22 = .ok (.ireturn, 1) := by decide +kernel
theorem dX1_takeFormer_23 : decode cX1_takeFormer 23 = .ok (.aload_n 0, 1) := by decide +kernel
theorem dX1_takeFormer_24 : decode cX1_takeFormer 24 = .ok (.dup, 1) := by decide +kernel
theorem dX1_takeFormer_25 : decode cX1_takeFormer 25 = .ok (.getfield 49, 3) := by decide +kernel
theorem dX1_takeFormer_28 : decode cX1_takeFormer 28 = .ok (.iconst 1, 1) := by decide +kernel
theorem dX1_takeFormer_29 : decode cX1_takeFormer 29 = .ok (.isub, 1) := by decide +kernel
theorem dX1_takeFormer_30 : decode cX1_takeFormer 30 = .ok (.putfield 49, 3) := by decide +kernel
theorem dX1_takeFormer_33 : decode cX1_takeFormer 33 = .ok (.aload_n 0, 1) := by decide +kernel
theorem dX1_takeFormer_34 : decode cX1_takeFormer 34 = .ok (.getfield 18, 3) := by decide +kernel
theorem dX1_takeFormer_37 : decode cX1_takeFormer 37 = .ok (.aload_n 0, 1) := by decide +kernel
theorem dX1_takeFormer_38 : decode cX1_takeFormer 38 = .ok (.getfield 49, 3) := by decide +kernel
theorem dX1_takeFormer_41 : decode cX1_takeFormer 41 = .ok (.iaload, 1) := by decide +kernel
theorem dX1_takeFormer_42 : decode cX1_takeFormer 42 = .ok (.ireturn, 1) := by decide +kernel
theorem dX1_changeChampion_0 : decode cX1_changeChampion 0 = .ok (.aload_n 0, 1) := by decide +kernel
theorem dX1_changeChampion_1 : decode cX1_changeChampion 1 = .ok (.iload_n 1, 1) := by decide +kernel
theorem dX1_changeChampion_2 : decode cX1_changeChampion 2 = .ok (.putfield 33, 3) := by decide +kernel
theorem dX1_changeChampion_5 : decode cX1_changeChampion 5 = .ok (.aload_n 0, 1) := by decide +kernel
theorem dX1_changeChampion_6 : decode cX1_changeChampion 6 = .ok (.getfield 58, 3) := by decide +kernel
theorem dX1_changeChampion_9 : decode cX1_changeChampion 9 = .ok (.iconst 1, 1) := by decide +kernel
theorem dX1_changeChampion_10 : decode cX1_changeChampion 10 = .ok (.isub, 1) := by decide +kernel
theorem dX1_changeChampion_11 : decode cX1_changeChampion 11 = .ok (.istore_n 3, 1) := by decide +kernel
theorem dX1_changeChampion_12 : decode cX1_changeChampion 12 = .ok (.iload_n 3, 1) := by decide +kernel
theorem dX1_changeChampion_13 : decode cX1_changeChampion 13 = .ok (.ifCond .lt 26, 3) := by decide +kernel
theorem dX1_changeChampion_16 : decode cX1_changeChampion 16 = .ok (.iload_n 3, 1) := by decide +kernel
theorem dX1_changeChampion_17 : decode cX1_changeChampion 17 = .ok (.aload_n 0, 1) := by decide +kernel
theorem dX1_changeChampion_18 : decode cX1_changeChampion 18 = .ok (.getfield 21, 3) := by decide +kernel
theorem dX1_changeChampion_21 : decode cX1_changeChampion 21 = .ok (.arraylength, 1) := by decide +kernel
theorem dX1_changeChampion_22 : decode cX1_changeChampion 22 = .ok (.if_icmp .ge 17, 3) := by decide +kernel
theorem dX1_changeChampion_25 : decode cX1_changeChampion 25 = .ok (.aload_n 0, 1) := by decide +kernel
theorem dX1_changeChampion_26 : decode cX1_changeChampion 26 = .ok (.getfield 21, 3) := by decide +kernel
theorem dX1_changeChampion_29 : decode cX1_changeChampion 29 = .ok (.iload_n 3, 1) := by decide +kernel
theorem dX1_changeChampion_30 : decode cX1_changeChampion 30 = .ok (.iaload, 1) := by decide +kernel
theorem dX1_changeChampion_31 : decode cX1_changeChampion 31 = .ok (.iload_n 2, 1) := by decide +kernel
theorem dX1_changeChampion_32 : decode cX1_changeChampion 32 = .ok (.if_icmp .ne 7, 3) := by decide +kernel
theorem dX1_changeChampion_35 : decode cX1_changeChampion 35 = .ok (.iload_n 3, 1) := by decide +kernel
theorem dX1_changeChampion_36 : decode cX1_changeChampion 36 = .ok (.goto 7, 3) := by decide +kernel
theorem dX1_changeChampion_39 : decode cX1_changeChampion 39 = .ok (.aload_n 0, 1) := by decide +kernel
theorem dX1_changeChampion_40 : decode cX1_changeChampion 40 = .ok (.getfield 58, 3) := by decide +kernel
theorem dX1_changeChampion_43 : decode cX1_changeChampion 43 = .ok (.istore 4, 2) := by decide +kernel
theorem dX1_changeChampion_45 : decode cX1_changeChampion 45 = .ok (.iload 4, 2) := by decide +kernel
theorem dX1_changeChampion_47 : decode cX1_changeChampion 47 = .ok (.ifCond .lt 47, 3) := by decide +kernel
theorem dX1_changeChampion_50 : decode cX1_changeChampion 50 = .ok (.iload 4, 2) := by decide +kernel
theorem dX1_changeChampion_52 : decode cX1_changeChampion 52 = .ok (.aload_n 0, 1) := by decide +kernel
theorem dX1_changeChampion_53 : decode cX1_changeChampion 53 = .ok (.getfield 21, 3) := by decide +kernel
theorem dX1_changeChampion_56 : decode cX1_changeChampion 56 = .ok (.arraylength, 1) := by decide +kernel
theorem dX1_changeChampion_57 : decode cX1_changeChampion 57 = .ok (.if_icmp .ge 37, 3) := by decide +kernel
theorem dX1_changeChampion_60 : decode cX1_changeChampion 60 = .ok (.iload 4, 2) := by decide +kernel
theorem dX1_changeChampion_62 : decode cX1_changeChampion 62 = .ok (.aload_n 0, 1) := by decide +kernel
theorem dX1_changeChampion_63 : decode cX1_changeChampion 63 = .ok (.getfield 24, 3) := by decide +kernel
theorem dX1_changeChampion_66 : decode cX1_changeChampion 66 = .ok (.arraylength, 1) := by decide +kernel
theorem dX1_changeChampion_67 : decode cX1_changeChampion 67 = .ok (.if_icmp .ge 27, 3) := by decide +kernel
theorem dX1_changeChampion_70 : decode cX1_changeChampion 70 = .ok (.aload_n 0, 1) := by decide +kernel
theorem dX1_changeChampion_71 : decode cX1_changeChampion 71 = .ok (.getfield 21, 3) := by decide +kernel
theorem dX1_changeChampion_74 : decode cX1_changeChampion 74 = .ok (.iload 4, 2) := by decide +kernel
theorem dX1_changeChampion_76 : decode cX1_changeChampion 76 = .ok (.iload_n 2, 1) := by decide +kernel
theorem dX1_changeChampion_77 : decode cX1_changeChampion 77 = .ok (.iastore, 1) := by decide +kernel
theorem dX1_changeChampion_78 : decode cX1_changeChampion 78 = .ok (.aload_n 0, 1) := by decide +kernel
theorem dX1_changeChampion_79 : decode cX1_changeChampion 79 = .ok (.getfield 24, 3) := by decide +kernel
theorem dX1_changeChampion_82 : decode cX1_changeChampion 82 = .ok (.iload 4, 2) := by decide +kernel
theorem dX1_changeChampion_84 : decode cX1_changeChampion 84 = .ok (.iload_n 1, 1) := by decide +kernel
theorem dX1_changeChampion_85 : decode cX1_changeChampion 85 = .ok (.iastore, 1) := by decide +kernel
theorem dX1_changeChampion_86 : decode cX1_changeChampion 86 = .ok (.aload_n 0, 1) := by decide +kernel
theorem dX1_changeChampion_87 : decode cX1_changeChampion 87 = .ok (.iload 4, 2) := by decide +kernel
theorem dX1_changeChampion_89 : decode cX1_changeChampion 89 = .ok (.iconst 1, 1) := by decide +kernel
theorem dX1_changeChampion_90 : decode cX1_changeChampion 90 = .ok (.iadd, 1) := by decide +kernel
theorem dX1_changeChampion_91 : decode cX1_changeChampion 91 = .ok (.putfield 58, 3) := by decide +kernel
theorem dX1_changeChampion_94 : decode cX1_changeChampion 94 = .ok (.return_, 1) := by decide +kernel
theorem dX1_championOn_0 : decode cX1_championOn 0 = .ok (.bipush (-2), 2) := by decide +kernel
theorem dX1_championOn_2 : decode cX1_championOn 2 = .ok (.istore_n 2, 1) := by decide +kernel
theorem dX1_championOn_3 : decode cX1_championOn 3 = .ok (.iconst 0, 1) := by decide +kernel
theorem dX1_championOn_4 : decode cX1_championOn 4 = .ok (.istore_n 3, 1) := by decide +kernel
theorem dX1_championOn_5 : decode cX1_championOn 5 = .ok (.iload_n 3, 1) := by decide +kernel
theorem dX1_championOn_6 : decode cX1_championOn 6 = .ok (.aload_n 0, 1) := by decide +kernel
theorem dX1_championOn_7 : decode cX1_championOn 7 = .ok (.getfield 58, 3) := by decide +kernel
theorem dX1_championOn_10 : decode cX1_championOn 10 = .ok (.if_icmp .ge 46, 3) := by decide +kernel
theorem dX1_championOn_13 : decode cX1_championOn 13 = .ok (.iload_n 3, 1) := by decide +kernel
theorem dX1_championOn_14 : decode cX1_championOn 14 = .ok (.aload_n 0, 1) := by decide +kernel
theorem dX1_championOn_15 : decode cX1_championOn 15 = .ok (.getfield 21, 3) := by decide +kernel
theorem dX1_championOn_18 : decode cX1_championOn 18 = .ok (.arraylength, 1) := by decide +kernel
theorem dX1_championOn_19 : decode cX1_championOn 19 = .ok (.if_icmp .ge 37, 3) := by decide +kernel
theorem dX1_championOn_22 : decode cX1_championOn 22 = .ok (.iload_n 3, 1) := by decide +kernel
theorem dX1_championOn_23 : decode cX1_championOn 23 = .ok (.aload_n 0, 1) := by decide +kernel
theorem dX1_championOn_24 : decode cX1_championOn 24 = .ok (.getfield 24, 3) := by decide +kernel
theorem dX1_championOn_27 : decode cX1_championOn 27 = .ok (.arraylength, 1) := by decide +kernel
theorem dX1_championOn_28 : decode cX1_championOn 28 = .ok (.if_icmp .ge 28, 3) := by decide +kernel
theorem dX1_championOn_31 : decode cX1_championOn 31 = .ok (.aload_n 0, 1) := by decide +kernel
theorem dX1_championOn_32 : decode cX1_championOn 32 = .ok (.getfield 21, 3) := by decide +kernel
theorem dX1_championOn_35 : decode cX1_championOn 35 = .ok (.iload_n 3, 1) := by decide +kernel
theorem dX1_championOn_36 : decode cX1_championOn 36 = .ok (.iaload, 1) := by decide +kernel
theorem dX1_championOn_37 : decode cX1_championOn 37 = .ok (.iload_n 1, 1) := by decide +kernel
theorem dX1_championOn_38 : decode cX1_championOn 38 = .ok (.if_icmp .le 5, 3) := by decide +kernel
theorem dX1_championOn_41 : decode cX1_championOn 41 = .ok (.iload_n 2, 1) := by decide +kernel
theorem dX1_championOn_42 : decode cX1_championOn 42 = .ok (.ireturn, 1) := by decide +kernel
theorem dX1_championOn_43 : decode cX1_championOn 43 = .ok (.aload_n 0, 1) := by decide +kernel
theorem dX1_championOn_44 : decode cX1_championOn 44 = .ok (.getfield 24, 3) := by decide +kernel
theorem dX1_championOn_47 : decode cX1_championOn 47 = .ok (.iload_n 3, 1) := by decide +kernel
theorem dX1_championOn_48 : decode cX1_championOn 48 = .ok (.iaload, 1) := by decide +kernel
theorem dX1_championOn_49 : decode cX1_championOn 49 = .ok (.istore_n 2, 1) := by decide +kernel
theorem dX1_championOn_50 : decode cX1_championOn 50 = .ok (.iinc 3 1, 3) := by decide +kernel
theorem dX1_championOn_53 : decode cX1_championOn 53 = .ok (.goto (-48), 3) := by decide +kernel
theorem dX1_championOn_56 : decode cX1_championOn 56 = .ok (.iload_n 2, 1) := by decide +kernel
theorem dX1_championOn_57 : decode cX1_championOn 57 = .ok (.ireturn, 1) := by decide +kernel
theorem dX1_letsIn_0 : decode cX1_letsIn 0 = .ok (.iconst 0, 1) := by decide +kernel
theorem dX1_letsIn_1 : decode cX1_letsIn 1 = .ok (.istore_n 2, 1) := by decide +kernel
theorem dX1_letsIn_2 : decode cX1_letsIn 2 = .ok (.iload_n 2, 1) := by decide +kernel
theorem dX1_letsIn_3 : decode cX1_letsIn 3 = .ok (.aload_n 1, 1) := by decide +kernel
theorem dX1_letsIn_4 : decode cX1_letsIn 4 = .ok (.arraylength, 1) := by decide +kernel
theorem dX1_letsIn_5 : decode cX1_letsIn 5 = .ok (.if_icmp .ge 53, 3) := by decide +kernel
theorem dX1_letsIn_8 : decode cX1_letsIn 8 = .ok (.iload_n 2, 1) := by decide +kernel
theorem dX1_letsIn_9 : decode cX1_letsIn 9 = .ok (.aload_n 0, 1) := by decide +kernel
theorem dX1_letsIn_10 : decode cX1_letsIn 10 = .ok (.getfield 9, 3) := by decide +kernel
theorem dX1_letsIn_13 : decode cX1_letsIn 13 = .ok (.arraylength, 1) := by decide +kernel
theorem dX1_letsIn_14 : decode cX1_letsIn 14 = .ok (.if_icmp .ge 44, 3) := by decide +kernel
theorem dX1_letsIn_17 : decode cX1_letsIn 17 = .ok (.iload_n 2, 1) := by decide +kernel
theorem dX1_letsIn_18 : decode cX1_letsIn 18 = .ok (.aload_n 0, 1) := by decide +kernel
theorem dX1_letsIn_19 : decode cX1_letsIn 19 = .ok (.getfield 15, 3) := by decide +kernel
theorem dX1_letsIn_22 : decode cX1_letsIn 22 = .ok (.arraylength, 1) := by decide +kernel
theorem dX1_letsIn_23 : decode cX1_letsIn 23 = .ok (.if_icmp .ge 35, 3) := by decide +kernel
theorem dX1_letsIn_26 : decode cX1_letsIn 26 = .ok (.aload_n 1, 1) := by decide +kernel
theorem dX1_letsIn_27 : decode cX1_letsIn 27 = .ok (.iload_n 2, 1) := by decide +kernel
theorem dX1_letsIn_28 : decode cX1_letsIn 28 = .ok (.iaload, 1) := by decide +kernel
theorem dX1_letsIn_29 : decode cX1_letsIn 29 = .ok (.aload_n 0, 1) := by decide +kernel
theorem dX1_letsIn_30 : decode cX1_letsIn 30 = .ok (.getfield 9, 3) := by decide +kernel
theorem dX1_letsIn_33 : decode cX1_letsIn 33 = .ok (.iload_n 2, 1) := by decide +kernel
theorem dX1_letsIn_34 : decode cX1_letsIn 34 = .ok (.iaload, 1) := by decide +kernel
theorem dX1_letsIn_35 : decode cX1_letsIn 35 = .ok (.if_icmp .lt 15, 3) := by decide +kernel
theorem dX1_letsIn_38 : decode cX1_letsIn 38 = .ok (.aload_n 1, 1) := by decide +kernel
theorem dX1_letsIn_39 : decode cX1_letsIn 39 = .ok (.iload_n 2, 1) := by decide +kernel
theorem dX1_letsIn_40 : decode cX1_letsIn 40 = .ok (.iaload, 1) := by decide +kernel
theorem dX1_letsIn_41 : decode cX1_letsIn 41 = .ok (.aload_n 0, 1) := by decide +kernel
theorem dX1_letsIn_42 : decode cX1_letsIn 42 = .ok (.getfield 15, 3) := by decide +kernel
theorem dX1_letsIn_45 : decode cX1_letsIn 45 = .ok (.iload_n 2, 1) := by decide +kernel
theorem dX1_letsIn_46 : decode cX1_letsIn 46 = .ok (.iaload, 1) := by decide +kernel
theorem dX1_letsIn_47 : decode cX1_letsIn 47 = .ok (.if_icmp .le 5, 3) := by decide +kernel
theorem dX1_letsIn_50 : decode cX1_letsIn 50 = .ok (.iconst 0, 1) := by decide +kernel
theorem dX1_letsIn_51 : decode cX1_letsIn 51 = .ok (.ireturn, 1) := by decide +kernel
theorem dX1_letsIn_52 : decode cX1_letsIn 52 = .ok (.iinc 2 1, 3) := by decide +kernel
theorem dX1_letsIn_55 : decode cX1_letsIn 55 = .ok (.goto (-53), 3) := by decide +kernel
theorem dX1_letsIn_58 : decode cX1_letsIn 58 = .ok (.iconst 1, 1) := by decide +kernel
theorem dX1_letsIn_59 : decode cX1_letsIn 59 = .ok (.ireturn, 1) := by decide +kernel
theorem dX1_countAnswer_0 : decode cX1_countAnswer 0 = .ok (.aload_n 0, 1) := by decide +kernel
theorem dX1_countAnswer_1 : decode cX1_countAnswer 1 = .ok (.dup, 1) := by decide +kernel
theorem dX1_countAnswer_2 : decode cX1_countAnswer 2 = .ok (.getfield 61, 3) := by decide +kernel
theorem dX1_countAnswer_5 : decode cX1_countAnswer 5 = .ok (.iconst 1, 1) := by decide +kernel
theorem dX1_countAnswer_6 : decode cX1_countAnswer 6 = .ok (.iadd, 1) := by decide +kernel
theorem dX1_countAnswer_7 : decode cX1_countAnswer 7 = .ok (.putfield 61, 3) := by decide +kernel
theorem dX1_countAnswer_10 : decode cX1_countAnswer 10 = .ok (.iconst 0, 1) := by decide +kernel
theorem dX1_countAnswer_11 : decode cX1_countAnswer 11 = .ok (.istore_n 2, 1) := by decide +kernel
theorem dX1_countAnswer_12 : decode cX1_countAnswer 12 = .ok (.iload_n 2, 1) := by decide +kernel
theorem dX1_countAnswer_13 : decode cX1_countAnswer 13 = .ok (.aload_n 1, 1) := by decide +kernel
theorem dX1_countAnswer_14 : decode cX1_countAnswer 14 = .ok (.arraylength, 1) := by decide +kernel
theorem dX1_countAnswer_15 : decode cX1_countAnswer 15 = .ok (.if_icmp .ge 34, 3) := by decide +kernel
theorem dX1_countAnswer_18 : decode cX1_countAnswer 18 = .ok (.iload_n 2, 1) := by decide +kernel
theorem dX1_countAnswer_19 : decode cX1_countAnswer 19 = .ok (.bipush 6, 2) := by decide +kernel
theorem dX1_countAnswer_21 : decode cX1_countAnswer 21 = .ok (.if_icmp .ge 28, 3) := by decide +kernel
theorem dX1_countAnswer_24 : decode cX1_countAnswer 24 = .ok (.aload_n 0, 1) := by decide +kernel
theorem dX1_countAnswer_25 : decode cX1_countAnswer 25 = .ok (.getfield 27, 3) := by decide +kernel
theorem dX1_countAnswer_28 : decode cX1_countAnswer 28 = .ok (.iload_n 2, 1) := by decide +kernel
theorem dX1_countAnswer_29 : decode cX1_countAnswer 29 = .ok (.iconst 4, 1) := by decide +kernel
theorem dX1_countAnswer_30 : decode cX1_countAnswer 30 = .ok (.imul, 1) := by decide +kernel
theorem dX1_countAnswer_31 : decode cX1_countAnswer 31 = .ok (.aload_n 1, 1) := by decide +kernel
theorem dX1_countAnswer_32 : decode cX1_countAnswer 32 = .ok (.iload_n 2, 1) := by decide +kernel
theorem dX1_countAnswer_33 : decode cX1_countAnswer 33 = .ok (.iaload, 1) := by decide +kernel
theorem dX1_countAnswer_34 : decode cX1_countAnswer 34 = .ok (.invokestatic 64, 3) := by decide +kernel
theorem dX1_countAnswer_37 : decode cX1_countAnswer 37 = .ok (.iadd, 1) := by decide +kernel
theorem dX1_countAnswer_38 : decode cX1_countAnswer 38 = .ok (.dup2, 1) := by decide +kernel
theorem dX1_countAnswer_39 : decode cX1_countAnswer 39 = .ok (.iaload, 1) := by decide +kernel
theorem dX1_countAnswer_40 : decode cX1_countAnswer 40 = .ok (.iconst 1, 1) := by decide +kernel
theorem dX1_countAnswer_41 : decode cX1_countAnswer 41 = .ok (.iadd, 1) := by decide +kernel
theorem dX1_countAnswer_42 : decode cX1_countAnswer 42 = .ok (.iastore, 1) := by decide +kernel
theorem dX1_countAnswer_43 : decode cX1_countAnswer 43 = .ok (.iinc 2 1, 3) := by decide +kernel
theorem dX1_countAnswer_46 : decode cX1_countAnswer 46 = .ok (.goto (-34), 3) := by decide +kernel
theorem dX1_countAnswer_49 : decode cX1_countAnswer 49 = .ok (.return_, 1) := by decide +kernel
theorem dX1_binOf_0 : decode cX1_binOf 0 = .ok (.iload_n 0, 1) := by decide +kernel
theorem dX1_binOf_1 : decode cX1_binOf 1 = .ok (.sipush (-500), 3) := by decide +kernel
theorem dX1_binOf_4 : decode cX1_binOf 4 = .ok (.if_icmp .ge 5, 3) := by decide +kernel
theorem dX1_binOf_7 : decode cX1_binOf 7 = .ok (.iconst 0, 1) := by decide +kernel
theorem dX1_binOf_8 : decode cX1_binOf 8 = .ok (.ireturn, 1) := by decide +kernel
theorem dX1_binOf_9 : decode cX1_binOf 9 = .ok (.iload_n 0, 1) := by decide +kernel
theorem dX1_binOf_10 : decode cX1_binOf 10 = .ok (.ifCond .ge 5, 3) := by decide +kernel
theorem dX1_binOf_13 : decode cX1_binOf 13 = .ok (.iconst 1, 1) := by decide +kernel
theorem dX1_binOf_14 : decode cX1_binOf 14 = .ok (.ireturn, 1) := by decide +kernel
theorem dX1_binOf_15 : decode cX1_binOf 15 = .ok (.iload_n 0, 1) := by decide +kernel
theorem dX1_binOf_16 : decode cX1_binOf 16 = .ok (.sipush 500, 3) := by decide +kernel
theorem dX1_binOf_19 : decode cX1_binOf 19 = .ok (.if_icmp .ge 7, 3) := by decide +kernel
theorem dX1_binOf_22 : decode cX1_binOf 22 = .ok (.iconst 2, 1) := by decide +kernel
theorem dX1_binOf_23 : decode cX1_binOf 23 = .ok (.goto 4, 3) := by decide +kernel
theorem dX1_binOf_26 : decode cX1_binOf 26 = .ok (.iconst 3, 1) := by decide +kernel
theorem dX1_binOf_27 : decode cX1_binOf 27 = .ok (.ireturn, 1) := by decide +kernel
theorem dX1_driftOf_0 : decode cX1_driftOf 0 = .ok (.lconst 0, 1) := by decide +kernel
theorem dX1_driftOf_1 : decode cX1_driftOf 1 = .ok (.lstore_n 2, 1) := by decide +kernel
theorem dX1_driftOf_2 : decode cX1_driftOf 2 = .ok (.lconst 0, 1) := by decide +kernel
theorem dX1_driftOf_3 : decode cX1_driftOf 3 = .ok (.lstore 4, 2) := by decide +kernel
theorem dX1_driftOf_5 : decode cX1_driftOf 5 = .ok (.iconst 0, 1) := by decide +kernel
theorem dX1_driftOf_6 : decode cX1_driftOf 6 = .ok (.istore 6, 2) := by decide +kernel
theorem dX1_driftOf_8 : decode cX1_driftOf 8 = .ok (.iload 6, 2) := by decide +kernel
theorem dX1_driftOf_10 : decode cX1_driftOf 10 = .ok (.iconst 4, 1) := by decide +kernel
theorem dX1_driftOf_11 : decode cX1_driftOf 11 = .ok (.if_icmp .ge 33, 3) := by decide +kernel
theorem dX1_driftOf_14 : decode cX1_driftOf 14 = .ok (.lload_n 2, 1) := by decide +kernel
theorem dX1_driftOf_15 : decode cX1_driftOf 15 = .ok (.aload_n 0, 1) := by decide +kernel
theorem dX1_driftOf_16 : decode cX1_driftOf 16 = .ok (.iload_n 1, 1) := by decide +kernel
theorem dX1_driftOf_17 : decode cX1_driftOf 17 = .ok (.iload 6, 2) := by decide +kernel
theorem dX1_driftOf_19 : decode cX1_driftOf 19 = .ok (.invokevirtual 68, 3) := by decide +kernel
theorem dX1_driftOf_22 : decode cX1_driftOf 22 = .ok (.i2l, 1) := by decide +kernel
theorem dX1_driftOf_23 : decode cX1_driftOf 23 = .ok (.ladd, 1) := by decide +kernel
theorem dX1_driftOf_24 : decode cX1_driftOf 24 = .ok (.lstore_n 2, 1) := by decide +kernel
theorem dX1_driftOf_25 : decode cX1_driftOf 25 = .ok (.lload 4, 2) := by decide +kernel
theorem dX1_driftOf_27 : decode cX1_driftOf 27 = .ok (.aload_n 0, 1) := by decide +kernel
theorem dX1_driftOf_28 : decode cX1_driftOf 28 = .ok (.iload_n 1, 1) := by decide +kernel
theorem dX1_driftOf_29 : decode cX1_driftOf 29 = .ok (.iload 6, 2) := by decide +kernel
theorem dX1_driftOf_31 : decode cX1_driftOf 31 = .ok (.invokevirtual 72, 3) := by decide +kernel
theorem dX1_driftOf_34 : decode cX1_driftOf 34 = .ok (.i2l, 1) := by decide +kernel
theorem dX1_driftOf_35 : decode cX1_driftOf 35 = .ok (.ladd, 1) := by decide +kernel
theorem dX1_driftOf_36 : decode cX1_driftOf 36 = .ok (.lstore 4, 2) := by decide +kernel
theorem dX1_driftOf_38 : decode cX1_driftOf 38 = .ok (.iinc 6 1, 3) := by decide +kernel
theorem dX1_driftOf_41 : decode cX1_driftOf 41 = .ok (.goto (-33), 3) := by decide +kernel
theorem dX1_driftOf_44 : decode cX1_driftOf 44 = .ok (.lload_n 2, 1) := by decide +kernel
theorem dX1_driftOf_45 : decode cX1_driftOf 45 = .ok (.lconst 0, 1) := by decide +kernel
theorem dX1_driftOf_46 : decode cX1_driftOf 46 = .ok (.lcmp, 1) := by decide +kernel
theorem dX1_driftOf_47 : decode cX1_driftOf 47 = .ok (.ifCond .le 10, 3) := by decide +kernel
theorem dX1_driftOf_50 : decode cX1_driftOf 50 = .ok (.lload 4, 2) := by decide +kernel
theorem dX1_driftOf_52 : decode cX1_driftOf 52 = .ok (.lconst 0, 1) := by decide +kernel
theorem dX1_driftOf_53 : decode cX1_driftOf 53 = .ok (.lcmp, 1) := by decide +kernel
theorem dX1_driftOf_54 : decode cX1_driftOf 54 = .ok (.ifCond .gt 5, 3) := by decide +kernel
theorem dX1_driftOf_57 : decode cX1_driftOf 57 = .ok (.iconst 0, 1) := by decide +kernel
theorem dX1_driftOf_58 : decode cX1_driftOf 58 = .ok (.ireturn, 1) := by decide +kernel
theorem dX1_driftOf_59 : decode cX1_driftOf 59 = .ok (.lconst 0, 1) := by decide +kernel
theorem dX1_driftOf_60 : decode cX1_driftOf 60 = .ok (.lstore 6, 2) := by decide +kernel
theorem dX1_driftOf_62 : decode cX1_driftOf 62 = .ok (.iconst 0, 1) := by decide +kernel
theorem dX1_driftOf_63 : decode cX1_driftOf 63 = .ok (.istore 8, 2) := by decide +kernel
theorem dX1_driftOf_65 : decode cX1_driftOf 65 = .ok (.iload 8, 2) := by decide +kernel
theorem dX1_driftOf_67 : decode cX1_driftOf 67 = .ok (.iconst 4, 1) := by decide +kernel
theorem dX1_driftOf_68 : decode cX1_driftOf 68 = .ok (.if_icmp .ge 41, 3) := by decide +kernel
theorem dX1_driftOf_71 : decode cX1_driftOf 71 = .ok (.lload 6, 2) := by decide +kernel
theorem dX1_driftOf_73 : decode cX1_driftOf 73 = .ok (.aload_n 0, 1) := by decide +kernel
theorem dX1_driftOf_74 : decode cX1_driftOf 74 = .ok (.iload_n 1, 1) := by decide +kernel
theorem dX1_driftOf_75 : decode cX1_driftOf 75 = .ok (.iload 8, 2) := by decide +kernel
theorem dX1_driftOf_77 : decode cX1_driftOf 77 = .ok (.invokevirtual 68, 3) := by decide +kernel
theorem dX1_driftOf_80 : decode cX1_driftOf 80 = .ok (.i2l, 1) := by decide +kernel
theorem dX1_driftOf_81 : decode cX1_driftOf 81 = .ok (.lload 4, 2) := by decide +kernel
theorem dX1_driftOf_83 : decode cX1_driftOf 83 = .ok (.lmul, 1) := by decide +kernel
theorem dX1_driftOf_84 : decode cX1_driftOf 84 = .ok (.aload_n 0, 1) := by decide +kernel
theorem dX1_driftOf_85 : decode cX1_driftOf 85 = .ok (.iload_n 1, 1) := by decide +kernel
theorem dX1_driftOf_86 : decode cX1_driftOf 86 = .ok (.iload 8, 2) := by decide +kernel
theorem dX1_driftOf_88 : decode cX1_driftOf 88 = .ok (.invokevirtual 72, 3) := by decide +kernel
theorem dX1_driftOf_91 : decode cX1_driftOf 91 = .ok (.i2l, 1) := by decide +kernel
theorem dX1_driftOf_92 : decode cX1_driftOf 92 = .ok (.lload_n 2, 1) := by decide +kernel
theorem dX1_driftOf_93 : decode cX1_driftOf 93 = .ok (.lmul, 1) := by decide +kernel
theorem dX1_driftOf_94 : decode cX1_driftOf 94 = .ok (.lsub, 1) := by decide +kernel
theorem dX1_driftOf_95 : decode cX1_driftOf 95 = .ok (.invokestatic 75, 3) := by decide +kernel
theorem dX1_driftOf_98 : decode cX1_driftOf 98 = .ok (.invokestatic 81, 3) := by decide +kernel
theorem dX1_driftOf_101 : decode cX1_driftOf 101 = .ok (.lstore 6, 2) := by decide +kernel
theorem dX1_driftOf_103 : decode cX1_driftOf 103 = .ok (.iinc 8 1, 3) := by decide +kernel
theorem dX1_driftOf_106 : decode cX1_driftOf 106 = .ok (.goto (-41), 3) := by decide +kernel
theorem dX1_driftOf_109 : decode cX1_driftOf 109 = .ok (.lload 6, 2) := by decide +kernel
theorem dX1_driftOf_111 : decode cX1_driftOf 111 = .ok (.ldc2_w 85, 3) := by decide +kernel
theorem dX1_driftOf_114 : decode cX1_driftOf 114 = .ok (.lmul, 1) := by decide +kernel
theorem dX1_driftOf_115 : decode cX1_driftOf 115 = .ok (.lload_n 2, 1) := by decide +kernel
theorem dX1_driftOf_116 : decode cX1_driftOf 116 = .ok (.lload 4, 2) := by decide +kernel
theorem dX1_driftOf_118 : decode cX1_driftOf 118 = .ok (.lmul, 1) := by decide +kernel
theorem dX1_driftOf_119 : decode cX1_driftOf 119 = .ok (.ldiv, 1) := by decide +kernel
theorem dX1_driftOf_120 : decode cX1_driftOf 120 = .ok (.l2i, 1) := by decide +kernel
theorem dX1_driftOf_121 : decode cX1_driftOf 121 = .ok (.ireturn, 1) := by decide +kernel
theorem dX1_seenIn_0 : decode cX1_seenIn 0 = .ok (.iload_n 1, 1) := by decide +kernel
theorem dX1_seenIn_1 : decode cX1_seenIn 1 = .ok (.iload_n 2, 1) := by decide +kernel
theorem dX1_seenIn_2 : decode cX1_seenIn 2 = .ok (.invokestatic 87, 3) := by decide +kernel
theorem dX1_seenIn_5 : decode cX1_seenIn 5 = .ok (.ifCond .eq 16, 3) := by decide +kernel
theorem dX1_seenIn_8 : decode cX1_seenIn 8 = .ok (.aload_n 0, 1) := by decide +kernel
theorem dX1_seenIn_9 : decode cX1_seenIn 9 = .ok (.getfield 27, 3) := by decide +kernel
theorem dX1_seenIn_12 : decode cX1_seenIn 12 = .ok (.iload_n 1, 1) := by decide +kernel
theorem dX1_seenIn_13 : decode cX1_seenIn 13 = .ok (.iconst 4, 1) := by decide +kernel
theorem dX1_seenIn_14 : decode cX1_seenIn 14 = .ok (.imul, 1) := by decide +kernel
theorem dX1_seenIn_15 : decode cX1_seenIn 15 = .ok (.iload_n 2, 1) := by decide +kernel
theorem dX1_seenIn_16 : decode cX1_seenIn 16 = .ok (.iadd, 1) := by decide +kernel
theorem dX1_seenIn_17 : decode cX1_seenIn 17 = .ok (.iaload, 1) := by decide +kernel
theorem dX1_seenIn_18 : decode cX1_seenIn 18 = .ok (.goto 4, 3) := by decide +kernel
theorem dX1_seenIn_21 : decode cX1_seenIn 21 = .ok (.iconst 0, 1) := by decide +kernel
theorem dX1_seenIn_22 : decode cX1_seenIn 22 = .ok (.ireturn, 1) := by decide +kernel
theorem dX1_toldIn_0 : decode cX1_toldIn 0 = .ok (.iload_n 1, 1) := by decide +kernel
theorem dX1_toldIn_1 : decode cX1_toldIn 1 = .ok (.iload_n 2, 1) := by decide +kernel
theorem dX1_toldIn_2 : decode cX1_toldIn 2 = .ok (.invokestatic 87, 3) := by decide +kernel
theorem dX1_toldIn_5 : decode cX1_toldIn 5 = .ok (.ifCond .eq 16, 3) := by decide +kernel
theorem dX1_toldIn_8 : decode cX1_toldIn 8 = .ok (.aload_n 0, 1) := by decide +kernel
theorem dX1_toldIn_9 : decode cX1_toldIn 9 = .ok (.getfield 30, 3) := by decide +kernel
theorem dX1_toldIn_12 : decode cX1_toldIn 12 = .ok (.iload_n 1, 1) := by decide +kernel
theorem dX1_toldIn_13 : decode cX1_toldIn 13 = .ok (.iconst 4, 1) := by decide +kernel
theorem dX1_toldIn_14 : decode cX1_toldIn 14 = .ok (.imul, 1) := by decide +kernel
theorem dX1_toldIn_15 : decode cX1_toldIn 15 = .ok (.iload_n 2, 1) := by decide +kernel
theorem dX1_toldIn_16 : decode cX1_toldIn 16 = .ok (.iadd, 1) := by decide +kernel
theorem dX1_toldIn_17 : decode cX1_toldIn 17 = .ok (.iaload, 1) := by decide +kernel
theorem dX1_toldIn_18 : decode cX1_toldIn 18 = .ok (.goto 4, 3) := by decide +kernel
theorem dX1_toldIn_21 : decode cX1_toldIn 21 = .ok (.iconst 0, 1) := by decide +kernel
theorem dX1_toldIn_22 : decode cX1_toldIn 22 = .ok (.ireturn, 1) := by decide +kernel
theorem dX2_init_0 : decode cX2_init 0 = .ok (.aload_n 0, 1) := by decide +kernel
theorem dX2_init_1 : decode cX2_init 1 = .ok (.invokespecial 1, 3) := by decide +kernel
theorem dX2_init_4 : decode cX2_init 4 = .ok (.aload_n 1, 1) := by decide +kernel
theorem dX2_init_5 : decode cX2_init 5 = .ok (.getfield 7, 3) := by decide +kernel
theorem dX2_init_8 : decode cX2_init 8 = .ok (.ifCond .lt 10, 3) := by decide +kernel
theorem dX2_init_11 : decode cX2_init 11 = .ok (.aload_n 1, 1) := by decide +kernel
theorem dX2_init_12 : decode cX2_init 12 = .ok (.getfield 7, 3) := by decide +kernel
theorem dX2_init_15 : decode cX2_init 15 = .ok (.goto 4, 3) := by decide +kernel
theorem dX2_init_18 : decode cX2_init 18 = .ok (.iconst 0, 1) := by decide +kernel
theorem dX2_init_19 : decode cX2_init 19 = .ok (.istore_n 2, 1) := by decide +kernel
theorem dX2_init_20 : decode cX2_init 20 = .ok (.aload_n 0, 1) := by decide +kernel
theorem dX2_init_21 : decode cX2_init 21 = .ok (.aload_n 1, 1) := by decide +kernel
theorem dX2_init_22 : decode cX2_init 22 = .ok (.getfield 13, 3) := by decide +kernel
theorem dX2_init_25 : decode cX2_init 25 = .ok (.iload_n 2, 1) := by decide +kernel
theorem dX2_init_26 : decode cX2_init 26 = .ok (.invokestatic 17, 3) := by decide +kernel
theorem dX2_init_29 : decode cX2_init 29 = .ok (.putfield 23, 3) := by decide +kernel
theorem dX2_init_32 : decode cX2_init 32 = .ok (.aload_n 0, 1) := by decide +kernel
theorem dX2_init_33 : decode cX2_init 33 = .ok (.aload_n 1, 1) := by decide +kernel
theorem dX2_init_34 : decode cX2_init 34 = .ok (.getfield 26, 3) := by decide +kernel
theorem dX2_init_37 : decode cX2_init 37 = .ok (.iload_n 2, 1) := by decide +kernel
theorem dX2_init_38 : decode cX2_init 38 = .ok (.invokestatic 17, 3) := by decide +kernel
theorem dX2_init_41 : decode cX2_init 41 = .ok (.putfield 29, 3) := by decide +kernel
theorem dX2_init_44 : decode cX2_init 44 = .ok (.aload_n 0, 1) := by decide +kernel
theorem dX2_init_45 : decode cX2_init 45 = .ok (.aload_n 1, 1) := by decide +kernel
theorem dX2_init_46 : decode cX2_init 46 = .ok (.getfield 30, 3) := by decide +kernel
theorem dX2_init_49 : decode cX2_init 49 = .ok (.putfield 33, 3) := by decide +kernel
theorem dX2_init_52 : decode cX2_init 52 = .ok (.return_, 1) := by decide +kernel
theorem dX3_init_0 : decode cX3_init 0 = .ok (.aload_n 0, 1) := by decide +kernel
theorem dX3_init_1 : decode cX3_init 1 = .ok (.invokespecial 3, 3) := by decide +kernel
theorem dX3_init_4 : decode cX3_init 4 = .ok (.aload_n 0, 1) := by decide +kernel
theorem dX3_init_5 : decode cX3_init 5 = .ok (.new 9, 3) := by decide +kernel
theorem dX3_init_8 : decode cX3_init 8 = .ok (.dup, 1) := by decide +kernel
theorem dX3_init_9 : decode cX3_init 9 = .ok (.invokespecial 11, 3) := by decide +kernel
theorem dX3_init_12 : decode cX3_init 12 = .ok (.putfield 12, 3) := by decide +kernel
theorem dX3_init_15 : decode cX3_init 15 = .ok (.aload_n 0, 1) := by decide +kernel
theorem dX3_init_16 : decode cX3_init 16 = .ok (.bipush 60, 2) := by decide +kernel
theorem dX3_init_18 : decode cX3_init 18 = .ok (.newarray .int, 2) := by decide +kernel
theorem dX3_init_20 : decode cX3_init 20 = .ok (.putfield 18, 3) := by decide +kernel
theorem dX3_init_23 : decode cX3_init 23 = .ok (.aload_n 0, 1) := by decide +kernel
theorem dX3_init_24 : decode cX3_init 24 = .ok (.bipush 60, 2) := by decide +kernel
theorem dX3_init_26 : decode cX3_init 26 = .ok (.newarray .int, 2) := by decide +kernel
theorem dX3_init_28 : decode cX3_init 28 = .ok (.putfield 22, 3) := by decide +kernel
theorem dX3_init_31 : decode cX3_init 31 = .ok (.return_, 1) := by decide +kernel
theorem dX3_read_0 : decode cX3_read 0 = .ok (.aload_n 0, 1) := by decide +kernel
theorem dX3_read_1 : decode cX3_read 1 = .ok (.iconst 0, 1) := by decide +kernel
theorem dX3_read_2 : decode cX3_read 2 = .ok (.putfield 25, 3) := by decide +kernel
theorem dX3_read_5 : decode cX3_read 5 = .ok (.aload_n 0, 1) := by decide +kernel
theorem dX3_read_6 : decode cX3_read 6 = .ok (.iconst 0, 1) := by decide +kernel
theorem dX3_read_7 : decode cX3_read 7 = .ok (.putfield 29, 3) := by decide +kernel
theorem dX3_read_10 : decode cX3_read 10 = .ok (.aload_n 0, 1) := by decide +kernel
theorem dX3_read_11 : decode cX3_read 11 = .ok (.iconst 0, 1) := by decide +kernel
theorem dX3_read_12 : decode cX3_read 12 = .ok (.putfield 32, 3) := by decide +kernel
theorem dX3_read_15 : decode cX3_read 15 = .ok (.aload_n 0, 1) := by decide +kernel
theorem dX3_read_16 : decode cX3_read 16 = .ok (.iconst 0, 1) := by decide +kernel
theorem dX3_read_17 : decode cX3_read 17 = .ok (.putfield 35, 3) := by decide +kernel
theorem dX3_read_20 : decode cX3_read 20 = .ok (.aload_n 0, 1) := by decide +kernel
theorem dX3_read_21 : decode cX3_read 21 = .ok (.getfield 12, 3) := by decide +kernel
theorem dX3_read_24 : decode cX3_read 24 = .ok (.iload_n 1, 1) := by decide +kernel
theorem dX3_read_25 : decode cX3_read 25 = .ok (.invokevirtual 38, 3) := by decide +kernel
theorem dX3_read_28 : decode cX3_read 28 = .ok (.aload_n 0, 1) := by decide +kernel
theorem dX3_read_29 : decode cX3_read 29 = .ok (.iconst 0, 1) := by decide +kernel
theorem dX3_read_30 : decode cX3_read 30 = .ok (.iconst 0, 1) := by decide +kernel
theorem dX3_read_31 : decode cX3_read 31 = .ok (.invokevirtual 42, 3) := by decide +kernel
theorem dX3_read_34 : decode cX3_read 34 = .ok (.ifCond .eq 22, 3) := by decide +kernel
theorem dX3_read_37 : decode cX3_read 37 = .ok (.aload_n 0, 1) := by decide +kernel
theorem dX3_read_38 : decode cX3_read 38 = .ok (.getfield 12, 3) := by decide +kernel
theorem dX3_read_41 : decode cX3_read 41 = .ok (.getfield 46, 3) := by decide +kernel
theorem dX3_read_44 : decode cX3_read 44 = .ok (.sipush 256, 3) := by decide +kernel
theorem dX3_read_47 : decode cX3_read 47 = .ok (.if_icmp .eq 9, 3) := by decide +kernel
theorem dX3_read_50 : decode cX3_read 50 = .ok (.aload_n 0, 1) := by decide +kernel
theorem dX3_read_51 : decode cX3_read 51 = .ok (.iconst 1, 1) := by decide +kernel
theorem dX3_read_52 : decode cX3_read 52 = .ok (.invokevirtual 49, 3) := by decide +kernel
theorem dX3_read_55 : decode cX3_read 55 = .ok (.pop, 1) := by decide +kernel
theorem dX3_read_56 : decode cX3_read 56 = .ok (.aload_n 0, 1) := by decide +kernel
theorem dX3_read_57 : decode cX3_read 57 = .ok (.getfield 35, 3) := by decide +kernel
theorem dX3_read_60 : decode cX3_read 60 = .ok (.ireturn, 1) := by decide +kernel
theorem dX3_readTell_0 : decode cX3_readTell 0 = .ok (.aload_n 0, 1) := by decide +kernel
theorem dX3_readTell_1 : decode cX3_readTell 1 = .ok (.getfield 12, 3) := by decide +kernel
theorem dX3_readTell_4 : decode cX3_readTell 4 = .ok (.getfield 46, 3) := by decide +kernel
theorem dX3_readTell_7 : decode cX3_readTell 7 = .ok (.sipush 261, 3) := by decide +kernel
theorem dX3_readTell_10 : decode cX3_readTell 10 = .ok (.if_icmp .ne 12, 3) := by decide +kernel
theorem dX3_readTell_13 : decode cX3_readTell 13 = .ok (.aload_n 0, 1) := by decide +kernel
theorem dX3_readTell_14 : decode cX3_readTell 14 = .ok (.iload_n 1, 1) := by decide +kernel
theorem dX3_readTell_15 : decode cX3_readTell 15 = .ok (.iload_n 2, 1) := by decide +kernel
theorem dX3_readTell_16 : decode cX3_readTell 16 = .ok (.invokevirtual 53, 3) := by decide +kernel
theorem dX3_readTell_19 : decode cX3_readTell 19 = .ok (.goto 9, 3) := by decide +kernel
theorem dX3_readTell_22 : decode cX3_readTell 22 = .ok (.aload_n 0, 1) := by decide +kernel
theorem dX3_readTell_23 : decode cX3_readTell 23 = .ok (.iload_n 1, 1) := by decide +kernel
theorem dX3_readTell_24 : decode cX3_readTell 24 = .ok (.iload_n 2, 1) := by decide +kernel
theorem dX3_readTell_25 : decode cX3_readTell 25 = .ok (.invokevirtual 56, 3) := by decide +kernel
theorem dX3_readTell_28 : decode cX3_readTell 28 = .ok (.ireturn, 1) := by decide +kernel
theorem dX3_readIf_0 : decode cX3_readIf 0 = .ok (.iload_n 2, 1) := by decide +kernel
theorem dX3_readIf_1 : decode cX3_readIf 1 = .ok (.bipush 8, 2) := by decide +kernel
theorem dX3_readIf_3 : decode cX3_readIf 3 = .ok (.if_icmp .lt 9, 3) := by decide +kernel
theorem dX3_readIf_6 : decode cX3_readIf 6 = .ok (.aload_n 0, 1) := by decide +kernel
theorem dX3_readIf_7 : decode cX3_readIf 7 = .ok (.iconst 3, 1) := by decide +kernel
theorem dX3_readIf_8 : decode cX3_readIf 8 = .ok (.invokevirtual 49, 3) := by decide +kernel
theorem dX3_readIf_11 : decode cX3_readIf 11 = .ok (.ireturn, 1) := by decide +kernel
theorem dX3_readIf_12 : decode cX3_readIf 12 = .ok (.aload_n 0, 1) := by decide +kernel
theorem dX3_readIf_13 : decode cX3_readIf 13 = .ok (.invokevirtual 59, 3) := by decide +kernel
theorem dX3_readIf_16 : decode cX3_readIf 16 = .ok (.ifCond .eq 71, 3) := by decide +kernel
theorem dX3_readIf_19 : decode cX3_readIf 19 = .ok (.aload_n 0, 1) := by decide +kernel
theorem dX3_readIf_20 : decode cX3_readIf 20 = .ok (.iload_n 1, 1) := by decide +kernel
theorem dX3_readIf_21 : decode cX3_readIf 21 = .ok (.iload_n 2, 1) := by decide +kernel
theorem dX3_readIf_22 : decode cX3_readIf 22 = .ok (.iconst 1, 1) := by decide +kernel
theorem dX3_readIf_23 : decode cX3_readIf 23 = .ok (.iadd, 1) := by decide +kernel
theorem dX3_readIf_24 : decode cX3_readIf 24 = .ok (.invokevirtual 63, 3) := by decide +kernel
theorem dX3_readIf_27 : decode cX3_readIf 27 = .ok (.ifCond .eq 60, 3) := by decide +kernel
theorem dX3_readIf_30 : decode cX3_readIf 30 = .ok (.aload_n 0, 1) := by decide +kernel
theorem dX3_readIf_31 : decode cX3_readIf 31 = .ok (.sipush 262, 3) := by decide +kernel
theorem dX3_readIf_34 : decode cX3_readIf 34 = .ok (.invokevirtual 66, 3) := by decide +kernel
theorem dX3_readIf_37 : decode cX3_readIf 37 = .ok (.ifCond .eq 50, 3) := by decide +kernel
theorem dX3_readIf_40 : decode cX3_readIf 40 = .ok (.aload_n 0, 1) := by decide +kernel
theorem dX3_readIf_41 : decode cX3_readIf 41 = .ok (.iload_n 1, 1) := by decide +kernel
theorem dX3_readIf_42 : decode cX3_readIf 42 = .ok (.iload_n 2, 1) := by decide +kernel
theorem dX3_readIf_43 : decode cX3_readIf 43 = .ok (.iconst 1, 1) := by decide +kernel
theorem dX3_readIf_44 : decode cX3_readIf 44 = .ok (.iadd, 1) := by decide +kernel
theorem dX3_readIf_45 : decode cX3_readIf 45 = .ok (.invokevirtual 42, 3) := by decide +kernel
theorem dX3_readIf_48 : decode cX3_readIf 48 = .ok (.ifCond .eq 39, 3) := by decide +kernel
theorem dX3_readIf_51 : decode cX3_readIf 51 = .ok (.aload_n 0, 1) := by decide +kernel
theorem dX3_readIf_52 : decode cX3_readIf 52 = .ok (.sipush 263, 3) := by decide +kernel
theorem dX3_readIf_55 : decode cX3_readIf 55 = .ok (.invokevirtual 66, 3) := by decide +kernel
theorem dX3_readIf_58 : decode cX3_readIf 58 = .ok (.ifCond .eq 29, 3) := by decide +kernel
theorem dX3_readIf_61 : decode cX3_readIf 61 = .ok (.aload_n 0, 1) := by decide +kernel
theorem dX3_readIf_62 : decode cX3_readIf 62 = .ok (.iload_n 1, 1) := by decide +kernel
theorem dX3_readIf_63 : decode cX3_readIf 63 = .ok (.iload_n 2, 1) := by decide +kernel
theorem dX3_readIf_64 : decode cX3_readIf 64 = .ok (.iconst 1, 1) := by decide +kernel
theorem dX3_readIf_65 : decode cX3_readIf 65 = .ok (.iadd, 1) := by decide +kernel
theorem dX3_readIf_66 : decode cX3_readIf 66 = .ok (.invokevirtual 42, 3) := by decide +kernel
theorem dX3_readIf_69 : decode cX3_readIf 69 = .ok (.ifCond .eq 18, 3) := by decide +kernel
theorem dX3_readIf_72 : decode cX3_readIf 72 = .ok (.aload_n 0, 1) := by decide +kernel
theorem dX3_readIf_73 : decode cX3_readIf 73 = .ok (.sipush 261, 3) := by decide +kernel
theorem dX3_readIf_76 : decode cX3_readIf 76 = .ok (.iconst 0, 1) := by decide +kernel
theorem dX3_readIf_77 : decode cX3_readIf 77 = .ok (.invokevirtual 69, 3) := by decide +kernel
theorem dX3_readIf_80 : decode cX3_readIf 80 = .ok (.ifCond .eq 7, 3) := by decide +kernel
theorem dX3_readIf_83 : decode cX3_readIf 83 = .ok (.iconst 1, 1) := by decide +kernel
theorem dX3_readIf_84 : decode cX3_readIf 84 = .ok (.goto 4, 3) := by decide +kernel
theorem dX3_readIf_87 : decode cX3_readIf 87 = .ok (.iconst 0, 1) := by decide +kernel
theorem dX3_readIf_88 : decode cX3_readIf 88 = .ok (.ireturn, 1) := by decide +kernel
theorem dX3_readTest_0 : decode cX3_readTest 0 = .ok (.aload_n 0, 1) := by decide +kernel
theorem dX3_readTest_1 : decode cX3_readTest 1 = .ok (.iload_n 1, 1) := by decide +kernel
theorem dX3_readTest_2 : decode cX3_readTest 2 = .ok (.iload_n 2, 1) := by decide +kernel
theorem dX3_readTest_3 : decode cX3_readTest 3 = .ok (.invokevirtual 56, 3) := by decide +kernel
theorem dX3_readTest_6 : decode cX3_readTest 6 = .ok (.ifCond .ne 5, 3) := by decide +kernel
theorem dX3_readTest_9 : decode cX3_readTest 9 = .ok (.iconst 0, 1) := by decide +kernel
theorem dX3_readTest_10 : decode cX3_readTest 10 = .ok (.ireturn, 1) := by decide +kernel
theorem dX3_readTest_11 : decode cX3_readTest 11 = .ok (.aload_n 0, 1) := by decide +kernel
theorem dX3_readTest_12 : decode cX3_readTest 12 = .ok (.getfield 12, 3) := by decide +kernel
theorem dX3_readTest_15 : decode cX3_readTest 15 = .ok (.getfield 46, 3) := by decide +kernel
theorem dX3_readTest_18 : decode cX3_readTest 18 = .ok (.istore_n 3, 1) := by decide +kernel
theorem dX3_readTest_19 : decode cX3_readTest 19 = .ok (.iload_n 3, 1) := by decide +kernel
theorem dX3_readTest_20 : decode cX3_readTest 20 = .ok (.bipush 60, 2) := by decide +kernel
theorem dX3_readTest_22 : decode cX3_readTest 22 = .ok (.if_icmp .eq 21, 3) := by decide +kernel
theorem dX3_readTest_25 : decode cX3_readTest 25 = .ok (.iload_n 3, 1) := by decide +kernel
theorem dX3_readTest_26 : decode cX3_readTest 26 = .ok (.bipush 62, 2) := by decide +kernel
theorem dX3_readTest_28 : decode cX3_readTest 28 = .ok (.if_icmp .eq 15, 3) := by decide +kernel
theorem dX3_readTest_31 : decode cX3_readTest 31 = .ok (.iload_n 3, 1) := by decide +kernel
theorem dX3_readTest_32 : decode cX3_readTest 32 = .ok (.bipush 61, 2) := by decide +kernel
theorem dX3_readTest_34 : decode cX3_readTest 34 = .ok (.if_icmp .eq 9, 3) := by decide +kernel
theorem dX3_readTest_37 : decode cX3_readTest 37 = .ok (.aload_n 0, 1) := by decide +kernel
theorem dX3_readTest_38 : decode cX3_readTest 38 = .ok (.iconst 1, 1) := by decide +kernel
theorem dX3_readTest_39 : decode cX3_readTest 39 = .ok (.invokevirtual 49, 3) := by decide +kernel
theorem dX3_readTest_42 : decode cX3_readTest 42 = .ok (.ireturn, 1) := by decide +kernel
theorem dX3_readTest_43 : decode cX3_readTest 43 = .ok (.aload_n 0, 1) := by decide +kernel
theorem dX3_readTest_44 : decode cX3_readTest 44 = .ok (.invokevirtual 59, 3) := by decide +kernel
theorem dX3_readTest_47 : decode cX3_readTest 47 = .ok (.ifCond .eq 25, 3) := by decide +kernel
theorem dX3_readTest_50 : decode cX3_readTest 50 = .ok (.aload_n 0, 1) := by decide +kernel
theorem dX3_readTest_51 : decode cX3_readTest 51 = .ok (.iload_n 1, 1) := by decide +kernel
theorem dX3_readTest_52 : decode cX3_readTest 52 = .ok (.iload_n 2, 1) := by decide +kernel
theorem dX3_readTest_53 : decode cX3_readTest 53 = .ok (.invokevirtual 56, 3) := by decide +kernel
theorem dX3_readTest_56 : decode cX3_readTest 56 = .ok (.ifCond .eq 16, 3) := by decide +kernel
theorem dX3_readTest_59 : decode cX3_readTest 59 = .ok (.aload_n 0, 1) := by decide +kernel
theorem dX3_readTest_60 : decode cX3_readTest 60 = .ok (.iload_n 3, 1) := by decide +kernel
theorem dX3_readTest_61 : decode cX3_readTest 61 = .ok (.iconst 0, 1) := by decide +kernel
theorem dX3_readTest_62 : decode cX3_readTest 62 = .ok (.invokevirtual 69, 3) := by decide +kernel
theorem dX3_readTest_65 : decode cX3_readTest 65 = .ok (.ifCond .eq 7, 3) := by decide +kernel
theorem dX3_readTest_68 : decode cX3_readTest 68 = .ok (.iconst 1, 1) := by decide +kernel
theorem dX3_readTest_69 : decode cX3_readTest 69 = .ok (.goto 4, 3) := by decide +kernel
theorem dX3_readTest_72 : decode cX3_readTest 72 = .ok (.iconst 0, 1) := by decide +kernel
theorem dX3_readTest_73 : decode cX3_readTest 73 = .ok (.ireturn, 1) := by decide +kernel
theorem dX3_readSum_0 : decode cX3_readSum 0 = .ok (.aload_n 0, 1) := by decide +kernel
theorem dX3_readSum_1 : decode cX3_readSum 1 = .ok (.iload_n 1, 1) := by decide +kernel
theorem dX3_readSum_2 : decode cX3_readSum 2 = .ok (.iload_n 2, 1) := by decide +kernel
theorem dX3_readSum_3 : decode cX3_readSum 3 = .ok (.invokevirtual 72, 3) := by decide +kernel
theorem dX3_readSum_6 : decode cX3_readSum 6 = .ok (.istore_n 3, 1) := by decide +kernel
theorem dX3_readSum_7 : decode cX3_readSum 7 = .ok (.iconst 0, 1) := by decide +kernel
theorem dX3_readSum_8 : decode cX3_readSum 8 = .ok (.istore 4, 2) := by decide +kernel
theorem dX3_readSum_10 : decode cX3_readSum 10 = .ok (.iload 4, 2) := by decide +kernel
theorem dX3_readSum_12 : decode cX3_readSum 12 = .ok (.bipush 60, 2) := by decide +kernel
theorem dX3_readSum_14 : decode cX3_readSum 14 = .ok (.if_icmp .gt 78, 3) := by decide +kernel
theorem dX3_readSum_17 : decode cX3_readSum 17 = .ok (.iload_n 3, 1) := by decide +kernel
theorem dX3_readSum_18 : decode cX3_readSum 18 = .ok (.ifCond .eq 74, 3) := by decide +kernel
theorem dX3_readSum_21 : decode cX3_readSum 21 = .ok (.aload_n 0, 1) := by decide +kernel
theorem dX3_readSum_22 : decode cX3_readSum 22 = .ok (.getfield 12, 3) := by decide +kernel
theorem dX3_readSum_25 : decode cX3_readSum 25 = .ok (.getfield 46, 3) := by decide +kernel
theorem dX3_readSum_28 : decode cX3_readSum 28 = .ok (.bipush 43, 2) := by decide +kernel
theorem dX3_readSum_30 : decode cX3_readSum 30 = .ok (.if_icmp .eq 15, 3) := by decide +kernel
theorem dX3_readSum_33 : decode cX3_readSum 33 = .ok (.aload_n 0, 1) := by decide +kernel
theorem dX3_readSum_34 : decode cX3_readSum 34 = .ok (.getfield 12, 3) := by decide +kernel
theorem dX3_readSum_37 : decode cX3_readSum 37 = .ok (.getfield 46, 3) := by decide +kernel
theorem dX3_readSum_40 : decode cX3_readSum 40 = .ok (.bipush 45, 2) := by decide +kernel
theorem dX3_readSum_42 : decode cX3_readSum 42 = .ok (.if_icmp .ne 50, 3) := by decide +kernel
theorem dX3_readSum_45 : decode cX3_readSum 45 = .ok (.aload_n 0, 1) := by decide +kernel
theorem dX3_readSum_46 : decode cX3_readSum 46 = .ok (.getfield 12, 3) := by decide +kernel
theorem dX3_readSum_49 : decode cX3_readSum 49 = .ok (.getfield 46, 3) := by decide +kernel
theorem dX3_readSum_52 : decode cX3_readSum 52 = .ok (.istore 5, 2) := by decide +kernel
theorem dX3_readSum_54 : decode cX3_readSum 54 = .ok (.aload_n 0, 1) := by decide +kernel
theorem dX3_readSum_55 : decode cX3_readSum 55 = .ok (.invokevirtual 59, 3) := by decide +kernel
theorem dX3_readSum_58 : decode cX3_readSum 58 = .ok (.ifCond .eq 26, 3) := by decide +kernel
theorem dX3_readSum_61 : decode cX3_readSum 61 = .ok (.aload_n 0, 1) := by decide +kernel
theorem dX3_readSum_62 : decode cX3_readSum 62 = .ok (.iload_n 1, 1) := by decide +kernel
theorem dX3_readSum_63 : decode cX3_readSum 63 = .ok (.iload_n 2, 1) := by decide +kernel
theorem dX3_readSum_64 : decode cX3_readSum 64 = .ok (.invokevirtual 72, 3) := by decide +kernel
theorem dX3_readSum_67 : decode cX3_readSum 67 = .ok (.ifCond .eq 17, 3) := by decide +kernel
theorem dX3_readSum_70 : decode cX3_readSum 70 = .ok (.aload_n 0, 1) := by decide +kernel
theorem dX3_readSum_71 : decode cX3_readSum 71 = .ok (.iload 5, 2) := by decide +kernel
theorem dX3_readSum_73 : decode cX3_readSum 73 = .ok (.iconst 0, 1) := by decide +kernel
theorem dX3_readSum_74 : decode cX3_readSum 74 = .ok (.invokevirtual 69, 3) := by decide +kernel
theorem dX3_readSum_77 : decode cX3_readSum 77 = .ok (.ifCond .eq 7, 3) := by decide +kernel
theorem dX3_readSum_80 : decode cX3_readSum 80 = .ok (.iconst 1, 1) := by decide +kernel
theorem dX3_readSum_81 : decode cX3_readSum 81 = .ok (.goto 4, 3) := by decide +kernel
theorem dX3_readSum_84 : decode cX3_readSum 84 = .ok (.iconst 0, 1) := by decide +kernel
theorem dX3_readSum_85 : decode cX3_readSum 85 = .ok (.istore_n 3, 1) := by decide +kernel
theorem dX3_readSum_86 : decode cX3_readSum 86 = .ok (.iinc 4 1, 3) := by decide +kernel
theorem dX3_readSum_89 : decode cX3_readSum 89 = .ok (.goto (-79), 3) := by decide +kernel
theorem dX3_readSum_92 : decode cX3_readSum 92 = .ok (.iload_n 3, 1) := by decide +kernel
theorem dX3_readSum_93 : decode cX3_readSum 93 = .ok (.ireturn, 1) := by decide +kernel
theorem dX3_readTerm_0 : decode cX3_readTerm 0 = .ok (.aload_n 0, 1) := by decide +kernel
theorem dX3_readTerm_1 : decode cX3_readTerm 1 = .ok (.iload_n 1, 1) := by decide +kernel
theorem dX3_readTerm_2 : decode cX3_readTerm 2 = .ok (.iload_n 2, 1) := by decide +kernel
theorem dX3_readTerm_3 : decode cX3_readTerm 3 = .ok (.invokevirtual 75, 3) := by decide +kernel
theorem dX3_readTerm_6 : decode cX3_readTerm 6 = .ok (.istore_n 3, 1) := by decide +kernel
theorem dX3_readTerm_7 : decode cX3_readTerm 7 = .ok (.iconst 0, 1) := by decide +kernel
theorem dX3_readTerm_8 : decode cX3_readTerm 8 = .ok (.istore 4, 2) := by decide +kernel
theorem dX3_readTerm_10 : decode cX3_readTerm 10 = .ok (.iload 4, 2) := by decide +kernel
theorem dX3_readTerm_12 : decode cX3_readTerm 12 = .ok (.bipush 60, 2) := by decide +kernel
theorem dX3_readTerm_14 : decode cX3_readTerm 14 = .ok (.if_icmp .gt 57, 3) := by decide +kernel
theorem dX3_readTerm_17 : decode cX3_readTerm 17 = .ok (.iload_n 3, 1) := by decide +kernel
theorem dX3_readTerm_18 : decode cX3_readTerm 18 = .ok (.ifCond .eq 53, 3) := by decide +kernel
theorem dX3_readTerm_21 : decode cX3_readTerm 21 = .ok (.aload_n 0, 1) := by decide +kernel
theorem dX3_readTerm_22 : decode cX3_readTerm 22 = .ok (.getfield 12, 3) := by decide +kernel
theorem dX3_readTerm_25 : decode cX3_readTerm 25 = .ok (.getfield 46, 3) := by decide +kernel
theorem dX3_readTerm_28 : decode cX3_readTerm 28 = .ok (.bipush 42, 2) := by decide +kernel
theorem dX3_readTerm_30 : decode cX3_readTerm 30 = .ok (.if_icmp .ne 41, 3) := by decide +kernel
theorem dX3_readTerm_33 : decode cX3_readTerm 33 = .ok (.aload_n 0, 1) := by decide +kernel
theorem dX3_readTerm_34 : decode cX3_readTerm 34 = .ok (.invokevirtual 59, 3) := by decide +kernel
theorem dX3_readTerm_37 : decode cX3_readTerm 37 = .ok (.ifCond .eq 26, 3) := by decide +kernel
theorem dX3_readTerm_40 : decode cX3_readTerm 40 = .ok (.aload_n 0, 1) := by decide +kernel
theorem dX3_readTerm_41 : decode cX3_readTerm 41 = .ok (.iload_n 1, 1) := by decide +kernel
theorem dX3_readTerm_42 : decode cX3_readTerm 42 = .ok (.iload_n 2, 1) := by decide +kernel
theorem dX3_readTerm_43 : decode cX3_readTerm 43 = .ok (.invokevirtual 75, 3) := by decide +kernel
theorem dX3_readTerm_46 : decode cX3_readTerm 46 = .ok (.ifCond .eq 17, 3) := by decide +kernel
theorem dX3_readTerm_49 : decode cX3_readTerm 49 = .ok (.aload_n 0, 1) := by decide +kernel
theorem dX3_readTerm_50 : decode cX3_readTerm 50 = .ok (.bipush 42, 2) := by decide +kernel
theorem dX3_readTerm_52 : decode cX3_readTerm 52 = .ok (.iconst 0, 1) := by decide +kernel
theorem dX3_readTerm_53 : decode cX3_readTerm 53 = .ok (.invokevirtual 69, 3) := by decide +kernel
theorem dX3_readTerm_56 : decode cX3_readTerm 56 = .ok (.ifCond .eq 7, 3) := by decide +kernel
theorem dX3_readTerm_59 : decode cX3_readTerm 59 = .ok (.iconst 1, 1) := by decide +kernel
theorem dX3_readTerm_60 : decode cX3_readTerm 60 = .ok (.goto 4, 3) := by decide +kernel
theorem dX3_readTerm_63 : decode cX3_readTerm 63 = .ok (.iconst 0, 1) := by decide +kernel
theorem dX3_readTerm_64 : decode cX3_readTerm 64 = .ok (.istore_n 3, 1) := by decide +kernel
theorem dX3_readTerm_65 : decode cX3_readTerm 65 = .ok (.iinc 4 1, 3) := by decide +kernel
theorem dX3_readTerm_68 : decode cX3_readTerm 68 = .ok (.goto (-58), 3) := by decide +kernel
theorem dX3_readTerm_71 : decode cX3_readTerm 71 = .ok (.iload_n 3, 1) := by decide +kernel
theorem dX3_readTerm_72 : decode cX3_readTerm 72 = .ok (.ireturn, 1) := by decide +kernel
theorem dX3_readOne_0 : decode cX3_readOne 0 = .ok (.iconst 0, 1) := by decide +kernel
theorem dX3_readOne_1 : decode cX3_readOne 1 = .ok (.istore_n 3, 1) := by decide +kernel
theorem dX3_readOne_2 : decode cX3_readOne 2 = .ok (.iload_n 3, 1) := by decide +kernel
theorem dX3_readOne_3 : decode cX3_readOne 3 = .ok (.bipush 60, 2) := by decide +kernel
theorem dX3_readOne_5 : decode cX3_readOne 5 = .ok (.if_icmp .gt 30, 3) := by decide +kernel
theorem dX3_readOne_8 : decode cX3_readOne 8 = .ok (.aload_n 0, 1) := by decide +kernel
theorem dX3_readOne_9 : decode cX3_readOne 9 = .ok (.getfield 12, 3) := by decide +kernel
theorem dX3_readOne_12 : decode cX3_readOne 12 = .ok (.getfield 46, 3) := by decide +kernel
theorem dX3_readOne_15 : decode cX3_readOne 15 = .ok (.bipush 45, 2) := by decide +kernel
theorem dX3_readOne_17 : decode cX3_readOne 17 = .ok (.if_icmp .ne 18, 3) := by decide +kernel
theorem dX3_readOne_20 : decode cX3_readOne 20 = .ok (.aload_n 0, 1) := by decide +kernel
theorem dX3_readOne_21 : decode cX3_readOne 21 = .ok (.invokevirtual 59, 3) := by decide +kernel
theorem dX3_readOne_24 : decode cX3_readOne 24 = .ok (.ifCond .ne 5, 3) := by decide +kernel
theorem dX3_readOne_27 : decode cX3_readOne 27 = .ok (.iconst 0, 1) := by decide +kernel
theorem dX3_readOne_28 : decode cX3_readOne 28 = .ok (.ireturn, 1) := by decide +kernel
theorem dX3_readOne_29 : decode cX3_readOne 29 = .ok (.iinc 3 1, 3) := by decide +kernel
theorem dX3_readOne_32 : decode cX3_readOne 32 = .ok (.goto (-30), 3) := by decide +kernel
theorem dX3_readOne_35 : decode cX3_readOne 35 = .ok (.aload_n 0, 1) := by decide +kernel
theorem dX3_readOne_36 : decode cX3_readOne 36 = .ok (.iload_n 1, 1) := by decide +kernel
theorem dX3_readOne_37 : decode cX3_readOne 37 = .ok (.iload_n 2, 1) := by decide +kernel
theorem dX3_readOne_38 : decode cX3_readOne 38 = .ok (.invokevirtual 78, 3) := by decide +kernel
theorem dX3_readOne_41 : decode cX3_readOne 41 = .ok (.istore 4, 2) := by decide +kernel
theorem dX3_readOne_43 : decode cX3_readOne 43 = .ok (.iconst 0, 1) := by decide +kernel
theorem dX3_readOne_44 : decode cX3_readOne 44 = .ok (.istore 5, 2) := by decide +kernel
theorem dX3_readOne_46 : decode cX3_readOne 46 = .ok (.iload 5, 2) := by decide +kernel
theorem dX3_readOne_48 : decode cX3_readOne 48 = .ok (.iload_n 3, 1) := by decide +kernel
theorem dX3_readOne_49 : decode cX3_readOne 49 = .ok (.if_icmp .ge 24, 3) := by decide +kernel
theorem dX3_readOne_52 : decode cX3_readOne 52 = .ok (.iload 4, 2) := by decide +kernel
theorem dX3_readOne_54 : decode cX3_readOne 54 = .ok (.ifCond .eq 19, 3) := by decide +kernel
theorem dX3_readOne_57 : decode cX3_readOne 57 = .ok (.aload_n 0, 1) := by decide +kernel
theorem dX3_readOne_58 : decode cX3_readOne 58 = .ok (.sipush 266, 3) := by decide +kernel
theorem dX3_readOne_61 : decode cX3_readOne 61 = .ok (.iconst 0, 1) := by decide +kernel
theorem dX3_readOne_62 : decode cX3_readOne 62 = .ok (.invokevirtual 69, 3) := by decide +kernel
theorem dX3_readOne_65 : decode cX3_readOne 65 = .ok (.istore 4, 2) := by decide +kernel
theorem dX3_readOne_67 : decode cX3_readOne 67 = .ok (.iinc 5 1, 3) := by decide +kernel
theorem dX3_readOne_70 : decode cX3_readOne 70 = .ok (.goto (-24), 3) := by decide +kernel
theorem dX3_readOne_73 : decode cX3_readOne 73 = .ok (.iload 4, 2) := by decide +kernel
theorem dX3_readOne_75 : decode cX3_readOne 75 = .ok (.ireturn, 1) := by decide +kernel
theorem dX3_readPlainOne_0 : decode cX3_readPlainOne 0 = .ok (.aload_n 0, 1) := by decide +kernel
theorem dX3_readPlainOne_1 : decode cX3_readPlainOne 1 = .ok (.getfield 12, 3) := by decide +kernel
theorem dX3_readPlainOne_4 : decode cX3_readPlainOne 4 = .ok (.getfield 46, 3) := by decide +kernel
theorem dX3_readPlainOne_7 : decode cX3_readPlainOne 7 = .ok (.istore_n 3, 1) := by decide +kernel
theorem dX3_readPlainOne_8 : decode cX3_readPlainOne 8 = .ok (.aload_n 0, 1) := by decide +kernel
theorem dX3_readPlainOne_9 : decode cX3_readPlainOne 9 = .ok (.getfield 12, 3) := by decide +kernel
theorem dX3_readPlainOne_12 : decode cX3_readPlainOne 12 = .ok (.getfield 81, 3) := by decide +kernel
theorem dX3_readPlainOne_15 : decode cX3_readPlainOne 15 = .ok (.istore 4, 2) := by decide +kernel
theorem dX3_readPlainOne_17 : decode cX3_readPlainOne 17 = .ok (.iload_n 3, 1) := by decide +kernel
theorem dX3_readPlainOne_18 : decode cX3_readPlainOne 18 = .ok (.lookupswitch 192 #[(40, 121), (258, 58), (259, 83), (260, 186), (264, 155), (265, 155)], 58) := by decide +kernel
theorem dX3_readPlainOne_76 : decode cX3_readPlainOne 76 = .ok (.aload_n 0, 1) := by decide +kernel
theorem dX3_readPlainOne_77 : decode cX3_readPlainOne 77 = .ok (.invokevirtual 59, 3) := by decide +kernel
theorem dX3_readPlainOne_80 : decode cX3_readPlainOne 80 = .ok (.ifCond .eq 19, 3) := by decide +kernel
theorem dX3_readPlainOne_83 : decode cX3_readPlainOne 83 = .ok (.aload_n 0, 1) := by decide +kernel
theorem dX3_readPlainOne_84 : decode cX3_readPlainOne 84 = .ok (.sipush 258, 3) := by decide +kernel
theorem dX3_readPlainOne_87 : decode cX3_readPlainOne 87 = .ok (.iload 4, 2) := by decide +kernel
theorem dX3_readPlainOne_89 : decode cX3_readPlainOne 89 = .ok (.invokevirtual 69, 3) := by decide +kernel
theorem dX3_readPlainOne_92 : decode cX3_readPlainOne 92 = .ok (.ifCond .eq 7, 3) := by decide +kernel
theorem dX3_readPlainOne_95 : decode cX3_readPlainOne 95 = .ok (.iconst 1, 1) := by decide +kernel
theorem dX3_readPlainOne_96 : decode cX3_readPlainOne 96 = .ok (.goto 4, 3) := by decide +kernel
theorem dX3_readPlainOne_99 : decode cX3_readPlainOne 99 = .ok (.iconst 0, 1) := by decide +kernel
theorem dX3_readPlainOne_100 : decode cX3_readPlainOne 100 = .ok (.ireturn, 1) := by decide +kernel
theorem dX3_readPlainOne_101 : decode cX3_readPlainOne 101 = .ok (.aload_n 0, 1) := by decide +kernel
theorem dX3_readPlainOne_102 : decode cX3_readPlainOne 102 = .ok (.dup, 1) := by decide +kernel
theorem dX3_readPlainOne_103 : decode cX3_readPlainOne 103 = .ok (.getfield 32, 3) := by decide +kernel
theorem dX3_readPlainOne_106 : decode cX3_readPlainOne 106 = .ok (.iconst 1, 1) := by decide +kernel
theorem dX3_readPlainOne_107 : decode cX3_readPlainOne 107 = .ok (.iload 4, 2) := by decide +kernel
theorem dX3_readPlainOne_109 : decode cX3_readPlainOne 109 = .ok (.ishl, 1) := by decide +kernel
theorem dX3_readPlainOne_110 : decode cX3_readPlainOne 110 = .ok (.ior, 1) := by decide +kernel
theorem dX3_readPlainOne_111 : decode cX3_readPlainOne 111 = .ok (.putfield 32, 3) := by decide +kernel
theorem dX3_readPlainOne_114 : decode cX3_readPlainOne 114 = .ok (.aload_n 0, 1) := by decide +kernel
theorem dX3_readPlainOne_115 : decode cX3_readPlainOne 115 = .ok (.invokevirtual 59, 3) := by decide +kernel
theorem dX3_readPlainOne_118 : decode cX3_readPlainOne 118 = .ok (.ifCond .eq 19, 3) := by decide +kernel
theorem dX3_readPlainOne_121 : decode cX3_readPlainOne 121 = .ok (.aload_n 0, 1) := by decide +kernel
theorem dX3_readPlainOne_122 : decode cX3_readPlainOne 122 = .ok (.sipush 259, 3) := by decide +kernel
theorem dX3_readPlainOne_125 : decode cX3_readPlainOne 125 = .ok (.iload 4, 2) := by decide +kernel
theorem dX3_readPlainOne_127 : decode cX3_readPlainOne 127 = .ok (.invokevirtual 69, 3) := by decide +kernel
theorem dX3_readPlainOne_130 : decode cX3_readPlainOne 130 = .ok (.ifCond .eq 7, 3) := by decide +kernel
theorem dX3_readPlainOne_133 : decode cX3_readPlainOne 133 = .ok (.iconst 1, 1) := by decide +kernel
theorem dX3_readPlainOne_134 : decode cX3_readPlainOne 134 = .ok (.goto 4, 3) := by decide +kernel
theorem dX3_readPlainOne_137 : decode cX3_readPlainOne 137 = .ok (.iconst 0, 1) := by decide +kernel
theorem dX3_readPlainOne_138 : decode cX3_readPlainOne 138 = .ok (.ireturn, 1) := by decide +kernel
theorem dX3_readPlainOne_139 : decode cX3_readPlainOne 139 = .ok (.aload_n 0, 1) := by decide +kernel
theorem dX3_readPlainOne_140 : decode cX3_readPlainOne 140 = .ok (.iload_n 1, 1) := by decide +kernel
theorem dX3_readPlainOne_141 : decode cX3_readPlainOne 141 = .ok (.invokevirtual 84, 3) := by decide +kernel
theorem dX3_readPlainOne_144 : decode cX3_readPlainOne 144 = .ok (.ifCond .eq 27, 3) := by decide +kernel
theorem dX3_readPlainOne_147 : decode cX3_readPlainOne 147 = .ok (.aload_n 0, 1) := by decide +kernel
theorem dX3_readPlainOne_148 : decode cX3_readPlainOne 148 = .ok (.iload_n 1, 1) := by decide +kernel
theorem dX3_readPlainOne_149 : decode cX3_readPlainOne 149 = .ok (.iconst 1, 1) := by decide +kernel
theorem dX3_readPlainOne_150 : decode cX3_readPlainOne 150 = .ok (.iadd, 1) := by decide +kernel
theorem dX3_readPlainOne_151 : decode cX3_readPlainOne 151 = .ok (.iload_n 2, 1) := by decide +kernel
theorem dX3_readPlainOne_152 : decode cX3_readPlainOne 152 = .ok (.invokevirtual 42, 3) := by decide +kernel
theorem dX3_readPlainOne_155 : decode cX3_readPlainOne 155 = .ok (.ifCond .eq 16, 3) := by decide +kernel
theorem dX3_readPlainOne_158 : decode cX3_readPlainOne 158 = .ok (.aload_n 0, 1) := by decide +kernel
theorem dX3_readPlainOne_159 : decode cX3_readPlainOne 159 = .ok (.bipush 41, 2) := by decide +kernel
theorem dX3_readPlainOne_161 : decode cX3_readPlainOne 161 = .ok (.invokevirtual 66, 3) := by decide +kernel
theorem dX3_readPlainOne_164 : decode cX3_readPlainOne 164 = .ok (.ifCond .eq 7, 3) := by decide +kernel
theorem dX3_readPlainOne_167 : decode cX3_readPlainOne 167 = .ok (.iconst 1, 1) := by decide +kernel
theorem dX3_readPlainOne_168 : decode cX3_readPlainOne 168 = .ok (.goto 4, 3) := by decide +kernel
theorem dX3_readPlainOne_171 : decode cX3_readPlainOne 171 = .ok (.iconst 0, 1) := by decide +kernel
theorem dX3_readPlainOne_172 : decode cX3_readPlainOne 172 = .ok (.ireturn, 1) := by decide +kernel
theorem dX3_readPlainOne_173 : decode cX3_readPlainOne 173 = .ok (.aload_n 0, 1) := by decide +kernel
theorem dX3_readPlainOne_174 : decode cX3_readPlainOne 174 = .ok (.invokevirtual 59, 3) := by decide +kernel
theorem dX3_readPlainOne_177 : decode cX3_readPlainOne 177 = .ok (.ifCond .eq 25, 3) := by decide +kernel
theorem dX3_readPlainOne_180 : decode cX3_readPlainOne 180 = .ok (.aload_n 0, 1) := by decide +kernel
theorem dX3_readPlainOne_181 : decode cX3_readPlainOne 181 = .ok (.iload_n 1, 1) := by decide +kernel
theorem dX3_readPlainOne_182 : decode cX3_readPlainOne 182 = .ok (.iload_n 2, 1) := by decide +kernel
theorem dX3_readPlainOne_183 : decode cX3_readPlainOne 183 = .ok (.invokevirtual 87, 3) := by decide +kernel
theorem dX3_readPlainOne_186 : decode cX3_readPlainOne 186 = .ok (.ifCond .eq 16, 3) := by decide +kernel
theorem dX3_readPlainOne_189 : decode cX3_readPlainOne 189 = .ok (.aload_n 0, 1) := by decide +kernel
theorem dX3_readPlainOne_190 : decode cX3_readPlainOne 190 = .ok (.iload_n 3, 1) := by decide +kernel
theorem dX3_readPlainOne_191 : decode cX3_readPlainOne 191 = .ok (.iconst 0, 1) := by decide +kernel
theorem dX3_readPlainOne_192 : decode cX3_readPlainOne 192 = .ok (.invokevirtual 69, 3) := by decide +kernel
theorem dX3_readPlainOne_195 : decode cX3_readPlainOne 195 = .ok (.ifCond .eq 7, 3) := by decide +kernel
theorem dX3_readPlainOne_198 : decode cX3_readPlainOne 198 = .ok (.iconst 1, 1) := by decide +kernel
theorem dX3_readPlainOne_199 : decode cX3_readPlainOne 199 = .ok (.goto 4, 3) := by decide +kernel
theorem dX3_readPlainOne_202 : decode cX3_readPlainOne 202 = .ok (.iconst 0, 1) := by decide +kernel
theorem dX3_readPlainOne_203 : decode cX3_readPlainOne 203 = .ok (.ireturn, 1) := by decide +kernel
theorem dX3_readPlainOne_204 : decode cX3_readPlainOne 204 = .ok (.aload_n 0, 1) := by decide +kernel
theorem dX3_readPlainOne_205 : decode cX3_readPlainOne 205 = .ok (.iconst 2, 1) := by decide +kernel
theorem dX3_readPlainOne_206 : decode cX3_readPlainOne 206 = .ok (.invokevirtual 49, 3) := by decide +kernel
theorem dX3_readPlainOne_209 : decode cX3_readPlainOne 209 = .ok (.ireturn, 1) := by decide +kernel
theorem dX3_readPlainOne_210 : decode cX3_readPlainOne 210 = .ok (.aload_n 0, 1) := by decide +kernel
theorem dX3_readPlainOne_211 : decode cX3_readPlainOne 211 = .ok (.iconst 1, 1) := by decide +kernel
theorem dX3_readPlainOne_212 : decode cX3_readPlainOne 212 = .ok (.invokevirtual 49, 3) := by decide +kernel
theorem dX3_readPlainOne_215 : decode cX3_readPlainOne 215 = .ok (.ireturn, 1) := by decide +kernel
theorem dX3_readPair_0 : decode cX3_readPair 0 = .ok (.aload_n 0, 1) := by decide +kernel
theorem dX3_readPair_1 : decode cX3_readPair 1 = .ok (.iload_n 1, 1) := by decide +kernel
theorem dX3_readPair_2 : decode cX3_readPair 2 = .ok (.invokevirtual 84, 3) := by decide +kernel
theorem dX3_readPair_5 : decode cX3_readPair 5 = .ok (.ifCond .eq 47, 3) := by decide +kernel
theorem dX3_readPair_8 : decode cX3_readPair 8 = .ok (.aload_n 0, 1) := by decide +kernel
theorem dX3_readPair_9 : decode cX3_readPair 9 = .ok (.iload_n 1, 1) := by decide +kernel
theorem dX3_readPair_10 : decode cX3_readPair 10 = .ok (.iconst 1, 1) := by decide +kernel
theorem dX3_readPair_11 : decode cX3_readPair 11 = .ok (.iadd, 1) := by decide +kernel
theorem dX3_readPair_12 : decode cX3_readPair 12 = .ok (.iload_n 2, 1) := by decide +kernel
theorem dX3_readPair_13 : decode cX3_readPair 13 = .ok (.invokevirtual 42, 3) := by decide +kernel
theorem dX3_readPair_16 : decode cX3_readPair 16 = .ok (.ifCond .eq 36, 3) := by decide +kernel
theorem dX3_readPair_19 : decode cX3_readPair 19 = .ok (.aload_n 0, 1) := by decide +kernel
theorem dX3_readPair_20 : decode cX3_readPair 20 = .ok (.bipush 44, 2) := by decide +kernel
theorem dX3_readPair_22 : decode cX3_readPair 22 = .ok (.invokevirtual 66, 3) := by decide +kernel
theorem dX3_readPair_25 : decode cX3_readPair 25 = .ok (.ifCond .eq 27, 3) := by decide +kernel
theorem dX3_readPair_28 : decode cX3_readPair 28 = .ok (.aload_n 0, 1) := by decide +kernel
theorem dX3_readPair_29 : decode cX3_readPair 29 = .ok (.iload_n 1, 1) := by decide +kernel
theorem dX3_readPair_30 : decode cX3_readPair 30 = .ok (.iconst 1, 1) := by decide +kernel
theorem dX3_readPair_31 : decode cX3_readPair 31 = .ok (.iadd, 1) := by decide +kernel
theorem dX3_readPair_32 : decode cX3_readPair 32 = .ok (.iload_n 2, 1) := by decide +kernel
theorem dX3_readPair_33 : decode cX3_readPair 33 = .ok (.invokevirtual 42, 3) := by decide +kernel
theorem dX3_readPair_36 : decode cX3_readPair 36 = .ok (.ifCond .eq 16, 3) := by decide +kernel
theorem dX3_readPair_39 : decode cX3_readPair 39 = .ok (.aload_n 0, 1) := by decide +kernel
theorem dX3_readPair_40 : decode cX3_readPair 40 = .ok (.bipush 41, 2) := by decide +kernel
theorem dX3_readPair_42 : decode cX3_readPair 42 = .ok (.invokevirtual 66, 3) := by decide +kernel
theorem dX3_readPair_45 : decode cX3_readPair 45 = .ok (.ifCond .eq 7, 3) := by decide +kernel
theorem dX3_readPair_48 : decode cX3_readPair 48 = .ok (.iconst 1, 1) := by decide +kernel
theorem dX3_readPair_49 : decode cX3_readPair 49 = .ok (.goto 4, 3) := by decide +kernel
theorem dX3_readPair_52 : decode cX3_readPair 52 = .ok (.iconst 0, 1) := by decide +kernel
theorem dX3_readPair_53 : decode cX3_readPair 53 = .ok (.ireturn, 1) := by decide +kernel
theorem dX3_openBracket_0 : decode cX3_openBracket 0 = .ok (.aload_n 0, 1) := by decide +kernel
theorem dX3_openBracket_1 : decode cX3_openBracket 1 = .ok (.getfield 12, 3) := by decide +kernel
theorem dX3_openBracket_4 : decode cX3_openBracket 4 = .ok (.getfield 46, 3) := by decide +kernel
theorem dX3_openBracket_7 : decode cX3_openBracket 7 = .ok (.bipush 40, 2) := by decide +kernel
theorem dX3_openBracket_9 : decode cX3_openBracket 9 = .ok (.if_icmp .eq 9, 3) := by decide +kernel
theorem dX3_openBracket_12 : decode cX3_openBracket 12 = .ok (.aload_n 0, 1) := by decide +kernel
theorem dX3_openBracket_13 : decode cX3_openBracket 13 = .ok (.iconst 1, 1) := by decide +kernel
theorem dX3_openBracket_14 : decode cX3_openBracket 14 = .ok (.invokevirtual 49, 3) := by decide +kernel
theorem dX3_openBracket_17 : decode cX3_openBracket 17 = .ok (.ireturn, 1) := by decide +kernel
theorem dX3_openBracket_18 : decode cX3_openBracket 18 = .ok (.iload_n 1, 1) := by decide +kernel
theorem dX3_openBracket_19 : decode cX3_openBracket 19 = .ok (.bipush 8, 2) := by decide +kernel
theorem dX3_openBracket_21 : decode cX3_openBracket 21 = .ok (.if_icmp .lt 9, 3) := by decide +kernel
theorem dX3_openBracket_24 : decode cX3_openBracket 24 = .ok (.aload_n 0, 1) := by decide +kernel
theorem dX3_openBracket_25 : decode cX3_openBracket 25 = .ok (.iconst 3, 1) := by decide +kernel
theorem dX3_openBracket_26 : decode cX3_openBracket 26 = .ok (.invokevirtual 49, 3) := by decide +kernel
theorem dX3_openBracket_29 : decode cX3_openBracket 29 = .ok (.ireturn, 1) := by decide +kernel
theorem dX3_openBracket_30 : decode cX3_openBracket 30 = .ok (.aload_n 0, 1) := by decide +kernel
theorem dX3_openBracket_31 : decode cX3_openBracket 31 = .ok (.getfield 12, 3) := by decide +kernel
theorem dX3_openBracket_34 : decode cX3_openBracket 34 = .ok (.invokevirtual 90, 3) := by decide +kernel
theorem dX3_openBracket_37 : decode cX3_openBracket 37 = .ok (.iconst 1, 1) := by decide +kernel
theorem dX3_openBracket_38 : decode cX3_openBracket 38 = .ok (.ireturn, 1) := by decide +kernel
theorem dX3_take_0 : decode cX3_take 0 = .ok (.aload_n 0, 1) := by decide +kernel
theorem dX3_take_1 : decode cX3_take 1 = .ok (.getfield 12, 3) := by decide +kernel
theorem dX3_take_4 : decode cX3_take 4 = .ok (.getfield 46, 3) := by decide +kernel
theorem dX3_take_7 : decode cX3_take 7 = .ok (.iload_n 1, 1) := by decide +kernel
theorem dX3_take_8 : decode cX3_take 8 = .ok (.if_icmp .eq 9, 3) := by decide +kernel
theorem dX3_take_11 : decode cX3_take 11 = .ok (.aload_n 0, 1) := by decide +kernel
theorem dX3_take_12 : decode cX3_take 12 = .ok (.iconst 1, 1) := by decide +kernel
theorem dX3_take_13 : decode cX3_take 13 = .ok (.invokevirtual 49, 3) := by decide +kernel
theorem dX3_take_16 : decode cX3_take 16 = .ok (.ireturn, 1) := by decide +kernel
theorem dX3_take_17 : decode cX3_take 17 = .ok (.aload_n 0, 1) := by decide +kernel
theorem dX3_take_18 : decode cX3_take 18 = .ok (.getfield 12, 3) := by decide +kernel
theorem dX3_take_21 : decode cX3_take 21 = .ok (.invokevirtual 90, 3) := by decide +kernel
theorem dX3_take_24 : decode cX3_take 24 = .ok (.iconst 1, 1) := by decide +kernel
theorem dX3_take_25 : decode cX3_take 25 = .ok (.ireturn, 1) := by decide +kernel
theorem dX3_takePart_0 : decode cX3_takePart 0 = .ok (.aload_n 0, 1) := by decide +kernel
theorem dX3_takePart_1 : decode cX3_takePart 1 = .ok (.getfield 29, 3) := by decide +kernel
theorem dX3_takePart_4 : decode cX3_takePart 4 = .ok (.bipush 60, 2) := by decide +kernel
theorem dX3_takePart_6 : decode cX3_takePart 6 = .ok (.if_icmp .lt 9, 3) := by decide +kernel
theorem dX3_takePart_9 : decode cX3_takePart 9 = .ok (.aload_n 0, 1) := by decide +kernel
theorem dX3_takePart_10 : decode cX3_takePart 10 = .ok (.iconst 3, 1) := by decide +kernel
theorem dX3_takePart_11 : decode cX3_takePart 11 = .ok (.invokevirtual 49, 3) := by decide +kernel
theorem dX3_takePart_14 : decode cX3_takePart 14 = .ok (.ireturn, 1) := by decide +kernel
theorem dX3_takePart_15 : decode cX3_takePart 15 = .ok (.aload_n 0, 1) := by decide +kernel
theorem dX3_takePart_16 : decode cX3_takePart 16 = .ok (.dup, 1) := by decide +kernel
theorem dX3_takePart_17 : decode cX3_takePart 17 = .ok (.getfield 29, 3) := by decide +kernel
theorem dX3_takePart_20 : decode cX3_takePart 20 = .ok (.iconst 1, 1) := by decide +kernel
theorem dX3_takePart_21 : decode cX3_takePart 21 = .ok (.iadd, 1) := by decide +kernel
theorem dX3_takePart_22 : decode cX3_takePart 22 = .ok (.putfield 29, 3) := by decide +kernel
theorem dX3_takePart_25 : decode cX3_takePart 25 = .ok (.aload_n 0, 1) := by decide +kernel
theorem dX3_takePart_26 : decode cX3_takePart 26 = .ok (.getfield 12, 3) := by decide +kernel
theorem dX3_takePart_29 : decode cX3_takePart 29 = .ok (.invokevirtual 90, 3) := by decide +kernel
theorem dX3_takePart_32 : decode cX3_takePart 32 = .ok (.iconst 1, 1) := by decide +kernel
theorem dX3_takePart_33 : decode cX3_takePart 33 = .ok (.ireturn, 1) := by decide +kernel
theorem dX3_meet_0 : decode cX3_meet 0 = .ok (.aload_n 0, 1) := by decide +kernel
theorem dX3_meet_1 : decode cX3_meet 1 = .ok (.iload_n 1, 1) := by decide +kernel
theorem dX3_meet_2 : decode cX3_meet 2 = .ok (.putfield 35, 3) := by decide +kernel
theorem dX3_meet_5 : decode cX3_meet 5 = .ok (.iconst 0, 1) := by decide +kernel
theorem dX3_meet_6 : decode cX3_meet 6 = .ok (.ireturn, 1) := by decide +kernel
theorem dX3_write_0 : decode cX3_write 0 = .ok (.aload_n 0, 1) := by decide +kernel
theorem dX3_write_1 : decode cX3_write 1 = .ok (.getfield 25, 3) := by decide +kernel
theorem dX3_write_4 : decode cX3_write 4 = .ok (.ifCond .lt 27, 3) := by decide +kernel
theorem dX3_write_7 : decode cX3_write 7 = .ok (.aload_n 0, 1) := by decide +kernel
theorem dX3_write_8 : decode cX3_write 8 = .ok (.getfield 25, 3) := by decide +kernel
theorem dX3_write_11 : decode cX3_write 11 = .ok (.aload_n 0, 1) := by decide +kernel
theorem dX3_write_12 : decode cX3_write 12 = .ok (.getfield 18, 3) := by decide +kernel
theorem dX3_write_15 : decode cX3_write 15 = .ok (.arraylength, 1) := by decide +kernel
theorem dX3_write_16 : decode cX3_write 16 = .ok (.if_icmp .ge 15, 3) := by decide +kernel
theorem dX3_write_19 : decode cX3_write 19 = .ok (.aload_n 0, 1) := by decide +kernel
theorem dX3_write_20 : decode cX3_write 20 = .ok (.getfield 25, 3) := by decide +kernel
theorem dX3_write_23 : decode cX3_write 23 = .ok (.aload_n 0, 1) := by decide +kernel
theorem dX3_write_24 : decode cX3_write 24 = .ok (.getfield 22, 3) := by decide +kernel
theorem dX3_write_27 : decode cX3_write 27 = .ok (.arraylength, 1) := by decide +kernel
theorem dX3_write_28 : decode cX3_write 28 = .ok (.if_icmp .lt 9, 3) := by decide +kernel
theorem dX3_write_31 : decode cX3_write 31 = .ok (.aload_n 0, 1) := by decide +kernel
theorem dX3_write_32 : decode cX3_write 32 = .ok (.iconst 3, 1) := by decide +kernel
theorem dX3_write_33 : decode cX3_write 33 = .ok (.invokevirtual 49, 3) := by decide +kernel
theorem dX3_write_36 : decode cX3_write 36 = .ok (.ireturn, 1) := by decide +kernel
theorem dX3_write_37 : decode cX3_write 37 = .ok (.aload_n 0, 1) := by decide +kernel
theorem dX3_write_38 : decode cX3_write 38 = .ok (.getfield 18, 3) := by decide +kernel
theorem dX3_write_41 : decode cX3_write 41 = .ok (.aload_n 0, 1) := by decide +kernel
theorem dX3_write_42 : decode cX3_write 42 = .ok (.getfield 25, 3) := by decide +kernel
theorem dX3_write_45 : decode cX3_write 45 = .ok (.iload_n 1, 1) := by decide +kernel
theorem dX3_write_46 : decode cX3_write 46 = .ok (.iastore, 1) := by decide +kernel
theorem dX3_write_47 : decode cX3_write 47 = .ok (.aload_n 0, 1) := by decide +kernel
theorem dX3_write_48 : decode cX3_write 48 = .ok (.getfield 22, 3) := by decide +kernel
theorem dX3_write_51 : decode cX3_write 51 = .ok (.aload_n 0, 1) := by decide +kernel
theorem dX3_write_52 : decode cX3_write 52 = .ok (.getfield 25, 3) := by decide +kernel
theorem dX3_write_55 : decode cX3_write 55 = .ok (.iload_n 2, 1) := by decide +kernel
theorem dX3_write_56 : decode cX3_write 56 = .ok (.iastore, 1) := by decide +kernel
theorem dX3_write_57 : decode cX3_write 57 = .ok (.aload_n 0, 1) := by decide +kernel
theorem dX3_write_58 : decode cX3_write 58 = .ok (.dup, 1) := by decide +kernel
theorem dX3_write_59 : decode cX3_write 59 = .ok (.getfield 25, 3) := by decide +kernel
theorem dX3_write_62 : decode cX3_write 62 = .ok (.iconst 1, 1) := by decide +kernel
theorem dX3_write_63 : decode cX3_write 63 = .ok (.iadd, 1) := by decide +kernel
theorem dX3_write_64 : decode cX3_write 64 = .ok (.putfield 25, 3) := by decide +kernel
theorem dX3_write_67 : decode cX3_write 67 = .ok (.iconst 1, 1) := by decide +kernel
theorem dX3_write_68 : decode cX3_write 68 = .ok (.ireturn, 1) := by decide +kernel
theorem dX4_init_0 : decode cX4_init 0 = .ok (.aload_n 0, 1) := by decide +kernel
theorem dX4_init_1 : decode cX4_init 1 = .ok (.invokespecial 3, 3) := by decide +kernel
theorem dX4_init_4 : decode cX4_init 4 = .ok (.return_, 1) := by decide +kernel
theorem dX4_begin_0 : decode cX4_begin 0 = .ok (.aload_n 0, 1) := by decide +kernel
theorem dX4_begin_1 : decode cX4_begin 1 = .ok (.iconst 1, 1) := by decide +kernel
theorem dX4_begin_2 : decode cX4_begin 2 = .ok (.putfield 9, 3) := by decide +kernel
theorem dX4_begin_5 : decode cX4_begin 5 = .ok (.aload_n 0, 1) := by decide +kernel
theorem dX4_begin_6 : decode cX4_begin 6 = .ok (.iconst 0, 1) := by decide +kernel
theorem dX4_begin_7 : decode cX4_begin 7 = .ok (.putfield 15, 3) := by decide +kernel
theorem dX4_begin_10 : decode cX4_begin 10 = .ok (.aload_n 0, 1) := by decide +kernel
theorem dX4_begin_11 : decode cX4_begin 11 = .ok (.iconst 0, 1) := by decide +kernel
theorem dX4_begin_12 : decode cX4_begin 12 = .ok (.putfield 19, 3) := by decide +kernel
theorem dX4_begin_15 : decode cX4_begin 15 = .ok (.aload_n 0, 1) := by decide +kernel
theorem dX4_begin_16 : decode cX4_begin 16 = .ok (.iconst 0, 1) := by decide +kernel
theorem dX4_begin_17 : decode cX4_begin 17 = .ok (.putfield 22, 3) := by decide +kernel
theorem dX4_begin_20 : decode cX4_begin 20 = .ok (.aload_n 0, 1) := by decide +kernel
theorem dX4_begin_21 : decode cX4_begin 21 = .ok (.iconst 0, 1) := by decide +kernel
theorem dX4_begin_22 : decode cX4_begin 22 = .ok (.putfield 25, 3) := by decide +kernel
theorem dX4_begin_25 : decode cX4_begin 25 = .ok (.aload_n 0, 1) := by decide +kernel
theorem dX4_begin_26 : decode cX4_begin 26 = .ok (.iconst 0, 1) := by decide +kernel
theorem dX4_begin_27 : decode cX4_begin 27 = .ok (.putfield 28, 3) := by decide +kernel
theorem dX4_begin_30 : decode cX4_begin 30 = .ok (.return_, 1) := by decide +kernel
theorem dX4_take_0 : decode cX4_take 0 = .ok (.aload_n 0, 1) := by decide +kernel
theorem dX4_take_1 : decode cX4_take 1 = .ok (.dup, 1) := by decide +kernel
theorem dX4_take_2 : decode cX4_take 2 = .ok (.getfield 15, 3) := by decide +kernel
theorem dX4_take_5 : decode cX4_take 5 = .ok (.iconst 1, 1) := by decide +kernel
theorem dX4_take_6 : decode cX4_take 6 = .ok (.iadd, 1) := by decide +kernel
theorem dX4_take_7 : decode cX4_take 7 = .ok (.putfield 15, 3) := by decide +kernel
theorem dX4_take_10 : decode cX4_take 10 = .ok (.aload_n 1, 1) := by decide +kernel
theorem dX4_take_11 : decode cX4_take 11 = .ok (.getfield 31, 3) := by decide +kernel
theorem dX4_take_14 : decode cX4_take 14 = .ok (.aload_n 1, 1) := by decide +kernel
theorem dX4_take_15 : decode cX4_take 15 = .ok (.getfield 36, 3) := by decide +kernel
theorem dX4_take_18 : decode cX4_take 18 = .ok (.if_icmp .ne 13, 3) := by decide +kernel
theorem dX4_take_21 : decode cX4_take 21 = .ok (.aload_n 0, 1) := by decide +kernel
theorem dX4_take_22 : decode cX4_take 22 = .ok (.dup, 1) := by decide +kernel
theorem dX4_take_23 : decode cX4_take 23 = .ok (.getfield 19, 3) := by decide +kernel
theorem dX4_take_26 : decode cX4_take 26 = .ok (.iconst 1, 1) := by decide +kernel
theorem dX4_take_27 : decode cX4_take 27 = .ok (.iadd, 1) := by decide +kernel
theorem dX4_take_28 : decode cX4_take 28 = .ok (.putfield 19, 3) := by decide +kernel
theorem dX4_take_31 : decode cX4_take 31 = .ok (.aload_n 1, 1) := by decide +kernel
theorem dX4_take_32 : decode cX4_take 32 = .ok (.getfield 39, 3) := by decide +kernel
theorem dX4_take_35 : decode cX4_take 35 = .ok (.ldc 42, 2) := by decide +kernel
theorem dX4_take_37 : decode cX4_take 37 = .ok (.if_icmp .eq 81, 3) := by decide +kernel
theorem dX4_take_40 : decode cX4_take 40 = .ok (.aload_n 0, 1) := by decide +kernel
theorem dX4_take_41 : decode cX4_take 41 = .ok (.dup, 1) := by decide +kernel
theorem dX4_take_42 : decode cX4_take 42 = .ok (.getfield 28, 3) := by decide +kernel
theorem dX4_take_45 : decode cX4_take 45 = .ok (.iconst 1, 1) := by decide +kernel
theorem dX4_take_46 : decode cX4_take 46 = .ok (.iadd, 1) := by decide +kernel
theorem dX4_take_47 : decode cX4_take 47 = .ok (.putfield 28, 3) := by decide +kernel
theorem dX4_take_50 : decode cX4_take 50 = .ok (.aload_n 1, 1) := by decide +kernel
theorem dX4_take_51 : decode cX4_take 51 = .ok (.getfield 39, 3) := by decide +kernel
theorem dX4_take_54 : decode cX4_take 54 = .ok (.i2l, 1) := by decide +kernel
theorem dX4_take_55 : decode cX4_take 55 = .ok (.aload_n 1, 1) := by decide +kernel
theorem dX4_take_56 : decode cX4_take 56 = .ok (.getfield 31, 3) := by decide +kernel
theorem dX4_take_59 : decode cX4_take 59 = .ok (.i2l, 1) := by decide +kernel
theorem dX4_take_60 : decode cX4_take 60 = .ok (.lsub, 1) := by decide +kernel
theorem dX4_take_61 : decode cX4_take 61 = .ok (.invokestatic 43, 3) := by decide +kernel
theorem dX4_take_64 : decode cX4_take 64 = .ok (.lstore_n 2, 1) := by decide +kernel
theorem dX4_take_65 : decode cX4_take 65 = .ok (.aload_n 1, 1) := by decide +kernel
theorem dX4_take_66 : decode cX4_take 66 = .ok (.getfield 39, 3) := by decide +kernel
theorem dX4_take_69 : decode cX4_take 69 = .ok (.i2l, 1) := by decide +kernel
theorem dX4_take_70 : decode cX4_take 70 = .ok (.aload_n 1, 1) := by decide +kernel
theorem dX4_take_71 : decode cX4_take 71 = .ok (.getfield 36, 3) := by decide +kernel
theorem dX4_take_74 : decode cX4_take 74 = .ok (.i2l, 1) := by decide +kernel
theorem dX4_take_75 : decode cX4_take 75 = .ok (.lsub, 1) := by decide +kernel
theorem dX4_take_76 : decode cX4_take 76 = .ok (.invokestatic 43, 3) := by decide +kernel
theorem dX4_take_79 : decode cX4_take 79 = .ok (.lstore 4, 2) := by decide +kernel
theorem dX4_take_81 : decode cX4_take 81 = .ok (.lload 4, 2) := by decide +kernel
theorem dX4_take_83 : decode cX4_take 83 = .ok (.lload_n 2, 1) := by decide +kernel
theorem dX4_take_84 : decode cX4_take 84 = .ok (.lcmp, 1) := by decide +kernel
theorem dX4_take_85 : decode cX4_take 85 = .ok (.ifCond .ge 16, 3) := by decide +kernel
theorem dX4_take_88 : decode cX4_take 88 = .ok (.aload_n 0, 1) := by decide +kernel
theorem dX4_take_89 : decode cX4_take 89 = .ok (.dup, 1) := by decide +kernel
theorem dX4_take_90 : decode cX4_take 90 = .ok (.getfield 22, 3) := by decide +kernel
theorem dX4_take_93 : decode cX4_take 93 = .ok (.iconst 1, 1) := by decide +kernel
theorem dX4_take_94 : decode cX4_take 94 = .ok (.iadd, 1) := by decide +kernel
theorem dX4_take_95 : decode cX4_take 95 = .ok (.putfield 22, 3) := by decide +kernel
theorem dX4_take_98 : decode cX4_take 98 = .ok (.goto 20, 3) := by decide +kernel
theorem dX4_take_101 : decode cX4_take 101 = .ok (.lload_n 2, 1) := by decide +kernel
theorem dX4_take_102 : decode cX4_take 102 = .ok (.lload 4, 2) := by decide +kernel
theorem dX4_take_104 : decode cX4_take 104 = .ok (.lcmp, 1) := by decide +kernel
theorem dX4_take_105 : decode cX4_take 105 = .ok (.ifCond .ge 13, 3) := by decide +kernel
theorem dX4_take_108 : decode cX4_take 108 = .ok (.aload_n 0, 1) := by decide +kernel
theorem dX4_take_109 : decode cX4_take 109 = .ok (.dup, 1) := by decide +kernel
theorem dX4_take_110 : decode cX4_take 110 = .ok (.getfield 25, 3) := by decide +kernel
theorem dX4_take_113 : decode cX4_take 113 = .ok (.iconst 1, 1) := by decide +kernel
theorem dX4_take_114 : decode cX4_take 114 = .ok (.iadd, 1) := by decide +kernel
theorem dX4_take_115 : decode cX4_take 115 = .ok (.putfield 25, 3) := by decide +kernel
theorem dX4_take_118 : decode cX4_take 118 = .ok (.return_, 1) := by decide +kernel
theorem dX4_isSure_0 : decode cX4_isSure 0 = .ok (.aload_n 0, 1) := by decide +kernel
theorem dX4_isSure_1 : decode cX4_isSure 1 = .ok (.getfield 22, 3) := by decide +kernel
theorem dX4_isSure_4 : decode cX4_isSure 4 = .ok (.aload_n 0, 1) := by decide +kernel
theorem dX4_isSure_5 : decode cX4_isSure 5 = .ok (.getfield 25, 3) := by decide +kernel
theorem dX4_isSure_8 : decode cX4_isSure 8 = .ok (.isub, 1) := by decide +kernel
theorem dX4_isSure_9 : decode cX4_isSure 9 = .ok (.istore_n 1, 1) := by decide +kernel
theorem dX4_isSure_10 : decode cX4_isSure 10 = .ok (.iload_n 1, 1) := by decide +kernel
theorem dX4_isSure_11 : decode cX4_isSure 11 = .ok (.ifCond .le 24, 3) := by decide +kernel
theorem dX4_isSure_14 : decode cX4_isSure 14 = .ok (.iload_n 1, 1) := by decide +kernel
theorem dX4_isSure_15 : decode cX4_isSure 15 = .ok (.iload_n 1, 1) := by decide +kernel
theorem dX4_isSure_16 : decode cX4_isSure 16 = .ok (.imul, 1) := by decide +kernel
theorem dX4_isSure_17 : decode cX4_isSure 17 = .ok (.iconst 4, 1) := by decide +kernel
theorem dX4_isSure_18 : decode cX4_isSure 18 = .ok (.aload_n 0, 1) := by decide +kernel
theorem dX4_isSure_19 : decode cX4_isSure 19 = .ok (.getfield 22, 3) := by decide +kernel
theorem dX4_isSure_22 : decode cX4_isSure 22 = .ok (.aload_n 0, 1) := by decide +kernel
theorem dX4_isSure_23 : decode cX4_isSure 23 = .ok (.getfield 25, 3) := by decide +kernel
theorem dX4_isSure_26 : decode cX4_isSure 26 = .ok (.iadd, 1) := by decide +kernel
theorem dX4_isSure_27 : decode cX4_isSure 27 = .ok (.imul, 1) := by decide +kernel
theorem dX4_isSure_28 : decode cX4_isSure 28 = .ok (.if_icmp .le 7, 3) := by decide +kernel
theorem dX4_isSure_31 : decode cX4_isSure 31 = .ok (.iconst 1, 1) := by decide +kernel
theorem dX4_isSure_32 : decode cX4_isSure 32 = .ok (.goto 4, 3) := by decide +kernel
theorem dX4_isSure_35 : decode cX4_isSure 35 = .ok (.iconst 0, 1) := by decide +kernel
theorem dX4_isSure_36 : decode cX4_isSure 36 = .ok (.ireturn, 1) := by decide +kernel
theorem dX5_init_0 : decode cX5_init 0 = .ok (.aload_n 0, 1) := by decide +kernel
theorem dX5_init_1 : decode cX5_init 1 = .ok (.invokespecial 3, 3) := by decide +kernel
theorem dX5_init_4 : decode cX5_init 4 = .ok (.aload_n 0, 1) := by decide +kernel
theorem dX5_init_5 : decode cX5_init 5 = .ok (.sipush 300, 3) := by decide +kernel
theorem dX5_init_8 : decode cX5_init 8 = .ok (.newarray .int, 2) := by decide +kernel
theorem dX5_init_10 : decode cX5_init 10 = .ok (.putfield 9, 3) := by decide +kernel
theorem dX5_init_13 : decode cX5_init 13 = .ok (.return_, 1) := by decide +kernel
theorem dX5_append_0 : decode cX5_append 0 = .ok (.bipush 24, 2) := by decide +kernel
theorem dX5_append_2 : decode cX5_append 2 = .ok (.istore_n 2, 1) := by decide +kernel
theorem dX5_append_3 : decode cX5_append 3 = .ok (.iload_n 2, 1) := by decide +kernel
theorem dX5_append_4 : decode cX5_append 4 = .ok (.ifCond .lt 54, 3) := by decide +kernel
theorem dX5_append_7 : decode cX5_append 7 = .ok (.aload_n 0, 1) := by decide +kernel
theorem dX5_append_8 : decode cX5_append 8 = .ok (.getfield 15, 3) := by decide +kernel
theorem dX5_append_11 : decode cX5_append 11 = .ok (.ifCond .lt 41, 3) := by decide +kernel
theorem dX5_append_14 : decode cX5_append 14 = .ok (.aload_n 0, 1) := by decide +kernel
theorem dX5_append_15 : decode cX5_append 15 = .ok (.getfield 15, 3) := by decide +kernel
theorem dX5_append_18 : decode cX5_append 18 = .ok (.aload_n 0, 1) := by decide +kernel
theorem dX5_append_19 : decode cX5_append 19 = .ok (.getfield 9, 3) := by decide +kernel
theorem dX5_append_22 : decode cX5_append 22 = .ok (.arraylength, 1) := by decide +kernel
theorem dX5_append_23 : decode cX5_append 23 = .ok (.if_icmp .ge 29, 3) := by decide +kernel
theorem dX5_append_26 : decode cX5_append 26 = .ok (.aload_n 0, 1) := by decide +kernel
theorem dX5_append_27 : decode cX5_append 27 = .ok (.getfield 9, 3) := by decide +kernel
theorem dX5_append_30 : decode cX5_append 30 = .ok (.aload_n 0, 1) := by decide +kernel
theorem dX5_append_31 : decode cX5_append 31 = .ok (.getfield 15, 3) := by decide +kernel
theorem dX5_append_34 : decode cX5_append 34 = .ok (.iload_n 1, 1) := by decide +kernel
theorem dX5_append_35 : decode cX5_append 35 = .ok (.iload_n 2, 1) := by decide +kernel
theorem dX5_append_36 : decode cX5_append 36 = .ok (.iushr, 1) := by decide +kernel
theorem dX5_append_37 : decode cX5_append 37 = .ok (.sipush 255, 3) := by decide +kernel
theorem dX5_append_40 : decode cX5_append 40 = .ok (.iand, 1) := by decide +kernel
theorem dX5_append_41 : decode cX5_append 41 = .ok (.iastore, 1) := by decide +kernel
theorem dX5_append_42 : decode cX5_append 42 = .ok (.aload_n 0, 1) := by decide +kernel
theorem dX5_append_43 : decode cX5_append 43 = .ok (.dup, 1) := by decide +kernel
theorem dX5_append_44 : decode cX5_append 44 = .ok (.getfield 15, 3) := by decide +kernel
theorem dX5_append_47 : decode cX5_append 47 = .ok (.iconst 1, 1) := by decide +kernel
theorem dX5_append_48 : decode cX5_append 48 = .ok (.iadd, 1) := by decide +kernel
theorem dX5_append_49 : decode cX5_append 49 = .ok (.putfield 15, 3) := by decide +kernel
theorem dX5_append_52 : decode cX5_append 52 = .ok (.iinc 2 (-8), 3) := by decide +kernel
theorem dX5_append_55 : decode cX5_append 55 = .ok (.goto (-52), 3) := by decide +kernel
theorem dX5_append_58 : decode cX5_append 58 = .ok (.return_, 1) := by decide +kernel
theorem dX5_begin_0 : decode cX5_begin 0 = .ok (.aload_n 0, 1) := by decide +kernel
theorem dX5_begin_1 : decode cX5_begin 1 = .ok (.iload_n 1, 1) := by decide +kernel
theorem dX5_begin_2 : decode cX5_begin 2 = .ok (.putfield 19, 3) := by decide +kernel
theorem dX5_begin_5 : decode cX5_begin 5 = .ok (.aload_n 0, 1) := by decide +kernel
theorem dX5_begin_6 : decode cX5_begin 6 = .ok (.iconst 0, 1) := by decide +kernel
theorem dX5_begin_7 : decode cX5_begin 7 = .ok (.putfield 22, 3) := by decide +kernel
theorem dX5_begin_10 : decode cX5_begin 10 = .ok (.aload_n 0, 1) := by decide +kernel
theorem dX5_begin_11 : decode cX5_begin 11 = .ok (.invokevirtual 25, 3) := by decide +kernel
theorem dX5_begin_14 : decode cX5_begin 14 = .ok (.return_, 1) := by decide +kernel
theorem dX5_advance_0 : decode cX5_advance 0 = .ok (.aload_n 0, 1) := by decide +kernel
theorem dX5_advance_1 : decode cX5_advance 1 = .ok (.aload_n 0, 1) := by decide +kernel
theorem dX5_advance_2 : decode cX5_advance 2 = .ok (.getfield 22, 3) := by decide +kernel
theorem dX5_advance_5 : decode cX5_advance 5 = .ok (.putfield 28, 3) := by decide +kernel
theorem dX5_advance_8 : decode cX5_advance 8 = .ok (.aload_n 0, 1) := by decide +kernel
theorem dX5_advance_9 : decode cX5_advance 9 = .ok (.getfield 28, 3) := by decide +kernel
theorem dX5_advance_12 : decode cX5_advance 12 = .ok (.aload_n 0, 1) := by decide +kernel
theorem dX5_advance_13 : decode cX5_advance 13 = .ok (.getfield 19, 3) := by decide +kernel
theorem dX5_advance_16 : decode cX5_advance 16 = .ok (.if_icmp .ge 29, 3) := by decide +kernel
theorem dX5_advance_19 : decode cX5_advance 19 = .ok (.aload_n 0, 1) := by decide +kernel
theorem dX5_advance_20 : decode cX5_advance 20 = .ok (.aload_n 0, 1) := by decide +kernel
theorem dX5_advance_21 : decode cX5_advance 21 = .ok (.getfield 28, 3) := by decide +kernel
theorem dX5_advance_24 : decode cX5_advance 24 = .ok (.invokevirtual 31, 3) := by decide +kernel
theorem dX5_advance_27 : decode cX5_advance 27 = .ok (.bipush 32, 2) := by decide +kernel
theorem dX5_advance_29 : decode cX5_advance 29 = .ok (.if_icmp .ne 16, 3) := by decide +kernel
theorem dX5_advance_32 : decode cX5_advance 32 = .ok (.aload_n 0, 1) := by decide +kernel
theorem dX5_advance_33 : decode cX5_advance 33 = .ok (.dup, 1) := by decide +kernel
theorem dX5_advance_34 : decode cX5_advance 34 = .ok (.getfield 28, 3) := by decide +kernel
theorem dX5_advance_37 : decode cX5_advance 37 = .ok (.iconst 1, 1) := by decide +kernel
theorem dX5_advance_38 : decode cX5_advance 38 = .ok (.iadd, 1) := by decide +kernel
theorem dX5_advance_39 : decode cX5_advance 39 = .ok (.putfield 28, 3) := by decide +kernel
theorem dX5_advance_42 : decode cX5_advance 42 = .ok (.goto (-34), 3) := by decide +kernel
theorem dX5_advance_45 : decode cX5_advance 45 = .ok (.aload_n 0, 1) := by decide +kernel
theorem dX5_advance_46 : decode cX5_advance 46 = .ok (.aload_n 0, 1) := by decide +kernel
theorem dX5_advance_47 : decode cX5_advance 47 = .ok (.getfield 28, 3) := by decide +kernel
theorem dX5_advance_50 : decode cX5_advance 50 = .ok (.invokevirtual 31, 3) := by decide +kernel
theorem dX5_advance_53 : decode cX5_advance 53 = .ok (.istore_n 1, 1) := by decide +kernel
theorem dX5_advance_54 : decode cX5_advance 54 = .ok (.iload_n 1, 1) := by decide +kernel
theorem dX5_advance_55 : decode cX5_advance 55 = .ok (.iconst (-1), 1) := by decide +kernel
theorem dX5_advance_56 : decode cX5_advance 56 = .ok (.if_icmp .ne 21, 3) := by decide +kernel
theorem dX5_advance_59 : decode cX5_advance 59 = .ok (.aload_n 0, 1) := by decide +kernel
theorem dX5_advance_60 : decode cX5_advance 60 = .ok (.sipush 256, 3) := by decide +kernel
theorem dX5_advance_63 : decode cX5_advance 63 = .ok (.putfield 35, 3) := by decide +kernel
theorem dX5_advance_66 : decode cX5_advance 66 = .ok (.aload_n 0, 1) := by decide +kernel
theorem dX5_advance_67 : decode cX5_advance 67 = .ok (.aload_n 0, 1) := by decide +kernel
theorem dX5_advance_68 : decode cX5_advance 68 = .ok (.getfield 28, 3) := by decide +kernel
theorem dX5_advance_71 : decode cX5_advance 71 = .ok (.putfield 22, 3) := by decide +kernel
theorem dX5_advance_74 : decode cX5_advance 74 = .ok (.goto 67, 3) := by decide +kernel
theorem dX5_advance_77 : decode cX5_advance 77 = .ok (.iload_n 1, 1) := by decide +kernel
theorem dX5_advance_78 : decode cX5_advance 78 = .ok (.invokestatic 38, 3) := by decide +kernel
theorem dX5_advance_81 : decode cX5_advance 81 = .ok (.ifCond .eq 18, 3) := by decide +kernel
theorem dX5_advance_84 : decode cX5_advance 84 = .ok (.aload_n 0, 1) := by decide +kernel
theorem dX5_advance_85 : decode cX5_advance 85 = .ok (.aload_n 0, 1) := by decide +kernel
theorem dX5_advance_86 : decode cX5_advance 86 = .ok (.aload_n 0, 1) := by decide +kernel
theorem dX5_advance_87 : decode cX5_advance 87 = .ok (.invokevirtual 42, 3) := by decide +kernel
theorem dX5_advance_90 : decode cX5_advance 90 = .ok (.invokevirtual 46, 3) := by decide +kernel
theorem dX5_advance_93 : decode cX5_advance 93 = .ok (.putfield 35, 3) := by decide +kernel
theorem dX5_advance_96 : decode cX5_advance 96 = .ok (.goto 45, 3) := by decide +kernel
theorem dX5_advance_99 : decode cX5_advance 99 = .ok (.iload_n 1, 1) := by decide +kernel
theorem dX5_advance_100 : decode cX5_advance 100 = .ok (.invokestatic 49, 3) := by decide +kernel
theorem dX5_advance_103 : decode cX5_advance 103 = .ok (.ifCond .eq 10, 3) := by decide +kernel
theorem dX5_advance_106 : decode cX5_advance 106 = .ok (.aload_n 0, 1) := by decide +kernel
theorem dX5_advance_107 : decode cX5_advance 107 = .ok (.invokevirtual 52, 3) := by decide +kernel
theorem dX5_advance_110 : decode cX5_advance 110 = .ok (.goto 31, 3) := by decide +kernel
theorem dX5_advance_113 : decode cX5_advance 113 = .ok (.aload_n 0, 1) := by decide +kernel
theorem dX5_advance_114 : decode cX5_advance 114 = .ok (.iload_n 1, 1) := by decide +kernel
theorem dX5_advance_115 : decode cX5_advance 115 = .ok (.invokestatic 55, 3) := by decide +kernel
theorem dX5_advance_118 : decode cX5_advance 118 = .ok (.ifCond .eq 7, 3) := by decide +kernel
theorem dX5_advance_121 : decode cX5_advance 121 = .ok (.iload_n 1, 1) := by decide +kernel
theorem dX5_advance_122 : decode cX5_advance 122 = .ok (.goto 6, 3) := by decide +kernel
theorem dX5_advance_125 : decode cX5_advance 125 = .ok (.sipush 257, 3) := by decide +kernel
theorem dX5_advance_128 : decode cX5_advance 128 = .ok (.putfield 35, 3) := by decide +kernel
theorem dX5_advance_131 : decode cX5_advance 131 = .ok (.aload_n 0, 1) := by decide +kernel
theorem dX5_advance_132 : decode cX5_advance 132 = .ok (.aload_n 0, 1) := by decide +kernel
theorem dX5_advance_133 : decode cX5_advance 133 = .ok (.getfield 28, 3) := by decide +kernel
theorem dX5_advance_136 : decode cX5_advance 136 = .ok (.iconst 1, 1) := by decide +kernel
theorem dX5_advance_137 : decode cX5_advance 137 = .ok (.iadd, 1) := by decide +kernel
theorem dX5_advance_138 : decode cX5_advance 138 = .ok (.putfield 22, 3) := by decide +kernel
theorem dX5_advance_141 : decode cX5_advance 141 = .ok (.return_, 1) := by decide +kernel
theorem dX5_passWord_0 : decode cX5_passWord 0 = .ok (.aload_n 0, 1) := by decide +kernel
theorem dX5_passWord_1 : decode cX5_passWord 1 = .ok (.getfield 28, 3) := by decide +kernel
theorem dX5_passWord_4 : decode cX5_passWord 4 = .ok (.istore_n 1, 1) := by decide +kernel
theorem dX5_passWord_5 : decode cX5_passWord 5 = .ok (.iload_n 1, 1) := by decide +kernel
theorem dX5_passWord_6 : decode cX5_passWord 6 = .ok (.aload_n 0, 1) := by decide +kernel
theorem dX5_passWord_7 : decode cX5_passWord 7 = .ok (.getfield 19, 3) := by decide +kernel
theorem dX5_passWord_10 : decode cX5_passWord 10 = .ok (.if_icmp .ge 20, 3) := by decide +kernel
theorem dX5_passWord_13 : decode cX5_passWord 13 = .ok (.aload_n 0, 1) := by decide +kernel
theorem dX5_passWord_14 : decode cX5_passWord 14 = .ok (.iload_n 1, 1) := by decide +kernel
theorem dX5_passWord_15 : decode cX5_passWord 15 = .ok (.invokevirtual 31, 3) := by decide +kernel
theorem dX5_passWord_18 : decode cX5_passWord 18 = .ok (.invokestatic 38, 3) := by decide +kernel
theorem dX5_passWord_21 : decode cX5_passWord 21 = .ok (.ifCond .eq 9, 3) := by decide +kernel
theorem dX5_passWord_24 : decode cX5_passWord 24 = .ok (.iinc 1 1, 3) := by decide +kernel
theorem dX5_passWord_27 : decode cX5_passWord 27 = .ok (.goto (-22), 3) := by decide +kernel
theorem dX5_passWord_30 : decode cX5_passWord 30 = .ok (.aload_n 0, 1) := by decide +kernel
theorem dX5_passWord_31 : decode cX5_passWord 31 = .ok (.aload_n 0, 1) := by decide +kernel
theorem dX5_passWord_32 : decode cX5_passWord 32 = .ok (.iload_n 1, 1) := by decide +kernel
theorem dX5_passWord_33 : decode cX5_passWord 33 = .ok (.invokevirtual 31, 3) := by decide +kernel
theorem dX5_passWord_36 : decode cX5_passWord 36 = .ok (.invokestatic 49, 3) := by decide +kernel
theorem dX5_passWord_39 : decode cX5_passWord 39 = .ok (.ifCond .eq 9, 3) := by decide +kernel
theorem dX5_passWord_42 : decode cX5_passWord 42 = .ok (.iload_n 1, 1) := by decide +kernel
theorem dX5_passWord_43 : decode cX5_passWord 43 = .ok (.iconst 1, 1) := by decide +kernel
theorem dX5_passWord_44 : decode cX5_passWord 44 = .ok (.iadd, 1) := by decide +kernel
theorem dX5_passWord_45 : decode cX5_passWord 45 = .ok (.goto 4, 3) := by decide +kernel
theorem dX5_passWord_48 : decode cX5_passWord 48 = .ok (.iload_n 1, 1) := by decide +kernel
theorem dX5_passWord_49 : decode cX5_passWord 49 = .ok (.putfield 22, 3) := by decide +kernel
theorem dX5_passWord_52 : decode cX5_passWord 52 = .ok (.iload_n 1, 1) := by decide +kernel
theorem dX5_passWord_53 : decode cX5_passWord 53 = .ok (.aload_n 0, 1) := by decide +kernel
theorem dX5_passWord_54 : decode cX5_passWord 54 = .ok (.getfield 28, 3) := by decide +kernel
theorem dX5_passWord_57 : decode cX5_passWord 57 = .ok (.isub, 1) := by decide +kernel
theorem dX5_passWord_58 : decode cX5_passWord 58 = .ok (.ireturn, 1) := by decide +kernel
theorem dX5_kindOfWord_0 : decode cX5_kindOfWord 0 = .ok (.iload_n 1, 1) := by decide +kernel
theorem dX5_kindOfWord_1 : decode cX5_kindOfWord 1 = .ok (.bipush 8, 2) := by decide +kernel
theorem dX5_kindOfWord_3 : decode cX5_kindOfWord 3 = .ok (.if_icmp .le 7, 3) := by decide +kernel
theorem dX5_kindOfWord_6 : decode cX5_kindOfWord 6 = .ok (.sipush 257, 3) := by decide +kernel
theorem dX5_kindOfWord_9 : decode cX5_kindOfWord 9 = .ok (.ireturn, 1) := by decide +kernel
theorem dX5_kindOfWord_10 : decode cX5_kindOfWord 10 = .ok (.aload_n 0, 1) := by decide +kernel
theorem dX5_kindOfWord_11 : decode cX5_kindOfWord 11 = .ok (.aload_n 0, 1) := by decide +kernel
theorem dX5_kindOfWord_12 : decode cX5_kindOfWord 12 = .ok (.getfield 28, 3) := by decide +kernel
theorem dX5_kindOfWord_15 : decode cX5_kindOfWord 15 = .ok (.iload_n 1, 1) := by decide +kernel
theorem dX5_kindOfWord_16 : decode cX5_kindOfWord 16 = .ok (.iadd, 1) := by decide +kernel
theorem dX5_kindOfWord_17 : decode cX5_kindOfWord 17 = .ok (.invokevirtual 31, 3) := by decide +kernel
theorem dX5_kindOfWord_20 : decode cX5_kindOfWord 20 = .ok (.istore_n 2, 1) := by decide +kernel
theorem dX5_kindOfWord_21 : decode cX5_kindOfWord 21 = .ok (.iload_n 2, 1) := by decide +kernel
theorem dX5_kindOfWord_22 : decode cX5_kindOfWord 22 = .ok (.invokestatic 49, 3) := by decide +kernel
theorem dX5_kindOfWord_25 : decode cX5_kindOfWord 25 = .ok (.ifCond .eq 48, 3) := by decide +kernel
theorem dX5_kindOfWord_28 : decode cX5_kindOfWord 28 = .ok (.aload_n 0, 1) := by decide +kernel
theorem dX5_kindOfWord_29 : decode cX5_kindOfWord 29 = .ok (.iload_n 2, 1) := by decide +kernel
theorem dX5_kindOfWord_30 : decode cX5_kindOfWord 30 = .ok (.bipush 48, 2) := by decide +kernel
theorem dX5_kindOfWord_32 : decode cX5_kindOfWord 32 = .ok (.isub, 1) := by decide +kernel
theorem dX5_kindOfWord_33 : decode cX5_kindOfWord 33 = .ok (.putfield 58, 3) := by decide +kernel
theorem dX5_kindOfWord_36 : decode cX5_kindOfWord 36 = .ok (.iload_n 1, 1) := by decide +kernel
theorem dX5_kindOfWord_37 : decode cX5_kindOfWord 37 = .ok (.iconst 1, 1) := by decide +kernel
theorem dX5_kindOfWord_38 : decode cX5_kindOfWord 38 = .ok (.if_icmp .ne 31, 3) := by decide +kernel
theorem dX5_kindOfWord_41 : decode cX5_kindOfWord 41 = .ok (.aload_n 0, 1) := by decide +kernel
theorem dX5_kindOfWord_42 : decode cX5_kindOfWord 42 = .ok (.aload_n 0, 1) := by decide +kernel
theorem dX5_kindOfWord_43 : decode cX5_kindOfWord 43 = .ok (.getfield 28, 3) := by decide +kernel
theorem dX5_kindOfWord_46 : decode cX5_kindOfWord 46 = .ok (.invokevirtual 31, 3) := by decide +kernel
theorem dX5_kindOfWord_49 : decode cX5_kindOfWord 49 = .ok (.bipush 120, 2) := by decide +kernel
theorem dX5_kindOfWord_51 : decode cX5_kindOfWord 51 = .ok (.if_icmp .ne 18, 3) := by decide +kernel
theorem dX5_kindOfWord_54 : decode cX5_kindOfWord 54 = .ok (.aload_n 0, 1) := by decide +kernel
theorem dX5_kindOfWord_55 : decode cX5_kindOfWord 55 = .ok (.getfield 58, 3) := by decide +kernel
theorem dX5_kindOfWord_58 : decode cX5_kindOfWord 58 = .ok (.bipush 6, 2) := by decide +kernel
theorem dX5_kindOfWord_60 : decode cX5_kindOfWord 60 = .ok (.if_icmp .ge 9, 3) := by decide +kernel
theorem dX5_kindOfWord_63 : decode cX5_kindOfWord 63 = .ok (.sipush 259, 3) := by decide +kernel
theorem dX5_kindOfWord_66 : decode cX5_kindOfWord 66 = .ok (.goto 6, 3) := by decide +kernel
theorem dX5_kindOfWord_69 : decode cX5_kindOfWord 69 = .ok (.sipush 260, 3) := by decide +kernel
theorem dX5_kindOfWord_72 : decode cX5_kindOfWord 72 = .ok (.ireturn, 1) := by decide +kernel
theorem dX5_kindOfWord_73 : decode cX5_kindOfWord 73 = .ok (.aload_n 0, 1) := by decide +kernel
theorem dX5_kindOfWord_74 : decode cX5_kindOfWord 74 = .ok (.ldc 61, 2) := by decide +kernel
theorem dX5_kindOfWord_76 : decode cX5_kindOfWord 76 = .ok (.iload_n 1, 1) := by decide +kernel
theorem dX5_kindOfWord_77 : decode cX5_kindOfWord 77 = .ok (.invokevirtual 63, 3) := by decide +kernel
theorem dX5_kindOfWord_80 : decode cX5_kindOfWord 80 = .ok (.ifCond .eq 7, 3) := by decide +kernel
theorem dX5_kindOfWord_83 : decode cX5_kindOfWord 83 = .ok (.sipush 261, 3) := by decide +kernel
theorem dX5_kindOfWord_86 : decode cX5_kindOfWord 86 = .ok (.ireturn, 1) := by decide +kernel
theorem dX5_kindOfWord_87 : decode cX5_kindOfWord 87 = .ok (.aload_n 0, 1) := by decide +kernel
theorem dX5_kindOfWord_88 : decode cX5_kindOfWord 88 = .ok (.ldc 67, 2) := by decide +kernel
theorem dX5_kindOfWord_90 : decode cX5_kindOfWord 90 = .ok (.iload_n 1, 1) := by decide +kernel
theorem dX5_kindOfWord_91 : decode cX5_kindOfWord 91 = .ok (.invokevirtual 63, 3) := by decide +kernel
theorem dX5_kindOfWord_94 : decode cX5_kindOfWord 94 = .ok (.ifCond .eq 7, 3) := by decide +kernel
theorem dX5_kindOfWord_97 : decode cX5_kindOfWord 97 = .ok (.sipush 262, 3) := by decide +kernel
theorem dX5_kindOfWord_100 : decode cX5_kindOfWord 100 = .ok (.ireturn, 1) := by decide +kernel
theorem dX5_kindOfWord_101 : decode cX5_kindOfWord 101 = .ok (.aload_n 0, 1) := by decide +kernel
theorem dX5_kindOfWord_102 : decode cX5_kindOfWord 102 = .ok (.ldc 69, 2) := by decide +kernel
theorem dX5_kindOfWord_104 : decode cX5_kindOfWord 104 = .ok (.iload_n 1, 1) := by decide +kernel
theorem dX5_kindOfWord_105 : decode cX5_kindOfWord 105 = .ok (.invokevirtual 63, 3) := by decide +kernel
theorem dX5_kindOfWord_108 : decode cX5_kindOfWord 108 = .ok (.ifCond .eq 7, 3) := by decide +kernel
theorem dX5_kindOfWord_111 : decode cX5_kindOfWord 111 = .ok (.sipush 263, 3) := by decide +kernel
theorem dX5_kindOfWord_114 : decode cX5_kindOfWord 114 = .ok (.ireturn, 1) := by decide +kernel
theorem dX5_kindOfWord_115 : decode cX5_kindOfWord 115 = .ok (.aload_n 0, 1) := by decide +kernel
theorem dX5_kindOfWord_116 : decode cX5_kindOfWord 116 = .ok (.ldc 71, 2) := by decide +kernel
theorem dX5_kindOfWord_118 : decode cX5_kindOfWord 118 = .ok (.iload_n 1, 1) := by decide +kernel
theorem dX5_kindOfWord_119 : decode cX5_kindOfWord 119 = .ok (.invokevirtual 63, 3) := by decide +kernel
theorem dX5_kindOfWord_122 : decode cX5_kindOfWord 122 = .ok (.ifCond .eq 7, 3) := by decide +kernel
theorem dX5_kindOfWord_125 : decode cX5_kindOfWord 125 = .ok (.sipush 264, 3) := by decide +kernel
theorem dX5_kindOfWord_128 : decode cX5_kindOfWord 128 = .ok (.ireturn, 1) := by decide +kernel
theorem dX5_kindOfWord_129 : decode cX5_kindOfWord 129 = .ok (.aload_n 0, 1) := by decide +kernel
theorem dX5_kindOfWord_130 : decode cX5_kindOfWord 130 = .ok (.ldc 73, 2) := by decide +kernel
theorem dX5_kindOfWord_132 : decode cX5_kindOfWord 132 = .ok (.iload_n 1, 1) := by decide +kernel
theorem dX5_kindOfWord_133 : decode cX5_kindOfWord 133 = .ok (.invokevirtual 63, 3) := by decide +kernel
theorem dX5_kindOfWord_136 : decode cX5_kindOfWord 136 = .ok (.ifCond .eq 9, 3) := by decide +kernel
theorem dX5_kindOfWord_139 : decode cX5_kindOfWord 139 = .ok (.sipush 265, 3) := by decide +kernel
theorem dX5_kindOfWord_142 : decode cX5_kindOfWord 142 = .ok (.goto 6, 3) := by decide +kernel
theorem dX5_kindOfWord_145 : decode cX5_kindOfWord 145 = .ok (.sipush 260, 3) := by decide +kernel
theorem dX5_kindOfWord_148 : decode cX5_kindOfWord 148 = .ok (.ireturn, 1) := by decide +kernel
theorem dX5_spells_0 : decode cX5_spells 0 = .ok (.aload_n 1, 1) := by decide +kernel
theorem dX5_spells_1 : decode cX5_spells 1 = .ok (.invokevirtual 75, 3) := by decide +kernel
theorem dX5_spells_4 : decode cX5_spells 4 = .ok (.iload_n 2, 1) := by decide +kernel
theorem dX5_spells_5 : decode cX5_spells 5 = .ok (.if_icmp .eq 5, 3) := by decide +kernel
theorem dX5_spells_8 : decode cX5_spells 8 = .ok (.iconst 0, 1) := by decide +kernel
theorem dX5_spells_9 : decode cX5_spells 9 = .ok (.ireturn, 1) := by decide +kernel
theorem dX5_spells_10 : decode cX5_spells 10 = .ok (.iconst 0, 1) := by decide +kernel
theorem dX5_spells_11 : decode cX5_spells 11 = .ok (.istore_n 3, 1) := by decide +kernel
theorem dX5_spells_12 : decode cX5_spells 12 = .ok (.iload_n 3, 1) := by decide +kernel
theorem dX5_spells_13 : decode cX5_spells 13 = .ok (.iload_n 2, 1) := by decide +kernel
theorem dX5_spells_14 : decode cX5_spells 14 = .ok (.if_icmp .ge 29, 3) := by decide +kernel
theorem dX5_spells_17 : decode cX5_spells 17 = .ok (.aload_n 0, 1) := by decide +kernel
theorem dX5_spells_18 : decode cX5_spells 18 = .ok (.aload_n 0, 1) := by decide +kernel
theorem dX5_spells_19 : decode cX5_spells 19 = .ok (.getfield 28, 3) := by decide +kernel
theorem dX5_spells_22 : decode cX5_spells 22 = .ok (.iload_n 3, 1) := by decide +kernel
theorem dX5_spells_23 : decode cX5_spells 23 = .ok (.iadd, 1) := by decide +kernel
theorem dX5_spells_24 : decode cX5_spells 24 = .ok (.invokevirtual 31, 3) := by decide +kernel
theorem dX5_spells_27 : decode cX5_spells 27 = .ok (.aload_n 1, 1) := by decide +kernel
theorem dX5_spells_28 : decode cX5_spells 28 = .ok (.iload_n 3, 1) := by decide +kernel
theorem dX5_spells_29 : decode cX5_spells 29 = .ok (.invokevirtual 79, 3) := by decide +kernel
theorem dX5_spells_32 : decode cX5_spells 32 = .ok (.if_icmp .eq 5, 3) := by decide +kernel
theorem dX5_spells_35 : decode cX5_spells 35 = .ok (.iconst 0, 1) := by decide +kernel
theorem dX5_spells_36 : decode cX5_spells 36 = .ok (.ireturn, 1) := by decide +kernel
theorem dX5_spells_37 : decode cX5_spells 37 = .ok (.iinc 3 1, 3) := by decide +kernel
theorem dX5_spells_40 : decode cX5_spells 40 = .ok (.goto (-28), 3) := by decide +kernel
theorem dX5_spells_43 : decode cX5_spells 43 = .ok (.iconst 1, 1) := by decide +kernel
theorem dX5_spells_44 : decode cX5_spells 44 = .ok (.ireturn, 1) := by decide +kernel
theorem dX5_takeWhole_0 : decode cX5_takeWhole 0 = .ok (.iconst 0, 1) := by decide +kernel
theorem dX5_takeWhole_1 : decode cX5_takeWhole 1 = .ok (.istore_n 1, 1) := by decide +kernel
theorem dX5_takeWhole_2 : decode cX5_takeWhole 2 = .ok (.aload_n 0, 1) := by decide +kernel
theorem dX5_takeWhole_3 : decode cX5_takeWhole 3 = .ok (.getfield 28, 3) := by decide +kernel
theorem dX5_takeWhole_6 : decode cX5_takeWhole 6 = .ok (.istore_n 2, 1) := by decide +kernel
theorem dX5_takeWhole_7 : decode cX5_takeWhole 7 = .ok (.iload_n 2, 1) := by decide +kernel
theorem dX5_takeWhole_8 : decode cX5_takeWhole 8 = .ok (.aload_n 0, 1) := by decide +kernel
theorem dX5_takeWhole_9 : decode cX5_takeWhole 9 = .ok (.getfield 19, 3) := by decide +kernel
theorem dX5_takeWhole_12 : decode cX5_takeWhole 12 = .ok (.if_icmp .ge 34, 3) := by decide +kernel
theorem dX5_takeWhole_15 : decode cX5_takeWhole 15 = .ok (.aload_n 0, 1) := by decide +kernel
theorem dX5_takeWhole_16 : decode cX5_takeWhole 16 = .ok (.iload_n 2, 1) := by decide +kernel
theorem dX5_takeWhole_17 : decode cX5_takeWhole 17 = .ok (.invokevirtual 31, 3) := by decide +kernel
theorem dX5_takeWhole_20 : decode cX5_takeWhole 20 = .ok (.invokestatic 49, 3) := by decide +kernel
theorem dX5_takeWhole_23 : decode cX5_takeWhole 23 = .ok (.ifCond .eq 23, 3) := by decide +kernel
theorem dX5_takeWhole_26 : decode cX5_takeWhole 26 = .ok (.iload_n 1, 1) := by decide +kernel
theorem dX5_takeWhole_27 : decode cX5_takeWhole 27 = .ok (.bipush 10, 2) := by decide +kernel
theorem dX5_takeWhole_29 : decode cX5_takeWhole 29 = .ok (.imul, 1) := by decide +kernel
theorem dX5_takeWhole_30 : decode cX5_takeWhole 30 = .ok (.aload_n 0, 1) := by decide +kernel
theorem dX5_takeWhole_31 : decode cX5_takeWhole 31 = .ok (.iload_n 2, 1) := by decide +kernel
theorem dX5_takeWhole_32 : decode cX5_takeWhole 32 = .ok (.invokevirtual 31, 3) := by decide +kernel
theorem dX5_takeWhole_35 : decode cX5_takeWhole 35 = .ok (.iadd, 1) := by decide +kernel
theorem dX5_takeWhole_36 : decode cX5_takeWhole 36 = .ok (.bipush 48, 2) := by decide +kernel
theorem dX5_takeWhole_38 : decode cX5_takeWhole 38 = .ok (.isub, 1) := by decide +kernel
theorem dX5_takeWhole_39 : decode cX5_takeWhole 39 = .ok (.istore_n 1, 1) := by decide +kernel
theorem dX5_takeWhole_40 : decode cX5_takeWhole 40 = .ok (.iinc 2 1, 3) := by decide +kernel
theorem dX5_takeWhole_43 : decode cX5_takeWhole 43 = .ok (.goto (-36), 3) := by decide +kernel
theorem dX5_takeWhole_46 : decode cX5_takeWhole 46 = .ok (.aload_n 0, 1) := by decide +kernel
theorem dX5_takeWhole_47 : decode cX5_takeWhole 47 = .ok (.iload_n 2, 1) := by decide +kernel
theorem dX5_takeWhole_48 : decode cX5_takeWhole 48 = .ok (.putfield 22, 3) := by decide +kernel
theorem dX5_takeWhole_51 : decode cX5_takeWhole 51 = .ok (.aload_n 0, 1) := by decide +kernel
theorem dX5_takeWhole_52 : decode cX5_takeWhole 52 = .ok (.iload_n 1, 1) := by decide +kernel
theorem dX5_takeWhole_53 : decode cX5_takeWhole 53 = .ok (.putfield 58, 3) := by decide +kernel
theorem dX5_takeWhole_56 : decode cX5_takeWhole 56 = .ok (.aload_n 0, 1) := by decide +kernel
theorem dX5_takeWhole_57 : decode cX5_takeWhole 57 = .ok (.iload_n 2, 1) := by decide +kernel
theorem dX5_takeWhole_58 : decode cX5_takeWhole 58 = .ok (.aload_n 0, 1) := by decide +kernel
theorem dX5_takeWhole_59 : decode cX5_takeWhole 59 = .ok (.getfield 28, 3) := by decide +kernel
theorem dX5_takeWhole_62 : decode cX5_takeWhole 62 = .ok (.isub, 1) := by decide +kernel
theorem dX5_takeWhole_63 : decode cX5_takeWhole 63 = .ok (.iconst 4, 1) := by decide +kernel
theorem dX5_takeWhole_64 : decode cX5_takeWhole 64 = .ok (.if_icmp .le 9, 3) := by decide +kernel
theorem dX5_takeWhole_67 : decode cX5_takeWhole 67 = .ok (.sipush 257, 3) := by decide +kernel
theorem dX5_takeWhole_70 : decode cX5_takeWhole 70 = .ok (.goto 6, 3) := by decide +kernel
theorem dX5_takeWhole_73 : decode cX5_takeWhole 73 = .ok (.sipush 258, 3) := by decide +kernel
theorem dX5_takeWhole_76 : decode cX5_takeWhole 76 = .ok (.putfield 35, 3) := by decide +kernel
theorem dX5_takeWhole_79 : decode cX5_takeWhole 79 = .ok (.return_, 1) := by decide +kernel
theorem dX5_byteAt_0 : decode cX5_byteAt 0 = .ok (.iload_n 1, 1) := by decide +kernel
theorem dX5_byteAt_1 : decode cX5_byteAt 1 = .ok (.ifCond .lt 29, 3) := by decide +kernel
theorem dX5_byteAt_4 : decode cX5_byteAt 4 = .ok (.iload_n 1, 1) := by decide +kernel
theorem dX5_byteAt_5 : decode cX5_byteAt 5 = .ok (.aload_n 0, 1) := by decide +kernel
theorem dX5_byteAt_6 : decode cX5_byteAt 6 = .ok (.getfield 19, 3) := by decide +kernel
theorem dX5_byteAt_9 : decode cX5_byteAt 9 = .ok (.if_icmp .ge 21, 3) := by decide +kernel
theorem dX5_byteAt_12 : decode cX5_byteAt 12 = .ok (.iload_n 1, 1) := by decide +kernel
theorem dX5_byteAt_13 : decode cX5_byteAt 13 = .ok (.aload_n 0, 1) := by decide +kernel
theorem dX5_byteAt_14 : decode cX5_byteAt 14 = .ok (.getfield 9, 3) := by decide +kernel
theorem dX5_byteAt_17 : decode cX5_byteAt 17 = .ok (.arraylength, 1) := by decide +kernel
theorem dX5_byteAt_18 : decode cX5_byteAt 18 = .ok (.if_icmp .ge 12, 3) := by decide +kernel
theorem dX5_byteAt_21 : decode cX5_byteAt 21 = .ok (.aload_n 0, 1) := by decide +kernel
theorem dX5_byteAt_22 : decode cX5_byteAt 22 = .ok (.getfield 9, 3) := by decide +kernel
theorem dX5_byteAt_25 : decode cX5_byteAt 25 = .ok (.iload_n 1, 1) := by decide +kernel
theorem dX5_byteAt_26 : decode cX5_byteAt 26 = .ok (.iaload, 1) := by decide +kernel
theorem dX5_byteAt_27 : decode cX5_byteAt 27 = .ok (.goto 4, 3) := by decide +kernel
theorem dX5_byteAt_30 : decode cX5_byteAt 30 = .ok (.iconst (-1), 1) := by decide +kernel
theorem dX5_byteAt_31 : decode cX5_byteAt 31 = .ok (.ireturn, 1) := by decide +kernel
theorem dX5_isLetter_0 : decode cX5_isLetter 0 = .ok (.iload_n 0, 1) := by decide +kernel
theorem dX5_isLetter_1 : decode cX5_isLetter 1 = .ok (.bipush 97, 2) := by decide +kernel
theorem dX5_isLetter_3 : decode cX5_isLetter 3 = .ok (.if_icmp .lt 13, 3) := by decide +kernel
theorem dX5_isLetter_6 : decode cX5_isLetter 6 = .ok (.iload_n 0, 1) := by decide +kernel
theorem dX5_isLetter_7 : decode cX5_isLetter 7 = .ok (.bipush 122, 2) := by decide +kernel
theorem dX5_isLetter_9 : decode cX5_isLetter 9 = .ok (.if_icmp .gt 7, 3) := by decide +kernel
theorem dX5_isLetter_12 : decode cX5_isLetter 12 = .ok (.iconst 1, 1) := by decide +kernel
theorem dX5_isLetter_13 : decode cX5_isLetter 13 = .ok (.goto 4, 3) := by decide +kernel
theorem dX5_isLetter_16 : decode cX5_isLetter 16 = .ok (.iconst 0, 1) := by decide +kernel
theorem dX5_isLetter_17 : decode cX5_isLetter 17 = .ok (.ireturn, 1) := by decide +kernel
theorem dX5_isDigit_0 : decode cX5_isDigit 0 = .ok (.iload_n 0, 1) := by decide +kernel
theorem dX5_isDigit_1 : decode cX5_isDigit 1 = .ok (.bipush 48, 2) := by decide +kernel
theorem dX5_isDigit_3 : decode cX5_isDigit 3 = .ok (.if_icmp .lt 13, 3) := by decide +kernel
theorem dX5_isDigit_6 : decode cX5_isDigit 6 = .ok (.iload_n 0, 1) := by decide +kernel
theorem dX5_isDigit_7 : decode cX5_isDigit 7 = .ok (.bipush 57, 2) := by decide +kernel
theorem dX5_isDigit_9 : decode cX5_isDigit 9 = .ok (.if_icmp .gt 7, 3) := by decide +kernel
theorem dX5_isDigit_12 : decode cX5_isDigit 12 = .ok (.iconst 1, 1) := by decide +kernel
theorem dX5_isDigit_13 : decode cX5_isDigit 13 = .ok (.goto 4, 3) := by decide +kernel
theorem dX5_isDigit_16 : decode cX5_isDigit 16 = .ok (.iconst 0, 1) := by decide +kernel
theorem dX5_isDigit_17 : decode cX5_isDigit 17 = .ok (.ireturn, 1) := by decide +kernel
theorem dX5_isSign_0 : decode cX5_isSign 0 = .ok (.iload_n 0, 1) := by decide +kernel
theorem dX5_isSign_1 : decode cX5_isSign 1 = .ok (.bipush 40, 2) := by decide +kernel
theorem dX5_isSign_3 : decode cX5_isSign 3 = .ok (.if_icmp .eq 51, 3) := by decide +kernel
theorem dX5_isSign_6 : decode cX5_isSign 6 = .ok (.iload_n 0, 1) := by decide +kernel
theorem dX5_isSign_7 : decode cX5_isSign 7 = .ok (.bipush 41, 2) := by decide +kernel
theorem dX5_isSign_9 : decode cX5_isSign 9 = .ok (.if_icmp .eq 45, 3) := by decide +kernel
theorem dX5_isSign_12 : decode cX5_isSign 12 = .ok (.iload_n 0, 1) := by decide +kernel
theorem dX5_isSign_13 : decode cX5_isSign 13 = .ok (.bipush 60, 2) := by decide +kernel
theorem dX5_isSign_15 : decode cX5_isSign 15 = .ok (.if_icmp .eq 39, 3) := by decide +kernel
theorem dX5_isSign_18 : decode cX5_isSign 18 = .ok (.iload_n 0, 1) := by decide +kernel
theorem dX5_isSign_19 : decode cX5_isSign 19 = .ok (.bipush 62, 2) := by decide +kernel
theorem dX5_isSign_21 : decode cX5_isSign 21 = .ok (.if_icmp .eq 33, 3) := by decide +kernel
theorem dX5_isSign_24 : decode cX5_isSign 24 = .ok (.iload_n 0, 1) := by decide +kernel
theorem dX5_isSign_25 : decode cX5_isSign 25 = .ok (.bipush 61, 2) := by decide +kernel
theorem dX5_isSign_27 : decode cX5_isSign 27 = .ok (.if_icmp .eq 27, 3) := by decide +kernel
theorem dX5_isSign_30 : decode cX5_isSign 30 = .ok (.iload_n 0, 1) := by decide +kernel
theorem dX5_isSign_31 : decode cX5_isSign 31 = .ok (.bipush 43, 2) := by decide +kernel
theorem dX5_isSign_33 : decode cX5_isSign 33 = .ok (.if_icmp .eq 21, 3) := by decide +kernel
theorem dX5_isSign_36 : decode cX5_isSign 36 = .ok (.iload_n 0, 1) := by decide +kernel
theorem dX5_isSign_37 : decode cX5_isSign 37 = .ok (.bipush 45, 2) := by decide +kernel
theorem dX5_isSign_39 : decode cX5_isSign 39 = .ok (.if_icmp .eq 15, 3) := by decide +kernel
theorem dX5_isSign_42 : decode cX5_isSign 42 = .ok (.iload_n 0, 1) := by decide +kernel
theorem dX5_isSign_43 : decode cX5_isSign 43 = .ok (.bipush 42, 2) := by decide +kernel
theorem dX5_isSign_45 : decode cX5_isSign 45 = .ok (.if_icmp .eq 9, 3) := by decide +kernel
theorem dX5_isSign_48 : decode cX5_isSign 48 = .ok (.iload_n 0, 1) := by decide +kernel
theorem dX5_isSign_49 : decode cX5_isSign 49 = .ok (.bipush 44, 2) := by decide +kernel
theorem dX5_isSign_51 : decode cX5_isSign 51 = .ok (.if_icmp .ne 7, 3) := by decide +kernel
theorem dX5_isSign_54 : decode cX5_isSign 54 = .ok (.iconst 1, 1) := by decide +kernel
theorem dX5_isSign_55 : decode cX5_isSign 55 = .ok (.goto 4, 3) := by decide +kernel
theorem dX5_isSign_58 : decode cX5_isSign 58 = .ok (.iconst 0, 1) := by decide +kernel
theorem dX5_isSign_59 : decode cX5_isSign 59 = .ok (.ireturn, 1) := by decide +kernel
theorem dX6_init_0 : decode cX6_init 0 = .ok (.aload_n 0, 1) := by decide +kernel
theorem dX6_init_1 : decode cX6_init 1 = .ok (.invokespecial 3, 3) := by decide +kernel
theorem dX6_init_4 : decode cX6_init 4 = .ok (.aload_n 0, 1) := by decide +kernel
theorem dX6_init_5 : decode cX6_init 5 = .ok (.bipush 60, 2) := by decide +kernel
theorem dX6_init_7 : decode cX6_init 7 = .ok (.newarray .int, 2) := by decide +kernel
theorem dX6_init_9 : decode cX6_init 9 = .ok (.putfield 9, 3) := by decide +kernel
theorem dX6_init_12 : decode cX6_init 12 = .ok (.return_, 1) := by decide +kernel
theorem dX6_work_0 : decode cX6_work 0 = .ok (.aload_n 1, 1) := by decide +kernel
theorem dX6_work_1 : decode cX6_work 1 = .ok (.getfield 15, 3) := by decide +kernel
theorem dX6_work_4 : decode cX6_work 4 = .ok (.astore_n 3, 1) := by decide +kernel
theorem dX6_work_5 : decode cX6_work 5 = .ok (.aload_n 1, 1) := by decide +kernel
theorem dX6_work_6 : decode cX6_work 6 = .ok (.getfield 20, 3) := by decide +kernel
theorem dX6_work_9 : decode cX6_work 9 = .ok (.astore 4, 2) := by decide +kernel
theorem dX6_work_11 : decode cX6_work 11 = .ok (.iconst 0, 1) := by decide +kernel
theorem dX6_work_12 : decode cX6_work 12 = .ok (.istore 5, 2) := by decide +kernel
theorem dX6_work_14 : decode cX6_work 14 = .ok (.iconst 0, 1) := by decide +kernel
theorem dX6_work_15 : decode cX6_work 15 = .ok (.istore 6, 2) := by decide +kernel
theorem dX6_work_17 : decode cX6_work 17 = .ok (.iload 6, 2) := by decide +kernel
theorem dX6_work_19 : decode cX6_work 19 = .ok (.aload_n 3, 1) := by decide +kernel
theorem dX6_work_20 : decode cX6_work 20 = .ok (.arraylength, 1) := by decide +kernel
theorem dX6_work_21 : decode cX6_work 21 = .ok (.if_icmp .ge 210, 3) := by decide +kernel
theorem dX6_work_24 : decode cX6_work 24 = .ok (.iload 6, 2) := by decide +kernel
theorem dX6_work_26 : decode cX6_work 26 = .ok (.aload 4, 2) := by decide +kernel
theorem dX6_work_28 : decode cX6_work 28 = .ok (.arraylength, 1) := by decide +kernel
theorem dX6_work_29 : decode cX6_work 29 = .ok (.if_icmp .ge 202, 3) := by decide +kernel
theorem dX6_work_32 : decode cX6_work 32 = .ok (.aload_n 3, 1) := by decide +kernel
theorem dX6_work_33 : decode cX6_work 33 = .ok (.iload 6, 2) := by decide +kernel
theorem dX6_work_35 : decode cX6_work 35 = .ok (.iaload, 1) := by decide +kernel
theorem dX6_work_36 : decode cX6_work 36 = .ok (.istore 7, 2) := by decide +kernel
theorem dX6_work_38 : decode cX6_work 38 = .ok (.iload 7, 2) := by decide +kernel
theorem dX6_work_40 : decode cX6_work 40 = .ok (.invokestatic 23, 3) := by decide +kernel
theorem dX6_work_43 : decode cX6_work 43 = .ok (.istore 8, 2) := by decide +kernel
theorem dX6_work_45 : decode cX6_work 45 = .ok (.iload 5, 2) := by decide +kernel
theorem dX6_work_47 : decode cX6_work 47 = .ok (.iload 8, 2) := by decide +kernel
theorem dX6_work_49 : decode cX6_work 49 = .ok (.isub, 1) := by decide +kernel
theorem dX6_work_50 : decode cX6_work 50 = .ok (.istore 9, 2) := by decide +kernel
theorem dX6_work_52 : decode cX6_work 52 = .ok (.iload 9, 2) := by decide +kernel
theorem dX6_work_54 : decode cX6_work 54 = .ok (.ifCond .lt 23, 3) := by decide +kernel
theorem dX6_work_57 : decode cX6_work 57 = .ok (.iload 9, 2) := by decide +kernel
theorem dX6_work_59 : decode cX6_work 59 = .ok (.aload_n 0, 1) := by decide +kernel
theorem dX6_work_60 : decode cX6_work 60 = .ok (.getfield 9, 3) := by decide +kernel
theorem dX6_work_63 : decode cX6_work 63 = .ok (.arraylength, 1) := by decide +kernel
theorem dX6_work_64 : decode cX6_work 64 = .ok (.if_icmp .ge 13, 3) := by decide +kernel
theorem dX6_work_67 : decode cX6_work 67 = .ok (.iload 5, 2) := by decide +kernel
theorem dX6_work_69 : decode cX6_work 69 = .ok (.aload_n 0, 1) := by decide +kernel
theorem dX6_work_70 : decode cX6_work 70 = .ok (.getfield 9, 3) := by decide +kernel
theorem dX6_work_73 : decode cX6_work 73 = .ok (.arraylength, 1) := by decide +kernel
theorem dX6_work_74 : decode cX6_work 74 = .ok (.if_icmp .le 6, 3) := by decide +kernel
theorem dX6_work_77 : decode cX6_work 77 = .ok (.ldc 27, 2) := by decide +kernel
theorem dX6_work_79 : decode cX6_work 79 = .ok (.ireturn, 1) := by decide +kernel
theorem dX6_work_80 : decode cX6_work 80 = .ok (.iload 8, 2) := by decide +kernel
theorem dX6_work_82 : decode cX6_work 82 = .ok (.ifCond .ne 38, 3) := by decide +kernel
theorem dX6_work_85 : decode cX6_work 85 = .ok (.aload_n 0, 1) := by decide +kernel
theorem dX6_work_86 : decode cX6_work 86 = .ok (.getfield 9, 3) := by decide +kernel
theorem dX6_work_89 : decode cX6_work 89 = .ok (.iload 9, 2) := by decide +kernel
theorem dX6_work_91 : decode cX6_work 91 = .ok (.iload 7, 2) := by decide +kernel
theorem dX6_work_93 : decode cX6_work 93 = .ok (.sipush 258, 3) := by decide +kernel
theorem dX6_work_96 : decode cX6_work 96 = .ok (.if_icmp .ne 11, 3) := by decide +kernel
theorem dX6_work_99 : decode cX6_work 99 = .ok (.aload 4, 2) := by decide +kernel
theorem dX6_work_101 : decode cX6_work 101 = .ok (.iload 6, 2) := by decide +kernel
theorem dX6_work_103 : decode cX6_work 103 = .ok (.iaload, 1) := by decide +kernel
theorem dX6_work_104 : decode cX6_work 104 = .ok (.goto 12, 3) := by decide +kernel
theorem dX6_work_107 : decode cX6_work 107 = .ok (.aload_n 2, 1) := by decide +kernel
theorem dX6_work_108 : decode cX6_work 108 = .ok (.aload 4, 2) := by decide +kernel
theorem dX6_work_110 : decode cX6_work 110 = .ok (.iload 6, 2) := by decide +kernel
theorem dX6_work_112 : decode cX6_work 112 = .ok (.iaload, 1) := by decide +kernel
theorem dX6_work_113 : decode cX6_work 113 = .ok (.invokestatic 28, 3) := by decide +kernel
theorem dX6_work_116 : decode cX6_work 116 = .ok (.iastore, 1) := by decide +kernel
theorem dX6_work_117 : decode cX6_work 117 = .ok (.goto 102, 3) := by decide +kernel
theorem dX6_work_120 : decode cX6_work 120 = .ok (.iload 8, 2) := by decide +kernel
theorem dX6_work_122 : decode cX6_work 122 = .ok (.iconst 1, 1) := by decide +kernel
theorem dX6_work_123 : decode cX6_work 123 = .ok (.if_icmp .ne 21, 3) := by decide +kernel
theorem dX6_work_126 : decode cX6_work 126 = .ok (.aload_n 0, 1) := by decide +kernel
theorem dX6_work_127 : decode cX6_work 127 = .ok (.getfield 9, 3) := by decide +kernel
theorem dX6_work_130 : decode cX6_work 130 = .ok (.iload 9, 2) := by decide +kernel
theorem dX6_work_132 : decode cX6_work 132 = .ok (.aload_n 0, 1) := by decide +kernel
theorem dX6_work_133 : decode cX6_work 133 = .ok (.getfield 9, 3) := by decide +kernel
theorem dX6_work_136 : decode cX6_work 136 = .ok (.iload 9, 2) := by decide +kernel
theorem dX6_work_138 : decode cX6_work 138 = .ok (.iaload, 1) := by decide +kernel
theorem dX6_work_139 : decode cX6_work 139 = .ok (.ineg, 1) := by decide +kernel
theorem dX6_work_140 : decode cX6_work 140 = .ok (.iastore, 1) := by decide +kernel
theorem dX6_work_141 : decode cX6_work 141 = .ok (.goto 78, 3) := by decide +kernel
theorem dX6_work_144 : decode cX6_work 144 = .ok (.iload 8, 2) := by decide +kernel
theorem dX6_work_146 : decode cX6_work 146 = .ok (.iconst 2, 1) := by decide +kernel
theorem dX6_work_147 : decode cX6_work 147 = .ok (.if_icmp .ne 34, 3) := by decide +kernel
theorem dX6_work_150 : decode cX6_work 150 = .ok (.aload_n 0, 1) := by decide +kernel
theorem dX6_work_151 : decode cX6_work 151 = .ok (.getfield 9, 3) := by decide +kernel
theorem dX6_work_154 : decode cX6_work 154 = .ok (.iload 9, 2) := by decide +kernel
theorem dX6_work_156 : decode cX6_work 156 = .ok (.iload 7, 2) := by decide +kernel
theorem dX6_work_158 : decode cX6_work 158 = .ok (.aload_n 0, 1) := by decide +kernel
theorem dX6_work_159 : decode cX6_work 159 = .ok (.getfield 9, 3) := by decide +kernel
theorem dX6_work_162 : decode cX6_work 162 = .ok (.iload 9, 2) := by decide +kernel
theorem dX6_work_164 : decode cX6_work 164 = .ok (.iaload, 1) := by decide +kernel
theorem dX6_work_165 : decode cX6_work 165 = .ok (.aload_n 0, 1) := by decide +kernel
theorem dX6_work_166 : decode cX6_work 166 = .ok (.getfield 9, 3) := by decide +kernel
theorem dX6_work_169 : decode cX6_work 169 = .ok (.iload 9, 2) := by decide +kernel
theorem dX6_work_171 : decode cX6_work 171 = .ok (.iconst 1, 1) := by decide +kernel
theorem dX6_work_172 : decode cX6_work 172 = .ok (.iadd, 1) := by decide +kernel
theorem dX6_work_173 : decode cX6_work 173 = .ok (.iaload, 1) := by decide +kernel
theorem dX6_work_174 : decode cX6_work 174 = .ok (.invokestatic 32, 3) := by decide +kernel
theorem dX6_work_177 : decode cX6_work 177 = .ok (.iastore, 1) := by decide +kernel
theorem dX6_work_178 : decode cX6_work 178 = .ok (.goto 41, 3) := by decide +kernel
theorem dX6_work_181 : decode cX6_work 181 = .ok (.aload_n 0, 1) := by decide +kernel
theorem dX6_work_182 : decode cX6_work 182 = .ok (.getfield 9, 3) := by decide +kernel
theorem dX6_work_185 : decode cX6_work 185 = .ok (.iload 9, 2) := by decide +kernel
theorem dX6_work_187 : decode cX6_work 187 = .ok (.aload_n 0, 1) := by decide +kernel
theorem dX6_work_188 : decode cX6_work 188 = .ok (.getfield 9, 3) := by decide +kernel
theorem dX6_work_191 : decode cX6_work 191 = .ok (.iload 9, 2) := by decide +kernel
theorem dX6_work_193 : decode cX6_work 193 = .ok (.iaload, 1) := by decide +kernel
theorem dX6_work_194 : decode cX6_work 194 = .ok (.ifCond .eq 15, 3) := by decide +kernel
theorem dX6_work_197 : decode cX6_work 197 = .ok (.aload_n 0, 1) := by decide +kernel
theorem dX6_work_198 : decode cX6_work 198 = .ok (.getfield 9, 3) := by decide +kernel
theorem dX6_work_201 : decode cX6_work 201 = .ok (.iload 9, 2) := by decide +kernel
theorem dX6_work_203 : decode cX6_work 203 = .ok (.iconst 1, 1) := by decide +kernel
theorem dX6_work_204 : decode cX6_work 204 = .ok (.iadd, 1) := by decide +kernel
theorem dX6_work_205 : decode cX6_work 205 = .ok (.iaload, 1) := by decide +kernel
theorem dX6_work_206 : decode cX6_work 206 = .ok (.goto 12, 3) := by decide +kernel
theorem dX6_work_209 : decode cX6_work 209 = .ok (.aload_n 0, 1) := by decide +kernel
theorem dX6_work_210 : decode cX6_work 210 = .ok (.getfield 9, 3) := by decide +kernel
theorem dX6_work_213 : decode cX6_work 213 = .ok (.iload 9, 2) := by decide +kernel
theorem dX6_work_215 : decode cX6_work 215 = .ok (.iconst 2, 1) := by decide +kernel
theorem dX6_work_216 : decode cX6_work 216 = .ok (.iadd, 1) := by decide +kernel
theorem dX6_work_217 : decode cX6_work 217 = .ok (.iaload, 1) := by decide +kernel
theorem dX6_work_218 : decode cX6_work 218 = .ok (.iastore, 1) := by decide +kernel
theorem dX6_work_219 : decode cX6_work 219 = .ok (.iload 9, 2) := by decide +kernel
theorem dX6_work_221 : decode cX6_work 221 = .ok (.iconst 1, 1) := by decide +kernel
theorem dX6_work_222 : decode cX6_work 222 = .ok (.iadd, 1) := by decide +kernel
theorem dX6_work_223 : decode cX6_work 223 = .ok (.istore 5, 2) := by decide +kernel
theorem dX6_work_225 : decode cX6_work 225 = .ok (.iinc 6 1, 3) := by decide +kernel
theorem dX6_work_228 : decode cX6_work 228 = .ok (.goto (-211), 3) := by decide +kernel
theorem dX6_work_231 : decode cX6_work 231 = .ok (.iload 5, 2) := by decide +kernel
theorem dX6_work_233 : decode cX6_work 233 = .ok (.ifCond .le 12, 3) := by decide +kernel
theorem dX6_work_236 : decode cX6_work 236 = .ok (.aload_n 0, 1) := by decide +kernel
theorem dX6_work_237 : decode cX6_work 237 = .ok (.getfield 9, 3) := by decide +kernel
theorem dX6_work_240 : decode cX6_work 240 = .ok (.iconst 0, 1) := by decide +kernel
theorem dX6_work_241 : decode cX6_work 241 = .ok (.iaload, 1) := by decide +kernel
theorem dX6_work_242 : decode cX6_work 242 = .ok (.goto 5, 3) := by decide +kernel
theorem dX6_work_245 : decode cX6_work 245 = .ok (.ldc 27, 2) := by decide +kernel
theorem dX6_work_247 : decode cX6_work 247 = .ok (.ireturn, 1) := by decide +kernel
theorem dX6_needs_0 : decode cX6_needs 0 = .ok (.iload_n 0, 1) := by decide +kernel
theorem dX6_needs_1 : decode cX6_needs 1 = .ok (.tableswitch 57 258 266 #[51, 51, 57, 55, 57, 57, 57, 57, 53], 51) := by decide +kernel
theorem dX6_needs_52 : decode cX6_needs 52 = .ok (.iconst 0, 1) := by decide +kernel
theorem dX6_needs_53 : decode cX6_needs 53 = .ok (.ireturn, 1) := by decide +kernel
theorem dX6_needs_54 : decode cX6_needs 54 = .ok (.iconst 1, 1) := by decide +kernel
theorem dX6_needs_55 : decode cX6_needs 55 = .ok (.ireturn, 1) := by decide +kernel
theorem dX6_needs_56 : decode cX6_needs 56 = .ok (.iconst 3, 1) := by decide +kernel
theorem dX6_needs_57 : decode cX6_needs 57 = .ok (.ireturn, 1) := by decide +kernel
theorem dX6_needs_58 : decode cX6_needs 58 = .ok (.iconst 2, 1) := by decide +kernel
theorem dX6_needs_59 : decode cX6_needs 59 = .ok (.ireturn, 1) := by decide +kernel
theorem dX6_valueOf_0 : decode cX6_valueOf 0 = .ok (.iload_n 1, 1) := by decide +kernel
theorem dX6_valueOf_1 : decode cX6_valueOf 1 = .ok (.ifCond .lt 15, 3) := by decide +kernel
theorem dX6_valueOf_4 : decode cX6_valueOf 4 = .ok (.iload_n 1, 1) := by decide +kernel
theorem dX6_valueOf_5 : decode cX6_valueOf 5 = .ok (.aload_n 0, 1) := by decide +kernel
theorem dX6_valueOf_6 : decode cX6_valueOf 6 = .ok (.arraylength, 1) := by decide +kernel
theorem dX6_valueOf_7 : decode cX6_valueOf 7 = .ok (.if_icmp .ge 9, 3) := by decide +kernel
theorem dX6_valueOf_10 : decode cX6_valueOf 10 = .ok (.aload_n 0, 1) := by decide +kernel
theorem dX6_valueOf_11 : decode cX6_valueOf 11 = .ok (.iload_n 1, 1) := by decide +kernel
theorem dX6_valueOf_12 : decode cX6_valueOf 12 = .ok (.iaload, 1) := by decide +kernel
theorem dX6_valueOf_13 : decode cX6_valueOf 13 = .ok (.goto 4, 3) := by decide +kernel
theorem dX6_valueOf_16 : decode cX6_valueOf 16 = .ok (.iconst 0, 1) := by decide +kernel
theorem dX6_valueOf_17 : decode cX6_valueOf 17 = .ok (.ireturn, 1) := by decide +kernel
theorem dX6_join_0 : decode cX6_join 0 = .ok (.iload_n 0, 1) := by decide +kernel
theorem dX6_join_1 : decode cX6_join 1 = .ok (.lookupswitch 133 #[(42, 85), (43, 67), (45, 76), (60, 94), (61, 116), (62, 105), (264, 127)], 67) := by decide +kernel
theorem dX6_join_68 : decode cX6_join 68 = .ok (.iload_n 1, 1) := by decide +kernel
theorem dX6_join_69 : decode cX6_join 69 = .ok (.i2l, 1) := by decide +kernel
theorem dX6_join_70 : decode cX6_join 70 = .ok (.iload_n 2, 1) := by decide +kernel
theorem dX6_join_71 : decode cX6_join 71 = .ok (.i2l, 1) := by decide +kernel
theorem dX6_join_72 : decode cX6_join 72 = .ok (.ladd, 1) := by decide +kernel
theorem dX6_join_73 : decode cX6_join 73 = .ok (.invokestatic 36, 3) := by decide +kernel
theorem dX6_join_76 : decode cX6_join 76 = .ok (.ireturn, 1) := by decide +kernel
theorem dX6_join_77 : decode cX6_join 77 = .ok (.iload_n 1, 1) := by decide +kernel
theorem dX6_join_78 : decode cX6_join 78 = .ok (.i2l, 1) := by decide +kernel
theorem dX6_join_79 : decode cX6_join 79 = .ok (.iload_n 2, 1) := by decide +kernel
theorem dX6_join_80 : decode cX6_join 80 = .ok (.i2l, 1) := by decide +kernel
theorem dX6_join_81 : decode cX6_join 81 = .ok (.lsub, 1) := by decide +kernel
theorem dX6_join_82 : decode cX6_join 82 = .ok (.invokestatic 36, 3) := by decide +kernel
theorem dX6_join_85 : decode cX6_join 85 = .ok (.ireturn, 1) := by decide +kernel
theorem dX6_join_86 : decode cX6_join 86 = .ok (.iload_n 1, 1) := by decide +kernel
theorem dX6_join_87 : decode cX6_join 87 = .ok (.i2l, 1) := by decide +kernel
theorem dX6_join_88 : decode cX6_join 88 = .ok (.iload_n 2, 1) := by decide +kernel
theorem dX6_join_89 : decode cX6_join 89 = .ok (.i2l, 1) := by decide +kernel
theorem dX6_join_90 : decode cX6_join 90 = .ok (.lmul, 1) := by decide +kernel
theorem dX6_join_91 : decode cX6_join 91 = .ok (.invokestatic 36, 3) := by decide +kernel
theorem dX6_join_94 : decode cX6_join 94 = .ok (.ireturn, 1) := by decide +kernel
theorem dX6_join_95 : decode cX6_join 95 = .ok (.iload_n 1, 1) := by decide +kernel
theorem dX6_join_96 : decode cX6_join 96 = .ok (.iload_n 2, 1) := by decide +kernel
theorem dX6_join_97 : decode cX6_join 97 = .ok (.if_icmp .ge 7, 3) := by decide +kernel
theorem dX6_join_100 : decode cX6_join 100 = .ok (.iconst 1, 1) := by decide +kernel
theorem dX6_join_101 : decode cX6_join 101 = .ok (.goto 4, 3) := by decide +kernel
theorem dX6_join_104 : decode cX6_join 104 = .ok (.iconst 0, 1) := by decide +kernel
theorem dX6_join_105 : decode cX6_join 105 = .ok (.ireturn, 1) := by decide +kernel
theorem dX6_join_106 : decode cX6_join 106 = .ok (.iload_n 1, 1) := by decide +kernel
theorem dX6_join_107 : decode cX6_join 107 = .ok (.iload_n 2, 1) := by decide +kernel
theorem dX6_join_108 : decode cX6_join 108 = .ok (.if_icmp .le 7, 3) := by decide +kernel
theorem dX6_join_111 : decode cX6_join 111 = .ok (.iconst 1, 1) := by decide +kernel
theorem dX6_join_112 : decode cX6_join 112 = .ok (.goto 4, 3) := by decide +kernel
theorem dX6_join_115 : decode cX6_join 115 = .ok (.iconst 0, 1) := by decide +kernel
theorem dX6_join_116 : decode cX6_join 116 = .ok (.ireturn, 1) := by decide +kernel
theorem dX6_join_117 : decode cX6_join 117 = .ok (.iload_n 1, 1) := by decide +kernel
theorem dX6_join_118 : decode cX6_join 118 = .ok (.iload_n 2, 1) := by decide +kernel
theorem dX6_join_119 : decode cX6_join 119 = .ok (.if_icmp .ne 7, 3) := by decide +kernel
theorem dX6_join_122 : decode cX6_join 122 = .ok (.iconst 1, 1) := by decide +kernel
theorem dX6_join_123 : decode cX6_join 123 = .ok (.goto 4, 3) := by decide +kernel
theorem dX6_join_126 : decode cX6_join 126 = .ok (.iconst 0, 1) := by decide +kernel
theorem dX6_join_127 : decode cX6_join 127 = .ok (.ireturn, 1) := by decide +kernel
theorem dX6_join_128 : decode cX6_join 128 = .ok (.iload_n 1, 1) := by decide +kernel
theorem dX6_join_129 : decode cX6_join 129 = .ok (.iload_n 2, 1) := by decide +kernel
theorem dX6_join_130 : decode cX6_join 130 = .ok (.invokestatic 40, 3) := by decide +kernel
theorem dX6_join_133 : decode cX6_join 133 = .ok (.ireturn, 1) := by decide +kernel
theorem dX6_join_134 : decode cX6_join 134 = .ok (.iload_n 1, 1) := by decide +kernel
theorem dX6_join_135 : decode cX6_join 135 = .ok (.iload_n 2, 1) := by decide +kernel
theorem dX6_join_136 : decode cX6_join 136 = .ok (.invokestatic 46, 3) := by decide +kernel
theorem dX6_join_139 : decode cX6_join 139 = .ok (.ireturn, 1) := by decide +kernel
theorem dX7_init_0 : decode cX7_init 0 = .ok (.aload_n 0, 1) := by decide +kernel
theorem dX7_init_1 : decode cX7_init 1 = .ok (.invokespecial 3, 3) := by decide +kernel
theorem dX7_init_4 : decode cX7_init 4 = .ok (.aload_n 0, 1) := by decide +kernel
theorem dX7_init_5 : decode cX7_init 5 = .ok (.new 9, 3) := by decide +kernel
theorem dX7_init_8 : decode cX7_init 8 = .ok (.dup, 1) := by decide +kernel
theorem dX7_init_9 : decode cX7_init 9 = .ok (.invokespecial 11, 3) := by decide +kernel
theorem dX7_init_12 : decode cX7_init 12 = .ok (.putfield 12, 3) := by decide +kernel
theorem dX7_init_15 : decode cX7_init 15 = .ok (.aload_n 0, 1) := by decide +kernel
theorem dX7_init_16 : decode cX7_init 16 = .ok (.new 18, 3) := by decide +kernel
theorem dX7_init_19 : decode cX7_init 19 = .ok (.dup, 1) := by decide +kernel
theorem dX7_init_20 : decode cX7_init 20 = .ok (.invokespecial 20, 3) := by decide +kernel
theorem dX7_init_23 : decode cX7_init 23 = .ok (.putfield 21, 3) := by decide +kernel
theorem dX7_init_26 : decode cX7_init 26 = .ok (.aload_n 0, 1) := by decide +kernel
theorem dX7_init_27 : decode cX7_init 27 = .ok (.bipush 20, 2) := by decide +kernel
theorem dX7_init_29 : decode cX7_init 29 = .ok (.anewarray 25, 3) := by decide +kernel
theorem dX7_init_32 : decode cX7_init 32 = .ok (.putfield 27, 3) := by decide +kernel
theorem dX7_init_35 : decode cX7_init 35 = .ok (.aload_n 0, 1) := by decide +kernel
theorem dX7_init_36 : decode cX7_init 36 = .ok (.iconst 4, 1) := by decide +kernel
theorem dX7_init_37 : decode cX7_init 37 = .ok (.anewarray 31, 3) := by decide +kernel
theorem dX7_init_40 : decode cX7_init 40 = .ok (.putfield 33, 3) := by decide +kernel
theorem dX7_init_43 : decode cX7_init 43 = .ok (.aload_n 0, 1) := by decide +kernel
theorem dX7_init_44 : decode cX7_init 44 = .ok (.sipush 200, 3) := by decide +kernel
theorem dX7_init_47 : decode cX7_init 47 = .ok (.anewarray 37, 3) := by decide +kernel
theorem dX7_init_50 : decode cX7_init 50 = .ok (.putfield 39, 3) := by decide +kernel
theorem dX7_init_53 : decode cX7_init 53 = .ok (.aload_n 0, 1) := by decide +kernel
theorem dX7_init_54 : decode cX7_init 54 = .ok (.bipush 6, 2) := by decide +kernel
theorem dX7_init_56 : decode cX7_init 56 = .ok (.newarray .int, 2) := by decide +kernel
theorem dX7_init_58 : decode cX7_init 58 = .ok (.putfield 43, 3) := by decide +kernel
theorem dX7_init_61 : decode cX7_init 61 = .ok (.aload_n 0, 1) := by decide +kernel
theorem dX7_init_62 : decode cX7_init 62 = .ok (.new 47, 3) := by decide +kernel
theorem dX7_init_65 : decode cX7_init 65 = .ok (.dup, 1) := by decide +kernel
