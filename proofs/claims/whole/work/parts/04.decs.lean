theorem dX7_init_66 : decode cX7_init 66 = .ok (.invokespecial 49, 3) := by decide +kernel
theorem dX7_init_69 : decode cX7_init 69 = .ok (.putfield 50, 3) := by decide +kernel
theorem dX7_init_72 : decode cX7_init 72 = .ok (.aload_n 0, 1) := by decide +kernel
theorem dX7_init_73 : decode cX7_init 73 = .ok (.sipush 200, 3) := by decide +kernel
theorem dX7_init_76 : decode cX7_init 76 = .ok (.newarray .int, 2) := by decide +kernel
theorem dX7_init_78 : decode cX7_init 78 = .ok (.putfield 54, 3) := by decide +kernel
theorem dX7_init_81 : decode cX7_init 81 = .ok (.return_, 1) := by decide +kernel
theorem dX7_feed_0 : decode cX7_feed 0 = .ok (.aload_n 0, 1) := by decide +kernel
theorem dX7_feed_1 : decode cX7_feed 1 = .ok (.getfield 12, 3) := by decide +kernel
theorem dX7_feed_4 : decode cX7_feed 4 = .ok (.getfield 57, 3) := by decide +kernel
theorem dX7_feed_7 : decode cX7_feed 7 = .ok (.astore 6, 2) := by decide +kernel
theorem dX7_feed_9 : decode cX7_feed 9 = .ok (.aload 6, 2) := by decide +kernel
theorem dX7_feed_11 : decode cX7_feed 11 = .ok (.getfield 61, 3) := by decide +kernel
theorem dX7_feed_14 : decode cX7_feed 14 = .ok (.bipush 20, 2) := by decide +kernel
theorem dX7_feed_16 : decode cX7_feed 16 = .ok (.iadd, 1) := by decide +kernel
theorem dX7_feed_17 : decode cX7_feed 17 = .ok (.sipush 300, 3) := by decide +kernel
theorem dX7_feed_20 : decode cX7_feed 20 = .ok (.if_icmp .le 5, 3) := by decide +kernel
theorem dX7_feed_23 : decode cX7_feed 23 = .ok (.iconst (-1), 1) := by decide +kernel
theorem dX7_feed_24 : decode cX7_feed 24 = .ok (.ireturn, 1) := by decide +kernel
theorem dX7_feed_25 : decode cX7_feed 25 = .ok (.aload 6, 2) := by decide +kernel
theorem dX7_feed_27 : decode cX7_feed 27 = .ok (.iload_n 1, 1) := by decide +kernel
theorem dX7_feed_28 : decode cX7_feed 28 = .ok (.invokevirtual 67, 3) := by decide +kernel
theorem dX7_feed_31 : decode cX7_feed 31 = .ok (.aload 6, 2) := by decide +kernel
theorem dX7_feed_33 : decode cX7_feed 33 = .ok (.iload_n 2, 1) := by decide +kernel
theorem dX7_feed_34 : decode cX7_feed 34 = .ok (.invokevirtual 67, 3) := by decide +kernel
theorem dX7_feed_37 : decode cX7_feed 37 = .ok (.aload 6, 2) := by decide +kernel
theorem dX7_feed_39 : decode cX7_feed 39 = .ok (.iload_n 3, 1) := by decide +kernel
theorem dX7_feed_40 : decode cX7_feed 40 = .ok (.invokevirtual 67, 3) := by decide +kernel
theorem dX7_feed_43 : decode cX7_feed 43 = .ok (.aload 6, 2) := by decide +kernel
theorem dX7_feed_45 : decode cX7_feed 45 = .ok (.iload 4, 2) := by decide +kernel
theorem dX7_feed_47 : decode cX7_feed 47 = .ok (.invokevirtual 67, 3) := by decide +kernel
theorem dX7_feed_50 : decode cX7_feed 50 = .ok (.aload 6, 2) := by decide +kernel
theorem dX7_feed_52 : decode cX7_feed 52 = .ok (.iload 5, 2) := by decide +kernel
theorem dX7_feed_54 : decode cX7_feed 54 = .ok (.invokevirtual 67, 3) := by decide +kernel
theorem dX7_feed_57 : decode cX7_feed 57 = .ok (.aload 6, 2) := by decide +kernel
theorem dX7_feed_59 : decode cX7_feed 59 = .ok (.getfield 61, 3) := by decide +kernel
theorem dX7_feed_62 : decode cX7_feed 62 = .ok (.ireturn, 1) := by decide +kernel
theorem dX7_model_0 : decode cX7_model 0 = .ok (.aload_n 0, 1) := by decide +kernel
theorem dX7_model_1 : decode cX7_model 1 = .ok (.getfield 12, 3) := by decide +kernel
theorem dX7_model_4 : decode cX7_model 4 = .ok (.getfield 57, 3) := by decide +kernel
theorem dX7_model_7 : decode cX7_model 7 = .ok (.astore_n 2, 1) := by decide +kernel
theorem dX7_model_8 : decode cX7_model 8 = .ok (.iload_n 1, 1) := by decide +kernel
theorem dX7_model_9 : decode cX7_model 9 = .ok (.ifCond .lt 11, 3) := by decide +kernel
theorem dX7_model_12 : decode cX7_model 12 = .ok (.iload_n 1, 1) := by decide +kernel
theorem dX7_model_13 : decode cX7_model 13 = .ok (.aload_n 2, 1) := by decide +kernel
theorem dX7_model_14 : decode cX7_model 14 = .ok (.getfield 61, 3) := by decide +kernel
theorem dX7_model_17 : decode cX7_model 17 = .ok (.if_icmp .le 9, 3) := by decide +kernel
theorem dX7_model_20 : decode cX7_model 20 = .ok (.aload_n 0, 1) := by decide +kernel
theorem dX7_model_21 : decode cX7_model 21 = .ok (.iconst 2, 1) := by decide +kernel
theorem dX7_model_22 : decode cX7_model 22 = .ok (.invokevirtual 71, 3) := by decide +kernel
theorem dX7_model_25 : decode cX7_model 25 = .ok (.ireturn, 1) := by decide +kernel
theorem dX7_model_26 : decode cX7_model 26 = .ok (.aload_n 0, 1) := by decide +kernel
theorem dX7_model_27 : decode cX7_model 27 = .ok (.aload_n 0, 1) := by decide +kernel
theorem dX7_model_28 : decode cX7_model 28 = .ok (.getfield 12, 3) := by decide +kernel
theorem dX7_model_31 : decode cX7_model 31 = .ok (.iload_n 1, 1) := by decide +kernel
theorem dX7_model_32 : decode cX7_model 32 = .ok (.invokevirtual 75, 3) := by decide +kernel
theorem dX7_model_35 : decode cX7_model 35 = .ok (.putfield 78, 3) := by decide +kernel
theorem dX7_model_38 : decode cX7_model 38 = .ok (.aload_n 0, 1) := by decide +kernel
theorem dX7_model_39 : decode cX7_model 39 = .ok (.aload_n 2, 1) := by decide +kernel
theorem dX7_model_40 : decode cX7_model 40 = .ok (.getfield 81, 3) := by decide +kernel
theorem dX7_model_43 : decode cX7_model 43 = .ok (.putfield 84, 3) := by decide +kernel
theorem dX7_model_46 : decode cX7_model 46 = .ok (.aload_n 2, 1) := by decide +kernel
theorem dX7_model_47 : decode cX7_model 47 = .ok (.iconst 0, 1) := by decide +kernel
theorem dX7_model_48 : decode cX7_model 48 = .ok (.putfield 61, 3) := by decide +kernel
theorem dX7_model_51 : decode cX7_model 51 = .ok (.aload_n 0, 1) := by decide +kernel
theorem dX7_model_52 : decode cX7_model 52 = .ok (.getfield 78, 3) := by decide +kernel
theorem dX7_model_55 : decode cX7_model 55 = .ok (.ifCond .eq 9, 3) := by decide +kernel
theorem dX7_model_58 : decode cX7_model 58 = .ok (.aload_n 0, 1) := by decide +kernel
theorem dX7_model_59 : decode cX7_model 59 = .ok (.iconst 4, 1) := by decide +kernel
theorem dX7_model_60 : decode cX7_model 60 = .ok (.invokevirtual 71, 3) := by decide +kernel
theorem dX7_model_63 : decode cX7_model 63 = .ok (.ireturn, 1) := by decide +kernel
theorem dX7_model_64 : decode cX7_model 64 = .ok (.aload_n 0, 1) := by decide +kernel
theorem dX7_model_65 : decode cX7_model 65 = .ok (.getfield 87, 3) := by decide +kernel
theorem dX7_model_68 : decode cX7_model 68 = .ok (.aload_n 0, 1) := by decide +kernel
theorem dX7_model_69 : decode cX7_model 69 = .ok (.getfield 27, 3) := by decide +kernel
theorem dX7_model_72 : decode cX7_model 72 = .ok (.arraylength, 1) := by decide +kernel
theorem dX7_model_73 : decode cX7_model 73 = .ok (.if_icmp .lt 9, 3) := by decide +kernel
theorem dX7_model_76 : decode cX7_model 76 = .ok (.aload_n 0, 1) := by decide +kernel
theorem dX7_model_77 : decode cX7_model 77 = .ok (.iconst 3, 1) := by decide +kernel
theorem dX7_model_78 : decode cX7_model 78 = .ok (.invokevirtual 71, 3) := by decide +kernel
theorem dX7_model_81 : decode cX7_model 81 = .ok (.ireturn, 1) := by decide +kernel
theorem dX7_model_82 : decode cX7_model 82 = .ok (.aload_n 0, 1) := by decide +kernel
theorem dX7_model_83 : decode cX7_model 83 = .ok (.getfield 27, 3) := by decide +kernel
theorem dX7_model_86 : decode cX7_model 86 = .ok (.aload_n 0, 1) := by decide +kernel
theorem dX7_model_87 : decode cX7_model 87 = .ok (.getfield 87, 3) := by decide +kernel
theorem dX7_model_90 : decode cX7_model 90 = .ok (.new 25, 3) := by decide +kernel
theorem dX7_model_93 : decode cX7_model 93 = .ok (.dup, 1) := by decide +kernel
theorem dX7_model_94 : decode cX7_model 94 = .ok (.aload_n 0, 1) := by decide +kernel
theorem dX7_model_95 : decode cX7_model 95 = .ok (.getfield 12, 3) := by decide +kernel
theorem dX7_model_98 : decode cX7_model 98 = .ok (.invokespecial 90, 3) := by decide +kernel
theorem dX7_model_101 : decode cX7_model 101 = .ok (.aastore, 1) := by decide +kernel
theorem dX7_model_102 : decode cX7_model 102 = .ok (.aload_n 0, 1) := by decide +kernel
theorem dX7_model_103 : decode cX7_model 103 = .ok (.dup, 1) := by decide +kernel
theorem dX7_model_104 : decode cX7_model 104 = .ok (.getfield 87, 3) := by decide +kernel
theorem dX7_model_107 : decode cX7_model 107 = .ok (.iconst 1, 1) := by decide +kernel
theorem dX7_model_108 : decode cX7_model 108 = .ok (.iadd, 1) := by decide +kernel
theorem dX7_model_109 : decode cX7_model 109 = .ok (.putfield 87, 3) := by decide +kernel
theorem dX7_model_112 : decode cX7_model 112 = .ok (.aload_n 0, 1) := by decide +kernel
theorem dX7_model_113 : decode cX7_model 113 = .ok (.aload_n 0, 1) := by decide +kernel
theorem dX7_model_114 : decode cX7_model 114 = .ok (.getfield 87, 3) := by decide +kernel
theorem dX7_model_117 : decode cX7_model 117 = .ok (.iconst 1, 1) := by decide +kernel
theorem dX7_model_118 : decode cX7_model 118 = .ok (.isub, 1) := by decide +kernel
theorem dX7_model_119 : decode cX7_model 119 = .ok (.invokevirtual 93, 3) := by decide +kernel
theorem dX7_model_122 : decode cX7_model 122 = .ok (.ireturn, 1) := by decide +kernel
theorem dX7_fault_0 : decode cX7_fault 0 = .ok (.aload_n 0, 1) := by decide +kernel
theorem dX7_fault_1 : decode cX7_fault 1 = .ok (.getfield 78, 3) := by decide +kernel
theorem dX7_fault_4 : decode cX7_fault 4 = .ok (.ireturn, 1) := by decide +kernel
theorem dX7_where_0 : decode cX7_where 0 = .ok (.aload_n 0, 1) := by decide +kernel
theorem dX7_where_1 : decode cX7_where 1 = .ok (.getfield 96, 3) := by decide +kernel
theorem dX7_where_4 : decode cX7_where 4 = .ok (.iconst 4, 1) := by decide +kernel
theorem dX7_where_5 : decode cX7_where 5 = .ok (.if_icmp .ne 10, 3) := by decide +kernel
theorem dX7_where_8 : decode cX7_where 8 = .ok (.aload_n 0, 1) := by decide +kernel
theorem dX7_where_9 : decode cX7_where 9 = .ok (.getfield 84, 3) := by decide +kernel
theorem dX7_where_12 : decode cX7_where 12 = .ok (.goto 4, 3) := by decide +kernel
theorem dX7_where_15 : decode cX7_where 15 = .ok (.iconst (-1), 1) := by decide +kernel
theorem dX7_where_16 : decode cX7_where 16 = .ok (.ireturn, 1) := by decide +kernel
theorem dX7_parts_0 : decode cX7_parts 0 = .ok (.aload_n 0, 1) := by decide +kernel
theorem dX7_parts_1 : decode cX7_parts 1 = .ok (.iload_n 1, 1) := by decide +kernel
theorem dX7_parts_2 : decode cX7_parts 2 = .ok (.invokevirtual 99, 3) := by decide +kernel
theorem dX7_parts_5 : decode cX7_parts 5 = .ok (.astore_n 2, 1) := by decide +kernel
theorem dX7_parts_6 : decode cX7_parts 6 = .ok (.aload_n 2, 1) := by decide +kernel
theorem dX7_parts_7 : decode cX7_parts 7 = .ok (.ifnonnull 7, 3) := by decide +kernel
theorem dX7_parts_10 : decode cX7_parts 10 = .ok (.iconst (-1), 1) := by decide +kernel
theorem dX7_parts_11 : decode cX7_parts 11 = .ok (.goto 8, 3) := by decide +kernel
theorem dX7_parts_14 : decode cX7_parts 14 = .ok (.aload_n 2, 1) := by decide +kernel
theorem dX7_parts_15 : decode cX7_parts 15 = .ok (.getfield 103, 3) := by decide +kernel
theorem dX7_parts_18 : decode cX7_parts 18 = .ok (.arraylength, 1) := by decide +kernel
theorem dX7_parts_19 : decode cX7_parts 19 = .ok (.ireturn, 1) := by decide +kernel
theorem dX7_asks_0 : decode cX7_asks 0 = .ok (.aload_n 0, 1) := by decide +kernel
theorem dX7_asks_1 : decode cX7_asks 1 = .ok (.iload_n 1, 1) := by decide +kernel
theorem dX7_asks_2 : decode cX7_asks 2 = .ok (.invokevirtual 99, 3) := by decide +kernel
theorem dX7_asks_5 : decode cX7_asks 5 = .ok (.astore_n 2, 1) := by decide +kernel
theorem dX7_asks_6 : decode cX7_asks 6 = .ok (.aload_n 2, 1) := by decide +kernel
theorem dX7_asks_7 : decode cX7_asks 7 = .ok (.ifnonnull 7, 3) := by decide +kernel
theorem dX7_asks_10 : decode cX7_asks 10 = .ok (.iconst (-1), 1) := by decide +kernel
theorem dX7_asks_11 : decode cX7_asks 11 = .ok (.goto 7, 3) := by decide +kernel
theorem dX7_asks_14 : decode cX7_asks 14 = .ok (.aload_n 2, 1) := by decide +kernel
theorem dX7_asks_15 : decode cX7_asks 15 = .ok (.getfield 106, 3) := by decide +kernel
theorem dX7_asks_18 : decode cX7_asks 18 = .ok (.ireturn, 1) := by decide +kernel
theorem dX7_input_0 : decode cX7_input 0 = .ok (.iload_n 1, 1) := by decide +kernel
theorem dX7_input_1 : decode cX7_input 1 = .ok (.ifCond .lt 26, 3) := by decide +kernel
theorem dX7_input_4 : decode cX7_input 4 = .ok (.iload_n 1, 1) := by decide +kernel
theorem dX7_input_5 : decode cX7_input 5 = .ok (.aload_n 0, 1) := by decide +kernel
theorem dX7_input_6 : decode cX7_input 6 = .ok (.getfield 43, 3) := by decide +kernel
theorem dX7_input_9 : decode cX7_input 9 = .ok (.arraylength, 1) := by decide +kernel
theorem dX7_input_10 : decode cX7_input 10 = .ok (.if_icmp .ge 17, 3) := by decide +kernel
theorem dX7_input_13 : decode cX7_input 13 = .ok (.iload_n 2, 1) := by decide +kernel
theorem dX7_input_14 : decode cX7_input 14 = .ok (.sipush (-1000), 3) := by decide +kernel
theorem dX7_input_17 : decode cX7_input 17 = .ok (.if_icmp .lt 10, 3) := by decide +kernel
theorem dX7_input_20 : decode cX7_input 20 = .ok (.iload_n 2, 1) := by decide +kernel
theorem dX7_input_21 : decode cX7_input 21 = .ok (.sipush 1000, 3) := by decide +kernel
theorem dX7_input_24 : decode cX7_input 24 = .ok (.if_icmp .le 9, 3) := by decide +kernel
theorem dX7_input_27 : decode cX7_input 27 = .ok (.aload_n 0, 1) := by decide +kernel
theorem dX7_input_28 : decode cX7_input 28 = .ok (.iconst 2, 1) := by decide +kernel
theorem dX7_input_29 : decode cX7_input 29 = .ok (.invokevirtual 109, 3) := by decide +kernel
theorem dX7_input_32 : decode cX7_input 32 = .ok (.ireturn, 1) := by decide +kernel
theorem dX7_input_33 : decode cX7_input 33 = .ok (.aload_n 0, 1) := by decide +kernel
theorem dX7_input_34 : decode cX7_input 34 = .ok (.getfield 43, 3) := by decide +kernel
theorem dX7_input_37 : decode cX7_input 37 = .ok (.iload_n 1, 1) := by decide +kernel
theorem dX7_input_38 : decode cX7_input 38 = .ok (.iload_n 2, 1) := by decide +kernel
theorem dX7_input_39 : decode cX7_input 39 = .ok (.iastore, 1) := by decide +kernel
theorem dX7_input_40 : decode cX7_input 40 = .ok (.aload_n 0, 1) := by decide +kernel
theorem dX7_input_41 : decode cX7_input 41 = .ok (.invokevirtual 113, 3) := by decide +kernel
theorem dX7_input_44 : decode cX7_input 44 = .ok (.ireturn, 1) := by decide +kernel
theorem dX7_tell_0 : decode cX7_tell 0 = .ok (.aload_n 0, 1) := by decide +kernel
theorem dX7_tell_1 : decode cX7_tell 1 = .ok (.iload_n 1, 1) := by decide +kernel
theorem dX7_tell_2 : decode cX7_tell 2 = .ok (.invokevirtual 99, 3) := by decide +kernel
theorem dX7_tell_5 : decode cX7_tell 5 = .ok (.astore_n 2, 1) := by decide +kernel
theorem dX7_tell_6 : decode cX7_tell 6 = .ok (.aload_n 2, 1) := by decide +kernel
theorem dX7_tell_7 : decode cX7_tell 7 = .ok (.ifnonnull 11, 3) := by decide +kernel
theorem dX7_tell_10 : decode cX7_tell 10 = .ok (.aload_n 0, 1) := by decide +kernel
theorem dX7_tell_11 : decode cX7_tell 11 = .ok (.iconst 1, 1) := by decide +kernel
theorem dX7_tell_12 : decode cX7_tell 12 = .ok (.putfield 96, 3) := by decide +kernel
theorem dX7_tell_15 : decode cX7_tell 15 = .ok (.ldc 117, 2) := by decide +kernel
theorem dX7_tell_17 : decode cX7_tell 17 = .ok (.ireturn, 1) := by decide +kernel
theorem dX7_tell_18 : decode cX7_tell 18 = .ok (.aload_n 0, 1) := by decide +kernel
theorem dX7_tell_19 : decode cX7_tell 19 = .ok (.aload_n 0, 1) := by decide +kernel
theorem dX7_tell_20 : decode cX7_tell 20 = .ok (.getfield 21, 3) := by decide +kernel
theorem dX7_tell_23 : decode cX7_tell 23 = .ok (.aload_n 2, 1) := by decide +kernel
theorem dX7_tell_24 : decode cX7_tell 24 = .ok (.aload_n 0, 1) := by decide +kernel
theorem dX7_tell_25 : decode cX7_tell 25 = .ok (.getfield 43, 3) := by decide +kernel
theorem dX7_tell_28 : decode cX7_tell 28 = .ok (.invokevirtual 118, 3) := by decide +kernel
theorem dX7_tell_31 : decode cX7_tell 31 = .ok (.invokevirtual 93, 3) := by decide +kernel
theorem dX7_tell_34 : decode cX7_tell 34 = .ok (.ireturn, 1) := by decide +kernel
theorem dX7_door_0 : decode cX7_door 0 = .ok (.aload_n 0, 1) := by decide +kernel
theorem dX7_door_1 : decode cX7_door 1 = .ok (.getfield 122, 3) := by decide +kernel
theorem dX7_door_4 : decode cX7_door 4 = .ok (.aload_n 0, 1) := by decide +kernel
theorem dX7_door_5 : decode cX7_door 5 = .ok (.getfield 33, 3) := by decide +kernel
theorem dX7_door_8 : decode cX7_door 8 = .ok (.arraylength, 1) := by decide +kernel
theorem dX7_door_9 : decode cX7_door 9 = .ok (.if_icmp .lt 9, 3) := by decide +kernel
theorem dX7_door_12 : decode cX7_door 12 = .ok (.aload_n 0, 1) := by decide +kernel
theorem dX7_door_13 : decode cX7_door 13 = .ok (.iconst 3, 1) := by decide +kernel
theorem dX7_door_14 : decode cX7_door 14 = .ok (.invokevirtual 71, 3) := by decide +kernel
theorem dX7_door_17 : decode cX7_door 17 = .ok (.ireturn, 1) := by decide +kernel
theorem dX7_door_18 : decode cX7_door 18 = .ok (.aload_n 0, 1) := by decide +kernel
theorem dX7_door_19 : decode cX7_door 19 = .ok (.getfield 33, 3) := by decide +kernel
theorem dX7_door_22 : decode cX7_door 22 = .ok (.aload_n 0, 1) := by decide +kernel
theorem dX7_door_23 : decode cX7_door 23 = .ok (.getfield 122, 3) := by decide +kernel
theorem dX7_door_26 : decode cX7_door 26 = .ok (.new 31, 3) := by decide +kernel
theorem dX7_door_29 : decode cX7_door 29 = .ok (.dup, 1) := by decide +kernel
theorem dX7_door_30 : decode cX7_door 30 = .ok (.invokespecial 125, 3) := by decide +kernel
theorem dX7_door_33 : decode cX7_door 33 = .ok (.aastore, 1) := by decide +kernel
theorem dX7_door_34 : decode cX7_door 34 = .ok (.aload_n 0, 1) := by decide +kernel
theorem dX7_door_35 : decode cX7_door 35 = .ok (.dup, 1) := by decide +kernel
theorem dX7_door_36 : decode cX7_door 36 = .ok (.getfield 122, 3) := by decide +kernel
theorem dX7_door_39 : decode cX7_door 39 = .ok (.iconst 1, 1) := by decide +kernel
theorem dX7_door_40 : decode cX7_door 40 = .ok (.iadd, 1) := by decide +kernel
theorem dX7_door_41 : decode cX7_door 41 = .ok (.putfield 122, 3) := by decide +kernel
theorem dX7_door_44 : decode cX7_door 44 = .ok (.aload_n 0, 1) := by decide +kernel
theorem dX7_door_45 : decode cX7_door 45 = .ok (.aload_n 0, 1) := by decide +kernel
theorem dX7_door_46 : decode cX7_door 46 = .ok (.getfield 122, 3) := by decide +kernel
theorem dX7_door_49 : decode cX7_door 49 = .ok (.iconst 1, 1) := by decide +kernel
theorem dX7_door_50 : decode cX7_door 50 = .ok (.isub, 1) := by decide +kernel
theorem dX7_door_51 : decode cX7_door 51 = .ok (.invokevirtual 93, 3) := by decide +kernel
theorem dX7_door_54 : decode cX7_door 54 = .ok (.ireturn, 1) := by decide +kernel
theorem dX7_guard_0 : decode cX7_guard 0 = .ok (.aload_n 0, 1) := by decide +kernel
theorem dX7_guard_1 : decode cX7_guard 1 = .ok (.iload_n 1, 1) := by decide +kernel
theorem dX7_guard_2 : decode cX7_guard 2 = .ok (.invokevirtual 126, 3) := by decide +kernel
theorem dX7_guard_5 : decode cX7_guard 5 = .ok (.astore 5, 2) := by decide +kernel
theorem dX7_guard_7 : decode cX7_guard 7 = .ok (.aload 5, 2) := by decide +kernel
theorem dX7_guard_9 : decode cX7_guard 9 = .ok (.ifnull 13, 3) := by decide +kernel
theorem dX7_guard_12 : decode cX7_guard 12 = .ok (.iload_n 2, 1) := by decide +kernel
theorem dX7_guard_13 : decode cX7_guard 13 = .ok (.ifCond .lt 9, 3) := by decide +kernel
theorem dX7_guard_16 : decode cX7_guard 16 = .ok (.iload_n 2, 1) := by decide +kernel
theorem dX7_guard_17 : decode cX7_guard 17 = .ok (.bipush 6, 2) := by decide +kernel
theorem dX7_guard_19 : decode cX7_guard 19 = .ok (.if_icmp .lt 9, 3) := by decide +kernel
theorem dX7_guard_22 : decode cX7_guard 22 = .ok (.aload_n 0, 1) := by decide +kernel
theorem dX7_guard_23 : decode cX7_guard 23 = .ok (.iconst 1, 1) := by decide +kernel
theorem dX7_guard_24 : decode cX7_guard 24 = .ok (.invokevirtual 109, 3) := by decide +kernel
theorem dX7_guard_27 : decode cX7_guard 27 = .ok (.ireturn, 1) := by decide +kernel
theorem dX7_guard_28 : decode cX7_guard 28 = .ok (.iload_n 3, 1) := by decide +kernel
theorem dX7_guard_29 : decode cX7_guard 29 = .ok (.sipush (-1000), 3) := by decide +kernel
theorem dX7_guard_32 : decode cX7_guard 32 = .ok (.if_icmp .lt 17, 3) := by decide +kernel
theorem dX7_guard_35 : decode cX7_guard 35 = .ok (.iload 4, 2) := by decide +kernel
theorem dX7_guard_37 : decode cX7_guard 37 = .ok (.sipush 1000, 3) := by decide +kernel
theorem dX7_guard_40 : decode cX7_guard 40 = .ok (.if_icmp .gt 9, 3) := by decide +kernel
theorem dX7_guard_43 : decode cX7_guard 43 = .ok (.iload_n 3, 1) := by decide +kernel
theorem dX7_guard_44 : decode cX7_guard 44 = .ok (.iload 4, 2) := by decide +kernel
theorem dX7_guard_46 : decode cX7_guard 46 = .ok (.if_icmp .le 9, 3) := by decide +kernel
theorem dX7_guard_49 : decode cX7_guard 49 = .ok (.aload_n 0, 1) := by decide +kernel
theorem dX7_guard_50 : decode cX7_guard 50 = .ok (.iconst 2, 1) := by decide +kernel
theorem dX7_guard_51 : decode cX7_guard 51 = .ok (.invokevirtual 109, 3) := by decide +kernel
theorem dX7_guard_54 : decode cX7_guard 54 = .ok (.ireturn, 1) := by decide +kernel
theorem dX7_guard_55 : decode cX7_guard 55 = .ok (.aload 5, 2) := by decide +kernel
theorem dX7_guard_57 : decode cX7_guard 57 = .ok (.getfield 130, 3) := by decide +kernel
theorem dX7_guard_60 : decode cX7_guard 60 = .ok (.iload_n 2, 1) := by decide +kernel
theorem dX7_guard_61 : decode cX7_guard 61 = .ok (.iload_n 3, 1) := by decide +kernel
theorem dX7_guard_62 : decode cX7_guard 62 = .ok (.iastore, 1) := by decide +kernel
theorem dX7_guard_63 : decode cX7_guard 63 = .ok (.aload 5, 2) := by decide +kernel
theorem dX7_guard_65 : decode cX7_guard 65 = .ok (.getfield 133, 3) := by decide +kernel
theorem dX7_guard_68 : decode cX7_guard 68 = .ok (.iload_n 2, 1) := by decide +kernel
theorem dX7_guard_69 : decode cX7_guard 69 = .ok (.iload 4, 2) := by decide +kernel
theorem dX7_guard_71 : decode cX7_guard 71 = .ok (.iastore, 1) := by decide +kernel
theorem dX7_guard_72 : decode cX7_guard 72 = .ok (.aload_n 0, 1) := by decide +kernel
theorem dX7_guard_73 : decode cX7_guard 73 = .ok (.invokevirtual 113, 3) := by decide +kernel
theorem dX7_guard_76 : decode cX7_guard 76 = .ok (.ireturn, 1) := by decide +kernel
theorem dX7_crown_0 : decode cX7_crown 0 = .ok (.aload_n 0, 1) := by decide +kernel
theorem dX7_crown_1 : decode cX7_crown 1 = .ok (.iload_n 1, 1) := by decide +kernel
theorem dX7_crown_2 : decode cX7_crown 2 = .ok (.invokevirtual 126, 3) := by decide +kernel
theorem dX7_crown_5 : decode cX7_crown 5 = .ok (.astore_n 3, 1) := by decide +kernel
theorem dX7_crown_6 : decode cX7_crown 6 = .ok (.aload_n 3, 1) := by decide +kernel
theorem dX7_crown_7 : decode cX7_crown 7 = .ok (.ifnull 11, 3) := by decide +kernel
theorem dX7_crown_10 : decode cX7_crown 10 = .ok (.aload_n 0, 1) := by decide +kernel
theorem dX7_crown_11 : decode cX7_crown 11 = .ok (.iload_n 2, 1) := by decide +kernel
theorem dX7_crown_12 : decode cX7_crown 12 = .ok (.invokevirtual 99, 3) := by decide +kernel
theorem dX7_crown_15 : decode cX7_crown 15 = .ok (.ifnonnull 9, 3) := by decide +kernel
theorem dX7_crown_18 : decode cX7_crown 18 = .ok (.aload_n 0, 1) := by decide +kernel
theorem dX7_crown_19 : decode cX7_crown 19 = .ok (.iconst 1, 1) := by decide +kernel
theorem dX7_crown_20 : decode cX7_crown 20 = .ok (.invokevirtual 109, 3) := by decide +kernel
theorem dX7_crown_23 : decode cX7_crown 23 = .ok (.ireturn, 1) := by decide +kernel
theorem dX7_crown_24 : decode cX7_crown 24 = .ok (.aload_n 3, 1) := by decide +kernel
theorem dX7_crown_25 : decode cX7_crown 25 = .ok (.getfield 136, 3) := by decide +kernel
theorem dX7_crown_28 : decode cX7_crown 28 = .ok (.iload_n 2, 1) := by decide +kernel
theorem dX7_crown_29 : decode cX7_crown 29 = .ok (.if_icmp .ne 9, 3) := by decide +kernel
theorem dX7_crown_32 : decode cX7_crown 32 = .ok (.aload_n 0, 1) := by decide +kernel
theorem dX7_crown_33 : decode cX7_crown 33 = .ok (.iconst 5, 1) := by decide +kernel
theorem dX7_crown_34 : decode cX7_crown 34 = .ok (.invokevirtual 109, 3) := by decide +kernel
theorem dX7_crown_37 : decode cX7_crown 37 = .ok (.ireturn, 1) := by decide +kernel
theorem dX7_crown_38 : decode cX7_crown 38 = .ok (.aload_n 3, 1) := by decide +kernel
theorem dX7_crown_39 : decode cX7_crown 39 = .ok (.invokevirtual 139, 3) := by decide +kernel
theorem dX7_crown_42 : decode cX7_crown 42 = .ok (.aload_n 3, 1) := by decide +kernel
theorem dX7_crown_43 : decode cX7_crown 43 = .ok (.iload_n 2, 1) := by decide +kernel
theorem dX7_crown_44 : decode cX7_crown 44 = .ok (.aload_n 0, 1) := by decide +kernel
theorem dX7_crown_45 : decode cX7_crown 45 = .ok (.getfield 142, 3) := by decide +kernel
theorem dX7_crown_48 : decode cX7_crown 48 = .ok (.invokevirtual 145, 3) := by decide +kernel
theorem dX7_crown_51 : decode cX7_crown 51 = .ok (.aload_n 3, 1) := by decide +kernel
theorem dX7_crown_52 : decode cX7_crown 52 = .ok (.getfield 149, 3) := by decide +kernel
theorem dX7_crown_55 : decode cX7_crown 55 = .ok (.iload_n 2, 1) := by decide +kernel
theorem dX7_crown_56 : decode cX7_crown 56 = .ok (.if_icmp .ne 7, 3) := by decide +kernel
theorem dX7_crown_59 : decode cX7_crown 59 = .ok (.aload_n 3, 1) := by decide +kernel
theorem dX7_crown_60 : decode cX7_crown 60 = .ok (.invokevirtual 152, 3) := by decide +kernel
theorem dX7_crown_63 : decode cX7_crown 63 = .ok (.aload_n 0, 1) := by decide +kernel
theorem dX7_crown_64 : decode cX7_crown 64 = .ok (.invokevirtual 113, 3) := by decide +kernel
theorem dX7_crown_67 : decode cX7_crown 67 = .ok (.ireturn, 1) := by decide +kernel
theorem dX7_rival_0 : decode cX7_rival 0 = .ok (.aload_n 0, 1) := by decide +kernel
theorem dX7_rival_1 : decode cX7_rival 1 = .ok (.iload_n 1, 1) := by decide +kernel
theorem dX7_rival_2 : decode cX7_rival 2 = .ok (.invokevirtual 126, 3) := by decide +kernel
theorem dX7_rival_5 : decode cX7_rival 5 = .ok (.astore 4, 2) := by decide +kernel
theorem dX7_rival_7 : decode cX7_rival 7 = .ok (.aload 4, 2) := by decide +kernel
theorem dX7_rival_9 : decode cX7_rival 9 = .ok (.ifnull 11, 3) := by decide +kernel
theorem dX7_rival_12 : decode cX7_rival 12 = .ok (.aload_n 0, 1) := by decide +kernel
theorem dX7_rival_13 : decode cX7_rival 13 = .ok (.iload_n 2, 1) := by decide +kernel
theorem dX7_rival_14 : decode cX7_rival 14 = .ok (.invokevirtual 99, 3) := by decide +kernel
theorem dX7_rival_17 : decode cX7_rival 17 = .ok (.ifnonnull 9, 3) := by decide +kernel
theorem dX7_rival_20 : decode cX7_rival 20 = .ok (.aload_n 0, 1) := by decide +kernel
theorem dX7_rival_21 : decode cX7_rival 21 = .ok (.iconst 1, 1) := by decide +kernel
theorem dX7_rival_22 : decode cX7_rival 22 = .ok (.invokevirtual 109, 3) := by decide +kernel
theorem dX7_rival_25 : decode cX7_rival 25 = .ok (.ireturn, 1) := by decide +kernel
theorem dX7_rival_26 : decode cX7_rival 26 = .ok (.iload_n 3, 1) := by decide +kernel
theorem dX7_rival_27 : decode cX7_rival 27 = .ok (.ifCond .lt 9, 3) := by decide +kernel
theorem dX7_rival_30 : decode cX7_rival 30 = .ok (.iload_n 3, 1) := by decide +kernel
theorem dX7_rival_31 : decode cX7_rival 31 = .ok (.bipush 100, 2) := by decide +kernel
theorem dX7_rival_33 : decode cX7_rival 33 = .ok (.if_icmp .le 9, 3) := by decide +kernel
theorem dX7_rival_36 : decode cX7_rival 36 = .ok (.aload_n 0, 1) := by decide +kernel
theorem dX7_rival_37 : decode cX7_rival 37 = .ok (.iconst 2, 1) := by decide +kernel
theorem dX7_rival_38 : decode cX7_rival 38 = .ok (.invokevirtual 109, 3) := by decide +kernel
theorem dX7_rival_41 : decode cX7_rival 41 = .ok (.ireturn, 1) := by decide +kernel
theorem dX7_rival_42 : decode cX7_rival 42 = .ok (.aload 4, 2) := by decide +kernel
theorem dX7_rival_44 : decode cX7_rival 44 = .ok (.getfield 136, 3) := by decide +kernel
theorem dX7_rival_47 : decode cX7_rival 47 = .ok (.bipush (-2), 2) := by decide +kernel
theorem dX7_rival_49 : decode cX7_rival 49 = .ok (.if_icmp .eq 12, 3) := by decide +kernel
theorem dX7_rival_52 : decode cX7_rival 52 = .ok (.aload 4, 2) := by decide +kernel
theorem dX7_rival_54 : decode cX7_rival 54 = .ok (.getfield 136, 3) := by decide +kernel
theorem dX7_rival_57 : decode cX7_rival 57 = .ok (.iload_n 2, 1) := by decide +kernel
theorem dX7_rival_58 : decode cX7_rival 58 = .ok (.if_icmp .ne 9, 3) := by decide +kernel
theorem dX7_rival_61 : decode cX7_rival 61 = .ok (.aload_n 0, 1) := by decide +kernel
theorem dX7_rival_62 : decode cX7_rival 62 = .ok (.iconst 5, 1) := by decide +kernel
theorem dX7_rival_63 : decode cX7_rival 63 = .ok (.invokevirtual 109, 3) := by decide +kernel
theorem dX7_rival_66 : decode cX7_rival 66 = .ok (.ireturn, 1) := by decide +kernel
theorem dX7_rival_67 : decode cX7_rival 67 = .ok (.aload 4, 2) := by decide +kernel
theorem dX7_rival_69 : decode cX7_rival 69 = .ok (.iload_n 2, 1) := by decide +kernel
theorem dX7_rival_70 : decode cX7_rival 70 = .ok (.putfield 149, 3) := by decide +kernel
theorem dX7_rival_73 : decode cX7_rival 73 = .ok (.aload 4, 2) := by decide +kernel
theorem dX7_rival_75 : decode cX7_rival 75 = .ok (.iload_n 3, 1) := by decide +kernel
theorem dX7_rival_76 : decode cX7_rival 76 = .ok (.putfield 155, 3) := by decide +kernel
theorem dX7_rival_79 : decode cX7_rival 79 = .ok (.aload_n 0, 1) := by decide +kernel
theorem dX7_rival_80 : decode cX7_rival 80 = .ok (.invokevirtual 113, 3) := by decide +kernel
theorem dX7_rival_83 : decode cX7_rival 83 = .ok (.ireturn, 1) := by decide +kernel
theorem dX7_leave_0 : decode cX7_leave 0 = .ok (.aload_n 0, 1) := by decide +kernel
theorem dX7_leave_1 : decode cX7_leave 1 = .ok (.iload_n 1, 1) := by decide +kernel
theorem dX7_leave_2 : decode cX7_leave 2 = .ok (.invokevirtual 126, 3) := by decide +kernel
theorem dX7_leave_5 : decode cX7_leave 5 = .ok (.astore_n 2, 1) := by decide +kernel
theorem dX7_leave_6 : decode cX7_leave 6 = .ok (.aload_n 2, 1) := by decide +kernel
theorem dX7_leave_7 : decode cX7_leave 7 = .ok (.ifnonnull 9, 3) := by decide +kernel
theorem dX7_leave_10 : decode cX7_leave 10 = .ok (.aload_n 0, 1) := by decide +kernel
theorem dX7_leave_11 : decode cX7_leave 11 = .ok (.iconst 1, 1) := by decide +kernel
theorem dX7_leave_12 : decode cX7_leave 12 = .ok (.invokevirtual 109, 3) := by decide +kernel
theorem dX7_leave_15 : decode cX7_leave 15 = .ok (.ireturn, 1) := by decide +kernel
theorem dX7_leave_16 : decode cX7_leave 16 = .ok (.aload_n 2, 1) := by decide +kernel
theorem dX7_leave_17 : decode cX7_leave 17 = .ok (.getfield 149, 3) := by decide +kernel
theorem dX7_leave_20 : decode cX7_leave 20 = .ok (.bipush (-2), 2) := by decide +kernel
theorem dX7_leave_22 : decode cX7_leave 22 = .ok (.if_icmp .ne 9, 3) := by decide +kernel
theorem dX7_leave_25 : decode cX7_leave 25 = .ok (.aload_n 0, 1) := by decide +kernel
theorem dX7_leave_26 : decode cX7_leave 26 = .ok (.iconst 5, 1) := by decide +kernel
theorem dX7_leave_27 : decode cX7_leave 27 = .ok (.invokevirtual 109, 3) := by decide +kernel
theorem dX7_leave_30 : decode cX7_leave 30 = .ok (.ireturn, 1) := by decide +kernel
theorem dX7_leave_31 : decode cX7_leave 31 = .ok (.aload_n 2, 1) := by decide +kernel
theorem dX7_leave_32 : decode cX7_leave 32 = .ok (.invokevirtual 152, 3) := by decide +kernel
theorem dX7_leave_35 : decode cX7_leave 35 = .ok (.aload_n 0, 1) := by decide +kernel
theorem dX7_leave_36 : decode cX7_leave 36 = .ok (.invokevirtual 113, 3) := by decide +kernel
theorem dX7_leave_39 : decode cX7_leave 39 = .ok (.ireturn, 1) := by decide +kernel
theorem dX7_back_0 : decode cX7_back 0 = .ok (.aload_n 0, 1) := by decide +kernel
theorem dX7_back_1 : decode cX7_back 1 = .ok (.iload_n 1, 1) := by decide +kernel
theorem dX7_back_2 : decode cX7_back 2 = .ok (.invokevirtual 126, 3) := by decide +kernel
theorem dX7_back_5 : decode cX7_back 5 = .ok (.astore_n 2, 1) := by decide +kernel
theorem dX7_back_6 : decode cX7_back 6 = .ok (.aload_n 2, 1) := by decide +kernel
theorem dX7_back_7 : decode cX7_back 7 = .ok (.ifnonnull 9, 3) := by decide +kernel
theorem dX7_back_10 : decode cX7_back 10 = .ok (.aload_n 0, 1) := by decide +kernel
theorem dX7_back_11 : decode cX7_back 11 = .ok (.iconst 1, 1) := by decide +kernel
theorem dX7_back_12 : decode cX7_back 12 = .ok (.invokevirtual 109, 3) := by decide +kernel
theorem dX7_back_15 : decode cX7_back 15 = .ok (.ireturn, 1) := by decide +kernel
theorem dX7_back_16 : decode cX7_back 16 = .ok (.aload_n 2, 1) := by decide +kernel
theorem dX7_back_17 : decode cX7_back 17 = .ok (.invokevirtual 158, 3) := by decide +kernel
theorem dX7_back_20 : decode cX7_back 20 = .ok (.istore_n 3, 1) := by decide +kernel
theorem dX7_back_21 : decode cX7_back 21 = .ok (.iload_n 3, 1) := by decide +kernel
theorem dX7_back_22 : decode cX7_back 22 = .ok (.bipush (-2), 2) := by decide +kernel
theorem dX7_back_24 : decode cX7_back 24 = .ok (.if_icmp .ne 9, 3) := by decide +kernel
theorem dX7_back_27 : decode cX7_back 27 = .ok (.aload_n 0, 1) := by decide +kernel
theorem dX7_back_28 : decode cX7_back 28 = .ok (.iconst 5, 1) := by decide +kernel
theorem dX7_back_29 : decode cX7_back 29 = .ok (.invokevirtual 109, 3) := by decide +kernel
theorem dX7_back_32 : decode cX7_back 32 = .ok (.ireturn, 1) := by decide +kernel
theorem dX7_back_33 : decode cX7_back 33 = .ok (.aload_n 2, 1) := by decide +kernel
theorem dX7_back_34 : decode cX7_back 34 = .ok (.iload_n 3, 1) := by decide +kernel
theorem dX7_back_35 : decode cX7_back 35 = .ok (.aload_n 0, 1) := by decide +kernel
theorem dX7_back_36 : decode cX7_back 36 = .ok (.getfield 142, 3) := by decide +kernel
theorem dX7_back_39 : decode cX7_back 39 = .ok (.invokevirtual 145, 3) := by decide +kernel
theorem dX7_back_42 : decode cX7_back 42 = .ok (.aload_n 2, 1) := by decide +kernel
theorem dX7_back_43 : decode cX7_back 43 = .ok (.invokevirtual 152, 3) := by decide +kernel
theorem dX7_back_46 : decode cX7_back 46 = .ok (.aload_n 0, 1) := by decide +kernel
theorem dX7_back_47 : decode cX7_back 47 = .ok (.invokevirtual 113, 3) := by decide +kernel
theorem dX7_back_50 : decode cX7_back 50 = .ok (.ireturn, 1) := by decide +kernel
theorem dX7_champion_0 : decode cX7_champion 0 = .ok (.aload_n 0, 1) := by decide +kernel
theorem dX7_champion_1 : decode cX7_champion 1 = .ok (.iload_n 1, 1) := by decide +kernel
theorem dX7_champion_2 : decode cX7_champion 2 = .ok (.invokevirtual 126, 3) := by decide +kernel
theorem dX7_champion_5 : decode cX7_champion 5 = .ok (.astore_n 3, 1) := by decide +kernel
theorem dX7_champion_6 : decode cX7_champion 6 = .ok (.aload_n 3, 1) := by decide +kernel
theorem dX7_champion_7 : decode cX7_champion 7 = .ok (.ifnull 15, 3) := by decide +kernel
theorem dX7_champion_10 : decode cX7_champion 10 = .ok (.iload_n 2, 1) := by decide +kernel
theorem dX7_champion_11 : decode cX7_champion 11 = .ok (.ifCond .lt 11, 3) := by decide +kernel
theorem dX7_champion_14 : decode cX7_champion 14 = .ok (.iload_n 2, 1) := by decide +kernel
theorem dX7_champion_15 : decode cX7_champion 15 = .ok (.aload_n 0, 1) := by decide +kernel
theorem dX7_champion_16 : decode cX7_champion 16 = .ok (.getfield 142, 3) := by decide +kernel
theorem dX7_champion_19 : decode cX7_champion 19 = .ok (.if_icmp .le 5, 3) := by decide +kernel
theorem dX7_champion_22 : decode cX7_champion 22 = .ok (.iconst (-1), 1) := by decide +kernel
theorem dX7_champion_23 : decode cX7_champion 23 = .ok (.ireturn, 1) := by decide +kernel
theorem dX7_champion_24 : decode cX7_champion 24 = .ok (.aload_n 3, 1) := by decide +kernel
theorem dX7_champion_25 : decode cX7_champion 25 = .ok (.iload_n 2, 1) := by decide +kernel
theorem dX7_champion_26 : decode cX7_champion 26 = .ok (.invokevirtual 162, 3) := by decide +kernel
theorem dX7_champion_29 : decode cX7_champion 29 = .ok (.ireturn, 1) := by decide +kernel
theorem dX7_about_0 : decode cX7_about 0 = .ok (.aload_n 0, 1) := by decide +kernel
theorem dX7_about_1 : decode cX7_about 1 = .ok (.iload_n 1, 1) := by decide +kernel
theorem dX7_about_2 : decode cX7_about 2 = .ok (.invokevirtual 126, 3) := by decide +kernel
theorem dX7_about_5 : decode cX7_about 5 = .ok (.astore_n 3, 1) := by decide +kernel
theorem dX7_about_6 : decode cX7_about 6 = .ok (.aload_n 3, 1) := by decide +kernel
theorem dX7_about_7 : decode cX7_about 7 = .ok (.ifnonnull 5, 3) := by decide +kernel
theorem dX7_about_10 : decode cX7_about 10 = .ok (.iconst (-1), 1) := by decide +kernel
theorem dX7_about_11 : decode cX7_about 11 = .ok (.ireturn, 1) := by decide +kernel
theorem dX7_about_12 : decode cX7_about 12 = .ok (.iload_n 2, 1) := by decide +kernel
theorem dX7_about_13 : decode cX7_about 13 = .ok (.tableswitch 69 0 5 #[39, 44, 49, 54, 59, 64], 39) := by decide +kernel
theorem dX7_about_52 : decode cX7_about 52 = .ok (.aload_n 3, 1) := by decide +kernel
theorem dX7_about_53 : decode cX7_about 53 = .ok (.getfield 136, 3) := by decide +kernel
theorem dX7_about_56 : decode cX7_about 56 = .ok (.ireturn, 1) := by decide +kernel
theorem dX7_about_57 : decode cX7_about 57 = .ok (.aload_n 3, 1) := by decide +kernel
theorem dX7_about_58 : decode cX7_about 58 = .ok (.getfield 149, 3) := by decide +kernel
theorem dX7_about_61 : decode cX7_about 61 = .ok (.ireturn, 1) := by decide +kernel
theorem dX7_about_62 : decode cX7_about 62 = .ok (.aload_n 3, 1) := by decide +kernel
theorem dX7_about_63 : decode cX7_about 63 = .ok (.getfield 155, 3) := by decide +kernel
theorem dX7_about_66 : decode cX7_about 66 = .ok (.ireturn, 1) := by decide +kernel
theorem dX7_about_67 : decode cX7_about 67 = .ok (.aload_n 3, 1) := by decide +kernel
theorem dX7_about_68 : decode cX7_about 68 = .ok (.getfield 165, 3) := by decide +kernel
theorem dX7_about_71 : decode cX7_about 71 = .ok (.ireturn, 1) := by decide +kernel
theorem dX7_about_72 : decode cX7_about 72 = .ok (.aload_n 3, 1) := by decide +kernel
theorem dX7_about_73 : decode cX7_about 73 = .ok (.getfield 168, 3) := by decide +kernel
theorem dX7_about_76 : decode cX7_about 76 = .ok (.ireturn, 1) := by decide +kernel
theorem dX7_about_77 : decode cX7_about 77 = .ok (.aload_n 3, 1) := by decide +kernel
theorem dX7_about_78 : decode cX7_about 78 = .ok (.getfield 171, 3) := by decide +kernel
theorem dX7_about_81 : decode cX7_about 81 = .ok (.ireturn, 1) := by decide +kernel
theorem dX7_about_82 : decode cX7_about 82 = .ok (.iconst (-1), 1) := by decide +kernel
theorem dX7_about_83 : decode cX7_about 83 = .ok (.ireturn, 1) := by decide +kernel
theorem dX7_pass_0 : decode cX7_pass 0 = .ok (.iload_n 1, 1) := by decide +kernel
theorem dX7_pass_1 : decode cX7_pass 1 = .ok (.iconst 1, 1) := by decide +kernel
theorem dX7_pass_2 : decode cX7_pass 2 = .ok (.if_icmp .lt 22, 3) := by decide +kernel
theorem dX7_pass_5 : decode cX7_pass 5 = .ok (.iload_n 1, 1) := by decide +kernel
theorem dX7_pass_6 : decode cX7_pass 6 = .ok (.sipush 400, 3) := by decide +kernel
theorem dX7_pass_9 : decode cX7_pass 9 = .ok (.if_icmp .gt 15, 3) := by decide +kernel
theorem dX7_pass_12 : decode cX7_pass 12 = .ok (.iload_n 1, 1) := by decide +kernel
theorem dX7_pass_13 : decode cX7_pass 13 = .ok (.sipush 2000, 3) := by decide +kernel
theorem dX7_pass_16 : decode cX7_pass 16 = .ok (.aload_n 0, 1) := by decide +kernel
theorem dX7_pass_17 : decode cX7_pass 17 = .ok (.getfield 142, 3) := by decide +kernel
theorem dX7_pass_20 : decode cX7_pass 20 = .ok (.isub, 1) := by decide +kernel
theorem dX7_pass_21 : decode cX7_pass 21 = .ok (.if_icmp .le 9, 3) := by decide +kernel
theorem dX7_pass_24 : decode cX7_pass 24 = .ok (.aload_n 0, 1) := by decide +kernel
theorem dX7_pass_25 : decode cX7_pass 25 = .ok (.iconst 2, 1) := by decide +kernel
theorem dX7_pass_26 : decode cX7_pass 26 = .ok (.invokevirtual 71, 3) := by decide +kernel
theorem dX7_pass_29 : decode cX7_pass 29 = .ok (.ireturn, 1) := by decide +kernel
theorem dX7_pass_30 : decode cX7_pass 30 = .ok (.aload_n 0, 1) := by decide +kernel
theorem dX7_pass_31 : decode cX7_pass 31 = .ok (.dup, 1) := by decide +kernel
theorem dX7_pass_32 : decode cX7_pass 32 = .ok (.getfield 142, 3) := by decide +kernel
theorem dX7_pass_35 : decode cX7_pass 35 = .ok (.iload_n 1, 1) := by decide +kernel
theorem dX7_pass_36 : decode cX7_pass 36 = .ok (.iadd, 1) := by decide +kernel
theorem dX7_pass_37 : decode cX7_pass 37 = .ok (.putfield 142, 3) := by decide +kernel
theorem dX7_pass_40 : decode cX7_pass 40 = .ok (.aload_n 0, 1) := by decide +kernel
theorem dX7_pass_41 : decode cX7_pass 41 = .ok (.aload_n 0, 1) := by decide +kernel
theorem dX7_pass_42 : decode cX7_pass 42 = .ok (.getfield 142, 3) := by decide +kernel
theorem dX7_pass_45 : decode cX7_pass 45 = .ok (.invokevirtual 93, 3) := by decide +kernel
theorem dX7_pass_48 : decode cX7_pass 48 = .ok (.ireturn, 1) := by decide +kernel
theorem dX7_ask_0 : decode cX7_ask 0 = .ok (.aload_n 0, 1) := by decide +kernel
theorem dX7_ask_1 : decode cX7_ask 1 = .ok (.iload_n 1, 1) := by decide +kernel
theorem dX7_ask_2 : decode cX7_ask 2 = .ok (.invokevirtual 126, 3) := by decide +kernel
theorem dX7_ask_5 : decode cX7_ask 5 = .ok (.astore_n 3, 1) := by decide +kernel
theorem dX7_ask_6 : decode cX7_ask 6 = .ok (.aload_n 3, 1) := by decide +kernel
theorem dX7_ask_7 : decode cX7_ask 7 = .ok (.ifnonnull 9, 3) := by decide +kernel
theorem dX7_ask_10 : decode cX7_ask 10 = .ok (.aload_n 0, 1) := by decide +kernel
theorem dX7_ask_11 : decode cX7_ask 11 = .ok (.iconst 1, 1) := by decide +kernel
theorem dX7_ask_12 : decode cX7_ask 12 = .ok (.invokevirtual 71, 3) := by decide +kernel
theorem dX7_ask_15 : decode cX7_ask 15 = .ok (.ireturn, 1) := by decide +kernel
theorem dX7_ask_16 : decode cX7_ask 16 = .ok (.iload_n 2, 1) := by decide +kernel
theorem dX7_ask_17 : decode cX7_ask 17 = .ok (.ifCond .ge 9, 3) := by decide +kernel
theorem dX7_ask_20 : decode cX7_ask 20 = .ok (.aload_n 0, 1) := by decide +kernel
theorem dX7_ask_21 : decode cX7_ask 21 = .ok (.iconst 2, 1) := by decide +kernel
theorem dX7_ask_22 : decode cX7_ask 22 = .ok (.invokevirtual 71, 3) := by decide +kernel
theorem dX7_ask_25 : decode cX7_ask 25 = .ok (.ireturn, 1) := by decide +kernel
theorem dX7_ask_26 : decode cX7_ask 26 = .ok (.aload_n 0, 1) := by decide +kernel
theorem dX7_ask_27 : decode cX7_ask 27 = .ok (.aload_n 3, 1) := by decide +kernel
theorem dX7_ask_28 : decode cX7_ask 28 = .ok (.getfield 136, 3) := by decide +kernel
theorem dX7_ask_31 : decode cX7_ask 31 = .ok (.invokevirtual 99, 3) := by decide +kernel
theorem dX7_ask_34 : decode cX7_ask 34 = .ok (.astore 4, 2) := by decide +kernel
theorem dX7_ask_36 : decode cX7_ask 36 = .ok (.aload 4, 2) := by decide +kernel
theorem dX7_ask_38 : decode cX7_ask 38 = .ok (.ifnonnull 9, 3) := by decide +kernel
theorem dX7_ask_41 : decode cX7_ask 41 = .ok (.aload_n 0, 1) := by decide +kernel
theorem dX7_ask_42 : decode cX7_ask 42 = .ok (.iconst 5, 1) := by decide +kernel
theorem dX7_ask_43 : decode cX7_ask 43 = .ok (.invokevirtual 71, 3) := by decide +kernel
theorem dX7_ask_46 : decode cX7_ask 46 = .ok (.ireturn, 1) := by decide +kernel
theorem dX7_ask_47 : decode cX7_ask 47 = .ok (.aload_n 3, 1) := by decide +kernel
theorem dX7_ask_48 : decode cX7_ask 48 = .ok (.aload_n 0, 1) := by decide +kernel
theorem dX7_ask_49 : decode cX7_ask 49 = .ok (.getfield 43, 3) := by decide +kernel
theorem dX7_ask_52 : decode cX7_ask 52 = .ok (.invokevirtual 174, 3) := by decide +kernel
theorem dX7_ask_55 : decode cX7_ask 55 = .ok (.ifCond .ne 20, 3) := by decide +kernel
theorem dX7_ask_58 : decode cX7_ask 58 = .ok (.aload_n 3, 1) := by decide +kernel
theorem dX7_ask_59 : decode cX7_ask 59 = .ok (.dup, 1) := by decide +kernel
theorem dX7_ask_60 : decode cX7_ask 60 = .ok (.getfield 168, 3) := by decide +kernel
theorem dX7_ask_63 : decode cX7_ask 63 = .ok (.iconst 1, 1) := by decide +kernel
theorem dX7_ask_64 : decode cX7_ask 64 = .ok (.iadd, 1) := by decide +kernel
theorem dX7_ask_65 : decode cX7_ask 65 = .ok (.putfield 168, 3) := by decide +kernel
theorem dX7_ask_68 : decode cX7_ask 68 = .ok (.aload_n 0, 1) := by decide +kernel
theorem dX7_ask_69 : decode cX7_ask 69 = .ok (.bipush 6, 2) := by decide +kernel
theorem dX7_ask_71 : decode cX7_ask 71 = .ok (.invokevirtual 71, 3) := by decide +kernel
theorem dX7_ask_74 : decode cX7_ask 74 = .ok (.ireturn, 1) := by decide +kernel
theorem dX7_ask_75 : decode cX7_ask 75 = .ok (.aload_n 0, 1) := by decide +kernel
theorem dX7_ask_76 : decode cX7_ask 76 = .ok (.getfield 178, 3) := by decide +kernel
theorem dX7_ask_79 : decode cX7_ask 79 = .ok (.aload_n 0, 1) := by decide +kernel
theorem dX7_ask_80 : decode cX7_ask 80 = .ok (.getfield 39, 3) := by decide +kernel
theorem dX7_ask_83 : decode cX7_ask 83 = .ok (.arraylength, 1) := by decide +kernel
theorem dX7_ask_84 : decode cX7_ask 84 = .ok (.if_icmp .lt 9, 3) := by decide +kernel
theorem dX7_ask_87 : decode cX7_ask 87 = .ok (.aload_n 0, 1) := by decide +kernel
theorem dX7_ask_88 : decode cX7_ask 88 = .ok (.iconst 3, 1) := by decide +kernel
theorem dX7_ask_89 : decode cX7_ask 89 = .ok (.invokevirtual 71, 3) := by decide +kernel
theorem dX7_ask_92 : decode cX7_ask 92 = .ok (.ireturn, 1) := by decide +kernel
theorem dX7_ask_93 : decode cX7_ask 93 = .ok (.new 37, 3) := by decide +kernel
theorem dX7_ask_96 : decode cX7_ask 96 = .ok (.dup, 1) := by decide +kernel
theorem dX7_ask_97 : decode cX7_ask 97 = .ok (.iload_n 1, 1) := by decide +kernel
theorem dX7_ask_98 : decode cX7_ask 98 = .ok (.iload_n 2, 1) := by decide +kernel
theorem dX7_ask_99 : decode cX7_ask 99 = .ok (.aload_n 0, 1) := by decide +kernel
theorem dX7_ask_100 : decode cX7_ask 100 = .ok (.getfield 142, 3) := by decide +kernel
theorem dX7_ask_103 : decode cX7_ask 103 = .ok (.aload_n 0, 1) := by decide +kernel
theorem dX7_ask_104 : decode cX7_ask 104 = .ok (.getfield 43, 3) := by decide +kernel
theorem dX7_ask_107 : decode cX7_ask 107 = .ok (.invokespecial 181, 3) := by decide +kernel
theorem dX7_ask_110 : decode cX7_ask 110 = .ok (.astore 5, 2) := by decide +kernel
theorem dX7_ask_112 : decode cX7_ask 112 = .ok (.aload 5, 2) := by decide +kernel
theorem dX7_ask_114 : decode cX7_ask 114 = .ok (.aload_n 3, 1) := by decide +kernel
theorem dX7_ask_115 : decode cX7_ask 115 = .ok (.getfield 136, 3) := by decide +kernel
theorem dX7_ask_118 : decode cX7_ask 118 = .ok (.aload_n 0, 1) := by decide +kernel
theorem dX7_ask_119 : decode cX7_ask 119 = .ok (.getfield 21, 3) := by decide +kernel
theorem dX7_ask_122 : decode cX7_ask 122 = .ok (.aload 4, 2) := by decide +kernel
theorem dX7_ask_124 : decode cX7_ask 124 = .ok (.aload_n 0, 1) := by decide +kernel
theorem dX7_ask_125 : decode cX7_ask 125 = .ok (.getfield 43, 3) := by decide +kernel
theorem dX7_ask_128 : decode cX7_ask 128 = .ok (.invokevirtual 118, 3) := by decide +kernel
theorem dX7_ask_131 : decode cX7_ask 131 = .ok (.invokevirtual 184, 3) := by decide +kernel
theorem dX7_ask_134 : decode cX7_ask 134 = .ok (.aload_n 0, 1) := by decide +kernel
theorem dX7_ask_135 : decode cX7_ask 135 = .ok (.aload_n 3, 1) := by decide +kernel
theorem dX7_ask_136 : decode cX7_ask 136 = .ok (.getfield 149, 3) := by decide +kernel
theorem dX7_ask_139 : decode cX7_ask 139 = .ok (.invokevirtual 99, 3) := by decide +kernel
theorem dX7_ask_142 : decode cX7_ask 142 = .ok (.astore 6, 2) := by decide +kernel
theorem dX7_ask_144 : decode cX7_ask 144 = .ok (.aload 6, 2) := by decide +kernel
theorem dX7_ask_146 : decode cX7_ask 146 = .ok (.ifnull 41, 3) := by decide +kernel
theorem dX7_ask_149 : decode cX7_ask 149 = .ok (.aload 5, 2) := by decide +kernel
theorem dX7_ask_151 : decode cX7_ask 151 = .ok (.aload_n 3, 1) := by decide +kernel
theorem dX7_ask_152 : decode cX7_ask 152 = .ok (.getfield 149, 3) := by decide +kernel
theorem dX7_ask_155 : decode cX7_ask 155 = .ok (.aload_n 0, 1) := by decide +kernel
theorem dX7_ask_156 : decode cX7_ask 156 = .ok (.getfield 21, 3) := by decide +kernel
theorem dX7_ask_159 : decode cX7_ask 159 = .ok (.aload 6, 2) := by decide +kernel
theorem dX7_ask_161 : decode cX7_ask 161 = .ok (.aload_n 0, 1) := by decide +kernel
theorem dX7_ask_162 : decode cX7_ask 162 = .ok (.getfield 43, 3) := by decide +kernel
theorem dX7_ask_165 : decode cX7_ask 165 = .ok (.invokevirtual 118, 3) := by decide +kernel
theorem dX7_ask_168 : decode cX7_ask 168 = .ok (.iload_n 2, 1) := by decide +kernel
theorem dX7_ask_169 : decode cX7_ask 169 = .ok (.bipush 100, 2) := by decide +kernel
theorem dX7_ask_171 : decode cX7_ask 171 = .ok (.irem, 1) := by decide +kernel
theorem dX7_ask_172 : decode cX7_ask 172 = .ok (.aload_n 3, 1) := by decide +kernel
theorem dX7_ask_173 : decode cX7_ask 173 = .ok (.getfield 155, 3) := by decide +kernel
theorem dX7_ask_176 : decode cX7_ask 176 = .ok (.if_icmp .ge 7, 3) := by decide +kernel
theorem dX7_ask_179 : decode cX7_ask 179 = .ok (.iconst 1, 1) := by decide +kernel
theorem dX7_ask_180 : decode cX7_ask 180 = .ok (.goto 4, 3) := by decide +kernel
theorem dX7_ask_183 : decode cX7_ask 183 = .ok (.iconst 0, 1) := by decide +kernel
theorem dX7_ask_184 : decode cX7_ask 184 = .ok (.invokevirtual 187, 3) := by decide +kernel
theorem dX7_ask_187 : decode cX7_ask 187 = .ok (.aload_n 0, 1) := by decide +kernel
theorem dX7_ask_188 : decode cX7_ask 188 = .ok (.getfield 39, 3) := by decide +kernel
theorem dX7_ask_191 : decode cX7_ask 191 = .ok (.aload_n 0, 1) := by decide +kernel
theorem dX7_ask_192 : decode cX7_ask 192 = .ok (.getfield 178, 3) := by decide +kernel
theorem dX7_ask_195 : decode cX7_ask 195 = .ok (.aload 5, 2) := by decide +kernel
theorem dX7_ask_197 : decode cX7_ask 197 = .ok (.aastore, 1) := by decide +kernel
theorem dX7_ask_198 : decode cX7_ask 198 = .ok (.aload_n 0, 1) := by decide +kernel
theorem dX7_ask_199 : decode cX7_ask 199 = .ok (.dup, 1) := by decide +kernel
theorem dX7_ask_200 : decode cX7_ask 200 = .ok (.getfield 178, 3) := by decide +kernel
theorem dX7_ask_203 : decode cX7_ask 203 = .ok (.iconst 1, 1) := by decide +kernel
theorem dX7_ask_204 : decode cX7_ask 204 = .ok (.iadd, 1) := by decide +kernel
theorem dX7_ask_205 : decode cX7_ask 205 = .ok (.putfield 178, 3) := by decide +kernel
theorem dX7_ask_208 : decode cX7_ask 208 = .ok (.aload_n 3, 1) := by decide +kernel
theorem dX7_ask_209 : decode cX7_ask 209 = .ok (.aload_n 0, 1) := by decide +kernel
theorem dX7_ask_210 : decode cX7_ask 210 = .ok (.getfield 43, 3) := by decide +kernel
theorem dX7_ask_213 : decode cX7_ask 213 = .ok (.invokevirtual 191, 3) := by decide +kernel
theorem dX7_ask_216 : decode cX7_ask 216 = .ok (.aload_n 0, 1) := by decide +kernel
theorem dX7_ask_217 : decode cX7_ask 217 = .ok (.aload_n 0, 1) := by decide +kernel
theorem dX7_ask_218 : decode cX7_ask 218 = .ok (.getfield 178, 3) := by decide +kernel
theorem dX7_ask_221 : decode cX7_ask 221 = .ok (.iconst 1, 1) := by decide +kernel
theorem dX7_ask_222 : decode cX7_ask 222 = .ok (.isub, 1) := by decide +kernel
theorem dX7_ask_223 : decode cX7_ask 223 = .ok (.invokevirtual 93, 3) := by decide +kernel
theorem dX7_ask_226 : decode cX7_ask 226 = .ok (.ireturn, 1) := by decide +kernel
theorem dX7_kept_0 : decode cX7_kept 0 = .ok (.aload_n 0, 1) := by decide +kernel
theorem dX7_kept_1 : decode cX7_kept 1 = .ok (.iload_n 1, 1) := by decide +kernel
theorem dX7_kept_2 : decode cX7_kept 2 = .ok (.invokevirtual 195, 3) := by decide +kernel
theorem dX7_kept_5 : decode cX7_kept 5 = .ok (.astore_n 3, 1) := by decide +kernel
theorem dX7_kept_6 : decode cX7_kept 6 = .ok (.aload_n 3, 1) := by decide +kernel
theorem dX7_kept_7 : decode cX7_kept 7 = .ok (.ifnonnull 5, 3) := by decide +kernel
theorem dX7_kept_10 : decode cX7_kept 10 = .ok (.iconst (-1), 1) := by decide +kernel
theorem dX7_kept_11 : decode cX7_kept 11 = .ok (.ireturn, 1) := by decide +kernel
theorem dX7_kept_12 : decode cX7_kept 12 = .ok (.iload_n 2, 1) := by decide +kernel
theorem dX7_kept_13 : decode cX7_kept 13 = .ok (.tableswitch 69 0 5 #[39, 44, 49, 54, 59, 64], 39) := by decide +kernel
theorem dX7_kept_52 : decode cX7_kept 52 = .ok (.aload_n 3, 1) := by decide +kernel
theorem dX7_kept_53 : decode cX7_kept 53 = .ok (.getfield 199, 3) := by decide +kernel
theorem dX7_kept_56 : decode cX7_kept 56 = .ok (.ireturn, 1) := by decide +kernel
theorem dX7_kept_57 : decode cX7_kept 57 = .ok (.aload_n 3, 1) := by decide +kernel
theorem dX7_kept_58 : decode cX7_kept 58 = .ok (.getfield 202, 3) := by decide +kernel
theorem dX7_kept_61 : decode cX7_kept 61 = .ok (.ireturn, 1) := by decide +kernel
theorem dX7_kept_62 : decode cX7_kept 62 = .ok (.aload_n 3, 1) := by decide +kernel
theorem dX7_kept_63 : decode cX7_kept 63 = .ok (.getfield 205, 3) := by decide +kernel
theorem dX7_kept_66 : decode cX7_kept 66 = .ok (.ireturn, 1) := by decide +kernel
theorem dX7_kept_67 : decode cX7_kept 67 = .ok (.aload_n 3, 1) := by decide +kernel
theorem dX7_kept_68 : decode cX7_kept 68 = .ok (.getfield 208, 3) := by decide +kernel
theorem dX7_kept_71 : decode cX7_kept 71 = .ok (.ireturn, 1) := by decide +kernel
theorem dX7_kept_72 : decode cX7_kept 72 = .ok (.aload_n 3, 1) := by decide +kernel
theorem dX7_kept_73 : decode cX7_kept 73 = .ok (.getfield 211, 3) := by decide +kernel
theorem dX7_kept_76 : decode cX7_kept 76 = .ok (.ireturn, 1) := by decide +kernel
theorem dX7_kept_77 : decode cX7_kept 77 = .ok (.aload_n 3, 1) := by decide +kernel
theorem dX7_kept_78 : decode cX7_kept 78 = .ok (.getfield 212, 3) := by decide +kernel
theorem dX7_kept_81 : decode cX7_kept 81 = .ok (.ireturn, 1) := by decide +kernel
theorem dX7_kept_82 : decode cX7_kept 82 = .ok (.iconst (-1), 1) := by decide +kernel
theorem dX7_kept_83 : decode cX7_kept 83 = .ok (.ireturn, 1) := by decide +kernel
theorem dX7_answer_0 : decode cX7_answer 0 = .ok (.aload_n 0, 1) := by decide +kernel
theorem dX7_answer_1 : decode cX7_answer 1 = .ok (.iload_n 1, 1) := by decide +kernel
theorem dX7_answer_2 : decode cX7_answer 2 = .ok (.invokevirtual 195, 3) := by decide +kernel
theorem dX7_answer_5 : decode cX7_answer 5 = .ok (.astore_n 3, 1) := by decide +kernel
theorem dX7_answer_6 : decode cX7_answer 6 = .ok (.aload_n 3, 1) := by decide +kernel
theorem dX7_answer_7 : decode cX7_answer 7 = .ok (.ifnonnull 6, 3) := by decide +kernel
theorem dX7_answer_10 : decode cX7_answer 10 = .ok (.ldc 117, 2) := by decide +kernel
theorem dX7_answer_12 : decode cX7_answer 12 = .ok (.ireturn, 1) := by decide +kernel
theorem dX7_answer_13 : decode cX7_answer 13 = .ok (.iload_n 2, 1) := by decide +kernel
theorem dX7_answer_14 : decode cX7_answer 14 = .ok (.tableswitch 50 0 3 #[30, 35, 40, 45], 30) := by decide +kernel
theorem dX7_answer_44 : decode cX7_answer 44 = .ok (.aload_n 3, 1) := by decide +kernel
theorem dX7_answer_45 : decode cX7_answer 45 = .ok (.getfield 213, 3) := by decide +kernel
theorem dX7_answer_48 : decode cX7_answer 48 = .ok (.ireturn, 1) := by decide +kernel
theorem dX7_answer_49 : decode cX7_answer 49 = .ok (.aload_n 3, 1) := by decide +kernel
theorem dX7_answer_50 : decode cX7_answer 50 = .ok (.getfield 216, 3) := by decide +kernel
theorem dX7_answer_53 : decode cX7_answer 53 = .ok (.ireturn, 1) := by decide +kernel
theorem dX7_answer_54 : decode cX7_answer 54 = .ok (.aload_n 3, 1) := by decide +kernel
theorem dX7_answer_55 : decode cX7_answer 55 = .ok (.getfield 219, 3) := by decide +kernel
theorem dX7_answer_58 : decode cX7_answer 58 = .ok (.ireturn, 1) := by decide +kernel
theorem dX7_answer_59 : decode cX7_answer 59 = .ok (.aload_n 3, 1) := by decide +kernel
theorem dX7_answer_60 : decode cX7_answer 60 = .ok (.getfield 222, 3) := by decide +kernel
theorem dX7_answer_63 : decode cX7_answer 63 = .ok (.ireturn, 1) := by decide +kernel
theorem dX7_answer_64 : decode cX7_answer 64 = .ok (.ldc 117, 2) := by decide +kernel
theorem dX7_answer_66 : decode cX7_answer 66 = .ok (.ireturn, 1) := by decide +kernel
theorem dX7_again_0 : decode cX7_again 0 = .ok (.aload_n 0, 1) := by decide +kernel
theorem dX7_again_1 : decode cX7_again 1 = .ok (.iload_n 1, 1) := by decide +kernel
theorem dX7_again_2 : decode cX7_again 2 = .ok (.invokevirtual 195, 3) := by decide +kernel
theorem dX7_again_5 : decode cX7_again 5 = .ok (.astore_n 3, 1) := by decide +kernel
theorem dX7_again_6 : decode cX7_again 6 = .ok (.aload_n 0, 1) := by decide +kernel
theorem dX7_again_7 : decode cX7_again 7 = .ok (.iload_n 2, 1) := by decide +kernel
theorem dX7_again_8 : decode cX7_again 8 = .ok (.invokevirtual 99, 3) := by decide +kernel
theorem dX7_again_11 : decode cX7_again 11 = .ok (.astore 4, 2) := by decide +kernel
theorem dX7_again_13 : decode cX7_again 13 = .ok (.aload_n 3, 1) := by decide +kernel
theorem dX7_again_14 : decode cX7_again 14 = .ok (.ifnull 8, 3) := by decide +kernel
theorem dX7_again_17 : decode cX7_again 17 = .ok (.aload 4, 2) := by decide +kernel
theorem dX7_again_19 : decode cX7_again 19 = .ok (.ifnonnull 11, 3) := by decide +kernel
theorem dX7_again_22 : decode cX7_again 22 = .ok (.aload_n 0, 1) := by decide +kernel
theorem dX7_again_23 : decode cX7_again 23 = .ok (.iconst 1, 1) := by decide +kernel
theorem dX7_again_24 : decode cX7_again 24 = .ok (.putfield 96, 3) := by decide +kernel
theorem dX7_again_27 : decode cX7_again 27 = .ok (.ldc 117, 2) := by decide +kernel
theorem dX7_again_29 : decode cX7_again 29 = .ok (.ireturn, 1) := by decide +kernel
theorem dX7_again_30 : decode cX7_again 30 = .ok (.aload_n 0, 1) := by decide +kernel
theorem dX7_again_31 : decode cX7_again 31 = .ok (.aload_n 0, 1) := by decide +kernel
theorem dX7_again_32 : decode cX7_again 32 = .ok (.getfield 21, 3) := by decide +kernel
theorem dX7_again_35 : decode cX7_again 35 = .ok (.aload 4, 2) := by decide +kernel
theorem dX7_again_37 : decode cX7_again 37 = .ok (.aload_n 3, 1) := by decide +kernel
theorem dX7_again_38 : decode cX7_again 38 = .ok (.getfield 225, 3) := by decide +kernel
theorem dX7_again_41 : decode cX7_again 41 = .ok (.invokevirtual 118, 3) := by decide +kernel
theorem dX7_again_44 : decode cX7_again 44 = .ok (.invokevirtual 93, 3) := by decide +kernel
theorem dX7_again_47 : decode cX7_again 47 = .ok (.ireturn, 1) := by decide +kernel
theorem dX7_truth_0 : decode cX7_truth 0 = .ok (.aload_n 0, 1) := by decide +kernel
theorem dX7_truth_1 : decode cX7_truth 1 = .ok (.iload_n 1, 1) := by decide +kernel
theorem dX7_truth_2 : decode cX7_truth 2 = .ok (.invokevirtual 195, 3) := by decide +kernel
theorem dX7_truth_5 : decode cX7_truth 5 = .ok (.astore_n 3, 1) := by decide +kernel
theorem dX7_truth_6 : decode cX7_truth 6 = .ok (.aload_n 3, 1) := by decide +kernel
theorem dX7_truth_7 : decode cX7_truth 7 = .ok (.ifnonnull 9, 3) := by decide +kernel
theorem dX7_truth_10 : decode cX7_truth 10 = .ok (.aload_n 0, 1) := by decide +kernel
theorem dX7_truth_11 : decode cX7_truth 11 = .ok (.iconst 1, 1) := by decide +kernel
theorem dX7_truth_12 : decode cX7_truth 12 = .ok (.invokevirtual 109, 3) := by decide +kernel
theorem dX7_truth_15 : decode cX7_truth 15 = .ok (.ireturn, 1) := by decide +kernel
theorem dX7_truth_16 : decode cX7_truth 16 = .ok (.iload_n 2, 1) := by decide +kernel
theorem dX7_truth_17 : decode cX7_truth 17 = .ok (.ldc 226, 2) := by decide +kernel
theorem dX7_truth_19 : decode cX7_truth 19 = .ok (.if_icmp .lt 9, 3) := by decide +kernel
theorem dX7_truth_22 : decode cX7_truth 22 = .ok (.iload_n 2, 1) := by decide +kernel
theorem dX7_truth_23 : decode cX7_truth 23 = .ok (.ldc 227, 2) := by decide +kernel
theorem dX7_truth_25 : decode cX7_truth 25 = .ok (.if_icmp .le 9, 3) := by decide +kernel
theorem dX7_truth_28 : decode cX7_truth 28 = .ok (.aload_n 0, 1) := by decide +kernel
theorem dX7_truth_29 : decode cX7_truth 29 = .ok (.iconst 2, 1) := by decide +kernel
theorem dX7_truth_30 : decode cX7_truth 30 = .ok (.invokevirtual 109, 3) := by decide +kernel
theorem dX7_truth_33 : decode cX7_truth 33 = .ok (.ireturn, 1) := by decide +kernel
theorem dX7_truth_34 : decode cX7_truth 34 = .ok (.aload_n 3, 1) := by decide +kernel
theorem dX7_truth_35 : decode cX7_truth 35 = .ok (.iload_n 2, 1) := by decide +kernel
theorem dX7_truth_36 : decode cX7_truth 36 = .ok (.putfield 222, 3) := by decide +kernel
theorem dX7_truth_39 : decode cX7_truth 39 = .ok (.aload_n 0, 1) := by decide +kernel
theorem dX7_truth_40 : decode cX7_truth 40 = .ok (.invokevirtual 113, 3) := by decide +kernel
theorem dX7_truth_43 : decode cX7_truth 43 = .ok (.ireturn, 1) := by decide +kernel
theorem dX7_side_0 : decode cX7_side 0 = .ok (.aload_n 0, 1) := by decide +kernel
theorem dX7_side_1 : decode cX7_side 1 = .ok (.iload_n 1, 1) := by decide +kernel
theorem dX7_side_2 : decode cX7_side 2 = .ok (.invokevirtual 126, 3) := by decide +kernel
theorem dX7_side_5 : decode cX7_side 5 = .ok (.astore_n 2, 1) := by decide +kernel
theorem dX7_side_6 : decode cX7_side 6 = .ok (.aload_n 2, 1) := by decide +kernel
theorem dX7_side_7 : decode cX7_side 7 = .ok (.ifnonnull 9, 3) := by decide +kernel
theorem dX7_side_10 : decode cX7_side 10 = .ok (.aload_n 0, 1) := by decide +kernel
theorem dX7_side_11 : decode cX7_side 11 = .ok (.iconst 1, 1) := by decide +kernel
theorem dX7_side_12 : decode cX7_side 12 = .ok (.invokevirtual 71, 3) := by decide +kernel
theorem dX7_side_15 : decode cX7_side 15 = .ok (.ireturn, 1) := by decide +kernel
theorem dX7_side_16 : decode cX7_side 16 = .ok (.aload_n 2, 1) := by decide +kernel
theorem dX7_side_17 : decode cX7_side 17 = .ok (.getfield 149, 3) := by decide +kernel
theorem dX7_side_20 : decode cX7_side 20 = .ok (.bipush (-2), 2) := by decide +kernel
theorem dX7_side_22 : decode cX7_side 22 = .ok (.if_icmp .ne 9, 3) := by decide +kernel
theorem dX7_side_25 : decode cX7_side 25 = .ok (.aload_n 0, 1) := by decide +kernel
theorem dX7_side_26 : decode cX7_side 26 = .ok (.iconst 5, 1) := by decide +kernel
theorem dX7_side_27 : decode cX7_side 27 = .ok (.invokevirtual 71, 3) := by decide +kernel
theorem dX7_side_30 : decode cX7_side 30 = .ok (.ireturn, 1) := by decide +kernel
theorem dX7_side_31 : decode cX7_side 31 = .ok (.aload_n 0, 1) := by decide +kernel
theorem dX7_side_32 : decode cX7_side 32 = .ok (.getfield 50, 3) := by decide +kernel
theorem dX7_side_35 : decode cX7_side 35 = .ok (.invokevirtual 228, 3) := by decide +kernel
theorem dX7_side_38 : decode cX7_side 38 = .ok (.iconst 0, 1) := by decide +kernel
theorem dX7_side_39 : decode cX7_side 39 = .ok (.istore_n 3, 1) := by decide +kernel
theorem dX7_side_40 : decode cX7_side 40 = .ok (.iload_n 3, 1) := by decide +kernel
theorem dX7_side_41 : decode cX7_side 41 = .ok (.aload_n 0, 1) := by decide +kernel
theorem dX7_side_42 : decode cX7_side 42 = .ok (.getfield 178, 3) := by decide +kernel
theorem dX7_side_45 : decode cX7_side 45 = .ok (.if_icmp .ge 63, 3) := by decide +kernel
theorem dX7_side_48 : decode cX7_side 48 = .ok (.aload_n 0, 1) := by decide +kernel
theorem dX7_side_49 : decode cX7_side 49 = .ok (.iload_n 3, 1) := by decide +kernel
theorem dX7_side_50 : decode cX7_side 50 = .ok (.invokevirtual 195, 3) := by decide +kernel
theorem dX7_side_53 : decode cX7_side 53 = .ok (.astore 4, 2) := by decide +kernel
theorem dX7_side_55 : decode cX7_side 55 = .ok (.aload 4, 2) := by decide +kernel
theorem dX7_side_57 : decode cX7_side 57 = .ok (.ifnull 45, 3) := by decide +kernel
theorem dX7_side_60 : decode cX7_side 60 = .ok (.aload 4, 2) := by decide +kernel
theorem dX7_side_62 : decode cX7_side 62 = .ok (.getfield 199, 3) := by decide +kernel
theorem dX7_side_65 : decode cX7_side 65 = .ok (.iload_n 1, 1) := by decide +kernel
theorem dX7_side_66 : decode cX7_side 66 = .ok (.if_icmp .ne 36, 3) := by decide +kernel
theorem dX7_side_69 : decode cX7_side 69 = .ok (.aload 4, 2) := by decide +kernel
theorem dX7_side_71 : decode cX7_side 71 = .ok (.getfield 211, 3) := by decide +kernel
theorem dX7_side_74 : decode cX7_side 74 = .ok (.aload_n 2, 1) := by decide +kernel
theorem dX7_side_75 : decode cX7_side 75 = .ok (.getfield 136, 3) := by decide +kernel
theorem dX7_side_78 : decode cX7_side 78 = .ok (.if_icmp .ne 24, 3) := by decide +kernel
theorem dX7_side_81 : decode cX7_side 81 = .ok (.aload 4, 2) := by decide +kernel
theorem dX7_side_83 : decode cX7_side 83 = .ok (.getfield 212, 3) := by decide +kernel
theorem dX7_side_86 : decode cX7_side 86 = .ok (.aload_n 2, 1) := by decide +kernel
theorem dX7_side_87 : decode cX7_side 87 = .ok (.getfield 149, 3) := by decide +kernel
theorem dX7_side_90 : decode cX7_side 90 = .ok (.if_icmp .ne 12, 3) := by decide +kernel
theorem dX7_side_93 : decode cX7_side 93 = .ok (.aload_n 0, 1) := by decide +kernel
theorem dX7_side_94 : decode cX7_side 94 = .ok (.getfield 50, 3) := by decide +kernel
theorem dX7_side_97 : decode cX7_side 97 = .ok (.aload 4, 2) := by decide +kernel
theorem dX7_side_99 : decode cX7_side 99 = .ok (.invokevirtual 231, 3) := by decide +kernel
theorem dX7_side_102 : decode cX7_side 102 = .ok (.iinc 3 1, 3) := by decide +kernel
theorem dX7_side_105 : decode cX7_side 105 = .ok (.goto (-65), 3) := by decide +kernel
theorem dX7_side_108 : decode cX7_side 108 = .ok (.aload_n 0, 1) := by decide +kernel
theorem dX7_side_109 : decode cX7_side 109 = .ok (.aload_n 0, 1) := by decide +kernel
theorem dX7_side_110 : decode cX7_side 110 = .ok (.getfield 50, 3) := by decide +kernel
theorem dX7_side_113 : decode cX7_side 113 = .ok (.getfield 235, 3) := by decide +kernel
theorem dX7_side_116 : decode cX7_side 116 = .ok (.invokevirtual 93, 3) := by decide +kernel
theorem dX7_side_119 : decode cX7_side 119 = .ok (.ireturn, 1) := by decide +kernel
theorem dX7_sides_0 : decode cX7_sides 0 = .ok (.aload_n 0, 1) := by decide +kernel
theorem dX7_sides_1 : decode cX7_sides 1 = .ok (.getfield 50, 3) := by decide +kernel
theorem dX7_sides_4 : decode cX7_sides 4 = .ok (.getfield 238, 3) := by decide +kernel
theorem dX7_sides_7 : decode cX7_sides 7 = .ok (.ifCond .ne 5, 3) := by decide +kernel
theorem dX7_sides_10 : decode cX7_sides 10 = .ok (.iconst (-1), 1) := by decide +kernel
theorem dX7_sides_11 : decode cX7_sides 11 = .ok (.ireturn, 1) := by decide +kernel
theorem dX7_sides_12 : decode cX7_sides 12 = .ok (.iload_n 1, 1) := by decide +kernel
theorem dX7_sides_13 : decode cX7_sides 13 = .ok (.tableswitch 83 0 4 #[35, 43, 51, 59, 67], 35) := by decide +kernel
theorem dX7_sides_48 : decode cX7_sides 48 = .ok (.aload_n 0, 1) := by decide +kernel
theorem dX7_sides_49 : decode cX7_sides 49 = .ok (.getfield 50, 3) := by decide +kernel
theorem dX7_sides_52 : decode cX7_sides 52 = .ok (.getfield 242, 3) := by decide +kernel
theorem dX7_sides_55 : decode cX7_sides 55 = .ok (.ireturn, 1) := by decide +kernel
theorem dX7_sides_56 : decode cX7_sides 56 = .ok (.aload_n 0, 1) := by decide +kernel
theorem dX7_sides_57 : decode cX7_sides 57 = .ok (.getfield 50, 3) := by decide +kernel
theorem dX7_sides_60 : decode cX7_sides 60 = .ok (.getfield 245, 3) := by decide +kernel
theorem dX7_sides_63 : decode cX7_sides 63 = .ok (.ireturn, 1) := by decide +kernel
theorem dX7_sides_64 : decode cX7_sides 64 = .ok (.aload_n 0, 1) := by decide +kernel
theorem dX7_sides_65 : decode cX7_sides 65 = .ok (.getfield 50, 3) := by decide +kernel
theorem dX7_sides_68 : decode cX7_sides 68 = .ok (.getfield 248, 3) := by decide +kernel
theorem dX7_sides_71 : decode cX7_sides 71 = .ok (.ireturn, 1) := by decide +kernel
theorem dX7_sides_72 : decode cX7_sides 72 = .ok (.aload_n 0, 1) := by decide +kernel
theorem dX7_sides_73 : decode cX7_sides 73 = .ok (.getfield 50, 3) := by decide +kernel
theorem dX7_sides_76 : decode cX7_sides 76 = .ok (.getfield 251, 3) := by decide +kernel
theorem dX7_sides_79 : decode cX7_sides 79 = .ok (.ireturn, 1) := by decide +kernel
theorem dX7_sides_80 : decode cX7_sides 80 = .ok (.aload_n 0, 1) := by decide +kernel
theorem dX7_sides_81 : decode cX7_sides 81 = .ok (.getfield 50, 3) := by decide +kernel
theorem dX7_sides_84 : decode cX7_sides 84 = .ok (.invokevirtual 254, 3) := by decide +kernel
theorem dX7_sides_87 : decode cX7_sides 87 = .ok (.ifCond .eq 7, 3) := by decide +kernel
theorem dX7_sides_90 : decode cX7_sides 90 = .ok (.iconst 1, 1) := by decide +kernel
theorem dX7_sides_91 : decode cX7_sides 91 = .ok (.goto 4, 3) := by decide +kernel
theorem dX7_sides_94 : decode cX7_sides 94 = .ok (.iconst 0, 1) := by decide +kernel
theorem dX7_sides_95 : decode cX7_sides 95 = .ok (.ireturn, 1) := by decide +kernel
theorem dX7_sides_96 : decode cX7_sides 96 = .ok (.iconst (-1), 1) := by decide +kernel
theorem dX7_sides_97 : decode cX7_sides 97 = .ok (.ireturn, 1) := by decide +kernel
theorem dX7_expect_0 : decode cX7_expect 0 = .ok (.aload_n 0, 1) := by decide +kernel
theorem dX7_expect_1 : decode cX7_expect 1 = .ok (.iload_n 1, 1) := by decide +kernel
theorem dX7_expect_2 : decode cX7_expect 2 = .ok (.invokevirtual 126, 3) := by decide +kernel
theorem dX7_expect_5 : decode cX7_expect 5 = .ok (.astore 5, 2) := by decide +kernel
theorem dX7_expect_7 : decode cX7_expect 7 = .ok (.aload 5, 2) := by decide +kernel
theorem dX7_expect_9 : decode cX7_expect 9 = .ok (.ifnull 11, 3) := by decide +kernel
theorem dX7_expect_12 : decode cX7_expect 12 = .ok (.iload_n 2, 1) := by decide +kernel
theorem dX7_expect_13 : decode cX7_expect 13 = .ok (.iload_n 3, 1) := by decide +kernel
theorem dX7_expect_14 : decode cX7_expect 14 = .ok (.invokestatic 257, 3) := by decide +kernel
theorem dX7_expect_17 : decode cX7_expect 17 = .ok (.ifCond .ne 9, 3) := by decide +kernel
theorem dX7_expect_20 : decode cX7_expect 20 = .ok (.aload_n 0, 1) := by decide +kernel
theorem dX7_expect_21 : decode cX7_expect 21 = .ok (.iconst 1, 1) := by decide +kernel
theorem dX7_expect_22 : decode cX7_expect 22 = .ok (.invokevirtual 109, 3) := by decide +kernel
theorem dX7_expect_25 : decode cX7_expect 25 = .ok (.ireturn, 1) := by decide +kernel
theorem dX7_expect_26 : decode cX7_expect 26 = .ok (.iload 4, 2) := by decide +kernel
theorem dX7_expect_28 : decode cX7_expect 28 = .ok (.ifCond .lt 11, 3) := by decide +kernel
theorem dX7_expect_31 : decode cX7_expect 31 = .ok (.iload 4, 2) := by decide +kernel
theorem dX7_expect_33 : decode cX7_expect 33 = .ok (.sipush 1000, 3) := by decide +kernel
theorem dX7_expect_36 : decode cX7_expect 36 = .ok (.if_icmp .le 9, 3) := by decide +kernel
theorem dX7_expect_39 : decode cX7_expect 39 = .ok (.aload_n 0, 1) := by decide +kernel
theorem dX7_expect_40 : decode cX7_expect 40 = .ok (.iconst 2, 1) := by decide +kernel
theorem dX7_expect_41 : decode cX7_expect 41 = .ok (.invokevirtual 109, 3) := by decide +kernel
theorem dX7_expect_44 : decode cX7_expect 44 = .ok (.ireturn, 1) := by decide +kernel
theorem dX7_expect_45 : decode cX7_expect 45 = .ok (.aload 5, 2) := by decide +kernel
theorem dX7_expect_47 : decode cX7_expect 47 = .ok (.getfield 261, 3) := by decide +kernel
theorem dX7_expect_50 : decode cX7_expect 50 = .ok (.iload_n 2, 1) := by decide +kernel
theorem dX7_expect_51 : decode cX7_expect 51 = .ok (.iconst 4, 1) := by decide +kernel
theorem dX7_expect_52 : decode cX7_expect 52 = .ok (.imul, 1) := by decide +kernel
theorem dX7_expect_53 : decode cX7_expect 53 = .ok (.iload_n 3, 1) := by decide +kernel
theorem dX7_expect_54 : decode cX7_expect 54 = .ok (.iadd, 1) := by decide +kernel
theorem dX7_expect_55 : decode cX7_expect 55 = .ok (.iload 4, 2) := by decide +kernel
theorem dX7_expect_57 : decode cX7_expect 57 = .ok (.iastore, 1) := by decide +kernel
theorem dX7_expect_58 : decode cX7_expect 58 = .ok (.aload_n 0, 1) := by decide +kernel
theorem dX7_expect_59 : decode cX7_expect 59 = .ok (.invokevirtual 113, 3) := by decide +kernel
theorem dX7_expect_62 : decode cX7_expect 62 = .ok (.ireturn, 1) := by decide +kernel
theorem dX7_drift_0 : decode cX7_drift 0 = .ok (.aload_n 0, 1) := by decide +kernel
theorem dX7_drift_1 : decode cX7_drift 1 = .ok (.iload_n 1, 1) := by decide +kernel
theorem dX7_drift_2 : decode cX7_drift 2 = .ok (.invokevirtual 126, 3) := by decide +kernel
theorem dX7_drift_5 : decode cX7_drift 5 = .ok (.astore_n 3, 1) := by decide +kernel
theorem dX7_drift_6 : decode cX7_drift 6 = .ok (.aload_n 3, 1) := by decide +kernel
theorem dX7_drift_7 : decode cX7_drift 7 = .ok (.ifnull 13, 3) := by decide +kernel
theorem dX7_drift_10 : decode cX7_drift 10 = .ok (.iload_n 2, 1) := by decide +kernel
theorem dX7_drift_11 : decode cX7_drift 11 = .ok (.ifCond .lt 9, 3) := by decide +kernel
theorem dX7_drift_14 : decode cX7_drift 14 = .ok (.iload_n 2, 1) := by decide +kernel
theorem dX7_drift_15 : decode cX7_drift 15 = .ok (.bipush 6, 2) := by decide +kernel
theorem dX7_drift_17 : decode cX7_drift 17 = .ok (.if_icmp .lt 5, 3) := by decide +kernel
theorem dX7_drift_20 : decode cX7_drift 20 = .ok (.iconst (-1), 1) := by decide +kernel
theorem dX7_drift_21 : decode cX7_drift 21 = .ok (.ireturn, 1) := by decide +kernel
theorem dX7_drift_22 : decode cX7_drift 22 = .ok (.aload_n 3, 1) := by decide +kernel
theorem dX7_drift_23 : decode cX7_drift 23 = .ok (.iload_n 2, 1) := by decide +kernel
theorem dX7_drift_24 : decode cX7_drift 24 = .ok (.invokevirtual 264, 3) := by decide +kernel
theorem dX7_drift_27 : decode cX7_drift 27 = .ok (.ireturn, 1) := by decide +kernel
theorem dX7_seen_0 : decode cX7_seen 0 = .ok (.aload_n 0, 1) := by decide +kernel
theorem dX7_seen_1 : decode cX7_seen 1 = .ok (.iload_n 1, 1) := by decide +kernel
theorem dX7_seen_2 : decode cX7_seen 2 = .ok (.invokevirtual 126, 3) := by decide +kernel
theorem dX7_seen_5 : decode cX7_seen 5 = .ok (.astore 4, 2) := by decide +kernel
theorem dX7_seen_7 : decode cX7_seen 7 = .ok (.aload 4, 2) := by decide +kernel
theorem dX7_seen_9 : decode cX7_seen 9 = .ok (.ifnull 11, 3) := by decide +kernel
theorem dX7_seen_12 : decode cX7_seen 12 = .ok (.iload_n 2, 1) := by decide +kernel
theorem dX7_seen_13 : decode cX7_seen 13 = .ok (.iload_n 3, 1) := by decide +kernel
theorem dX7_seen_14 : decode cX7_seen 14 = .ok (.invokestatic 257, 3) := by decide +kernel
theorem dX7_seen_17 : decode cX7_seen 17 = .ok (.ifCond .ne 5, 3) := by decide +kernel
theorem dX7_seen_20 : decode cX7_seen 20 = .ok (.iconst (-1), 1) := by decide +kernel
theorem dX7_seen_21 : decode cX7_seen 21 = .ok (.ireturn, 1) := by decide +kernel
theorem dX7_seen_22 : decode cX7_seen 22 = .ok (.aload 4, 2) := by decide +kernel
theorem dX7_seen_24 : decode cX7_seen 24 = .ok (.iload_n 2, 1) := by decide +kernel
theorem dX7_seen_25 : decode cX7_seen 25 = .ok (.iload_n 3, 1) := by decide +kernel
theorem dX7_seen_26 : decode cX7_seen 26 = .ok (.invokevirtual 267, 3) := by decide +kernel
theorem dX7_seen_29 : decode cX7_seen 29 = .ok (.ireturn, 1) := by decide +kernel
theorem dX7_gave_0 : decode cX7_gave 0 = .ok (.aload_n 0, 1) := by decide +kernel
theorem dX7_gave_1 : decode cX7_gave 1 = .ok (.iload_n 1, 1) := by decide +kernel
theorem dX7_gave_2 : decode cX7_gave 2 = .ok (.invokevirtual 99, 3) := by decide +kernel
theorem dX7_gave_5 : decode cX7_gave 5 = .ok (.ifnonnull 5, 3) := by decide +kernel
theorem dX7_gave_8 : decode cX7_gave 8 = .ok (.iconst (-1), 1) := by decide +kernel
theorem dX7_gave_9 : decode cX7_gave 9 = .ok (.ireturn, 1) := by decide +kernel
theorem dX7_gave_10 : decode cX7_gave 10 = .ok (.iconst 0, 1) := by decide +kernel
theorem dX7_gave_11 : decode cX7_gave 11 = .ok (.istore 4, 2) := by decide +kernel
theorem dX7_gave_13 : decode cX7_gave 13 = .ok (.iconst 0, 1) := by decide +kernel
theorem dX7_gave_14 : decode cX7_gave 14 = .ok (.istore 5, 2) := by decide +kernel
theorem dX7_gave_16 : decode cX7_gave 16 = .ok (.iload 5, 2) := by decide +kernel
theorem dX7_gave_18 : decode cX7_gave 18 = .ok (.aload_n 0, 1) := by decide +kernel
theorem dX7_gave_19 : decode cX7_gave 19 = .ok (.getfield 178, 3) := by decide +kernel
theorem dX7_gave_22 : decode cX7_gave 22 = .ok (.if_icmp .ge 52, 3) := by decide +kernel
theorem dX7_gave_25 : decode cX7_gave 25 = .ok (.aload_n 0, 1) := by decide +kernel
theorem dX7_gave_26 : decode cX7_gave 26 = .ok (.iload 5, 2) := by decide +kernel
theorem dX7_gave_28 : decode cX7_gave 28 = .ok (.invokevirtual 195, 3) := by decide +kernel
theorem dX7_gave_31 : decode cX7_gave 31 = .ok (.astore 6, 2) := by decide +kernel
theorem dX7_gave_33 : decode cX7_gave 33 = .ok (.aload 6, 2) := by decide +kernel
theorem dX7_gave_35 : decode cX7_gave 35 = .ok (.ifnull 33, 3) := by decide +kernel
theorem dX7_gave_38 : decode cX7_gave 38 = .ok (.aload 6, 2) := by decide +kernel
theorem dX7_gave_40 : decode cX7_gave 40 = .ok (.getfield 208, 3) := by decide +kernel
theorem dX7_gave_43 : decode cX7_gave 43 = .ok (.iload_n 1, 1) := by decide +kernel
theorem dX7_gave_44 : decode cX7_gave 44 = .ok (.if_icmp .ne 24, 3) := by decide +kernel
theorem dX7_gave_47 : decode cX7_gave 47 = .ok (.aload 6, 2) := by decide +kernel
theorem dX7_gave_49 : decode cX7_gave 49 = .ok (.getfield 205, 3) := by decide +kernel
theorem dX7_gave_52 : decode cX7_gave 52 = .ok (.iload_n 2, 1) := by decide +kernel
theorem dX7_gave_53 : decode cX7_gave 53 = .ok (.if_icmp .lt 15, 3) := by decide +kernel
theorem dX7_gave_56 : decode cX7_gave 56 = .ok (.aload 6, 2) := by decide +kernel
theorem dX7_gave_58 : decode cX7_gave 58 = .ok (.getfield 205, 3) := by decide +kernel
theorem dX7_gave_61 : decode cX7_gave 61 = .ok (.iload_n 3, 1) := by decide +kernel
theorem dX7_gave_62 : decode cX7_gave 62 = .ok (.if_icmp .gt 6, 3) := by decide +kernel
theorem dX7_gave_65 : decode cX7_gave 65 = .ok (.iinc 4 1, 3) := by decide +kernel
theorem dX7_gave_68 : decode cX7_gave 68 = .ok (.iinc 5 1, 3) := by decide +kernel
theorem dX7_gave_71 : decode cX7_gave 71 = .ok (.goto (-55), 3) := by decide +kernel
theorem dX7_gave_74 : decode cX7_gave 74 = .ok (.iload 4, 2) := by decide +kernel
theorem dX7_gave_76 : decode cX7_gave 76 = .ok (.ireturn, 1) := by decide +kernel
theorem dX7_differs_0 : decode cX7_differs 0 = .ok (.aload_n 0, 1) := by decide +kernel
theorem dX7_differs_1 : decode cX7_differs 1 = .ok (.iload_n 2, 1) := by decide +kernel
theorem dX7_differs_2 : decode cX7_differs 2 = .ok (.invokevirtual 99, 3) := by decide +kernel
theorem dX7_differs_5 : decode cX7_differs 5 = .ok (.astore_n 3, 1) := by decide +kernel
theorem dX7_differs_6 : decode cX7_differs 6 = .ok (.aload_n 0, 1) := by decide +kernel
theorem dX7_differs_7 : decode cX7_differs 7 = .ok (.iload_n 1, 1) := by decide +kernel
theorem dX7_differs_8 : decode cX7_differs 8 = .ok (.invokevirtual 126, 3) := by decide +kernel
theorem dX7_differs_11 : decode cX7_differs 11 = .ok (.ifnull 7, 3) := by decide +kernel
theorem dX7_differs_14 : decode cX7_differs 14 = .ok (.aload_n 3, 1) := by decide +kernel
theorem dX7_differs_15 : decode cX7_differs 15 = .ok (.ifnonnull 5, 3) := by decide +kernel
theorem dX7_differs_18 : decode cX7_differs 18 = .ok (.iconst (-1), 1) := by decide +kernel
theorem dX7_differs_19 : decode cX7_differs 19 = .ok (.ireturn, 1) := by decide +kernel
theorem dX7_differs_20 : decode cX7_differs 20 = .ok (.aload_n 0, 1) := by decide +kernel
theorem dX7_differs_21 : decode cX7_differs 21 = .ok (.iconst 0, 1) := by decide +kernel
theorem dX7_differs_22 : decode cX7_differs 22 = .ok (.putfield 271, 3) := by decide +kernel
theorem dX7_differs_25 : decode cX7_differs 25 = .ok (.iconst 0, 1) := by decide +kernel
theorem dX7_differs_26 : decode cX7_differs 26 = .ok (.istore 4, 2) := by decide +kernel
theorem dX7_differs_28 : decode cX7_differs 28 = .ok (.iload 4, 2) := by decide +kernel
theorem dX7_differs_30 : decode cX7_differs 30 = .ok (.aload_n 0, 1) := by decide +kernel
theorem dX7_differs_31 : decode cX7_differs 31 = .ok (.getfield 178, 3) := by decide +kernel
theorem dX7_differs_34 : decode cX7_differs 34 = .ok (.if_icmp .ge 58, 3) := by decide +kernel
theorem dX7_differs_37 : decode cX7_differs 37 = .ok (.aload_n 0, 1) := by decide +kernel
theorem dX7_differs_38 : decode cX7_differs 38 = .ok (.iload 4, 2) := by decide +kernel
theorem dX7_differs_40 : decode cX7_differs 40 = .ok (.invokevirtual 195, 3) := by decide +kernel
theorem dX7_differs_43 : decode cX7_differs 43 = .ok (.astore 5, 2) := by decide +kernel
theorem dX7_differs_45 : decode cX7_differs 45 = .ok (.aload 5, 2) := by decide +kernel
theorem dX7_differs_47 : decode cX7_differs 47 = .ok (.ifnull 39, 3) := by decide +kernel
theorem dX7_differs_50 : decode cX7_differs 50 = .ok (.aload 5, 2) := by decide +kernel
theorem dX7_differs_52 : decode cX7_differs 52 = .ok (.getfield 199, 3) := by decide +kernel
theorem dX7_differs_55 : decode cX7_differs 55 = .ok (.iload_n 1, 1) := by decide +kernel
theorem dX7_differs_56 : decode cX7_differs 56 = .ok (.if_icmp .ne 30, 3) := by decide +kernel
theorem dX7_differs_59 : decode cX7_differs 59 = .ok (.aload_n 0, 1) := by decide +kernel
theorem dX7_differs_60 : decode cX7_differs 60 = .ok (.getfield 21, 3) := by decide +kernel
theorem dX7_differs_63 : decode cX7_differs 63 = .ok (.aload_n 3, 1) := by decide +kernel
theorem dX7_differs_64 : decode cX7_differs 64 = .ok (.aload 5, 2) := by decide +kernel
theorem dX7_differs_66 : decode cX7_differs 66 = .ok (.getfield 225, 3) := by decide +kernel
theorem dX7_differs_69 : decode cX7_differs 69 = .ok (.invokevirtual 118, 3) := by decide +kernel
theorem dX7_differs_72 : decode cX7_differs 72 = .ok (.aload 5, 2) := by decide +kernel
theorem dX7_differs_74 : decode cX7_differs 74 = .ok (.getfield 213, 3) := by decide +kernel
theorem dX7_differs_77 : decode cX7_differs 77 = .ok (.if_icmp .eq 9, 3) := by decide +kernel
theorem dX7_differs_80 : decode cX7_differs 80 = .ok (.aload_n 0, 1) := by decide +kernel
theorem dX7_differs_81 : decode cX7_differs 81 = .ok (.iload 4, 2) := by decide +kernel
theorem dX7_differs_83 : decode cX7_differs 83 = .ok (.invokevirtual 274, 3) := by decide +kernel
theorem dX7_differs_86 : decode cX7_differs 86 = .ok (.iinc 4 1, 3) := by decide +kernel
theorem dX7_differs_89 : decode cX7_differs 89 = .ok (.goto (-61), 3) := by decide +kernel
theorem dX7_differs_92 : decode cX7_differs 92 = .ok (.aload_n 0, 1) := by decide +kernel
theorem dX7_differs_93 : decode cX7_differs 93 = .ok (.getfield 271, 3) := by decide +kernel
theorem dX7_differs_96 : decode cX7_differs 96 = .ok (.ireturn, 1) := by decide +kernel
theorem dX7_differing_0 : decode cX7_differing 0 = .ok (.iload_n 1, 1) := by decide +kernel
theorem dX7_differing_1 : decode cX7_differing 1 = .ok (.ifCond .lt 20, 3) := by decide +kernel
theorem dX7_differing_4 : decode cX7_differing 4 = .ok (.iload_n 1, 1) := by decide +kernel
theorem dX7_differing_5 : decode cX7_differing 5 = .ok (.aload_n 0, 1) := by decide +kernel
theorem dX7_differing_6 : decode cX7_differing 6 = .ok (.getfield 271, 3) := by decide +kernel
theorem dX7_differing_9 : decode cX7_differing 9 = .ok (.if_icmp .ge 12, 3) := by decide +kernel
theorem dX7_differing_12 : decode cX7_differing 12 = .ok (.iload_n 1, 1) := by decide +kernel
theorem dX7_differing_13 : decode cX7_differing 13 = .ok (.aload_n 0, 1) := by decide +kernel
theorem dX7_differing_14 : decode cX7_differing 14 = .ok (.getfield 54, 3) := by decide +kernel
theorem dX7_differing_17 : decode cX7_differing 17 = .ok (.arraylength, 1) := by decide +kernel
theorem dX7_differing_18 : decode cX7_differing 18 = .ok (.if_icmp .lt 14, 3) := by decide +kernel
theorem dX7_differing_21 : decode cX7_differing 21 = .ok (.new 277, 3) := by decide +kernel
theorem dX7_differing_24 : decode cX7_differing 24 = .ok (.dup, 1) := by decide +kernel
theorem dX7_differing_25 : decode cX7_differing 25 = .ok (.ldc_w 279, 3) := by decide +kernel
theorem dX7_differing_28 : decode cX7_differing 28 = .ok (.invokespecial 281, 3) := by decide +kernel
theorem dX7_differing_31 : decode cX7_differing 31 = .ok (.athrow, 1) := by decide +kernel
theorem dX7_differing_32 : decode cX7_differing 32 = .ok (.aload_n 0, 1) := by decide +kernel
theorem dX7_differing_33 : decode cX7_differing 33 = .ok (.getfield 54, 3) := by decide +kernel
theorem dX7_differing_36 : decode cX7_differing 36 = .ok (.iload_n 1, 1) := by decide +kernel
theorem dX7_differing_37 : decode cX7_differing 37 = .ok (.iaload, 1) := by decide +kernel
theorem dX7_differing_38 : decode cX7_differing 38 = .ok (.ireturn, 1) := by decide +kernel
theorem dX7_count_0 : decode cX7_count 0 = .ok (.iload_n 1, 1) := by decide +kernel
theorem dX7_count_1 : decode cX7_count 1 = .ok (.tableswitch 66 0 4 #[35, 40, 45, 50, 55], 35) := by decide +kernel
theorem dX7_count_36 : decode cX7_count 36 = .ok (.aload_n 0, 1) := by decide +kernel
theorem dX7_count_37 : decode cX7_count 37 = .ok (.getfield 87, 3) := by decide +kernel
theorem dX7_count_40 : decode cX7_count 40 = .ok (.ireturn, 1) := by decide +kernel
theorem dX7_count_41 : decode cX7_count 41 = .ok (.aload_n 0, 1) := by decide +kernel
theorem dX7_count_42 : decode cX7_count 42 = .ok (.getfield 122, 3) := by decide +kernel
theorem dX7_count_45 : decode cX7_count 45 = .ok (.ireturn, 1) := by decide +kernel
theorem dX7_count_46 : decode cX7_count 46 = .ok (.aload_n 0, 1) := by decide +kernel
theorem dX7_count_47 : decode cX7_count 47 = .ok (.getfield 178, 3) := by decide +kernel
theorem dX7_count_50 : decode cX7_count 50 = .ok (.ireturn, 1) := by decide +kernel
theorem dX7_count_51 : decode cX7_count 51 = .ok (.aload_n 0, 1) := by decide +kernel
theorem dX7_count_52 : decode cX7_count 52 = .ok (.getfield 142, 3) := by decide +kernel
theorem dX7_count_55 : decode cX7_count 55 = .ok (.ireturn, 1) := by decide +kernel
theorem dX7_count_56 : decode cX7_count 56 = .ok (.aload_n 0, 1) := by decide +kernel
theorem dX7_count_57 : decode cX7_count 57 = .ok (.getfield 12, 3) := by decide +kernel
theorem dX7_count_60 : decode cX7_count 60 = .ok (.getfield 57, 3) := by decide +kernel
theorem dX7_count_63 : decode cX7_count 63 = .ok (.getfield 61, 3) := by decide +kernel
theorem dX7_count_66 : decode cX7_count 66 = .ok (.ireturn, 1) := by decide +kernel
theorem dX7_count_67 : decode cX7_count 67 = .ok (.iconst (-1), 1) := by decide +kernel
theorem dX7_count_68 : decode cX7_count 68 = .ok (.ireturn, 1) := by decide +kernel
theorem dX7_trouble_0 : decode cX7_trouble 0 = .ok (.aload_n 0, 1) := by decide +kernel
theorem dX7_trouble_1 : decode cX7_trouble 1 = .ok (.getfield 96, 3) := by decide +kernel
theorem dX7_trouble_4 : decode cX7_trouble 4 = .ok (.ireturn, 1) := by decide +kernel
theorem dX7_refuse_0 : decode cX7_refuse 0 = .ok (.aload_n 0, 1) := by decide +kernel
theorem dX7_refuse_1 : decode cX7_refuse 1 = .ok (.iload_n 1, 1) := by decide +kernel
theorem dX7_refuse_2 : decode cX7_refuse 2 = .ok (.putfield 96, 3) := by decide +kernel
theorem dX7_refuse_5 : decode cX7_refuse 5 = .ok (.iconst (-1), 1) := by decide +kernel
theorem dX7_refuse_6 : decode cX7_refuse 6 = .ok (.ireturn, 1) := by decide +kernel
theorem dX7_grant_0 : decode cX7_grant 0 = .ok (.aload_n 0, 1) := by decide +kernel
theorem dX7_grant_1 : decode cX7_grant 1 = .ok (.iconst 0, 1) := by decide +kernel
theorem dX7_grant_2 : decode cX7_grant 2 = .ok (.putfield 96, 3) := by decide +kernel
theorem dX7_grant_5 : decode cX7_grant 5 = .ok (.iload_n 1, 1) := by decide +kernel
theorem dX7_grant_6 : decode cX7_grant 6 = .ok (.ireturn, 1) := by decide +kernel
theorem dX7_deny_0 : decode cX7_deny 0 = .ok (.aload_n 0, 1) := by decide +kernel
theorem dX7_deny_1 : decode cX7_deny 1 = .ok (.iload_n 1, 1) := by decide +kernel
theorem dX7_deny_2 : decode cX7_deny 2 = .ok (.putfield 96, 3) := by decide +kernel
theorem dX7_deny_5 : decode cX7_deny 5 = .ok (.iconst 0, 1) := by decide +kernel
theorem dX7_deny_6 : decode cX7_deny 6 = .ok (.ireturn, 1) := by decide +kernel
theorem dX7_allow_0 : decode cX7_allow 0 = .ok (.aload_n 0, 1) := by decide +kernel
theorem dX7_allow_1 : decode cX7_allow 1 = .ok (.iconst 0, 1) := by decide +kernel
theorem dX7_allow_2 : decode cX7_allow 2 = .ok (.putfield 96, 3) := by decide +kernel
theorem dX7_allow_5 : decode cX7_allow 5 = .ok (.iconst 1, 1) := by decide +kernel
theorem dX7_allow_6 : decode cX7_allow 6 = .ok (.ireturn, 1) := by decide +kernel
theorem dX7_modelAt_0 : decode cX7_modelAt 0 = .ok (.iload_n 1, 1) := by decide +kernel
theorem dX7_modelAt_1 : decode cX7_modelAt 1 = .ok (.ifCond .lt 21, 3) := by decide +kernel
theorem dX7_modelAt_4 : decode cX7_modelAt 4 = .ok (.iload_n 1, 1) := by decide +kernel
theorem dX7_modelAt_5 : decode cX7_modelAt 5 = .ok (.aload_n 0, 1) := by decide +kernel
theorem dX7_modelAt_6 : decode cX7_modelAt 6 = .ok (.getfield 27, 3) := by decide +kernel
theorem dX7_modelAt_9 : decode cX7_modelAt 9 = .ok (.arraylength, 1) := by decide +kernel
theorem dX7_modelAt_10 : decode cX7_modelAt 10 = .ok (.if_icmp .ge 12, 3) := by decide +kernel
theorem dX7_modelAt_13 : decode cX7_modelAt 13 = .ok (.aload_n 0, 1) := by decide +kernel
theorem dX7_modelAt_14 : decode cX7_modelAt 14 = .ok (.getfield 27, 3) := by decide +kernel
theorem dX7_modelAt_17 : decode cX7_modelAt 17 = .ok (.iload_n 1, 1) := by decide +kernel
theorem dX7_modelAt_18 : decode cX7_modelAt 18 = .ok (.aaload, 1) := by decide +kernel
theorem dX7_modelAt_19 : decode cX7_modelAt 19 = .ok (.goto 4, 3) := by decide +kernel
theorem dX7_modelAt_22 : decode cX7_modelAt 22 = .ok (.aconst_null, 1) := by decide +kernel
theorem dX7_modelAt_23 : decode cX7_modelAt 23 = .ok (.areturn, 1) := by decide +kernel
theorem dX7_doorAt_0 : decode cX7_doorAt 0 = .ok (.iload_n 1, 1) := by decide +kernel
theorem dX7_doorAt_1 : decode cX7_doorAt 1 = .ok (.ifCond .lt 21, 3) := by decide +kernel
theorem dX7_doorAt_4 : decode cX7_doorAt 4 = .ok (.iload_n 1, 1) := by decide +kernel
theorem dX7_doorAt_5 : decode cX7_doorAt 5 = .ok (.aload_n 0, 1) := by decide +kernel
theorem dX7_doorAt_6 : decode cX7_doorAt 6 = .ok (.getfield 33, 3) := by decide +kernel
theorem dX7_doorAt_9 : decode cX7_doorAt 9 = .ok (.arraylength, 1) := by decide +kernel
theorem dX7_doorAt_10 : decode cX7_doorAt 10 = .ok (.if_icmp .ge 12, 3) := by decide +kernel
theorem dX7_doorAt_13 : decode cX7_doorAt 13 = .ok (.aload_n 0, 1) := by decide +kernel
theorem dX7_doorAt_14 : decode cX7_doorAt 14 = .ok (.getfield 33, 3) := by decide +kernel
theorem dX7_doorAt_17 : decode cX7_doorAt 17 = .ok (.iload_n 1, 1) := by decide +kernel
theorem dX7_doorAt_18 : decode cX7_doorAt 18 = .ok (.aaload, 1) := by decide +kernel
theorem dX7_doorAt_19 : decode cX7_doorAt 19 = .ok (.goto 4, 3) := by decide +kernel
theorem dX7_doorAt_22 : decode cX7_doorAt 22 = .ok (.aconst_null, 1) := by decide +kernel
theorem dX7_doorAt_23 : decode cX7_doorAt 23 = .ok (.areturn, 1) := by decide +kernel
theorem dX7_answerAt_0 : decode cX7_answerAt 0 = .ok (.iload_n 1, 1) := by decide +kernel
theorem dX7_answerAt_1 : decode cX7_answerAt 1 = .ok (.ifCond .lt 21, 3) := by decide +kernel
theorem dX7_answerAt_4 : decode cX7_answerAt 4 = .ok (.iload_n 1, 1) := by decide +kernel
theorem dX7_answerAt_5 : decode cX7_answerAt 5 = .ok (.aload_n 0, 1) := by decide +kernel
theorem dX7_answerAt_6 : decode cX7_answerAt 6 = .ok (.getfield 39, 3) := by decide +kernel
theorem dX7_answerAt_9 : decode cX7_answerAt 9 = .ok (.arraylength, 1) := by decide +kernel
theorem dX7_answerAt_10 : decode cX7_answerAt 10 = .ok (.if_icmp .ge 12, 3) := by decide +kernel
theorem dX7_answerAt_13 : decode cX7_answerAt 13 = .ok (.aload_n 0, 1) := by decide +kernel
theorem dX7_answerAt_14 : decode cX7_answerAt 14 = .ok (.getfield 39, 3) := by decide +kernel
theorem dX7_answerAt_17 : decode cX7_answerAt 17 = .ok (.iload_n 1, 1) := by decide +kernel
theorem dX7_answerAt_18 : decode cX7_answerAt 18 = .ok (.aaload, 1) := by decide +kernel
theorem dX7_answerAt_19 : decode cX7_answerAt 19 = .ok (.goto 4, 3) := by decide +kernel
theorem dX7_answerAt_22 : decode cX7_answerAt 22 = .ok (.aconst_null, 1) := by decide +kernel
theorem dX7_answerAt_23 : decode cX7_answerAt 23 = .ok (.areturn, 1) := by decide +kernel
theorem dX7_noteDiffering_0 : decode cX7_noteDiffering 0 = .ok (.aload_n 0, 1) := by decide +kernel
theorem dX7_noteDiffering_1 : decode cX7_noteDiffering 1 = .ok (.getfield 271, 3) := by decide +kernel
theorem dX7_noteDiffering_4 : decode cX7_noteDiffering 4 = .ok (.aload_n 0, 1) := by decide +kernel
theorem dX7_noteDiffering_5 : decode cX7_noteDiffering 5 = .ok (.getfield 54, 3) := by decide +kernel
theorem dX7_noteDiffering_8 : decode cX7_noteDiffering 8 = .ok (.arraylength, 1) := by decide +kernel
theorem dX7_noteDiffering_9 : decode cX7_noteDiffering 9 = .ok (.if_icmp .ge 23, 3) := by decide +kernel
theorem dX7_noteDiffering_12 : decode cX7_noteDiffering 12 = .ok (.aload_n 0, 1) := by decide +kernel
theorem dX7_noteDiffering_13 : decode cX7_noteDiffering 13 = .ok (.getfield 54, 3) := by decide +kernel
theorem dX7_noteDiffering_16 : decode cX7_noteDiffering 16 = .ok (.aload_n 0, 1) := by decide +kernel
theorem dX7_noteDiffering_17 : decode cX7_noteDiffering 17 = .ok (.getfield 271, 3) := by decide +kernel
theorem dX7_noteDiffering_20 : decode cX7_noteDiffering 20 = .ok (.iload_n 1, 1) := by decide +kernel
theorem dX7_noteDiffering_21 : decode cX7_noteDiffering 21 = .ok (.iastore, 1) := by decide +kernel
theorem dX7_noteDiffering_22 : decode cX7_noteDiffering 22 = .ok (.aload_n 0, 1) := by decide +kernel
theorem dX7_noteDiffering_23 : decode cX7_noteDiffering 23 = .ok (.dup, 1) := by decide +kernel
theorem dX7_noteDiffering_24 : decode cX7_noteDiffering 24 = .ok (.getfield 271, 3) := by decide +kernel
theorem dX7_noteDiffering_27 : decode cX7_noteDiffering 27 = .ok (.iconst 1, 1) := by decide +kernel
theorem dX7_noteDiffering_28 : decode cX7_noteDiffering 28 = .ok (.iadd, 1) := by decide +kernel
theorem dX7_noteDiffering_29 : decode cX7_noteDiffering 29 = .ok (.putfield 271, 3) := by decide +kernel
theorem dX7_noteDiffering_32 : decode cX7_noteDiffering 32 = .ok (.return_, 1) := by decide +kernel
theorem dX7_isBin_0 : decode cX7_isBin 0 = .ok (.iload_n 0, 1) := by decide +kernel
theorem dX7_isBin_1 : decode cX7_isBin 1 = .ok (.ifCond .lt 22, 3) := by decide +kernel
theorem dX7_isBin_4 : decode cX7_isBin 4 = .ok (.iload_n 0, 1) := by decide +kernel
theorem dX7_isBin_5 : decode cX7_isBin 5 = .ok (.bipush 6, 2) := by decide +kernel
theorem dX7_isBin_7 : decode cX7_isBin 7 = .ok (.if_icmp .ge 16, 3) := by decide +kernel
theorem dX7_isBin_10 : decode cX7_isBin 10 = .ok (.iload_n 1, 1) := by decide +kernel
theorem dX7_isBin_11 : decode cX7_isBin 11 = .ok (.ifCond .lt 12, 3) := by decide +kernel
theorem dX7_isBin_14 : decode cX7_isBin 14 = .ok (.iload_n 1, 1) := by decide +kernel
theorem dX7_isBin_15 : decode cX7_isBin 15 = .ok (.iconst 4, 1) := by decide +kernel
theorem dX7_isBin_16 : decode cX7_isBin 16 = .ok (.if_icmp .ge 7, 3) := by decide +kernel
theorem dX7_isBin_19 : decode cX7_isBin 19 = .ok (.iconst 1, 1) := by decide +kernel
theorem dX7_isBin_20 : decode cX7_isBin 20 = .ok (.goto 4, 3) := by decide +kernel
theorem dX7_isBin_23 : decode cX7_isBin 23 = .ok (.iconst 0, 1) := by decide +kernel
theorem dX7_isBin_24 : decode cX7_isBin 24 = .ok (.ireturn, 1) := by decide +kernel
theorem dX7_bound_0 : decode cX7_bound 0 = .ok (.lload_n 0, 1) := by decide +kernel
theorem dX7_bound_1 : decode cX7_bound 1 = .ok (.ldc2_w 284, 3) := by decide +kernel
theorem dX7_bound_4 : decode cX7_bound 4 = .ok (.lcmp, 1) := by decide +kernel
theorem dX7_bound_5 : decode cX7_bound 5 = .ok (.ifCond .le 6, 3) := by decide +kernel
theorem dX7_bound_8 : decode cX7_bound 8 = .ok (.ldc 227, 2) := by decide +kernel
theorem dX7_bound_10 : decode cX7_bound 10 = .ok (.ireturn, 1) := by decide +kernel
theorem dX7_bound_11 : decode cX7_bound 11 = .ok (.lload_n 0, 1) := by decide +kernel
theorem dX7_bound_12 : decode cX7_bound 12 = .ok (.ldc2_w 286, 3) := by decide +kernel
theorem dX7_bound_15 : decode cX7_bound 15 = .ok (.lcmp, 1) := by decide +kernel
theorem dX7_bound_16 : decode cX7_bound 16 = .ok (.ifCond .ge 8, 3) := by decide +kernel
theorem dX7_bound_19 : decode cX7_bound 19 = .ok (.ldc 226, 2) := by decide +kernel
theorem dX7_bound_21 : decode cX7_bound 21 = .ok (.goto 5, 3) := by decide +kernel
theorem dX7_bound_24 : decode cX7_bound 24 = .ok (.lload_n 0, 1) := by decide +kernel
theorem dX7_bound_25 : decode cX7_bound 25 = .ok (.l2i, 1) := by decide +kernel
theorem dX7_bound_26 : decode cX7_bound 26 = .ok (.ireturn, 1) := by decide +kernel
theorem dX8_init_0 : decode cX8_init 0 = .ok (.aload_n 0, 1) := by decide +kernel
theorem dX8_init_1 : decode cX8_init 1 = .ok (.invokespecial 3, 3) := by decide +kernel
theorem dX8_init_4 : decode cX8_init 4 = .ok (.aload_n 0, 1) := by decide +kernel
theorem dX8_init_5 : decode cX8_init 5 = .ok (.bipush (-2), 2) := by decide +kernel
theorem dX8_init_7 : decode cX8_init 7 = .ok (.putfield 9, 3) := by decide +kernel
theorem dX8_init_10 : decode cX8_init 10 = .ok (.aload_n 0, 1) := by decide +kernel
theorem dX8_init_11 : decode cX8_init 11 = .ok (.bipush (-2), 2) := by decide +kernel
theorem dX8_init_13 : decode cX8_init 13 = .ok (.putfield 15, 3) := by decide +kernel
theorem dX8_init_16 : decode cX8_init 16 = .ok (.aload_n 0, 1) := by decide +kernel
theorem dX8_init_17 : decode cX8_init 17 = .ok (.bipush 6, 2) := by decide +kernel
theorem dX8_init_19 : decode cX8_init 19 = .ok (.newarray .int, 2) := by decide +kernel
theorem dX8_init_21 : decode cX8_init 21 = .ok (.putfield 18, 3) := by decide +kernel
theorem dX8_init_24 : decode cX8_init 24 = .ok (.aload_n 0, 1) := by decide +kernel
theorem dX8_init_25 : decode cX8_init 25 = .ok (.bipush 6, 2) := by decide +kernel
theorem dX8_init_27 : decode cX8_init 27 = .ok (.newarray .int, 2) := by decide +kernel
theorem dX8_init_29 : decode cX8_init 29 = .ok (.putfield 22, 3) := by decide +kernel
theorem dX8_init_32 : decode cX8_init 32 = .ok (.aload_n 0, 1) := by decide +kernel
theorem dX8_init_33 : decode cX8_init 33 = .ok (.bipush 20, 2) := by decide +kernel
theorem dX8_init_35 : decode cX8_init 35 = .ok (.newarray .int, 2) := by decide +kernel
theorem dX8_init_37 : decode cX8_init 37 = .ok (.putfield 25, 3) := by decide +kernel
theorem dX8_init_40 : decode cX8_init 40 = .ok (.aload_n 0, 1) := by decide +kernel
theorem dX8_init_41 : decode cX8_init 41 = .ok (.sipush 2001, 3) := by decide +kernel
theorem dX8_init_44 : decode cX8_init 44 = .ok (.newarray .int, 2) := by decide +kernel
theorem dX8_init_46 : decode cX8_init 46 = .ok (.putfield 28, 3) := by decide +kernel
theorem dX8_init_49 : decode cX8_init 49 = .ok (.aload_n 0, 1) := by decide +kernel
theorem dX8_init_50 : decode cX8_init 50 = .ok (.bipush 24, 2) := by decide +kernel
theorem dX8_init_52 : decode cX8_init 52 = .ok (.newarray .int, 2) := by decide +kernel
theorem dX8_init_54 : decode cX8_init 54 = .ok (.putfield 31, 3) := by decide +kernel
theorem dX8_init_57 : decode cX8_init 57 = .ok (.iconst 0, 1) := by decide +kernel
theorem dX8_init_58 : decode cX8_init 58 = .ok (.istore_n 1, 1) := by decide +kernel
theorem dX8_init_59 : decode cX8_init 59 = .ok (.iload_n 1, 1) := by decide +kernel
theorem dX8_init_60 : decode cX8_init 60 = .ok (.bipush 6, 2) := by decide +kernel
theorem dX8_init_62 : decode cX8_init 62 = .ok (.if_icmp .ge 27, 3) := by decide +kernel
theorem dX8_init_65 : decode cX8_init 65 = .ok (.aload_n 0, 1) := by decide +kernel
theorem dX8_init_66 : decode cX8_init 66 = .ok (.getfield 18, 3) := by decide +kernel
theorem dX8_init_69 : decode cX8_init 69 = .ok (.iload_n 1, 1) := by decide +kernel
theorem dX8_init_70 : decode cX8_init 70 = .ok (.sipush (-1000), 3) := by decide +kernel
theorem dX8_init_73 : decode cX8_init 73 = .ok (.iastore, 1) := by decide +kernel
theorem dX8_init_74 : decode cX8_init 74 = .ok (.aload_n 0, 1) := by decide +kernel
theorem dX8_init_75 : decode cX8_init 75 = .ok (.getfield 22, 3) := by decide +kernel
theorem dX8_init_78 : decode cX8_init 78 = .ok (.iload_n 1, 1) := by decide +kernel
theorem dX8_init_79 : decode cX8_init 79 = .ok (.sipush 1000, 3) := by decide +kernel
theorem dX8_init_82 : decode cX8_init 82 = .ok (.iastore, 1) := by decide +kernel
theorem dX8_init_83 : decode cX8_init 83 = .ok (.iinc 1 1, 3) := by decide +kernel
theorem dX8_init_86 : decode cX8_init 86 = .ok (.goto (-27), 3) := by decide +kernel
theorem dX8_init_89 : decode cX8_init 89 = .ok (.iconst 0, 1) := by decide +kernel
theorem dX8_init_90 : decode cX8_init 90 = .ok (.istore_n 1, 1) := by decide +kernel
theorem dX8_init_91 : decode cX8_init 91 = .ok (.iload_n 1, 1) := by decide +kernel
theorem dX8_init_92 : decode cX8_init 92 = .ok (.sipush 2000, 3) := by decide +kernel
theorem dX8_init_95 : decode cX8_init 95 = .ok (.if_icmp .gt 17, 3) := by decide +kernel
theorem dX8_init_98 : decode cX8_init 98 = .ok (.aload_n 0, 1) := by decide +kernel
theorem dX8_init_99 : decode cX8_init 99 = .ok (.getfield 28, 3) := by decide +kernel
theorem dX8_init_102 : decode cX8_init 102 = .ok (.iload_n 1, 1) := by decide +kernel
theorem dX8_init_103 : decode cX8_init 103 = .ok (.bipush (-2), 2) := by decide +kernel
theorem dX8_init_105 : decode cX8_init 105 = .ok (.iastore, 1) := by decide +kernel
theorem dX8_init_106 : decode cX8_init 106 = .ok (.iinc 1 1, 3) := by decide +kernel
theorem dX8_init_109 : decode cX8_init 109 = .ok (.goto (-18), 3) := by decide +kernel
theorem dX8_init_112 : decode cX8_init 112 = .ok (.return_, 1) := by decide +kernel
theorem dX9_init_0 : decode cX9_init 0 = .ok (.aload_n 0, 1) := by decide +kernel
theorem dX9_init_1 : decode cX9_init 1 = .ok (.invokespecial 3, 3) := by decide +kernel
theorem dX9_init_4 : decode cX9_init 4 = .ok (.aload_n 0, 1) := by decide +kernel
theorem dX9_init_5 : decode cX9_init 5 = .ok (.bipush 122, 2) := by decide +kernel
theorem dX9_init_7 : decode cX9_init 7 = .ok (.newarray .int, 2) := by decide +kernel
theorem dX9_init_9 : decode cX9_init 9 = .ok (.putfield 9, 3) := by decide +kernel
theorem dX9_init_12 : decode cX9_init 12 = .ok (.aload_n 0, 1) := by decide +kernel
theorem dX9_init_13 : decode cX9_init 13 = .ok (.bipush 122, 2) := by decide +kernel
theorem dX9_init_15 : decode cX9_init 15 = .ok (.newarray .int, 2) := by decide +kernel
theorem dX9_init_17 : decode cX9_init 17 = .ok (.putfield 15, 3) := by decide +kernel
theorem dX9_init_20 : decode cX9_init 20 = .ok (.return_, 1) := by decide +kernel
theorem dX9_put_0 : decode cX9_put 0 = .ok (.aload_n 0, 1) := by decide +kernel
theorem dX9_put_1 : decode cX9_put 1 = .ok (.getfield 9, 3) := by decide +kernel
theorem dX9_put_4 : decode cX9_put 4 = .ok (.aload_n 0, 1) := by decide +kernel
theorem dX9_put_5 : decode cX9_put 5 = .ok (.getfield 18, 3) := by decide +kernel
theorem dX9_put_8 : decode cX9_put 8 = .ok (.iload_n 1, 1) := by decide +kernel
theorem dX9_put_9 : decode cX9_put 9 = .ok (.iastore, 1) := by decide +kernel
theorem dX9_put_10 : decode cX9_put 10 = .ok (.aload_n 0, 1) := by decide +kernel
theorem dX9_put_11 : decode cX9_put 11 = .ok (.getfield 15, 3) := by decide +kernel
theorem dX9_put_14 : decode cX9_put 14 = .ok (.aload_n 0, 1) := by decide +kernel
theorem dX9_put_15 : decode cX9_put 15 = .ok (.getfield 18, 3) := by decide +kernel
theorem dX9_put_18 : decode cX9_put 18 = .ok (.iload_n 2, 1) := by decide +kernel
theorem dX9_put_19 : decode cX9_put 19 = .ok (.iastore, 1) := by decide +kernel
theorem dX9_put_20 : decode cX9_put 20 = .ok (.aload_n 0, 1) := by decide +kernel
theorem dX9_put_21 : decode cX9_put 21 = .ok (.dup, 1) := by decide +kernel
theorem dX9_put_22 : decode cX9_put 22 = .ok (.getfield 18, 3) := by decide +kernel
theorem dX9_put_25 : decode cX9_put 25 = .ok (.iconst 1, 1) := by decide +kernel
theorem dX9_put_26 : decode cX9_put 26 = .ok (.iadd, 1) := by decide +kernel
theorem dX9_put_27 : decode cX9_put 27 = .ok (.putfield 18, 3) := by decide +kernel
theorem dX9_put_30 : decode cX9_put 30 = .ok (.return_, 1) := by decide +kernel
theorem dX10_init_0 : decode cX10_init 0 = .ok (.aload_n 0, 1) := by decide +kernel
theorem dX10_init_1 : decode cX10_init 1 = .ok (.aconst_null, 1) := by decide +kernel
theorem dX10_init_2 : decode cX10_init 2 = .ok (.aconst_null, 1) := by decide +kernel
theorem dX10_init_3 : decode cX10_init 3 = .ok (.iconst 0, 1) := by decide +kernel
theorem dX10_init_4 : decode cX10_init 4 = .ok (.iconst 0, 1) := by decide +kernel
theorem dX10_init_5 : decode cX10_init 5 = .ok (.invokespecial 1, 3) := by decide +kernel
theorem dX10_init_8 : decode cX10_init 8 = .ok (.return_, 1) := by decide +kernel
theorem dX11_init_0 : decode cX11_init 0 = .ok (.aload_n 0, 1) := by decide +kernel
theorem dX11_init_1 : decode cX11_init 1 = .ok (.invokespecial 3, 3) := by decide +kernel
theorem dX11_init_4 : decode cX11_init 4 = .ok (.aload_n 0, 1) := by decide +kernel
theorem dX11_init_5 : decode cX11_init 5 = .ok (.iconst (-1), 1) := by decide +kernel
theorem dX11_init_6 : decode cX11_init 6 = .ok (.putfield 11, 3) := by decide +kernel
theorem dX11_init_9 : decode cX11_init 9 = .ok (.aload_n 0, 1) := by decide +kernel
theorem dX11_init_10 : decode cX11_init 10 = .ok (.bipush 20, 2) := by decide +kernel
theorem dX11_init_12 : decode cX11_init 12 = .ok (.anewarray 15, 3) := by decide +kernel
theorem dX11_init_15 : decode cX11_init 15 = .ok (.putfield 17, 3) := by decide +kernel
theorem dX11_init_18 : decode cX11_init 18 = .ok (.aload_n 0, 1) := by decide +kernel
theorem dX11_init_19 : decode cX11_init 19 = .ok (.new 15, 3) := by decide +kernel
theorem dX11_init_22 : decode cX11_init 22 = .ok (.dup, 1) := by decide +kernel
theorem dX11_init_23 : decode cX11_init 23 = .ok (.invokespecial 21, 3) := by decide +kernel
theorem dX11_init_26 : decode cX11_init 26 = .ok (.putfield 22, 3) := by decide +kernel
theorem dX11_init_29 : decode cX11_init 29 = .ok (.aload_n 0, 1) := by decide +kernel
theorem dX11_init_30 : decode cX11_init 30 = .ok (.new 26, 3) := by decide +kernel
theorem dX11_init_33 : decode cX11_init 33 = .ok (.dup, 1) := by decide +kernel
theorem dX11_init_34 : decode cX11_init 34 = .ok (.invokespecial 28, 3) := by decide +kernel
theorem dX11_init_37 : decode cX11_init 37 = .ok (.putfield 29, 3) := by decide +kernel
theorem dX11_init_40 : decode cX11_init 40 = .ok (.aload_n 0, 1) := by decide +kernel
theorem dX11_init_41 : decode cX11_init 41 = .ok (.sipush 300, 3) := by decide +kernel
theorem dX11_init_44 : decode cX11_init 44 = .ok (.newarray .byte, 2) := by decide +kernel
theorem dX11_init_46 : decode cX11_init 46 = .ok (.putfield 33, 3) := by decide +kernel
theorem dX11_init_49 : decode cX11_init 49 = .ok (.aload_n 0, 1) := by decide +kernel
theorem dX11_init_50 : decode cX11_init 50 = .ok (.bipush 6, 2) := by decide +kernel
theorem dX11_init_52 : decode cX11_init 52 = .ok (.newarray .int, 2) := by decide +kernel
theorem dX11_init_54 : decode cX11_init 54 = .ok (.putfield 37, 3) := by decide +kernel
theorem dX11_init_57 : decode cX11_init 57 = .ok (.aload_n 0, 1) := by decide +kernel
theorem dX11_init_58 : decode cX11_init 58 = .ok (.bipush 122, 2) := by decide +kernel
theorem dX11_init_60 : decode cX11_init 60 = .ok (.newarray .int, 2) := by decide +kernel
theorem dX11_init_62 : decode cX11_init 62 = .ok (.putfield 41, 3) := by decide +kernel
theorem dX11_init_65 : decode cX11_init 65 = .ok (.aload_n 0, 1) := by decide +kernel
theorem dX11_init_66 : decode cX11_init 66 = .ok (.iconst 4, 1) := by decide +kernel
theorem dX11_init_67 : decode cX11_init 67 = .ok (.anewarray 44, 3) := by decide +kernel
theorem dX11_init_70 : decode cX11_init 70 = .ok (.putfield 46, 3) := by decide +kernel
theorem dX11_init_73 : decode cX11_init 73 = .ok (.aload_n 0, 1) := by decide +kernel
theorem dX11_init_74 : decode cX11_init 74 = .ok (.sipush 1200, 3) := by decide +kernel
theorem dX11_init_77 : decode cX11_init 77 = .ok (.newarray .int, 2) := by decide +kernel
theorem dX11_init_79 : decode cX11_init 79 = .ok (.putfield 50, 3) := by decide +kernel
theorem dX11_init_82 : decode cX11_init 82 = .ok (.aload_n 0, 1) := by decide +kernel
theorem dX11_init_83 : decode cX11_init 83 = .ok (.sipush 1200, 3) := by decide +kernel
theorem dX11_init_86 : decode cX11_init 86 = .ok (.newarray .int, 2) := by decide +kernel
theorem dX11_init_88 : decode cX11_init 88 = .ok (.putfield 53, 3) := by decide +kernel
theorem dX11_init_91 : decode cX11_init 91 = .ok (.aload_n 0, 1) := by decide +kernel
theorem dX11_init_92 : decode cX11_init 92 = .ok (.sipush 200, 3) := by decide +kernel
theorem dX11_init_95 : decode cX11_init 95 = .ok (.newarray .int, 2) := by decide +kernel
theorem dX11_init_97 : decode cX11_init 97 = .ok (.putfield 56, 3) := by decide +kernel
theorem dX11_init_100 : decode cX11_init 100 = .ok (.aload_n 0, 1) := by decide +kernel
theorem dX11_init_101 : decode cX11_init 101 = .ok (.sipush 200, 3) := by decide +kernel
theorem dX11_init_104 : decode cX11_init 104 = .ok (.newarray .int, 2) := by decide +kernel
theorem dX11_init_106 : decode cX11_init 106 = .ok (.putfield 59, 3) := by decide +kernel
theorem dX11_init_109 : decode cX11_init 109 = .ok (.aload_n 0, 1) := by decide +kernel
theorem dX11_init_110 : decode cX11_init 110 = .ok (.sipush 200, 3) := by decide +kernel
theorem dX11_init_113 : decode cX11_init 113 = .ok (.newarray .int, 2) := by decide +kernel
theorem dX11_init_115 : decode cX11_init 115 = .ok (.putfield 62, 3) := by decide +kernel
theorem dX11_init_118 : decode cX11_init 118 = .ok (.aload_n 0, 1) := by decide +kernel
theorem dX11_init_119 : decode cX11_init 119 = .ok (.iconst 5, 1) := by decide +kernel
theorem dX11_init_120 : decode cX11_init 120 = .ok (.newarray .int, 2) := by decide +kernel
theorem dX11_init_122 : decode cX11_init 122 = .ok (.putfield 65, 3) := by decide +kernel
theorem dX11_init_125 : decode cX11_init 125 = .ok (.aload_n 0, 1) := by decide +kernel
theorem dX11_init_126 : decode cX11_init 126 = .ok (.sipush 200, 3) := by decide +kernel
theorem dX11_init_129 : decode cX11_init 129 = .ok (.newarray .int, 2) := by decide +kernel
theorem dX11_init_131 : decode cX11_init 131 = .ok (.putfield 68, 3) := by decide +kernel
theorem dX11_init_134 : decode cX11_init 134 = .ok (.return_, 1) := by decide +kernel
theorem dX11_thrown_0 : decode cX11_thrown 0 = .ok (.aload_n 0, 1) := by decide +kernel
theorem dX11_thrown_1 : decode cX11_thrown 1 = .ok (.getfield 71, 3) := by decide +kernel
theorem dX11_thrown_4 : decode cX11_thrown 4 = .ok (.ireturn, 1) := by decide +kernel
theorem dX11_refused_0 : decode cX11_refused 0 = .ok (.aload_n 0, 1) := by decide +kernel
theorem dX11_refused_1 : decode cX11_refused 1 = .ok (.iload_n 1, 1) := by decide +kernel
theorem dX11_refused_2 : decode cX11_refused 2 = .ok (.putfield 74, 3) := by decide +kernel
theorem dX11_refused_5 : decode cX11_refused 5 = .ok (.aload_n 0, 1) := by decide +kernel
theorem dX11_refused_6 : decode cX11_refused 6 = .ok (.iconst (-1), 1) := by decide +kernel
theorem dX11_refused_7 : decode cX11_refused 7 = .ok (.putfield 11, 3) := by decide +kernel
theorem dX11_refused_10 : decode cX11_refused 10 = .ok (.iconst (-1), 1) := by decide +kernel
theorem dX11_refused_11 : decode cX11_refused 11 = .ok (.ireturn, 1) := by decide +kernel
theorem dX11_denied_0 : decode cX11_denied 0 = .ok (.aload_n 0, 1) := by decide +kernel
theorem dX11_denied_1 : decode cX11_denied 1 = .ok (.iload_n 1, 1) := by decide +kernel
theorem dX11_denied_2 : decode cX11_denied 2 = .ok (.putfield 74, 3) := by decide +kernel
theorem dX11_denied_5 : decode cX11_denied 5 = .ok (.aload_n 0, 1) := by decide +kernel
theorem dX11_denied_6 : decode cX11_denied 6 = .ok (.iconst (-1), 1) := by decide +kernel
theorem dX11_denied_7 : decode cX11_denied 7 = .ok (.putfield 11, 3) := by decide +kernel
theorem dX11_denied_10 : decode cX11_denied 10 = .ok (.iconst 0, 1) := by decide +kernel
theorem dX11_denied_11 : decode cX11_denied 11 = .ok (.ireturn, 1) := by decide +kernel
theorem dX11_done_0 : decode cX11_done 0 = .ok (.aload_n 0, 1) := by decide +kernel
theorem dX11_done_1 : decode cX11_done 1 = .ok (.iconst 0, 1) := by decide +kernel
theorem dX11_done_2 : decode cX11_done 2 = .ok (.putfield 74, 3) := by decide +kernel
theorem dX11_done_5 : decode cX11_done 5 = .ok (.aload_n 0, 1) := by decide +kernel
theorem dX11_done_6 : decode cX11_done 6 = .ok (.iconst (-1), 1) := by decide +kernel
theorem dX11_done_7 : decode cX11_done 7 = .ok (.putfield 11, 3) := by decide +kernel
theorem dX11_done_10 : decode cX11_done 10 = .ok (.iload_n 1, 1) := by decide +kernel
theorem dX11_done_11 : decode cX11_done 11 = .ok (.ireturn, 1) := by decide +kernel
theorem dX11_granted_0 : decode cX11_granted 0 = .ok (.aload_n 0, 1) := by decide +kernel
theorem dX11_granted_1 : decode cX11_granted 1 = .ok (.iconst 0, 1) := by decide +kernel
theorem dX11_granted_2 : decode cX11_granted 2 = .ok (.putfield 74, 3) := by decide +kernel
theorem dX11_granted_5 : decode cX11_granted 5 = .ok (.aload_n 0, 1) := by decide +kernel
theorem dX11_granted_6 : decode cX11_granted 6 = .ok (.iconst (-1), 1) := by decide +kernel
theorem dX11_granted_7 : decode cX11_granted 7 = .ok (.putfield 11, 3) := by decide +kernel
theorem dX11_granted_10 : decode cX11_granted 10 = .ok (.iconst 1, 1) := by decide +kernel
theorem dX11_granted_11 : decode cX11_granted 11 = .ok (.ireturn, 1) := by decide +kernel
theorem dX11_in_0 : decode cX11_in 0 = .ok (.iload_n 0, 1) := by decide +kernel
theorem dX11_in_1 : decode cX11_in 1 = .ok (.iload_n 1, 1) := by decide +kernel
theorem dX11_in_2 : decode cX11_in 2 = .ok (.if_icmp .lt 12, 3) := by decide +kernel
theorem dX11_in_5 : decode cX11_in 5 = .ok (.iload_n 0, 1) := by decide +kernel
theorem dX11_in_6 : decode cX11_in 6 = .ok (.iload_n 2, 1) := by decide +kernel
theorem dX11_in_7 : decode cX11_in 7 = .ok (.if_icmp .gt 7, 3) := by decide +kernel
theorem dX11_in_10 : decode cX11_in 10 = .ok (.iconst 1, 1) := by decide +kernel
theorem dX11_in_11 : decode cX11_in 11 = .ok (.goto 4, 3) := by decide +kernel
theorem dX11_in_14 : decode cX11_in 14 = .ok (.iconst 0, 1) := by decide +kernel
theorem dX11_in_15 : decode cX11_in 15 = .ok (.ireturn, 1) := by decide +kernel
theorem dX11_stop_0 : decode cX11_stop 0 = .ok (.aload_n 0, 1) := by decide +kernel
theorem dX11_stop_1 : decode cX11_stop 1 = .ok (.getfield 29, 3) := by decide +kernel
theorem dX11_stop_4 : decode cX11_stop 4 = .ok (.iload_n 1, 1) := by decide +kernel
theorem dX11_stop_5 : decode cX11_stop 5 = .ok (.putfield 77, 3) := by decide +kernel
theorem dX11_stop_8 : decode cX11_stop 8 = .ok (.aload_n 0, 1) := by decide +kernel
theorem dX11_stop_9 : decode cX11_stop 9 = .ok (.getfield 29, 3) := by decide +kernel
theorem dX11_stop_12 : decode cX11_stop 12 = .ok (.aload_n 0, 1) := by decide +kernel
theorem dX11_stop_13 : decode cX11_stop 13 = .ok (.getfield 80, 3) := by decide +kernel
theorem dX11_stop_16 : decode cX11_stop 16 = .ok (.putfield 83, 3) := by decide +kernel
theorem dX11_stop_19 : decode cX11_stop 19 = .ok (.aload_n 0, 1) := by decide +kernel
theorem dX11_stop_20 : decode cX11_stop 20 = .ok (.getfield 29, 3) := by decide +kernel
theorem dX11_stop_23 : decode cX11_stop 23 = .ok (.areturn, 1) := by decide +kernel
theorem dX11_byteAt_0 : decode cX11_byteAt 0 = .ok (.iload_n 1, 1) := by decide +kernel
theorem dX11_byteAt_1 : decode cX11_byteAt 1 = .ok (.aload_n 0, 1) := by decide +kernel
theorem dX11_byteAt_2 : decode cX11_byteAt 2 = .ok (.getfield 84, 3) := by decide +kernel
theorem dX11_byteAt_5 : decode cX11_byteAt 5 = .ok (.if_icmp .ge 16, 3) := by decide +kernel
theorem dX11_byteAt_8 : decode cX11_byteAt 8 = .ok (.aload_n 0, 1) := by decide +kernel
theorem dX11_byteAt_9 : decode cX11_byteAt 9 = .ok (.getfield 33, 3) := by decide +kernel
theorem dX11_byteAt_12 : decode cX11_byteAt 12 = .ok (.iload_n 1, 1) := by decide +kernel
theorem dX11_byteAt_13 : decode cX11_byteAt 13 = .ok (.baload, 1) := by decide +kernel
theorem dX11_byteAt_14 : decode cX11_byteAt 14 = .ok (.sipush 255, 3) := by decide +kernel
theorem dX11_byteAt_17 : decode cX11_byteAt 17 = .ok (.iand, 1) := by decide +kernel
theorem dX11_byteAt_18 : decode cX11_byteAt 18 = .ok (.goto 4, 3) := by decide +kernel
theorem dX11_byteAt_21 : decode cX11_byteAt 21 = .ok (.iconst (-1), 1) := by decide +kernel
theorem dX11_byteAt_22 : decode cX11_byteAt 22 = .ok (.ireturn, 1) := by decide +kernel
theorem dX11_isLetter_0 : decode cX11_isLetter 0 = .ok (.iload_n 0, 1) := by decide +kernel
theorem dX11_isLetter_1 : decode cX11_isLetter 1 = .ok (.bipush 97, 2) := by decide +kernel
theorem dX11_isLetter_3 : decode cX11_isLetter 3 = .ok (.if_icmp .lt 13, 3) := by decide +kernel
theorem dX11_isLetter_6 : decode cX11_isLetter 6 = .ok (.iload_n 0, 1) := by decide +kernel
theorem dX11_isLetter_7 : decode cX11_isLetter 7 = .ok (.bipush 122, 2) := by decide +kernel
theorem dX11_isLetter_9 : decode cX11_isLetter 9 = .ok (.if_icmp .gt 7, 3) := by decide +kernel
theorem dX11_isLetter_12 : decode cX11_isLetter 12 = .ok (.iconst 1, 1) := by decide +kernel
theorem dX11_isLetter_13 : decode cX11_isLetter 13 = .ok (.goto 4, 3) := by decide +kernel
theorem dX11_isLetter_16 : decode cX11_isLetter 16 = .ok (.iconst 0, 1) := by decide +kernel
theorem dX11_isLetter_17 : decode cX11_isLetter 17 = .ok (.ireturn, 1) := by decide +kernel
theorem dX11_isDigit_0 : decode cX11_isDigit 0 = .ok (.iload_n 0, 1) := by decide +kernel
theorem dX11_isDigit_1 : decode cX11_isDigit 1 = .ok (.bipush 48, 2) := by decide +kernel
theorem dX11_isDigit_3 : decode cX11_isDigit 3 = .ok (.if_icmp .lt 13, 3) := by decide +kernel
theorem dX11_isDigit_6 : decode cX11_isDigit 6 = .ok (.iload_n 0, 1) := by decide +kernel
theorem dX11_isDigit_7 : decode cX11_isDigit 7 = .ok (.bipush 57, 2) := by decide +kernel
theorem dX11_isDigit_9 : decode cX11_isDigit 9 = .ok (.if_icmp .gt 7, 3) := by decide +kernel
theorem dX11_isDigit_12 : decode cX11_isDigit 12 = .ok (.iconst 1, 1) := by decide +kernel
theorem dX11_isDigit_13 : decode cX11_isDigit 13 = .ok (.goto 4, 3) := by decide +kernel
theorem dX11_isDigit_16 : decode cX11_isDigit 16 = .ok (.iconst 0, 1) := by decide +kernel
theorem dX11_isDigit_17 : decode cX11_isDigit 17 = .ok (.ireturn, 1) := by decide +kernel
theorem dX11_wordOf_0 : decode cX11_wordOf 0 = .ok (.lconst 0, 1) := by decide +kernel
theorem dX11_wordOf_1 : decode cX11_wordOf 1 = .ok (.lstore_n 1, 1) := by decide +kernel
theorem dX11_wordOf_2 : decode cX11_wordOf 2 = .ok (.iconst 0, 1) := by decide +kernel
theorem dX11_wordOf_3 : decode cX11_wordOf 3 = .ok (.istore_n 3, 1) := by decide +kernel
theorem dX11_wordOf_4 : decode cX11_wordOf 4 = .ok (.iload_n 3, 1) := by decide +kernel
theorem dX11_wordOf_5 : decode cX11_wordOf 5 = .ok (.aload_n 0, 1) := by decide +kernel
theorem dX11_wordOf_6 : decode cX11_wordOf 6 = .ok (.invokevirtual 87, 3) := by decide +kernel
theorem dX11_wordOf_9 : decode cX11_wordOf 9 = .ok (.if_icmp .ge 27, 3) := by decide +kernel
theorem dX11_wordOf_12 : decode cX11_wordOf 12 = .ok (.ldc2_w 93, 3) := by decide +kernel
theorem dX11_wordOf_15 : decode cX11_wordOf 15 = .ok (.lload_n 1, 1) := by decide +kernel
theorem dX11_wordOf_16 : decode cX11_wordOf 16 = .ok (.lmul, 1) := by decide +kernel
theorem dX11_wordOf_17 : decode cX11_wordOf 17 = .ok (.aload_n 0, 1) := by decide +kernel
theorem dX11_wordOf_18 : decode cX11_wordOf 18 = .ok (.iload_n 3, 1) := by decide +kernel
theorem dX11_wordOf_19 : decode cX11_wordOf 19 = .ok (.invokevirtual 95, 3) := by decide +kernel
theorem dX11_wordOf_22 : decode cX11_wordOf 22 = .ok (.bipush 97, 2) := by decide +kernel
theorem dX11_wordOf_24 : decode cX11_wordOf 24 = .ok (.isub, 1) := by decide +kernel
theorem dX11_wordOf_25 : decode cX11_wordOf 25 = .ok (.iconst 1, 1) := by decide +kernel
theorem dX11_wordOf_26 : decode cX11_wordOf 26 = .ok (.iadd, 1) := by decide +kernel
theorem dX11_wordOf_27 : decode cX11_wordOf 27 = .ok (.i2l, 1) := by decide +kernel
theorem dX11_wordOf_28 : decode cX11_wordOf 28 = .ok (.ladd, 1) := by decide +kernel
theorem dX11_wordOf_29 : decode cX11_wordOf 29 = .ok (.lstore_n 1, 1) := by decide +kernel
theorem dX11_wordOf_30 : decode cX11_wordOf 30 = .ok (.iinc 3 1, 3) := by decide +kernel
theorem dX11_wordOf_33 : decode cX11_wordOf 33 = .ok (.goto (-29), 3) := by decide +kernel
theorem dX11_wordOf_36 : decode cX11_wordOf 36 = .ok (.lload_n 1, 1) := by decide +kernel
theorem dX11_wordOf_37 : decode cX11_wordOf 37 = .ok (.lreturn, 1) := by decide +kernel
theorem dX11_next_0 : decode cX11_next 0 = .ok (.aload_n 0, 1) := by decide +kernel
theorem dX11_next_1 : decode cX11_next 1 = .ok (.aload_n 0, 1) := by decide +kernel
theorem dX11_next_2 : decode cX11_next 2 = .ok (.getfield 99, 3) := by decide +kernel
theorem dX11_next_5 : decode cX11_next 5 = .ok (.invokevirtual 102, 3) := by decide +kernel
theorem dX11_next_8 : decode cX11_next 8 = .ok (.bipush 32, 2) := by decide +kernel
theorem dX11_next_10 : decode cX11_next 10 = .ok (.if_icmp .ne 16, 3) := by decide +kernel
theorem dX11_next_13 : decode cX11_next 13 = .ok (.aload_n 0, 1) := by decide +kernel
theorem dX11_next_14 : decode cX11_next 14 = .ok (.dup, 1) := by decide +kernel
theorem dX11_next_15 : decode cX11_next 15 = .ok (.getfield 99, 3) := by decide +kernel
theorem dX11_next_18 : decode cX11_next 18 = .ok (.iconst 1, 1) := by decide +kernel
theorem dX11_next_19 : decode cX11_next 19 = .ok (.iadd, 1) := by decide +kernel
theorem dX11_next_20 : decode cX11_next 20 = .ok (.putfield 99, 3) := by decide +kernel
theorem dX11_next_23 : decode cX11_next 23 = .ok (.goto (-23), 3) := by decide +kernel
theorem dX11_next_26 : decode cX11_next 26 = .ok (.aload_n 0, 1) := by decide +kernel
theorem dX11_next_27 : decode cX11_next 27 = .ok (.aload_n 0, 1) := by decide +kernel
theorem dX11_next_28 : decode cX11_next 28 = .ok (.getfield 99, 3) := by decide +kernel
theorem dX11_next_31 : decode cX11_next 31 = .ok (.putfield 80, 3) := by decide +kernel
theorem dX11_next_34 : decode cX11_next 34 = .ok (.aload_n 0, 1) := by decide +kernel
theorem dX11_next_35 : decode cX11_next 35 = .ok (.iconst 0, 1) := by decide +kernel
theorem dX11_next_36 : decode cX11_next 36 = .ok (.putfield 106, 3) := by decide +kernel
theorem dX11_next_39 : decode cX11_next 39 = .ok (.aload_n 0, 1) := by decide +kernel
theorem dX11_next_40 : decode cX11_next 40 = .ok (.iconst 0, 1) := by decide +kernel
theorem dX11_next_41 : decode cX11_next 41 = .ok (.putfield 109, 3) := by decide +kernel
theorem dX11_next_44 : decode cX11_next 44 = .ok (.aload_n 0, 1) := by decide +kernel
theorem dX11_next_45 : decode cX11_next 45 = .ok (.aload_n 0, 1) := by decide +kernel
theorem dX11_next_46 : decode cX11_next 46 = .ok (.getfield 99, 3) := by decide +kernel
theorem dX11_next_49 : decode cX11_next 49 = .ok (.invokevirtual 102, 3) := by decide +kernel
theorem dX11_next_52 : decode cX11_next 52 = .ok (.istore_n 1, 1) := by decide +kernel
theorem dX11_next_53 : decode cX11_next 53 = .ok (.iconst 0, 1) := by decide +kernel
theorem dX11_next_54 : decode cX11_next 54 = .ok (.istore_n 2, 1) := by decide +kernel
theorem dX11_next_55 : decode cX11_next 55 = .ok (.iload_n 1, 1) := by decide +kernel
theorem dX11_next_56 : decode cX11_next 56 = .ok (.iconst (-1), 1) := by decide +kernel
theorem dX11_next_57 : decode cX11_next 57 = .ok (.if_icmp .ne 11, 3) := by decide +kernel
theorem dX11_next_60 : decode cX11_next 60 = .ok (.aload_n 0, 1) := by decide +kernel
theorem dX11_next_61 : decode cX11_next 61 = .ok (.iconst 1, 1) := by decide +kernel
theorem dX11_next_62 : decode cX11_next 62 = .ok (.putfield 106, 3) := by decide +kernel
theorem dX11_next_65 : decode cX11_next 65 = .ok (.goto 293, 3) := by decide +kernel
theorem dX11_next_68 : decode cX11_next 68 = .ok (.iload_n 1, 1) := by decide +kernel
theorem dX11_next_69 : decode cX11_next 69 = .ok (.invokestatic 112, 3) := by decide +kernel
theorem dX11_next_72 : decode cX11_next 72 = .ok (.ifCond .eq 129, 3) := by decide +kernel
theorem dX11_next_75 : decode cX11_next 75 = .ok (.aload_n 0, 1) := by decide +kernel
theorem dX11_next_76 : decode cX11_next 76 = .ok (.lconst 0, 1) := by decide +kernel
theorem dX11_next_77 : decode cX11_next 77 = .ok (.putfield 116, 3) := by decide +kernel
theorem dX11_next_80 : decode cX11_next 80 = .ok (.aload_n 0, 1) := by decide +kernel
theorem dX11_next_81 : decode cX11_next 81 = .ok (.aload_n 0, 1) := by decide +kernel
theorem dX11_next_82 : decode cX11_next 82 = .ok (.getfield 99, 3) := by decide +kernel
theorem dX11_next_85 : decode cX11_next 85 = .ok (.invokevirtual 102, 3) := by decide +kernel
theorem dX11_next_88 : decode cX11_next 88 = .ok (.invokestatic 112, 3) := by decide +kernel
theorem dX11_next_91 : decode cX11_next 91 = .ok (.ifCond .eq 52, 3) := by decide +kernel
theorem dX11_next_94 : decode cX11_next 94 = .ok (.iload_n 2, 1) := by decide +kernel
theorem dX11_next_95 : decode cX11_next 95 = .ok (.bipush 8, 2) := by decide +kernel
theorem dX11_next_97 : decode cX11_next 97 = .ok (.if_icmp .ge 30, 3) := by decide +kernel
theorem dX11_next_100 : decode cX11_next 100 = .ok (.aload_n 0, 1) := by decide +kernel
theorem dX11_next_101 : decode cX11_next 101 = .ok (.ldc2_w 93, 3) := by decide +kernel
theorem dX11_next_104 : decode cX11_next 104 = .ok (.aload_n 0, 1) := by decide +kernel
theorem dX11_next_105 : decode cX11_next 105 = .ok (.getfield 116, 3) := by decide +kernel
theorem dX11_next_108 : decode cX11_next 108 = .ok (.lmul, 1) := by decide +kernel
theorem dX11_next_109 : decode cX11_next 109 = .ok (.aload_n 0, 1) := by decide +kernel
theorem dX11_next_110 : decode cX11_next 110 = .ok (.aload_n 0, 1) := by decide +kernel
theorem dX11_next_111 : decode cX11_next 111 = .ok (.getfield 99, 3) := by decide +kernel
theorem dX11_next_114 : decode cX11_next 114 = .ok (.invokevirtual 102, 3) := by decide +kernel
theorem dX11_next_117 : decode cX11_next 117 = .ok (.bipush 97, 2) := by decide +kernel
theorem dX11_next_119 : decode cX11_next 119 = .ok (.isub, 1) := by decide +kernel
theorem dX11_next_120 : decode cX11_next 120 = .ok (.iconst 1, 1) := by decide +kernel
theorem dX11_next_121 : decode cX11_next 121 = .ok (.iadd, 1) := by decide +kernel
theorem dX11_next_122 : decode cX11_next 122 = .ok (.i2l, 1) := by decide +kernel
theorem dX11_next_123 : decode cX11_next 123 = .ok (.ladd, 1) := by decide +kernel
theorem dX11_next_124 : decode cX11_next 124 = .ok (.putfield 116, 3) := by decide +kernel
theorem dX11_next_127 : decode cX11_next 127 = .ok (.iinc 2 1, 3) := by decide +kernel
theorem dX11_next_130 : decode cX11_next 130 = .ok (.aload_n 0, 1) := by decide +kernel
theorem dX11_next_131 : decode cX11_next 131 = .ok (.dup, 1) := by decide +kernel
theorem dX11_next_132 : decode cX11_next 132 = .ok (.getfield 99, 3) := by decide +kernel
theorem dX11_next_135 : decode cX11_next 135 = .ok (.iconst 1, 1) := by decide +kernel
theorem dX11_next_136 : decode cX11_next 136 = .ok (.iadd, 1) := by decide +kernel
theorem dX11_next_137 : decode cX11_next 137 = .ok (.putfield 99, 3) := by decide +kernel
theorem dX11_next_140 : decode cX11_next 140 = .ok (.goto (-60), 3) := by decide +kernel
theorem dX11_next_143 : decode cX11_next 143 = .ok (.aload_n 0, 1) := by decide +kernel
theorem dX11_next_144 : decode cX11_next 144 = .ok (.iconst (-1), 1) := by decide +kernel
theorem dX11_next_145 : decode cX11_next 145 = .ok (.putfield 120, 3) := by decide +kernel
theorem dX11_next_148 : decode cX11_next 148 = .ok (.aload_n 0, 1) := by decide +kernel
theorem dX11_next_149 : decode cX11_next 149 = .ok (.aload_n 0, 1) := by decide +kernel
theorem dX11_next_150 : decode cX11_next 150 = .ok (.getfield 99, 3) := by decide +kernel
theorem dX11_next_153 : decode cX11_next 153 = .ok (.invokevirtual 102, 3) := by decide +kernel
theorem dX11_next_156 : decode cX11_next 156 = .ok (.invokestatic 123, 3) := by decide +kernel
theorem dX11_next_159 : decode cX11_next 159 = .ok (.ifCond .eq 28, 3) := by decide +kernel
theorem dX11_next_162 : decode cX11_next 162 = .ok (.aload_n 0, 1) := by decide +kernel
theorem dX11_next_163 : decode cX11_next 163 = .ok (.aload_n 0, 1) := by decide +kernel
theorem dX11_next_164 : decode cX11_next 164 = .ok (.aload_n 0, 1) := by decide +kernel
theorem dX11_next_165 : decode cX11_next 165 = .ok (.getfield 99, 3) := by decide +kernel
theorem dX11_next_168 : decode cX11_next 168 = .ok (.invokevirtual 102, 3) := by decide +kernel
theorem dX11_next_171 : decode cX11_next 171 = .ok (.bipush 48, 2) := by decide +kernel
theorem dX11_next_173 : decode cX11_next 173 = .ok (.isub, 1) := by decide +kernel
theorem dX11_next_174 : decode cX11_next 174 = .ok (.putfield 120, 3) := by decide +kernel
theorem dX11_next_177 : decode cX11_next 177 = .ok (.aload_n 0, 1) := by decide +kernel
theorem dX11_next_178 : decode cX11_next 178 = .ok (.dup, 1) := by decide +kernel
theorem dX11_next_179 : decode cX11_next 179 = .ok (.getfield 99, 3) := by decide +kernel
theorem dX11_next_182 : decode cX11_next 182 = .ok (.iconst 1, 1) := by decide +kernel
theorem dX11_next_183 : decode cX11_next 183 = .ok (.iadd, 1) := by decide +kernel
theorem dX11_next_184 : decode cX11_next 184 = .ok (.putfield 99, 3) := by decide +kernel
theorem dX11_next_187 : decode cX11_next 187 = .ok (.iload_n 2, 1) := by decide +kernel
theorem dX11_next_188 : decode cX11_next 188 = .ok (.bipush 9, 2) := by decide +kernel
theorem dX11_next_190 : decode cX11_next 190 = .ok (.if_icmp .ge 168, 3) := by decide +kernel
theorem dX11_next_193 : decode cX11_next 193 = .ok (.aload_n 0, 1) := by decide +kernel
theorem dX11_next_194 : decode cX11_next 194 = .ok (.iconst 2, 1) := by decide +kernel
theorem dX11_next_195 : decode cX11_next 195 = .ok (.putfield 106, 3) := by decide +kernel
theorem dX11_next_198 : decode cX11_next 198 = .ok (.goto 160, 3) := by decide +kernel
theorem dX11_next_201 : decode cX11_next 201 = .ok (.iload_n 1, 1) := by decide +kernel
theorem dX11_next_202 : decode cX11_next 202 = .ok (.invokestatic 123, 3) := by decide +kernel
theorem dX11_next_205 : decode cX11_next 205 = .ok (.ifCond .eq 79, 3) := by decide +kernel
theorem dX11_next_208 : decode cX11_next 208 = .ok (.aload_n 0, 1) := by decide +kernel
theorem dX11_next_209 : decode cX11_next 209 = .ok (.iconst 0, 1) := by decide +kernel
theorem dX11_next_210 : decode cX11_next 210 = .ok (.putfield 126, 3) := by decide +kernel
theorem dX11_next_213 : decode cX11_next 213 = .ok (.aload_n 0, 1) := by decide +kernel
theorem dX11_next_214 : decode cX11_next 214 = .ok (.aload_n 0, 1) := by decide +kernel
theorem dX11_next_215 : decode cX11_next 215 = .ok (.getfield 99, 3) := by decide +kernel
theorem dX11_next_218 : decode cX11_next 218 = .ok (.invokevirtual 102, 3) := by decide +kernel
theorem dX11_next_221 : decode cX11_next 221 = .ok (.invokestatic 123, 3) := by decide +kernel
theorem dX11_next_224 : decode cX11_next 224 = .ok (.ifCond .eq 47, 3) := by decide +kernel
theorem dX11_next_227 : decode cX11_next 227 = .ok (.iload_n 2, 1) := by decide +kernel
theorem dX11_next_228 : decode cX11_next 228 = .ok (.iconst 4, 1) := by decide +kernel
theorem dX11_next_229 : decode cX11_next 229 = .ok (.if_icmp .ge 26, 3) := by decide +kernel
theorem dX11_next_232 : decode cX11_next 232 = .ok (.aload_n 0, 1) := by decide +kernel
theorem dX11_next_233 : decode cX11_next 233 = .ok (.bipush 10, 2) := by decide +kernel
theorem dX11_next_235 : decode cX11_next 235 = .ok (.aload_n 0, 1) := by decide +kernel
theorem dX11_next_236 : decode cX11_next 236 = .ok (.getfield 126, 3) := by decide +kernel
theorem dX11_next_239 : decode cX11_next 239 = .ok (.imul, 1) := by decide +kernel
theorem dX11_next_240 : decode cX11_next 240 = .ok (.aload_n 0, 1) := by decide +kernel
theorem dX11_next_241 : decode cX11_next 241 = .ok (.aload_n 0, 1) := by decide +kernel
theorem dX11_next_242 : decode cX11_next 242 = .ok (.getfield 99, 3) := by decide +kernel
theorem dX11_next_245 : decode cX11_next 245 = .ok (.invokevirtual 102, 3) := by decide +kernel
theorem dX11_next_248 : decode cX11_next 248 = .ok (.iadd, 1) := by decide +kernel
theorem dX11_next_249 : decode cX11_next 249 = .ok (.bipush 48, 2) := by decide +kernel
theorem dX11_next_251 : decode cX11_next 251 = .ok (.isub, 1) := by decide +kernel
theorem dX11_next_252 : decode cX11_next 252 = .ok (.putfield 126, 3) := by decide +kernel
theorem dX11_next_255 : decode cX11_next 255 = .ok (.iinc 2 1, 3) := by decide +kernel
theorem dX11_next_258 : decode cX11_next 258 = .ok (.aload_n 0, 1) := by decide +kernel
theorem dX11_next_259 : decode cX11_next 259 = .ok (.dup, 1) := by decide +kernel
theorem dX11_next_260 : decode cX11_next 260 = .ok (.getfield 99, 3) := by decide +kernel
theorem dX11_next_263 : decode cX11_next 263 = .ok (.iconst 1, 1) := by decide +kernel
theorem dX11_next_264 : decode cX11_next 264 = .ok (.iadd, 1) := by decide +kernel
theorem dX11_next_265 : decode cX11_next 265 = .ok (.putfield 99, 3) := by decide +kernel
theorem dX11_next_268 : decode cX11_next 268 = .ok (.goto (-55), 3) := by decide +kernel
theorem dX11_next_271 : decode cX11_next 271 = .ok (.iload_n 2, 1) := by decide +kernel
theorem dX11_next_272 : decode cX11_next 272 = .ok (.iconst 5, 1) := by decide +kernel
theorem dX11_next_273 : decode cX11_next 273 = .ok (.if_icmp .ge 85, 3) := by decide +kernel
theorem dX11_next_276 : decode cX11_next 276 = .ok (.aload_n 0, 1) := by decide +kernel
theorem dX11_next_277 : decode cX11_next 277 = .ok (.iconst 3, 1) := by decide +kernel
theorem dX11_next_278 : decode cX11_next 278 = .ok (.putfield 106, 3) := by decide +kernel
theorem dX11_next_281 : decode cX11_next 281 = .ok (.goto 77, 3) := by decide +kernel
theorem dX11_next_284 : decode cX11_next 284 = .ok (.iload_n 1, 1) := by decide +kernel
theorem dX11_next_285 : decode cX11_next 285 = .ok (.bipush 40, 2) := by decide +kernel
theorem dX11_next_287 : decode cX11_next 287 = .ok (.if_icmp .eq 51, 3) := by decide +kernel
theorem dX11_next_290 : decode cX11_next 290 = .ok (.iload_n 1, 1) := by decide +kernel
theorem dX11_next_291 : decode cX11_next 291 = .ok (.bipush 41, 2) := by decide +kernel
theorem dX11_next_293 : decode cX11_next 293 = .ok (.if_icmp .eq 45, 3) := by decide +kernel
theorem dX11_next_296 : decode cX11_next 296 = .ok (.iload_n 1, 1) := by decide +kernel
theorem dX11_next_297 : decode cX11_next 297 = .ok (.bipush 60, 2) := by decide +kernel
theorem dX11_next_299 : decode cX11_next 299 = .ok (.if_icmp .eq 39, 3) := by decide +kernel
theorem dX11_next_302 : decode cX11_next 302 = .ok (.iload_n 1, 1) := by decide +kernel
theorem dX11_next_303 : decode cX11_next 303 = .ok (.bipush 62, 2) := by decide +kernel
theorem dX11_next_305 : decode cX11_next 305 = .ok (.if_icmp .eq 33, 3) := by decide +kernel
theorem dX11_next_308 : decode cX11_next 308 = .ok (.iload_n 1, 1) := by decide +kernel
theorem dX11_next_309 : decode cX11_next 309 = .ok (.bipush 61, 2) := by decide +kernel
theorem dX11_next_311 : decode cX11_next 311 = .ok (.if_icmp .eq 27, 3) := by decide +kernel
theorem dX11_next_314 : decode cX11_next 314 = .ok (.iload_n 1, 1) := by decide +kernel
theorem dX11_next_315 : decode cX11_next 315 = .ok (.bipush 43, 2) := by decide +kernel
theorem dX11_next_317 : decode cX11_next 317 = .ok (.if_icmp .eq 21, 3) := by decide +kernel
theorem dX11_next_320 : decode cX11_next 320 = .ok (.iload_n 1, 1) := by decide +kernel
theorem dX11_next_321 : decode cX11_next 321 = .ok (.bipush 45, 2) := by decide +kernel
theorem dX11_next_323 : decode cX11_next 323 = .ok (.if_icmp .eq 15, 3) := by decide +kernel
theorem dX11_next_326 : decode cX11_next 326 = .ok (.iload_n 1, 1) := by decide +kernel
theorem dX11_next_327 : decode cX11_next 327 = .ok (.bipush 42, 2) := by decide +kernel
theorem dX11_next_329 : decode cX11_next 329 = .ok (.if_icmp .eq 9, 3) := by decide +kernel
theorem dX11_next_332 : decode cX11_next 332 = .ok (.iload_n 1, 1) := by decide +kernel
theorem dX11_next_333 : decode cX11_next 333 = .ok (.bipush 44, 2) := by decide +kernel
theorem dX11_next_335 : decode cX11_next 335 = .ok (.if_icmp .ne 23, 3) := by decide +kernel
theorem dX11_next_338 : decode cX11_next 338 = .ok (.aload_n 0, 1) := by decide +kernel
theorem dX11_next_339 : decode cX11_next 339 = .ok (.iconst 4, 1) := by decide +kernel
theorem dX11_next_340 : decode cX11_next 340 = .ok (.putfield 106, 3) := by decide +kernel
theorem dX11_next_343 : decode cX11_next 343 = .ok (.aload_n 0, 1) := by decide +kernel
theorem dX11_next_344 : decode cX11_next 344 = .ok (.iload_n 1, 1) := by decide +kernel
theorem dX11_next_345 : decode cX11_next 345 = .ok (.putfield 109, 3) := by decide +kernel
theorem dX11_next_348 : decode cX11_next 348 = .ok (.aload_n 0, 1) := by decide +kernel
theorem dX11_next_349 : decode cX11_next 349 = .ok (.dup, 1) := by decide +kernel
theorem dX11_next_350 : decode cX11_next 350 = .ok (.getfield 99, 3) := by decide +kernel
theorem dX11_next_353 : decode cX11_next 353 = .ok (.iconst 1, 1) := by decide +kernel
theorem dX11_next_354 : decode cX11_next 354 = .ok (.iadd, 1) := by decide +kernel
theorem dX11_next_355 : decode cX11_next 355 = .ok (.putfield 99, 3) := by decide +kernel
theorem dX11_next_358 : decode cX11_next 358 = .ok (.return_, 1) := by decide +kernel
theorem dX11_isWord_0 : decode cX11_isWord 0 = .ok (.aload_n 0, 1) := by decide +kernel
theorem dX11_isWord_1 : decode cX11_isWord 1 = .ok (.getfield 106, 3) := by decide +kernel
theorem dX11_isWord_4 : decode cX11_isWord 4 = .ok (.iconst 2, 1) := by decide +kernel
theorem dX11_isWord_5 : decode cX11_isWord 5 = .ok (.if_icmp .ne 27, 3) := by decide +kernel
theorem dX11_isWord_8 : decode cX11_isWord 8 = .ok (.aload_n 0, 1) := by decide +kernel
theorem dX11_isWord_9 : decode cX11_isWord 9 = .ok (.getfield 120, 3) := by decide +kernel
theorem dX11_isWord_12 : decode cX11_isWord 12 = .ok (.iconst (-1), 1) := by decide +kernel
theorem dX11_isWord_13 : decode cX11_isWord 13 = .ok (.if_icmp .ne 19, 3) := by decide +kernel
theorem dX11_isWord_16 : decode cX11_isWord 16 = .ok (.aload_n 0, 1) := by decide +kernel
theorem dX11_isWord_17 : decode cX11_isWord 17 = .ok (.getfield 116, 3) := by decide +kernel
theorem dX11_isWord_20 : decode cX11_isWord 20 = .ok (.aload_n 1, 1) := by decide +kernel
theorem dX11_isWord_21 : decode cX11_isWord 21 = .ok (.invokestatic 129, 3) := by decide +kernel
theorem dX11_isWord_24 : decode cX11_isWord 24 = .ok (.lcmp, 1) := by decide +kernel
theorem dX11_isWord_25 : decode cX11_isWord 25 = .ok (.ifCond .ne 7, 3) := by decide +kernel
theorem dX11_isWord_28 : decode cX11_isWord 28 = .ok (.iconst 1, 1) := by decide +kernel
theorem dX11_isWord_29 : decode cX11_isWord 29 = .ok (.goto 4, 3) := by decide +kernel
theorem dX11_isWord_32 : decode cX11_isWord 32 = .ok (.iconst 0, 1) := by decide +kernel
theorem dX11_isWord_33 : decode cX11_isWord 33 = .ok (.ireturn, 1) := by decide +kernel
theorem dX11_is_0 : decode cX11_is 0 = .ok (.aload_n 0, 1) := by decide +kernel
theorem dX11_is_1 : decode cX11_is 1 = .ok (.getfield 106, 3) := by decide +kernel
theorem dX11_is_4 : decode cX11_is 4 = .ok (.iconst 4, 1) := by decide +kernel
theorem dX11_is_5 : decode cX11_is 5 = .ok (.if_icmp .ne 15, 3) := by decide +kernel
theorem dX11_is_8 : decode cX11_is 8 = .ok (.aload_n 0, 1) := by decide +kernel
theorem dX11_is_9 : decode cX11_is 9 = .ok (.getfield 109, 3) := by decide +kernel
theorem dX11_is_12 : decode cX11_is 12 = .ok (.iload_n 1, 1) := by decide +kernel
theorem dX11_is_13 : decode cX11_is 13 = .ok (.if_icmp .ne 7, 3) := by decide +kernel
theorem dX11_is_16 : decode cX11_is 16 = .ok (.iconst 1, 1) := by decide +kernel
theorem dX11_is_17 : decode cX11_is 17 = .ok (.goto 4, 3) := by decide +kernel
theorem dX11_is_20 : decode cX11_is 20 = .ok (.iconst 0, 1) := by decide +kernel
theorem dX11_is_21 : decode cX11_is 21 = .ok (.ireturn, 1) := by decide +kernel
theorem dX11_needWord_0 : decode cX11_needWord 0 = .ok (.aload_n 0, 1) := by decide +kernel
theorem dX11_needWord_1 : decode cX11_needWord 1 = .ok (.aload_n 1, 1) := by decide +kernel
theorem dX11_needWord_2 : decode cX11_needWord 2 = .ok (.invokevirtual 133, 3) := by decide +kernel
theorem dX11_needWord_5 : decode cX11_needWord 5 = .ok (.ifCond .ne 9, 3) := by decide +kernel
theorem dX11_needWord_8 : decode cX11_needWord 8 = .ok (.aload_n 0, 1) := by decide +kernel
theorem dX11_needWord_9 : decode cX11_needWord 9 = .ok (.iconst 1, 1) := by decide +kernel
theorem dX11_needWord_10 : decode cX11_needWord 10 = .ok (.invokevirtual 137, 3) := by decide +kernel
theorem dX11_needWord_13 : decode cX11_needWord 13 = .ok (.athrow, 1) := by decide +kernel
theorem dX11_needWord_14 : decode cX11_needWord 14 = .ok (.aload_n 0, 1) := by decide +kernel
theorem dX11_needWord_15 : decode cX11_needWord 15 = .ok (.invokevirtual 140, 3) := by decide +kernel
theorem dX11_needWord_18 : decode cX11_needWord 18 = .ok (.return_, 1) := by decide +kernel
theorem dX11_need_0 : decode cX11_need 0 = .ok (.aload_n 0, 1) := by decide +kernel
theorem dX11_need_1 : decode cX11_need 1 = .ok (.iload_n 1, 1) := by decide +kernel
theorem dX11_need_2 : decode cX11_need 2 = .ok (.invokevirtual 143, 3) := by decide +kernel
theorem dX11_need_5 : decode cX11_need 5 = .ok (.ifCond .ne 9, 3) := by decide +kernel
theorem dX11_need_8 : decode cX11_need 8 = .ok (.aload_n 0, 1) := by decide +kernel
theorem dX11_need_9 : decode cX11_need 9 = .ok (.iconst 1, 1) := by decide +kernel
theorem dX11_need_10 : decode cX11_need 10 = .ok (.invokevirtual 137, 3) := by decide +kernel
theorem dX11_need_13 : decode cX11_need 13 = .ok (.athrow, 1) := by decide +kernel
theorem dX11_need_14 : decode cX11_need 14 = .ok (.aload_n 0, 1) := by decide +kernel
theorem dX11_need_15 : decode cX11_need 15 = .ok (.invokevirtual 140, 3) := by decide +kernel
theorem dX11_need_18 : decode cX11_need 18 = .ok (.return_, 1) := by decide +kernel
theorem dX11_part_0 : decode cX11_part 0 = .ok (.aload_n 0, 1) := by decide +kernel
theorem dX11_part_1 : decode cX11_part 1 = .ok (.getfield 22, 3) := by decide +kernel
theorem dX11_part_4 : decode cX11_part 4 = .ok (.getfield 146, 3) := by decide +kernel
theorem dX11_part_7 : decode cX11_part 7 = .ok (.bipush 60, 2) := by decide +kernel
theorem dX11_part_9 : decode cX11_part 9 = .ok (.if_icmp .ne 9, 3) := by decide +kernel
theorem dX11_part_12 : decode cX11_part 12 = .ok (.aload_n 0, 1) := by decide +kernel
theorem dX11_part_13 : decode cX11_part 13 = .ok (.iconst 3, 1) := by decide +kernel
theorem dX11_part_14 : decode cX11_part 14 = .ok (.invokevirtual 137, 3) := by decide +kernel
theorem dX11_part_17 : decode cX11_part 17 = .ok (.athrow, 1) := by decide +kernel
theorem dX11_part_18 : decode cX11_part 18 = .ok (.aload_n 0, 1) := by decide +kernel
theorem dX11_part_19 : decode cX11_part 19 = .ok (.getfield 22, 3) := by decide +kernel
theorem dX11_part_22 : decode cX11_part 22 = .ok (.dup, 1) := by decide +kernel
theorem dX11_part_23 : decode cX11_part 23 = .ok (.getfield 146, 3) := by decide +kernel
theorem dX11_part_26 : decode cX11_part 26 = .ok (.iconst 1, 1) := by decide +kernel
theorem dX11_part_27 : decode cX11_part 27 = .ok (.iadd, 1) := by decide +kernel
theorem dX11_part_28 : decode cX11_part 28 = .ok (.putfield 146, 3) := by decide +kernel
theorem dX11_part_31 : decode cX11_part 31 = .ok (.return_, 1) := by decide +kernel
theorem dX11_opens_0 : decode cX11_opens 0 = .ok (.aload_n 0, 1) := by decide +kernel
theorem dX11_opens_1 : decode cX11_opens 1 = .ok (.bipush 40, 2) := by decide +kernel
theorem dX11_opens_3 : decode cX11_opens 3 = .ok (.invokevirtual 143, 3) := by decide +kernel
theorem dX11_opens_6 : decode cX11_opens 6 = .ok (.ifCond .ne 9, 3) := by decide +kernel
theorem dX11_opens_9 : decode cX11_opens 9 = .ok (.aload_n 0, 1) := by decide +kernel
theorem dX11_opens_10 : decode cX11_opens 10 = .ok (.iconst 1, 1) := by decide +kernel
theorem dX11_opens_11 : decode cX11_opens 11 = .ok (.invokevirtual 137, 3) := by decide +kernel
theorem dX11_opens_14 : decode cX11_opens 14 = .ok (.athrow, 1) := by decide +kernel
theorem dX11_opens_15 : decode cX11_opens 15 = .ok (.aload_n 0, 1) := by decide +kernel
theorem dX11_opens_16 : decode cX11_opens 16 = .ok (.getfield 149, 3) := by decide +kernel
theorem dX11_opens_19 : decode cX11_opens 19 = .ok (.bipush 8, 2) := by decide +kernel
theorem dX11_opens_21 : decode cX11_opens 21 = .ok (.if_icmp .ne 9, 3) := by decide +kernel
theorem dX11_opens_24 : decode cX11_opens 24 = .ok (.aload_n 0, 1) := by decide +kernel
theorem dX11_opens_25 : decode cX11_opens 25 = .ok (.iconst 3, 1) := by decide +kernel
theorem dX11_opens_26 : decode cX11_opens 26 = .ok (.invokevirtual 137, 3) := by decide +kernel
theorem dX11_opens_29 : decode cX11_opens 29 = .ok (.athrow, 1) := by decide +kernel
theorem dX11_opens_30 : decode cX11_opens 30 = .ok (.aload_n 0, 1) := by decide +kernel
theorem dX11_opens_31 : decode cX11_opens 31 = .ok (.dup, 1) := by decide +kernel
theorem dX11_opens_32 : decode cX11_opens 32 = .ok (.getfield 149, 3) := by decide +kernel
theorem dX11_opens_35 : decode cX11_opens 35 = .ok (.iconst 1, 1) := by decide +kernel
theorem dX11_opens_36 : decode cX11_opens 36 = .ok (.iadd, 1) := by decide +kernel
theorem dX11_opens_37 : decode cX11_opens 37 = .ok (.putfield 149, 3) := by decide +kernel
theorem dX11_opens_40 : decode cX11_opens 40 = .ok (.aload_n 0, 1) := by decide +kernel
theorem dX11_opens_41 : decode cX11_opens 41 = .ok (.invokevirtual 140, 3) := by decide +kernel
theorem dX11_opens_44 : decode cX11_opens 44 = .ok (.return_, 1) := by decide +kernel
theorem dX11_readTell_0 : decode cX11_readTell 0 = .ok (.aload_n 0, 1) := by decide +kernel
theorem dX11_readTell_1 : decode cX11_readTell 1 = .ok (.ldc 152, 2) := by decide +kernel
theorem dX11_readTell_3 : decode cX11_readTell 3 = .ok (.invokevirtual 133, 3) := by decide +kernel
theorem dX11_readTell_6 : decode cX11_readTell 6 = .ok (.ifCond .ne 8, 3) := by decide +kernel
theorem dX11_readTell_9 : decode cX11_readTell 9 = .ok (.aload_n 0, 1) := by decide +kernel
theorem dX11_readTell_10 : decode cX11_readTell 10 = .ok (.invokevirtual 154, 3) := by decide +kernel
theorem dX11_readTell_13 : decode cX11_readTell 13 = .ok (.return_, 1) := by decide +kernel
theorem dX11_readTell_14 : decode cX11_readTell 14 = .ok (.aload_n 0, 1) := by decide +kernel
theorem dX11_readTell_15 : decode cX11_readTell 15 = .ok (.getfield 157, 3) := by decide +kernel
theorem dX11_readTell_18 : decode cX11_readTell 18 = .ok (.bipush 8, 2) := by decide +kernel
theorem dX11_readTell_20 : decode cX11_readTell 20 = .ok (.if_icmp .ne 9, 3) := by decide +kernel
theorem dX11_readTell_23 : decode cX11_readTell 23 = .ok (.aload_n 0, 1) := by decide +kernel
theorem dX11_readTell_24 : decode cX11_readTell 24 = .ok (.iconst 3, 1) := by decide +kernel
theorem dX11_readTell_25 : decode cX11_readTell 25 = .ok (.invokevirtual 137, 3) := by decide +kernel
theorem dX11_readTell_28 : decode cX11_readTell 28 = .ok (.athrow, 1) := by decide +kernel
theorem dX11_readTell_29 : decode cX11_readTell 29 = .ok (.aload_n 0, 1) := by decide +kernel
theorem dX11_readTell_30 : decode cX11_readTell 30 = .ok (.invokevirtual 160, 3) := by decide +kernel
theorem dX11_readTell_33 : decode cX11_readTell 33 = .ok (.aload_n 0, 1) := by decide +kernel
theorem dX11_readTell_34 : decode cX11_readTell 34 = .ok (.dup, 1) := by decide +kernel
theorem dX11_readTell_35 : decode cX11_readTell 35 = .ok (.getfield 157, 3) := by decide +kernel
theorem dX11_readTell_38 : decode cX11_readTell 38 = .ok (.iconst 1, 1) := by decide +kernel
theorem dX11_readTell_39 : decode cX11_readTell 39 = .ok (.iadd, 1) := by decide +kernel
theorem dX11_readTell_40 : decode cX11_readTell 40 = .ok (.putfield 157, 3) := by decide +kernel
theorem dX11_readTell_43 : decode cX11_readTell 43 = .ok (.aload_n 0, 1) := by decide +kernel
theorem dX11_readTell_44 : decode cX11_readTell 44 = .ok (.invokevirtual 140, 3) := by decide +kernel
theorem dX11_readTell_47 : decode cX11_readTell 47 = .ok (.aload_n 0, 1) := by decide +kernel
theorem dX11_readTell_48 : decode cX11_readTell 48 = .ok (.invokevirtual 154, 3) := by decide +kernel
theorem dX11_readTell_51 : decode cX11_readTell 51 = .ok (.aload_n 0, 1) := by decide +kernel
theorem dX11_readTell_52 : decode cX11_readTell 52 = .ok (.bipush 60, 2) := by decide +kernel
theorem dX11_readTell_54 : decode cX11_readTell 54 = .ok (.invokevirtual 143, 3) := by decide +kernel
theorem dX11_readTell_57 : decode cX11_readTell 57 = .ok (.ifCond .eq 7, 3) := by decide +kernel
theorem dX11_readTell_60 : decode cX11_readTell 60 = .ok (.iconst 5, 1) := by decide +kernel
theorem dX11_readTell_61 : decode cX11_readTell 61 = .ok (.goto 32, 3) := by decide +kernel
theorem dX11_readTell_64 : decode cX11_readTell 64 = .ok (.aload_n 0, 1) := by decide +kernel
theorem dX11_readTell_65 : decode cX11_readTell 65 = .ok (.bipush 62, 2) := by decide +kernel
theorem dX11_readTell_67 : decode cX11_readTell 67 = .ok (.invokevirtual 143, 3) := by decide +kernel
theorem dX11_readTell_70 : decode cX11_readTell 70 = .ok (.ifCond .eq 8, 3) := by decide +kernel
theorem dX11_readTell_73 : decode cX11_readTell 73 = .ok (.bipush 6, 2) := by decide +kernel
theorem dX11_readTell_75 : decode cX11_readTell 75 = .ok (.goto 18, 3) := by decide +kernel
theorem dX11_readTell_78 : decode cX11_readTell 78 = .ok (.aload_n 0, 1) := by decide +kernel
theorem dX11_readTell_79 : decode cX11_readTell 79 = .ok (.bipush 61, 2) := by decide +kernel
theorem dX11_readTell_81 : decode cX11_readTell 81 = .ok (.invokevirtual 143, 3) := by decide +kernel
theorem dX11_readTell_84 : decode cX11_readTell 84 = .ok (.ifCond .eq 8, 3) := by decide +kernel
theorem dX11_readTell_87 : decode cX11_readTell 87 = .ok (.bipush 7, 2) := by decide +kernel
theorem dX11_readTell_89 : decode cX11_readTell 89 = .ok (.goto 4, 3) := by decide +kernel
theorem dX11_readTell_92 : decode cX11_readTell 92 = .ok (.iconst (-1), 1) := by decide +kernel
theorem dX11_readTell_93 : decode cX11_readTell 93 = .ok (.istore_n 1, 1) := by decide +kernel
theorem dX11_readTell_94 : decode cX11_readTell 94 = .ok (.iload_n 1, 1) := by decide +kernel
