theorem dX11_readTell_95 : decode cX11_readTell 95 = .ok (.iconst (-1), 1) := by decide +kernel
theorem dX11_readTell_96 : decode cX11_readTell 96 = .ok (.if_icmp .ne 9, 3) := by decide +kernel
theorem dX11_readTell_99 : decode cX11_readTell 99 = .ok (.aload_n 0, 1) := by decide +kernel
theorem dX11_readTell_100 : decode cX11_readTell 100 = .ok (.iconst 1, 1) := by decide +kernel
theorem dX11_readTell_101 : decode cX11_readTell 101 = .ok (.invokevirtual 137, 3) := by decide +kernel
theorem dX11_readTell_104 : decode cX11_readTell 104 = .ok (.athrow, 1) := by decide +kernel
theorem dX11_readTell_105 : decode cX11_readTell 105 = .ok (.aload_n 0, 1) := by decide +kernel
theorem dX11_readTell_106 : decode cX11_readTell 106 = .ok (.invokevirtual 160, 3) := by decide +kernel
theorem dX11_readTell_109 : decode cX11_readTell 109 = .ok (.aload_n 0, 1) := by decide +kernel
theorem dX11_readTell_110 : decode cX11_readTell 110 = .ok (.invokevirtual 140, 3) := by decide +kernel
theorem dX11_readTell_113 : decode cX11_readTell 113 = .ok (.aload_n 0, 1) := by decide +kernel
theorem dX11_readTell_114 : decode cX11_readTell 114 = .ok (.invokevirtual 154, 3) := by decide +kernel
theorem dX11_readTell_117 : decode cX11_readTell 117 = .ok (.aload_n 0, 1) := by decide +kernel
theorem dX11_readTell_118 : decode cX11_readTell 118 = .ok (.getfield 22, 3) := by decide +kernel
theorem dX11_readTell_121 : decode cX11_readTell 121 = .ok (.iload_n 1, 1) := by decide +kernel
theorem dX11_readTell_122 : decode cX11_readTell 122 = .ok (.iconst 0, 1) := by decide +kernel
theorem dX11_readTell_123 : decode cX11_readTell 123 = .ok (.invokevirtual 163, 3) := by decide +kernel
theorem dX11_readTell_126 : decode cX11_readTell 126 = .ok (.aload_n 0, 1) := by decide +kernel
theorem dX11_readTell_127 : decode cX11_readTell 127 = .ok (.ldc 167, 2) := by decide +kernel
theorem dX11_readTell_129 : decode cX11_readTell 129 = .ok (.invokevirtual 169, 3) := by decide +kernel
theorem dX11_readTell_132 : decode cX11_readTell 132 = .ok (.aload_n 0, 1) := by decide +kernel
theorem dX11_readTell_133 : decode cX11_readTell 133 = .ok (.invokevirtual 173, 3) := by decide +kernel
theorem dX11_readTell_136 : decode cX11_readTell 136 = .ok (.aload_n 0, 1) := by decide +kernel
theorem dX11_readTell_137 : decode cX11_readTell 137 = .ok (.ldc 176, 2) := by decide +kernel
theorem dX11_readTell_139 : decode cX11_readTell 139 = .ok (.invokevirtual 169, 3) := by decide +kernel
theorem dX11_readTell_142 : decode cX11_readTell 142 = .ok (.aload_n 0, 1) := by decide +kernel
theorem dX11_readTell_143 : decode cX11_readTell 143 = .ok (.invokevirtual 173, 3) := by decide +kernel
theorem dX11_readTell_146 : decode cX11_readTell 146 = .ok (.aload_n 0, 1) := by decide +kernel
theorem dX11_readTell_147 : decode cX11_readTell 147 = .ok (.dup, 1) := by decide +kernel
theorem dX11_readTell_148 : decode cX11_readTell 148 = .ok (.getfield 157, 3) := by decide +kernel
theorem dX11_readTell_151 : decode cX11_readTell 151 = .ok (.iconst 1, 1) := by decide +kernel
theorem dX11_readTell_152 : decode cX11_readTell 152 = .ok (.isub, 1) := by decide +kernel
theorem dX11_readTell_153 : decode cX11_readTell 153 = .ok (.putfield 157, 3) := by decide +kernel
theorem dX11_readTell_156 : decode cX11_readTell 156 = .ok (.aload_n 0, 1) := by decide +kernel
theorem dX11_readTell_157 : decode cX11_readTell 157 = .ok (.getfield 22, 3) := by decide +kernel
theorem dX11_readTell_160 : decode cX11_readTell 160 = .ok (.bipush 11, 2) := by decide +kernel
theorem dX11_readTell_162 : decode cX11_readTell 162 = .ok (.iconst 0, 1) := by decide +kernel
theorem dX11_readTell_163 : decode cX11_readTell 163 = .ok (.invokevirtual 163, 3) := by decide +kernel
theorem dX11_readTell_166 : decode cX11_readTell 166 = .ok (.return_, 1) := by decide +kernel
theorem dX11_readSum_0 : decode cX11_readSum 0 = .ok (.aload_n 0, 1) := by decide +kernel
theorem dX11_readSum_1 : decode cX11_readSum 1 = .ok (.invokevirtual 178, 3) := by decide +kernel
theorem dX11_readSum_4 : decode cX11_readSum 4 = .ok (.aload_n 0, 1) := by decide +kernel
theorem dX11_readSum_5 : decode cX11_readSum 5 = .ok (.bipush 43, 2) := by decide +kernel
theorem dX11_readSum_7 : decode cX11_readSum 7 = .ok (.invokevirtual 143, 3) := by decide +kernel
theorem dX11_readSum_10 : decode cX11_readSum 10 = .ok (.ifCond .ne 12, 3) := by decide +kernel
theorem dX11_readSum_13 : decode cX11_readSum 13 = .ok (.aload_n 0, 1) := by decide +kernel
theorem dX11_readSum_14 : decode cX11_readSum 14 = .ok (.bipush 45, 2) := by decide +kernel
theorem dX11_readSum_16 : decode cX11_readSum 16 = .ok (.invokevirtual 143, 3) := by decide +kernel
theorem dX11_readSum_19 : decode cX11_readSum 19 = .ok (.ifCond .eq 42, 3) := by decide +kernel
theorem dX11_readSum_22 : decode cX11_readSum 22 = .ok (.aload_n 0, 1) := by decide +kernel
theorem dX11_readSum_23 : decode cX11_readSum 23 = .ok (.bipush 43, 2) := by decide +kernel
theorem dX11_readSum_25 : decode cX11_readSum 25 = .ok (.invokevirtual 143, 3) := by decide +kernel
theorem dX11_readSum_28 : decode cX11_readSum 28 = .ok (.ifCond .eq 7, 3) := by decide +kernel
theorem dX11_readSum_31 : decode cX11_readSum 31 = .ok (.iconst 2, 1) := by decide +kernel
theorem dX11_readSum_32 : decode cX11_readSum 32 = .ok (.goto 4, 3) := by decide +kernel
theorem dX11_readSum_35 : decode cX11_readSum 35 = .ok (.iconst 3, 1) := by decide +kernel
theorem dX11_readSum_36 : decode cX11_readSum 36 = .ok (.istore_n 1, 1) := by decide +kernel
theorem dX11_readSum_37 : decode cX11_readSum 37 = .ok (.aload_n 0, 1) := by decide +kernel
theorem dX11_readSum_38 : decode cX11_readSum 38 = .ok (.invokevirtual 160, 3) := by decide +kernel
theorem dX11_readSum_41 : decode cX11_readSum 41 = .ok (.aload_n 0, 1) := by decide +kernel
theorem dX11_readSum_42 : decode cX11_readSum 42 = .ok (.invokevirtual 140, 3) := by decide +kernel
theorem dX11_readSum_45 : decode cX11_readSum 45 = .ok (.aload_n 0, 1) := by decide +kernel
theorem dX11_readSum_46 : decode cX11_readSum 46 = .ok (.invokevirtual 178, 3) := by decide +kernel
theorem dX11_readSum_49 : decode cX11_readSum 49 = .ok (.aload_n 0, 1) := by decide +kernel
theorem dX11_readSum_50 : decode cX11_readSum 50 = .ok (.getfield 22, 3) := by decide +kernel
theorem dX11_readSum_53 : decode cX11_readSum 53 = .ok (.iload_n 1, 1) := by decide +kernel
theorem dX11_readSum_54 : decode cX11_readSum 54 = .ok (.iconst 0, 1) := by decide +kernel
theorem dX11_readSum_55 : decode cX11_readSum 55 = .ok (.invokevirtual 163, 3) := by decide +kernel
theorem dX11_readSum_58 : decode cX11_readSum 58 = .ok (.goto (-54), 3) := by decide +kernel
theorem dX11_readSum_61 : decode cX11_readSum 61 = .ok (.return_, 1) := by decide +kernel
theorem dX11_readTerm_0 : decode cX11_readTerm 0 = .ok (.aload_n 0, 1) := by decide +kernel
theorem dX11_readTerm_1 : decode cX11_readTerm 1 = .ok (.invokevirtual 181, 3) := by decide +kernel
theorem dX11_readTerm_4 : decode cX11_readTerm 4 = .ok (.aload_n 0, 1) := by decide +kernel
theorem dX11_readTerm_5 : decode cX11_readTerm 5 = .ok (.bipush 42, 2) := by decide +kernel
theorem dX11_readTerm_7 : decode cX11_readTerm 7 = .ok (.invokevirtual 143, 3) := by decide +kernel
theorem dX11_readTerm_10 : decode cX11_readTerm 10 = .ok (.ifCond .eq 27, 3) := by decide +kernel
theorem dX11_readTerm_13 : decode cX11_readTerm 13 = .ok (.aload_n 0, 1) := by decide +kernel
theorem dX11_readTerm_14 : decode cX11_readTerm 14 = .ok (.invokevirtual 160, 3) := by decide +kernel
theorem dX11_readTerm_17 : decode cX11_readTerm 17 = .ok (.aload_n 0, 1) := by decide +kernel
theorem dX11_readTerm_18 : decode cX11_readTerm 18 = .ok (.invokevirtual 140, 3) := by decide +kernel
theorem dX11_readTerm_21 : decode cX11_readTerm 21 = .ok (.aload_n 0, 1) := by decide +kernel
theorem dX11_readTerm_22 : decode cX11_readTerm 22 = .ok (.invokevirtual 181, 3) := by decide +kernel
theorem dX11_readTerm_25 : decode cX11_readTerm 25 = .ok (.aload_n 0, 1) := by decide +kernel
theorem dX11_readTerm_26 : decode cX11_readTerm 26 = .ok (.getfield 22, 3) := by decide +kernel
theorem dX11_readTerm_29 : decode cX11_readTerm 29 = .ok (.iconst 4, 1) := by decide +kernel
theorem dX11_readTerm_30 : decode cX11_readTerm 30 = .ok (.iconst 0, 1) := by decide +kernel
theorem dX11_readTerm_31 : decode cX11_readTerm 31 = .ok (.invokevirtual 163, 3) := by decide +kernel
theorem dX11_readTerm_34 : decode cX11_readTerm 34 = .ok (.goto (-30), 3) := by decide +kernel
theorem dX11_readTerm_37 : decode cX11_readTerm 37 = .ok (.return_, 1) := by decide +kernel
theorem dX11_readOne_0 : decode cX11_readOne 0 = .ok (.iconst 0, 1) := by decide +kernel
theorem dX11_readOne_1 : decode cX11_readOne 1 = .ok (.istore_n 1, 1) := by decide +kernel
theorem dX11_readOne_2 : decode cX11_readOne 2 = .ok (.aload_n 0, 1) := by decide +kernel
theorem dX11_readOne_3 : decode cX11_readOne 3 = .ok (.bipush 45, 2) := by decide +kernel
theorem dX11_readOne_5 : decode cX11_readOne 5 = .ok (.invokevirtual 143, 3) := by decide +kernel
theorem dX11_readOne_8 : decode cX11_readOne 8 = .ok (.ifCond .eq 17, 3) := by decide +kernel
theorem dX11_readOne_11 : decode cX11_readOne 11 = .ok (.aload_n 0, 1) := by decide +kernel
theorem dX11_readOne_12 : decode cX11_readOne 12 = .ok (.invokevirtual 160, 3) := by decide +kernel
theorem dX11_readOne_15 : decode cX11_readOne 15 = .ok (.iinc 1 1, 3) := by decide +kernel
theorem dX11_readOne_18 : decode cX11_readOne 18 = .ok (.aload_n 0, 1) := by decide +kernel
theorem dX11_readOne_19 : decode cX11_readOne 19 = .ok (.invokevirtual 140, 3) := by decide +kernel
theorem dX11_readOne_22 : decode cX11_readOne 22 = .ok (.goto (-20), 3) := by decide +kernel
theorem dX11_readOne_25 : decode cX11_readOne 25 = .ok (.aload_n 0, 1) := by decide +kernel
theorem dX11_readOne_26 : decode cX11_readOne 26 = .ok (.getfield 106, 3) := by decide +kernel
theorem dX11_readOne_29 : decode cX11_readOne 29 = .ok (.iconst 3, 1) := by decide +kernel
theorem dX11_readOne_30 : decode cX11_readOne 30 = .ok (.if_icmp .ne 26, 3) := by decide +kernel
theorem dX11_readOne_33 : decode cX11_readOne 33 = .ok (.aload_n 0, 1) := by decide +kernel
theorem dX11_readOne_34 : decode cX11_readOne 34 = .ok (.invokevirtual 160, 3) := by decide +kernel
theorem dX11_readOne_37 : decode cX11_readOne 37 = .ok (.aload_n 0, 1) := by decide +kernel
theorem dX11_readOne_38 : decode cX11_readOne 38 = .ok (.getfield 22, 3) := by decide +kernel
theorem dX11_readOne_41 : decode cX11_readOne 41 = .ok (.iconst 0, 1) := by decide +kernel
theorem dX11_readOne_42 : decode cX11_readOne 42 = .ok (.aload_n 0, 1) := by decide +kernel
theorem dX11_readOne_43 : decode cX11_readOne 43 = .ok (.getfield 126, 3) := by decide +kernel
theorem dX11_readOne_46 : decode cX11_readOne 46 = .ok (.invokevirtual 163, 3) := by decide +kernel
theorem dX11_readOne_49 : decode cX11_readOne 49 = .ok (.aload_n 0, 1) := by decide +kernel
theorem dX11_readOne_50 : decode cX11_readOne 50 = .ok (.invokevirtual 140, 3) := by decide +kernel
theorem dX11_readOne_53 : decode cX11_readOne 53 = .ok (.goto 57, 3) := by decide +kernel
theorem dX11_readOne_56 : decode cX11_readOne 56 = .ok (.aload_n 0, 1) := by decide +kernel
theorem dX11_readOne_57 : decode cX11_readOne 57 = .ok (.bipush 40, 2) := by decide +kernel
theorem dX11_readOne_59 : decode cX11_readOne 59 = .ok (.invokevirtual 143, 3) := by decide +kernel
theorem dX11_readOne_62 : decode cX11_readOne 62 = .ok (.ifCond .eq 30, 3) := by decide +kernel
theorem dX11_readOne_65 : decode cX11_readOne 65 = .ok (.aload_n 0, 1) := by decide +kernel
theorem dX11_readOne_66 : decode cX11_readOne 66 = .ok (.invokevirtual 184, 3) := by decide +kernel
theorem dX11_readOne_69 : decode cX11_readOne 69 = .ok (.aload_n 0, 1) := by decide +kernel
theorem dX11_readOne_70 : decode cX11_readOne 70 = .ok (.invokevirtual 173, 3) := by decide +kernel
theorem dX11_readOne_73 : decode cX11_readOne 73 = .ok (.aload_n 0, 1) := by decide +kernel
theorem dX11_readOne_74 : decode cX11_readOne 74 = .ok (.bipush 41, 2) := by decide +kernel
theorem dX11_readOne_76 : decode cX11_readOne 76 = .ok (.invokevirtual 187, 3) := by decide +kernel
theorem dX11_readOne_79 : decode cX11_readOne 79 = .ok (.aload_n 0, 1) := by decide +kernel
theorem dX11_readOne_80 : decode cX11_readOne 80 = .ok (.dup, 1) := by decide +kernel
theorem dX11_readOne_81 : decode cX11_readOne 81 = .ok (.getfield 149, 3) := by decide +kernel
theorem dX11_readOne_84 : decode cX11_readOne 84 = .ok (.iconst 1, 1) := by decide +kernel
theorem dX11_readOne_85 : decode cX11_readOne 85 = .ok (.isub, 1) := by decide +kernel
theorem dX11_readOne_86 : decode cX11_readOne 86 = .ok (.putfield 149, 3) := by decide +kernel
theorem dX11_readOne_89 : decode cX11_readOne 89 = .ok (.goto 21, 3) := by decide +kernel
theorem dX11_readOne_92 : decode cX11_readOne 92 = .ok (.aload_n 0, 1) := by decide +kernel
theorem dX11_readOne_93 : decode cX11_readOne 93 = .ok (.getfield 106, 3) := by decide +kernel
theorem dX11_readOne_96 : decode cX11_readOne 96 = .ok (.iconst 2, 1) := by decide +kernel
theorem dX11_readOne_97 : decode cX11_readOne 97 = .ok (.if_icmp .eq 9, 3) := by decide +kernel
theorem dX11_readOne_100 : decode cX11_readOne 100 = .ok (.aload_n 0, 1) := by decide +kernel
theorem dX11_readOne_101 : decode cX11_readOne 101 = .ok (.iconst 1, 1) := by decide +kernel
theorem dX11_readOne_102 : decode cX11_readOne 102 = .ok (.invokevirtual 137, 3) := by decide +kernel
theorem dX11_readOne_105 : decode cX11_readOne 105 = .ok (.athrow, 1) := by decide +kernel
theorem dX11_readOne_106 : decode cX11_readOne 106 = .ok (.aload_n 0, 1) := by decide +kernel
theorem dX11_readOne_107 : decode cX11_readOne 107 = .ok (.invokevirtual 191, 3) := by decide +kernel
theorem dX11_readOne_110 : decode cX11_readOne 110 = .ok (.iconst 0, 1) := by decide +kernel
theorem dX11_readOne_111 : decode cX11_readOne 111 = .ok (.istore_n 2, 1) := by decide +kernel
theorem dX11_readOne_112 : decode cX11_readOne 112 = .ok (.iload_n 2, 1) := by decide +kernel
theorem dX11_readOne_113 : decode cX11_readOne 113 = .ok (.iload_n 1, 1) := by decide +kernel
theorem dX11_readOne_114 : decode cX11_readOne 114 = .ok (.if_icmp .ge 19, 3) := by decide +kernel
theorem dX11_readOne_117 : decode cX11_readOne 117 = .ok (.aload_n 0, 1) := by decide +kernel
theorem dX11_readOne_118 : decode cX11_readOne 118 = .ok (.getfield 22, 3) := by decide +kernel
theorem dX11_readOne_121 : decode cX11_readOne 121 = .ok (.bipush 8, 2) := by decide +kernel
theorem dX11_readOne_123 : decode cX11_readOne 123 = .ok (.iconst 0, 1) := by decide +kernel
theorem dX11_readOne_124 : decode cX11_readOne 124 = .ok (.invokevirtual 163, 3) := by decide +kernel
theorem dX11_readOne_127 : decode cX11_readOne 127 = .ok (.iinc 2 1, 3) := by decide +kernel
theorem dX11_readOne_130 : decode cX11_readOne 130 = .ok (.goto (-18), 3) := by decide +kernel
theorem dX11_readOne_133 : decode cX11_readOne 133 = .ok (.return_, 1) := by decide +kernel
theorem dX11_readWord_0 : decode cX11_readWord 0 = .ok (.aload_n 0, 1) := by decide +kernel
theorem dX11_readWord_1 : decode cX11_readWord 1 = .ok (.ldc 152, 2) := by decide +kernel
theorem dX11_readWord_3 : decode cX11_readWord 3 = .ok (.invokevirtual 133, 3) := by decide +kernel
theorem dX11_readWord_6 : decode cX11_readWord 6 = .ok (.ifCond .ne 21, 3) := by decide +kernel
theorem dX11_readWord_9 : decode cX11_readWord 9 = .ok (.aload_n 0, 1) := by decide +kernel
theorem dX11_readWord_10 : decode cX11_readWord 10 = .ok (.ldc 167, 2) := by decide +kernel
theorem dX11_readWord_12 : decode cX11_readWord 12 = .ok (.invokevirtual 133, 3) := by decide +kernel
theorem dX11_readWord_15 : decode cX11_readWord 15 = .ok (.ifCond .ne 12, 3) := by decide +kernel
theorem dX11_readWord_18 : decode cX11_readWord 18 = .ok (.aload_n 0, 1) := by decide +kernel
theorem dX11_readWord_19 : decode cX11_readWord 19 = .ok (.ldc 176, 2) := by decide +kernel
theorem dX11_readWord_21 : decode cX11_readWord 21 = .ok (.invokevirtual 133, 3) := by decide +kernel
theorem dX11_readWord_24 : decode cX11_readWord 24 = .ok (.ifCond .eq 9, 3) := by decide +kernel
theorem dX11_readWord_27 : decode cX11_readWord 27 = .ok (.aload_n 0, 1) := by decide +kernel
theorem dX11_readWord_28 : decode cX11_readWord 28 = .ok (.iconst 1, 1) := by decide +kernel
theorem dX11_readWord_29 : decode cX11_readWord 29 = .ok (.invokevirtual 137, 3) := by decide +kernel
theorem dX11_readWord_32 : decode cX11_readWord 32 = .ok (.athrow, 1) := by decide +kernel
theorem dX11_readWord_33 : decode cX11_readWord 33 = .ok (.aload_n 0, 1) := by decide +kernel
theorem dX11_readWord_34 : decode cX11_readWord 34 = .ok (.ldc 194, 2) := by decide +kernel
theorem dX11_readWord_36 : decode cX11_readWord 36 = .ok (.invokevirtual 133, 3) := by decide +kernel
theorem dX11_readWord_39 : decode cX11_readWord 39 = .ok (.ifCond .ne 12, 3) := by decide +kernel
theorem dX11_readWord_42 : decode cX11_readWord 42 = .ok (.aload_n 0, 1) := by decide +kernel
theorem dX11_readWord_43 : decode cX11_readWord 43 = .ok (.ldc 196, 2) := by decide +kernel
theorem dX11_readWord_45 : decode cX11_readWord 45 = .ok (.invokevirtual 133, 3) := by decide +kernel
theorem dX11_readWord_48 : decode cX11_readWord 48 = .ok (.ifCond .eq 72, 3) := by decide +kernel
theorem dX11_readWord_51 : decode cX11_readWord 51 = .ok (.aload_n 0, 1) := by decide +kernel
theorem dX11_readWord_52 : decode cX11_readWord 52 = .ok (.ldc 194, 2) := by decide +kernel
theorem dX11_readWord_54 : decode cX11_readWord 54 = .ok (.invokevirtual 133, 3) := by decide +kernel
theorem dX11_readWord_57 : decode cX11_readWord 57 = .ok (.ifCond .eq 8, 3) := by decide +kernel
theorem dX11_readWord_60 : decode cX11_readWord 60 = .ok (.bipush 9, 2) := by decide +kernel
theorem dX11_readWord_62 : decode cX11_readWord 62 = .ok (.goto 5, 3) := by decide +kernel
theorem dX11_readWord_65 : decode cX11_readWord 65 = .ok (.bipush 10, 2) := by decide +kernel
theorem dX11_readWord_67 : decode cX11_readWord 67 = .ok (.istore_n 1, 1) := by decide +kernel
theorem dX11_readWord_68 : decode cX11_readWord 68 = .ok (.aload_n 0, 1) := by decide +kernel
theorem dX11_readWord_69 : decode cX11_readWord 69 = .ok (.invokevirtual 160, 3) := by decide +kernel
theorem dX11_readWord_72 : decode cX11_readWord 72 = .ok (.aload_n 0, 1) := by decide +kernel
theorem dX11_readWord_73 : decode cX11_readWord 73 = .ok (.invokevirtual 140, 3) := by decide +kernel
theorem dX11_readWord_76 : decode cX11_readWord 76 = .ok (.aload_n 0, 1) := by decide +kernel
theorem dX11_readWord_77 : decode cX11_readWord 77 = .ok (.invokevirtual 184, 3) := by decide +kernel
theorem dX11_readWord_80 : decode cX11_readWord 80 = .ok (.aload_n 0, 1) := by decide +kernel
theorem dX11_readWord_81 : decode cX11_readWord 81 = .ok (.invokevirtual 173, 3) := by decide +kernel
theorem dX11_readWord_84 : decode cX11_readWord 84 = .ok (.aload_n 0, 1) := by decide +kernel
theorem dX11_readWord_85 : decode cX11_readWord 85 = .ok (.bipush 44, 2) := by decide +kernel
theorem dX11_readWord_87 : decode cX11_readWord 87 = .ok (.invokevirtual 187, 3) := by decide +kernel
theorem dX11_readWord_90 : decode cX11_readWord 90 = .ok (.aload_n 0, 1) := by decide +kernel
theorem dX11_readWord_91 : decode cX11_readWord 91 = .ok (.invokevirtual 173, 3) := by decide +kernel
theorem dX11_readWord_94 : decode cX11_readWord 94 = .ok (.aload_n 0, 1) := by decide +kernel
theorem dX11_readWord_95 : decode cX11_readWord 95 = .ok (.bipush 41, 2) := by decide +kernel
theorem dX11_readWord_97 : decode cX11_readWord 97 = .ok (.invokevirtual 187, 3) := by decide +kernel
theorem dX11_readWord_100 : decode cX11_readWord 100 = .ok (.aload_n 0, 1) := by decide +kernel
theorem dX11_readWord_101 : decode cX11_readWord 101 = .ok (.dup, 1) := by decide +kernel
theorem dX11_readWord_102 : decode cX11_readWord 102 = .ok (.getfield 149, 3) := by decide +kernel
theorem dX11_readWord_105 : decode cX11_readWord 105 = .ok (.iconst 1, 1) := by decide +kernel
theorem dX11_readWord_106 : decode cX11_readWord 106 = .ok (.isub, 1) := by decide +kernel
theorem dX11_readWord_107 : decode cX11_readWord 107 = .ok (.putfield 149, 3) := by decide +kernel
theorem dX11_readWord_110 : decode cX11_readWord 110 = .ok (.aload_n 0, 1) := by decide +kernel
theorem dX11_readWord_111 : decode cX11_readWord 111 = .ok (.getfield 22, 3) := by decide +kernel
theorem dX11_readWord_114 : decode cX11_readWord 114 = .ok (.iload_n 1, 1) := by decide +kernel
theorem dX11_readWord_115 : decode cX11_readWord 115 = .ok (.iconst 0, 1) := by decide +kernel
theorem dX11_readWord_116 : decode cX11_readWord 116 = .ok (.invokevirtual 163, 3) := by decide +kernel
theorem dX11_readWord_119 : decode cX11_readWord 119 = .ok (.return_, 1) := by decide +kernel
theorem dX11_readWord_120 : decode cX11_readWord 120 = .ok (.aload_n 0, 1) := by decide +kernel
theorem dX11_readWord_121 : decode cX11_readWord 121 = .ok (.getfield 116, 3) := by decide +kernel
theorem dX11_readWord_124 : decode cX11_readWord 124 = .ok (.ldc 198, 2) := by decide +kernel
theorem dX11_readWord_126 : decode cX11_readWord 126 = .ok (.invokestatic 129, 3) := by decide +kernel
theorem dX11_readWord_129 : decode cX11_readWord 129 = .ok (.lcmp, 1) := by decide +kernel
theorem dX11_readWord_130 : decode cX11_readWord 130 = .ok (.ifCond .ne 15, 3) := by decide +kernel
theorem dX11_readWord_133 : decode cX11_readWord 133 = .ok (.aload_n 0, 1) := by decide +kernel
theorem dX11_readWord_134 : decode cX11_readWord 134 = .ok (.getfield 120, 3) := by decide +kernel
theorem dX11_readWord_137 : decode cX11_readWord 137 = .ok (.iconst 0, 1) := by decide +kernel
theorem dX11_readWord_138 : decode cX11_readWord 138 = .ok (.iconst 5, 1) := by decide +kernel
theorem dX11_readWord_139 : decode cX11_readWord 139 = .ok (.invokestatic 200, 3) := by decide +kernel
theorem dX11_readWord_142 : decode cX11_readWord 142 = .ok (.ifCond .ne 9, 3) := by decide +kernel
theorem dX11_readWord_145 : decode cX11_readWord 145 = .ok (.aload_n 0, 1) := by decide +kernel
theorem dX11_readWord_146 : decode cX11_readWord 146 = .ok (.iconst 2, 1) := by decide +kernel
theorem dX11_readWord_147 : decode cX11_readWord 147 = .ok (.invokevirtual 137, 3) := by decide +kernel
theorem dX11_readWord_150 : decode cX11_readWord 150 = .ok (.athrow, 1) := by decide +kernel
theorem dX11_readWord_151 : decode cX11_readWord 151 = .ok (.aload_n 0, 1) := by decide +kernel
theorem dX11_readWord_152 : decode cX11_readWord 152 = .ok (.invokevirtual 160, 3) := by decide +kernel
theorem dX11_readWord_155 : decode cX11_readWord 155 = .ok (.aload_n 0, 1) := by decide +kernel
theorem dX11_readWord_156 : decode cX11_readWord 156 = .ok (.getfield 22, 3) := by decide +kernel
theorem dX11_readWord_159 : decode cX11_readWord 159 = .ok (.iconst 1, 1) := by decide +kernel
theorem dX11_readWord_160 : decode cX11_readWord 160 = .ok (.aload_n 0, 1) := by decide +kernel
theorem dX11_readWord_161 : decode cX11_readWord 161 = .ok (.getfield 120, 3) := by decide +kernel
theorem dX11_readWord_164 : decode cX11_readWord 164 = .ok (.invokevirtual 163, 3) := by decide +kernel
theorem dX11_readWord_167 : decode cX11_readWord 167 = .ok (.aload_n 0, 1) := by decide +kernel
theorem dX11_readWord_168 : decode cX11_readWord 168 = .ok (.getfield 22, 3) := by decide +kernel
theorem dX11_readWord_171 : decode cX11_readWord 171 = .ok (.dup, 1) := by decide +kernel
theorem dX11_readWord_172 : decode cX11_readWord 172 = .ok (.getfield 204, 3) := by decide +kernel
theorem dX11_readWord_175 : decode cX11_readWord 175 = .ok (.iconst 1, 1) := by decide +kernel
theorem dX11_readWord_176 : decode cX11_readWord 176 = .ok (.aload_n 0, 1) := by decide +kernel
theorem dX11_readWord_177 : decode cX11_readWord 177 = .ok (.getfield 120, 3) := by decide +kernel
theorem dX11_readWord_180 : decode cX11_readWord 180 = .ok (.ishl, 1) := by decide +kernel
theorem dX11_readWord_181 : decode cX11_readWord 181 = .ok (.ior, 1) := by decide +kernel
theorem dX11_readWord_182 : decode cX11_readWord 182 = .ok (.putfield 204, 3) := by decide +kernel
theorem dX11_readWord_185 : decode cX11_readWord 185 = .ok (.aload_n 0, 1) := by decide +kernel
theorem dX11_readWord_186 : decode cX11_readWord 186 = .ok (.invokevirtual 140, 3) := by decide +kernel
theorem dX11_readWord_189 : decode cX11_readWord 189 = .ok (.return_, 1) := by decide +kernel
theorem dX11_feed_0 : decode cX11_feed 0 = .ok (.aload_n 0, 1) := by decide +kernel
theorem dX11_feed_1 : decode cX11_feed 1 = .ok (.iconst 0, 1) := by decide +kernel
theorem dX11_feed_2 : decode cX11_feed 2 = .ok (.putfield 71, 3) := by decide +kernel
theorem dX11_feed_5 : decode cX11_feed 5 = .ok (.aload_n 0, 1) := by decide +kernel
theorem dX11_feed_6 : decode cX11_feed 6 = .ok (.getfield 207, 3) := by decide +kernel
theorem dX11_feed_9 : decode cX11_feed 9 = .ok (.bipush 20, 2) := by decide +kernel
theorem dX11_feed_11 : decode cX11_feed 11 = .ok (.iadd, 1) := by decide +kernel
theorem dX11_feed_12 : decode cX11_feed 12 = .ok (.sipush 300, 3) := by decide +kernel
theorem dX11_feed_15 : decode cX11_feed 15 = .ok (.if_icmp .le 5, 3) := by decide +kernel
theorem dX11_feed_18 : decode cX11_feed 18 = .ok (.iconst (-1), 1) := by decide +kernel
theorem dX11_feed_19 : decode cX11_feed 19 = .ok (.ireturn, 1) := by decide +kernel
theorem dX11_feed_20 : decode cX11_feed 20 = .ok (.iconst 0, 1) := by decide +kernel
theorem dX11_feed_21 : decode cX11_feed 21 = .ok (.istore 6, 2) := by decide +kernel
theorem dX11_feed_23 : decode cX11_feed 23 = .ok (.iload 6, 2) := by decide +kernel
theorem dX11_feed_25 : decode cX11_feed 25 = .ok (.bipush 20, 2) := by decide +kernel
theorem dX11_feed_27 : decode cX11_feed 27 = .ok (.if_icmp .ge 90, 3) := by decide +kernel
theorem dX11_feed_30 : decode cX11_feed 30 = .ok (.iload 6, 2) := by decide +kernel
theorem dX11_feed_32 : decode cX11_feed 32 = .ok (.iconst 4, 1) := by decide +kernel
theorem dX11_feed_33 : decode cX11_feed 33 = .ok (.if_icmp .ge 7, 3) := by decide +kernel
theorem dX11_feed_36 : decode cX11_feed 36 = .ok (.iload_n 1, 1) := by decide +kernel
theorem dX11_feed_37 : decode cX11_feed 37 = .ok (.goto 39, 3) := by decide +kernel
theorem dX11_feed_40 : decode cX11_feed 40 = .ok (.iload 6, 2) := by decide +kernel
theorem dX11_feed_42 : decode cX11_feed 42 = .ok (.bipush 8, 2) := by decide +kernel
theorem dX11_feed_44 : decode cX11_feed 44 = .ok (.if_icmp .ge 7, 3) := by decide +kernel
theorem dX11_feed_47 : decode cX11_feed 47 = .ok (.iload_n 2, 1) := by decide +kernel
theorem dX11_feed_48 : decode cX11_feed 48 = .ok (.goto 28, 3) := by decide +kernel
theorem dX11_feed_51 : decode cX11_feed 51 = .ok (.iload 6, 2) := by decide +kernel
theorem dX11_feed_53 : decode cX11_feed 53 = .ok (.bipush 12, 2) := by decide +kernel
theorem dX11_feed_55 : decode cX11_feed 55 = .ok (.if_icmp .ge 7, 3) := by decide +kernel
theorem dX11_feed_58 : decode cX11_feed 58 = .ok (.iload_n 3, 1) := by decide +kernel
theorem dX11_feed_59 : decode cX11_feed 59 = .ok (.goto 17, 3) := by decide +kernel
theorem dX11_feed_62 : decode cX11_feed 62 = .ok (.iload 6, 2) := by decide +kernel
theorem dX11_feed_64 : decode cX11_feed 64 = .ok (.bipush 16, 2) := by decide +kernel
theorem dX11_feed_66 : decode cX11_feed 66 = .ok (.if_icmp .ge 8, 3) := by decide +kernel
theorem dX11_feed_69 : decode cX11_feed 69 = .ok (.iload 4, 2) := by decide +kernel
theorem dX11_feed_71 : decode cX11_feed 71 = .ok (.goto 5, 3) := by decide +kernel
theorem dX11_feed_74 : decode cX11_feed 74 = .ok (.iload 5, 2) := by decide +kernel
theorem dX11_feed_76 : decode cX11_feed 76 = .ok (.istore 7, 2) := by decide +kernel
theorem dX11_feed_78 : decode cX11_feed 78 = .ok (.aload_n 0, 1) := by decide +kernel
theorem dX11_feed_79 : decode cX11_feed 79 = .ok (.getfield 33, 3) := by decide +kernel
theorem dX11_feed_82 : decode cX11_feed 82 = .ok (.aload_n 0, 1) := by decide +kernel
theorem dX11_feed_83 : decode cX11_feed 83 = .ok (.getfield 207, 3) := by decide +kernel
theorem dX11_feed_86 : decode cX11_feed 86 = .ok (.iload 7, 2) := by decide +kernel
theorem dX11_feed_88 : decode cX11_feed 88 = .ok (.bipush 24, 2) := by decide +kernel
theorem dX11_feed_90 : decode cX11_feed 90 = .ok (.bipush 8, 2) := by decide +kernel
theorem dX11_feed_92 : decode cX11_feed 92 = .ok (.iload 6, 2) := by decide +kernel
theorem dX11_feed_94 : decode cX11_feed 94 = .ok (.iconst 4, 1) := by decide +kernel
theorem dX11_feed_95 : decode cX11_feed 95 = .ok (.irem, 1) := by decide +kernel
theorem dX11_feed_96 : decode cX11_feed 96 = .ok (.imul, 1) := by decide +kernel
theorem dX11_feed_97 : decode cX11_feed 97 = .ok (.isub, 1) := by decide +kernel
theorem dX11_feed_98 : decode cX11_feed 98 = .ok (.ishr, 1) := by decide +kernel
theorem dX11_feed_99 : decode cX11_feed 99 = .ok (.i2b, 1) := by decide +kernel
theorem dX11_feed_100 : decode cX11_feed 100 = .ok (.bastore, 1) := by decide +kernel
theorem dX11_feed_101 : decode cX11_feed 101 = .ok (.aload_n 0, 1) := by decide +kernel
theorem dX11_feed_102 : decode cX11_feed 102 = .ok (.dup, 1) := by decide +kernel
theorem dX11_feed_103 : decode cX11_feed 103 = .ok (.getfield 207, 3) := by decide +kernel
theorem dX11_feed_106 : decode cX11_feed 106 = .ok (.iconst 1, 1) := by decide +kernel
theorem dX11_feed_107 : decode cX11_feed 107 = .ok (.iadd, 1) := by decide +kernel
theorem dX11_feed_108 : decode cX11_feed 108 = .ok (.putfield 207, 3) := by decide +kernel
theorem dX11_feed_111 : decode cX11_feed 111 = .ok (.iinc 6 1, 3) := by decide +kernel
theorem dX11_feed_114 : decode cX11_feed 114 = .ok (.goto (-91), 3) := by decide +kernel
theorem dX11_feed_117 : decode cX11_feed 117 = .ok (.aload_n 0, 1) := by decide +kernel
theorem dX11_feed_118 : decode cX11_feed 118 = .ok (.getfield 207, 3) := by decide +kernel
theorem dX11_feed_121 : decode cX11_feed 121 = .ok (.ireturn, 1) := by decide +kernel
theorem dX11_model_0 : decode cX11_model 0 = .ok (.aload_n 0, 1) := by decide +kernel
theorem dX11_model_1 : decode cX11_model 1 = .ok (.iconst 0, 1) := by decide +kernel
theorem dX11_model_2 : decode cX11_model 2 = .ok (.putfield 71, 3) := by decide +kernel
theorem dX11_model_5 : decode cX11_model 5 = .ok (.iload_n 1, 1) := by decide +kernel
theorem dX11_model_6 : decode cX11_model 6 = .ok (.ifCond .lt 11, 3) := by decide +kernel
theorem dX11_model_9 : decode cX11_model 9 = .ok (.iload_n 1, 1) := by decide +kernel
theorem dX11_model_10 : decode cX11_model 10 = .ok (.aload_n 0, 1) := by decide +kernel
theorem dX11_model_11 : decode cX11_model 11 = .ok (.getfield 207, 3) := by decide +kernel
theorem dX11_model_14 : decode cX11_model 14 = .ok (.if_icmp .le 9, 3) := by decide +kernel
theorem dX11_model_17 : decode cX11_model 17 = .ok (.aload_n 0, 1) := by decide +kernel
theorem dX11_model_18 : decode cX11_model 18 = .ok (.iconst 2, 1) := by decide +kernel
theorem dX11_model_19 : decode cX11_model 19 = .ok (.invokevirtual 210, 3) := by decide +kernel
theorem dX11_model_22 : decode cX11_model 22 = .ok (.ireturn, 1) := by decide +kernel
theorem dX11_model_23 : decode cX11_model 23 = .ok (.aload_n 0, 1) := by decide +kernel
theorem dX11_model_24 : decode cX11_model 24 = .ok (.iload_n 1, 1) := by decide +kernel
theorem dX11_model_25 : decode cX11_model 25 = .ok (.putfield 84, 3) := by decide +kernel
theorem dX11_model_28 : decode cX11_model 28 = .ok (.aload_n 0, 1) := by decide +kernel
theorem dX11_model_29 : decode cX11_model 29 = .ok (.iconst 0, 1) := by decide +kernel
theorem dX11_model_30 : decode cX11_model 30 = .ok (.putfield 207, 3) := by decide +kernel
theorem dX11_model_33 : decode cX11_model 33 = .ok (.aload_n 0, 1) := by decide +kernel
theorem dX11_model_34 : decode cX11_model 34 = .ok (.iconst 0, 1) := by decide +kernel
theorem dX11_model_35 : decode cX11_model 35 = .ok (.putfield 99, 3) := by decide +kernel
theorem dX11_model_38 : decode cX11_model 38 = .ok (.aload_n 0, 1) := by decide +kernel
theorem dX11_model_39 : decode cX11_model 39 = .ok (.iconst 0, 1) := by decide +kernel
theorem dX11_model_40 : decode cX11_model 40 = .ok (.putfield 213, 3) := by decide +kernel
theorem dX11_model_43 : decode cX11_model 43 = .ok (.aload_n 0, 1) := by decide +kernel
theorem dX11_model_44 : decode cX11_model 44 = .ok (.getfield 22, 3) := by decide +kernel
theorem dX11_model_47 : decode cX11_model 47 = .ok (.iconst 0, 1) := by decide +kernel
theorem dX11_model_48 : decode cX11_model 48 = .ok (.putfield 146, 3) := by decide +kernel
theorem dX11_model_51 : decode cX11_model 51 = .ok (.aload_n 0, 1) := by decide +kernel
theorem dX11_model_52 : decode cX11_model 52 = .ok (.getfield 22, 3) := by decide +kernel
theorem dX11_model_55 : decode cX11_model 55 = .ok (.iconst 0, 1) := by decide +kernel
theorem dX11_model_56 : decode cX11_model 56 = .ok (.putfield 216, 3) := by decide +kernel
theorem dX11_model_59 : decode cX11_model 59 = .ok (.aload_n 0, 1) := by decide +kernel
theorem dX11_model_60 : decode cX11_model 60 = .ok (.getfield 22, 3) := by decide +kernel
theorem dX11_model_63 : decode cX11_model 63 = .ok (.iconst 0, 1) := by decide +kernel
theorem dX11_model_64 : decode cX11_model 64 = .ok (.putfield 204, 3) := by decide +kernel
theorem dX11_model_67 : decode cX11_model 67 = .ok (.aload_n 0, 1) := by decide +kernel
theorem dX11_model_68 : decode cX11_model 68 = .ok (.iconst 0, 1) := by decide +kernel
theorem dX11_model_69 : decode cX11_model 69 = .ok (.putfield 149, 3) := by decide +kernel
theorem dX11_model_72 : decode cX11_model 72 = .ok (.aload_n 0, 1) := by decide +kernel
theorem dX11_model_73 : decode cX11_model 73 = .ok (.iconst 0, 1) := by decide +kernel
theorem dX11_model_74 : decode cX11_model 74 = .ok (.putfield 157, 3) := by decide +kernel
theorem dX11_model_77 : decode cX11_model 77 = .ok (.aload_n 0, 1) := by decide +kernel
theorem dX11_model_78 : decode cX11_model 78 = .ok (.invokevirtual 140, 3) := by decide +kernel
theorem dX11_model_81 : decode cX11_model 81 = .ok (.aload_n 0, 1) := by decide +kernel
theorem dX11_model_82 : decode cX11_model 82 = .ok (.invokevirtual 173, 3) := by decide +kernel
theorem dX11_model_85 : decode cX11_model 85 = .ok (.aload_n 0, 1) := by decide +kernel
theorem dX11_model_86 : decode cX11_model 86 = .ok (.getfield 106, 3) := by decide +kernel
theorem dX11_model_89 : decode cX11_model 89 = .ok (.iconst 1, 1) := by decide +kernel
theorem dX11_model_90 : decode cX11_model 90 = .ok (.if_icmp .eq 9, 3) := by decide +kernel
theorem dX11_model_93 : decode cX11_model 93 = .ok (.aload_n 0, 1) := by decide +kernel
theorem dX11_model_94 : decode cX11_model 94 = .ok (.iconst 1, 1) := by decide +kernel
theorem dX11_model_95 : decode cX11_model 95 = .ok (.invokevirtual 137, 3) := by decide +kernel
theorem dX11_model_98 : decode cX11_model 98 = .ok (.athrow, 1) := by decide +kernel
theorem dX11_model_99 : decode cX11_model 99 = .ok (.goto 27, 3) := by decide +kernel
theorem dX11_model_102 : decode cX11_model 102 = .ok (.astore_n 2, 1) := by decide +kernel
theorem dX11_model_103 : decode cX11_model 103 = .ok (.aload_n 0, 1) := by decide +kernel
theorem dX11_model_104 : decode cX11_model 104 = .ok (.aload_n 2, 1) := by decide +kernel
theorem dX11_model_105 : decode cX11_model 105 = .ok (.getfield 77, 3) := by decide +kernel
theorem dX11_model_108 : decode cX11_model 108 = .ok (.putfield 213, 3) := by decide +kernel
theorem dX11_model_111 : decode cX11_model 111 = .ok (.aload_n 0, 1) := by decide +kernel
theorem dX11_model_112 : decode cX11_model 112 = .ok (.iconst 4, 1) := by decide +kernel
theorem dX11_model_113 : decode cX11_model 113 = .ok (.putfield 74, 3) := by decide +kernel
theorem dX11_model_116 : decode cX11_model 116 = .ok (.aload_n 0, 1) := by decide +kernel
theorem dX11_model_117 : decode cX11_model 117 = .ok (.aload_n 2, 1) := by decide +kernel
theorem dX11_model_118 : decode cX11_model 118 = .ok (.getfield 83, 3) := by decide +kernel
theorem dX11_model_121 : decode cX11_model 121 = .ok (.putfield 11, 3) := by decide +kernel
theorem dX11_model_124 : decode cX11_model 124 = .ok (.iconst (-1), 1) := by decide +kernel
theorem dX11_model_125 : decode cX11_model 125 = .ok (.ireturn, 1) := by decide +kernel
theorem dX11_model_126 : decode cX11_model 126 = .ok (.aload_n 0, 1) := by decide +kernel
theorem dX11_model_127 : decode cX11_model 127 = .ok (.getfield 219, 3) := by decide +kernel
theorem dX11_model_130 : decode cX11_model 130 = .ok (.bipush 20, 2) := by decide +kernel
theorem dX11_model_132 : decode cX11_model 132 = .ok (.if_icmp .ne 9, 3) := by decide +kernel
theorem dX11_model_135 : decode cX11_model 135 = .ok (.aload_n 0, 1) := by decide +kernel
theorem dX11_model_136 : decode cX11_model 136 = .ok (.iconst 3, 1) := by decide +kernel
theorem dX11_model_137 : decode cX11_model 137 = .ok (.invokevirtual 210, 3) := by decide +kernel
theorem dX11_model_140 : decode cX11_model 140 = .ok (.ireturn, 1) := by decide +kernel
theorem dX11_model_141 : decode cX11_model 141 = .ok (.aload_n 0, 1) := by decide +kernel
theorem dX11_model_142 : decode cX11_model 142 = .ok (.getfield 17, 3) := by decide +kernel
theorem dX11_model_145 : decode cX11_model 145 = .ok (.aload_n 0, 1) := by decide +kernel
theorem dX11_model_146 : decode cX11_model 146 = .ok (.getfield 219, 3) := by decide +kernel
theorem dX11_model_149 : decode cX11_model 149 = .ok (.aload_n 0, 1) := by decide +kernel
theorem dX11_model_150 : decode cX11_model 150 = .ok (.getfield 22, 3) := by decide +kernel
theorem dX11_model_153 : decode cX11_model 153 = .ok (.aastore, 1) := by decide +kernel
theorem dX11_model_154 : decode cX11_model 154 = .ok (.aload_n 0, 1) := by decide +kernel
theorem dX11_model_155 : decode cX11_model 155 = .ok (.new 15, 3) := by decide +kernel
theorem dX11_model_158 : decode cX11_model 158 = .ok (.dup, 1) := by decide +kernel
theorem dX11_model_159 : decode cX11_model 159 = .ok (.invokespecial 21, 3) := by decide +kernel
theorem dX11_model_162 : decode cX11_model 162 = .ok (.putfield 22, 3) := by decide +kernel
theorem dX11_model_165 : decode cX11_model 165 = .ok (.aload_n 0, 1) := by decide +kernel
theorem dX11_model_166 : decode cX11_model 166 = .ok (.dup, 1) := by decide +kernel
theorem dX11_model_167 : decode cX11_model 167 = .ok (.getfield 219, 3) := by decide +kernel
theorem dX11_model_170 : decode cX11_model 170 = .ok (.iconst 1, 1) := by decide +kernel
theorem dX11_model_171 : decode cX11_model 171 = .ok (.iadd, 1) := by decide +kernel
theorem dX11_model_172 : decode cX11_model 172 = .ok (.putfield 219, 3) := by decide +kernel
theorem dX11_model_175 : decode cX11_model 175 = .ok (.aload_n 0, 1) := by decide +kernel
theorem dX11_model_176 : decode cX11_model 176 = .ok (.aload_n 0, 1) := by decide +kernel
theorem dX11_model_177 : decode cX11_model 177 = .ok (.getfield 219, 3) := by decide +kernel
theorem dX11_model_180 : decode cX11_model 180 = .ok (.iconst 1, 1) := by decide +kernel
theorem dX11_model_181 : decode cX11_model 181 = .ok (.isub, 1) := by decide +kernel
theorem dX11_model_182 : decode cX11_model 182 = .ok (.invokevirtual 222, 3) := by decide +kernel
theorem dX11_model_185 : decode cX11_model 185 = .ok (.ireturn, 1) := by decide +kernel
theorem dX11_fault_0 : decode cX11_fault 0 = .ok (.aload_n 0, 1) := by decide +kernel
theorem dX11_fault_1 : decode cX11_fault 1 = .ok (.iconst 0, 1) := by decide +kernel
theorem dX11_fault_2 : decode cX11_fault 2 = .ok (.putfield 71, 3) := by decide +kernel
theorem dX11_fault_5 : decode cX11_fault 5 = .ok (.aload_n 0, 1) := by decide +kernel
theorem dX11_fault_6 : decode cX11_fault 6 = .ok (.getfield 213, 3) := by decide +kernel
theorem dX11_fault_9 : decode cX11_fault 9 = .ok (.ireturn, 1) := by decide +kernel
theorem dX11_where_0 : decode cX11_where 0 = .ok (.aload_n 0, 1) := by decide +kernel
theorem dX11_where_1 : decode cX11_where 1 = .ok (.iconst 0, 1) := by decide +kernel
theorem dX11_where_2 : decode cX11_where 2 = .ok (.putfield 71, 3) := by decide +kernel
theorem dX11_where_5 : decode cX11_where 5 = .ok (.aload_n 0, 1) := by decide +kernel
theorem dX11_where_6 : decode cX11_where 6 = .ok (.getfield 11, 3) := by decide +kernel
theorem dX11_where_9 : decode cX11_where 9 = .ok (.ireturn, 1) := by decide +kernel
theorem dX11_isModel_0 : decode cX11_isModel 0 = .ok (.iload_n 1, 1) := by decide +kernel
theorem dX11_isModel_1 : decode cX11_isModel 1 = .ok (.ifCond .lt 15, 3) := by decide +kernel
theorem dX11_isModel_4 : decode cX11_isModel 4 = .ok (.iload_n 1, 1) := by decide +kernel
theorem dX11_isModel_5 : decode cX11_isModel 5 = .ok (.aload_n 0, 1) := by decide +kernel
theorem dX11_isModel_6 : decode cX11_isModel 6 = .ok (.getfield 219, 3) := by decide +kernel
theorem dX11_isModel_9 : decode cX11_isModel 9 = .ok (.if_icmp .ge 7, 3) := by decide +kernel
theorem dX11_isModel_12 : decode cX11_isModel 12 = .ok (.iconst 1, 1) := by decide +kernel
theorem dX11_isModel_13 : decode cX11_isModel 13 = .ok (.goto 4, 3) := by decide +kernel
theorem dX11_isModel_16 : decode cX11_isModel 16 = .ok (.iconst 0, 1) := by decide +kernel
theorem dX11_isModel_17 : decode cX11_isModel 17 = .ok (.ireturn, 1) := by decide +kernel
theorem dX11_parts_0 : decode cX11_parts 0 = .ok (.aload_n 0, 1) := by decide +kernel
theorem dX11_parts_1 : decode cX11_parts 1 = .ok (.iconst 0, 1) := by decide +kernel
theorem dX11_parts_2 : decode cX11_parts 2 = .ok (.putfield 71, 3) := by decide +kernel
theorem dX11_parts_5 : decode cX11_parts 5 = .ok (.aload_n 0, 1) := by decide +kernel
theorem dX11_parts_6 : decode cX11_parts 6 = .ok (.iload_n 1, 1) := by decide +kernel
theorem dX11_parts_7 : decode cX11_parts 7 = .ok (.invokevirtual 225, 3) := by decide +kernel
theorem dX11_parts_10 : decode cX11_parts 10 = .ok (.ifCond .eq 15, 3) := by decide +kernel
theorem dX11_parts_13 : decode cX11_parts 13 = .ok (.aload_n 0, 1) := by decide +kernel
theorem dX11_parts_14 : decode cX11_parts 14 = .ok (.getfield 17, 3) := by decide +kernel
theorem dX11_parts_17 : decode cX11_parts 17 = .ok (.iload_n 1, 1) := by decide +kernel
theorem dX11_parts_18 : decode cX11_parts 18 = .ok (.aaload, 1) := by decide +kernel
theorem dX11_parts_19 : decode cX11_parts 19 = .ok (.getfield 146, 3) := by decide +kernel
theorem dX11_parts_22 : decode cX11_parts 22 = .ok (.goto 4, 3) := by decide +kernel
theorem dX11_parts_25 : decode cX11_parts 25 = .ok (.iconst (-1), 1) := by decide +kernel
theorem dX11_parts_26 : decode cX11_parts 26 = .ok (.ireturn, 1) := by decide +kernel
theorem dX11_asks_0 : decode cX11_asks 0 = .ok (.aload_n 0, 1) := by decide +kernel
theorem dX11_asks_1 : decode cX11_asks 1 = .ok (.iconst 0, 1) := by decide +kernel
theorem dX11_asks_2 : decode cX11_asks 2 = .ok (.putfield 71, 3) := by decide +kernel
theorem dX11_asks_5 : decode cX11_asks 5 = .ok (.aload_n 0, 1) := by decide +kernel
theorem dX11_asks_6 : decode cX11_asks 6 = .ok (.iload_n 1, 1) := by decide +kernel
theorem dX11_asks_7 : decode cX11_asks 7 = .ok (.invokevirtual 225, 3) := by decide +kernel
theorem dX11_asks_10 : decode cX11_asks 10 = .ok (.ifCond .eq 15, 3) := by decide +kernel
theorem dX11_asks_13 : decode cX11_asks 13 = .ok (.aload_n 0, 1) := by decide +kernel
theorem dX11_asks_14 : decode cX11_asks 14 = .ok (.getfield 17, 3) := by decide +kernel
theorem dX11_asks_17 : decode cX11_asks 17 = .ok (.iload_n 1, 1) := by decide +kernel
theorem dX11_asks_18 : decode cX11_asks 18 = .ok (.aaload, 1) := by decide +kernel
theorem dX11_asks_19 : decode cX11_asks 19 = .ok (.getfield 204, 3) := by decide +kernel
theorem dX11_asks_22 : decode cX11_asks 22 = .ok (.goto 4, 3) := by decide +kernel
theorem dX11_asks_25 : decode cX11_asks 25 = .ok (.iconst (-1), 1) := by decide +kernel
theorem dX11_asks_26 : decode cX11_asks 26 = .ok (.ireturn, 1) := by decide +kernel
theorem dX11_input_0 : decode cX11_input 0 = .ok (.aload_n 0, 1) := by decide +kernel
theorem dX11_input_1 : decode cX11_input 1 = .ok (.iconst 0, 1) := by decide +kernel
theorem dX11_input_2 : decode cX11_input 2 = .ok (.putfield 71, 3) := by decide +kernel
theorem dX11_input_5 : decode cX11_input 5 = .ok (.iload_n 1, 1) := by decide +kernel
theorem dX11_input_6 : decode cX11_input 6 = .ok (.iconst 0, 1) := by decide +kernel
theorem dX11_input_7 : decode cX11_input 7 = .ok (.iconst 5, 1) := by decide +kernel
theorem dX11_input_8 : decode cX11_input 8 = .ok (.invokestatic 200, 3) := by decide +kernel
theorem dX11_input_11 : decode cX11_input 11 = .ok (.ifCond .eq 16, 3) := by decide +kernel
theorem dX11_input_14 : decode cX11_input 14 = .ok (.iload_n 2, 1) := by decide +kernel
theorem dX11_input_15 : decode cX11_input 15 = .ok (.sipush (-1000), 3) := by decide +kernel
theorem dX11_input_18 : decode cX11_input 18 = .ok (.sipush 1000, 3) := by decide +kernel
theorem dX11_input_21 : decode cX11_input 21 = .ok (.invokestatic 200, 3) := by decide +kernel
theorem dX11_input_24 : decode cX11_input 24 = .ok (.ifCond .ne 9, 3) := by decide +kernel
theorem dX11_input_27 : decode cX11_input 27 = .ok (.aload_n 0, 1) := by decide +kernel
theorem dX11_input_28 : decode cX11_input 28 = .ok (.iconst 2, 1) := by decide +kernel
theorem dX11_input_29 : decode cX11_input 29 = .ok (.invokevirtual 228, 3) := by decide +kernel
theorem dX11_input_32 : decode cX11_input 32 = .ok (.ireturn, 1) := by decide +kernel
theorem dX11_input_33 : decode cX11_input 33 = .ok (.aload_n 0, 1) := by decide +kernel
theorem dX11_input_34 : decode cX11_input 34 = .ok (.getfield 37, 3) := by decide +kernel
theorem dX11_input_37 : decode cX11_input 37 = .ok (.iload_n 1, 1) := by decide +kernel
theorem dX11_input_38 : decode cX11_input 38 = .ok (.iload_n 2, 1) := by decide +kernel
theorem dX11_input_39 : decode cX11_input 39 = .ok (.iastore, 1) := by decide +kernel
theorem dX11_input_40 : decode cX11_input 40 = .ok (.aload_n 0, 1) := by decide +kernel
theorem dX11_input_41 : decode cX11_input 41 = .ok (.invokevirtual 231, 3) := by decide +kernel
theorem dX11_input_44 : decode cX11_input 44 = .ok (.ireturn, 1) := by decide +kernel
theorem dX11_bound_0 : decode cX11_bound 0 = .ok (.ldc2_w 235, 3) := by decide +kernel
theorem dX11_bound_3 : decode cX11_bound 3 = .ok (.ldc2_w 237, 3) := by decide +kernel
theorem dX11_bound_6 : decode cX11_bound 6 = .ok (.lload_n 0, 1) := by decide +kernel
theorem dX11_bound_7 : decode cX11_bound 7 = .ok (.invokestatic 239, 3) := by decide +kernel
theorem dX11_bound_10 : decode cX11_bound 10 = .ok (.invokestatic 245, 3) := by decide +kernel
theorem dX11_bound_13 : decode cX11_bound 13 = .ok (.l2i, 1) := by decide +kernel
theorem dX11_bound_14 : decode cX11_bound 14 = .ok (.ireturn, 1) := by decide +kernel
theorem dX11_tells_0 : decode cX11_tells 0 = .ok (.aload_n 0, 1) := by decide +kernel
theorem dX11_tells_1 : decode cX11_tells 1 = .ok (.getfield 17, 3) := by decide +kernel
theorem dX11_tells_4 : decode cX11_tells 4 = .ok (.iload_n 1, 1) := by decide +kernel
theorem dX11_tells_5 : decode cX11_tells 5 = .ok (.aaload, 1) := by decide +kernel
theorem dX11_tells_6 : decode cX11_tells 6 = .ok (.astore 4, 2) := by decide +kernel
theorem dX11_tells_8 : decode cX11_tells 8 = .ok (.iconst 0, 1) := by decide +kernel
theorem dX11_tells_9 : decode cX11_tells 9 = .ok (.istore 5, 2) := by decide +kernel
theorem dX11_tells_11 : decode cX11_tells 11 = .ok (.iconst 0, 1) := by decide +kernel
theorem dX11_tells_12 : decode cX11_tells 12 = .ok (.istore 6, 2) := by decide +kernel
theorem dX11_tells_14 : decode cX11_tells 14 = .ok (.iload 6, 2) := by decide +kernel
theorem dX11_tells_16 : decode cX11_tells 16 = .ok (.aload 4, 2) := by decide +kernel
theorem dX11_tells_18 : decode cX11_tells 18 = .ok (.getfield 216, 3) := by decide +kernel
theorem dX11_tells_21 : decode cX11_tells 21 = .ok (.if_icmp .ge 193, 3) := by decide +kernel
theorem dX11_tells_24 : decode cX11_tells 24 = .ok (.aload 4, 2) := by decide +kernel
theorem dX11_tells_26 : decode cX11_tells 26 = .ok (.getfield 248, 3) := by decide +kernel
theorem dX11_tells_29 : decode cX11_tells 29 = .ok (.iload 6, 2) := by decide +kernel
theorem dX11_tells_31 : decode cX11_tells 31 = .ok (.iaload, 1) := by decide +kernel
theorem dX11_tells_32 : decode cX11_tells 32 = .ok (.istore 7, 2) := by decide +kernel
theorem dX11_tells_34 : decode cX11_tells 34 = .ok (.iload 7, 2) := by decide +kernel
theorem dX11_tells_36 : decode cX11_tells 36 = .ok (.ifCond .eq 9, 3) := by decide +kernel
theorem dX11_tells_39 : decode cX11_tells 39 = .ok (.iload 7, 2) := by decide +kernel
theorem dX11_tells_41 : decode cX11_tells 41 = .ok (.iconst 1, 1) := by decide +kernel
theorem dX11_tells_42 : decode cX11_tells 42 = .ok (.if_icmp .ne 44, 3) := by decide +kernel
theorem dX11_tells_45 : decode cX11_tells 45 = .ok (.aload_n 0, 1) := by decide +kernel
theorem dX11_tells_46 : decode cX11_tells 46 = .ok (.getfield 41, 3) := by decide +kernel
theorem dX11_tells_49 : decode cX11_tells 49 = .ok (.iload 5, 2) := by decide +kernel
theorem dX11_tells_51 : decode cX11_tells 51 = .ok (.iload 7, 2) := by decide +kernel
theorem dX11_tells_53 : decode cX11_tells 53 = .ok (.ifCond .ne 14, 3) := by decide +kernel
theorem dX11_tells_56 : decode cX11_tells 56 = .ok (.aload 4, 2) := by decide +kernel
theorem dX11_tells_58 : decode cX11_tells 58 = .ok (.getfield 251, 3) := by decide +kernel
theorem dX11_tells_61 : decode cX11_tells 61 = .ok (.iload 6, 2) := by decide +kernel
theorem dX11_tells_63 : decode cX11_tells 63 = .ok (.iaload, 1) := by decide +kernel
theorem dX11_tells_64 : decode cX11_tells 64 = .ok (.goto 15, 3) := by decide +kernel
theorem dX11_tells_67 : decode cX11_tells 67 = .ok (.aload_n 2, 1) := by decide +kernel
theorem dX11_tells_68 : decode cX11_tells 68 = .ok (.iload_n 3, 1) := by decide +kernel
theorem dX11_tells_69 : decode cX11_tells 69 = .ok (.aload 4, 2) := by decide +kernel
theorem dX11_tells_71 : decode cX11_tells 71 = .ok (.getfield 251, 3) := by decide +kernel
theorem dX11_tells_74 : decode cX11_tells 74 = .ok (.iload 6, 2) := by decide +kernel
theorem dX11_tells_76 : decode cX11_tells 76 = .ok (.iaload, 1) := by decide +kernel
theorem dX11_tells_77 : decode cX11_tells 77 = .ok (.iadd, 1) := by decide +kernel
theorem dX11_tells_78 : decode cX11_tells 78 = .ok (.iaload, 1) := by decide +kernel
theorem dX11_tells_79 : decode cX11_tells 79 = .ok (.iastore, 1) := by decide +kernel
theorem dX11_tells_80 : decode cX11_tells 80 = .ok (.iinc 5 1, 3) := by decide +kernel
theorem dX11_tells_83 : decode cX11_tells 83 = .ok (.goto 125, 3) := by decide +kernel
theorem dX11_tells_86 : decode cX11_tells 86 = .ok (.iload 7, 2) := by decide +kernel
theorem dX11_tells_88 : decode cX11_tells 88 = .ok (.bipush 8, 2) := by decide +kernel
theorem dX11_tells_90 : decode cX11_tells 90 = .ok (.if_icmp .ne 29, 3) := by decide +kernel
theorem dX11_tells_93 : decode cX11_tells 93 = .ok (.aload_n 0, 1) := by decide +kernel
theorem dX11_tells_94 : decode cX11_tells 94 = .ok (.getfield 41, 3) := by decide +kernel
theorem dX11_tells_97 : decode cX11_tells 97 = .ok (.iload 5, 2) := by decide +kernel
theorem dX11_tells_99 : decode cX11_tells 99 = .ok (.iconst 1, 1) := by decide +kernel
theorem dX11_tells_100 : decode cX11_tells 100 = .ok (.isub, 1) := by decide +kernel
theorem dX11_tells_101 : decode cX11_tells 101 = .ok (.aload_n 0, 1) := by decide +kernel
theorem dX11_tells_102 : decode cX11_tells 102 = .ok (.getfield 41, 3) := by decide +kernel
theorem dX11_tells_105 : decode cX11_tells 105 = .ok (.iload 5, 2) := by decide +kernel
theorem dX11_tells_107 : decode cX11_tells 107 = .ok (.iconst 1, 1) := by decide +kernel
theorem dX11_tells_108 : decode cX11_tells 108 = .ok (.isub, 1) := by decide +kernel
theorem dX11_tells_109 : decode cX11_tells 109 = .ok (.iaload, 1) := by decide +kernel
theorem dX11_tells_110 : decode cX11_tells 110 = .ok (.i2l, 1) := by decide +kernel
theorem dX11_tells_111 : decode cX11_tells 111 = .ok (.lneg, 1) := by decide +kernel
theorem dX11_tells_112 : decode cX11_tells 112 = .ok (.invokestatic 254, 3) := by decide +kernel
theorem dX11_tells_115 : decode cX11_tells 115 = .ok (.iastore, 1) := by decide +kernel
theorem dX11_tells_116 : decode cX11_tells 116 = .ok (.goto 92, 3) := by decide +kernel
theorem dX11_tells_119 : decode cX11_tells 119 = .ok (.iload 7, 2) := by decide +kernel
theorem dX11_tells_121 : decode cX11_tells 121 = .ok (.bipush 11, 2) := by decide +kernel
theorem dX11_tells_123 : decode cX11_tells 123 = .ok (.if_icmp .ne 50, 3) := by decide +kernel
theorem dX11_tells_126 : decode cX11_tells 126 = .ok (.iinc 5 (-2), 3) := by decide +kernel
theorem dX11_tells_129 : decode cX11_tells 129 = .ok (.aload_n 0, 1) := by decide +kernel
theorem dX11_tells_130 : decode cX11_tells 130 = .ok (.getfield 41, 3) := by decide +kernel
theorem dX11_tells_133 : decode cX11_tells 133 = .ok (.iload 5, 2) := by decide +kernel
theorem dX11_tells_135 : decode cX11_tells 135 = .ok (.iconst 1, 1) := by decide +kernel
theorem dX11_tells_136 : decode cX11_tells 136 = .ok (.isub, 1) := by decide +kernel
theorem dX11_tells_137 : decode cX11_tells 137 = .ok (.aload_n 0, 1) := by decide +kernel
theorem dX11_tells_138 : decode cX11_tells 138 = .ok (.getfield 41, 3) := by decide +kernel
theorem dX11_tells_141 : decode cX11_tells 141 = .ok (.iload 5, 2) := by decide +kernel
theorem dX11_tells_143 : decode cX11_tells 143 = .ok (.iconst 1, 1) := by decide +kernel
theorem dX11_tells_144 : decode cX11_tells 144 = .ok (.isub, 1) := by decide +kernel
theorem dX11_tells_145 : decode cX11_tells 145 = .ok (.iaload, 1) := by decide +kernel
theorem dX11_tells_146 : decode cX11_tells 146 = .ok (.iconst 1, 1) := by decide +kernel
theorem dX11_tells_147 : decode cX11_tells 147 = .ok (.if_icmp .ne 13, 3) := by decide +kernel
theorem dX11_tells_150 : decode cX11_tells 150 = .ok (.aload_n 0, 1) := by decide +kernel
theorem dX11_tells_151 : decode cX11_tells 151 = .ok (.getfield 41, 3) := by decide +kernel
theorem dX11_tells_154 : decode cX11_tells 154 = .ok (.iload 5, 2) := by decide +kernel
theorem dX11_tells_156 : decode cX11_tells 156 = .ok (.iaload, 1) := by decide +kernel
theorem dX11_tells_157 : decode cX11_tells 157 = .ok (.goto 12, 3) := by decide +kernel
theorem dX11_tells_160 : decode cX11_tells 160 = .ok (.aload_n 0, 1) := by decide +kernel
theorem dX11_tells_161 : decode cX11_tells 161 = .ok (.getfield 41, 3) := by decide +kernel
theorem dX11_tells_164 : decode cX11_tells 164 = .ok (.iload 5, 2) := by decide +kernel
theorem dX11_tells_166 : decode cX11_tells 166 = .ok (.iconst 1, 1) := by decide +kernel
theorem dX11_tells_167 : decode cX11_tells 167 = .ok (.iadd, 1) := by decide +kernel
theorem dX11_tells_168 : decode cX11_tells 168 = .ok (.iaload, 1) := by decide +kernel
theorem dX11_tells_169 : decode cX11_tells 169 = .ok (.iastore, 1) := by decide +kernel
theorem dX11_tells_170 : decode cX11_tells 170 = .ok (.goto 38, 3) := by decide +kernel
theorem dX11_tells_173 : decode cX11_tells 173 = .ok (.iinc 5 (-1), 3) := by decide +kernel
theorem dX11_tells_176 : decode cX11_tells 176 = .ok (.aload_n 0, 1) := by decide +kernel
theorem dX11_tells_177 : decode cX11_tells 177 = .ok (.getfield 41, 3) := by decide +kernel
theorem dX11_tells_180 : decode cX11_tells 180 = .ok (.iload 5, 2) := by decide +kernel
theorem dX11_tells_182 : decode cX11_tells 182 = .ok (.iconst 1, 1) := by decide +kernel
theorem dX11_tells_183 : decode cX11_tells 183 = .ok (.isub, 1) := by decide +kernel
theorem dX11_tells_184 : decode cX11_tells 184 = .ok (.iload 7, 2) := by decide +kernel
theorem dX11_tells_186 : decode cX11_tells 186 = .ok (.aload_n 0, 1) := by decide +kernel
theorem dX11_tells_187 : decode cX11_tells 187 = .ok (.getfield 41, 3) := by decide +kernel
theorem dX11_tells_190 : decode cX11_tells 190 = .ok (.iload 5, 2) := by decide +kernel
theorem dX11_tells_192 : decode cX11_tells 192 = .ok (.iconst 1, 1) := by decide +kernel
theorem dX11_tells_193 : decode cX11_tells 193 = .ok (.isub, 1) := by decide +kernel
theorem dX11_tells_194 : decode cX11_tells 194 = .ok (.iaload, 1) := by decide +kernel
theorem dX11_tells_195 : decode cX11_tells 195 = .ok (.i2l, 1) := by decide +kernel
theorem dX11_tells_196 : decode cX11_tells 196 = .ok (.aload_n 0, 1) := by decide +kernel
theorem dX11_tells_197 : decode cX11_tells 197 = .ok (.getfield 41, 3) := by decide +kernel
theorem dX11_tells_200 : decode cX11_tells 200 = .ok (.iload 5, 2) := by decide +kernel
theorem dX11_tells_202 : decode cX11_tells 202 = .ok (.iaload, 1) := by decide +kernel
theorem dX11_tells_203 : decode cX11_tells 203 = .ok (.i2l, 1) := by decide +kernel
theorem dX11_tells_204 : decode cX11_tells 204 = .ok (.invokestatic 258, 3) := by decide +kernel
theorem dX11_tells_207 : decode cX11_tells 207 = .ok (.iastore, 1) := by decide +kernel
theorem dX11_tells_208 : decode cX11_tells 208 = .ok (.iinc 6 1, 3) := by decide +kernel
theorem dX11_tells_211 : decode cX11_tells 211 = .ok (.goto (-197), 3) := by decide +kernel
theorem dX11_tells_214 : decode cX11_tells 214 = .ok (.aload_n 0, 1) := by decide +kernel
theorem dX11_tells_215 : decode cX11_tells 215 = .ok (.getfield 41, 3) := by decide +kernel
theorem dX11_tells_218 : decode cX11_tells 218 = .ok (.iconst 0, 1) := by decide +kernel
theorem dX11_tells_219 : decode cX11_tells 219 = .ok (.iaload, 1) := by decide +kernel
theorem dX11_tells_220 : decode cX11_tells 220 = .ok (.ireturn, 1) := by decide +kernel
theorem dX11_both_0 : decode cX11_both 0 = .ok (.iload_n 0, 1) := by decide +kernel
theorem dX11_both_1 : decode cX11_both 1 = .ok (.tableswitch 111 2 9 #[47, 54, 61, 68, 80, 92, 111, 104], 47) := by decide +kernel
theorem dX11_both_48 : decode cX11_both 48 = .ok (.lload_n 1, 1) := by decide +kernel
theorem dX11_both_49 : decode cX11_both 49 = .ok (.lload_n 3, 1) := by decide +kernel
theorem dX11_both_50 : decode cX11_both 50 = .ok (.ladd, 1) := by decide +kernel
theorem dX11_both_51 : decode cX11_both 51 = .ok (.invokestatic 254, 3) := by decide +kernel
theorem dX11_both_54 : decode cX11_both 54 = .ok (.ireturn, 1) := by decide +kernel
theorem dX11_both_55 : decode cX11_both 55 = .ok (.lload_n 1, 1) := by decide +kernel
theorem dX11_both_56 : decode cX11_both 56 = .ok (.lload_n 3, 1) := by decide +kernel
theorem dX11_both_57 : decode cX11_both 57 = .ok (.lsub, 1) := by decide +kernel
theorem dX11_both_58 : decode cX11_both 58 = .ok (.invokestatic 254, 3) := by decide +kernel
theorem dX11_both_61 : decode cX11_both 61 = .ok (.ireturn, 1) := by decide +kernel
theorem dX11_both_62 : decode cX11_both 62 = .ok (.lload_n 1, 1) := by decide +kernel
theorem dX11_both_63 : decode cX11_both 63 = .ok (.lload_n 3, 1) := by decide +kernel
theorem dX11_both_64 : decode cX11_both 64 = .ok (.lmul, 1) := by decide +kernel
theorem dX11_both_65 : decode cX11_both 65 = .ok (.invokestatic 254, 3) := by decide +kernel
theorem dX11_both_68 : decode cX11_both 68 = .ok (.ireturn, 1) := by decide +kernel
theorem dX11_both_69 : decode cX11_both 69 = .ok (.lload_n 1, 1) := by decide +kernel
theorem dX11_both_70 : decode cX11_both 70 = .ok (.lload_n 3, 1) := by decide +kernel
theorem dX11_both_71 : decode cX11_both 71 = .ok (.lcmp, 1) := by decide +kernel
theorem dX11_both_72 : decode cX11_both 72 = .ok (.ifCond .ge 7, 3) := by decide +kernel
theorem dX11_both_75 : decode cX11_both 75 = .ok (.iconst 1, 1) := by decide +kernel
theorem dX11_both_76 : decode cX11_both 76 = .ok (.goto 4, 3) := by decide +kernel
theorem dX11_both_79 : decode cX11_both 79 = .ok (.iconst 0, 1) := by decide +kernel
theorem dX11_both_80 : decode cX11_both 80 = .ok (.ireturn, 1) := by decide +kernel
theorem dX11_both_81 : decode cX11_both 81 = .ok (.lload_n 1, 1) := by decide +kernel
theorem dX11_both_82 : decode cX11_both 82 = .ok (.lload_n 3, 1) := by decide +kernel
theorem dX11_both_83 : decode cX11_both 83 = .ok (.lcmp, 1) := by decide +kernel
theorem dX11_both_84 : decode cX11_both 84 = .ok (.ifCond .le 7, 3) := by decide +kernel
theorem dX11_both_87 : decode cX11_both 87 = .ok (.iconst 1, 1) := by decide +kernel
theorem dX11_both_88 : decode cX11_both 88 = .ok (.goto 4, 3) := by decide +kernel
theorem dX11_both_91 : decode cX11_both 91 = .ok (.iconst 0, 1) := by decide +kernel
theorem dX11_both_92 : decode cX11_both 92 = .ok (.ireturn, 1) := by decide +kernel
theorem dX11_both_93 : decode cX11_both 93 = .ok (.lload_n 1, 1) := by decide +kernel
theorem dX11_both_94 : decode cX11_both 94 = .ok (.lload_n 3, 1) := by decide +kernel
theorem dX11_both_95 : decode cX11_both 95 = .ok (.lcmp, 1) := by decide +kernel
theorem dX11_both_96 : decode cX11_both 96 = .ok (.ifCond .ne 7, 3) := by decide +kernel
theorem dX11_both_99 : decode cX11_both 99 = .ok (.iconst 1, 1) := by decide +kernel
theorem dX11_both_100 : decode cX11_both 100 = .ok (.goto 4, 3) := by decide +kernel
theorem dX11_both_103 : decode cX11_both 103 = .ok (.iconst 0, 1) := by decide +kernel
theorem dX11_both_104 : decode cX11_both 104 = .ok (.ireturn, 1) := by decide +kernel
theorem dX11_both_105 : decode cX11_both 105 = .ok (.lload_n 1, 1) := by decide +kernel
theorem dX11_both_106 : decode cX11_both 106 = .ok (.lload_n 3, 1) := by decide +kernel
theorem dX11_both_107 : decode cX11_both 107 = .ok (.invokestatic 239, 3) := by decide +kernel
theorem dX11_both_110 : decode cX11_both 110 = .ok (.l2i, 1) := by decide +kernel
theorem dX11_both_111 : decode cX11_both 111 = .ok (.ireturn, 1) := by decide +kernel
theorem dX11_both_112 : decode cX11_both 112 = .ok (.lload_n 1, 1) := by decide +kernel
theorem dX11_both_113 : decode cX11_both 113 = .ok (.lload_n 3, 1) := by decide +kernel
theorem dX11_both_114 : decode cX11_both 114 = .ok (.invokestatic 245, 3) := by decide +kernel
theorem dX11_both_117 : decode cX11_both 117 = .ok (.l2i, 1) := by decide +kernel
theorem dX11_both_118 : decode cX11_both 118 = .ok (.ireturn, 1) := by decide +kernel
theorem dX11_tell_0 : decode cX11_tell 0 = .ok (.aload_n 0, 1) := by decide +kernel
theorem dX11_tell_1 : decode cX11_tell 1 = .ok (.iconst 0, 1) := by decide +kernel
theorem dX11_tell_2 : decode cX11_tell 2 = .ok (.putfield 71, 3) := by decide +kernel
theorem dX11_tell_5 : decode cX11_tell 5 = .ok (.aload_n 0, 1) := by decide +kernel
theorem dX11_tell_6 : decode cX11_tell 6 = .ok (.aload_n 0, 1) := by decide +kernel
theorem dX11_tell_7 : decode cX11_tell 7 = .ok (.iload_n 1, 1) := by decide +kernel
theorem dX11_tell_8 : decode cX11_tell 8 = .ok (.invokevirtual 225, 3) := by decide +kernel
theorem dX11_tell_11 : decode cX11_tell 11 = .ok (.ifCond .eq 7, 3) := by decide +kernel
theorem dX11_tell_14 : decode cX11_tell 14 = .ok (.iconst 0, 1) := by decide +kernel
theorem dX11_tell_15 : decode cX11_tell 15 = .ok (.goto 4, 3) := by decide +kernel
theorem dX11_tell_18 : decode cX11_tell 18 = .ok (.iconst 1, 1) := by decide +kernel
theorem dX11_tell_19 : decode cX11_tell 19 = .ok (.putfield 74, 3) := by decide +kernel
theorem dX11_tell_22 : decode cX11_tell 22 = .ok (.aload_n 0, 1) := by decide +kernel
theorem dX11_tell_23 : decode cX11_tell 23 = .ok (.iconst (-1), 1) := by decide +kernel
theorem dX11_tell_24 : decode cX11_tell 24 = .ok (.putfield 11, 3) := by decide +kernel
theorem dX11_tell_27 : decode cX11_tell 27 = .ok (.aload_n 0, 1) := by decide +kernel
theorem dX11_tell_28 : decode cX11_tell 28 = .ok (.getfield 74, 3) := by decide +kernel
theorem dX11_tell_31 : decode cX11_tell 31 = .ok (.ifCond .ne 16, 3) := by decide +kernel
theorem dX11_tell_34 : decode cX11_tell 34 = .ok (.aload_n 0, 1) := by decide +kernel
theorem dX11_tell_35 : decode cX11_tell 35 = .ok (.iload_n 1, 1) := by decide +kernel
theorem dX11_tell_36 : decode cX11_tell 36 = .ok (.aload_n 0, 1) := by decide +kernel
theorem dX11_tell_37 : decode cX11_tell 37 = .ok (.getfield 37, 3) := by decide +kernel
theorem dX11_tell_40 : decode cX11_tell 40 = .ok (.iconst 0, 1) := by decide +kernel
theorem dX11_tell_41 : decode cX11_tell 41 = .ok (.invokevirtual 262, 3) := by decide +kernel
theorem dX11_tell_44 : decode cX11_tell 44 = .ok (.goto 6, 3) := by decide +kernel
theorem dX11_tell_47 : decode cX11_tell 47 = .ok (.ldc_w 266, 3) := by decide +kernel
theorem dX11_tell_50 : decode cX11_tell 50 = .ok (.ireturn, 1) := by decide +kernel
theorem dX11_isDoor_0 : decode cX11_isDoor 0 = .ok (.iload_n 1, 1) := by decide +kernel
theorem dX11_isDoor_1 : decode cX11_isDoor 1 = .ok (.ifCond .lt 15, 3) := by decide +kernel
theorem dX11_isDoor_4 : decode cX11_isDoor 4 = .ok (.iload_n 1, 1) := by decide +kernel
theorem dX11_isDoor_5 : decode cX11_isDoor 5 = .ok (.aload_n 0, 1) := by decide +kernel
theorem dX11_isDoor_6 : decode cX11_isDoor 6 = .ok (.getfield 267, 3) := by decide +kernel
theorem dX11_isDoor_9 : decode cX11_isDoor 9 = .ok (.if_icmp .ge 7, 3) := by decide +kernel
theorem dX11_isDoor_12 : decode cX11_isDoor 12 = .ok (.iconst 1, 1) := by decide +kernel
theorem dX11_isDoor_13 : decode cX11_isDoor 13 = .ok (.goto 4, 3) := by decide +kernel
theorem dX11_isDoor_16 : decode cX11_isDoor 16 = .ok (.iconst 0, 1) := by decide +kernel
theorem dX11_isDoor_17 : decode cX11_isDoor 17 = .ok (.ireturn, 1) := by decide +kernel
theorem dX11_door_0 : decode cX11_door 0 = .ok (.aload_n 0, 1) := by decide +kernel
theorem dX11_door_1 : decode cX11_door 1 = .ok (.iconst 0, 1) := by decide +kernel
theorem dX11_door_2 : decode cX11_door 2 = .ok (.putfield 71, 3) := by decide +kernel
theorem dX11_door_5 : decode cX11_door 5 = .ok (.aload_n 0, 1) := by decide +kernel
theorem dX11_door_6 : decode cX11_door 6 = .ok (.getfield 267, 3) := by decide +kernel
theorem dX11_door_9 : decode cX11_door 9 = .ok (.iconst 4, 1) := by decide +kernel
theorem dX11_door_10 : decode cX11_door 10 = .ok (.if_icmp .ne 9, 3) := by decide +kernel
theorem dX11_door_13 : decode cX11_door 13 = .ok (.aload_n 0, 1) := by decide +kernel
theorem dX11_door_14 : decode cX11_door 14 = .ok (.iconst 3, 1) := by decide +kernel
theorem dX11_door_15 : decode cX11_door 15 = .ok (.invokevirtual 210, 3) := by decide +kernel
theorem dX11_door_18 : decode cX11_door 18 = .ok (.ireturn, 1) := by decide +kernel
theorem dX11_door_19 : decode cX11_door 19 = .ok (.aload_n 0, 1) := by decide +kernel
theorem dX11_door_20 : decode cX11_door 20 = .ok (.getfield 46, 3) := by decide +kernel
theorem dX11_door_23 : decode cX11_door 23 = .ok (.aload_n 0, 1) := by decide +kernel
theorem dX11_door_24 : decode cX11_door 24 = .ok (.getfield 267, 3) := by decide +kernel
theorem dX11_door_27 : decode cX11_door 27 = .ok (.new 44, 3) := by decide +kernel
theorem dX11_door_30 : decode cX11_door 30 = .ok (.dup, 1) := by decide +kernel
theorem dX11_door_31 : decode cX11_door 31 = .ok (.invokespecial 270, 3) := by decide +kernel
theorem dX11_door_34 : decode cX11_door 34 = .ok (.aastore, 1) := by decide +kernel
theorem dX11_door_35 : decode cX11_door 35 = .ok (.aload_n 0, 1) := by decide +kernel
theorem dX11_door_36 : decode cX11_door 36 = .ok (.dup, 1) := by decide +kernel
theorem dX11_door_37 : decode cX11_door 37 = .ok (.getfield 267, 3) := by decide +kernel
theorem dX11_door_40 : decode cX11_door 40 = .ok (.iconst 1, 1) := by decide +kernel
theorem dX11_door_41 : decode cX11_door 41 = .ok (.iadd, 1) := by decide +kernel
theorem dX11_door_42 : decode cX11_door 42 = .ok (.putfield 267, 3) := by decide +kernel
theorem dX11_door_45 : decode cX11_door 45 = .ok (.aload_n 0, 1) := by decide +kernel
theorem dX11_door_46 : decode cX11_door 46 = .ok (.aload_n 0, 1) := by decide +kernel
theorem dX11_door_47 : decode cX11_door 47 = .ok (.getfield 267, 3) := by decide +kernel
theorem dX11_door_50 : decode cX11_door 50 = .ok (.iconst 1, 1) := by decide +kernel
theorem dX11_door_51 : decode cX11_door 51 = .ok (.isub, 1) := by decide +kernel
theorem dX11_door_52 : decode cX11_door 52 = .ok (.invokevirtual 222, 3) := by decide +kernel
theorem dX11_door_55 : decode cX11_door 55 = .ok (.ireturn, 1) := by decide +kernel
theorem dX11_guard_0 : decode cX11_guard 0 = .ok (.aload_n 0, 1) := by decide +kernel
theorem dX11_guard_1 : decode cX11_guard 1 = .ok (.iconst 0, 1) := by decide +kernel
theorem dX11_guard_2 : decode cX11_guard 2 = .ok (.putfield 71, 3) := by decide +kernel
theorem dX11_guard_5 : decode cX11_guard 5 = .ok (.aload_n 0, 1) := by decide +kernel
theorem dX11_guard_6 : decode cX11_guard 6 = .ok (.iload_n 1, 1) := by decide +kernel
theorem dX11_guard_7 : decode cX11_guard 7 = .ok (.invokevirtual 271, 3) := by decide +kernel
theorem dX11_guard_10 : decode cX11_guard 10 = .ok (.ifCond .eq 12, 3) := by decide +kernel
theorem dX11_guard_13 : decode cX11_guard 13 = .ok (.iload_n 2, 1) := by decide +kernel
theorem dX11_guard_14 : decode cX11_guard 14 = .ok (.iconst 0, 1) := by decide +kernel
theorem dX11_guard_15 : decode cX11_guard 15 = .ok (.iconst 5, 1) := by decide +kernel
theorem dX11_guard_16 : decode cX11_guard 16 = .ok (.invokestatic 200, 3) := by decide +kernel
theorem dX11_guard_19 : decode cX11_guard 19 = .ok (.ifCond .ne 9, 3) := by decide +kernel
theorem dX11_guard_22 : decode cX11_guard 22 = .ok (.aload_n 0, 1) := by decide +kernel
theorem dX11_guard_23 : decode cX11_guard 23 = .ok (.iconst 1, 1) := by decide +kernel
theorem dX11_guard_24 : decode cX11_guard 24 = .ok (.invokevirtual 228, 3) := by decide +kernel
theorem dX11_guard_27 : decode cX11_guard 27 = .ok (.ireturn, 1) := by decide +kernel
theorem dX11_guard_28 : decode cX11_guard 28 = .ok (.iload_n 3, 1) := by decide +kernel
theorem dX11_guard_29 : decode cX11_guard 29 = .ok (.sipush (-1000), 3) := by decide +kernel
theorem dX11_guard_32 : decode cX11_guard 32 = .ok (.iload 4, 2) := by decide +kernel
theorem dX11_guard_34 : decode cX11_guard 34 = .ok (.invokestatic 200, 3) := by decide +kernel
theorem dX11_guard_37 : decode cX11_guard 37 = .ok (.ifCond .eq 11, 3) := by decide +kernel
theorem dX11_guard_40 : decode cX11_guard 40 = .ok (.iload 4, 2) := by decide +kernel
theorem dX11_guard_42 : decode cX11_guard 42 = .ok (.sipush 1000, 3) := by decide +kernel
theorem dX11_guard_45 : decode cX11_guard 45 = .ok (.if_icmp .le 9, 3) := by decide +kernel
theorem dX11_guard_48 : decode cX11_guard 48 = .ok (.aload_n 0, 1) := by decide +kernel
theorem dX11_guard_49 : decode cX11_guard 49 = .ok (.iconst 2, 1) := by decide +kernel
theorem dX11_guard_50 : decode cX11_guard 50 = .ok (.invokevirtual 228, 3) := by decide +kernel
theorem dX11_guard_53 : decode cX11_guard 53 = .ok (.ireturn, 1) := by decide +kernel
theorem dX11_guard_54 : decode cX11_guard 54 = .ok (.aload_n 0, 1) := by decide +kernel
theorem dX11_guard_55 : decode cX11_guard 55 = .ok (.getfield 46, 3) := by decide +kernel
theorem dX11_guard_58 : decode cX11_guard 58 = .ok (.iload_n 1, 1) := by decide +kernel
theorem dX11_guard_59 : decode cX11_guard 59 = .ok (.aaload, 1) := by decide +kernel
theorem dX11_guard_60 : decode cX11_guard 60 = .ok (.getfield 274, 3) := by decide +kernel
theorem dX11_guard_63 : decode cX11_guard 63 = .ok (.iload_n 2, 1) := by decide +kernel
theorem dX11_guard_64 : decode cX11_guard 64 = .ok (.iload_n 3, 1) := by decide +kernel
theorem dX11_guard_65 : decode cX11_guard 65 = .ok (.iastore, 1) := by decide +kernel
theorem dX11_guard_66 : decode cX11_guard 66 = .ok (.aload_n 0, 1) := by decide +kernel
theorem dX11_guard_67 : decode cX11_guard 67 = .ok (.getfield 46, 3) := by decide +kernel
theorem dX11_guard_70 : decode cX11_guard 70 = .ok (.iload_n 1, 1) := by decide +kernel
theorem dX11_guard_71 : decode cX11_guard 71 = .ok (.aaload, 1) := by decide +kernel
theorem dX11_guard_72 : decode cX11_guard 72 = .ok (.getfield 277, 3) := by decide +kernel
theorem dX11_guard_75 : decode cX11_guard 75 = .ok (.iload_n 2, 1) := by decide +kernel
theorem dX11_guard_76 : decode cX11_guard 76 = .ok (.iload 4, 2) := by decide +kernel
theorem dX11_guard_78 : decode cX11_guard 78 = .ok (.iastore, 1) := by decide +kernel
theorem dX11_guard_79 : decode cX11_guard 79 = .ok (.aload_n 0, 1) := by decide +kernel
theorem dX11_guard_80 : decode cX11_guard 80 = .ok (.invokevirtual 231, 3) := by decide +kernel
theorem dX11_guard_83 : decode cX11_guard 83 = .ok (.ireturn, 1) := by decide +kernel
theorem dX11_noRival_0 : decode cX11_noRival 0 = .ok (.aload_n 1, 1) := by decide +kernel
theorem dX11_noRival_1 : decode cX11_noRival 1 = .ok (.bipush (-2), 2) := by decide +kernel
theorem dX11_noRival_3 : decode cX11_noRival 3 = .ok (.putfield 280, 3) := by decide +kernel
theorem dX11_noRival_6 : decode cX11_noRival 6 = .ok (.aload_n 1, 1) := by decide +kernel
theorem dX11_noRival_7 : decode cX11_noRival 7 = .ok (.iconst 0, 1) := by decide +kernel
theorem dX11_noRival_8 : decode cX11_noRival 8 = .ok (.putfield 283, 3) := by decide +kernel
theorem dX11_noRival_11 : decode cX11_noRival 11 = .ok (.return_, 1) := by decide +kernel
theorem dX11_crowned_0 : decode cX11_crowned 0 = .ok (.aload_n 1, 1) := by decide +kernel
theorem dX11_crowned_1 : decode cX11_crowned 1 = .ok (.iload_n 2, 1) := by decide +kernel
theorem dX11_crowned_2 : decode cX11_crowned 2 = .ok (.putfield 286, 3) := by decide +kernel
theorem dX11_crowned_5 : decode cX11_crowned 5 = .ok (.aload_n 1, 1) := by decide +kernel
theorem dX11_crowned_6 : decode cX11_crowned 6 = .ok (.getfield 289, 3) := by decide +kernel
theorem dX11_crowned_9 : decode cX11_crowned 9 = .ok (.aload_n 0, 1) := by decide +kernel
theorem dX11_crowned_10 : decode cX11_crowned 10 = .ok (.getfield 292, 3) := by decide +kernel
theorem dX11_crowned_13 : decode cX11_crowned 13 = .ok (.iload_n 2, 1) := by decide +kernel
theorem dX11_crowned_14 : decode cX11_crowned 14 = .ok (.iastore, 1) := by decide +kernel
theorem dX11_crowned_15 : decode cX11_crowned 15 = .ok (.return_, 1) := by decide +kernel
theorem dX11_crown_0 : decode cX11_crown 0 = .ok (.aload_n 0, 1) := by decide +kernel
theorem dX11_crown_1 : decode cX11_crown 1 = .ok (.iconst 0, 1) := by decide +kernel
theorem dX11_crown_2 : decode cX11_crown 2 = .ok (.putfield 71, 3) := by decide +kernel
theorem dX11_crown_5 : decode cX11_crown 5 = .ok (.aload_n 0, 1) := by decide +kernel
theorem dX11_crown_6 : decode cX11_crown 6 = .ok (.iload_n 1, 1) := by decide +kernel
theorem dX11_crown_7 : decode cX11_crown 7 = .ok (.invokevirtual 271, 3) := by decide +kernel
theorem dX11_crown_10 : decode cX11_crown 10 = .ok (.ifCond .eq 11, 3) := by decide +kernel
theorem dX11_crown_13 : decode cX11_crown 13 = .ok (.aload_n 0, 1) := by decide +kernel
theorem dX11_crown_14 : decode cX11_crown 14 = .ok (.iload_n 2, 1) := by decide +kernel
theorem dX11_crown_15 : decode cX11_crown 15 = .ok (.invokevirtual 225, 3) := by decide +kernel
theorem dX11_crown_18 : decode cX11_crown 18 = .ok (.ifCond .ne 9, 3) := by decide +kernel
theorem dX11_crown_21 : decode cX11_crown 21 = .ok (.aload_n 0, 1) := by decide +kernel
theorem dX11_crown_22 : decode cX11_crown 22 = .ok (.iconst 1, 1) := by decide +kernel
theorem dX11_crown_23 : decode cX11_crown 23 = .ok (.invokevirtual 228, 3) := by decide +kernel
theorem dX11_crown_26 : decode cX11_crown 26 = .ok (.ireturn, 1) := by decide +kernel
theorem dX11_crown_27 : decode cX11_crown 27 = .ok (.aload_n 0, 1) := by decide +kernel
theorem dX11_crown_28 : decode cX11_crown 28 = .ok (.getfield 46, 3) := by decide +kernel
theorem dX11_crown_31 : decode cX11_crown 31 = .ok (.iload_n 1, 1) := by decide +kernel
theorem dX11_crown_32 : decode cX11_crown 32 = .ok (.aaload, 1) := by decide +kernel
theorem dX11_crown_33 : decode cX11_crown 33 = .ok (.astore_n 3, 1) := by decide +kernel
theorem dX11_crown_34 : decode cX11_crown 34 = .ok (.aload_n 3, 1) := by decide +kernel
theorem dX11_crown_35 : decode cX11_crown 35 = .ok (.getfield 286, 3) := by decide +kernel
theorem dX11_crown_38 : decode cX11_crown 38 = .ok (.iload_n 2, 1) := by decide +kernel
theorem dX11_crown_39 : decode cX11_crown 39 = .ok (.if_icmp .ne 9, 3) := by decide +kernel
theorem dX11_crown_42 : decode cX11_crown 42 = .ok (.aload_n 0, 1) := by decide +kernel
theorem dX11_crown_43 : decode cX11_crown 43 = .ok (.iconst 5, 1) := by decide +kernel
theorem dX11_crown_44 : decode cX11_crown 44 = .ok (.invokevirtual 228, 3) := by decide +kernel
theorem dX11_crown_47 : decode cX11_crown 47 = .ok (.ireturn, 1) := by decide +kernel
theorem dX11_crown_48 : decode cX11_crown 48 = .ok (.aload_n 3, 1) := by decide +kernel
theorem dX11_crown_49 : decode cX11_crown 49 = .ok (.getfield 286, 3) := by decide +kernel
theorem dX11_crown_52 : decode cX11_crown 52 = .ok (.bipush (-2), 2) := by decide +kernel
theorem dX11_crown_54 : decode cX11_crown 54 = .ok (.if_icmp .eq 77, 3) := by decide +kernel
theorem dX11_crown_57 : decode cX11_crown 57 = .ok (.aload_n 3, 1) := by decide +kernel
theorem dX11_crown_58 : decode cX11_crown 58 = .ok (.getfield 295, 3) := by decide +kernel
theorem dX11_crown_61 : decode cX11_crown 61 = .ok (.bipush 20, 2) := by decide +kernel
theorem dX11_crown_63 : decode cX11_crown 63 = .ok (.if_icmp .ne 45, 3) := by decide +kernel
theorem dX11_crown_66 : decode cX11_crown 66 = .ok (.iconst 1, 1) := by decide +kernel
theorem dX11_crown_67 : decode cX11_crown 67 = .ok (.istore 4, 2) := by decide +kernel
theorem dX11_crown_69 : decode cX11_crown 69 = .ok (.iload 4, 2) := by decide +kernel
theorem dX11_crown_71 : decode cX11_crown 71 = .ok (.bipush 20, 2) := by decide +kernel
theorem dX11_crown_73 : decode cX11_crown 73 = .ok (.if_icmp .ge 25, 3) := by decide +kernel
theorem dX11_crown_76 : decode cX11_crown 76 = .ok (.aload_n 3, 1) := by decide +kernel
theorem dX11_crown_77 : decode cX11_crown 77 = .ok (.getfield 298, 3) := by decide +kernel
theorem dX11_crown_80 : decode cX11_crown 80 = .ok (.iload 4, 2) := by decide +kernel
theorem dX11_crown_82 : decode cX11_crown 82 = .ok (.iconst 1, 1) := by decide +kernel
theorem dX11_crown_83 : decode cX11_crown 83 = .ok (.isub, 1) := by decide +kernel
theorem dX11_crown_84 : decode cX11_crown 84 = .ok (.aload_n 3, 1) := by decide +kernel
theorem dX11_crown_85 : decode cX11_crown 85 = .ok (.getfield 298, 3) := by decide +kernel
theorem dX11_crown_88 : decode cX11_crown 88 = .ok (.iload 4, 2) := by decide +kernel
theorem dX11_crown_90 : decode cX11_crown 90 = .ok (.iaload, 1) := by decide +kernel
theorem dX11_crown_91 : decode cX11_crown 91 = .ok (.iastore, 1) := by decide +kernel
theorem dX11_crown_92 : decode cX11_crown 92 = .ok (.iinc 4 1, 3) := by decide +kernel
theorem dX11_crown_95 : decode cX11_crown 95 = .ok (.goto (-26), 3) := by decide +kernel
theorem dX11_crown_98 : decode cX11_crown 98 = .ok (.aload_n 3, 1) := by decide +kernel
theorem dX11_crown_99 : decode cX11_crown 99 = .ok (.dup, 1) := by decide +kernel
theorem dX11_crown_100 : decode cX11_crown 100 = .ok (.getfield 295, 3) := by decide +kernel
theorem dX11_crown_103 : decode cX11_crown 103 = .ok (.iconst 1, 1) := by decide +kernel
theorem dX11_crown_104 : decode cX11_crown 104 = .ok (.isub, 1) := by decide +kernel
theorem dX11_crown_105 : decode cX11_crown 105 = .ok (.putfield 295, 3) := by decide +kernel
theorem dX11_crown_108 : decode cX11_crown 108 = .ok (.aload_n 3, 1) := by decide +kernel
theorem dX11_crown_109 : decode cX11_crown 109 = .ok (.getfield 298, 3) := by decide +kernel
theorem dX11_crown_112 : decode cX11_crown 112 = .ok (.aload_n 3, 1) := by decide +kernel
theorem dX11_crown_113 : decode cX11_crown 113 = .ok (.getfield 295, 3) := by decide +kernel
theorem dX11_crown_116 : decode cX11_crown 116 = .ok (.aload_n 3, 1) := by decide +kernel
theorem dX11_crown_117 : decode cX11_crown 117 = .ok (.getfield 286, 3) := by decide +kernel
theorem dX11_crown_120 : decode cX11_crown 120 = .ok (.iastore, 1) := by decide +kernel
theorem dX11_crown_121 : decode cX11_crown 121 = .ok (.aload_n 3, 1) := by decide +kernel
theorem dX11_crown_122 : decode cX11_crown 122 = .ok (.dup, 1) := by decide +kernel
theorem dX11_crown_123 : decode cX11_crown 123 = .ok (.getfield 295, 3) := by decide +kernel
theorem dX11_crown_126 : decode cX11_crown 126 = .ok (.iconst 1, 1) := by decide +kernel
theorem dX11_crown_127 : decode cX11_crown 127 = .ok (.iadd, 1) := by decide +kernel
theorem dX11_crown_128 : decode cX11_crown 128 = .ok (.putfield 295, 3) := by decide +kernel
theorem dX11_crown_131 : decode cX11_crown 131 = .ok (.aload_n 0, 1) := by decide +kernel
theorem dX11_crown_132 : decode cX11_crown 132 = .ok (.aload_n 3, 1) := by decide +kernel
theorem dX11_crown_133 : decode cX11_crown 133 = .ok (.iload_n 2, 1) := by decide +kernel
theorem dX11_crown_134 : decode cX11_crown 134 = .ok (.invokevirtual 301, 3) := by decide +kernel
theorem dX11_crown_137 : decode cX11_crown 137 = .ok (.aload_n 3, 1) := by decide +kernel
theorem dX11_crown_138 : decode cX11_crown 138 = .ok (.getfield 280, 3) := by decide +kernel
theorem dX11_crown_141 : decode cX11_crown 141 = .ok (.iload_n 2, 1) := by decide +kernel
theorem dX11_crown_142 : decode cX11_crown 142 = .ok (.if_icmp .ne 8, 3) := by decide +kernel
theorem dX11_crown_145 : decode cX11_crown 145 = .ok (.aload_n 0, 1) := by decide +kernel
theorem dX11_crown_146 : decode cX11_crown 146 = .ok (.aload_n 3, 1) := by decide +kernel
theorem dX11_crown_147 : decode cX11_crown 147 = .ok (.invokevirtual 305, 3) := by decide +kernel
theorem dX11_crown_150 : decode cX11_crown 150 = .ok (.aload_n 0, 1) := by decide +kernel
theorem dX11_crown_151 : decode cX11_crown 151 = .ok (.invokevirtual 231, 3) := by decide +kernel
theorem dX11_crown_154 : decode cX11_crown 154 = .ok (.ireturn, 1) := by decide +kernel
theorem dX11_rival_0 : decode cX11_rival 0 = .ok (.aload_n 0, 1) := by decide +kernel
theorem dX11_rival_1 : decode cX11_rival 1 = .ok (.iconst 0, 1) := by decide +kernel
theorem dX11_rival_2 : decode cX11_rival 2 = .ok (.putfield 71, 3) := by decide +kernel
theorem dX11_rival_5 : decode cX11_rival 5 = .ok (.aload_n 0, 1) := by decide +kernel
theorem dX11_rival_6 : decode cX11_rival 6 = .ok (.iload_n 1, 1) := by decide +kernel
theorem dX11_rival_7 : decode cX11_rival 7 = .ok (.invokevirtual 271, 3) := by decide +kernel
theorem dX11_rival_10 : decode cX11_rival 10 = .ok (.ifCond .eq 11, 3) := by decide +kernel
theorem dX11_rival_13 : decode cX11_rival 13 = .ok (.aload_n 0, 1) := by decide +kernel
theorem dX11_rival_14 : decode cX11_rival 14 = .ok (.iload_n 2, 1) := by decide +kernel
theorem dX11_rival_15 : decode cX11_rival 15 = .ok (.invokevirtual 225, 3) := by decide +kernel
theorem dX11_rival_18 : decode cX11_rival 18 = .ok (.ifCond .ne 9, 3) := by decide +kernel
theorem dX11_rival_21 : decode cX11_rival 21 = .ok (.aload_n 0, 1) := by decide +kernel
theorem dX11_rival_22 : decode cX11_rival 22 = .ok (.iconst 1, 1) := by decide +kernel
theorem dX11_rival_23 : decode cX11_rival 23 = .ok (.invokevirtual 228, 3) := by decide +kernel
theorem dX11_rival_26 : decode cX11_rival 26 = .ok (.ireturn, 1) := by decide +kernel
theorem dX11_rival_27 : decode cX11_rival 27 = .ok (.iload_n 3, 1) := by decide +kernel
theorem dX11_rival_28 : decode cX11_rival 28 = .ok (.iconst 0, 1) := by decide +kernel
theorem dX11_rival_29 : decode cX11_rival 29 = .ok (.bipush 100, 2) := by decide +kernel
theorem dX11_rival_31 : decode cX11_rival 31 = .ok (.invokestatic 200, 3) := by decide +kernel
theorem dX11_rival_34 : decode cX11_rival 34 = .ok (.ifCond .ne 9, 3) := by decide +kernel
theorem dX11_rival_37 : decode cX11_rival 37 = .ok (.aload_n 0, 1) := by decide +kernel
theorem dX11_rival_38 : decode cX11_rival 38 = .ok (.iconst 2, 1) := by decide +kernel
theorem dX11_rival_39 : decode cX11_rival 39 = .ok (.invokevirtual 228, 3) := by decide +kernel
theorem dX11_rival_42 : decode cX11_rival 42 = .ok (.ireturn, 1) := by decide +kernel
theorem dX11_rival_43 : decode cX11_rival 43 = .ok (.aload_n 0, 1) := by decide +kernel
theorem dX11_rival_44 : decode cX11_rival 44 = .ok (.getfield 46, 3) := by decide +kernel
theorem dX11_rival_47 : decode cX11_rival 47 = .ok (.iload_n 1, 1) := by decide +kernel
theorem dX11_rival_48 : decode cX11_rival 48 = .ok (.aaload, 1) := by decide +kernel
theorem dX11_rival_49 : decode cX11_rival 49 = .ok (.astore 4, 2) := by decide +kernel
theorem dX11_rival_51 : decode cX11_rival 51 = .ok (.aload 4, 2) := by decide +kernel
theorem dX11_rival_53 : decode cX11_rival 53 = .ok (.getfield 286, 3) := by decide +kernel
theorem dX11_rival_56 : decode cX11_rival 56 = .ok (.bipush (-2), 2) := by decide +kernel
theorem dX11_rival_58 : decode cX11_rival 58 = .ok (.if_icmp .eq 12, 3) := by decide +kernel
theorem dX11_rival_61 : decode cX11_rival 61 = .ok (.aload 4, 2) := by decide +kernel
theorem dX11_rival_63 : decode cX11_rival 63 = .ok (.getfield 286, 3) := by decide +kernel
theorem dX11_rival_66 : decode cX11_rival 66 = .ok (.iload_n 2, 1) := by decide +kernel
theorem dX11_rival_67 : decode cX11_rival 67 = .ok (.if_icmp .ne 9, 3) := by decide +kernel
theorem dX11_rival_70 : decode cX11_rival 70 = .ok (.aload_n 0, 1) := by decide +kernel
theorem dX11_rival_71 : decode cX11_rival 71 = .ok (.iconst 5, 1) := by decide +kernel
theorem dX11_rival_72 : decode cX11_rival 72 = .ok (.invokevirtual 228, 3) := by decide +kernel
theorem dX11_rival_75 : decode cX11_rival 75 = .ok (.ireturn, 1) := by decide +kernel
theorem dX11_rival_76 : decode cX11_rival 76 = .ok (.aload 4, 2) := by decide +kernel
theorem dX11_rival_78 : decode cX11_rival 78 = .ok (.iload_n 2, 1) := by decide +kernel
theorem dX11_rival_79 : decode cX11_rival 79 = .ok (.putfield 280, 3) := by decide +kernel
theorem dX11_rival_82 : decode cX11_rival 82 = .ok (.aload 4, 2) := by decide +kernel
theorem dX11_rival_84 : decode cX11_rival 84 = .ok (.iload_n 3, 1) := by decide +kernel
theorem dX11_rival_85 : decode cX11_rival 85 = .ok (.putfield 283, 3) := by decide +kernel
theorem dX11_rival_88 : decode cX11_rival 88 = .ok (.aload_n 0, 1) := by decide +kernel
theorem dX11_rival_89 : decode cX11_rival 89 = .ok (.invokevirtual 231, 3) := by decide +kernel
theorem dX11_rival_92 : decode cX11_rival 92 = .ok (.ireturn, 1) := by decide +kernel
theorem dX11_leave_0 : decode cX11_leave 0 = .ok (.aload_n 0, 1) := by decide +kernel
theorem dX11_leave_1 : decode cX11_leave 1 = .ok (.iconst 0, 1) := by decide +kernel
theorem dX11_leave_2 : decode cX11_leave 2 = .ok (.putfield 71, 3) := by decide +kernel
theorem dX11_leave_5 : decode cX11_leave 5 = .ok (.aload_n 0, 1) := by decide +kernel
theorem dX11_leave_6 : decode cX11_leave 6 = .ok (.iload_n 1, 1) := by decide +kernel
theorem dX11_leave_7 : decode cX11_leave 7 = .ok (.invokevirtual 271, 3) := by decide +kernel
theorem dX11_leave_10 : decode cX11_leave 10 = .ok (.ifCond .ne 9, 3) := by decide +kernel
theorem dX11_leave_13 : decode cX11_leave 13 = .ok (.aload_n 0, 1) := by decide +kernel
theorem dX11_leave_14 : decode cX11_leave 14 = .ok (.iconst 1, 1) := by decide +kernel
theorem dX11_leave_15 : decode cX11_leave 15 = .ok (.invokevirtual 228, 3) := by decide +kernel
theorem dX11_leave_18 : decode cX11_leave 18 = .ok (.ireturn, 1) := by decide +kernel
theorem dX11_leave_19 : decode cX11_leave 19 = .ok (.aload_n 0, 1) := by decide +kernel
theorem dX11_leave_20 : decode cX11_leave 20 = .ok (.getfield 46, 3) := by decide +kernel
theorem dX11_leave_23 : decode cX11_leave 23 = .ok (.iload_n 1, 1) := by decide +kernel
theorem dX11_leave_24 : decode cX11_leave 24 = .ok (.aaload, 1) := by decide +kernel
theorem dX11_leave_25 : decode cX11_leave 25 = .ok (.getfield 280, 3) := by decide +kernel
theorem dX11_leave_28 : decode cX11_leave 28 = .ok (.bipush (-2), 2) := by decide +kernel
theorem dX11_leave_30 : decode cX11_leave 30 = .ok (.if_icmp .ne 9, 3) := by decide +kernel
theorem dX11_leave_33 : decode cX11_leave 33 = .ok (.aload_n 0, 1) := by decide +kernel
theorem dX11_leave_34 : decode cX11_leave 34 = .ok (.iconst 5, 1) := by decide +kernel
theorem dX11_leave_35 : decode cX11_leave 35 = .ok (.invokevirtual 228, 3) := by decide +kernel
theorem dX11_leave_38 : decode cX11_leave 38 = .ok (.ireturn, 1) := by decide +kernel
theorem dX11_leave_39 : decode cX11_leave 39 = .ok (.aload_n 0, 1) := by decide +kernel
theorem dX11_leave_40 : decode cX11_leave 40 = .ok (.aload_n 0, 1) := by decide +kernel
theorem dX11_leave_41 : decode cX11_leave 41 = .ok (.getfield 46, 3) := by decide +kernel
theorem dX11_leave_44 : decode cX11_leave 44 = .ok (.iload_n 1, 1) := by decide +kernel
theorem dX11_leave_45 : decode cX11_leave 45 = .ok (.aaload, 1) := by decide +kernel
theorem dX11_leave_46 : decode cX11_leave 46 = .ok (.invokevirtual 305, 3) := by decide +kernel
theorem dX11_leave_49 : decode cX11_leave 49 = .ok (.aload_n 0, 1) := by decide +kernel
theorem dX11_leave_50 : decode cX11_leave 50 = .ok (.invokevirtual 231, 3) := by decide +kernel
theorem dX11_leave_53 : decode cX11_leave 53 = .ok (.ireturn, 1) := by decide +kernel
theorem dX11_back_0 : decode cX11_back 0 = .ok (.aload_n 0, 1) := by decide +kernel
theorem dX11_back_1 : decode cX11_back 1 = .ok (.iconst 0, 1) := by decide +kernel
theorem dX11_back_2 : decode cX11_back 2 = .ok (.putfield 71, 3) := by decide +kernel
theorem dX11_back_5 : decode cX11_back 5 = .ok (.aload_n 0, 1) := by decide +kernel
theorem dX11_back_6 : decode cX11_back 6 = .ok (.iload_n 1, 1) := by decide +kernel
theorem dX11_back_7 : decode cX11_back 7 = .ok (.invokevirtual 271, 3) := by decide +kernel
theorem dX11_back_10 : decode cX11_back 10 = .ok (.ifCond .ne 9, 3) := by decide +kernel
theorem dX11_back_13 : decode cX11_back 13 = .ok (.aload_n 0, 1) := by decide +kernel
theorem dX11_back_14 : decode cX11_back 14 = .ok (.iconst 1, 1) := by decide +kernel
theorem dX11_back_15 : decode cX11_back 15 = .ok (.invokevirtual 228, 3) := by decide +kernel
theorem dX11_back_18 : decode cX11_back 18 = .ok (.ireturn, 1) := by decide +kernel
theorem dX11_back_19 : decode cX11_back 19 = .ok (.aload_n 0, 1) := by decide +kernel
theorem dX11_back_20 : decode cX11_back 20 = .ok (.getfield 46, 3) := by decide +kernel
theorem dX11_back_23 : decode cX11_back 23 = .ok (.iload_n 1, 1) := by decide +kernel
theorem dX11_back_24 : decode cX11_back 24 = .ok (.aaload, 1) := by decide +kernel
theorem dX11_back_25 : decode cX11_back 25 = .ok (.astore_n 2, 1) := by decide +kernel
theorem dX11_back_26 : decode cX11_back 26 = .ok (.aload_n 2, 1) := by decide +kernel
theorem dX11_back_27 : decode cX11_back 27 = .ok (.getfield 295, 3) := by decide +kernel
theorem dX11_back_30 : decode cX11_back 30 = .ok (.ifCond .ne 9, 3) := by decide +kernel
theorem dX11_back_33 : decode cX11_back 33 = .ok (.aload_n 0, 1) := by decide +kernel
theorem dX11_back_34 : decode cX11_back 34 = .ok (.iconst 5, 1) := by decide +kernel
theorem dX11_back_35 : decode cX11_back 35 = .ok (.invokevirtual 228, 3) := by decide +kernel
theorem dX11_back_38 : decode cX11_back 38 = .ok (.ireturn, 1) := by decide +kernel
theorem dX11_back_39 : decode cX11_back 39 = .ok (.aload_n 2, 1) := by decide +kernel
theorem dX11_back_40 : decode cX11_back 40 = .ok (.dup, 1) := by decide +kernel
theorem dX11_back_41 : decode cX11_back 41 = .ok (.getfield 295, 3) := by decide +kernel
theorem dX11_back_44 : decode cX11_back 44 = .ok (.iconst 1, 1) := by decide +kernel
theorem dX11_back_45 : decode cX11_back 45 = .ok (.isub, 1) := by decide +kernel
theorem dX11_back_46 : decode cX11_back 46 = .ok (.putfield 295, 3) := by decide +kernel
theorem dX11_back_49 : decode cX11_back 49 = .ok (.aload_n 0, 1) := by decide +kernel
theorem dX11_back_50 : decode cX11_back 50 = .ok (.aload_n 2, 1) := by decide +kernel
theorem dX11_back_51 : decode cX11_back 51 = .ok (.aload_n 2, 1) := by decide +kernel
theorem dX11_back_52 : decode cX11_back 52 = .ok (.getfield 298, 3) := by decide +kernel
theorem dX11_back_55 : decode cX11_back 55 = .ok (.aload_n 2, 1) := by decide +kernel
theorem dX11_back_56 : decode cX11_back 56 = .ok (.getfield 295, 3) := by decide +kernel
theorem dX11_back_59 : decode cX11_back 59 = .ok (.iaload, 1) := by decide +kernel
theorem dX11_back_60 : decode cX11_back 60 = .ok (.invokevirtual 301, 3) := by decide +kernel
theorem dX11_back_63 : decode cX11_back 63 = .ok (.aload_n 0, 1) := by decide +kernel
theorem dX11_back_64 : decode cX11_back 64 = .ok (.aload_n 2, 1) := by decide +kernel
theorem dX11_back_65 : decode cX11_back 65 = .ok (.invokevirtual 305, 3) := by decide +kernel
theorem dX11_back_68 : decode cX11_back 68 = .ok (.aload_n 0, 1) := by decide +kernel
theorem dX11_back_69 : decode cX11_back 69 = .ok (.invokevirtual 231, 3) := by decide +kernel
theorem dX11_back_72 : decode cX11_back 72 = .ok (.ireturn, 1) := by decide +kernel
theorem dX11_champion_0 : decode cX11_champion 0 = .ok (.aload_n 0, 1) := by decide +kernel
theorem dX11_champion_1 : decode cX11_champion 1 = .ok (.iconst 0, 1) := by decide +kernel
theorem dX11_champion_2 : decode cX11_champion 2 = .ok (.putfield 71, 3) := by decide +kernel
theorem dX11_champion_5 : decode cX11_champion 5 = .ok (.aload_n 0, 1) := by decide +kernel
theorem dX11_champion_6 : decode cX11_champion 6 = .ok (.iload_n 1, 1) := by decide +kernel
theorem dX11_champion_7 : decode cX11_champion 7 = .ok (.invokevirtual 271, 3) := by decide +kernel
theorem dX11_champion_10 : decode cX11_champion 10 = .ok (.ifCond .eq 29, 3) := by decide +kernel
theorem dX11_champion_13 : decode cX11_champion 13 = .ok (.iload_n 2, 1) := by decide +kernel
theorem dX11_champion_14 : decode cX11_champion 14 = .ok (.iconst 0, 1) := by decide +kernel
theorem dX11_champion_15 : decode cX11_champion 15 = .ok (.aload_n 0, 1) := by decide +kernel
theorem dX11_champion_16 : decode cX11_champion 16 = .ok (.getfield 292, 3) := by decide +kernel
theorem dX11_champion_19 : decode cX11_champion 19 = .ok (.invokestatic 200, 3) := by decide +kernel
theorem dX11_champion_22 : decode cX11_champion 22 = .ok (.ifCond .eq 17, 3) := by decide +kernel
theorem dX11_champion_25 : decode cX11_champion 25 = .ok (.aload_n 0, 1) := by decide +kernel
theorem dX11_champion_26 : decode cX11_champion 26 = .ok (.getfield 46, 3) := by decide +kernel
theorem dX11_champion_29 : decode cX11_champion 29 = .ok (.iload_n 1, 1) := by decide +kernel
theorem dX11_champion_30 : decode cX11_champion 30 = .ok (.aaload, 1) := by decide +kernel
theorem dX11_champion_31 : decode cX11_champion 31 = .ok (.getfield 289, 3) := by decide +kernel
theorem dX11_champion_34 : decode cX11_champion 34 = .ok (.iload_n 2, 1) := by decide +kernel
theorem dX11_champion_35 : decode cX11_champion 35 = .ok (.iaload, 1) := by decide +kernel
theorem dX11_champion_36 : decode cX11_champion 36 = .ok (.goto 4, 3) := by decide +kernel
theorem dX11_champion_39 : decode cX11_champion 39 = .ok (.iconst (-1), 1) := by decide +kernel
theorem dX11_champion_40 : decode cX11_champion 40 = .ok (.ireturn, 1) := by decide +kernel
theorem dX11_about_0 : decode cX11_about 0 = .ok (.aload_n 0, 1) := by decide +kernel
theorem dX11_about_1 : decode cX11_about 1 = .ok (.iconst 0, 1) := by decide +kernel
theorem dX11_about_2 : decode cX11_about 2 = .ok (.putfield 71, 3) := by decide +kernel
theorem dX11_about_5 : decode cX11_about 5 = .ok (.aload_n 0, 1) := by decide +kernel
theorem dX11_about_6 : decode cX11_about 6 = .ok (.iload_n 1, 1) := by decide +kernel
theorem dX11_about_7 : decode cX11_about 7 = .ok (.invokevirtual 271, 3) := by decide +kernel
theorem dX11_about_10 : decode cX11_about 10 = .ok (.ifCond .ne 5, 3) := by decide +kernel
theorem dX11_about_13 : decode cX11_about 13 = .ok (.iconst (-1), 1) := by decide +kernel
theorem dX11_about_14 : decode cX11_about 14 = .ok (.ireturn, 1) := by decide +kernel
theorem dX11_about_15 : decode cX11_about 15 = .ok (.aload_n 0, 1) := by decide +kernel
theorem dX11_about_16 : decode cX11_about 16 = .ok (.getfield 46, 3) := by decide +kernel
theorem dX11_about_19 : decode cX11_about 19 = .ok (.iload_n 1, 1) := by decide +kernel
theorem dX11_about_20 : decode cX11_about 20 = .ok (.aaload, 1) := by decide +kernel
theorem dX11_about_21 : decode cX11_about 21 = .ok (.astore_n 3, 1) := by decide +kernel
theorem dX11_about_22 : decode cX11_about 22 = .ok (.iload_n 2, 1) := by decide +kernel
theorem dX11_about_23 : decode cX11_about 23 = .ok (.tableswitch 67 0 5 #[37, 42, 47, 52, 57, 62], 37) := by decide +kernel
theorem dX11_about_60 : decode cX11_about 60 = .ok (.aload_n 3, 1) := by decide +kernel
theorem dX11_about_61 : decode cX11_about 61 = .ok (.getfield 286, 3) := by decide +kernel
theorem dX11_about_64 : decode cX11_about 64 = .ok (.ireturn, 1) := by decide +kernel
theorem dX11_about_65 : decode cX11_about 65 = .ok (.aload_n 3, 1) := by decide +kernel
theorem dX11_about_66 : decode cX11_about 66 = .ok (.getfield 280, 3) := by decide +kernel
theorem dX11_about_69 : decode cX11_about 69 = .ok (.ireturn, 1) := by decide +kernel
theorem dX11_about_70 : decode cX11_about 70 = .ok (.aload_n 3, 1) := by decide +kernel
theorem dX11_about_71 : decode cX11_about 71 = .ok (.getfield 283, 3) := by decide +kernel
theorem dX11_about_74 : decode cX11_about 74 = .ok (.ireturn, 1) := by decide +kernel
theorem dX11_about_75 : decode cX11_about 75 = .ok (.aload_n 3, 1) := by decide +kernel
theorem dX11_about_76 : decode cX11_about 76 = .ok (.getfield 309, 3) := by decide +kernel
theorem dX11_about_79 : decode cX11_about 79 = .ok (.ireturn, 1) := by decide +kernel
theorem dX11_about_80 : decode cX11_about 80 = .ok (.aload_n 3, 1) := by decide +kernel
theorem dX11_about_81 : decode cX11_about 81 = .ok (.getfield 311, 3) := by decide +kernel
theorem dX11_about_84 : decode cX11_about 84 = .ok (.ireturn, 1) := by decide +kernel
theorem dX11_about_85 : decode cX11_about 85 = .ok (.aload_n 3, 1) := by decide +kernel
theorem dX11_about_86 : decode cX11_about 86 = .ok (.getfield 295, 3) := by decide +kernel
theorem dX11_about_89 : decode cX11_about 89 = .ok (.ireturn, 1) := by decide +kernel
theorem dX11_about_90 : decode cX11_about 90 = .ok (.iconst (-1), 1) := by decide +kernel
theorem dX11_about_91 : decode cX11_about 91 = .ok (.ireturn, 1) := by decide +kernel
theorem dX11_pass_0 : decode cX11_pass 0 = .ok (.aload_n 0, 1) := by decide +kernel
theorem dX11_pass_1 : decode cX11_pass 1 = .ok (.iconst 0, 1) := by decide +kernel
theorem dX11_pass_2 : decode cX11_pass 2 = .ok (.putfield 71, 3) := by decide +kernel
theorem dX11_pass_5 : decode cX11_pass 5 = .ok (.iload_n 1, 1) := by decide +kernel
theorem dX11_pass_6 : decode cX11_pass 6 = .ok (.iconst 1, 1) := by decide +kernel
theorem dX11_pass_7 : decode cX11_pass 7 = .ok (.sipush 400, 3) := by decide +kernel
theorem dX11_pass_10 : decode cX11_pass 10 = .ok (.invokestatic 200, 3) := by decide +kernel
theorem dX11_pass_13 : decode cX11_pass 13 = .ok (.ifCond .eq 15, 3) := by decide +kernel
theorem dX11_pass_16 : decode cX11_pass 16 = .ok (.aload_n 0, 1) := by decide +kernel
theorem dX11_pass_17 : decode cX11_pass 17 = .ok (.getfield 292, 3) := by decide +kernel
theorem dX11_pass_20 : decode cX11_pass 20 = .ok (.iload_n 1, 1) := by decide +kernel
theorem dX11_pass_21 : decode cX11_pass 21 = .ok (.iadd, 1) := by decide +kernel
theorem dX11_pass_22 : decode cX11_pass 22 = .ok (.sipush 2000, 3) := by decide +kernel
theorem dX11_pass_25 : decode cX11_pass 25 = .ok (.if_icmp .le 9, 3) := by decide +kernel
theorem dX11_pass_28 : decode cX11_pass 28 = .ok (.aload_n 0, 1) := by decide +kernel
theorem dX11_pass_29 : decode cX11_pass 29 = .ok (.iconst 2, 1) := by decide +kernel
theorem dX11_pass_30 : decode cX11_pass 30 = .ok (.invokevirtual 210, 3) := by decide +kernel
theorem dX11_pass_33 : decode cX11_pass 33 = .ok (.ireturn, 1) := by decide +kernel
theorem dX11_pass_34 : decode cX11_pass 34 = .ok (.iconst 0, 1) := by decide +kernel
theorem dX11_pass_35 : decode cX11_pass 35 = .ok (.istore_n 2, 1) := by decide +kernel
theorem dX11_pass_36 : decode cX11_pass 36 = .ok (.iload_n 2, 1) := by decide +kernel
theorem dX11_pass_37 : decode cX11_pass 37 = .ok (.iload_n 1, 1) := by decide +kernel
theorem dX11_pass_38 : decode cX11_pass 38 = .ok (.if_icmp .ge 58, 3) := by decide +kernel
theorem dX11_pass_41 : decode cX11_pass 41 = .ok (.aload_n 0, 1) := by decide +kernel
theorem dX11_pass_42 : decode cX11_pass 42 = .ok (.dup, 1) := by decide +kernel
theorem dX11_pass_43 : decode cX11_pass 43 = .ok (.getfield 292, 3) := by decide +kernel
theorem dX11_pass_46 : decode cX11_pass 46 = .ok (.iconst 1, 1) := by decide +kernel
theorem dX11_pass_47 : decode cX11_pass 47 = .ok (.iadd, 1) := by decide +kernel
theorem dX11_pass_48 : decode cX11_pass 48 = .ok (.putfield 292, 3) := by decide +kernel
theorem dX11_pass_51 : decode cX11_pass 51 = .ok (.iconst 0, 1) := by decide +kernel
theorem dX11_pass_52 : decode cX11_pass 52 = .ok (.istore_n 3, 1) := by decide +kernel
theorem dX11_pass_53 : decode cX11_pass 53 = .ok (.iload_n 3, 1) := by decide +kernel
theorem dX11_pass_54 : decode cX11_pass 54 = .ok (.aload_n 0, 1) := by decide +kernel
theorem dX11_pass_55 : decode cX11_pass 55 = .ok (.getfield 267, 3) := by decide +kernel
theorem dX11_pass_58 : decode cX11_pass 58 = .ok (.if_icmp .ge 32, 3) := by decide +kernel
theorem dX11_pass_61 : decode cX11_pass 61 = .ok (.aload_n 0, 1) := by decide +kernel
theorem dX11_pass_62 : decode cX11_pass 62 = .ok (.getfield 46, 3) := by decide +kernel
theorem dX11_pass_65 : decode cX11_pass 65 = .ok (.iload_n 3, 1) := by decide +kernel
theorem dX11_pass_66 : decode cX11_pass 66 = .ok (.aaload, 1) := by decide +kernel
theorem dX11_pass_67 : decode cX11_pass 67 = .ok (.getfield 289, 3) := by decide +kernel
theorem dX11_pass_70 : decode cX11_pass 70 = .ok (.aload_n 0, 1) := by decide +kernel
theorem dX11_pass_71 : decode cX11_pass 71 = .ok (.getfield 292, 3) := by decide +kernel
theorem dX11_pass_74 : decode cX11_pass 74 = .ok (.aload_n 0, 1) := by decide +kernel
theorem dX11_pass_75 : decode cX11_pass 75 = .ok (.getfield 46, 3) := by decide +kernel
theorem dX11_pass_78 : decode cX11_pass 78 = .ok (.iload_n 3, 1) := by decide +kernel
theorem dX11_pass_79 : decode cX11_pass 79 = .ok (.aaload, 1) := by decide +kernel
theorem dX11_pass_80 : decode cX11_pass 80 = .ok (.getfield 286, 3) := by decide +kernel
theorem dX11_pass_83 : decode cX11_pass 83 = .ok (.iastore, 1) := by decide +kernel
theorem dX11_pass_84 : decode cX11_pass 84 = .ok (.iinc 3 1, 3) := by decide +kernel
theorem dX11_pass_87 : decode cX11_pass 87 = .ok (.goto (-34), 3) := by decide +kernel
theorem dX11_pass_90 : decode cX11_pass 90 = .ok (.iinc 2 1, 3) := by decide +kernel
theorem dX11_pass_93 : decode cX11_pass 93 = .ok (.goto (-57), 3) := by decide +kernel
theorem dX11_pass_96 : decode cX11_pass 96 = .ok (.aload_n 0, 1) := by decide +kernel
theorem dX11_pass_97 : decode cX11_pass 97 = .ok (.aload_n 0, 1) := by decide +kernel
theorem dX11_pass_98 : decode cX11_pass 98 = .ok (.getfield 292, 3) := by decide +kernel
theorem dX11_pass_101 : decode cX11_pass 101 = .ok (.invokevirtual 222, 3) := by decide +kernel
theorem dX11_pass_104 : decode cX11_pass 104 = .ok (.ireturn, 1) := by decide +kernel
theorem dX11_isAnswer_0 : decode cX11_isAnswer 0 = .ok (.iload_n 1, 1) := by decide +kernel
theorem dX11_isAnswer_1 : decode cX11_isAnswer 1 = .ok (.ifCond .lt 15, 3) := by decide +kernel
theorem dX11_isAnswer_4 : decode cX11_isAnswer 4 = .ok (.iload_n 1, 1) := by decide +kernel
theorem dX11_isAnswer_5 : decode cX11_isAnswer 5 = .ok (.aload_n 0, 1) := by decide +kernel
theorem dX11_isAnswer_6 : decode cX11_isAnswer 6 = .ok (.getfield 313, 3) := by decide +kernel
theorem dX11_isAnswer_9 : decode cX11_isAnswer 9 = .ok (.if_icmp .ge 7, 3) := by decide +kernel
theorem dX11_isAnswer_12 : decode cX11_isAnswer 12 = .ok (.iconst 1, 1) := by decide +kernel
theorem dX11_isAnswer_13 : decode cX11_isAnswer 13 = .ok (.goto 4, 3) := by decide +kernel
theorem dX11_isAnswer_16 : decode cX11_isAnswer 16 = .ok (.iconst 0, 1) := by decide +kernel
theorem dX11_isAnswer_17 : decode cX11_isAnswer 17 = .ok (.ireturn, 1) := by decide +kernel
theorem dX11_ask_0 : decode cX11_ask 0 = .ok (.aload_n 0, 1) := by decide +kernel
theorem dX11_ask_1 : decode cX11_ask 1 = .ok (.iconst 0, 1) := by decide +kernel
theorem dX11_ask_2 : decode cX11_ask 2 = .ok (.putfield 71, 3) := by decide +kernel
theorem dX11_ask_5 : decode cX11_ask 5 = .ok (.aload_n 0, 1) := by decide +kernel
theorem dX11_ask_6 : decode cX11_ask 6 = .ok (.iload_n 1, 1) := by decide +kernel
theorem dX11_ask_7 : decode cX11_ask 7 = .ok (.invokevirtual 271, 3) := by decide +kernel
theorem dX11_ask_10 : decode cX11_ask 10 = .ok (.ifCond .ne 9, 3) := by decide +kernel
theorem dX11_ask_13 : decode cX11_ask 13 = .ok (.aload_n 0, 1) := by decide +kernel
theorem dX11_ask_14 : decode cX11_ask 14 = .ok (.iconst 1, 1) := by decide +kernel
theorem dX11_ask_15 : decode cX11_ask 15 = .ok (.invokevirtual 210, 3) := by decide +kernel
theorem dX11_ask_18 : decode cX11_ask 18 = .ok (.ireturn, 1) := by decide +kernel
theorem dX11_ask_19 : decode cX11_ask 19 = .ok (.iload_n 2, 1) := by decide +kernel
theorem dX11_ask_20 : decode cX11_ask 20 = .ok (.ifCond .ge 9, 3) := by decide +kernel
theorem dX11_ask_23 : decode cX11_ask 23 = .ok (.aload_n 0, 1) := by decide +kernel
theorem dX11_ask_24 : decode cX11_ask 24 = .ok (.iconst 2, 1) := by decide +kernel
theorem dX11_ask_25 : decode cX11_ask 25 = .ok (.invokevirtual 210, 3) := by decide +kernel
theorem dX11_ask_28 : decode cX11_ask 28 = .ok (.ireturn, 1) := by decide +kernel
theorem dX11_ask_29 : decode cX11_ask 29 = .ok (.aload_n 0, 1) := by decide +kernel
theorem dX11_ask_30 : decode cX11_ask 30 = .ok (.getfield 46, 3) := by decide +kernel
theorem dX11_ask_33 : decode cX11_ask 33 = .ok (.iload_n 1, 1) := by decide +kernel
theorem dX11_ask_34 : decode cX11_ask 34 = .ok (.aaload, 1) := by decide +kernel
theorem dX11_ask_35 : decode cX11_ask 35 = .ok (.astore_n 3, 1) := by decide +kernel
theorem dX11_ask_36 : decode cX11_ask 36 = .ok (.aload_n 3, 1) := by decide +kernel
theorem dX11_ask_37 : decode cX11_ask 37 = .ok (.getfield 286, 3) := by decide +kernel
theorem dX11_ask_40 : decode cX11_ask 40 = .ok (.bipush (-2), 2) := by decide +kernel
theorem dX11_ask_42 : decode cX11_ask 42 = .ok (.if_icmp .ne 9, 3) := by decide +kernel
theorem dX11_ask_45 : decode cX11_ask 45 = .ok (.aload_n 0, 1) := by decide +kernel
theorem dX11_ask_46 : decode cX11_ask 46 = .ok (.iconst 5, 1) := by decide +kernel
theorem dX11_ask_47 : decode cX11_ask 47 = .ok (.invokevirtual 210, 3) := by decide +kernel
theorem dX11_ask_50 : decode cX11_ask 50 = .ok (.ireturn, 1) := by decide +kernel
theorem dX11_ask_51 : decode cX11_ask 51 = .ok (.iconst 1, 1) := by decide +kernel
theorem dX11_ask_52 : decode cX11_ask 52 = .ok (.istore 4, 2) := by decide +kernel
theorem dX11_ask_54 : decode cX11_ask 54 = .ok (.iconst 0, 1) := by decide +kernel
theorem dX11_ask_55 : decode cX11_ask 55 = .ok (.istore 5, 2) := by decide +kernel
theorem dX11_ask_57 : decode cX11_ask 57 = .ok (.iload 5, 2) := by decide +kernel
theorem dX11_ask_59 : decode cX11_ask 59 = .ok (.bipush 6, 2) := by decide +kernel
theorem dX11_ask_61 : decode cX11_ask 61 = .ok (.if_icmp .ge 48, 3) := by decide +kernel
theorem dX11_ask_64 : decode cX11_ask 64 = .ok (.iload 4, 2) := by decide +kernel
theorem dX11_ask_66 : decode cX11_ask 66 = .ok (.ifCond .eq 34, 3) := by decide +kernel
theorem dX11_ask_69 : decode cX11_ask 69 = .ok (.aload_n 0, 1) := by decide +kernel
theorem dX11_ask_70 : decode cX11_ask 70 = .ok (.getfield 37, 3) := by decide +kernel
theorem dX11_ask_73 : decode cX11_ask 73 = .ok (.iload 5, 2) := by decide +kernel
theorem dX11_ask_75 : decode cX11_ask 75 = .ok (.iaload, 1) := by decide +kernel
theorem dX11_ask_76 : decode cX11_ask 76 = .ok (.aload_n 3, 1) := by decide +kernel
theorem dX11_ask_77 : decode cX11_ask 77 = .ok (.getfield 274, 3) := by decide +kernel
theorem dX11_ask_80 : decode cX11_ask 80 = .ok (.iload 5, 2) := by decide +kernel
theorem dX11_ask_82 : decode cX11_ask 82 = .ok (.iaload, 1) := by decide +kernel
theorem dX11_ask_83 : decode cX11_ask 83 = .ok (.aload_n 3, 1) := by decide +kernel
theorem dX11_ask_84 : decode cX11_ask 84 = .ok (.getfield 277, 3) := by decide +kernel
theorem dX11_ask_87 : decode cX11_ask 87 = .ok (.iload 5, 2) := by decide +kernel
theorem dX11_ask_89 : decode cX11_ask 89 = .ok (.iaload, 1) := by decide +kernel
theorem dX11_ask_90 : decode cX11_ask 90 = .ok (.invokestatic 200, 3) := by decide +kernel
theorem dX11_ask_93 : decode cX11_ask 93 = .ok (.ifCond .eq 7, 3) := by decide +kernel
theorem dX11_ask_96 : decode cX11_ask 96 = .ok (.iconst 1, 1) := by decide +kernel
theorem dX11_ask_97 : decode cX11_ask 97 = .ok (.goto 4, 3) := by decide +kernel
theorem dX11_ask_100 : decode cX11_ask 100 = .ok (.iconst 0, 1) := by decide +kernel
theorem dX11_ask_101 : decode cX11_ask 101 = .ok (.istore 4, 2) := by decide +kernel
theorem dX11_ask_103 : decode cX11_ask 103 = .ok (.iinc 5 1, 3) := by decide +kernel
theorem dX11_ask_106 : decode cX11_ask 106 = .ok (.goto (-49), 3) := by decide +kernel
theorem dX11_ask_109 : decode cX11_ask 109 = .ok (.iload 4, 2) := by decide +kernel
theorem dX11_ask_111 : decode cX11_ask 111 = .ok (.ifCond .ne 20, 3) := by decide +kernel
theorem dX11_ask_114 : decode cX11_ask 114 = .ok (.aload_n 3, 1) := by decide +kernel
theorem dX11_ask_115 : decode cX11_ask 115 = .ok (.dup, 1) := by decide +kernel
theorem dX11_ask_116 : decode cX11_ask 116 = .ok (.getfield 311, 3) := by decide +kernel
theorem dX11_ask_119 : decode cX11_ask 119 = .ok (.iconst 1, 1) := by decide +kernel
theorem dX11_ask_120 : decode cX11_ask 120 = .ok (.iadd, 1) := by decide +kernel
theorem dX11_ask_121 : decode cX11_ask 121 = .ok (.putfield 311, 3) := by decide +kernel
theorem dX11_ask_124 : decode cX11_ask 124 = .ok (.aload_n 0, 1) := by decide +kernel
theorem dX11_ask_125 : decode cX11_ask 125 = .ok (.bipush 6, 2) := by decide +kernel
theorem dX11_ask_127 : decode cX11_ask 127 = .ok (.invokevirtual 210, 3) := by decide +kernel
theorem dX11_ask_130 : decode cX11_ask 130 = .ok (.ireturn, 1) := by decide +kernel
theorem dX11_ask_131 : decode cX11_ask 131 = .ok (.aload_n 0, 1) := by decide +kernel
theorem dX11_ask_132 : decode cX11_ask 132 = .ok (.getfield 313, 3) := by decide +kernel
theorem dX11_ask_135 : decode cX11_ask 135 = .ok (.sipush 200, 3) := by decide +kernel
theorem dX11_ask_138 : decode cX11_ask 138 = .ok (.if_icmp .ne 9, 3) := by decide +kernel
theorem dX11_ask_141 : decode cX11_ask 141 = .ok (.aload_n 0, 1) := by decide +kernel
theorem dX11_ask_142 : decode cX11_ask 142 = .ok (.iconst 3, 1) := by decide +kernel
theorem dX11_ask_143 : decode cX11_ask 143 = .ok (.invokevirtual 210, 3) := by decide +kernel
theorem dX11_ask_146 : decode cX11_ask 146 = .ok (.ireturn, 1) := by decide +kernel
theorem dX11_ask_147 : decode cX11_ask 147 = .ok (.aload_n 0, 1) := by decide +kernel
theorem dX11_ask_148 : decode cX11_ask 148 = .ok (.getfield 313, 3) := by decide +kernel
theorem dX11_ask_151 : decode cX11_ask 151 = .ok (.istore 5, 2) := by decide +kernel
theorem dX11_ask_153 : decode cX11_ask 153 = .ok (.aload_n 0, 1) := by decide +kernel
theorem dX11_ask_154 : decode cX11_ask 154 = .ok (.dup, 1) := by decide +kernel
theorem dX11_ask_155 : decode cX11_ask 155 = .ok (.getfield 313, 3) := by decide +kernel
theorem dX11_ask_158 : decode cX11_ask 158 = .ok (.iconst 1, 1) := by decide +kernel
theorem dX11_ask_159 : decode cX11_ask 159 = .ok (.iadd, 1) := by decide +kernel
theorem dX11_ask_160 : decode cX11_ask 160 = .ok (.putfield 313, 3) := by decide +kernel
theorem dX11_ask_163 : decode cX11_ask 163 = .ok (.aload_n 3, 1) := by decide +kernel
theorem dX11_ask_164 : decode cX11_ask 164 = .ok (.dup, 1) := by decide +kernel
theorem dX11_ask_165 : decode cX11_ask 165 = .ok (.getfield 309, 3) := by decide +kernel
theorem dX11_ask_168 : decode cX11_ask 168 = .ok (.iconst 1, 1) := by decide +kernel
theorem dX11_ask_169 : decode cX11_ask 169 = .ok (.iadd, 1) := by decide +kernel
theorem dX11_ask_170 : decode cX11_ask 170 = .ok (.putfield 309, 3) := by decide +kernel
theorem dX11_ask_173 : decode cX11_ask 173 = .ok (.iconst 0, 1) := by decide +kernel
theorem dX11_ask_174 : decode cX11_ask 174 = .ok (.istore 6, 2) := by decide +kernel
theorem dX11_ask_176 : decode cX11_ask 176 = .ok (.iload 6, 2) := by decide +kernel
theorem dX11_ask_178 : decode cX11_ask 178 = .ok (.bipush 6, 2) := by decide +kernel
theorem dX11_ask_180 : decode cX11_ask 180 = .ok (.if_icmp .ge 29, 3) := by decide +kernel
theorem dX11_ask_183 : decode cX11_ask 183 = .ok (.aload_n 0, 1) := by decide +kernel
theorem dX11_ask_184 : decode cX11_ask 184 = .ok (.getfield 53, 3) := by decide +kernel
theorem dX11_ask_187 : decode cX11_ask 187 = .ok (.bipush 6, 2) := by decide +kernel
theorem dX11_ask_189 : decode cX11_ask 189 = .ok (.iload 5, 2) := by decide +kernel
theorem dX11_ask_191 : decode cX11_ask 191 = .ok (.imul, 1) := by decide +kernel
theorem dX11_ask_192 : decode cX11_ask 192 = .ok (.iload 6, 2) := by decide +kernel
theorem dX11_ask_194 : decode cX11_ask 194 = .ok (.iadd, 1) := by decide +kernel
theorem dX11_ask_195 : decode cX11_ask 195 = .ok (.aload_n 0, 1) := by decide +kernel
theorem dX11_ask_196 : decode cX11_ask 196 = .ok (.getfield 37, 3) := by decide +kernel
theorem dX11_ask_199 : decode cX11_ask 199 = .ok (.iload 6, 2) := by decide +kernel
theorem dX11_ask_201 : decode cX11_ask 201 = .ok (.iaload, 1) := by decide +kernel
theorem dX11_ask_202 : decode cX11_ask 202 = .ok (.iastore, 1) := by decide +kernel
theorem dX11_ask_203 : decode cX11_ask 203 = .ok (.iinc 6 1, 3) := by decide +kernel
theorem dX11_ask_206 : decode cX11_ask 206 = .ok (.goto (-30), 3) := by decide +kernel
theorem dX11_ask_209 : decode cX11_ask 209 = .ok (.aload_n 0, 1) := by decide +kernel
theorem dX11_ask_210 : decode cX11_ask 210 = .ok (.getfield 50, 3) := by decide +kernel
theorem dX11_ask_213 : decode cX11_ask 213 = .ok (.bipush 6, 2) := by decide +kernel
theorem dX11_ask_215 : decode cX11_ask 215 = .ok (.iload 5, 2) := by decide +kernel
theorem dX11_ask_217 : decode cX11_ask 217 = .ok (.imul, 1) := by decide +kernel
theorem dX11_ask_218 : decode cX11_ask 218 = .ok (.iload_n 1, 1) := by decide +kernel
theorem dX11_ask_219 : decode cX11_ask 219 = .ok (.iastore, 1) := by decide +kernel
theorem dX11_ask_220 : decode cX11_ask 220 = .ok (.aload_n 0, 1) := by decide +kernel
theorem dX11_ask_221 : decode cX11_ask 221 = .ok (.getfield 50, 3) := by decide +kernel
theorem dX11_ask_224 : decode cX11_ask 224 = .ok (.bipush 6, 2) := by decide +kernel
theorem dX11_ask_226 : decode cX11_ask 226 = .ok (.iload 5, 2) := by decide +kernel
theorem dX11_ask_228 : decode cX11_ask 228 = .ok (.imul, 1) := by decide +kernel
theorem dX11_ask_229 : decode cX11_ask 229 = .ok (.iconst 1, 1) := by decide +kernel
theorem dX11_ask_230 : decode cX11_ask 230 = .ok (.iadd, 1) := by decide +kernel
theorem dX11_ask_231 : decode cX11_ask 231 = .ok (.iload_n 2, 1) := by decide +kernel
theorem dX11_ask_232 : decode cX11_ask 232 = .ok (.iastore, 1) := by decide +kernel
theorem dX11_ask_233 : decode cX11_ask 233 = .ok (.aload_n 0, 1) := by decide +kernel
theorem dX11_ask_234 : decode cX11_ask 234 = .ok (.getfield 50, 3) := by decide +kernel
theorem dX11_ask_237 : decode cX11_ask 237 = .ok (.bipush 6, 2) := by decide +kernel
theorem dX11_ask_239 : decode cX11_ask 239 = .ok (.iload 5, 2) := by decide +kernel
theorem dX11_ask_241 : decode cX11_ask 241 = .ok (.imul, 1) := by decide +kernel
theorem dX11_ask_242 : decode cX11_ask 242 = .ok (.iconst 2, 1) := by decide +kernel
theorem dX11_ask_243 : decode cX11_ask 243 = .ok (.iadd, 1) := by decide +kernel
theorem dX11_ask_244 : decode cX11_ask 244 = .ok (.aload_n 0, 1) := by decide +kernel
theorem dX11_ask_245 : decode cX11_ask 245 = .ok (.getfield 292, 3) := by decide +kernel
theorem dX11_ask_248 : decode cX11_ask 248 = .ok (.iastore, 1) := by decide +kernel
theorem dX11_ask_249 : decode cX11_ask 249 = .ok (.aload_n 0, 1) := by decide +kernel
theorem dX11_ask_250 : decode cX11_ask 250 = .ok (.getfield 50, 3) := by decide +kernel
theorem dX11_ask_253 : decode cX11_ask 253 = .ok (.bipush 6, 2) := by decide +kernel
theorem dX11_ask_255 : decode cX11_ask 255 = .ok (.iload 5, 2) := by decide +kernel
theorem dX11_ask_257 : decode cX11_ask 257 = .ok (.imul, 1) := by decide +kernel
theorem dX11_ask_258 : decode cX11_ask 258 = .ok (.iconst 3, 1) := by decide +kernel
theorem dX11_ask_259 : decode cX11_ask 259 = .ok (.iadd, 1) := by decide +kernel
theorem dX11_ask_260 : decode cX11_ask 260 = .ok (.aload_n 3, 1) := by decide +kernel
theorem dX11_ask_261 : decode cX11_ask 261 = .ok (.getfield 280, 3) := by decide +kernel
theorem dX11_ask_264 : decode cX11_ask 264 = .ok (.bipush (-2), 2) := by decide +kernel
theorem dX11_ask_266 : decode cX11_ask 266 = .ok (.if_icmp .eq 21, 3) := by decide +kernel
theorem dX11_ask_269 : decode cX11_ask 269 = .ok (.iload_n 2, 1) := by decide +kernel
theorem dX11_ask_270 : decode cX11_ask 270 = .ok (.bipush 100, 2) := by decide +kernel
theorem dX11_ask_272 : decode cX11_ask 272 = .ok (.irem, 1) := by decide +kernel
theorem dX11_ask_273 : decode cX11_ask 273 = .ok (.aload_n 3, 1) := by decide +kernel
theorem dX11_ask_274 : decode cX11_ask 274 = .ok (.getfield 283, 3) := by decide +kernel
theorem dX11_ask_277 : decode cX11_ask 277 = .ok (.if_icmp .ge 10, 3) := by decide +kernel
theorem dX11_ask_280 : decode cX11_ask 280 = .ok (.aload_n 3, 1) := by decide +kernel
theorem dX11_ask_281 : decode cX11_ask 281 = .ok (.getfield 280, 3) := by decide +kernel
theorem dX11_ask_284 : decode cX11_ask 284 = .ok (.goto 7, 3) := by decide +kernel
theorem dX11_ask_287 : decode cX11_ask 287 = .ok (.aload_n 3, 1) := by decide +kernel
theorem dX11_ask_288 : decode cX11_ask 288 = .ok (.getfield 286, 3) := by decide +kernel
theorem dX11_ask_291 : decode cX11_ask 291 = .ok (.iastore, 1) := by decide +kernel
theorem dX11_ask_292 : decode cX11_ask 292 = .ok (.aload_n 0, 1) := by decide +kernel
theorem dX11_ask_293 : decode cX11_ask 293 = .ok (.getfield 50, 3) := by decide +kernel
theorem dX11_ask_296 : decode cX11_ask 296 = .ok (.bipush 6, 2) := by decide +kernel
theorem dX11_ask_298 : decode cX11_ask 298 = .ok (.iload 5, 2) := by decide +kernel
theorem dX11_ask_300 : decode cX11_ask 300 = .ok (.imul, 1) := by decide +kernel
theorem dX11_ask_301 : decode cX11_ask 301 = .ok (.iconst 4, 1) := by decide +kernel
theorem dX11_ask_302 : decode cX11_ask 302 = .ok (.iadd, 1) := by decide +kernel
theorem dX11_ask_303 : decode cX11_ask 303 = .ok (.aload_n 3, 1) := by decide +kernel
theorem dX11_ask_304 : decode cX11_ask 304 = .ok (.getfield 286, 3) := by decide +kernel
theorem dX11_ask_307 : decode cX11_ask 307 = .ok (.iastore, 1) := by decide +kernel
theorem dX11_ask_308 : decode cX11_ask 308 = .ok (.aload_n 0, 1) := by decide +kernel
theorem dX11_ask_309 : decode cX11_ask 309 = .ok (.getfield 50, 3) := by decide +kernel
theorem dX11_ask_312 : decode cX11_ask 312 = .ok (.bipush 6, 2) := by decide +kernel
theorem dX11_ask_314 : decode cX11_ask 314 = .ok (.iload 5, 2) := by decide +kernel
theorem dX11_ask_316 : decode cX11_ask 316 = .ok (.imul, 1) := by decide +kernel
theorem dX11_ask_317 : decode cX11_ask 317 = .ok (.iconst 5, 1) := by decide +kernel
theorem dX11_ask_318 : decode cX11_ask 318 = .ok (.iadd, 1) := by decide +kernel
theorem dX11_ask_319 : decode cX11_ask 319 = .ok (.aload_n 3, 1) := by decide +kernel
theorem dX11_ask_320 : decode cX11_ask 320 = .ok (.getfield 280, 3) := by decide +kernel
theorem dX11_ask_323 : decode cX11_ask 323 = .ok (.iastore, 1) := by decide +kernel
theorem dX11_ask_324 : decode cX11_ask 324 = .ok (.aload_n 0, 1) := by decide +kernel
theorem dX11_ask_325 : decode cX11_ask 325 = .ok (.getfield 56, 3) := by decide +kernel
theorem dX11_ask_328 : decode cX11_ask 328 = .ok (.iload 5, 2) := by decide +kernel
theorem dX11_ask_330 : decode cX11_ask 330 = .ok (.aload_n 0, 1) := by decide +kernel
theorem dX11_ask_331 : decode cX11_ask 331 = .ok (.aload_n 3, 1) := by decide +kernel
theorem dX11_ask_332 : decode cX11_ask 332 = .ok (.getfield 286, 3) := by decide +kernel
theorem dX11_ask_335 : decode cX11_ask 335 = .ok (.aload_n 0, 1) := by decide +kernel
theorem dX11_ask_336 : decode cX11_ask 336 = .ok (.getfield 37, 3) := by decide +kernel
theorem dX11_ask_339 : decode cX11_ask 339 = .ok (.iconst 0, 1) := by decide +kernel
theorem dX11_ask_340 : decode cX11_ask 340 = .ok (.invokevirtual 262, 3) := by decide +kernel
theorem dX11_ask_343 : decode cX11_ask 343 = .ok (.iastore, 1) := by decide +kernel
theorem dX11_ask_344 : decode cX11_ask 344 = .ok (.aload_n 0, 1) := by decide +kernel
theorem dX11_ask_345 : decode cX11_ask 345 = .ok (.getfield 59, 3) := by decide +kernel
theorem dX11_ask_348 : decode cX11_ask 348 = .ok (.iload 5, 2) := by decide +kernel
theorem dX11_ask_350 : decode cX11_ask 350 = .ok (.aload_n 3, 1) := by decide +kernel
theorem dX11_ask_351 : decode cX11_ask 351 = .ok (.getfield 280, 3) := by decide +kernel
theorem dX11_ask_354 : decode cX11_ask 354 = .ok (.bipush (-2), 2) := by decide +kernel
theorem dX11_ask_356 : decode cX11_ask 356 = .ok (.if_icmp .ne 9, 3) := by decide +kernel
theorem dX11_ask_359 : decode cX11_ask 359 = .ok (.ldc_w 266, 3) := by decide +kernel
theorem dX11_ask_362 : decode cX11_ask 362 = .ok (.goto 16, 3) := by decide +kernel
theorem dX11_ask_365 : decode cX11_ask 365 = .ok (.aload_n 0, 1) := by decide +kernel
theorem dX11_ask_366 : decode cX11_ask 366 = .ok (.aload_n 3, 1) := by decide +kernel
theorem dX11_ask_367 : decode cX11_ask 367 = .ok (.getfield 280, 3) := by decide +kernel
theorem dX11_ask_370 : decode cX11_ask 370 = .ok (.aload_n 0, 1) := by decide +kernel
theorem dX11_ask_371 : decode cX11_ask 371 = .ok (.getfield 37, 3) := by decide +kernel
theorem dX11_ask_374 : decode cX11_ask 374 = .ok (.iconst 0, 1) := by decide +kernel
theorem dX11_ask_375 : decode cX11_ask 375 = .ok (.invokevirtual 262, 3) := by decide +kernel
theorem dX11_ask_378 : decode cX11_ask 378 = .ok (.iastore, 1) := by decide +kernel
theorem dX11_ask_379 : decode cX11_ask 379 = .ok (.aload_n 0, 1) := by decide +kernel
theorem dX11_ask_380 : decode cX11_ask 380 = .ok (.getfield 62, 3) := by decide +kernel
theorem dX11_ask_383 : decode cX11_ask 383 = .ok (.iload 5, 2) := by decide +kernel
theorem dX11_ask_385 : decode cX11_ask 385 = .ok (.ldc_w 266, 3) := by decide +kernel
theorem dX11_ask_388 : decode cX11_ask 388 = .ok (.iastore, 1) := by decide +kernel
theorem dX11_ask_389 : decode cX11_ask 389 = .ok (.aload_n 0, 1) := by decide +kernel
theorem dX11_ask_390 : decode cX11_ask 390 = .ok (.iload 5, 2) := by decide +kernel
theorem dX11_ask_392 : decode cX11_ask 392 = .ok (.invokevirtual 222, 3) := by decide +kernel
theorem dX11_ask_395 : decode cX11_ask 395 = .ok (.ireturn, 1) := by decide +kernel
theorem dX11_kept_0 : decode cX11_kept 0 = .ok (.aload_n 0, 1) := by decide +kernel
theorem dX11_kept_1 : decode cX11_kept 1 = .ok (.iconst 0, 1) := by decide +kernel
theorem dX11_kept_2 : decode cX11_kept 2 = .ok (.putfield 71, 3) := by decide +kernel
theorem dX11_kept_5 : decode cX11_kept 5 = .ok (.aload_n 0, 1) := by decide +kernel
theorem dX11_kept_6 : decode cX11_kept 6 = .ok (.iload_n 1, 1) := by decide +kernel
theorem dX11_kept_7 : decode cX11_kept 7 = .ok (.invokevirtual 316, 3) := by decide +kernel
theorem dX11_kept_10 : decode cX11_kept 10 = .ok (.ifCond .eq 26, 3) := by decide +kernel
theorem dX11_kept_13 : decode cX11_kept 13 = .ok (.iload_n 2, 1) := by decide +kernel
theorem dX11_kept_14 : decode cX11_kept 14 = .ok (.iconst 0, 1) := by decide +kernel
theorem dX11_kept_15 : decode cX11_kept 15 = .ok (.iconst 5, 1) := by decide +kernel
theorem dX11_kept_16 : decode cX11_kept 16 = .ok (.invokestatic 200, 3) := by decide +kernel
theorem dX11_kept_19 : decode cX11_kept 19 = .ok (.ifCond .eq 17, 3) := by decide +kernel
theorem dX11_kept_22 : decode cX11_kept 22 = .ok (.aload_n 0, 1) := by decide +kernel
theorem dX11_kept_23 : decode cX11_kept 23 = .ok (.getfield 50, 3) := by decide +kernel
theorem dX11_kept_26 : decode cX11_kept 26 = .ok (.bipush 6, 2) := by decide +kernel
theorem dX11_kept_28 : decode cX11_kept 28 = .ok (.iload_n 1, 1) := by decide +kernel
theorem dX11_kept_29 : decode cX11_kept 29 = .ok (.imul, 1) := by decide +kernel
theorem dX11_kept_30 : decode cX11_kept 30 = .ok (.iload_n 2, 1) := by decide +kernel
theorem dX11_kept_31 : decode cX11_kept 31 = .ok (.iadd, 1) := by decide +kernel
theorem dX11_kept_32 : decode cX11_kept 32 = .ok (.iaload, 1) := by decide +kernel
theorem dX11_kept_33 : decode cX11_kept 33 = .ok (.goto 4, 3) := by decide +kernel
theorem dX11_kept_36 : decode cX11_kept 36 = .ok (.iconst (-1), 1) := by decide +kernel
theorem dX11_kept_37 : decode cX11_kept 37 = .ok (.ireturn, 1) := by decide +kernel
theorem dX11_answered_0 : decode cX11_answered 0 = .ok (.aload_n 0, 1) := by decide +kernel
theorem dX11_answered_1 : decode cX11_answered 1 = .ok (.getfield 50, 3) := by decide +kernel
theorem dX11_answered_4 : decode cX11_answered 4 = .ok (.bipush 6, 2) := by decide +kernel
theorem dX11_answered_6 : decode cX11_answered 6 = .ok (.iload_n 1, 1) := by decide +kernel
theorem dX11_answered_7 : decode cX11_answered 7 = .ok (.imul, 1) := by decide +kernel
theorem dX11_answered_8 : decode cX11_answered 8 = .ok (.iconst 3, 1) := by decide +kernel
theorem dX11_answered_9 : decode cX11_answered 9 = .ok (.iadd, 1) := by decide +kernel
theorem dX11_answered_10 : decode cX11_answered 10 = .ok (.iaload, 1) := by decide +kernel
theorem dX11_answered_11 : decode cX11_answered 11 = .ok (.aload_n 0, 1) := by decide +kernel
theorem dX11_answered_12 : decode cX11_answered 12 = .ok (.getfield 50, 3) := by decide +kernel
theorem dX11_answered_15 : decode cX11_answered 15 = .ok (.bipush 6, 2) := by decide +kernel
theorem dX11_answered_17 : decode cX11_answered 17 = .ok (.iload_n 1, 1) := by decide +kernel
theorem dX11_answered_18 : decode cX11_answered 18 = .ok (.imul, 1) := by decide +kernel
theorem dX11_answered_19 : decode cX11_answered 19 = .ok (.iconst 4, 1) := by decide +kernel
theorem dX11_answered_20 : decode cX11_answered 20 = .ok (.iadd, 1) := by decide +kernel
theorem dX11_answered_21 : decode cX11_answered 21 = .ok (.iaload, 1) := by decide +kernel
theorem dX11_answered_22 : decode cX11_answered 22 = .ok (.if_icmp .ne 12, 3) := by decide +kernel
theorem dX11_answered_25 : decode cX11_answered 25 = .ok (.aload_n 0, 1) := by decide +kernel
theorem dX11_answered_26 : decode cX11_answered 26 = .ok (.getfield 56, 3) := by decide +kernel
theorem dX11_answered_29 : decode cX11_answered 29 = .ok (.iload_n 1, 1) := by decide +kernel
theorem dX11_answered_30 : decode cX11_answered 30 = .ok (.iaload, 1) := by decide +kernel
theorem dX11_answered_31 : decode cX11_answered 31 = .ok (.goto 9, 3) := by decide +kernel
theorem dX11_answered_34 : decode cX11_answered 34 = .ok (.aload_n 0, 1) := by decide +kernel
theorem dX11_answered_35 : decode cX11_answered 35 = .ok (.getfield 59, 3) := by decide +kernel
theorem dX11_answered_38 : decode cX11_answered 38 = .ok (.iload_n 1, 1) := by decide +kernel
theorem dX11_answered_39 : decode cX11_answered 39 = .ok (.iaload, 1) := by decide +kernel
theorem dX11_answered_40 : decode cX11_answered 40 = .ok (.ireturn, 1) := by decide +kernel
theorem dX11_answer_0 : decode cX11_answer 0 = .ok (.aload_n 0, 1) := by decide +kernel
theorem dX11_answer_1 : decode cX11_answer 1 = .ok (.iconst 0, 1) := by decide +kernel
theorem dX11_answer_2 : decode cX11_answer 2 = .ok (.putfield 71, 3) := by decide +kernel
theorem dX11_answer_5 : decode cX11_answer 5 = .ok (.aload_n 0, 1) := by decide +kernel
theorem dX11_answer_6 : decode cX11_answer 6 = .ok (.iload_n 1, 1) := by decide +kernel
theorem dX11_answer_7 : decode cX11_answer 7 = .ok (.invokevirtual 316, 3) := by decide +kernel
theorem dX11_answer_10 : decode cX11_answer 10 = .ok (.ifCond .ne 7, 3) := by decide +kernel
theorem dX11_answer_13 : decode cX11_answer 13 = .ok (.ldc_w 266, 3) := by decide +kernel
theorem dX11_answer_16 : decode cX11_answer 16 = .ok (.ireturn, 1) := by decide +kernel
theorem dX11_answer_17 : decode cX11_answer 17 = .ok (.iload_n 2, 1) := by decide +kernel
theorem dX11_answer_18 : decode cX11_answer 18 = .ok (.tableswitch 57 0 3 #[30, 36, 43, 50], 30) := by decide +kernel
theorem dX11_answer_48 : decode cX11_answer 48 = .ok (.aload_n 0, 1) := by decide +kernel
theorem dX11_answer_49 : decode cX11_answer 49 = .ok (.iload_n 1, 1) := by decide +kernel
theorem dX11_answer_50 : decode cX11_answer 50 = .ok (.invokevirtual 319, 3) := by decide +kernel
theorem dX11_answer_53 : decode cX11_answer 53 = .ok (.ireturn, 1) := by decide +kernel
theorem dX11_answer_54 : decode cX11_answer 54 = .ok (.aload_n 0, 1) := by decide +kernel
theorem dX11_answer_55 : decode cX11_answer 55 = .ok (.getfield 56, 3) := by decide +kernel
theorem dX11_answer_58 : decode cX11_answer 58 = .ok (.iload_n 1, 1) := by decide +kernel
theorem dX11_answer_59 : decode cX11_answer 59 = .ok (.iaload, 1) := by decide +kernel
theorem dX11_answer_60 : decode cX11_answer 60 = .ok (.ireturn, 1) := by decide +kernel
theorem dX11_answer_61 : decode cX11_answer 61 = .ok (.aload_n 0, 1) := by decide +kernel
theorem dX11_answer_62 : decode cX11_answer 62 = .ok (.getfield 59, 3) := by decide +kernel
theorem dX11_answer_65 : decode cX11_answer 65 = .ok (.iload_n 1, 1) := by decide +kernel
theorem dX11_answer_66 : decode cX11_answer 66 = .ok (.iaload, 1) := by decide +kernel
theorem dX11_answer_67 : decode cX11_answer 67 = .ok (.ireturn, 1) := by decide +kernel
theorem dX11_answer_68 : decode cX11_answer 68 = .ok (.aload_n 0, 1) := by decide +kernel
theorem dX11_answer_69 : decode cX11_answer 69 = .ok (.getfield 62, 3) := by decide +kernel
theorem dX11_answer_72 : decode cX11_answer 72 = .ok (.iload_n 1, 1) := by decide +kernel
theorem dX11_answer_73 : decode cX11_answer 73 = .ok (.iaload, 1) := by decide +kernel
theorem dX11_answer_74 : decode cX11_answer 74 = .ok (.ireturn, 1) := by decide +kernel
theorem dX11_answer_75 : decode cX11_answer 75 = .ok (.ldc_w 266, 3) := by decide +kernel
theorem dX11_answer_78 : decode cX11_answer 78 = .ok (.ireturn, 1) := by decide +kernel
theorem dX11_again_0 : decode cX11_again 0 = .ok (.aload_n 0, 1) := by decide +kernel
theorem dX11_again_1 : decode cX11_again 1 = .ok (.iconst 0, 1) := by decide +kernel
theorem dX11_again_2 : decode cX11_again 2 = .ok (.putfield 71, 3) := by decide +kernel
theorem dX11_again_5 : decode cX11_again 5 = .ok (.aload_n 0, 1) := by decide +kernel
theorem dX11_again_6 : decode cX11_again 6 = .ok (.aload_n 0, 1) := by decide +kernel
theorem dX11_again_7 : decode cX11_again 7 = .ok (.iload_n 1, 1) := by decide +kernel
theorem dX11_again_8 : decode cX11_again 8 = .ok (.invokevirtual 316, 3) := by decide +kernel
theorem dX11_again_11 : decode cX11_again 11 = .ok (.ifCond .eq 15, 3) := by decide +kernel
theorem dX11_again_14 : decode cX11_again 14 = .ok (.aload_n 0, 1) := by decide +kernel
theorem dX11_again_15 : decode cX11_again 15 = .ok (.iload_n 2, 1) := by decide +kernel
theorem dX11_again_16 : decode cX11_again 16 = .ok (.invokevirtual 225, 3) := by decide +kernel
theorem dX11_again_19 : decode cX11_again 19 = .ok (.ifCond .eq 7, 3) := by decide +kernel
theorem dX11_again_22 : decode cX11_again 22 = .ok (.iconst 0, 1) := by decide +kernel
theorem dX11_again_23 : decode cX11_again 23 = .ok (.goto 4, 3) := by decide +kernel
theorem dX11_again_26 : decode cX11_again 26 = .ok (.iconst 1, 1) := by decide +kernel
theorem dX11_again_27 : decode cX11_again 27 = .ok (.putfield 74, 3) := by decide +kernel
theorem dX11_again_30 : decode cX11_again 30 = .ok (.aload_n 0, 1) := by decide +kernel
theorem dX11_again_31 : decode cX11_again 31 = .ok (.iconst (-1), 1) := by decide +kernel
theorem dX11_again_32 : decode cX11_again 32 = .ok (.putfield 11, 3) := by decide +kernel
theorem dX11_again_35 : decode cX11_again 35 = .ok (.aload_n 0, 1) := by decide +kernel
theorem dX11_again_36 : decode cX11_again 36 = .ok (.getfield 74, 3) := by decide +kernel
theorem dX11_again_39 : decode cX11_again 39 = .ok (.ifCond .ne 19, 3) := by decide +kernel
theorem dX11_again_42 : decode cX11_again 42 = .ok (.aload_n 0, 1) := by decide +kernel
theorem dX11_again_43 : decode cX11_again 43 = .ok (.iload_n 2, 1) := by decide +kernel
theorem dX11_again_44 : decode cX11_again 44 = .ok (.aload_n 0, 1) := by decide +kernel
theorem dX11_again_45 : decode cX11_again 45 = .ok (.getfield 53, 3) := by decide +kernel
theorem dX11_again_48 : decode cX11_again 48 = .ok (.bipush 6, 2) := by decide +kernel
theorem dX11_again_50 : decode cX11_again 50 = .ok (.iload_n 1, 1) := by decide +kernel
theorem dX11_again_51 : decode cX11_again 51 = .ok (.imul, 1) := by decide +kernel
theorem dX11_again_52 : decode cX11_again 52 = .ok (.invokevirtual 262, 3) := by decide +kernel
theorem dX11_again_55 : decode cX11_again 55 = .ok (.goto 6, 3) := by decide +kernel
theorem dX11_again_58 : decode cX11_again 58 = .ok (.ldc_w 266, 3) := by decide +kernel
theorem dX11_again_61 : decode cX11_again 61 = .ok (.ireturn, 1) := by decide +kernel
theorem dX11_truth_0 : decode cX11_truth 0 = .ok (.aload_n 0, 1) := by decide +kernel
theorem dX11_truth_1 : decode cX11_truth 1 = .ok (.iconst 0, 1) := by decide +kernel
theorem dX11_truth_2 : decode cX11_truth 2 = .ok (.putfield 71, 3) := by decide +kernel
theorem dX11_truth_5 : decode cX11_truth 5 = .ok (.aload_n 0, 1) := by decide +kernel
theorem dX11_truth_6 : decode cX11_truth 6 = .ok (.iload_n 1, 1) := by decide +kernel
theorem dX11_truth_7 : decode cX11_truth 7 = .ok (.invokevirtual 316, 3) := by decide +kernel
theorem dX11_truth_10 : decode cX11_truth 10 = .ok (.ifCond .ne 9, 3) := by decide +kernel
theorem dX11_truth_13 : decode cX11_truth 13 = .ok (.aload_n 0, 1) := by decide +kernel
theorem dX11_truth_14 : decode cX11_truth 14 = .ok (.iconst 1, 1) := by decide +kernel
theorem dX11_truth_15 : decode cX11_truth 15 = .ok (.invokevirtual 228, 3) := by decide +kernel
theorem dX11_truth_18 : decode cX11_truth 18 = .ok (.ireturn, 1) := by decide +kernel
theorem dX11_truth_19 : decode cX11_truth 19 = .ok (.iload_n 2, 1) := by decide +kernel
theorem dX11_truth_20 : decode cX11_truth 20 = .ok (.ldc_w 322, 3) := by decide +kernel
theorem dX11_truth_23 : decode cX11_truth 23 = .ok (.ldc_w 323, 3) := by decide +kernel
theorem dX11_truth_26 : decode cX11_truth 26 = .ok (.invokestatic 200, 3) := by decide +kernel
theorem dX11_truth_29 : decode cX11_truth 29 = .ok (.ifCond .ne 9, 3) := by decide +kernel
theorem dX11_truth_32 : decode cX11_truth 32 = .ok (.aload_n 0, 1) := by decide +kernel
theorem dX11_truth_33 : decode cX11_truth 33 = .ok (.iconst 2, 1) := by decide +kernel
theorem dX11_truth_34 : decode cX11_truth 34 = .ok (.invokevirtual 228, 3) := by decide +kernel
theorem dX11_truth_37 : decode cX11_truth 37 = .ok (.ireturn, 1) := by decide +kernel
theorem dX11_truth_38 : decode cX11_truth 38 = .ok (.aload_n 0, 1) := by decide +kernel
theorem dX11_truth_39 : decode cX11_truth 39 = .ok (.getfield 62, 3) := by decide +kernel
theorem dX11_truth_42 : decode cX11_truth 42 = .ok (.iload_n 1, 1) := by decide +kernel
theorem dX11_truth_43 : decode cX11_truth 43 = .ok (.iload_n 2, 1) := by decide +kernel
theorem dX11_truth_44 : decode cX11_truth 44 = .ok (.iastore, 1) := by decide +kernel
theorem dX11_truth_45 : decode cX11_truth 45 = .ok (.aload_n 0, 1) := by decide +kernel
theorem dX11_truth_46 : decode cX11_truth 46 = .ok (.invokevirtual 231, 3) := by decide +kernel
theorem dX11_truth_49 : decode cX11_truth 49 = .ok (.ireturn, 1) := by decide +kernel
theorem dX11_side_0 : decode cX11_side 0 = .ok (.aload_n 0, 1) := by decide +kernel
theorem dX11_side_1 : decode cX11_side 1 = .ok (.iconst 0, 1) := by decide +kernel
theorem dX11_side_2 : decode cX11_side 2 = .ok (.putfield 71, 3) := by decide +kernel
theorem dX11_side_5 : decode cX11_side 5 = .ok (.aload_n 0, 1) := by decide +kernel
theorem dX11_side_6 : decode cX11_side 6 = .ok (.iload_n 1, 1) := by decide +kernel
theorem dX11_side_7 : decode cX11_side 7 = .ok (.invokevirtual 271, 3) := by decide +kernel
theorem dX11_side_10 : decode cX11_side 10 = .ok (.ifCond .ne 9, 3) := by decide +kernel
theorem dX11_side_13 : decode cX11_side 13 = .ok (.aload_n 0, 1) := by decide +kernel
theorem dX11_side_14 : decode cX11_side 14 = .ok (.iconst 1, 1) := by decide +kernel
theorem dX11_side_15 : decode cX11_side 15 = .ok (.invokevirtual 210, 3) := by decide +kernel
theorem dX11_side_18 : decode cX11_side 18 = .ok (.ireturn, 1) := by decide +kernel
theorem dX11_side_19 : decode cX11_side 19 = .ok (.aload_n 0, 1) := by decide +kernel
theorem dX11_side_20 : decode cX11_side 20 = .ok (.getfield 46, 3) := by decide +kernel
theorem dX11_side_23 : decode cX11_side 23 = .ok (.iload_n 1, 1) := by decide +kernel
theorem dX11_side_24 : decode cX11_side 24 = .ok (.aaload, 1) := by decide +kernel
theorem dX11_side_25 : decode cX11_side 25 = .ok (.astore_n 2, 1) := by decide +kernel
theorem dX11_side_26 : decode cX11_side 26 = .ok (.aload_n 2, 1) := by decide +kernel
theorem dX11_side_27 : decode cX11_side 27 = .ok (.getfield 286, 3) := by decide +kernel
theorem dX11_side_30 : decode cX11_side 30 = .ok (.bipush (-2), 2) := by decide +kernel
theorem dX11_side_32 : decode cX11_side 32 = .ok (.if_icmp .eq 12, 3) := by decide +kernel
theorem dX11_side_35 : decode cX11_side 35 = .ok (.aload_n 2, 1) := by decide +kernel
theorem dX11_side_36 : decode cX11_side 36 = .ok (.getfield 280, 3) := by decide +kernel
theorem dX11_side_39 : decode cX11_side 39 = .ok (.bipush (-2), 2) := by decide +kernel
theorem dX11_side_41 : decode cX11_side 41 = .ok (.if_icmp .ne 9, 3) := by decide +kernel
theorem dX11_side_44 : decode cX11_side 44 = .ok (.aload_n 0, 1) := by decide +kernel
theorem dX11_side_45 : decode cX11_side 45 = .ok (.iconst 5, 1) := by decide +kernel
theorem dX11_side_46 : decode cX11_side 46 = .ok (.invokevirtual 210, 3) := by decide +kernel
theorem dX11_side_49 : decode cX11_side 49 = .ok (.ireturn, 1) := by decide +kernel
theorem dX11_side_50 : decode cX11_side 50 = .ok (.aload_n 0, 1) := by decide +kernel
theorem dX11_side_51 : decode cX11_side 51 = .ok (.iconst 1, 1) := by decide +kernel
theorem dX11_side_52 : decode cX11_side 52 = .ok (.putfield 324, 3) := by decide +kernel
theorem dX11_side_55 : decode cX11_side 55 = .ok (.iconst 0, 1) := by decide +kernel
theorem dX11_side_56 : decode cX11_side 56 = .ok (.istore_n 3, 1) := by decide +kernel
theorem dX11_side_57 : decode cX11_side 57 = .ok (.iload_n 3, 1) := by decide +kernel
theorem dX11_side_58 : decode cX11_side 58 = .ok (.iconst 5, 1) := by decide +kernel
theorem dX11_side_59 : decode cX11_side 59 = .ok (.if_icmp .ge 16, 3) := by decide +kernel
theorem dX11_side_62 : decode cX11_side 62 = .ok (.aload_n 0, 1) := by decide +kernel
theorem dX11_side_63 : decode cX11_side 63 = .ok (.getfield 65, 3) := by decide +kernel
theorem dX11_side_66 : decode cX11_side 66 = .ok (.iload_n 3, 1) := by decide +kernel
theorem dX11_side_67 : decode cX11_side 67 = .ok (.iconst 0, 1) := by decide +kernel
theorem dX11_side_68 : decode cX11_side 68 = .ok (.iastore, 1) := by decide +kernel
theorem dX11_side_69 : decode cX11_side 69 = .ok (.iinc 3 1, 3) := by decide +kernel
theorem dX11_side_72 : decode cX11_side 72 = .ok (.goto (-15), 3) := by decide +kernel
theorem dX11_side_75 : decode cX11_side 75 = .ok (.iconst 0, 1) := by decide +kernel
theorem dX11_side_76 : decode cX11_side 76 = .ok (.istore_n 3, 1) := by decide +kernel
theorem dX11_side_77 : decode cX11_side 77 = .ok (.iconst 0, 1) := by decide +kernel
theorem dX11_side_78 : decode cX11_side 78 = .ok (.istore 4, 2) := by decide +kernel
theorem dX11_side_80 : decode cX11_side 80 = .ok (.iload 4, 2) := by decide +kernel
theorem dX11_side_82 : decode cX11_side 82 = .ok (.aload_n 0, 1) := by decide +kernel
theorem dX11_side_83 : decode cX11_side 83 = .ok (.getfield 313, 3) := by decide +kernel
theorem dX11_side_86 : decode cX11_side 86 = .ok (.if_icmp .ge 212, 3) := by decide +kernel
theorem dX11_side_89 : decode cX11_side 89 = .ok (.aload_n 0, 1) := by decide +kernel
theorem dX11_side_90 : decode cX11_side 90 = .ok (.getfield 50, 3) := by decide +kernel
theorem dX11_side_93 : decode cX11_side 93 = .ok (.bipush 6, 2) := by decide +kernel
theorem dX11_side_95 : decode cX11_side 95 = .ok (.iload 4, 2) := by decide +kernel
theorem dX11_side_97 : decode cX11_side 97 = .ok (.imul, 1) := by decide +kernel
theorem dX11_side_98 : decode cX11_side 98 = .ok (.iaload, 1) := by decide +kernel
theorem dX11_side_99 : decode cX11_side 99 = .ok (.iload_n 1, 1) := by decide +kernel
theorem dX11_side_100 : decode cX11_side 100 = .ok (.if_icmp .ne 192, 3) := by decide +kernel
theorem dX11_side_103 : decode cX11_side 103 = .ok (.aload_n 0, 1) := by decide +kernel
theorem dX11_side_104 : decode cX11_side 104 = .ok (.getfield 50, 3) := by decide +kernel
theorem dX11_side_107 : decode cX11_side 107 = .ok (.bipush 6, 2) := by decide +kernel
theorem dX11_side_109 : decode cX11_side 109 = .ok (.iload 4, 2) := by decide +kernel
theorem dX11_side_111 : decode cX11_side 111 = .ok (.imul, 1) := by decide +kernel
theorem dX11_side_112 : decode cX11_side 112 = .ok (.iconst 4, 1) := by decide +kernel
theorem dX11_side_113 : decode cX11_side 113 = .ok (.iadd, 1) := by decide +kernel
theorem dX11_side_114 : decode cX11_side 114 = .ok (.iaload, 1) := by decide +kernel
theorem dX11_side_115 : decode cX11_side 115 = .ok (.aload_n 2, 1) := by decide +kernel
theorem dX11_side_116 : decode cX11_side 116 = .ok (.getfield 286, 3) := by decide +kernel
theorem dX11_side_119 : decode cX11_side 119 = .ok (.if_icmp .ne 173, 3) := by decide +kernel
theorem dX11_side_122 : decode cX11_side 122 = .ok (.aload_n 0, 1) := by decide +kernel
theorem dX11_side_123 : decode cX11_side 123 = .ok (.getfield 50, 3) := by decide +kernel
theorem dX11_side_126 : decode cX11_side 126 = .ok (.bipush 6, 2) := by decide +kernel
theorem dX11_side_128 : decode cX11_side 128 = .ok (.iload 4, 2) := by decide +kernel
theorem dX11_side_130 : decode cX11_side 130 = .ok (.imul, 1) := by decide +kernel
theorem dX11_side_131 : decode cX11_side 131 = .ok (.iconst 5, 1) := by decide +kernel
theorem dX11_side_132 : decode cX11_side 132 = .ok (.iadd, 1) := by decide +kernel
theorem dX11_side_133 : decode cX11_side 133 = .ok (.iaload, 1) := by decide +kernel
theorem dX11_side_134 : decode cX11_side 134 = .ok (.aload_n 2, 1) := by decide +kernel
theorem dX11_side_135 : decode cX11_side 135 = .ok (.getfield 280, 3) := by decide +kernel
theorem dX11_side_138 : decode cX11_side 138 = .ok (.if_icmp .eq 6, 3) := by decide +kernel
theorem dX11_side_141 : decode cX11_side 141 = .ok (.goto 151, 3) := by decide +kernel
theorem dX11_side_144 : decode cX11_side 144 = .ok (.iinc 3 1, 3) := by decide +kernel
theorem dX11_side_147 : decode cX11_side 147 = .ok (.aload_n 0, 1) := by decide +kernel
theorem dX11_side_148 : decode cX11_side 148 = .ok (.getfield 65, 3) := by decide +kernel
theorem dX11_side_151 : decode cX11_side 151 = .ok (.iconst 0, 1) := by decide +kernel
theorem dX11_side_152 : decode cX11_side 152 = .ok (.dup2, 1) := by decide +kernel
theorem dX11_side_153 : decode cX11_side 153 = .ok (.iaload, 1) := by decide +kernel
theorem dX11_side_154 : decode cX11_side 154 = .ok (.aload_n 0, 1) := by decide +kernel
theorem dX11_side_155 : decode cX11_side 155 = .ok (.getfield 56, 3) := by decide +kernel
theorem dX11_side_158 : decode cX11_side 158 = .ok (.iload 4, 2) := by decide +kernel
theorem dX11_side_160 : decode cX11_side 160 = .ok (.iaload, 1) := by decide +kernel
theorem dX11_side_161 : decode cX11_side 161 = .ok (.aload_n 0, 1) := by decide +kernel
theorem dX11_side_162 : decode cX11_side 162 = .ok (.getfield 59, 3) := by decide +kernel
theorem dX11_side_165 : decode cX11_side 165 = .ok (.iload 4, 2) := by decide +kernel
theorem dX11_side_167 : decode cX11_side 167 = .ok (.iaload, 1) := by decide +kernel
theorem dX11_side_168 : decode cX11_side 168 = .ok (.if_icmp .ne 7, 3) := by decide +kernel
theorem dX11_side_171 : decode cX11_side 171 = .ok (.iconst 1, 1) := by decide +kernel
theorem dX11_side_172 : decode cX11_side 172 = .ok (.goto 4, 3) := by decide +kernel
theorem dX11_side_175 : decode cX11_side 175 = .ok (.iconst 0, 1) := by decide +kernel
theorem dX11_side_176 : decode cX11_side 176 = .ok (.iadd, 1) := by decide +kernel
theorem dX11_side_177 : decode cX11_side 177 = .ok (.iastore, 1) := by decide +kernel
theorem dX11_side_178 : decode cX11_side 178 = .ok (.aload_n 0, 1) := by decide +kernel
theorem dX11_side_179 : decode cX11_side 179 = .ok (.getfield 62, 3) := by decide +kernel
theorem dX11_side_182 : decode cX11_side 182 = .ok (.iload 4, 2) := by decide +kernel
theorem dX11_side_184 : decode cX11_side 184 = .ok (.iaload, 1) := by decide +kernel
theorem dX11_side_185 : decode cX11_side 185 = .ok (.ldc_w 266, 3) := by decide +kernel
theorem dX11_side_188 : decode cX11_side 188 = .ok (.if_icmp .ne 6, 3) := by decide +kernel
theorem dX11_side_191 : decode cX11_side 191 = .ok (.goto 101, 3) := by decide +kernel
theorem dX11_side_194 : decode cX11_side 194 = .ok (.aload_n 0, 1) := by decide +kernel
theorem dX11_side_195 : decode cX11_side 195 = .ok (.getfield 65, 3) := by decide +kernel
theorem dX11_side_198 : decode cX11_side 198 = .ok (.iconst 3, 1) := by decide +kernel
theorem dX11_side_199 : decode cX11_side 199 = .ok (.dup2, 1) := by decide +kernel
theorem dX11_side_200 : decode cX11_side 200 = .ok (.iaload, 1) := by decide +kernel
theorem dX11_side_201 : decode cX11_side 201 = .ok (.iconst 1, 1) := by decide +kernel
theorem dX11_side_202 : decode cX11_side 202 = .ok (.iadd, 1) := by decide +kernel
theorem dX11_side_203 : decode cX11_side 203 = .ok (.iastore, 1) := by decide +kernel
theorem dX11_side_204 : decode cX11_side 204 = .ok (.aload_n 0, 1) := by decide +kernel
theorem dX11_side_205 : decode cX11_side 205 = .ok (.getfield 56, 3) := by decide +kernel
theorem dX11_side_208 : decode cX11_side 208 = .ok (.iload 4, 2) := by decide +kernel
theorem dX11_side_210 : decode cX11_side 210 = .ok (.iaload, 1) := by decide +kernel
theorem dX11_side_211 : decode cX11_side 211 = .ok (.i2l, 1) := by decide +kernel
theorem dX11_side_212 : decode cX11_side 212 = .ok (.aload_n 0, 1) := by decide +kernel
theorem dX11_side_213 : decode cX11_side 213 = .ok (.getfield 62, 3) := by decide +kernel
theorem dX11_side_216 : decode cX11_side 216 = .ok (.iload 4, 2) := by decide +kernel
theorem dX11_side_218 : decode cX11_side 218 = .ok (.iaload, 1) := by decide +kernel
theorem dX11_side_219 : decode cX11_side 219 = .ok (.i2l, 1) := by decide +kernel
theorem dX11_side_220 : decode cX11_side 220 = .ok (.lsub, 1) := by decide +kernel
theorem dX11_side_221 : decode cX11_side 221 = .ok (.invokestatic 328, 3) := by decide +kernel
theorem dX11_side_224 : decode cX11_side 224 = .ok (.lstore 5, 2) := by decide +kernel
theorem dX11_side_226 : decode cX11_side 226 = .ok (.aload_n 0, 1) := by decide +kernel
theorem dX11_side_227 : decode cX11_side 227 = .ok (.getfield 59, 3) := by decide +kernel
theorem dX11_side_230 : decode cX11_side 230 = .ok (.iload 4, 2) := by decide +kernel
theorem dX11_side_232 : decode cX11_side 232 = .ok (.iaload, 1) := by decide +kernel
theorem dX11_side_233 : decode cX11_side 233 = .ok (.i2l, 1) := by decide +kernel
theorem dX11_side_234 : decode cX11_side 234 = .ok (.aload_n 0, 1) := by decide +kernel
theorem dX11_side_235 : decode cX11_side 235 = .ok (.getfield 62, 3) := by decide +kernel
theorem dX11_side_238 : decode cX11_side 238 = .ok (.iload 4, 2) := by decide +kernel
theorem dX11_side_240 : decode cX11_side 240 = .ok (.iaload, 1) := by decide +kernel
theorem dX11_side_241 : decode cX11_side 241 = .ok (.i2l, 1) := by decide +kernel
theorem dX11_side_242 : decode cX11_side 242 = .ok (.lsub, 1) := by decide +kernel
theorem dX11_side_243 : decode cX11_side 243 = .ok (.invokestatic 328, 3) := by decide +kernel
theorem dX11_side_246 : decode cX11_side 246 = .ok (.lstore 7, 2) := by decide +kernel
theorem dX11_side_248 : decode cX11_side 248 = .ok (.aload_n 0, 1) := by decide +kernel
theorem dX11_side_249 : decode cX11_side 249 = .ok (.getfield 65, 3) := by decide +kernel
theorem dX11_side_252 : decode cX11_side 252 = .ok (.iconst 1, 1) := by decide +kernel
theorem dX11_side_253 : decode cX11_side 253 = .ok (.dup2, 1) := by decide +kernel
theorem dX11_side_254 : decode cX11_side 254 = .ok (.iaload, 1) := by decide +kernel
theorem dX11_side_255 : decode cX11_side 255 = .ok (.lload 7, 2) := by decide +kernel
theorem dX11_side_257 : decode cX11_side 257 = .ok (.lload 5, 2) := by decide +kernel
theorem dX11_side_259 : decode cX11_side 259 = .ok (.lcmp, 1) := by decide +kernel
theorem dX11_side_260 : decode cX11_side 260 = .ok (.ifCond .ge 7, 3) := by decide +kernel
theorem dX11_side_263 : decode cX11_side 263 = .ok (.iconst 1, 1) := by decide +kernel
theorem dX11_side_264 : decode cX11_side 264 = .ok (.goto 4, 3) := by decide +kernel
theorem dX11_side_267 : decode cX11_side 267 = .ok (.iconst 0, 1) := by decide +kernel
theorem dX11_side_268 : decode cX11_side 268 = .ok (.iadd, 1) := by decide +kernel
theorem dX11_side_269 : decode cX11_side 269 = .ok (.iastore, 1) := by decide +kernel
theorem dX11_side_270 : decode cX11_side 270 = .ok (.aload_n 0, 1) := by decide +kernel
theorem dX11_side_271 : decode cX11_side 271 = .ok (.getfield 65, 3) := by decide +kernel
theorem dX11_side_274 : decode cX11_side 274 = .ok (.iconst 2, 1) := by decide +kernel
theorem dX11_side_275 : decode cX11_side 275 = .ok (.dup2, 1) := by decide +kernel
theorem dX11_side_276 : decode cX11_side 276 = .ok (.iaload, 1) := by decide +kernel
theorem dX11_side_277 : decode cX11_side 277 = .ok (.lload 5, 2) := by decide +kernel
theorem dX11_side_279 : decode cX11_side 279 = .ok (.lload 7, 2) := by decide +kernel
theorem dX11_side_281 : decode cX11_side 281 = .ok (.lcmp, 1) := by decide +kernel
theorem dX11_side_282 : decode cX11_side 282 = .ok (.ifCond .ge 7, 3) := by decide +kernel
theorem dX11_side_285 : decode cX11_side 285 = .ok (.iconst 1, 1) := by decide +kernel
theorem dX11_side_286 : decode cX11_side 286 = .ok (.goto 4, 3) := by decide +kernel
theorem dX11_side_289 : decode cX11_side 289 = .ok (.iconst 0, 1) := by decide +kernel
theorem dX11_side_290 : decode cX11_side 290 = .ok (.iadd, 1) := by decide +kernel
theorem dX11_side_291 : decode cX11_side 291 = .ok (.iastore, 1) := by decide +kernel
theorem dX11_side_292 : decode cX11_side 292 = .ok (.iinc 4 1, 3) := by decide +kernel
theorem dX11_side_295 : decode cX11_side 295 = .ok (.goto (-215), 3) := by decide +kernel
theorem dX11_side_298 : decode cX11_side 298 = .ok (.aload_n 0, 1) := by decide +kernel
theorem dX11_side_299 : decode cX11_side 299 = .ok (.getfield 65, 3) := by decide +kernel
theorem dX11_side_302 : decode cX11_side 302 = .ok (.iconst 1, 1) := by decide +kernel
theorem dX11_side_303 : decode cX11_side 303 = .ok (.iaload, 1) := by decide +kernel
theorem dX11_side_304 : decode cX11_side 304 = .ok (.aload_n 0, 1) := by decide +kernel
theorem dX11_side_305 : decode cX11_side 305 = .ok (.getfield 65, 3) := by decide +kernel
theorem dX11_side_308 : decode cX11_side 308 = .ok (.iconst 2, 1) := by decide +kernel
theorem dX11_side_309 : decode cX11_side 309 = .ok (.iaload, 1) := by decide +kernel
theorem dX11_side_310 : decode cX11_side 310 = .ok (.isub, 1) := by decide +kernel
theorem dX11_side_311 : decode cX11_side 311 = .ok (.istore 4, 2) := by decide +kernel
theorem dX11_side_313 : decode cX11_side 313 = .ok (.aload_n 0, 1) := by decide +kernel
theorem dX11_side_314 : decode cX11_side 314 = .ok (.getfield 65, 3) := by decide +kernel
theorem dX11_side_317 : decode cX11_side 317 = .ok (.iconst 4, 1) := by decide +kernel
theorem dX11_side_318 : decode cX11_side 318 = .ok (.iload 4, 2) := by decide +kernel
theorem dX11_side_320 : decode cX11_side 320 = .ok (.ifCond .le 30, 3) := by decide +kernel
theorem dX11_side_323 : decode cX11_side 323 = .ok (.iload 4, 2) := by decide +kernel
theorem dX11_side_325 : decode cX11_side 325 = .ok (.iload 4, 2) := by decide +kernel
theorem dX11_side_327 : decode cX11_side 327 = .ok (.imul, 1) := by decide +kernel
theorem dX11_side_328 : decode cX11_side 328 = .ok (.iconst 4, 1) := by decide +kernel
