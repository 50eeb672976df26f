/-! facts of the tables, one by one (printed by gen3.py) -/
theorem g134_0 : m_get 134 0 = some (.aload_n 0, 1) := by decide +kernel
theorem g134_1 : m_get 134 1 = some (.invokevirtual 140, 3) := by decide +kernel
theorem g134_4 : m_get 134 4 = some (.iconst 0, 1) := by decide +kernel
theorem g134_5 : m_get 134 5 = some (.istore_n 1, 1) := by decide +kernel
theorem g134_6 : m_get 134 6 = some (.iload_n 1, 1) := by decide +kernel
theorem g134_7 : m_get 134 7 = some (.aload_n 0, 1) := by decide +kernel
theorem g134_8 : m_get 134 8 = some (.invokevirtual 116, 3) := by decide +kernel
theorem g134_11 : m_get 134 11 = some (.if_icmp .ge 78, 3) := by decide +kernel
theorem g134_14 : m_get 134 14 = some (.aload_n 0, 1) := by decide +kernel
theorem g134_15 : m_get 134 15 = some (.getfield 44, 3) := by decide +kernel
theorem g134_18 : m_get 134 18 = some (.iload_n 1, 1) := by decide +kernel
theorem g134_19 : m_get 134 19 = some (.iconst 0, 1) := by decide +kernel
theorem g134_20 : m_get 134 20 = some (.iastore, 1) := by decide +kernel
theorem g134_21 : m_get 134 21 = some (.iconst 0, 1) := by decide +kernel
theorem g134_22 : m_get 134 22 = some (.istore_n 2, 1) := by decide +kernel
theorem g134_23 : m_get 134 23 = some (.iload_n 2, 1) := by decide +kernel
theorem g134_24 : m_get 134 24 = some (.iconst 4, 1) := by decide +kernel
theorem g134_25 : m_get 134 25 = some (.aload_n 0, 1) := by decide +kernel
theorem g134_26 : m_get 134 26 = some (.getfield 75, 3) := by decide +kernel
theorem g134_29 : m_get 134 29 = some (.imul, 1) := by decide +kernel
theorem g134_30 : m_get 134 30 = some (.if_icmp .ge 53, 3) := by decide +kernel
theorem g134_33 : m_get 134 33 = some (.aload_n 0, 1) := by decide +kernel
theorem g134_34 : m_get 134 34 = some (.getfield 16, 3) := by decide +kernel
theorem g134_37 : m_get 134 37 = some (.iload_n 1, 1) := by decide +kernel
theorem g134_38 : m_get 134 38 = some (.iaload, 1) := by decide +kernel
theorem g134_39 : m_get 134 39 = some (.bipush (-9), 2) := by decide +kernel
theorem g134_41 : m_get 134 41 = some (.if_icmp .ne 42, 3) := by decide +kernel
theorem g134_44 : m_get 134 44 = some (.aload_n 0, 1) := by decide +kernel
theorem g134_45 : m_get 134 45 = some (.getfield 44, 3) := by decide +kernel
theorem g134_48 : m_get 134 48 = some (.iload_n 1, 1) := by decide +kernel
theorem g134_49 : m_get 134 49 = some (.dup2, 1) := by decide +kernel
theorem g134_50 : m_get 134 50 = some (.iaload, 1) := by decide +kernel
theorem g134_51 : m_get 134 51 = some (.aload_n 0, 1) := by decide +kernel
theorem g134_52 : m_get 134 52 = some (.iload_n 2, 1) := by decide +kernel
theorem g134_53 : m_get 134 53 = some (.invokevirtual 146, 3) := by decide +kernel
theorem g134_56 : m_get 134 56 = some (.ifCond .eq 18, 3) := by decide +kernel
theorem g134_59 : m_get 134 59 = some (.aload_n 0, 1) := by decide +kernel
theorem g134_60 : m_get 134 60 = some (.iload_n 1, 1) := by decide +kernel
theorem g134_61 : m_get 134 61 = some (.iload_n 2, 1) := by decide +kernel
theorem g134_62 : m_get 134 62 = some (.invokevirtual 152, 3) := by decide +kernel
theorem g134_65 : m_get 134 65 = some (.ifCond .ne 9, 3) := by decide +kernel
theorem g134_68 : m_get 134 68 = some (.iconst 1, 1) := by decide +kernel
theorem g134_69 : m_get 134 69 = some (.iload_n 2, 1) := by decide +kernel
theorem g134_70 : m_get 134 70 = some (.ishl, 1) := by decide +kernel
theorem g134_71 : m_get 134 71 = some (.goto 4, 3) := by decide +kernel
theorem g134_74 : m_get 134 74 = some (.iconst 0, 1) := by decide +kernel
theorem g134_75 : m_get 134 75 = some (.ior, 1) := by decide +kernel
theorem g134_76 : m_get 134 76 = some (.iastore, 1) := by decide +kernel
theorem g134_77 : m_get 134 77 = some (.iinc 2 1, 3) := by decide +kernel
theorem g134_80 : m_get 134 80 = some (.goto (-57), 3) := by decide +kernel
theorem g134_83 : m_get 134 83 = some (.iinc 1 1, 3) := by decide +kernel
theorem g134_86 : m_get 134 86 = some (.goto (-80), 3) := by decide +kernel
theorem g134_89 : m_get 134 89 = some (.iconst 1, 1) := by decide +kernel
theorem g134_90 : m_get 134 90 = some (.istore_n 1, 1) := by decide +kernel
theorem g134_91 : m_get 134 91 = some (.iload_n 1, 1) := by decide +kernel
theorem g134_92 : m_get 134 92 = some (.ifCond .eq 79, 3) := by decide +kernel
theorem g134_95 : m_get 134 95 = some (.iconst 0, 1) := by decide +kernel
theorem g134_96 : m_get 134 96 = some (.istore_n 1, 1) := by decide +kernel
theorem g134_97 : m_get 134 97 = some (.iconst 0, 1) := by decide +kernel
theorem g134_98 : m_get 134 98 = some (.istore_n 2, 1) := by decide +kernel
theorem g134_99 : m_get 134 99 = some (.iload_n 2, 1) := by decide +kernel
theorem g134_100 : m_get 134 100 = some (.aload_n 0, 1) := by decide +kernel
theorem g134_101 : m_get 134 101 = some (.invokevirtual 116, 3) := by decide +kernel
theorem g134_104 : m_get 134 104 = some (.if_icmp .ge 64, 3) := by decide +kernel
theorem g134_107 : m_get 134 107 = some (.iconst 0, 1) := by decide +kernel
theorem g134_108 : m_get 134 108 = some (.istore_n 3, 1) := by decide +kernel
theorem g134_109 : m_get 134 109 = some (.iload_n 3, 1) := by decide +kernel
theorem g134_110 : m_get 134 110 = some (.iconst 4, 1) := by decide +kernel
theorem g134_111 : m_get 134 111 = some (.aload_n 0, 1) := by decide +kernel
theorem g134_112 : m_get 134 112 = some (.getfield 75, 3) := by decide +kernel
theorem g134_115 : m_get 134 115 = some (.imul, 1) := by decide +kernel
theorem g134_116 : m_get 134 116 = some (.if_icmp .ge 46, 3) := by decide +kernel
theorem g134_119 : m_get 134 119 = some (.aload_n 0, 1) := by decide +kernel
theorem g134_120 : m_get 134 120 = some (.getfield 44, 3) := by decide +kernel
theorem g134_123 : m_get 134 123 = some (.iload_n 2, 1) := by decide +kernel
theorem g134_124 : m_get 134 124 = some (.iaload, 1) := by decide +kernel
theorem g134_125 : m_get 134 125 = some (.iload_n 3, 1) := by decide +kernel
theorem g134_126 : m_get 134 126 = some (.ishr, 1) := by decide +kernel
theorem g134_127 : m_get 134 127 = some (.iconst 1, 1) := by decide +kernel
theorem g134_128 : m_get 134 128 = some (.iand, 1) := by decide +kernel
theorem g134_129 : m_get 134 129 = some (.iconst 1, 1) := by decide +kernel
theorem g134_130 : m_get 134 130 = some (.if_icmp .ne 26, 3) := by decide +kernel
theorem g134_133 : m_get 134 133 = some (.aload_n 0, 1) := by decide +kernel
theorem g134_134 : m_get 134 134 = some (.iload_n 2, 1) := by decide +kernel
theorem g134_135 : m_get 134 135 = some (.iload_n 3, 1) := by decide +kernel
theorem g134_136 : m_get 134 136 = some (.invokevirtual 164, 3) := by decide +kernel
theorem g134_139 : m_get 134 139 = some (.ifCond .ne 17, 3) := by decide +kernel
theorem g134_142 : m_get 134 142 = some (.aload_n 0, 1) := by decide +kernel
theorem g134_143 : m_get 134 143 = some (.getfield 44, 3) := by decide +kernel
theorem g134_146 : m_get 134 146 = some (.iload_n 2, 1) := by decide +kernel
theorem g134_147 : m_get 134 147 = some (.dup2, 1) := by decide +kernel
theorem g134_148 : m_get 134 148 = some (.iaload, 1) := by decide +kernel
theorem g134_149 : m_get 134 149 = some (.iconst 1, 1) := by decide +kernel
theorem g134_150 : m_get 134 150 = some (.iload_n 3, 1) := by decide +kernel
theorem g134_151 : m_get 134 151 = some (.ishl, 1) := by decide +kernel
theorem g134_152 : m_get 134 152 = some (.ixor, 1) := by decide +kernel
theorem g134_153 : m_get 134 153 = some (.iastore, 1) := by decide +kernel
theorem g134_154 : m_get 134 154 = some (.iconst 1, 1) := by decide +kernel
theorem g134_155 : m_get 134 155 = some (.istore_n 1, 1) := by decide +kernel
theorem g134_156 : m_get 134 156 = some (.iinc 3 1, 3) := by decide +kernel
theorem g134_159 : m_get 134 159 = some (.goto (-50), 3) := by decide +kernel
theorem g134_162 : m_get 134 162 = some (.iinc 2 1, 3) := by decide +kernel
theorem g134_165 : m_get 134 165 = some (.goto (-66), 3) := by decide +kernel
theorem g134_168 : m_get 134 168 = some (.goto (-77), 3) := by decide +kernel
theorem g134_171 : m_get 134 171 = some (.return_, 1) := by decide +kernel
theorem f134_16 : m_fl (m_own 134) 16 = some (7, 3) := by decide +kernel
theorem f134_44 : m_fl (m_own 134) 44 = some (7, 18) := by decide +kernel
theorem f134_75 : m_fl (m_own 134) 75 = some (7, 0) := by decide +kernel
theorem k134_116 : m_ml (m_own 134) 116 = some (0, 111) := by decide +kernel
theorem k134_140 : m_ml (m_own 134) 140 = some (0, 116) := by decide +kernel
theorem k134_146 : m_ml (m_own 134) 146 = some (0, 114) := by decide +kernel
theorem k134_152 : m_ml (m_own 134) 152 = some (0, 120) := by decide +kernel
theorem k134_164 : m_ml (m_own 134) 164 = some (0, 133) := by decide +kernel
theorem g135_0 : m_get 135 0 = some (.iconst 0, 1) := by decide +kernel
theorem g135_1 : m_get 135 1 = some (.istore_n 1, 1) := by decide +kernel
theorem g135_2 : m_get 135 2 = some (.iconst 0, 1) := by decide +kernel
theorem g135_3 : m_get 135 3 = some (.istore_n 2, 1) := by decide +kernel
theorem g135_4 : m_get 135 4 = some (.iload_n 2, 1) := by decide +kernel
theorem g135_5 : m_get 135 5 = some (.bipush 24, 2) := by decide +kernel
theorem g135_7 : m_get 135 7 = some (.if_icmp .ge 17, 3) := by decide +kernel
theorem g135_10 : m_get 135 10 = some (.iload_n 1, 1) := by decide +kernel
theorem g135_11 : m_get 135 11 = some (.iload_n 0, 1) := by decide +kernel
theorem g135_12 : m_get 135 12 = some (.iload_n 2, 1) := by decide +kernel
theorem g135_13 : m_get 135 13 = some (.ishr, 1) := by decide +kernel
theorem g135_14 : m_get 135 14 = some (.iconst 1, 1) := by decide +kernel
theorem g135_15 : m_get 135 15 = some (.iand, 1) := by decide +kernel
theorem g135_16 : m_get 135 16 = some (.iadd, 1) := by decide +kernel
theorem g135_17 : m_get 135 17 = some (.istore_n 1, 1) := by decide +kernel
theorem g135_18 : m_get 135 18 = some (.iinc 2 1, 3) := by decide +kernel
theorem g135_21 : m_get 135 21 = some (.goto (-17), 3) := by decide +kernel
theorem g135_24 : m_get 135 24 = some (.iload_n 1, 1) := by decide +kernel
theorem g135_25 : m_get 135 25 = some (.ireturn, 1) := by decide +kernel
theorem g136_0 : m_get 136 0 = some (.aload_n 0, 1) := by decide +kernel
theorem g136_1 : m_get 136 1 = some (.iload_n 1, 1) := by decide +kernel
theorem g136_2 : m_get 136 2 = some (.invokevirtual 149, 3) := by decide +kernel
theorem g136_5 : m_get 136 5 = some (.ifCond .eq 8, 3) := by decide +kernel
theorem g136_8 : m_get 136 8 = some (.iload_n 2, 1) := by decide +kernel
theorem g136_9 : m_get 136 9 = some (.iconst (-1), 1) := by decide +kernel
theorem g136_10 : m_get 136 10 = some (.if_icmp .ge 5, 3) := by decide +kernel
theorem g136_13 : m_get 136 13 = some (.iconst (-1), 1) := by decide +kernel
theorem g136_14 : m_get 136 14 = some (.ireturn, 1) := by decide +kernel
theorem g136_15 : m_get 136 15 = some (.aload_n 0, 1) := by decide +kernel
theorem g136_16 : m_get 136 16 = some (.getfield 16, 3) := by decide +kernel
theorem g136_19 : m_get 136 19 = some (.iload_n 1, 1) := by decide +kernel
theorem g136_20 : m_get 136 20 = some (.iaload, 1) := by decide +kernel
theorem g136_21 : m_get 136 21 = some (.bipush (-9), 2) := by decide +kernel
theorem g136_23 : m_get 136 23 = some (.if_icmp .eq 6, 3) := by decide +kernel
theorem g136_26 : m_get 136 26 = some (.bipush (-2), 2) := by decide +kernel
theorem g136_28 : m_get 136 28 = some (.ireturn, 1) := by decide +kernel
theorem g136_29 : m_get 136 29 = some (.aload_n 0, 1) := by decide +kernel
theorem g136_30 : m_get 136 30 = some (.invokevirtual 167, 3) := by decide +kernel
theorem g136_33 : m_get 136 33 = some (.iload_n 2, 1) := by decide +kernel
theorem g136_34 : m_get 136 34 = some (.iconst (-1), 1) := by decide +kernel
theorem g136_35 : m_get 136 35 = some (.if_icmp .ne 13, 3) := by decide +kernel
theorem g136_38 : m_get 136 38 = some (.aload_n 0, 1) := by decide +kernel
theorem g136_39 : m_get 136 39 = some (.getfield 44, 3) := by decide +kernel
theorem g136_42 : m_get 136 42 = some (.iload_n 1, 1) := by decide +kernel
theorem g136_43 : m_get 136 43 = some (.iaload, 1) := by decide +kernel
theorem g136_44 : m_get 136 44 = some (.invokestatic 170, 3) := by decide +kernel
theorem g136_47 : m_get 136 47 = some (.ireturn, 1) := by decide +kernel
theorem g136_48 : m_get 136 48 = some (.iload_n 2, 1) := by decide +kernel
theorem g136_49 : m_get 136 49 = some (.istore_n 3, 1) := by decide +kernel
theorem g136_50 : m_get 136 50 = some (.iconst 0, 1) := by decide +kernel
theorem g136_51 : m_get 136 51 = some (.istore 4, 2) := by decide +kernel
theorem g136_53 : m_get 136 53 = some (.iload 4, 2) := by decide +kernel
theorem g136_55 : m_get 136 55 = some (.iconst 4, 1) := by decide +kernel
theorem g136_56 : m_get 136 56 = some (.aload_n 0, 1) := by decide +kernel
theorem g136_57 : m_get 136 57 = some (.getfield 75, 3) := by decide +kernel
theorem g136_60 : m_get 136 60 = some (.imul, 1) := by decide +kernel
theorem g136_61 : m_get 136 61 = some (.if_icmp .ge 34, 3) := by decide +kernel
theorem g136_64 : m_get 136 64 = some (.aload_n 0, 1) := by decide +kernel
theorem g136_65 : m_get 136 65 = some (.getfield 44, 3) := by decide +kernel
theorem g136_68 : m_get 136 68 = some (.iload_n 1, 1) := by decide +kernel
theorem g136_69 : m_get 136 69 = some (.iaload, 1) := by decide +kernel
theorem g136_70 : m_get 136 70 = some (.iload 4, 2) := by decide +kernel
theorem g136_72 : m_get 136 72 = some (.ishr, 1) := by decide +kernel
theorem g136_73 : m_get 136 73 = some (.iconst 1, 1) := by decide +kernel
theorem g136_74 : m_get 136 74 = some (.iand, 1) := by decide +kernel
theorem g136_75 : m_get 136 75 = some (.iconst 1, 1) := by decide +kernel
theorem g136_76 : m_get 136 76 = some (.if_icmp .ne 13, 3) := by decide +kernel
theorem g136_79 : m_get 136 79 = some (.iload_n 3, 1) := by decide +kernel
theorem g136_80 : m_get 136 80 = some (.ifCond .ne 6, 3) := by decide +kernel
theorem g136_83 : m_get 136 83 = some (.iload 4, 2) := by decide +kernel
theorem g136_85 : m_get 136 85 = some (.ireturn, 1) := by decide +kernel
theorem g136_86 : m_get 136 86 = some (.iinc 3 (-1), 3) := by decide +kernel
theorem g136_89 : m_get 136 89 = some (.iinc 4 1, 3) := by decide +kernel
theorem g136_92 : m_get 136 92 = some (.goto (-39), 3) := by decide +kernel
theorem g136_95 : m_get 136 95 = some (.bipush (-9), 2) := by decide +kernel
theorem g136_97 : m_get 136 97 = some (.ireturn, 1) := by decide +kernel
theorem f136_16 : m_fl (m_own 136) 16 = some (7, 3) := by decide +kernel
theorem f136_44 : m_fl (m_own 136) 44 = some (7, 18) := by decide +kernel
theorem f136_75 : m_fl (m_own 136) 75 = some (7, 0) := by decide +kernel
theorem k136_149 : m_ml (m_own 136) 149 = some (0, 112) := by decide +kernel
theorem k136_167 : m_ml (m_own 136) 167 = some (0, 134) := by decide +kernel
theorem k136_170 : m_ml (m_own 136) 170 = some (1, 135) := by decide +kernel
theorem g137_0 : m_get 137 0 = some (.iload_n 1, 1) := by decide +kernel
theorem g137_1 : m_get 137 1 = some (.istore_n 2, 1) := by decide +kernel
theorem g137_2 : m_get 137 2 = some (.iconst 0, 1) := by decide +kernel
theorem g137_3 : m_get 137 3 = some (.istore_n 3, 1) := by decide +kernel
theorem g137_4 : m_get 137 4 = some (.iload_n 3, 1) := by decide +kernel
theorem g137_5 : m_get 137 5 = some (.aload_n 0, 1) := by decide +kernel
theorem g137_6 : m_get 137 6 = some (.getfield 75, 3) := by decide +kernel
theorem g137_9 : m_get 137 9 = some (.if_icmp .ge 81, 3) := by decide +kernel
theorem g137_12 : m_get 137 12 = some (.iconst 1, 1) := by decide +kernel
theorem g137_13 : m_get 137 13 = some (.istore 4, 2) := by decide +kernel
theorem g137_15 : m_get 137 15 = some (.iconst 0, 1) := by decide +kernel
theorem g137_16 : m_get 137 16 = some (.istore 5, 2) := by decide +kernel
theorem g137_18 : m_get 137 18 = some (.iload 5, 2) := by decide +kernel
theorem g137_20 : m_get 137 20 = some (.iload_n 3, 1) := by decide +kernel
theorem g137_21 : m_get 137 21 = some (.if_icmp .ge 35, 3) := by decide +kernel
theorem g137_24 : m_get 137 24 = some (.iload 4, 2) := by decide +kernel
theorem g137_26 : m_get 137 26 = some (.ifCond .eq 21, 3) := by decide +kernel
theorem g137_29 : m_get 137 29 = some (.aload_n 0, 1) := by decide +kernel
theorem g137_30 : m_get 137 30 = some (.iload 5, 2) := by decide +kernel
theorem g137_32 : m_get 137 32 = some (.invokevirtual 123, 3) := by decide +kernel
theorem g137_35 : m_get 137 35 = some (.aload_n 0, 1) := by decide +kernel
theorem g137_36 : m_get 137 36 = some (.iload_n 3, 1) := by decide +kernel
theorem g137_37 : m_get 137 37 = some (.invokevirtual 123, 3) := by decide +kernel
theorem g137_40 : m_get 137 40 = some (.if_icmp .eq 7, 3) := by decide +kernel
theorem g137_43 : m_get 137 43 = some (.iconst 1, 1) := by decide +kernel
theorem g137_44 : m_get 137 44 = some (.goto 4, 3) := by decide +kernel
theorem g137_47 : m_get 137 47 = some (.iconst 0, 1) := by decide +kernel
theorem g137_48 : m_get 137 48 = some (.istore 4, 2) := by decide +kernel
theorem g137_50 : m_get 137 50 = some (.iinc 5 1, 3) := by decide +kernel
theorem g137_53 : m_get 137 53 = some (.goto (-35), 3) := by decide +kernel
theorem g137_56 : m_get 137 56 = some (.iload 4, 2) := by decide +kernel
theorem g137_58 : m_get 137 58 = some (.ifCond .eq 13, 3) := by decide +kernel
theorem g137_61 : m_get 137 61 = some (.iload_n 2, 1) := by decide +kernel
theorem g137_62 : m_get 137 62 = some (.ifCond .ne 9, 3) := by decide +kernel
theorem g137_65 : m_get 137 65 = some (.aload_n 0, 1) := by decide +kernel
theorem g137_66 : m_get 137 66 = some (.iload_n 3, 1) := by decide +kernel
theorem g137_67 : m_get 137 67 = some (.invokevirtual 123, 3) := by decide +kernel
theorem g137_70 : m_get 137 70 = some (.ireturn, 1) := by decide +kernel
theorem g137_71 : m_get 137 71 = some (.iload_n 2, 1) := by decide +kernel
theorem g137_72 : m_get 137 72 = some (.iload 4, 2) := by decide +kernel
theorem g137_74 : m_get 137 74 = some (.ifCond .eq 7, 3) := by decide +kernel
theorem g137_77 : m_get 137 77 = some (.iconst 1, 1) := by decide +kernel
theorem g137_78 : m_get 137 78 = some (.goto 4, 3) := by decide +kernel
theorem g137_81 : m_get 137 81 = some (.iconst 0, 1) := by decide +kernel
theorem g137_82 : m_get 137 82 = some (.isub, 1) := by decide +kernel
theorem g137_83 : m_get 137 83 = some (.istore_n 2, 1) := by decide +kernel
theorem g137_84 : m_get 137 84 = some (.iinc 3 1, 3) := by decide +kernel
theorem g137_87 : m_get 137 87 = some (.goto (-83), 3) := by decide +kernel
theorem g137_90 : m_get 137 90 = some (.bipush (-9), 2) := by decide +kernel
theorem g137_92 : m_get 137 92 = some (.ireturn, 1) := by decide +kernel
theorem f137_75 : m_fl (m_own 137) 75 = some (7, 0) := by decide +kernel
theorem k137_123 : m_ml (m_own 137) 123 = some (0, 115) := by decide +kernel
theorem g138_0 : m_get 138 0 = some (.iload_n 1, 1) := by decide +kernel
theorem g138_1 : m_get 138 1 = some (.ifCond .lt 12, 3) := by decide +kernel
theorem g138_4 : m_get 138 4 = some (.iload_n 2, 1) := by decide +kernel
theorem g138_5 : m_get 138 5 = some (.iconst 0, 1) := by decide +kernel
theorem g138_6 : m_get 138 6 = some (.iconst 2, 1) := by decide +kernel
theorem g138_7 : m_get 138 7 = some (.invokestatic 81, 3) := by decide +kernel
theorem g138_10 : m_get 138 10 = some (.ifCond .ne 5, 3) := by decide +kernel
theorem g138_13 : m_get 138 13 = some (.iconst (-1), 1) := by decide +kernel
theorem g138_14 : m_get 138 14 = some (.ireturn, 1) := by decide +kernel
theorem g138_15 : m_get 138 15 = some (.aload_n 0, 1) := by decide +kernel
theorem g138_16 : m_get 138 16 = some (.iload_n 1, 1) := by decide +kernel
theorem g138_17 : m_get 138 17 = some (.invokevirtual 173, 3) := by decide +kernel
theorem g138_20 : m_get 138 20 = some (.istore_n 3, 1) := by decide +kernel
theorem g138_21 : m_get 138 21 = some (.iload_n 3, 1) := by decide +kernel
theorem g138_22 : m_get 138 22 = some (.bipush (-9), 2) := by decide +kernel
theorem g138_24 : m_get 138 24 = some (.if_icmp .eq 7, 3) := by decide +kernel
theorem g138_27 : m_get 138 27 = some (.iload_n 2, 1) := by decide +kernel
theorem g138_28 : m_get 138 28 = some (.ifCond .ne 5, 3) := by decide +kernel
theorem g138_31 : m_get 138 31 = some (.iload_n 3, 1) := by decide +kernel
theorem g138_32 : m_get 138 32 = some (.ireturn, 1) := by decide +kernel
theorem g138_33 : m_get 138 33 = some (.aload_n 0, 1) := by decide +kernel
theorem g138_34 : m_get 138 34 = some (.invokevirtual 140, 3) := by decide +kernel
theorem g138_37 : m_get 138 37 = some (.iconst 0, 1) := by decide +kernel
theorem g138_38 : m_get 138 38 = some (.istore 4, 2) := by decide +kernel
theorem g138_40 : m_get 138 40 = some (.iconst 0, 1) := by decide +kernel
theorem g138_41 : m_get 138 41 = some (.istore 5, 2) := by decide +kernel
theorem g138_43 : m_get 138 43 = some (.iload 5, 2) := by decide +kernel
theorem g138_45 : m_get 138 45 = some (.aload_n 0, 1) := by decide +kernel
theorem g138_46 : m_get 138 46 = some (.getfield 75, 3) := by decide +kernel
theorem g138_49 : m_get 138 49 = some (.if_icmp .ge 29, 3) := by decide +kernel
theorem g138_52 : m_get 138 52 = some (.iload 4, 2) := by decide +kernel
theorem g138_54 : m_get 138 54 = some (.aload_n 0, 1) := by decide +kernel
theorem g138_55 : m_get 138 55 = some (.iload 5, 2) := by decide +kernel
theorem g138_57 : m_get 138 57 = some (.invokevirtual 123, 3) := by decide +kernel
theorem g138_60 : m_get 138 60 = some (.iload_n 3, 1) := by decide +kernel
theorem g138_61 : m_get 138 61 = some (.if_icmp .ne 7, 3) := by decide +kernel
theorem g138_64 : m_get 138 64 = some (.iconst 1, 1) := by decide +kernel
theorem g138_65 : m_get 138 65 = some (.goto 4, 3) := by decide +kernel
theorem g138_68 : m_get 138 68 = some (.iconst 0, 1) := by decide +kernel
theorem g138_69 : m_get 138 69 = some (.iadd, 1) := by decide +kernel
theorem g138_70 : m_get 138 70 = some (.istore 4, 2) := by decide +kernel
theorem g138_72 : m_get 138 72 = some (.iinc 5 1, 3) := by decide +kernel
theorem g138_75 : m_get 138 75 = some (.goto (-32), 3) := by decide +kernel
theorem g138_78 : m_get 138 78 = some (.iload_n 2, 1) := by decide +kernel
theorem g138_79 : m_get 138 79 = some (.iconst 1, 1) := by decide +kernel
theorem g138_80 : m_get 138 80 = some (.if_icmp .ne 8, 3) := by decide +kernel
theorem g138_83 : m_get 138 83 = some (.iload 4, 2) := by decide +kernel
theorem g138_85 : m_get 138 85 = some (.goto 8, 3) := by decide +kernel
theorem g138_88 : m_get 138 88 = some (.aload_n 0, 1) := by decide +kernel
theorem g138_89 : m_get 138 89 = some (.iload_n 3, 1) := by decide +kernel
theorem g138_90 : m_get 138 90 = some (.invokevirtual 133, 3) := by decide +kernel
theorem g138_93 : m_get 138 93 = some (.ireturn, 1) := by decide +kernel
theorem f138_75 : m_fl (m_own 138) 75 = some (7, 0) := by decide +kernel
theorem k138_81 : m_ml (m_own 138) 81 = some (1, 97) := by decide +kernel
theorem k138_123 : m_ml (m_own 138) 123 = some (0, 115) := by decide +kernel
theorem k138_133 : m_ml (m_own 138) 133 = some (0, 118) := by decide +kernel
theorem k138_140 : m_ml (m_own 138) 140 = some (0, 116) := by decide +kernel
theorem k138_173 : m_ml (m_own 138) 173 = some (0, 137) := by decide +kernel
theorem g139_0 : m_get 139 0 = some (.aload_n 0, 1) := by decide +kernel
theorem g139_1 : m_get 139 1 = some (.iconst 0, 1) := by decide +kernel
theorem g139_2 : m_get 139 2 = some (.putfield 176, 3) := by decide +kernel
theorem g139_5 : m_get 139 5 = some (.iconst 0, 1) := by decide +kernel
theorem g139_6 : m_get 139 6 = some (.istore_n 1, 1) := by decide +kernel
theorem g139_7 : m_get 139 7 = some (.iload_n 1, 1) := by decide +kernel
theorem g139_8 : m_get 139 8 = some (.aload_n 0, 1) := by decide +kernel
theorem g139_9 : m_get 139 9 = some (.invokevirtual 116, 3) := by decide +kernel
theorem g139_12 : m_get 139 12 = some (.if_icmp .ge 40, 3) := by decide +kernel
theorem g139_15 : m_get 139 15 = some (.aload_n 0, 1) := by decide +kernel
theorem g139_16 : m_get 139 16 = some (.getfield 41, 3) := by decide +kernel
theorem g139_19 : m_get 139 19 = some (.iload_n 1, 1) := by decide +kernel
theorem g139_20 : m_get 139 20 = some (.iaload, 1) := by decide +kernel
theorem g139_21 : m_get 139 21 = some (.bipush (-9), 2) := by decide +kernel
theorem g139_23 : m_get 139 23 = some (.if_icmp .ne 23, 3) := by decide +kernel
theorem g139_26 : m_get 139 26 = some (.aload_n 0, 1) := by decide +kernel
theorem g139_27 : m_get 139 27 = some (.getfield 47, 3) := by decide +kernel
theorem g139_30 : m_get 139 30 = some (.aload_n 0, 1) := by decide +kernel
theorem g139_31 : m_get 139 31 = some (.getfield 176, 3) := by decide +kernel
theorem g139_34 : m_get 139 34 = some (.iload_n 1, 1) := by decide +kernel
theorem g139_35 : m_get 139 35 = some (.iastore, 1) := by decide +kernel
theorem g139_36 : m_get 139 36 = some (.aload_n 0, 1) := by decide +kernel
theorem g139_37 : m_get 139 37 = some (.dup, 1) := by decide +kernel
theorem g139_38 : m_get 139 38 = some (.getfield 176, 3) := by decide +kernel
theorem g139_41 : m_get 139 41 = some (.iconst 1, 1) := by decide +kernel
theorem g139_42 : m_get 139 42 = some (.iadd, 1) := by decide +kernel
theorem g139_43 : m_get 139 43 = some (.putfield 176, 3) := by decide +kernel
theorem g139_46 : m_get 139 46 = some (.iinc 1 1, 3) := by decide +kernel
theorem g139_49 : m_get 139 49 = some (.goto (-42), 3) := by decide +kernel
theorem g139_52 : m_get 139 52 = some (.aload_n 0, 1) := by decide +kernel
theorem g139_53 : m_get 139 53 = some (.iconst 0, 1) := by decide +kernel
theorem g139_54 : m_get 139 54 = some (.putfield 179, 3) := by decide +kernel
theorem g139_57 : m_get 139 57 = some (.aload_n 0, 1) := by decide +kernel
theorem g139_58 : m_get 139 58 = some (.getfield 50, 3) := by decide +kernel
theorem g139_61 : m_get 139 61 = some (.iconst 0, 1) := by decide +kernel
theorem g139_62 : m_get 139 62 = some (.iconst (-1), 1) := by decide +kernel
theorem g139_63 : m_get 139 63 = some (.iastore, 1) := by decide +kernel
theorem g139_64 : m_get 139 64 = some (.aload_n 0, 1) := by decide +kernel
theorem g139_65 : m_get 139 65 = some (.iconst 0, 1) := by decide +kernel
theorem g139_66 : m_get 139 66 = some (.putfield 182, 3) := by decide +kernel
theorem g139_69 : m_get 139 69 = some (.aload_n 0, 1) := by decide +kernel
theorem g139_70 : m_get 139 70 = some (.bipush (-9), 2) := by decide +kernel
theorem g139_72 : m_get 139 72 = some (.putfield 186, 3) := by decide +kernel
theorem g139_75 : m_get 139 75 = some (.aload_n 0, 1) := by decide +kernel
theorem g139_76 : m_get 139 76 = some (.bipush (-9), 2) := by decide +kernel
theorem g139_78 : m_get 139 78 = some (.putfield 189, 3) := by decide +kernel
theorem g139_81 : m_get 139 81 = some (.return_, 1) := by decide +kernel
theorem f139_41 : m_fl (m_own 139) 41 = some (7, 17) := by decide +kernel
theorem f139_47 : m_fl (m_own 139) 47 = some (7, 20) := by decide +kernel
theorem f139_50 : m_fl (m_own 139) 50 = some (7, 21) := by decide +kernel
theorem f139_176 : m_fl (m_own 139) 176 = some (7, 19) := by decide +kernel
theorem f139_179 : m_fl (m_own 139) 179 = some (7, 22) := by decide +kernel
theorem f139_182 : m_fl (m_own 139) 182 = some (7, 23) := by decide +kernel
theorem f139_186 : m_fl (m_own 139) 186 = some (7, 24) := by decide +kernel
theorem f139_189 : m_fl (m_own 139) 189 = some (7, 25) := by decide +kernel
theorem k139_116 : m_ml (m_own 139) 116 = some (0, 111) := by decide +kernel
theorem g140_0 : m_get 140 0 = some (.aload_n 0, 1) := by decide +kernel
theorem g140_1 : m_get 140 1 = some (.iload_n 2, 1) := by decide +kernel
theorem g140_2 : m_get 140 2 = some (.invokevirtual 146, 3) := by decide +kernel
theorem g140_5 : m_get 140 5 = some (.ifCond .eq 32, 3) := by decide +kernel
theorem g140_8 : m_get 140 8 = some (.iload_n 1, 1) := by decide +kernel
theorem g140_9 : m_get 140 9 = some (.aload_n 0, 1) := by decide +kernel
theorem g140_10 : m_get 140 10 = some (.getfield 186, 3) := by decide +kernel
theorem g140_13 : m_get 140 13 = some (.if_icmp .ne 11, 3) := by decide +kernel
theorem g140_16 : m_get 140 16 = some (.iload_n 2, 1) := by decide +kernel
theorem g140_17 : m_get 140 17 = some (.aload_n 0, 1) := by decide +kernel
theorem g140_18 : m_get 140 18 = some (.getfield 189, 3) := by decide +kernel
theorem g140_21 : m_get 140 21 = some (.if_icmp .eq 16, 3) := by decide +kernel
theorem g140_24 : m_get 140 24 = some (.aload_n 0, 1) := by decide +kernel
theorem g140_25 : m_get 140 25 = some (.iload_n 1, 1) := by decide +kernel
theorem g140_26 : m_get 140 26 = some (.iload_n 2, 1) := by decide +kernel
theorem g140_27 : m_get 140 27 = some (.invokevirtual 152, 3) := by decide +kernel
theorem g140_30 : m_get 140 30 = some (.ifCond .ne 7, 3) := by decide +kernel
theorem g140_33 : m_get 140 33 = some (.iconst 1, 1) := by decide +kernel
theorem g140_34 : m_get 140 34 = some (.goto 4, 3) := by decide +kernel
theorem g140_37 : m_get 140 37 = some (.iconst 0, 1) := by decide +kernel
theorem g140_38 : m_get 140 38 = some (.ireturn, 1) := by decide +kernel
theorem f140_186 : m_fl (m_own 140) 186 = some (7, 24) := by decide +kernel
theorem f140_189 : m_fl (m_own 140) 189 = some (7, 25) := by decide +kernel
theorem k140_146 : m_ml (m_own 140) 146 = some (0, 114) := by decide +kernel
theorem k140_152 : m_ml (m_own 140) 152 = some (0, 120) := by decide +kernel
theorem g141_0 : m_get 141 0 = some (.aload_n 0, 1) := by decide +kernel
theorem g141_1 : m_get 141 1 = some (.dup, 1) := by decide +kernel
theorem g141_2 : m_get 141 2 = some (.getfield 179, 3) := by decide +kernel
theorem g141_5 : m_get 141 5 = some (.aload_n 0, 1) := by decide +kernel
theorem g141_6 : m_get 141 6 = some (.getfield 182, 3) := by decide +kernel
theorem g141_9 : m_get 141 9 = some (.ifCond .eq 7, 3) := by decide +kernel
theorem g141_12 : m_get 141 12 = some (.iconst 1, 1) := by decide +kernel
theorem g141_13 : m_get 141 13 = some (.goto 4, 3) := by decide +kernel
theorem g141_16 : m_get 141 16 = some (.iconst 0, 1) := by decide +kernel
theorem g141_17 : m_get 141 17 = some (.isub, 1) := by decide +kernel
theorem g141_18 : m_get 141 18 = some (.putfield 179, 3) := by decide +kernel
theorem g141_21 : m_get 141 21 = some (.aload_n 0, 1) := by decide +kernel
theorem g141_22 : m_get 141 22 = some (.iconst 0, 1) := by decide +kernel
theorem g141_23 : m_get 141 23 = some (.putfield 182, 3) := by decide +kernel
theorem g141_26 : m_get 141 26 = some (.aload_n 0, 1) := by decide +kernel
theorem g141_27 : m_get 141 27 = some (.getfield 179, 3) := by decide +kernel
theorem g141_30 : m_get 141 30 = some (.ifCond .lt 158, 3) := by decide +kernel
theorem g141_33 : m_get 141 33 = some (.aload_n 0, 1) := by decide +kernel
theorem g141_34 : m_get 141 34 = some (.getfield 182, 3) := by decide +kernel
theorem g141_37 : m_get 141 37 = some (.ifCond .ne 151, 3) := by decide +kernel
theorem g141_40 : m_get 141 40 = some (.aload_n 0, 1) := by decide +kernel
theorem g141_41 : m_get 141 41 = some (.getfield 179, 3) := by decide +kernel
theorem g141_44 : m_get 141 44 = some (.aload_n 0, 1) := by decide +kernel
theorem g141_45 : m_get 141 45 = some (.getfield 176, 3) := by decide +kernel
theorem g141_48 : m_get 141 48 = some (.if_icmp .ne 11, 3) := by decide +kernel
theorem g141_51 : m_get 141 51 = some (.aload_n 0, 1) := by decide +kernel
theorem g141_52 : m_get 141 52 = some (.iconst 1, 1) := by decide +kernel
theorem g141_53 : m_get 141 53 = some (.putfield 182, 3) := by decide +kernel
theorem g141_56 : m_get 141 56 = some (.goto (-30), 3) := by decide +kernel
theorem g141_59 : m_get 141 59 = some (.aload_n 0, 1) := by decide +kernel
theorem g141_60 : m_get 141 60 = some (.getfield 47, 3) := by decide +kernel
theorem g141_63 : m_get 141 63 = some (.aload_n 0, 1) := by decide +kernel
theorem g141_64 : m_get 141 64 = some (.getfield 179, 3) := by decide +kernel
theorem g141_67 : m_get 141 67 = some (.iaload, 1) := by decide +kernel
theorem g141_68 : m_get 141 68 = some (.istore_n 1, 1) := by decide +kernel
theorem g141_69 : m_get 141 69 = some (.aload_n 0, 1) := by decide +kernel
theorem g141_70 : m_get 141 70 = some (.getfield 41, 3) := by decide +kernel
theorem g141_73 : m_get 141 73 = some (.iload_n 1, 1) := by decide +kernel
theorem g141_74 : m_get 141 74 = some (.bipush (-9), 2) := by decide +kernel
theorem g141_76 : m_get 141 76 = some (.iastore, 1) := by decide +kernel
theorem g141_77 : m_get 141 77 = some (.aload_n 0, 1) := by decide +kernel
theorem g141_78 : m_get 141 78 = some (.getfield 50, 3) := by decide +kernel
theorem g141_81 : m_get 141 81 = some (.aload_n 0, 1) := by decide +kernel
theorem g141_82 : m_get 141 82 = some (.getfield 179, 3) := by decide +kernel
theorem g141_85 : m_get 141 85 = some (.iaload, 1) := by decide +kernel
theorem g141_86 : m_get 141 86 = some (.iconst 1, 1) := by decide +kernel
theorem g141_87 : m_get 141 87 = some (.iadd, 1) := by decide +kernel
theorem g141_88 : m_get 141 88 = some (.istore_n 2, 1) := by decide +kernel
theorem g141_89 : m_get 141 89 = some (.iload_n 2, 1) := by decide +kernel
theorem g141_90 : m_get 141 90 = some (.iconst 4, 1) := by decide +kernel
theorem g141_91 : m_get 141 91 = some (.aload_n 0, 1) := by decide +kernel
theorem g141_92 : m_get 141 92 = some (.getfield 75, 3) := by decide +kernel
theorem g141_95 : m_get 141 95 = some (.imul, 1) := by decide +kernel
theorem g141_96 : m_get 141 96 = some (.if_icmp .ge 18, 3) := by decide +kernel
theorem g141_99 : m_get 141 99 = some (.aload_n 0, 1) := by decide +kernel
theorem g141_100 : m_get 141 100 = some (.iload_n 1, 1) := by decide +kernel
theorem g141_101 : m_get 141 101 = some (.iload_n 2, 1) := by decide +kernel
theorem g141_102 : m_get 141 102 = some (.invokevirtual 192, 3) := by decide +kernel
theorem g141_105 : m_get 141 105 = some (.ifCond .ne 9, 3) := by decide +kernel
theorem g141_108 : m_get 141 108 = some (.iinc 2 1, 3) := by decide +kernel
theorem g141_111 : m_get 141 111 = some (.goto (-22), 3) := by decide +kernel
theorem g141_114 : m_get 141 114 = some (.iload_n 2, 1) := by decide +kernel
theorem g141_115 : m_get 141 115 = some (.iconst 4, 1) := by decide +kernel
theorem g141_116 : m_get 141 116 = some (.aload_n 0, 1) := by decide +kernel
theorem g141_117 : m_get 141 117 = some (.getfield 75, 3) := by decide +kernel
theorem g141_120 : m_get 141 120 = some (.imul, 1) := by decide +kernel
theorem g141_121 : m_get 141 121 = some (.if_icmp .ne 16, 3) := by decide +kernel
theorem g141_124 : m_get 141 124 = some (.aload_n 0, 1) := by decide +kernel
theorem g141_125 : m_get 141 125 = some (.dup, 1) := by decide +kernel
theorem g141_126 : m_get 141 126 = some (.getfield 179, 3) := by decide +kernel
theorem g141_129 : m_get 141 129 = some (.iconst 1, 1) := by decide +kernel
theorem g141_130 : m_get 141 130 = some (.isub, 1) := by decide +kernel
theorem g141_131 : m_get 141 131 = some (.putfield 179, 3) := by decide +kernel
theorem g141_134 : m_get 141 134 = some (.goto 51, 3) := by decide +kernel
theorem g141_137 : m_get 141 137 = some (.aload_n 0, 1) := by decide +kernel
theorem g141_138 : m_get 141 138 = some (.getfield 50, 3) := by decide +kernel
theorem g141_141 : m_get 141 141 = some (.aload_n 0, 1) := by decide +kernel
theorem g141_142 : m_get 141 142 = some (.getfield 179, 3) := by decide +kernel
theorem g141_145 : m_get 141 145 = some (.iload_n 2, 1) := by decide +kernel
theorem g141_146 : m_get 141 146 = some (.iastore, 1) := by decide +kernel
theorem g141_147 : m_get 141 147 = some (.aload_n 0, 1) := by decide +kernel
theorem g141_148 : m_get 141 148 = some (.getfield 41, 3) := by decide +kernel
theorem g141_151 : m_get 141 151 = some (.iload_n 1, 1) := by decide +kernel
theorem g141_152 : m_get 141 152 = some (.iload_n 2, 1) := by decide +kernel
theorem g141_153 : m_get 141 153 = some (.iastore, 1) := by decide +kernel
theorem g141_154 : m_get 141 154 = some (.aload_n 0, 1) := by decide +kernel
theorem g141_155 : m_get 141 155 = some (.dup, 1) := by decide +kernel
theorem g141_156 : m_get 141 156 = some (.getfield 179, 3) := by decide +kernel
theorem g141_159 : m_get 141 159 = some (.iconst 1, 1) := by decide +kernel
theorem g141_160 : m_get 141 160 = some (.iadd, 1) := by decide +kernel
theorem g141_161 : m_get 141 161 = some (.putfield 179, 3) := by decide +kernel
theorem g141_164 : m_get 141 164 = some (.aload_n 0, 1) := by decide +kernel
theorem g141_165 : m_get 141 165 = some (.getfield 179, 3) := by decide +kernel
theorem g141_168 : m_get 141 168 = some (.aload_n 0, 1) := by decide +kernel
theorem g141_169 : m_get 141 169 = some (.getfield 176, 3) := by decide +kernel
theorem g141_172 : m_get 141 172 = some (.if_icmp .ge 13, 3) := by decide +kernel
theorem g141_175 : m_get 141 175 = some (.aload_n 0, 1) := by decide +kernel
theorem g141_176 : m_get 141 176 = some (.getfield 50, 3) := by decide +kernel
theorem g141_179 : m_get 141 179 = some (.aload_n 0, 1) := by decide +kernel
theorem g141_180 : m_get 141 180 = some (.getfield 179, 3) := by decide +kernel
theorem g141_183 : m_get 141 183 = some (.iconst (-1), 1) := by decide +kernel
theorem g141_184 : m_get 141 184 = some (.iastore, 1) := by decide +kernel
theorem g141_185 : m_get 141 185 = some (.goto (-159), 3) := by decide +kernel
theorem g141_188 : m_get 141 188 = some (.aload_n 0, 1) := by decide +kernel
theorem g141_189 : m_get 141 189 = some (.getfield 182, 3) := by decide +kernel
theorem g141_192 : m_get 141 192 = some (.ireturn, 1) := by decide +kernel
theorem f141_41 : m_fl (m_own 141) 41 = some (7, 17) := by decide +kernel
theorem f141_47 : m_fl (m_own 141) 47 = some (7, 20) := by decide +kernel
theorem f141_50 : m_fl (m_own 141) 50 = some (7, 21) := by decide +kernel
theorem f141_75 : m_fl (m_own 141) 75 = some (7, 0) := by decide +kernel
theorem f141_176 : m_fl (m_own 141) 176 = some (7, 19) := by decide +kernel
theorem f141_179 : m_fl (m_own 141) 179 = some (7, 22) := by decide +kernel
theorem f141_182 : m_fl (m_own 141) 182 = some (7, 23) := by decide +kernel
theorem k141_192 : m_ml (m_own 141) 192 = some (0, 140) := by decide +kernel
theorem g142_0 : m_get 142 0 = some (.iload_n 1, 1) := by decide +kernel
theorem g142_1 : m_get 142 1 = some (.iconst 1, 1) := by decide +kernel
theorem g142_2 : m_get 142 2 = some (.sipush 300, 3) := by decide +kernel
theorem g142_5 : m_get 142 5 = some (.invokestatic 81, 3) := by decide +kernel
theorem g142_8 : m_get 142 8 = some (.ifCond .ne 5, 3) := by decide +kernel
theorem g142_11 : m_get 142 11 = some (.iconst (-1), 1) := by decide +kernel
theorem g142_12 : m_get 142 12 = some (.ireturn, 1) := by decide +kernel
theorem g142_13 : m_get 142 13 = some (.aload_n 0, 1) := by decide +kernel
theorem g142_14 : m_get 142 14 = some (.invokevirtual 140, 3) := by decide +kernel
theorem g142_17 : m_get 142 17 = some (.aload_n 0, 1) := by decide +kernel
theorem g142_18 : m_get 142 18 = some (.invokevirtual 195, 3) := by decide +kernel
theorem g142_21 : m_get 142 21 = some (.iconst 0, 1) := by decide +kernel
theorem g142_22 : m_get 142 22 = some (.istore_n 2, 1) := by decide +kernel
theorem g142_23 : m_get 142 23 = some (.iload_n 2, 1) := by decide +kernel
theorem g142_24 : m_get 142 24 = some (.iload_n 1, 1) := by decide +kernel
theorem g142_25 : m_get 142 25 = some (.if_icmp .ge 16, 3) := by decide +kernel
theorem g142_28 : m_get 142 28 = some (.aload_n 0, 1) := by decide +kernel
theorem g142_29 : m_get 142 29 = some (.invokevirtual 198, 3) := by decide +kernel
theorem g142_32 : m_get 142 32 = some (.ifCond .eq 9, 3) := by decide +kernel
theorem g142_35 : m_get 142 35 = some (.iinc 2 1, 3) := by decide +kernel
theorem g142_38 : m_get 142 38 = some (.goto (-15), 3) := by decide +kernel
theorem g142_41 : m_get 142 41 = some (.iload_n 2, 1) := by decide +kernel
theorem g142_42 : m_get 142 42 = some (.ireturn, 1) := by decide +kernel
theorem k142_81 : m_ml (m_own 142) 81 = some (1, 97) := by decide +kernel
theorem k142_140 : m_ml (m_own 142) 140 = some (0, 116) := by decide +kernel
theorem k142_195 : m_ml (m_own 142) 195 = some (0, 139) := by decide +kernel
theorem k142_198 : m_ml (m_own 142) 198 = some (0, 141) := by decide +kernel
theorem g143_0 : m_get 143 0 = some (.iload_n 1, 1) := by decide +kernel
theorem g143_1 : m_get 143 1 = some (.iconst 0, 1) := by decide +kernel
theorem g143_2 : m_get 143 2 = some (.sipush 299, 3) := by decide +kernel
theorem g143_5 : m_get 143 5 = some (.invokestatic 81, 3) := by decide +kernel
theorem g143_8 : m_get 143 8 = some (.ifCond .eq 11, 3) := by decide +kernel
theorem g143_11 : m_get 143 11 = some (.aload_n 0, 1) := by decide +kernel
theorem g143_12 : m_get 143 12 = some (.iload_n 2, 1) := by decide +kernel
theorem g143_13 : m_get 143 13 = some (.invokevirtual 149, 3) := by decide +kernel
theorem g143_16 : m_get 143 16 = some (.ifCond .ne 5, 3) := by decide +kernel
theorem g143_19 : m_get 143 19 = some (.iconst (-1), 1) := by decide +kernel
theorem g143_20 : m_get 143 20 = some (.ireturn, 1) := by decide +kernel
theorem g143_21 : m_get 143 21 = some (.aload_n 0, 1) := by decide +kernel
theorem g143_22 : m_get 143 22 = some (.invokevirtual 140, 3) := by decide +kernel
theorem g143_25 : m_get 143 25 = some (.aload_n 0, 1) := by decide +kernel
theorem g143_26 : m_get 143 26 = some (.invokevirtual 195, 3) := by decide +kernel
theorem g143_29 : m_get 143 29 = some (.iconst 0, 1) := by decide +kernel
theorem g143_30 : m_get 143 30 = some (.istore_n 3, 1) := by decide +kernel
theorem g143_31 : m_get 143 31 = some (.iload_n 3, 1) := by decide +kernel
theorem g143_32 : m_get 143 32 = some (.iload_n 1, 1) := by decide +kernel
theorem g143_33 : m_get 143 33 = some (.if_icmp .gt 19, 3) := by decide +kernel
theorem g143_36 : m_get 143 36 = some (.aload_n 0, 1) := by decide +kernel
theorem g143_37 : m_get 143 37 = some (.invokevirtual 198, 3) := by decide +kernel
theorem g143_40 : m_get 143 40 = some (.ifCond .ne 6, 3) := by decide +kernel
theorem g143_43 : m_get 143 43 = some (.bipush (-9), 2) := by decide +kernel
theorem g143_45 : m_get 143 45 = some (.ireturn, 1) := by decide +kernel
theorem g143_46 : m_get 143 46 = some (.iinc 3 1, 3) := by decide +kernel
theorem g143_49 : m_get 143 49 = some (.goto (-18), 3) := by decide +kernel
theorem g143_52 : m_get 143 52 = some (.aload_n 0, 1) := by decide +kernel
theorem g143_53 : m_get 143 53 = some (.getfield 41, 3) := by decide +kernel
theorem g143_56 : m_get 143 56 = some (.iload_n 2, 1) := by decide +kernel
theorem g143_57 : m_get 143 57 = some (.iaload, 1) := by decide +kernel
theorem g143_58 : m_get 143 58 = some (.ireturn, 1) := by decide +kernel
theorem f143_41 : m_fl (m_own 143) 41 = some (7, 17) := by decide +kernel
theorem k143_81 : m_ml (m_own 143) 81 = some (1, 97) := by decide +kernel
theorem k143_140 : m_ml (m_own 143) 140 = some (0, 116) := by decide +kernel
theorem k143_149 : m_ml (m_own 143) 149 = some (0, 112) := by decide +kernel
theorem k143_195 : m_ml (m_own 143) 195 = some (0, 139) := by decide +kernel
theorem k143_198 : m_ml (m_own 143) 198 = some (0, 141) := by decide +kernel
theorem g144_0 : m_get 144 0 = some (.aload_n 0, 1) := by decide +kernel
theorem g144_1 : m_get 144 1 = some (.invokevirtual 140, 3) := by decide +kernel
theorem g144_4 : m_get 144 4 = some (.aload_n 0, 1) := by decide +kernel
theorem g144_5 : m_get 144 5 = some (.invokevirtual 195, 3) := by decide +kernel
theorem g144_8 : m_get 144 8 = some (.aload_n 0, 1) := by decide +kernel
theorem g144_9 : m_get 144 9 = some (.invokevirtual 198, 3) := by decide +kernel
theorem g144_12 : m_get 144 12 = some (.ifCond .ne 5, 3) := by decide +kernel
theorem g144_15 : m_get 144 15 = some (.iconst 0, 1) := by decide +kernel
theorem g144_16 : m_get 144 16 = some (.ireturn, 1) := by decide +kernel
theorem g144_17 : m_get 144 17 = some (.iconst 0, 1) := by decide +kernel
theorem g144_18 : m_get 144 18 = some (.istore_n 1, 1) := by decide +kernel
theorem g144_19 : m_get 144 19 = some (.iload_n 1, 1) := by decide +kernel
theorem g144_20 : m_get 144 20 = some (.aload_n 0, 1) := by decide +kernel
theorem g144_21 : m_get 144 21 = some (.invokevirtual 116, 3) := by decide +kernel
theorem g144_24 : m_get 144 24 = some (.if_icmp .ge 21, 3) := by decide +kernel
theorem g144_27 : m_get 144 27 = some (.aload_n 0, 1) := by decide +kernel
theorem g144_28 : m_get 144 28 = some (.getfield 53, 3) := by decide +kernel
theorem g144_31 : m_get 144 31 = some (.iload_n 1, 1) := by decide +kernel
theorem g144_32 : m_get 144 32 = some (.aload_n 0, 1) := by decide +kernel
theorem g144_33 : m_get 144 33 = some (.getfield 41, 3) := by decide +kernel
theorem g144_36 : m_get 144 36 = some (.iload_n 1, 1) := by decide +kernel
theorem g144_37 : m_get 144 37 = some (.iaload, 1) := by decide +kernel
theorem g144_38 : m_get 144 38 = some (.iastore, 1) := by decide +kernel
theorem g144_39 : m_get 144 39 = some (.iinc 1 1, 3) := by decide +kernel
theorem g144_42 : m_get 144 42 = some (.goto (-23), 3) := by decide +kernel
theorem g144_45 : m_get 144 45 = some (.iconst 0, 1) := by decide +kernel
theorem g144_46 : m_get 144 46 = some (.istore_n 1, 1) := by decide +kernel
theorem g144_47 : m_get 144 47 = some (.iconst 0, 1) := by decide +kernel
theorem g144_48 : m_get 144 48 = some (.istore_n 2, 1) := by decide +kernel
theorem g144_49 : m_get 144 49 = some (.iload_n 2, 1) := by decide +kernel
theorem g144_50 : m_get 144 50 = some (.aload_n 0, 1) := by decide +kernel
theorem g144_51 : m_get 144 51 = some (.invokevirtual 116, 3) := by decide +kernel
theorem g144_54 : m_get 144 54 = some (.if_icmp .ge 60, 3) := by decide +kernel
theorem g144_57 : m_get 144 57 = some (.aload_n 0, 1) := by decide +kernel
theorem g144_58 : m_get 144 58 = some (.getfield 16, 3) := by decide +kernel
theorem g144_61 : m_get 144 61 = some (.iload_n 2, 1) := by decide +kernel
theorem g144_62 : m_get 144 62 = some (.iaload, 1) := by decide +kernel
theorem g144_63 : m_get 144 63 = some (.bipush (-9), 2) := by decide +kernel
theorem g144_65 : m_get 144 65 = some (.if_icmp .ne 43, 3) := by decide +kernel
theorem g144_68 : m_get 144 68 = some (.aload_n 0, 1) := by decide +kernel
theorem g144_69 : m_get 144 69 = some (.invokevirtual 140, 3) := by decide +kernel
theorem g144_72 : m_get 144 72 = some (.aload_n 0, 1) := by decide +kernel
theorem g144_73 : m_get 144 73 = some (.invokevirtual 195, 3) := by decide +kernel
theorem g144_76 : m_get 144 76 = some (.aload_n 0, 1) := by decide +kernel
theorem g144_77 : m_get 144 77 = some (.iload_n 2, 1) := by decide +kernel
theorem g144_78 : m_get 144 78 = some (.putfield 186, 3) := by decide +kernel
theorem g144_81 : m_get 144 81 = some (.aload_n 0, 1) := by decide +kernel
theorem g144_82 : m_get 144 82 = some (.aload_n 0, 1) := by decide +kernel
theorem g144_83 : m_get 144 83 = some (.getfield 53, 3) := by decide +kernel
theorem g144_86 : m_get 144 86 = some (.iload_n 2, 1) := by decide +kernel
theorem g144_87 : m_get 144 87 = some (.iaload, 1) := by decide +kernel
theorem g144_88 : m_get 144 88 = some (.putfield 189, 3) := by decide +kernel
theorem g144_91 : m_get 144 91 = some (.iload_n 1, 1) := by decide +kernel
theorem g144_92 : m_get 144 92 = some (.aload_n 0, 1) := by decide +kernel
theorem g144_93 : m_get 144 93 = some (.invokevirtual 198, 3) := by decide +kernel
theorem g144_96 : m_get 144 96 = some (.ifCond .eq 7, 3) := by decide +kernel
theorem g144_99 : m_get 144 99 = some (.iconst 0, 1) := by decide +kernel
theorem g144_100 : m_get 144 100 = some (.goto 6, 3) := by decide +kernel
theorem g144_103 : m_get 144 103 = some (.iconst 1, 1) := by decide +kernel
theorem g144_104 : m_get 144 104 = some (.iload_n 2, 1) := by decide +kernel
theorem g144_105 : m_get 144 105 = some (.ishl, 1) := by decide +kernel
theorem g144_106 : m_get 144 106 = some (.ior, 1) := by decide +kernel
theorem g144_107 : m_get 144 107 = some (.istore_n 1, 1) := by decide +kernel
theorem g144_108 : m_get 144 108 = some (.iinc 2 1, 3) := by decide +kernel
theorem g144_111 : m_get 144 111 = some (.goto (-62), 3) := by decide +kernel
theorem g144_114 : m_get 144 114 = some (.iload_n 1, 1) := by decide +kernel
theorem g144_115 : m_get 144 115 = some (.ireturn, 1) := by decide +kernel
theorem f144_16 : m_fl (m_own 144) 16 = some (7, 3) := by decide +kernel
theorem f144_41 : m_fl (m_own 144) 41 = some (7, 17) := by decide +kernel
theorem f144_53 : m_fl (m_own 144) 53 = some (7, 26) := by decide +kernel
theorem f144_186 : m_fl (m_own 144) 186 = some (7, 24) := by decide +kernel
theorem f144_189 : m_fl (m_own 144) 189 = some (7, 25) := by decide +kernel
theorem k144_116 : m_ml (m_own 144) 116 = some (0, 111) := by decide +kernel
theorem k144_140 : m_ml (m_own 144) 140 = some (0, 116) := by decide +kernel
theorem k144_195 : m_ml (m_own 144) 195 = some (0, 139) := by decide +kernel
theorem k144_198 : m_ml (m_own 144) 198 = some (0, 141) := by decide +kernel
theorem g145_0 : m_get 145 0 = some (.aload_n 0, 1) := by decide +kernel
theorem g145_1 : m_get 145 1 = some (.invokevirtual 167, 3) := by decide +kernel
theorem g145_4 : m_get 145 4 = some (.bipush (-9), 2) := by decide +kernel
theorem g145_6 : m_get 145 6 = some (.istore_n 1, 1) := by decide +kernel
theorem g145_7 : m_get 145 7 = some (.iconst 0, 1) := by decide +kernel
theorem g145_8 : m_get 145 8 = some (.istore_n 2, 1) := by decide +kernel
theorem g145_9 : m_get 145 9 = some (.iload_n 2, 1) := by decide +kernel
theorem g145_10 : m_get 145 10 = some (.aload_n 0, 1) := by decide +kernel
theorem g145_11 : m_get 145 11 = some (.invokevirtual 116, 3) := by decide +kernel
theorem g145_14 : m_get 145 14 = some (.if_icmp .ge 49, 3) := by decide +kernel
theorem g145_17 : m_get 145 17 = some (.aload_n 0, 1) := by decide +kernel
theorem g145_18 : m_get 145 18 = some (.getfield 16, 3) := by decide +kernel
theorem g145_21 : m_get 145 21 = some (.iload_n 2, 1) := by decide +kernel
theorem g145_22 : m_get 145 22 = some (.iaload, 1) := by decide +kernel
theorem g145_23 : m_get 145 23 = some (.bipush (-9), 2) := by decide +kernel
theorem g145_25 : m_get 145 25 = some (.if_icmp .ne 32, 3) := by decide +kernel
theorem g145_28 : m_get 145 28 = some (.iload_n 1, 1) := by decide +kernel
theorem g145_29 : m_get 145 29 = some (.bipush (-9), 2) := by decide +kernel
theorem g145_31 : m_get 145 31 = some (.if_icmp .eq 24, 3) := by decide +kernel
theorem g145_34 : m_get 145 34 = some (.aload_n 0, 1) := by decide +kernel
theorem g145_35 : m_get 145 35 = some (.getfield 44, 3) := by decide +kernel
theorem g145_38 : m_get 145 38 = some (.iload_n 2, 1) := by decide +kernel
theorem g145_39 : m_get 145 39 = some (.iaload, 1) := by decide +kernel
theorem g145_40 : m_get 145 40 = some (.invokestatic 170, 3) := by decide +kernel
theorem g145_43 : m_get 145 43 = some (.aload_n 0, 1) := by decide +kernel
theorem g145_44 : m_get 145 44 = some (.getfield 44, 3) := by decide +kernel
theorem g145_47 : m_get 145 47 = some (.iload_n 1, 1) := by decide +kernel
theorem g145_48 : m_get 145 48 = some (.iaload, 1) := by decide +kernel
theorem g145_49 : m_get 145 49 = some (.invokestatic 170, 3) := by decide +kernel
theorem g145_52 : m_get 145 52 = some (.if_icmp .ge 5, 3) := by decide +kernel
theorem g145_55 : m_get 145 55 = some (.iload_n 2, 1) := by decide +kernel
theorem g145_56 : m_get 145 56 = some (.istore_n 1, 1) := by decide +kernel
theorem g145_57 : m_get 145 57 = some (.iinc 2 1, 3) := by decide +kernel
theorem g145_60 : m_get 145 60 = some (.goto (-51), 3) := by decide +kernel
theorem g145_63 : m_get 145 63 = some (.iload_n 1, 1) := by decide +kernel
theorem g145_64 : m_get 145 64 = some (.ireturn, 1) := by decide +kernel
theorem f145_16 : m_fl (m_own 145) 16 = some (7, 3) := by decide +kernel
theorem f145_44 : m_fl (m_own 145) 44 = some (7, 18) := by decide +kernel
theorem k145_116 : m_ml (m_own 145) 116 = some (0, 111) := by decide +kernel
theorem k145_167 : m_ml (m_own 145) 167 = some (0, 134) := by decide +kernel
theorem k145_170 : m_ml (m_own 145) 170 = some (1, 135) := by decide +kernel
theorem g146_0 : m_get 146 0 = some (.aload_n 0, 1) := by decide +kernel
theorem g146_1 : m_get 146 1 = some (.iload_n 1, 1) := by decide +kernel
theorem g146_2 : m_get 146 2 = some (.invokevirtual 136, 3) := by decide +kernel
theorem g146_5 : m_get 146 5 = some (.ifCond .ne 5, 3) := by decide +kernel
theorem g146_8 : m_get 146 8 = some (.iconst (-1), 1) := by decide +kernel
theorem g146_9 : m_get 146 9 = some (.ireturn, 1) := by decide +kernel
theorem g146_10 : m_get 146 10 = some (.iconst 0, 1) := by decide +kernel
theorem g146_11 : m_get 146 11 = some (.istore_n 2, 1) := by decide +kernel
theorem g146_12 : m_get 146 12 = some (.iload_n 2, 1) := by decide +kernel
theorem g146_13 : m_get 146 13 = some (.bipush 10, 2) := by decide +kernel
theorem g146_15 : m_get 146 15 = some (.if_icmp .ge 36, 3) := by decide +kernel
theorem g146_18 : m_get 146 18 = some (.aload_n 0, 1) := by decide +kernel
theorem g146_19 : m_get 146 19 = some (.invokevirtual 140, 3) := by decide +kernel
theorem g146_22 : m_get 146 22 = some (.aload_n 0, 1) := by decide +kernel
theorem g146_23 : m_get 146 23 = some (.getfield 41, 3) := by decide +kernel
theorem g146_26 : m_get 146 26 = some (.bipush 9, 2) := by decide +kernel
theorem g146_28 : m_get 146 28 = some (.iload_n 1, 1) := by decide +kernel
theorem g146_29 : m_get 146 29 = some (.iadd, 1) := by decide +kernel
theorem g146_30 : m_get 146 30 = some (.iload_n 2, 1) := by decide +kernel
theorem g146_31 : m_get 146 31 = some (.iastore, 1) := by decide +kernel
theorem g146_32 : m_get 146 32 = some (.aload_n 0, 1) := by decide +kernel
theorem g146_33 : m_get 146 33 = some (.invokevirtual 195, 3) := by decide +kernel
theorem g146_36 : m_get 146 36 = some (.aload_n 0, 1) := by decide +kernel
theorem g146_37 : m_get 146 37 = some (.invokevirtual 198, 3) := by decide +kernel
theorem g146_40 : m_get 146 40 = some (.ifCond .eq 5, 3) := by decide +kernel
theorem g146_43 : m_get 146 43 = some (.iload_n 2, 1) := by decide +kernel
theorem g146_44 : m_get 146 44 = some (.ireturn, 1) := by decide +kernel
theorem g146_45 : m_get 146 45 = some (.iinc 2 1, 3) := by decide +kernel
theorem g146_48 : m_get 146 48 = some (.goto (-36), 3) := by decide +kernel
theorem g146_51 : m_get 146 51 = some (.bipush (-9), 2) := by decide +kernel
theorem g146_53 : m_get 146 53 = some (.ireturn, 1) := by decide +kernel
theorem f146_41 : m_fl (m_own 146) 41 = some (7, 17) := by decide +kernel
theorem k146_136 : m_ml (m_own 146) 136 = some (0, 109) := by decide +kernel
theorem k146_140 : m_ml (m_own 146) 140 = some (0, 116) := by decide +kernel
theorem k146_195 : m_ml (m_own 146) 195 = some (0, 139) := by decide +kernel
theorem k146_198 : m_ml (m_own 146) 198 = some (0, 141) := by decide +kernel
theorem g147_0 : m_get 147 0 = some (.aload_n 0, 1) := by decide +kernel
theorem g147_1 : m_get 147 1 = some (.getfield 7, 3) := by decide +kernel
theorem g147_4 : m_get 147 4 = some (.iconst 5, 1) := by decide +kernel
theorem g147_5 : m_get 147 5 = some (.iaload, 1) := by decide +kernel
theorem g147_6 : m_get 147 6 = some (.istore_n 3, 1) := by decide +kernel
theorem g147_7 : m_get 147 7 = some (.iload_n 1, 1) := by decide +kernel
theorem g147_8 : m_get 147 8 = some (.ifCond .ne 12, 3) := by decide +kernel
theorem g147_11 : m_get 147 11 = some (.aload_n 0, 1) := by decide +kernel
theorem g147_12 : m_get 147 12 = some (.getfield 7, 3) := by decide +kernel
theorem g147_15 : m_get 147 15 = some (.iconst 4, 1) := by decide +kernel
theorem g147_16 : m_get 147 16 = some (.iaload, 1) := by decide +kernel
theorem g147_17 : m_get 147 17 = some (.goto 4, 3) := by decide +kernel
theorem g147_20 : m_get 147 20 = some (.iload_n 3, 1) := by decide +kernel
theorem g147_21 : m_get 147 21 = some (.istore 4, 2) := by decide +kernel
theorem g147_23 : m_get 147 23 = some (.iload_n 1, 1) := by decide +kernel
theorem g147_24 : m_get 147 24 = some (.ifCond .ne 12, 3) := by decide +kernel
theorem g147_27 : m_get 147 27 = some (.aload_n 0, 1) := by decide +kernel
theorem g147_28 : m_get 147 28 = some (.getfield 7, 3) := by decide +kernel
theorem g147_31 : m_get 147 31 = some (.iconst 4, 1) := by decide +kernel
theorem g147_32 : m_get 147 32 = some (.iaload, 1) := by decide +kernel
theorem g147_33 : m_get 147 33 = some (.goto 22, 3) := by decide +kernel
theorem g147_36 : m_get 147 36 = some (.aload_n 0, 1) := by decide +kernel
theorem g147_37 : m_get 147 37 = some (.getfield 7, 3) := by decide +kernel
theorem g147_40 : m_get 147 40 = some (.iload_n 1, 1) := by decide +kernel
theorem g147_41 : m_get 147 41 = some (.iconst 1, 1) := by decide +kernel
theorem g147_42 : m_get 147 42 = some (.isub, 1) := by decide +kernel
theorem g147_43 : m_get 147 43 = some (.iaload, 1) := by decide +kernel
theorem g147_44 : m_get 147 44 = some (.aload_n 0, 1) := by decide +kernel
theorem g147_45 : m_get 147 45 = some (.getfield 7, 3) := by decide +kernel
theorem g147_48 : m_get 147 48 = some (.iconst 4, 1) := by decide +kernel
theorem g147_49 : m_get 147 49 = some (.iaload, 1) := by decide +kernel
theorem g147_50 : m_get 147 50 = some (.imul, 1) := by decide +kernel
theorem g147_51 : m_get 147 51 = some (.iconst 2, 1) := by decide +kernel
theorem g147_52 : m_get 147 52 = some (.iload_n 3, 1) := by decide +kernel
theorem g147_53 : m_get 147 53 = some (.imul, 1) := by decide +kernel
theorem g147_54 : m_get 147 54 = some (.iadd, 1) := by decide +kernel
theorem g147_55 : m_get 147 55 = some (.istore 5, 2) := by decide +kernel
theorem g147_57 : m_get 147 57 = some (.iload_n 2, 1) := by decide +kernel
theorem g147_58 : m_get 147 58 = some (.iload 4, 2) := by decide +kernel
theorem g147_60 : m_get 147 60 = some (.iload 5, 2) := by decide +kernel
theorem g147_62 : m_get 147 62 = some (.if_icmp .le 7, 3) := by decide +kernel
theorem g147_65 : m_get 147 65 = some (.iconst 1, 1) := by decide +kernel
theorem g147_66 : m_get 147 66 = some (.goto 4, 3) := by decide +kernel
theorem g147_69 : m_get 147 69 = some (.iconst 0, 1) := by decide +kernel
theorem g147_70 : m_get 147 70 = some (.if_icmp .ne 8, 3) := by decide +kernel
theorem g147_73 : m_get 147 73 = some (.iload 4, 2) := by decide +kernel
theorem g147_75 : m_get 147 75 = some (.goto 5, 3) := by decide +kernel
theorem g147_78 : m_get 147 78 = some (.iload 5, 2) := by decide +kernel
theorem g147_80 : m_get 147 80 = some (.ireturn, 1) := by decide +kernel
theorem f147_7 : m_fl (m_own 147) 7 = some (7, 1) := by decide +kernel
theorem g148_0 : m_get 148 0 = some (.iload_n 1, 1) := by decide +kernel
theorem g148_1 : m_get 148 1 = some (.iload_n 2, 1) := by decide +kernel
theorem g148_2 : m_get 148 2 = some (.if_icmp .ge 7, 3) := by decide +kernel
theorem g148_5 : m_get 148 5 = some (.iload_n 1, 1) := by decide +kernel
theorem g148_6 : m_get 148 6 = some (.goto 4, 3) := by decide +kernel
theorem g148_9 : m_get 148 9 = some (.iload_n 2, 1) := by decide +kernel
theorem g148_10 : m_get 148 10 = some (.istore_n 3, 1) := by decide +kernel
theorem g148_11 : m_get 148 11 = some (.iload_n 1, 1) := by decide +kernel
theorem g148_12 : m_get 148 12 = some (.iload_n 2, 1) := by decide +kernel
theorem g148_13 : m_get 148 13 = some (.if_icmp .ge 7, 3) := by decide +kernel
theorem g148_16 : m_get 148 16 = some (.iload_n 2, 1) := by decide +kernel
theorem g148_17 : m_get 148 17 = some (.goto 4, 3) := by decide +kernel
theorem g148_20 : m_get 148 20 = some (.iload_n 1, 1) := by decide +kernel
theorem g148_21 : m_get 148 21 = some (.istore 4, 2) := by decide +kernel
theorem g148_23 : m_get 148 23 = some (.iconst 0, 1) := by decide +kernel
theorem g148_24 : m_get 148 24 = some (.istore 5, 2) := by decide +kernel
theorem g148_26 : m_get 148 26 = some (.iload 5, 2) := by decide +kernel
theorem g148_28 : m_get 148 28 = some (.iconst 3, 1) := by decide +kernel
theorem g148_29 : m_get 148 29 = some (.if_icmp .ge 35, 3) := by decide +kernel
theorem g148_32 : m_get 148 32 = some (.aload_n 0, 1) := by decide +kernel
theorem g148_33 : m_get 148 33 = some (.iload 5, 2) := by decide +kernel
theorem g148_35 : m_get 148 35 = some (.iconst 0, 1) := by decide +kernel
theorem g148_36 : m_get 148 36 = some (.invokevirtual 201, 3) := by decide +kernel
theorem g148_39 : m_get 148 39 = some (.iload_n 3, 1) := by decide +kernel
theorem g148_40 : m_get 148 40 = some (.if_icmp .ne 18, 3) := by decide +kernel
theorem g148_43 : m_get 148 43 = some (.aload_n 0, 1) := by decide +kernel
theorem g148_44 : m_get 148 44 = some (.iload 5, 2) := by decide +kernel
theorem g148_46 : m_get 148 46 = some (.iconst 1, 1) := by decide +kernel
theorem g148_47 : m_get 148 47 = some (.invokevirtual 201, 3) := by decide +kernel
theorem g148_50 : m_get 148 50 = some (.iload 4, 2) := by decide +kernel
theorem g148_52 : m_get 148 52 = some (.if_icmp .ne 6, 3) := by decide +kernel
theorem g148_55 : m_get 148 55 = some (.iload 5, 2) := by decide +kernel
theorem g148_57 : m_get 148 57 = some (.ireturn, 1) := by decide +kernel
theorem g148_58 : m_get 148 58 = some (.iinc 5 1, 3) := by decide +kernel
theorem g148_61 : m_get 148 61 = some (.goto (-35), 3) := by decide +kernel
theorem g148_64 : m_get 148 64 = some (.bipush (-9), 2) := by decide +kernel
theorem g148_66 : m_get 148 66 = some (.ireturn, 1) := by decide +kernel
theorem k148_201 : m_ml (m_own 148) 201 = some (0, 147) := by decide +kernel
theorem g149_0 : m_get 149 0 = some (.aload_n 0, 1) := by decide +kernel
theorem g149_1 : m_get 149 1 = some (.getfield 56, 3) := by decide +kernel
theorem g149_4 : m_get 149 4 = some (.iload_n 2, 1) := by decide +kernel
theorem g149_5 : m_get 149 5 = some (.iaload, 1) := by decide +kernel
theorem g149_6 : m_get 149 6 = some (.aload_n 0, 1) := by decide +kernel
theorem g149_7 : m_get 149 7 = some (.getfield 56, 3) := by decide +kernel
theorem g149_10 : m_get 149 10 = some (.iload_n 3, 1) := by decide +kernel
theorem g149_11 : m_get 149 11 = some (.iaload, 1) := by decide +kernel
theorem g149_12 : m_get 149 12 = some (.iadd, 1) := by decide +kernel
theorem g149_13 : m_get 149 13 = some (.istore 5, 2) := by decide +kernel
theorem g149_15 : m_get 149 15 = some (.iload 5, 2) := by decide +kernel
theorem g149_17 : m_get 149 17 = some (.aload_n 0, 1) := by decide +kernel
theorem g149_18 : m_get 149 18 = some (.getfield 56, 3) := by decide +kernel
theorem g149_21 : m_get 149 21 = some (.iload_n 1, 1) := by decide +kernel
theorem g149_22 : m_get 149 22 = some (.iaload, 1) := by decide +kernel
theorem g149_23 : m_get 149 23 = some (.if_icmp .le 68, 3) := by decide +kernel
theorem g149_26 : m_get 149 26 = some (.aload_n 0, 1) := by decide +kernel
theorem g149_27 : m_get 149 27 = some (.getfield 56, 3) := by decide +kernel
theorem g149_30 : m_get 149 30 = some (.iload_n 1, 1) := by decide +kernel
theorem g149_31 : m_get 149 31 = some (.iload 5, 2) := by decide +kernel
theorem g149_33 : m_get 149 33 = some (.iastore, 1) := by decide +kernel
theorem g149_34 : m_get 149 34 = some (.aload_n 0, 1) := by decide +kernel
theorem g149_35 : m_get 149 35 = some (.getfield 59, 3) := by decide +kernel
theorem g149_38 : m_get 149 38 = some (.iload_n 1, 1) := by decide +kernel
theorem g149_39 : m_get 149 39 = some (.iload 4, 2) := by decide +kernel
theorem g149_41 : m_get 149 41 = some (.iastore, 1) := by decide +kernel
theorem g149_42 : m_get 149 42 = some (.iconst 0, 1) := by decide +kernel
theorem g149_43 : m_get 149 43 = some (.istore 6, 2) := by decide +kernel
theorem g149_45 : m_get 149 45 = some (.iload 6, 2) := by decide +kernel
theorem g149_47 : m_get 149 47 = some (.iconst 3, 1) := by decide +kernel
theorem g149_48 : m_get 149 48 = some (.if_icmp .ge 43, 3) := by decide +kernel
theorem g149_51 : m_get 149 51 = some (.aload_n 0, 1) := by decide +kernel
theorem g149_52 : m_get 149 52 = some (.getfield 62, 3) := by decide +kernel
theorem g149_55 : m_get 149 55 = some (.iconst 3, 1) := by decide +kernel
theorem g149_56 : m_get 149 56 = some (.iload_n 1, 1) := by decide +kernel
theorem g149_57 : m_get 149 57 = some (.imul, 1) := by decide +kernel
theorem g149_58 : m_get 149 58 = some (.iload 6, 2) := by decide +kernel
theorem g149_60 : m_get 149 60 = some (.iadd, 1) := by decide +kernel
theorem g149_61 : m_get 149 61 = some (.aload_n 0, 1) := by decide +kernel
theorem g149_62 : m_get 149 62 = some (.getfield 62, 3) := by decide +kernel
theorem g149_65 : m_get 149 65 = some (.iconst 3, 1) := by decide +kernel
theorem g149_66 : m_get 149 66 = some (.iload_n 2, 1) := by decide +kernel
theorem g149_67 : m_get 149 67 = some (.imul, 1) := by decide +kernel
theorem g149_68 : m_get 149 68 = some (.iload 6, 2) := by decide +kernel
theorem g149_70 : m_get 149 70 = some (.iadd, 1) := by decide +kernel
theorem g149_71 : m_get 149 71 = some (.iaload, 1) := by decide +kernel
theorem g149_72 : m_get 149 72 = some (.aload_n 0, 1) := by decide +kernel
theorem g149_73 : m_get 149 73 = some (.getfield 62, 3) := by decide +kernel
theorem g149_76 : m_get 149 76 = some (.iconst 3, 1) := by decide +kernel
theorem g149_77 : m_get 149 77 = some (.iload_n 3, 1) := by decide +kernel
theorem g149_78 : m_get 149 78 = some (.imul, 1) := by decide +kernel
theorem g149_79 : m_get 149 79 = some (.iload 6, 2) := by decide +kernel
theorem g149_81 : m_get 149 81 = some (.iadd, 1) := by decide +kernel
theorem g149_82 : m_get 149 82 = some (.iaload, 1) := by decide +kernel
theorem g149_83 : m_get 149 83 = some (.iadd, 1) := by decide +kernel
theorem g149_84 : m_get 149 84 = some (.iastore, 1) := by decide +kernel
theorem g149_85 : m_get 149 85 = some (.iinc 6 1, 3) := by decide +kernel
theorem g149_88 : m_get 149 88 = some (.goto (-43), 3) := by decide +kernel
theorem g149_91 : m_get 149 91 = some (.return_, 1) := by decide +kernel
theorem f149_56 : m_fl (m_own 149) 56 = some (7, 27) := by decide +kernel
theorem f149_59 : m_fl (m_own 149) 59 = some (7, 28) := by decide +kernel
theorem f149_62 : m_fl (m_own 149) 62 = some (7, 29) := by decide +kernel
theorem g150_0 : m_get 150 0 = some (.bipush 25, 2) := by decide +kernel
theorem g150_2 : m_get 150 2 = some (.iload_n 1, 1) := by decide +kernel
theorem g150_3 : m_get 150 3 = some (.imul, 1) := by decide +kernel
theorem g150_4 : m_get 150 4 = some (.iload_n 2, 1) := by decide +kernel
theorem g150_5 : m_get 150 5 = some (.iadd, 1) := by decide +kernel
theorem g150_6 : m_get 150 6 = some (.istore_n 3, 1) := by decide +kernel
theorem g150_7 : m_get 150 7 = some (.aload_n 0, 1) := by decide +kernel
theorem g150_8 : m_get 150 8 = some (.iload_n 1, 1) := by decide +kernel
theorem g150_9 : m_get 150 9 = some (.iload_n 2, 1) := by decide +kernel
theorem g150_10 : m_get 150 10 = some (.invokevirtual 205, 3) := by decide +kernel
theorem g150_13 : m_get 150 13 = some (.istore 4, 2) := by decide +kernel
theorem g150_15 : m_get 150 15 = some (.aload_n 0, 1) := by decide +kernel
theorem g150_16 : m_get 150 16 = some (.getfield 56, 3) := by decide +kernel
theorem g150_19 : m_get 150 19 = some (.iload_n 3, 1) := by decide +kernel
theorem g150_20 : m_get 150 20 = some (.iload 4, 2) := by decide +kernel
theorem g150_22 : m_get 150 22 = some (.bipush (-9), 2) := by decide +kernel
theorem g150_24 : m_get 150 24 = some (.if_icmp .ne 7, 3) := by decide +kernel
theorem g150_27 : m_get 150 27 = some (.iconst 0, 1) := by decide +kernel
theorem g150_28 : m_get 150 28 = some (.goto 6, 3) := by decide +kernel
theorem g150_31 : m_get 150 31 = some (.iload_n 1, 1) := by decide +kernel
theorem g150_32 : m_get 150 32 = some (.iload_n 2, 1) := by decide +kernel
theorem g150_33 : m_get 150 33 = some (.imul, 1) := by decide +kernel
theorem g150_34 : m_get 150 34 = some (.iastore, 1) := by decide +kernel
theorem g150_35 : m_get 150 35 = some (.aload_n 0, 1) := by decide +kernel
theorem g150_36 : m_get 150 36 = some (.getfield 59, 3) := by decide +kernel
theorem g150_39 : m_get 150 39 = some (.iload_n 3, 1) := by decide +kernel
theorem g150_40 : m_get 150 40 = some (.iload 4, 2) := by decide +kernel
theorem g150_42 : m_get 150 42 = some (.bipush (-9), 2) := by decide +kernel
theorem g150_44 : m_get 150 44 = some (.if_icmp .ne 7, 3) := by decide +kernel
theorem g150_47 : m_get 150 47 = some (.iconst 0, 1) := by decide +kernel
theorem g150_48 : m_get 150 48 = some (.goto 7, 3) := by decide +kernel
theorem g150_51 : m_get 150 51 = some (.iconst 1, 1) := by decide +kernel
theorem g150_52 : m_get 150 52 = some (.iload 4, 2) := by decide +kernel
theorem g150_54 : m_get 150 54 = some (.iadd, 1) := by decide +kernel
theorem g150_55 : m_get 150 55 = some (.iastore, 1) := by decide +kernel
theorem g150_56 : m_get 150 56 = some (.iconst 0, 1) := by decide +kernel
theorem g150_57 : m_get 150 57 = some (.istore 5, 2) := by decide +kernel
theorem g150_59 : m_get 150 59 = some (.iload 5, 2) := by decide +kernel
theorem g150_61 : m_get 150 61 = some (.iconst 3, 1) := by decide +kernel
theorem g150_62 : m_get 150 62 = some (.if_icmp .ge 32, 3) := by decide +kernel
theorem g150_65 : m_get 150 65 = some (.aload_n 0, 1) := by decide +kernel
theorem g150_66 : m_get 150 66 = some (.getfield 62, 3) := by decide +kernel
theorem g150_69 : m_get 150 69 = some (.iconst 3, 1) := by decide +kernel
theorem g150_70 : m_get 150 70 = some (.iload_n 3, 1) := by decide +kernel
theorem g150_71 : m_get 150 71 = some (.imul, 1) := by decide +kernel
theorem g150_72 : m_get 150 72 = some (.iload 5, 2) := by decide +kernel
theorem g150_74 : m_get 150 74 = some (.iadd, 1) := by decide +kernel
theorem g150_75 : m_get 150 75 = some (.iload 5, 2) := by decide +kernel
theorem g150_77 : m_get 150 77 = some (.iload 4, 2) := by decide +kernel
theorem g150_79 : m_get 150 79 = some (.if_icmp .ne 7, 3) := by decide +kernel
theorem g150_82 : m_get 150 82 = some (.iconst 1, 1) := by decide +kernel
theorem g150_83 : m_get 150 83 = some (.goto 4, 3) := by decide +kernel
theorem g150_86 : m_get 150 86 = some (.iconst 0, 1) := by decide +kernel
theorem g150_87 : m_get 150 87 = some (.iastore, 1) := by decide +kernel
theorem g150_88 : m_get 150 88 = some (.iinc 5 1, 3) := by decide +kernel
theorem g150_91 : m_get 150 91 = some (.goto (-32), 3) := by decide +kernel
theorem g150_94 : m_get 150 94 = some (.iconst 1, 1) := by decide +kernel
theorem g150_95 : m_get 150 95 = some (.istore 5, 2) := by decide +kernel
theorem g150_97 : m_get 150 97 = some (.iload 5, 2) := by decide +kernel
theorem g150_99 : m_get 150 99 = some (.iload_n 1, 1) := by decide +kernel
theorem g150_100 : m_get 150 100 = some (.if_icmp .ge 42, 3) := by decide +kernel
theorem g150_103 : m_get 150 103 = some (.iload 4, 2) := by decide +kernel
theorem g150_105 : m_get 150 105 = some (.bipush (-9), 2) := by decide +kernel
theorem g150_107 : m_get 150 107 = some (.if_icmp .ne 35, 3) := by decide +kernel
theorem g150_110 : m_get 150 110 = some (.aload_n 0, 1) := by decide +kernel
theorem g150_111 : m_get 150 111 = some (.iload_n 3, 1) := by decide +kernel
theorem g150_112 : m_get 150 112 = some (.bipush 25, 2) := by decide +kernel
theorem g150_114 : m_get 150 114 = some (.iload 5, 2) := by decide +kernel
theorem g150_116 : m_get 150 116 = some (.imul, 1) := by decide +kernel
theorem g150_117 : m_get 150 117 = some (.iload_n 2, 1) := by decide +kernel
theorem g150_118 : m_get 150 118 = some (.iadd, 1) := by decide +kernel
theorem g150_119 : m_get 150 119 = some (.bipush 25, 2) := by decide +kernel
theorem g150_121 : m_get 150 121 = some (.iload_n 1, 1) := by decide +kernel
theorem g150_122 : m_get 150 122 = some (.iload 5, 2) := by decide +kernel
theorem g150_124 : m_get 150 124 = some (.isub, 1) := by decide +kernel
theorem g150_125 : m_get 150 125 = some (.imul, 1) := by decide +kernel
theorem g150_126 : m_get 150 126 = some (.iload_n 2, 1) := by decide +kernel
theorem g150_127 : m_get 150 127 = some (.iadd, 1) := by decide +kernel
theorem g150_128 : m_get 150 128 = some (.bipush 100, 2) := by decide +kernel
theorem g150_130 : m_get 150 130 = some (.iload 5, 2) := by decide +kernel
theorem g150_132 : m_get 150 132 = some (.iadd, 1) := by decide +kernel
theorem g150_133 : m_get 150 133 = some (.invokevirtual 208, 3) := by decide +kernel
theorem g150_136 : m_get 150 136 = some (.iinc 5 1, 3) := by decide +kernel
theorem g150_139 : m_get 150 139 = some (.goto (-42), 3) := by decide +kernel
theorem g150_142 : m_get 150 142 = some (.iconst 1, 1) := by decide +kernel
theorem g150_143 : m_get 150 143 = some (.istore 5, 2) := by decide +kernel
theorem g150_145 : m_get 150 145 = some (.iload 5, 2) := by decide +kernel
theorem g150_147 : m_get 150 147 = some (.iload_n 2, 1) := by decide +kernel
theorem g150_148 : m_get 150 148 = some (.if_icmp .ge 43, 3) := by decide +kernel
theorem g150_151 : m_get 150 151 = some (.iload 4, 2) := by decide +kernel
theorem g150_153 : m_get 150 153 = some (.bipush (-9), 2) := by decide +kernel
theorem g150_155 : m_get 150 155 = some (.if_icmp .ne 36, 3) := by decide +kernel
theorem g150_158 : m_get 150 158 = some (.aload_n 0, 1) := by decide +kernel
theorem g150_159 : m_get 150 159 = some (.iload_n 3, 1) := by decide +kernel
theorem g150_160 : m_get 150 160 = some (.bipush 25, 2) := by decide +kernel
theorem g150_162 : m_get 150 162 = some (.iload_n 1, 1) := by decide +kernel
theorem g150_163 : m_get 150 163 = some (.imul, 1) := by decide +kernel
theorem g150_164 : m_get 150 164 = some (.iload 5, 2) := by decide +kernel
theorem g150_166 : m_get 150 166 = some (.iadd, 1) := by decide +kernel
theorem g150_167 : m_get 150 167 = some (.bipush 25, 2) := by decide +kernel
theorem g150_169 : m_get 150 169 = some (.iload_n 1, 1) := by decide +kernel
theorem g150_170 : m_get 150 170 = some (.imul, 1) := by decide +kernel
theorem g150_171 : m_get 150 171 = some (.iload_n 2, 1) := by decide +kernel
theorem g150_172 : m_get 150 172 = some (.iadd, 1) := by decide +kernel
theorem g150_173 : m_get 150 173 = some (.iload 5, 2) := by decide +kernel
theorem g150_175 : m_get 150 175 = some (.isub, 1) := by decide +kernel
theorem g150_176 : m_get 150 176 = some (.sipush 200, 3) := by decide +kernel
theorem g150_179 : m_get 150 179 = some (.iload 5, 2) := by decide +kernel
theorem g150_181 : m_get 150 181 = some (.iadd, 1) := by decide +kernel
theorem g150_182 : m_get 150 182 = some (.invokevirtual 208, 3) := by decide +kernel
theorem g150_185 : m_get 150 185 = some (.iinc 5 1, 3) := by decide +kernel
theorem g150_188 : m_get 150 188 = some (.goto (-43), 3) := by decide +kernel
theorem g150_191 : m_get 150 191 = some (.return_, 1) := by decide +kernel
theorem f150_56 : m_fl (m_own 150) 56 = some (7, 27) := by decide +kernel
theorem f150_59 : m_fl (m_own 150) 59 = some (7, 28) := by decide +kernel
theorem f150_62 : m_fl (m_own 150) 62 = some (7, 29) := by decide +kernel
theorem k150_205 : m_ml (m_own 150) 205 = some (0, 148) := by decide +kernel
theorem k150_208 : m_ml (m_own 150) 208 = some (0, 149) := by decide +kernel
theorem g151_0 : m_get 151 0 = some (.iconst 1, 1) := by decide +kernel
theorem g151_1 : m_get 151 1 = some (.istore_n 1, 1) := by decide +kernel
theorem g151_2 : m_get 151 2 = some (.iload_n 1, 1) := by decide +kernel
theorem g151_3 : m_get 151 3 = some (.bipush 24, 2) := by decide +kernel
theorem g151_5 : m_get 151 5 = some (.if_icmp .gt 29, 3) := by decide +kernel
theorem g151_8 : m_get 151 8 = some (.iconst 1, 1) := by decide +kernel
theorem g151_9 : m_get 151 9 = some (.istore_n 2, 1) := by decide +kernel
theorem g151_10 : m_get 151 10 = some (.iload_n 2, 1) := by decide +kernel
theorem g151_11 : m_get 151 11 = some (.bipush 24, 2) := by decide +kernel
theorem g151_13 : m_get 151 13 = some (.if_icmp .gt 15, 3) := by decide +kernel
theorem g151_16 : m_get 151 16 = some (.aload_n 0, 1) := by decide +kernel
theorem g151_17 : m_get 151 17 = some (.iload_n 1, 1) := by decide +kernel
theorem g151_18 : m_get 151 18 = some (.iload_n 2, 1) := by decide +kernel
theorem g151_19 : m_get 151 19 = some (.invokevirtual 212, 3) := by decide +kernel
theorem g151_22 : m_get 151 22 = some (.iinc 2 1, 3) := by decide +kernel
theorem g151_25 : m_get 151 25 = some (.goto (-15), 3) := by decide +kernel
theorem g151_28 : m_get 151 28 = some (.iinc 1 1, 3) := by decide +kernel
theorem g151_31 : m_get 151 31 = some (.goto (-29), 3) := by decide +kernel
theorem g151_34 : m_get 151 34 = some (.return_, 1) := by decide +kernel
theorem k151_212 : m_ml (m_own 151) 212 = some (0, 150) := by decide +kernel
theorem g152_0 : m_get 152 0 = some (.iload_n 0, 1) := by decide +kernel
theorem g152_1 : m_get 152 1 = some (.iconst 1, 1) := by decide +kernel
theorem g152_2 : m_get 152 2 = some (.bipush 24, 2) := by decide +kernel
theorem g152_4 : m_get 152 4 = some (.invokestatic 81, 3) := by decide +kernel
theorem g152_7 : m_get 152 7 = some (.ifCond .eq 17, 3) := by decide +kernel
theorem g152_10 : m_get 152 10 = some (.iload_n 1, 1) := by decide +kernel
theorem g152_11 : m_get 152 11 = some (.iconst 1, 1) := by decide +kernel
theorem g152_12 : m_get 152 12 = some (.bipush 24, 2) := by decide +kernel
theorem g152_14 : m_get 152 14 = some (.invokestatic 81, 3) := by decide +kernel
theorem g152_17 : m_get 152 17 = some (.ifCond .eq 7, 3) := by decide +kernel
theorem g152_20 : m_get 152 20 = some (.iconst 1, 1) := by decide +kernel
theorem g152_21 : m_get 152 21 = some (.goto 4, 3) := by decide +kernel
theorem g152_24 : m_get 152 24 = some (.iconst 0, 1) := by decide +kernel
theorem g152_25 : m_get 152 25 = some (.ireturn, 1) := by decide +kernel
theorem k152_81 : m_ml (m_own 152) 81 = some (1, 97) := by decide +kernel
theorem g153_0 : m_get 153 0 = some (.iload_n 1, 1) := by decide +kernel
theorem g153_1 : m_get 153 1 = some (.iconst 0, 1) := by decide +kernel
theorem g153_2 : m_get 153 2 = some (.iconst 2, 1) := by decide +kernel
theorem g153_3 : m_get 153 3 = some (.invokestatic 81, 3) := by decide +kernel
theorem g153_6 : m_get 153 6 = some (.ifCond .eq 30, 3) := by decide +kernel
theorem g153_9 : m_get 153 9 = some (.iload_n 2, 1) := by decide +kernel
theorem g153_10 : m_get 153 10 = some (.iconst 0, 1) := by decide +kernel
theorem g153_11 : m_get 153 11 = some (.iconst 1, 1) := by decide +kernel
theorem g153_12 : m_get 153 12 = some (.invokestatic 81, 3) := by decide +kernel
theorem g153_15 : m_get 153 15 = some (.ifCond .eq 21, 3) := by decide +kernel
theorem g153_18 : m_get 153 18 = some (.aload_n 0, 1) := by decide +kernel
theorem g153_19 : m_get 153 19 = some (.iload_n 1, 1) := by decide +kernel
theorem g153_20 : m_get 153 20 = some (.iload_n 2, 1) := by decide +kernel
theorem g153_21 : m_get 153 21 = some (.iconst 1, 1) := by decide +kernel
theorem g153_22 : m_get 153 22 = some (.if_icmp .ne 7, 3) := by decide +kernel
theorem g153_25 : m_get 153 25 = some (.iconst 1, 1) := by decide +kernel
theorem g153_26 : m_get 153 26 = some (.goto 4, 3) := by decide +kernel
theorem g153_29 : m_get 153 29 = some (.iconst 0, 1) := by decide +kernel
theorem g153_30 : m_get 153 30 = some (.invokevirtual 201, 3) := by decide +kernel
theorem g153_33 : m_get 153 33 = some (.goto 4, 3) := by decide +kernel
theorem g153_36 : m_get 153 36 = some (.iconst (-1), 1) := by decide +kernel
theorem g153_37 : m_get 153 37 = some (.ireturn, 1) := by decide +kernel
theorem k153_81 : m_ml (m_own 153) 81 = some (1, 97) := by decide +kernel
theorem k153_201 : m_ml (m_own 153) 201 = some (0, 147) := by decide +kernel
theorem g154_0 : m_get 154 0 = some (.iload_n 1, 1) := by decide +kernel
theorem g154_1 : m_get 154 1 = some (.iload_n 2, 1) := by decide +kernel
theorem g154_2 : m_get 154 2 = some (.invokestatic 216, 3) := by decide +kernel
theorem g154_5 : m_get 154 5 = some (.ifCond .ne 5, 3) := by decide +kernel
theorem g154_8 : m_get 154 8 = some (.iconst (-1), 1) := by decide +kernel
theorem g154_9 : m_get 154 9 = some (.ireturn, 1) := by decide +kernel
theorem g154_10 : m_get 154 10 = some (.aload_n 0, 1) := by decide +kernel
theorem g154_11 : m_get 154 11 = some (.invokevirtual 219, 3) := by decide +kernel
theorem g154_14 : m_get 154 14 = some (.aload_n 0, 1) := by decide +kernel
theorem g154_15 : m_get 154 15 = some (.getfield 56, 3) := by decide +kernel
theorem g154_18 : m_get 154 18 = some (.bipush 25, 2) := by decide +kernel
theorem g154_20 : m_get 154 20 = some (.iload_n 1, 1) := by decide +kernel
theorem g154_21 : m_get 154 21 = some (.imul, 1) := by decide +kernel
theorem g154_22 : m_get 154 22 = some (.iload_n 2, 1) := by decide +kernel
theorem g154_23 : m_get 154 23 = some (.iadd, 1) := by decide +kernel
theorem g154_24 : m_get 154 24 = some (.iaload, 1) := by decide +kernel
theorem g154_25 : m_get 154 25 = some (.ireturn, 1) := by decide +kernel
theorem f154_56 : m_fl (m_own 154) 56 = some (7, 27) := by decide +kernel
theorem k154_216 : m_ml (m_own 154) 216 = some (1, 152) := by decide +kernel
theorem k154_219 : m_ml (m_own 154) 219 = some (0, 151) := by decide +kernel
theorem g155_0 : m_get 155 0 = some (.iload_n 1, 1) := by decide +kernel
theorem g155_1 : m_get 155 1 = some (.iload_n 2, 1) := by decide +kernel
theorem g155_2 : m_get 155 2 = some (.invokestatic 216, 3) := by decide +kernel
theorem g155_5 : m_get 155 5 = some (.ifCond .ne 5, 3) := by decide +kernel
theorem g155_8 : m_get 155 8 = some (.iconst (-1), 1) := by decide +kernel
theorem g155_9 : m_get 155 9 = some (.ireturn, 1) := by decide +kernel
theorem g155_10 : m_get 155 10 = some (.aload_n 0, 1) := by decide +kernel
theorem g155_11 : m_get 155 11 = some (.invokevirtual 219, 3) := by decide +kernel
theorem g155_14 : m_get 155 14 = some (.aload_n 0, 1) := by decide +kernel
theorem g155_15 : m_get 155 15 = some (.getfield 59, 3) := by decide +kernel
theorem g155_18 : m_get 155 18 = some (.bipush 25, 2) := by decide +kernel
theorem g155_20 : m_get 155 20 = some (.iload_n 1, 1) := by decide +kernel
theorem g155_21 : m_get 155 21 = some (.imul, 1) := by decide +kernel
theorem g155_22 : m_get 155 22 = some (.iload_n 2, 1) := by decide +kernel
theorem g155_23 : m_get 155 23 = some (.iadd, 1) := by decide +kernel
theorem g155_24 : m_get 155 24 = some (.iaload, 1) := by decide +kernel
theorem g155_25 : m_get 155 25 = some (.ireturn, 1) := by decide +kernel
theorem f155_59 : m_fl (m_own 155) 59 = some (7, 28) := by decide +kernel
theorem k155_216 : m_ml (m_own 155) 216 = some (1, 152) := by decide +kernel
theorem k155_219 : m_ml (m_own 155) 219 = some (0, 151) := by decide +kernel
theorem g156_0 : m_get 156 0 = some (.iload_n 1, 1) := by decide +kernel
theorem g156_1 : m_get 156 1 = some (.iload_n 2, 1) := by decide +kernel
theorem g156_2 : m_get 156 2 = some (.invokestatic 216, 3) := by decide +kernel
theorem g156_5 : m_get 156 5 = some (.ifCond .eq 12, 3) := by decide +kernel
theorem g156_8 : m_get 156 8 = some (.iload_n 3, 1) := by decide +kernel
theorem g156_9 : m_get 156 9 = some (.iconst 0, 1) := by decide +kernel
theorem g156_10 : m_get 156 10 = some (.iconst 2, 1) := by decide +kernel
theorem g156_11 : m_get 156 11 = some (.invokestatic 81, 3) := by decide +kernel
theorem g156_14 : m_get 156 14 = some (.ifCond .ne 5, 3) := by decide +kernel
theorem g156_17 : m_get 156 17 = some (.iconst (-1), 1) := by decide +kernel
theorem g156_18 : m_get 156 18 = some (.ireturn, 1) := by decide +kernel
theorem g156_19 : m_get 156 19 = some (.aload_n 0, 1) := by decide +kernel
theorem g156_20 : m_get 156 20 = some (.invokevirtual 219, 3) := by decide +kernel
theorem g156_23 : m_get 156 23 = some (.aload_n 0, 1) := by decide +kernel
theorem g156_24 : m_get 156 24 = some (.getfield 62, 3) := by decide +kernel
theorem g156_27 : m_get 156 27 = some (.iconst 3, 1) := by decide +kernel
theorem g156_28 : m_get 156 28 = some (.bipush 25, 2) := by decide +kernel
theorem g156_30 : m_get 156 30 = some (.iload_n 1, 1) := by decide +kernel
theorem g156_31 : m_get 156 31 = some (.imul, 1) := by decide +kernel
theorem g156_32 : m_get 156 32 = some (.iload_n 2, 1) := by decide +kernel
theorem g156_33 : m_get 156 33 = some (.iadd, 1) := by decide +kernel
theorem g156_34 : m_get 156 34 = some (.imul, 1) := by decide +kernel
theorem g156_35 : m_get 156 35 = some (.iload_n 3, 1) := by decide +kernel
theorem g156_36 : m_get 156 36 = some (.iadd, 1) := by decide +kernel
theorem g156_37 : m_get 156 37 = some (.iaload, 1) := by decide +kernel
theorem g156_38 : m_get 156 38 = some (.ireturn, 1) := by decide +kernel
theorem f156_62 : m_fl (m_own 156) 62 = some (7, 29) := by decide +kernel
theorem k156_81 : m_ml (m_own 156) 81 = some (1, 97) := by decide +kernel
theorem k156_216 : m_ml (m_own 156) 216 = some (1, 152) := by decide +kernel
theorem k156_219 : m_ml (m_own 156) 219 = some (0, 151) := by decide +kernel
theorem g157_0 : m_get 157 0 = some (.iload_n 1, 1) := by decide +kernel
theorem g157_1 : m_get 157 1 = some (.iconst 0, 1) := by decide +kernel
theorem g157_2 : m_get 157 2 = some (.iconst 1, 1) := by decide +kernel
theorem g157_3 : m_get 157 3 = some (.invokestatic 81, 3) := by decide +kernel
theorem g157_6 : m_get 157 6 = some (.ifCond .ne 5, 3) := by decide +kernel
theorem g157_9 : m_get 157 9 = some (.iconst (-1), 1) := by decide +kernel
theorem g157_10 : m_get 157 10 = some (.ireturn, 1) := by decide +kernel
theorem g157_11 : m_get 157 11 = some (.iconst 0, 1) := by decide +kernel
theorem g157_12 : m_get 157 12 = some (.istore_n 2, 1) := by decide +kernel
theorem g157_13 : m_get 157 13 = some (.iload_n 2, 1) := by decide +kernel
theorem g157_14 : m_get 157 14 = some (.bipush 15, 2) := by decide +kernel
theorem g157_16 : m_get 157 16 = some (.if_icmp .ge 26, 3) := by decide +kernel
theorem g157_19 : m_get 157 19 = some (.aload_n 0, 1) := by decide +kernel
theorem g157_20 : m_get 157 20 = some (.getfield 26, 3) := by decide +kernel
theorem g157_23 : m_get 157 23 = some (.bipush 15, 2) := by decide +kernel
theorem g157_25 : m_get 157 25 = some (.iload_n 1, 1) := by decide +kernel
theorem g157_26 : m_get 157 26 = some (.imul, 1) := by decide +kernel
theorem g157_27 : m_get 157 27 = some (.iload_n 2, 1) := by decide +kernel
theorem g157_28 : m_get 157 28 = some (.iadd, 1) := by decide +kernel
theorem g157_29 : m_get 157 29 = some (.aload_n 0, 1) := by decide +kernel
theorem g157_30 : m_get 157 30 = some (.getfield 16, 3) := by decide +kernel
theorem g157_33 : m_get 157 33 = some (.iload_n 2, 1) := by decide +kernel
theorem g157_34 : m_get 157 34 = some (.iaload, 1) := by decide +kernel
theorem g157_35 : m_get 157 35 = some (.iastore, 1) := by decide +kernel
theorem g157_36 : m_get 157 36 = some (.iinc 2 1, 3) := by decide +kernel
theorem g157_39 : m_get 157 39 = some (.goto (-26), 3) := by decide +kernel
theorem g157_42 : m_get 157 42 = some (.aload_n 0, 1) := by decide +kernel
theorem g157_43 : m_get 157 43 = some (.getfield 22, 3) := by decide +kernel
theorem g157_46 : m_get 157 46 = some (.iload_n 1, 1) := by decide +kernel
theorem g157_47 : m_get 157 47 = some (.iconst 1, 1) := by decide +kernel
theorem g157_48 : m_get 157 48 = some (.bastore, 1) := by decide +kernel
theorem g157_49 : m_get 157 49 = some (.aload_n 0, 1) := by decide +kernel
theorem g157_50 : m_get 157 50 = some (.invokevirtual 158, 3) := by decide +kernel
theorem g157_53 : m_get 157 53 = some (.ireturn, 1) := by decide +kernel
theorem f157_16 : m_fl (m_own 157) 16 = some (7, 3) := by decide +kernel
theorem f157_22 : m_fl (m_own 157) 22 = some (7, 6) := by decide +kernel
theorem f157_26 : m_fl (m_own 157) 26 = some (7, 7) := by decide +kernel
theorem k157_81 : m_ml (m_own 157) 81 = some (1, 97) := by decide +kernel
theorem k157_158 : m_ml (m_own 157) 158 = some (0, 123) := by decide +kernel
theorem g158_0 : m_get 158 0 = some (.iload_n 1, 1) := by decide +kernel
theorem g158_1 : m_get 158 1 = some (.iconst 0, 1) := by decide +kernel
theorem g158_2 : m_get 158 2 = some (.iconst 1, 1) := by decide +kernel
theorem g158_3 : m_get 158 3 = some (.invokestatic 81, 3) := by decide +kernel
theorem g158_6 : m_get 158 6 = some (.ifCond .ne 5, 3) := by decide +kernel
theorem g158_9 : m_get 158 9 = some (.iconst (-1), 1) := by decide +kernel
theorem g158_10 : m_get 158 10 = some (.ireturn, 1) := by decide +kernel
theorem g158_11 : m_get 158 11 = some (.aload_n 0, 1) := by decide +kernel
theorem g158_12 : m_get 158 12 = some (.getfield 22, 3) := by decide +kernel
theorem g158_15 : m_get 158 15 = some (.iload_n 1, 1) := by decide +kernel
theorem g158_16 : m_get 158 16 = some (.baload, 1) := by decide +kernel
theorem g158_17 : m_get 158 17 = some (.ifCond .ne 6, 3) := by decide +kernel
theorem g158_20 : m_get 158 20 = some (.bipush (-2), 2) := by decide +kernel
theorem g158_22 : m_get 158 22 = some (.ireturn, 1) := by decide +kernel
theorem g158_23 : m_get 158 23 = some (.iconst 0, 1) := by decide +kernel
theorem g158_24 : m_get 158 24 = some (.istore_n 2, 1) := by decide +kernel
theorem g158_25 : m_get 158 25 = some (.iload_n 2, 1) := by decide +kernel
theorem g158_26 : m_get 158 26 = some (.bipush 15, 2) := by decide +kernel
theorem g158_28 : m_get 158 28 = some (.if_icmp .ge 26, 3) := by decide +kernel
theorem g158_31 : m_get 158 31 = some (.aload_n 0, 1) := by decide +kernel
theorem g158_32 : m_get 158 32 = some (.getfield 16, 3) := by decide +kernel
theorem g158_35 : m_get 158 35 = some (.iload_n 2, 1) := by decide +kernel
theorem g158_36 : m_get 158 36 = some (.aload_n 0, 1) := by decide +kernel
theorem g158_37 : m_get 158 37 = some (.getfield 26, 3) := by decide +kernel
theorem g158_40 : m_get 158 40 = some (.bipush 15, 2) := by decide +kernel
theorem g158_42 : m_get 158 42 = some (.iload_n 1, 1) := by decide +kernel
theorem g158_43 : m_get 158 43 = some (.imul, 1) := by decide +kernel
theorem g158_44 : m_get 158 44 = some (.iload_n 2, 1) := by decide +kernel
theorem g158_45 : m_get 158 45 = some (.iadd, 1) := by decide +kernel
theorem g158_46 : m_get 158 46 = some (.iaload, 1) := by decide +kernel
theorem g158_47 : m_get 158 47 = some (.iastore, 1) := by decide +kernel
theorem g158_48 : m_get 158 48 = some (.iinc 2 1, 3) := by decide +kernel
theorem g158_51 : m_get 158 51 = some (.goto (-26), 3) := by decide +kernel
theorem g158_54 : m_get 158 54 = some (.aload_n 0, 1) := by decide +kernel
theorem g158_55 : m_get 158 55 = some (.iconst 0, 1) := by decide +kernel
theorem g158_56 : m_get 158 56 = some (.putfield 78, 3) := by decide +kernel
theorem g158_59 : m_get 158 59 = some (.aload_n 0, 1) := by decide +kernel
theorem g158_60 : m_get 158 60 = some (.invokevirtual 158, 3) := by decide +kernel
theorem g158_63 : m_get 158 63 = some (.ireturn, 1) := by decide +kernel
theorem f158_16 : m_fl (m_own 158) 16 = some (7, 3) := by decide +kernel
theorem f158_22 : m_fl (m_own 158) 22 = some (7, 6) := by decide +kernel
theorem f158_26 : m_fl (m_own 158) 26 = some (7, 7) := by decide +kernel
theorem f158_78 : m_fl (m_own 158) 78 = some (7, 4) := by decide +kernel
theorem k158_81 : m_ml (m_own 158) 81 = some (1, 97) := by decide +kernel
theorem k158_158 : m_ml (m_own 158) 158 = some (0, 123) := by decide +kernel
theorem g159_0 : m_get 159 0 = some (.iconst 0, 1) := by decide +kernel
theorem g159_1 : m_get 159 1 = some (.istore_n 1, 1) := by decide +kernel
theorem g159_2 : m_get 159 2 = some (.aload_n 0, 1) := by decide +kernel
theorem g159_3 : m_get 159 3 = some (.iload_n 1, 1) := by decide +kernel
theorem g159_4 : m_get 159 4 = some (.invokevirtual 173, 3) := by decide +kernel
theorem g159_7 : m_get 159 7 = some (.bipush (-9), 2) := by decide +kernel
theorem g159_9 : m_get 159 9 = some (.if_icmp .eq 9, 3) := by decide +kernel
theorem g159_12 : m_get 159 12 = some (.iinc 1 1, 3) := by decide +kernel
theorem g159_15 : m_get 159 15 = some (.goto (-13), 3) := by decide +kernel
theorem g159_18 : m_get 159 18 = some (.iload_n 1, 1) := by decide +kernel
theorem g159_19 : m_get 159 19 = some (.ireturn, 1) := by decide +kernel
theorem k159_173 : m_ml (m_own 159) 173 = some (0, 137) := by decide +kernel
theorem g160_0 : m_get 160 0 = some (.iload_n 1, 1) := by decide +kernel
theorem g160_1 : m_get 160 1 = some (.tableswitch 93 0 10 #[59, 64, 64, 64, 64, 64, 64, 73, 78, 83, 88], 59) := by decide +kernel
theorem g160_60 : m_get 160 60 = some (.aload_n 0, 1) := by decide +kernel
theorem g160_61 : m_get 160 61 = some (.getfield 75, 3) := by decide +kernel
theorem g160_64 : m_get 160 64 = some (.ireturn, 1) := by decide +kernel
theorem g160_65 : m_get 160 65 = some (.aload_n 0, 1) := by decide +kernel
theorem g160_66 : m_get 160 66 = some (.getfield 7, 3) := by decide +kernel
theorem g160_69 : m_get 160 69 = some (.iload_n 1, 1) := by decide +kernel
theorem g160_70 : m_get 160 70 = some (.iconst 1, 1) := by decide +kernel
theorem g160_71 : m_get 160 71 = some (.isub, 1) := by decide +kernel
theorem g160_72 : m_get 160 72 = some (.iaload, 1) := by decide +kernel
theorem g160_73 : m_get 160 73 = some (.ireturn, 1) := by decide +kernel
theorem g160_74 : m_get 160 74 = some (.aload_n 0, 1) := by decide +kernel
theorem g160_75 : m_get 160 75 = some (.invokevirtual 158, 3) := by decide +kernel
theorem g160_78 : m_get 160 78 = some (.ireturn, 1) := by decide +kernel
theorem g160_79 : m_get 160 79 = some (.aload_n 0, 1) := by decide +kernel
theorem g160_80 : m_get 160 80 = some (.getfield 85, 3) := by decide +kernel
theorem g160_83 : m_get 160 83 = some (.ireturn, 1) := by decide +kernel
theorem g160_84 : m_get 160 84 = some (.aload_n 0, 1) := by decide +kernel
theorem g160_85 : m_get 160 85 = some (.getfield 78, 3) := by decide +kernel
theorem g160_88 : m_get 160 88 = some (.ireturn, 1) := by decide +kernel
theorem g160_89 : m_get 160 89 = some (.aload_n 0, 1) := by decide +kernel
theorem g160_90 : m_get 160 90 = some (.invokevirtual 222, 3) := by decide +kernel
theorem g160_93 : m_get 160 93 = some (.ireturn, 1) := by decide +kernel
theorem g160_94 : m_get 160 94 = some (.iconst (-1), 1) := by decide +kernel
theorem g160_95 : m_get 160 95 = some (.ireturn, 1) := by decide +kernel
theorem f160_7 : m_fl (m_own 160) 7 = some (7, 1) := by decide +kernel
theorem f160_75 : m_fl (m_own 160) 75 = some (7, 0) := by decide +kernel
theorem f160_78 : m_fl (m_own 160) 78 = some (7, 4) := by decide +kernel
theorem f160_85 : m_fl (m_own 160) 85 = some (7, 12) := by decide +kernel
theorem k160_158 : m_ml (m_own 160) 158 = some (0, 123) := by decide +kernel
theorem k160_222 : m_ml (m_own 160) 222 = some (0, 159) := by decide +kernel
theorem g161_0 : m_get 161 0 = some (.iconst 0, 1) := by decide +kernel
theorem g161_1 : m_get 161 1 = some (.istore_n 2, 1) := by decide +kernel
theorem g161_2 : m_get 161 2 = some (.aload_n 0, 1) := by decide +kernel
theorem g161_3 : m_get 161 3 = some (.arraylength, 1) := by decide +kernel
theorem g161_4 : m_get 161 4 = some (.istore_n 3, 1) := by decide +kernel
theorem g161_5 : m_get 161 5 = some (.iload_n 2, 1) := by decide +kernel
theorem g161_6 : m_get 161 6 = some (.iload_n 3, 1) := by decide +kernel
theorem g161_7 : m_get 161 7 = some (.if_icmp .ge 13, 3) := by decide +kernel
theorem g161_10 : m_get 161 10 = some (.aload_n 0, 1) := by decide +kernel
theorem g161_11 : m_get 161 11 = some (.iload_n 2, 1) := by decide +kernel
theorem g161_12 : m_get 161 12 = some (.iload_n 1, 1) := by decide +kernel
theorem g161_13 : m_get 161 13 = some (.iastore, 1) := by decide +kernel
theorem g161_14 : m_get 161 14 = some (.iinc 2 1, 3) := by decide +kernel
theorem g161_17 : m_get 161 17 = some (.goto (-12), 3) := by decide +kernel
theorem g161_20 : m_get 161 20 = some (.return_, 1) := by decide +kernel
theorem g162_0 : m_get 162 0 = some (.iload_n 0, 1) := by decide +kernel
theorem g162_1 : m_get 162 1 = some (.iload_n 0, 1) := by decide +kernel
theorem g162_2 : m_get 162 2 = some (.iconst 1, 1) := by decide +kernel
theorem g162_3 : m_get 162 3 = some (.iushr, 1) := by decide +kernel
theorem g162_4 : m_get 162 4 = some (.ldc_w 265, 3) := by decide +kernel
theorem g162_7 : m_get 162 7 = some (.iand, 1) := by decide +kernel
theorem g162_8 : m_get 162 8 = some (.isub, 1) := by decide +kernel
theorem g162_9 : m_get 162 9 = some (.istore_n 0, 1) := by decide +kernel
theorem g162_10 : m_get 162 10 = some (.iload_n 0, 1) := by decide +kernel
theorem g162_11 : m_get 162 11 = some (.ldc_w 266, 3) := by decide +kernel
theorem g162_14 : m_get 162 14 = some (.iand, 1) := by decide +kernel
theorem g162_15 : m_get 162 15 = some (.iload_n 0, 1) := by decide +kernel
theorem g162_16 : m_get 162 16 = some (.iconst 2, 1) := by decide +kernel
theorem g162_17 : m_get 162 17 = some (.iushr, 1) := by decide +kernel
theorem g162_18 : m_get 162 18 = some (.ldc_w 266, 3) := by decide +kernel
theorem g162_21 : m_get 162 21 = some (.iand, 1) := by decide +kernel
theorem g162_22 : m_get 162 22 = some (.iadd, 1) := by decide +kernel
theorem g162_23 : m_get 162 23 = some (.istore_n 0, 1) := by decide +kernel
theorem g162_24 : m_get 162 24 = some (.iload_n 0, 1) := by decide +kernel
theorem g162_25 : m_get 162 25 = some (.iload_n 0, 1) := by decide +kernel
theorem g162_26 : m_get 162 26 = some (.iconst 4, 1) := by decide +kernel
theorem g162_27 : m_get 162 27 = some (.iushr, 1) := by decide +kernel
theorem g162_28 : m_get 162 28 = some (.iadd, 1) := by decide +kernel
theorem g162_29 : m_get 162 29 = some (.ldc_w 267, 3) := by decide +kernel
theorem g162_32 : m_get 162 32 = some (.iand, 1) := by decide +kernel
theorem g162_33 : m_get 162 33 = some (.istore_n 0, 1) := by decide +kernel
theorem g162_34 : m_get 162 34 = some (.iload_n 0, 1) := by decide +kernel
theorem g162_35 : m_get 162 35 = some (.iload_n 0, 1) := by decide +kernel
theorem g162_36 : m_get 162 36 = some (.bipush 8, 2) := by decide +kernel
theorem g162_38 : m_get 162 38 = some (.iushr, 1) := by decide +kernel
theorem g162_39 : m_get 162 39 = some (.iadd, 1) := by decide +kernel
theorem g162_40 : m_get 162 40 = some (.istore_n 0, 1) := by decide +kernel
theorem g162_41 : m_get 162 41 = some (.iload_n 0, 1) := by decide +kernel
theorem g162_42 : m_get 162 42 = some (.iload_n 0, 1) := by decide +kernel
theorem g162_43 : m_get 162 43 = some (.bipush 16, 2) := by decide +kernel
theorem g162_45 : m_get 162 45 = some (.iushr, 1) := by decide +kernel
theorem g162_46 : m_get 162 46 = some (.iadd, 1) := by decide +kernel
theorem g162_47 : m_get 162 47 = some (.istore_n 0, 1) := by decide +kernel
theorem g162_48 : m_get 162 48 = some (.iload_n 0, 1) := by decide +kernel
theorem g162_49 : m_get 162 49 = some (.bipush 63, 2) := by decide +kernel
theorem g162_51 : m_get 162 51 = some (.iand, 1) := by decide +kernel
theorem g162_52 : m_get 162 52 = some (.ireturn, 1) := by decide +kernel
