/-! facts of the tables, one by one (printed by gen3.py) -/
theorem g0_0 : m_get 0 0 = some (.aload_n 0, 1) := by decide +kernel
theorem g0_1 : m_get 0 1 = some (.invokespecial 3, 3) := by decide +kernel
theorem g0_4 : m_get 0 4 = some (.aload_n 0, 1) := by decide +kernel
theorem g0_5 : m_get 0 5 = some (.iconst 3, 1) := by decide +kernel
theorem g0_6 : m_get 0 6 = some (.newarray .int, 2) := by decide +kernel
theorem g0_8 : m_get 0 8 = some (.putfield 9, 3) := by decide +kernel
theorem g0_11 : m_get 0 11 = some (.aload_n 0, 1) := by decide +kernel
theorem g0_12 : m_get 0 12 = some (.iconst 3, 1) := by decide +kernel
theorem g0_13 : m_get 0 13 = some (.newarray .int, 2) := by decide +kernel
theorem g0_15 : m_get 0 15 = some (.putfield 15, 3) := by decide +kernel
theorem g0_18 : m_get 0 18 = some (.aload_n 0, 1) := by decide +kernel
theorem g0_19 : m_get 0 19 = some (.sipush 625, 3) := by decide +kernel
theorem g0_22 : m_get 0 22 = some (.newarray .int, 2) := by decide +kernel
theorem g0_24 : m_get 0 24 = some (.putfield 18, 3) := by decide +kernel
theorem g0_27 : m_get 0 27 = some (.aload_n 0, 1) := by decide +kernel
theorem g0_28 : m_get 0 28 = some (.sipush 625, 3) := by decide +kernel
theorem g0_31 : m_get 0 31 = some (.newarray .int, 2) := by decide +kernel
theorem g0_33 : m_get 0 33 = some (.putfield 21, 3) := by decide +kernel
theorem g0_36 : m_get 0 36 = some (.aload_n 0, 1) := by decide +kernel
theorem g0_37 : m_get 0 37 = some (.sipush 1875, 3) := by decide +kernel
theorem g0_40 : m_get 0 40 = some (.newarray .int, 2) := by decide +kernel
theorem g0_42 : m_get 0 42 = some (.putfield 24, 3) := by decide +kernel
theorem g0_45 : m_get 0 45 = some (.return_, 1) := by decide +kernel
theorem f0_9 : m_fl (m_own 0) 9 = some (0, 0) := by decide +kernel
theorem f0_15 : m_fl (m_own 0) 15 = some (0, 1) := by decide +kernel
theorem f0_18 : m_fl (m_own 0) 18 = some (0, 2) := by decide +kernel
theorem f0_21 : m_fl (m_own 0) 21 = some (0, 3) := by decide +kernel
theorem f0_24 : m_fl (m_own 0) 24 = some (0, 4) := by decide +kernel
theorem k0_3 : m_ml (m_own 0) 3 = some (5, 0) := by decide +kernel
theorem g1_0 : m_get 1 0 = some (.iload_n 0, 1) := by decide +kernel
theorem g1_1 : m_get 1 1 = some (.bipush 25, 2) := by decide +kernel
theorem g1_3 : m_get 1 3 = some (.imul, 1) := by decide +kernel
theorem g1_4 : m_get 1 4 = some (.iload_n 1, 1) := by decide +kernel
theorem g1_5 : m_get 1 5 = some (.iadd, 1) := by decide +kernel
theorem g1_6 : m_get 1 6 = some (.ireturn, 1) := by decide +kernel
theorem g2_0 : m_get 2 0 = some (.aload_n 0, 1) := by decide +kernel
theorem g2_1 : m_get 2 1 = some (.getfield 9, 3) := by decide +kernel
theorem g2_4 : m_get 2 4 = some (.iconst 0, 1) := by decide +kernel
theorem g2_5 : m_get 2 5 = some (.aload_n 1, 1) := by decide +kernel
theorem g2_6 : m_get 2 6 = some (.getfield 27, 3) := by decide +kernel
theorem g2_9 : m_get 2 9 = some (.iastore, 1) := by decide +kernel
theorem g2_10 : m_get 2 10 = some (.aload_n 0, 1) := by decide +kernel
theorem g2_11 : m_get 2 11 = some (.getfield 15, 3) := by decide +kernel
theorem g2_14 : m_get 2 14 = some (.iconst 0, 1) := by decide +kernel
theorem g2_15 : m_get 2 15 = some (.aload_n 1, 1) := by decide +kernel
theorem g2_16 : m_get 2 16 = some (.getfield 27, 3) := by decide +kernel
theorem g2_19 : m_get 2 19 = some (.iastore, 1) := by decide +kernel
theorem g2_20 : m_get 2 20 = some (.aload_n 0, 1) := by decide +kernel
theorem g2_21 : m_get 2 21 = some (.getfield 9, 3) := by decide +kernel
theorem g2_24 : m_get 2 24 = some (.iconst 1, 1) := by decide +kernel
theorem g2_25 : m_get 2 25 = some (.aload_n 1, 1) := by decide +kernel
theorem g2_26 : m_get 2 26 = some (.getfield 33, 3) := by decide +kernel
theorem g2_29 : m_get 2 29 = some (.iastore, 1) := by decide +kernel
theorem g2_30 : m_get 2 30 = some (.aload_n 0, 1) := by decide +kernel
theorem g2_31 : m_get 2 31 = some (.getfield 15, 3) := by decide +kernel
theorem g2_34 : m_get 2 34 = some (.iconst 1, 1) := by decide +kernel
theorem g2_35 : m_get 2 35 = some (.aload_n 1, 1) := by decide +kernel
theorem g2_36 : m_get 2 36 = some (.getfield 36, 3) := by decide +kernel
theorem g2_39 : m_get 2 39 = some (.aload_n 1, 1) := by decide +kernel
theorem g2_40 : m_get 2 40 = some (.getfield 27, 3) := by decide +kernel
theorem g2_43 : m_get 2 43 = some (.imul, 1) := by decide +kernel
theorem g2_44 : m_get 2 44 = some (.iconst 2, 1) := by decide +kernel
theorem g2_45 : m_get 2 45 = some (.aload_n 1, 1) := by decide +kernel
theorem g2_46 : m_get 2 46 = some (.getfield 33, 3) := by decide +kernel
theorem g2_49 : m_get 2 49 = some (.imul, 1) := by decide +kernel
theorem g2_50 : m_get 2 50 = some (.iadd, 1) := by decide +kernel
theorem g2_51 : m_get 2 51 = some (.iastore, 1) := by decide +kernel
theorem g2_52 : m_get 2 52 = some (.aload_n 0, 1) := by decide +kernel
theorem g2_53 : m_get 2 53 = some (.getfield 9, 3) := by decide +kernel
theorem g2_56 : m_get 2 56 = some (.iconst 2, 1) := by decide +kernel
theorem g2_57 : m_get 2 57 = some (.aload_n 1, 1) := by decide +kernel
theorem g2_58 : m_get 2 58 = some (.getfield 33, 3) := by decide +kernel
theorem g2_61 : m_get 2 61 = some (.iastore, 1) := by decide +kernel
theorem g2_62 : m_get 2 62 = some (.aload_n 0, 1) := by decide +kernel
theorem g2_63 : m_get 2 63 = some (.getfield 15, 3) := by decide +kernel
theorem g2_66 : m_get 2 66 = some (.iconst 2, 1) := by decide +kernel
theorem g2_67 : m_get 2 67 = some (.aload_n 1, 1) := by decide +kernel
theorem g2_68 : m_get 2 68 = some (.getfield 39, 3) := by decide +kernel
theorem g2_71 : m_get 2 71 = some (.aload_n 1, 1) := by decide +kernel
theorem g2_72 : m_get 2 72 = some (.getfield 27, 3) := by decide +kernel
theorem g2_75 : m_get 2 75 = some (.imul, 1) := by decide +kernel
theorem g2_76 : m_get 2 76 = some (.iconst 2, 1) := by decide +kernel
theorem g2_77 : m_get 2 77 = some (.aload_n 1, 1) := by decide +kernel
theorem g2_78 : m_get 2 78 = some (.getfield 33, 3) := by decide +kernel
theorem g2_81 : m_get 2 81 = some (.imul, 1) := by decide +kernel
theorem g2_82 : m_get 2 82 = some (.iadd, 1) := by decide +kernel
theorem g2_83 : m_get 2 83 = some (.iastore, 1) := by decide +kernel
theorem g2_84 : m_get 2 84 = some (.aload_n 0, 1) := by decide +kernel
theorem g2_85 : m_get 2 85 = some (.iconst 0, 1) := by decide +kernel
theorem g2_86 : m_get 2 86 = some (.putfield 42, 3) := by decide +kernel
theorem g2_89 : m_get 2 89 = some (.return_, 1) := by decide +kernel
theorem f2_9 : m_fl (m_own 2) 9 = some (0, 0) := by decide +kernel
theorem f2_15 : m_fl (m_own 2) 15 = some (0, 1) := by decide +kernel
theorem f2_27 : m_fl (m_own 2) 27 = some (4, 5) := by decide +kernel
theorem f2_33 : m_fl (m_own 2) 33 = some (4, 6) := by decide +kernel
theorem f2_36 : m_fl (m_own 2) 36 = some (4, 1) := by decide +kernel
theorem f2_39 : m_fl (m_own 2) 39 = some (4, 2) := by decide +kernel
theorem f2_42 : m_fl (m_own 2) 42 = some (0, 5) := by decide +kernel
theorem g3_0 : m_get 3 0 = some (.aload_n 0, 1) := by decide +kernel
theorem g3_1 : m_get 3 1 = some (.getfield 42, 3) := by decide +kernel
theorem g3_4 : m_get 3 4 = some (.ifCond .eq 4, 3) := by decide +kernel
theorem g3_7 : m_get 3 7 = some (.return_, 1) := by decide +kernel
theorem g3_8 : m_get 3 8 = some (.iconst 1, 1) := by decide +kernel
theorem g3_9 : m_get 3 9 = some (.istore_n 1, 1) := by decide +kernel
theorem g3_10 : m_get 3 10 = some (.iload_n 1, 1) := by decide +kernel
theorem g3_11 : m_get 3 11 = some (.bipush 24, 2) := by decide +kernel
theorem g3_13 : m_get 3 13 = some (.if_icmp .gt 29, 3) := by decide +kernel
theorem g3_16 : m_get 3 16 = some (.iconst 1, 1) := by decide +kernel
theorem g3_17 : m_get 3 17 = some (.istore_n 2, 1) := by decide +kernel
theorem g3_18 : m_get 3 18 = some (.iload_n 2, 1) := by decide +kernel
theorem g3_19 : m_get 3 19 = some (.bipush 24, 2) := by decide +kernel
theorem g3_21 : m_get 3 21 = some (.if_icmp .gt 15, 3) := by decide +kernel
theorem g3_24 : m_get 3 24 = some (.aload_n 0, 1) := by decide +kernel
theorem g3_25 : m_get 3 25 = some (.iload_n 1, 1) := by decide +kernel
theorem g3_26 : m_get 3 26 = some (.iload_n 2, 1) := by decide +kernel
theorem g3_27 : m_get 3 27 = some (.invokevirtual 46, 3) := by decide +kernel
theorem g3_30 : m_get 3 30 = some (.iinc 2 1, 3) := by decide +kernel
theorem g3_33 : m_get 3 33 = some (.goto (-15), 3) := by decide +kernel
theorem g3_36 : m_get 3 36 = some (.iinc 1 1, 3) := by decide +kernel
theorem g3_39 : m_get 3 39 = some (.goto (-29), 3) := by decide +kernel
theorem g3_42 : m_get 3 42 = some (.aload_n 0, 1) := by decide +kernel
theorem g3_43 : m_get 3 43 = some (.iconst 1, 1) := by decide +kernel
theorem g3_44 : m_get 3 44 = some (.putfield 42, 3) := by decide +kernel
theorem g3_47 : m_get 3 47 = some (.return_, 1) := by decide +kernel
theorem f3_42 : m_fl (m_own 3) 42 = some (0, 5) := by decide +kernel
theorem k3_46 : m_ml (m_own 3) 46 = some (0, 4) := by decide +kernel
theorem g4_0 : m_get 4 0 = some (.iload_n 1, 1) := by decide +kernel
theorem g4_1 : m_get 4 1 = some (.iload_n 2, 1) := by decide +kernel
theorem g4_2 : m_get 4 2 = some (.invokestatic 50, 3) := by decide +kernel
theorem g4_5 : m_get 4 5 = some (.istore_n 3, 1) := by decide +kernel
theorem g4_6 : m_get 4 6 = some (.iconst 0, 1) := by decide +kernel
theorem g4_7 : m_get 4 7 = some (.istore 4, 2) := by decide +kernel
theorem g4_9 : m_get 4 9 = some (.iload 4, 2) := by decide +kernel
theorem g4_11 : m_get 4 11 = some (.iconst 3, 1) := by decide +kernel
theorem g4_12 : m_get 4 12 = some (.if_icmp .ge 23, 3) := by decide +kernel
theorem g4_15 : m_get 4 15 = some (.aload_n 0, 1) := by decide +kernel
theorem g4_16 : m_get 4 16 = some (.getfield 24, 3) := by decide +kernel
theorem g4_19 : m_get 4 19 = some (.iload 4, 2) := by decide +kernel
theorem g4_21 : m_get 4 21 = some (.sipush 625, 3) := by decide +kernel
theorem g4_24 : m_get 4 24 = some (.imul, 1) := by decide +kernel
theorem g4_25 : m_get 4 25 = some (.iload_n 3, 1) := by decide +kernel
theorem g4_26 : m_get 4 26 = some (.iadd, 1) := by decide +kernel
theorem g4_27 : m_get 4 27 = some (.iconst 0, 1) := by decide +kernel
theorem g4_28 : m_get 4 28 = some (.iastore, 1) := by decide +kernel
theorem g4_29 : m_get 4 29 = some (.iinc 4 1, 3) := by decide +kernel
theorem g4_32 : m_get 4 32 = some (.goto (-23), 3) := by decide +kernel
theorem g4_35 : m_get 4 35 = some (.aload_n 0, 1) := by decide +kernel
theorem g4_36 : m_get 4 36 = some (.iload_n 1, 1) := by decide +kernel
theorem g4_37 : m_get 4 37 = some (.iload_n 2, 1) := by decide +kernel
theorem g4_38 : m_get 4 38 = some (.invokevirtual 54, 3) := by decide +kernel
theorem g4_41 : m_get 4 41 = some (.istore 4, 2) := by decide +kernel
theorem g4_43 : m_get 4 43 = some (.iload 4, 2) := by decide +kernel
theorem g4_45 : m_get 4 45 = some (.ifCond .lt 37, 3) := by decide +kernel
theorem g4_48 : m_get 4 48 = some (.aload_n 0, 1) := by decide +kernel
theorem g4_49 : m_get 4 49 = some (.getfield 18, 3) := by decide +kernel
theorem g4_52 : m_get 4 52 = some (.iload_n 3, 1) := by decide +kernel
theorem g4_53 : m_get 4 53 = some (.iload_n 1, 1) := by decide +kernel
theorem g4_54 : m_get 4 54 = some (.iload_n 2, 1) := by decide +kernel
theorem g4_55 : m_get 4 55 = some (.imul, 1) := by decide +kernel
theorem g4_56 : m_get 4 56 = some (.iastore, 1) := by decide +kernel
theorem g4_57 : m_get 4 57 = some (.aload_n 0, 1) := by decide +kernel
theorem g4_58 : m_get 4 58 = some (.getfield 21, 3) := by decide +kernel
theorem g4_61 : m_get 4 61 = some (.iload_n 3, 1) := by decide +kernel
theorem g4_62 : m_get 4 62 = some (.iconst 1, 1) := by decide +kernel
theorem g4_63 : m_get 4 63 = some (.iload 4, 2) := by decide +kernel
theorem g4_65 : m_get 4 65 = some (.iadd, 1) := by decide +kernel
theorem g4_66 : m_get 4 66 = some (.iastore, 1) := by decide +kernel
theorem g4_67 : m_get 4 67 = some (.aload_n 0, 1) := by decide +kernel
theorem g4_68 : m_get 4 68 = some (.getfield 24, 3) := by decide +kernel
theorem g4_71 : m_get 4 71 = some (.iload 4, 2) := by decide +kernel
theorem g4_73 : m_get 4 73 = some (.sipush 625, 3) := by decide +kernel
theorem g4_76 : m_get 4 76 = some (.imul, 1) := by decide +kernel
theorem g4_77 : m_get 4 77 = some (.iload_n 3, 1) := by decide +kernel
theorem g4_78 : m_get 4 78 = some (.iadd, 1) := by decide +kernel
theorem g4_79 : m_get 4 79 = some (.iconst 1, 1) := by decide +kernel
theorem g4_80 : m_get 4 80 = some (.iastore, 1) := by decide +kernel
theorem g4_81 : m_get 4 81 = some (.return_, 1) := by decide +kernel
theorem g4_82 : m_get 4 82 = some (.aload_n 0, 1) := by decide +kernel
theorem g4_83 : m_get 4 83 = some (.getfield 18, 3) := by decide +kernel
theorem g4_86 : m_get 4 86 = some (.iload_n 3, 1) := by decide +kernel
theorem g4_87 : m_get 4 87 = some (.iconst 0, 1) := by decide +kernel
theorem g4_88 : m_get 4 88 = some (.iastore, 1) := by decide +kernel
theorem g4_89 : m_get 4 89 = some (.aload_n 0, 1) := by decide +kernel
theorem g4_90 : m_get 4 90 = some (.getfield 21, 3) := by decide +kernel
theorem g4_93 : m_get 4 93 = some (.iload_n 3, 1) := by decide +kernel
theorem g4_94 : m_get 4 94 = some (.iconst 0, 1) := by decide +kernel
theorem g4_95 : m_get 4 95 = some (.iastore, 1) := by decide +kernel
theorem g4_96 : m_get 4 96 = some (.iconst 1, 1) := by decide +kernel
theorem g4_97 : m_get 4 97 = some (.istore 5, 2) := by decide +kernel
theorem g4_99 : m_get 4 99 = some (.iload 5, 2) := by decide +kernel
theorem g4_101 : m_get 4 101 = some (.iload_n 1, 1) := by decide +kernel
theorem g4_102 : m_get 4 102 = some (.iconst 2, 1) := by decide +kernel
theorem g4_103 : m_get 4 103 = some (.idiv, 1) := by decide +kernel
theorem g4_104 : m_get 4 104 = some (.if_icmp .gt 33, 3) := by decide +kernel
theorem g4_107 : m_get 4 107 = some (.aload_n 0, 1) := by decide +kernel
theorem g4_108 : m_get 4 108 = some (.iload_n 3, 1) := by decide +kernel
theorem g4_109 : m_get 4 109 = some (.bipush 100, 2) := by decide +kernel
theorem g4_111 : m_get 4 111 = some (.iload 5, 2) := by decide +kernel
theorem g4_113 : m_get 4 113 = some (.iadd, 1) := by decide +kernel
theorem g4_114 : m_get 4 114 = some (.iload 5, 2) := by decide +kernel
theorem g4_116 : m_get 4 116 = some (.iload_n 2, 1) := by decide +kernel
theorem g4_117 : m_get 4 117 = some (.invokestatic 50, 3) := by decide +kernel
theorem g4_120 : m_get 4 120 = some (.iload_n 1, 1) := by decide +kernel
theorem g4_121 : m_get 4 121 = some (.iload 5, 2) := by decide +kernel
theorem g4_123 : m_get 4 123 = some (.isub, 1) := by decide +kernel
theorem g4_124 : m_get 4 124 = some (.iload_n 2, 1) := by decide +kernel
theorem g4_125 : m_get 4 125 = some (.invokestatic 50, 3) := by decide +kernel
theorem g4_128 : m_get 4 128 = some (.invokevirtual 57, 3) := by decide +kernel
theorem g4_131 : m_get 4 131 = some (.iinc 5 1, 3) := by decide +kernel
theorem g4_134 : m_get 4 134 = some (.goto (-35), 3) := by decide +kernel
theorem g4_137 : m_get 4 137 = some (.iconst 1, 1) := by decide +kernel
theorem g4_138 : m_get 4 138 = some (.istore 5, 2) := by decide +kernel
theorem g4_140 : m_get 4 140 = some (.iload 5, 2) := by decide +kernel
theorem g4_142 : m_get 4 142 = some (.iload_n 2, 1) := by decide +kernel
theorem g4_143 : m_get 4 143 = some (.iconst 2, 1) := by decide +kernel
theorem g4_144 : m_get 4 144 = some (.idiv, 1) := by decide +kernel
theorem g4_145 : m_get 4 145 = some (.if_icmp .gt 34, 3) := by decide +kernel
theorem g4_148 : m_get 4 148 = some (.aload_n 0, 1) := by decide +kernel
theorem g4_149 : m_get 4 149 = some (.iload_n 3, 1) := by decide +kernel
theorem g4_150 : m_get 4 150 = some (.sipush 200, 3) := by decide +kernel
theorem g4_153 : m_get 4 153 = some (.iload 5, 2) := by decide +kernel
theorem g4_155 : m_get 4 155 = some (.iadd, 1) := by decide +kernel
theorem g4_156 : m_get 4 156 = some (.iload_n 1, 1) := by decide +kernel
theorem g4_157 : m_get 4 157 = some (.iload 5, 2) := by decide +kernel
theorem g4_159 : m_get 4 159 = some (.invokestatic 50, 3) := by decide +kernel
theorem g4_162 : m_get 4 162 = some (.iload_n 1, 1) := by decide +kernel
theorem g4_163 : m_get 4 163 = some (.iload_n 2, 1) := by decide +kernel
theorem g4_164 : m_get 4 164 = some (.iload 5, 2) := by decide +kernel
theorem g4_166 : m_get 4 166 = some (.isub, 1) := by decide +kernel
theorem g4_167 : m_get 4 167 = some (.invokestatic 50, 3) := by decide +kernel
theorem g4_170 : m_get 4 170 = some (.invokevirtual 57, 3) := by decide +kernel
theorem g4_173 : m_get 4 173 = some (.iinc 5 1, 3) := by decide +kernel
theorem g4_176 : m_get 4 176 = some (.goto (-36), 3) := by decide +kernel
theorem g4_179 : m_get 4 179 = some (.return_, 1) := by decide +kernel
theorem f4_18 : m_fl (m_own 4) 18 = some (0, 2) := by decide +kernel
theorem f4_21 : m_fl (m_own 4) 21 = some (0, 3) := by decide +kernel
theorem f4_24 : m_fl (m_own 4) 24 = some (0, 4) := by decide +kernel
theorem k4_50 : m_ml (m_own 4) 50 = some (1, 1) := by decide +kernel
theorem k4_54 : m_ml (m_own 4) 54 = some (0, 6) := by decide +kernel
theorem k4_57 : m_ml (m_own 4) 57 = some (0, 5) := by decide +kernel
theorem g5_0 : m_get 5 0 = some (.aload_n 0, 1) := by decide +kernel
theorem g5_1 : m_get 5 1 = some (.getfield 18, 3) := by decide +kernel
theorem g5_4 : m_get 5 4 = some (.iload_n 3, 1) := by decide +kernel
theorem g5_5 : m_get 5 5 = some (.iaload, 1) := by decide +kernel
theorem g5_6 : m_get 5 6 = some (.aload_n 0, 1) := by decide +kernel
theorem g5_7 : m_get 5 7 = some (.getfield 18, 3) := by decide +kernel
theorem g5_10 : m_get 5 10 = some (.iload 4, 2) := by decide +kernel
theorem g5_12 : m_get 5 12 = some (.iaload, 1) := by decide +kernel
theorem g5_13 : m_get 5 13 = some (.iadd, 1) := by decide +kernel
theorem g5_14 : m_get 5 14 = some (.istore 5, 2) := by decide +kernel
theorem g5_16 : m_get 5 16 = some (.iload 5, 2) := by decide +kernel
theorem g5_18 : m_get 5 18 = some (.aload_n 0, 1) := by decide +kernel
theorem g5_19 : m_get 5 19 = some (.getfield 18, 3) := by decide +kernel
theorem g5_22 : m_get 5 22 = some (.iload_n 1, 1) := by decide +kernel
theorem g5_23 : m_get 5 23 = some (.iaload, 1) := by decide +kernel
theorem g5_24 : m_get 5 24 = some (.if_icmp .gt 4, 3) := by decide +kernel
theorem g5_27 : m_get 5 27 = some (.return_, 1) := by decide +kernel
theorem g5_28 : m_get 5 28 = some (.aload_n 0, 1) := by decide +kernel
theorem g5_29 : m_get 5 29 = some (.getfield 18, 3) := by decide +kernel
theorem g5_32 : m_get 5 32 = some (.iload_n 1, 1) := by decide +kernel
theorem g5_33 : m_get 5 33 = some (.iload 5, 2) := by decide +kernel
theorem g5_35 : m_get 5 35 = some (.iastore, 1) := by decide +kernel
theorem g5_36 : m_get 5 36 = some (.aload_n 0, 1) := by decide +kernel
theorem g5_37 : m_get 5 37 = some (.getfield 21, 3) := by decide +kernel
theorem g5_40 : m_get 5 40 = some (.iload_n 1, 1) := by decide +kernel
theorem g5_41 : m_get 5 41 = some (.iload_n 2, 1) := by decide +kernel
theorem g5_42 : m_get 5 42 = some (.iastore, 1) := by decide +kernel
theorem g5_43 : m_get 5 43 = some (.iconst 0, 1) := by decide +kernel
theorem g5_44 : m_get 5 44 = some (.istore 6, 2) := by decide +kernel
theorem g5_46 : m_get 5 46 = some (.iload 6, 2) := by decide +kernel
theorem g5_48 : m_get 5 48 = some (.iconst 3, 1) := by decide +kernel
theorem g5_49 : m_get 5 49 = some (.if_icmp .ge 46, 3) := by decide +kernel
theorem g5_52 : m_get 5 52 = some (.iload 6, 2) := by decide +kernel
theorem g5_54 : m_get 5 54 = some (.sipush 625, 3) := by decide +kernel
theorem g5_57 : m_get 5 57 = some (.imul, 1) := by decide +kernel
theorem g5_58 : m_get 5 58 = some (.istore 7, 2) := by decide +kernel
theorem g5_60 : m_get 5 60 = some (.aload_n 0, 1) := by decide +kernel
theorem g5_61 : m_get 5 61 = some (.getfield 24, 3) := by decide +kernel
theorem g5_64 : m_get 5 64 = some (.iload 7, 2) := by decide +kernel
theorem g5_66 : m_get 5 66 = some (.iload_n 1, 1) := by decide +kernel
theorem g5_67 : m_get 5 67 = some (.iadd, 1) := by decide +kernel
theorem g5_68 : m_get 5 68 = some (.aload_n 0, 1) := by decide +kernel
theorem g5_69 : m_get 5 69 = some (.getfield 24, 3) := by decide +kernel
theorem g5_72 : m_get 5 72 = some (.iload 7, 2) := by decide +kernel
theorem g5_74 : m_get 5 74 = some (.iload_n 3, 1) := by decide +kernel
theorem g5_75 : m_get 5 75 = some (.iadd, 1) := by decide +kernel
theorem g5_76 : m_get 5 76 = some (.iaload, 1) := by decide +kernel
theorem g5_77 : m_get 5 77 = some (.aload_n 0, 1) := by decide +kernel
theorem g5_78 : m_get 5 78 = some (.getfield 24, 3) := by decide +kernel
theorem g5_81 : m_get 5 81 = some (.iload 7, 2) := by decide +kernel
theorem g5_83 : m_get 5 83 = some (.iload 4, 2) := by decide +kernel
theorem g5_85 : m_get 5 85 = some (.iadd, 1) := by decide +kernel
theorem g5_86 : m_get 5 86 = some (.iaload, 1) := by decide +kernel
theorem g5_87 : m_get 5 87 = some (.iadd, 1) := by decide +kernel
theorem g5_88 : m_get 5 88 = some (.iastore, 1) := by decide +kernel
theorem g5_89 : m_get 5 89 = some (.iinc 6 1, 3) := by decide +kernel
theorem g5_92 : m_get 5 92 = some (.goto (-46), 3) := by decide +kernel
theorem g5_95 : m_get 5 95 = some (.return_, 1) := by decide +kernel
theorem f5_18 : m_fl (m_own 5) 18 = some (0, 2) := by decide +kernel
theorem f5_21 : m_fl (m_own 5) 21 = some (0, 3) := by decide +kernel
theorem f5_24 : m_fl (m_own 5) 24 = some (0, 4) := by decide +kernel
theorem g6_0 : m_get 6 0 = some (.iload_n 1, 1) := by decide +kernel
theorem g6_1 : m_get 6 1 = some (.iload_n 2, 1) := by decide +kernel
theorem g6_2 : m_get 6 2 = some (.invokestatic 61, 3) := by decide +kernel
theorem g6_5 : m_get 6 5 = some (.istore_n 3, 1) := by decide +kernel
theorem g6_6 : m_get 6 6 = some (.iload_n 1, 1) := by decide +kernel
theorem g6_7 : m_get 6 7 = some (.iload_n 2, 1) := by decide +kernel
theorem g6_8 : m_get 6 8 = some (.invokestatic 66, 3) := by decide +kernel
theorem g6_11 : m_get 6 11 = some (.istore 4, 2) := by decide +kernel
theorem g6_13 : m_get 6 13 = some (.iconst 0, 1) := by decide +kernel
theorem g6_14 : m_get 6 14 = some (.istore 5, 2) := by decide +kernel
theorem g6_16 : m_get 6 16 = some (.iload 5, 2) := by decide +kernel
theorem g6_18 : m_get 6 18 = some (.iconst 3, 1) := by decide +kernel
theorem g6_19 : m_get 6 19 = some (.if_icmp .ge 35, 3) := by decide +kernel
theorem g6_22 : m_get 6 22 = some (.aload_n 0, 1) := by decide +kernel
theorem g6_23 : m_get 6 23 = some (.getfield 9, 3) := by decide +kernel
theorem g6_26 : m_get 6 26 = some (.iload 5, 2) := by decide +kernel
theorem g6_28 : m_get 6 28 = some (.iaload, 1) := by decide +kernel
theorem g6_29 : m_get 6 29 = some (.iload_n 3, 1) := by decide +kernel
theorem g6_30 : m_get 6 30 = some (.if_icmp .ne 18, 3) := by decide +kernel
theorem g6_33 : m_get 6 33 = some (.aload_n 0, 1) := by decide +kernel
theorem g6_34 : m_get 6 34 = some (.getfield 15, 3) := by decide +kernel
theorem g6_37 : m_get 6 37 = some (.iload 5, 2) := by decide +kernel
theorem g6_39 : m_get 6 39 = some (.iaload, 1) := by decide +kernel
theorem g6_40 : m_get 6 40 = some (.iload 4, 2) := by decide +kernel
theorem g6_42 : m_get 6 42 = some (.if_icmp .ne 6, 3) := by decide +kernel
theorem g6_45 : m_get 6 45 = some (.iload 5, 2) := by decide +kernel
theorem g6_47 : m_get 6 47 = some (.ireturn, 1) := by decide +kernel
theorem g6_48 : m_get 6 48 = some (.iinc 5 1, 3) := by decide +kernel
theorem g6_51 : m_get 6 51 = some (.goto (-35), 3) := by decide +kernel
theorem g6_54 : m_get 6 54 = some (.bipush (-9), 2) := by decide +kernel
theorem g6_56 : m_get 6 56 = some (.ireturn, 1) := by decide +kernel
theorem f6_9 : m_fl (m_own 6) 9 = some (0, 0) := by decide +kernel
theorem f6_15 : m_fl (m_own 6) 15 = some (0, 1) := by decide +kernel
theorem k6_61 : m_ml (m_own 6) 61 = some (8, 0) := by decide +kernel
theorem k6_66 : m_ml (m_own 6) 66 = some (7, 0) := by decide +kernel
theorem g7_0 : m_get 7 0 = some (.aload_n 0, 1) := by decide +kernel
theorem g7_1 : m_get 7 1 = some (.invokespecial 3, 3) := by decide +kernel
theorem g7_4 : m_get 7 4 = some (.aload_n 0, 1) := by decide +kernel
theorem g7_5 : m_get 7 5 = some (.bipush 6, 2) := by decide +kernel
theorem g7_7 : m_get 7 7 = some (.newarray .int, 2) := by decide +kernel
theorem g7_9 : m_get 7 9 = some (.putfield 9, 3) := by decide +kernel
theorem g7_12 : m_get 7 12 = some (.aload_n 0, 1) := by decide +kernel
theorem g7_13 : m_get 7 13 = some (.bipush 6, 2) := by decide +kernel
theorem g7_15 : m_get 7 15 = some (.newarray .int, 2) := by decide +kernel
theorem g7_17 : m_get 7 17 = some (.putfield 15, 3) := by decide +kernel
theorem g7_20 : m_get 7 20 = some (.aload_n 0, 1) := by decide +kernel
theorem g7_21 : m_get 7 21 = some (.bipush 6, 2) := by decide +kernel
theorem g7_23 : m_get 7 23 = some (.newarray .boolean, 2) := by decide +kernel
theorem g7_25 : m_get 7 25 = some (.putfield 18, 3) := by decide +kernel
theorem g7_28 : m_get 7 28 = some (.aload_n 0, 1) := by decide +kernel
theorem g7_29 : m_get 7 29 = some (.bipush 6, 2) := by decide +kernel
theorem g7_31 : m_get 7 31 = some (.newarray .int, 2) := by decide +kernel
theorem g7_33 : m_get 7 33 = some (.putfield 22, 3) := by decide +kernel
theorem g7_36 : m_get 7 36 = some (.aload_n 0, 1) := by decide +kernel
theorem g7_37 : m_get 7 37 = some (.bipush 6, 2) := by decide +kernel
theorem g7_39 : m_get 7 39 = some (.newarray .int, 2) := by decide +kernel
theorem g7_41 : m_get 7 41 = some (.putfield 25, 3) := by decide +kernel
theorem g7_44 : m_get 7 44 = some (.aload_n 0, 1) := by decide +kernel
theorem g7_45 : m_get 7 45 = some (.bipush 6, 2) := by decide +kernel
theorem g7_47 : m_get 7 47 = some (.newarray .int, 2) := by decide +kernel
theorem g7_49 : m_get 7 49 = some (.putfield 28, 3) := by decide +kernel
theorem g7_52 : m_get 7 52 = some (.return_, 1) := by decide +kernel
theorem f7_9 : m_fl (m_own 7) 9 = some (1, 0) := by decide +kernel
theorem f7_15 : m_fl (m_own 7) 15 = some (1, 1) := by decide +kernel
theorem f7_18 : m_fl (m_own 7) 18 = some (1, 2) := by decide +kernel
theorem f7_22 : m_fl (m_own 7) 22 = some (1, 3) := by decide +kernel
theorem f7_25 : m_fl (m_own 7) 25 = some (1, 4) := by decide +kernel
theorem f7_28 : m_fl (m_own 7) 28 = some (1, 5) := by decide +kernel
theorem k7_3 : m_ml (m_own 7) 3 = some (5, 0) := by decide +kernel
theorem g8_0 : m_get 8 0 = some (.aload_n 0, 1) := by decide +kernel
theorem g8_1 : m_get 8 1 = some (.aload_n 1, 1) := by decide +kernel
theorem g8_2 : m_get 8 2 = some (.invokevirtual 31, 3) := by decide +kernel
theorem g8_5 : m_get 8 5 = some (.putfield 37, 3) := by decide +kernel
theorem g8_8 : m_get 8 8 = some (.iconst 0, 1) := by decide +kernel
theorem g8_9 : m_get 8 9 = some (.istore 5, 2) := by decide +kernel
theorem g8_11 : m_get 8 11 = some (.iconst 0, 1) := by decide +kernel
theorem g8_12 : m_get 8 12 = some (.istore 6, 2) := by decide +kernel
theorem g8_14 : m_get 8 14 = some (.iload 6, 2) := by decide +kernel
theorem g8_16 : m_get 8 16 = some (.bipush 6, 2) := by decide +kernel
theorem g8_18 : m_get 8 18 = some (.if_icmp .ge 95, 3) := by decide +kernel
theorem g8_21 : m_get 8 21 = some (.aload_n 0, 1) := by decide +kernel
theorem g8_22 : m_get 8 22 = some (.getfield 15, 3) := by decide +kernel
theorem g8_25 : m_get 8 25 = some (.iload 6, 2) := by decide +kernel
theorem g8_27 : m_get 8 27 = some (.aload_n 2, 1) := by decide +kernel
theorem g8_28 : m_get 8 28 = some (.getfield 40, 3) := by decide +kernel
theorem g8_31 : m_get 8 31 = some (.iload 6, 2) := by decide +kernel
theorem g8_33 : m_get 8 33 = some (.iaload, 1) := by decide +kernel
theorem g8_34 : m_get 8 34 = some (.iastore, 1) := by decide +kernel
theorem g8_35 : m_get 8 35 = some (.aload_n 0, 1) := by decide +kernel
theorem g8_36 : m_get 8 36 = some (.getfield 18, 3) := by decide +kernel
theorem g8_39 : m_get 8 39 = some (.iload 6, 2) := by decide +kernel
theorem g8_41 : m_get 8 41 = some (.iload 6, 2) := by decide +kernel
theorem g8_43 : m_get 8 43 = some (.aload_n 0, 1) := by decide +kernel
theorem g8_44 : m_get 8 44 = some (.getfield 37, 3) := by decide +kernel
theorem g8_47 : m_get 8 47 = some (.if_icmp .ge 16, 3) := by decide +kernel
theorem g8_50 : m_get 8 50 = some (.aload_n 2, 1) := by decide +kernel
theorem g8_51 : m_get 8 51 = some (.iload 6, 2) := by decide +kernel
theorem g8_53 : m_get 8 53 = some (.invokevirtual 45, 3) := by decide +kernel
theorem g8_56 : m_get 8 56 = some (.ifCond .eq 7, 3) := by decide +kernel
theorem g8_59 : m_get 8 59 = some (.iconst 1, 1) := by decide +kernel
theorem g8_60 : m_get 8 60 = some (.goto 4, 3) := by decide +kernel
theorem g8_63 : m_get 8 63 = some (.iconst 0, 1) := by decide +kernel
theorem g8_64 : m_get 8 64 = some (.bastore, 1) := by decide +kernel
theorem g8_65 : m_get 8 65 = some (.aload_n 0, 1) := by decide +kernel
theorem g8_66 : m_get 8 66 = some (.getfield 22, 3) := by decide +kernel
theorem g8_69 : m_get 8 69 = some (.iload 6, 2) := by decide +kernel
theorem g8_71 : m_get 8 71 = some (.iload 6, 2) := by decide +kernel
theorem g8_73 : m_get 8 73 = some (.aload_n 3, 1) := by decide +kernel
theorem g8_74 : m_get 8 74 = some (.arraylength, 1) := by decide +kernel
theorem g8_75 : m_get 8 75 = some (.if_icmp .ge 10, 3) := by decide +kernel
theorem g8_78 : m_get 8 78 = some (.aload_n 3, 1) := by decide +kernel
theorem g8_79 : m_get 8 79 = some (.iload 6, 2) := by decide +kernel
theorem g8_81 : m_get 8 81 = some (.iaload, 1) := by decide +kernel
theorem g8_82 : m_get 8 82 = some (.goto 4, 3) := by decide +kernel
theorem g8_85 : m_get 8 85 = some (.iconst 0, 1) := by decide +kernel
theorem g8_86 : m_get 8 86 = some (.iastore, 1) := by decide +kernel
theorem g8_87 : m_get 8 87 = some (.iload 5, 2) := by decide +kernel
theorem g8_89 : m_get 8 89 = some (.aload_n 0, 1) := by decide +kernel
theorem g8_90 : m_get 8 90 = some (.getfield 18, 3) := by decide +kernel
theorem g8_93 : m_get 8 93 = some (.iload 6, 2) := by decide +kernel
theorem g8_95 : m_get 8 95 = some (.baload, 1) := by decide +kernel
theorem g8_96 : m_get 8 96 = some (.ifCond .eq 7, 3) := by decide +kernel
theorem g8_99 : m_get 8 99 = some (.iconst 1, 1) := by decide +kernel
theorem g8_100 : m_get 8 100 = some (.goto 4, 3) := by decide +kernel
theorem g8_103 : m_get 8 103 = some (.iconst 0, 1) := by decide +kernel
theorem g8_104 : m_get 8 104 = some (.iadd, 1) := by decide +kernel
theorem g8_105 : m_get 8 105 = some (.istore 5, 2) := by decide +kernel
theorem g8_107 : m_get 8 107 = some (.iinc 6 1, 3) := by decide +kernel
theorem g8_110 : m_get 8 110 = some (.goto (-96), 3) := by decide +kernel
theorem g8_113 : m_get 8 113 = some (.iconst 0, 1) := by decide +kernel
theorem g8_114 : m_get 8 114 = some (.istore 6, 2) := by decide +kernel
theorem g8_116 : m_get 8 116 = some (.iload 6, 2) := by decide +kernel
theorem g8_118 : m_get 8 118 = some (.bipush 6, 2) := by decide +kernel
theorem g8_120 : m_get 8 120 = some (.if_icmp .ge 35, 3) := by decide +kernel
theorem g8_123 : m_get 8 123 = some (.aload_n 0, 1) := by decide +kernel
theorem g8_124 : m_get 8 124 = some (.getfield 25, 3) := by decide +kernel
theorem g8_127 : m_get 8 127 = some (.iload 6, 2) := by decide +kernel
theorem g8_129 : m_get 8 129 = some (.iload 6, 2) := by decide +kernel
theorem g8_131 : m_get 8 131 = some (.aload_n 1, 1) := by decide +kernel
theorem g8_132 : m_get 8 132 = some (.getfield 49, 3) := by decide +kernel
theorem g8_135 : m_get 8 135 = some (.if_icmp .ge 12, 3) := by decide +kernel
theorem g8_138 : m_get 8 138 = some (.aload_n 2, 1) := by decide +kernel
theorem g8_139 : m_get 8 139 = some (.iload 6, 2) := by decide +kernel
theorem g8_141 : m_get 8 141 = some (.invokevirtual 52, 3) := by decide +kernel
theorem g8_144 : m_get 8 144 = some (.goto 4, 3) := by decide +kernel
theorem g8_147 : m_get 8 147 = some (.iconst 0, 1) := by decide +kernel
theorem g8_148 : m_get 8 148 = some (.iastore, 1) := by decide +kernel
theorem g8_149 : m_get 8 149 = some (.iinc 6 1, 3) := by decide +kernel
theorem g8_152 : m_get 8 152 = some (.goto (-36), 3) := by decide +kernel
theorem g8_155 : m_get 8 155 = some (.iconst 0, 1) := by decide +kernel
theorem g8_156 : m_get 8 156 = some (.istore 6, 2) := by decide +kernel
theorem g8_158 : m_get 8 158 = some (.iload 6, 2) := by decide +kernel
theorem g8_160 : m_get 8 160 = some (.bipush 6, 2) := by decide +kernel
theorem g8_162 : m_get 8 162 = some (.if_icmp .ge 28, 3) := by decide +kernel
theorem g8_165 : m_get 8 165 = some (.aload_n 0, 1) := by decide +kernel
theorem g8_166 : m_get 8 166 = some (.getfield 28, 3) := by decide +kernel
theorem g8_169 : m_get 8 169 = some (.iload 6, 2) := by decide +kernel
theorem g8_171 : m_get 8 171 = some (.aload_n 1, 1) := by decide +kernel
theorem g8_172 : m_get 8 172 = some (.getfield 56, 3) := by decide +kernel
theorem g8_175 : m_get 8 175 = some (.aload_n 2, 1) := by decide +kernel
theorem g8_176 : m_get 8 176 = some (.aload_n 1, 1) := by decide +kernel
theorem g8_177 : m_get 8 177 = some (.iload 6, 2) := by decide +kernel
theorem g8_179 : m_get 8 179 = some (.invokevirtual 59, 3) := by decide +kernel
theorem g8_182 : m_get 8 182 = some (.isub, 1) := by decide +kernel
theorem g8_183 : m_get 8 183 = some (.iastore, 1) := by decide +kernel
theorem g8_184 : m_get 8 184 = some (.iinc 6 1, 3) := by decide +kernel
theorem g8_187 : m_get 8 187 = some (.goto (-29), 3) := by decide +kernel
theorem g8_190 : m_get 8 190 = some (.aload_n 0, 1) := by decide +kernel
theorem g8_191 : m_get 8 191 = some (.iconst 0, 1) := by decide +kernel
theorem g8_192 : m_get 8 192 = some (.putfield 63, 3) := by decide +kernel
theorem g8_195 : m_get 8 195 = some (.aload_n 0, 1) := by decide +kernel
theorem g8_196 : m_get 8 196 = some (.iload 4, 2) := by decide +kernel
theorem g8_198 : m_get 8 198 = some (.putfield 66, 3) := by decide +kernel
theorem g8_201 : m_get 8 201 = some (.aload_n 0, 1) := by decide +kernel
theorem g8_202 : m_get 8 202 = some (.aload_n 1, 1) := by decide +kernel
theorem g8_203 : m_get 8 203 = some (.invokevirtual 69, 3) := by decide +kernel
theorem g8_206 : m_get 8 206 = some (.iload 5, 2) := by decide +kernel
theorem g8_208 : m_get 8 208 = some (.if_icmp .lt 9, 3) := by decide +kernel
theorem g8_211 : m_get 8 211 = some (.aload_n 0, 1) := by decide +kernel
theorem g8_212 : m_get 8 212 = some (.aload_n 1, 1) := by decide +kernel
theorem g8_213 : m_get 8 213 = some (.iconst 0, 1) := by decide +kernel
theorem g8_214 : m_get 8 214 = some (.invokevirtual 73, 3) := by decide +kernel
theorem g8_217 : m_get 8 217 = some (.aload_n 0, 1) := by decide +kernel
theorem g8_218 : m_get 8 218 = some (.getfield 63, 3) := by decide +kernel
theorem g8_221 : m_get 8 221 = some (.ireturn, 1) := by decide +kernel
theorem f8_15 : m_fl (m_own 8) 15 = some (1, 1) := by decide +kernel
theorem f8_18 : m_fl (m_own 8) 18 = some (1, 2) := by decide +kernel
theorem f8_22 : m_fl (m_own 8) 22 = some (1, 3) := by decide +kernel
theorem f8_25 : m_fl (m_own 8) 25 = some (1, 4) := by decide +kernel
theorem f8_28 : m_fl (m_own 8) 28 = some (1, 5) := by decide +kernel
theorem f8_37 : m_fl (m_own 8) 37 = some (1, 6) := by decide +kernel
theorem f8_40 : m_fl (m_own 8) 40 = some (2, 0) := by decide +kernel
theorem f8_49 : m_fl (m_own 8) 49 = some (4, 0) := by decide +kernel
theorem f8_56 : m_fl (m_own 8) 56 = some (4, 4) := by decide +kernel
theorem f8_63 : m_fl (m_own 8) 63 = some (1, 7) := by decide +kernel
theorem f8_66 : m_fl (m_own 8) 66 = some (1, 8) := by decide +kernel
theorem k8_31 : m_ml (m_own 8) 31 = some (0, 36) := by decide +kernel
theorem k8_45 : m_ml (m_own 8) 45 = some (0, 17) := by decide +kernel
theorem k8_52 : m_ml (m_own 8) 52 = some (0, 18) := by decide +kernel
theorem k8_59 : m_ml (m_own 8) 59 = some (0, 19) := by decide +kernel
theorem k8_69 : m_ml (m_own 8) 69 = some (0, 11) := by decide +kernel
theorem k8_73 : m_ml (m_own 8) 73 = some (0, 9) := by decide +kernel
theorem g9_0 : m_get 9 0 = some (.iload_n 2, 1) := by decide +kernel
theorem g9_1 : m_get 9 1 = some (.ifCond .lt 17, 3) := by decide +kernel
theorem g9_4 : m_get 9 4 = some (.iload_n 2, 1) := by decide +kernel
theorem g9_5 : m_get 9 5 = some (.aload_n 0, 1) := by decide +kernel
theorem g9_6 : m_get 9 6 = some (.getfield 37, 3) := by decide +kernel
theorem g9_9 : m_get 9 9 = some (.if_icmp .ge 9, 3) := by decide +kernel
theorem g9_12 : m_get 9 12 = some (.iload_n 2, 1) := by decide +kernel
theorem g9_13 : m_get 9 13 = some (.bipush 6, 2) := by decide +kernel
theorem g9_15 : m_get 9 15 = some (.if_icmp .lt 29, 3) := by decide +kernel
theorem g9_18 : m_get 9 18 = some (.aload_n 0, 1) := by decide +kernel
theorem g9_19 : m_get 9 19 = some (.dup, 1) := by decide +kernel
theorem g9_20 : m_get 9 20 = some (.getfield 63, 3) := by decide +kernel
theorem g9_23 : m_get 9 23 = some (.iconst 1, 1) := by decide +kernel
theorem g9_24 : m_get 9 24 = some (.iadd, 1) := by decide +kernel
theorem g9_25 : m_get 9 25 = some (.putfield 63, 3) := by decide +kernel
theorem g9_28 : m_get 9 28 = some (.aload_n 0, 1) := by decide +kernel
theorem g9_29 : m_get 9 29 = some (.getfield 15, 3) := by decide +kernel
theorem g9_32 : m_get 9 32 = some (.iconst 0, 1) := by decide +kernel
theorem g9_33 : m_get 9 33 = some (.aload_n 0, 1) := by decide +kernel
theorem g9_34 : m_get 9 34 = some (.getfield 9, 3) := by decide +kernel
theorem g9_37 : m_get 9 37 = some (.iconst 0, 1) := by decide +kernel
theorem g9_38 : m_get 9 38 = some (.bipush 6, 2) := by decide +kernel
theorem g9_40 : m_get 9 40 = some (.invokestatic 77, 3) := by decide +kernel
theorem g9_43 : m_get 9 43 = some (.return_, 1) := by decide +kernel
theorem g9_44 : m_get 9 44 = some (.aload_n 0, 1) := by decide +kernel
theorem g9_45 : m_get 9 45 = some (.getfield 18, 3) := by decide +kernel
theorem g9_48 : m_get 9 48 = some (.iload_n 2, 1) := by decide +kernel
theorem g9_49 : m_get 9 49 = some (.baload, 1) := by decide +kernel
theorem g9_50 : m_get 9 50 = some (.ifCond .ne 12, 3) := by decide +kernel
theorem g9_53 : m_get 9 53 = some (.aload_n 0, 1) := by decide +kernel
theorem g9_54 : m_get 9 54 = some (.aload_n 1, 1) := by decide +kernel
theorem g9_55 : m_get 9 55 = some (.iload_n 2, 1) := by decide +kernel
theorem g9_56 : m_get 9 56 = some (.iconst 1, 1) := by decide +kernel
theorem g9_57 : m_get 9 57 = some (.iadd, 1) := by decide +kernel
theorem g9_58 : m_get 9 58 = some (.invokevirtual 73, 3) := by decide +kernel
theorem g9_61 : m_get 9 61 = some (.return_, 1) := by decide +kernel
theorem g9_62 : m_get 9 62 = some (.aload_n 0, 1) := by decide +kernel
theorem g9_63 : m_get 9 63 = some (.aload_n 1, 1) := by decide +kernel
theorem g9_64 : m_get 9 64 = some (.iload_n 2, 1) := by decide +kernel
theorem g9_65 : m_get 9 65 = some (.invokevirtual 83, 3) := by decide +kernel
theorem g9_68 : m_get 9 68 = some (.istore_n 3, 1) := by decide +kernel
theorem g9_69 : m_get 9 69 = some (.iconst 0, 1) := by decide +kernel
theorem g9_70 : m_get 9 70 = some (.istore 4, 2) := by decide +kernel
theorem g9_72 : m_get 9 72 = some (.iload 4, 2) := by decide +kernel
theorem g9_74 : m_get 9 74 = some (.bipush 24, 2) := by decide +kernel
theorem g9_76 : m_get 9 76 = some (.if_icmp .ge 38, 3) := by decide +kernel
theorem g9_79 : m_get 9 79 = some (.aload_n 0, 1) := by decide +kernel
theorem g9_80 : m_get 9 80 = some (.getfield 63, 3) := by decide +kernel
theorem g9_83 : m_get 9 83 = some (.aload_n 0, 1) := by decide +kernel
theorem g9_84 : m_get 9 84 = some (.getfield 66, 3) := by decide +kernel
theorem g9_87 : m_get 9 87 = some (.if_icmp .ge 27, 3) := by decide +kernel
theorem g9_90 : m_get 9 90 = some (.iload_n 3, 1) := by decide +kernel
theorem g9_91 : m_get 9 91 = some (.iload 4, 2) := by decide +kernel
theorem g9_93 : m_get 9 93 = some (.ishr, 1) := by decide +kernel
theorem g9_94 : m_get 9 94 = some (.iconst 1, 1) := by decide +kernel
theorem g9_95 : m_get 9 95 = some (.iand, 1) := by decide +kernel
theorem g9_96 : m_get 9 96 = some (.iconst 1, 1) := by decide +kernel
theorem g9_97 : m_get 9 97 = some (.if_icmp .ne 11, 3) := by decide +kernel
theorem g9_100 : m_get 9 100 = some (.aload_n 0, 1) := by decide +kernel
theorem g9_101 : m_get 9 101 = some (.aload_n 1, 1) := by decide +kernel
theorem g9_102 : m_get 9 102 = some (.iload_n 2, 1) := by decide +kernel
theorem g9_103 : m_get 9 103 = some (.iload 4, 2) := by decide +kernel
theorem g9_105 : m_get 9 105 = some (.invokevirtual 86, 3) := by decide +kernel
theorem g9_108 : m_get 9 108 = some (.iinc 4 1, 3) := by decide +kernel
theorem g9_111 : m_get 9 111 = some (.goto (-39), 3) := by decide +kernel
theorem g9_114 : m_get 9 114 = some (.return_, 1) := by decide +kernel
theorem f9_9 : m_fl (m_own 9) 9 = some (1, 0) := by decide +kernel
theorem f9_15 : m_fl (m_own 9) 15 = some (1, 1) := by decide +kernel
theorem f9_18 : m_fl (m_own 9) 18 = some (1, 2) := by decide +kernel
theorem f9_37 : m_fl (m_own 9) 37 = some (1, 6) := by decide +kernel
theorem f9_63 : m_fl (m_own 9) 63 = some (1, 7) := by decide +kernel
theorem f9_66 : m_fl (m_own 9) 66 = some (1, 8) := by decide +kernel
theorem k9_73 : m_ml (m_own 9) 73 = some (0, 9) := by decide +kernel
theorem k9_77 : m_ml (m_own 9) 77 = some (6, 0) := by decide +kernel
theorem k9_83 : m_ml (m_own 9) 83 = some (0, 12) := by decide +kernel
theorem k9_86 : m_ml (m_own 9) 86 = some (0, 10) := by decide +kernel
theorem g10_0 : m_get 10 0 = some (.iload_n 3, 1) := by decide +kernel
theorem g10_1 : m_get 10 1 = some (.iconst 4, 1) := by decide +kernel
theorem g10_2 : m_get 10 2 = some (.idiv, 1) := by decide +kernel
theorem g10_3 : m_get 10 3 = some (.istore 4, 2) := by decide +kernel
theorem g10_5 : m_get 10 5 = some (.iload 4, 2) := by decide +kernel
theorem g10_7 : m_get 10 7 = some (.ifCond .lt 20, 3) := by decide +kernel
theorem g10_10 : m_get 10 10 = some (.iload 4, 2) := by decide +kernel
theorem g10_12 : m_get 10 12 = some (.bipush 6, 2) := by decide +kernel
theorem g10_14 : m_get 10 14 = some (.if_icmp .ge 13, 3) := by decide +kernel
theorem g10_17 : m_get 10 17 = some (.aload_n 0, 1) := by decide +kernel
theorem g10_18 : m_get 10 18 = some (.getfield 25, 3) := by decide +kernel
theorem g10_21 : m_get 10 21 = some (.iload 4, 2) := by decide +kernel
theorem g10_23 : m_get 10 23 = some (.iaload, 1) := by decide +kernel
theorem g10_24 : m_get 10 24 = some (.ifCond .gt 4, 3) := by decide +kernel
theorem g10_27 : m_get 10 27 = some (.return_, 1) := by decide +kernel
theorem g10_28 : m_get 10 28 = some (.aload_n 1, 1) := by decide +kernel
theorem g10_29 : m_get 10 29 = some (.getfield 90, 3) := by decide +kernel
theorem g10_32 : m_get 10 32 = some (.iload 4, 2) := by decide +kernel
theorem g10_34 : m_get 10 34 = some (.iaload, 1) := by decide +kernel
theorem g10_35 : m_get 10 35 = some (.istore 5, 2) := by decide +kernel
theorem g10_37 : m_get 10 37 = some (.iload 5, 2) := by decide +kernel
theorem g10_39 : m_get 10 39 = some (.ifCond .lt 20, 3) := by decide +kernel
theorem g10_42 : m_get 10 42 = some (.iload 5, 2) := by decide +kernel
theorem g10_44 : m_get 10 44 = some (.bipush 6, 2) := by decide +kernel
theorem g10_46 : m_get 10 46 = some (.if_icmp .ge 13, 3) := by decide +kernel
theorem g10_49 : m_get 10 49 = some (.aload_n 0, 1) := by decide +kernel
theorem g10_50 : m_get 10 50 = some (.getfield 28, 3) := by decide +kernel
theorem g10_53 : m_get 10 53 = some (.iload 5, 2) := by decide +kernel
theorem g10_55 : m_get 10 55 = some (.iaload, 1) := by decide +kernel
theorem g10_56 : m_get 10 56 = some (.ifCond .gt 4, 3) := by decide +kernel
theorem g10_59 : m_get 10 59 = some (.return_, 1) := by decide +kernel
theorem g10_60 : m_get 10 60 = some (.aload_n 0, 1) := by decide +kernel
theorem g10_61 : m_get 10 61 = some (.getfield 15, 3) := by decide +kernel
theorem g10_64 : m_get 10 64 = some (.iload_n 2, 1) := by decide +kernel
theorem g10_65 : m_get 10 65 = some (.iload_n 3, 1) := by decide +kernel
theorem g10_66 : m_get 10 66 = some (.iastore, 1) := by decide +kernel
theorem g10_67 : m_get 10 67 = some (.aload_n 0, 1) := by decide +kernel
theorem g10_68 : m_get 10 68 = some (.getfield 25, 3) := by decide +kernel
theorem g10_71 : m_get 10 71 = some (.iload 4, 2) := by decide +kernel
theorem g10_73 : m_get 10 73 = some (.dup2, 1) := by decide +kernel
theorem g10_74 : m_get 10 74 = some (.iaload, 1) := by decide +kernel
theorem g10_75 : m_get 10 75 = some (.iconst 1, 1) := by decide +kernel
theorem g10_76 : m_get 10 76 = some (.isub, 1) := by decide +kernel
theorem g10_77 : m_get 10 77 = some (.iastore, 1) := by decide +kernel
theorem g10_78 : m_get 10 78 = some (.aload_n 0, 1) := by decide +kernel
theorem g10_79 : m_get 10 79 = some (.getfield 28, 3) := by decide +kernel
theorem g10_82 : m_get 10 82 = some (.iload 5, 2) := by decide +kernel
theorem g10_84 : m_get 10 84 = some (.dup2, 1) := by decide +kernel
theorem g10_85 : m_get 10 85 = some (.iaload, 1) := by decide +kernel
theorem g10_86 : m_get 10 86 = some (.iconst 1, 1) := by decide +kernel
theorem g10_87 : m_get 10 87 = some (.isub, 1) := by decide +kernel
theorem g10_88 : m_get 10 88 = some (.iastore, 1) := by decide +kernel
theorem g10_89 : m_get 10 89 = some (.aload_n 0, 1) := by decide +kernel
theorem g10_90 : m_get 10 90 = some (.aload_n 1, 1) := by decide +kernel
theorem g10_91 : m_get 10 91 = some (.iload_n 2, 1) := by decide +kernel
theorem g10_92 : m_get 10 92 = some (.iconst 1, 1) := by decide +kernel
theorem g10_93 : m_get 10 93 = some (.iadd, 1) := by decide +kernel
theorem g10_94 : m_get 10 94 = some (.invokevirtual 73, 3) := by decide +kernel
theorem g10_97 : m_get 10 97 = some (.aload_n 0, 1) := by decide +kernel
theorem g10_98 : m_get 10 98 = some (.getfield 28, 3) := by decide +kernel
theorem g10_101 : m_get 10 101 = some (.iload 5, 2) := by decide +kernel
theorem g10_103 : m_get 10 103 = some (.dup2, 1) := by decide +kernel
theorem g10_104 : m_get 10 104 = some (.iaload, 1) := by decide +kernel
theorem g10_105 : m_get 10 105 = some (.iconst 1, 1) := by decide +kernel
theorem g10_106 : m_get 10 106 = some (.iadd, 1) := by decide +kernel
theorem g10_107 : m_get 10 107 = some (.iastore, 1) := by decide +kernel
theorem g10_108 : m_get 10 108 = some (.aload_n 0, 1) := by decide +kernel
theorem g10_109 : m_get 10 109 = some (.getfield 25, 3) := by decide +kernel
theorem g10_112 : m_get 10 112 = some (.iload 4, 2) := by decide +kernel
theorem g10_114 : m_get 10 114 = some (.dup2, 1) := by decide +kernel
theorem g10_115 : m_get 10 115 = some (.iaload, 1) := by decide +kernel
theorem g10_116 : m_get 10 116 = some (.iconst 1, 1) := by decide +kernel
theorem g10_117 : m_get 10 117 = some (.iadd, 1) := by decide +kernel
theorem g10_118 : m_get 10 118 = some (.iastore, 1) := by decide +kernel
theorem g10_119 : m_get 10 119 = some (.return_, 1) := by decide +kernel
theorem f10_15 : m_fl (m_own 10) 15 = some (1, 1) := by decide +kernel
theorem f10_25 : m_fl (m_own 10) 25 = some (1, 4) := by decide +kernel
theorem f10_28 : m_fl (m_own 10) 28 = some (1, 5) := by decide +kernel
theorem f10_90 : m_fl (m_own 10) 90 = some (4, 8) := by decide +kernel
theorem k10_73 : m_ml (m_own 10) 73 = some (0, 9) := by decide +kernel
theorem g11_0 : m_get 11 0 = some (.iconst 0, 1) := by decide +kernel
theorem g11_1 : m_get 11 1 = some (.istore_n 2, 1) := by decide +kernel
theorem g11_2 : m_get 11 2 = some (.iconst 0, 1) := by decide +kernel
theorem g11_3 : m_get 11 3 = some (.istore_n 3, 1) := by decide +kernel
theorem g11_4 : m_get 11 4 = some (.iload_n 3, 1) := by decide +kernel
theorem g11_5 : m_get 11 5 = some (.bipush 6, 2) := by decide +kernel
theorem g11_7 : m_get 11 7 = some (.if_icmp .ge 79, 3) := by decide +kernel
theorem g11_10 : m_get 11 10 = some (.iconst 0, 1) := by decide +kernel
theorem g11_11 : m_get 11 11 = some (.istore 4, 2) := by decide +kernel
theorem g11_13 : m_get 11 13 = some (.iconst 0, 1) := by decide +kernel
theorem g11_14 : m_get 11 14 = some (.istore 5, 2) := by decide +kernel
theorem g11_16 : m_get 11 16 = some (.iload 5, 2) := by decide +kernel
theorem g11_18 : m_get 11 18 = some (.aload_n 1, 1) := by decide +kernel
theorem g11_19 : m_get 11 19 = some (.getfield 49, 3) := by decide +kernel
theorem g11_22 : m_get 11 22 = some (.if_icmp .ge 40, 3) := by decide +kernel
theorem g11_25 : m_get 11 25 = some (.iload 4, 2) := by decide +kernel
theorem g11_27 : m_get 11 27 = some (.aload_n 1, 1) := by decide +kernel
theorem g11_28 : m_get 11 28 = some (.getfield 90, 3) := by decide +kernel
theorem g11_31 : m_get 11 31 = some (.iload 5, 2) := by decide +kernel
theorem g11_33 : m_get 11 33 = some (.iaload, 1) := by decide +kernel
theorem g11_34 : m_get 11 34 = some (.iload_n 3, 1) := by decide +kernel
theorem g11_35 : m_get 11 35 = some (.if_icmp .ne 17, 3) := by decide +kernel
theorem g11_38 : m_get 11 38 = some (.aload_n 0, 1) := by decide +kernel
theorem g11_39 : m_get 11 39 = some (.getfield 25, 3) := by decide +kernel
theorem g11_42 : m_get 11 42 = some (.iload 5, 2) := by decide +kernel
theorem g11_44 : m_get 11 44 = some (.iaload, 1) := by decide +kernel
theorem g11_45 : m_get 11 45 = some (.iconst 0, 1) := by decide +kernel
theorem g11_46 : m_get 11 46 = some (.invokestatic 93, 3) := by decide +kernel
theorem g11_49 : m_get 11 49 = some (.goto 4, 3) := by decide +kernel
theorem g11_52 : m_get 11 52 = some (.iconst 0, 1) := by decide +kernel
theorem g11_53 : m_get 11 53 = some (.iadd, 1) := by decide +kernel
theorem g11_54 : m_get 11 54 = some (.istore 4, 2) := by decide +kernel
theorem g11_56 : m_get 11 56 = some (.iinc 5 1, 3) := by decide +kernel
theorem g11_59 : m_get 11 59 = some (.goto (-43), 3) := by decide +kernel
theorem g11_62 : m_get 11 62 = some (.iload_n 2, 1) := by decide +kernel
theorem g11_63 : m_get 11 63 = some (.iload 4, 2) := by decide +kernel
theorem g11_65 : m_get 11 65 = some (.aload_n 0, 1) := by decide +kernel
theorem g11_66 : m_get 11 66 = some (.getfield 28, 3) := by decide +kernel
theorem g11_69 : m_get 11 69 = some (.iload_n 3, 1) := by decide +kernel
theorem g11_70 : m_get 11 70 = some (.iaload, 1) := by decide +kernel
theorem g11_71 : m_get 11 71 = some (.invokestatic 99, 3) := by decide +kernel
theorem g11_74 : m_get 11 74 = some (.iconst 0, 1) := by decide +kernel
theorem g11_75 : m_get 11 75 = some (.invokestatic 93, 3) := by decide +kernel
theorem g11_78 : m_get 11 78 = some (.iadd, 1) := by decide +kernel
theorem g11_79 : m_get 11 79 = some (.istore_n 2, 1) := by decide +kernel
theorem g11_80 : m_get 11 80 = some (.iinc 3 1, 3) := by decide +kernel
theorem g11_83 : m_get 11 83 = some (.goto (-79), 3) := by decide +kernel
theorem g11_86 : m_get 11 86 = some (.iload_n 2, 1) := by decide +kernel
theorem g11_87 : m_get 11 87 = some (.ireturn, 1) := by decide +kernel
theorem f11_25 : m_fl (m_own 11) 25 = some (1, 4) := by decide +kernel
theorem f11_28 : m_fl (m_own 11) 28 = some (1, 5) := by decide +kernel
theorem f11_49 : m_fl (m_own 11) 49 = some (4, 0) := by decide +kernel
theorem f11_90 : m_fl (m_own 11) 90 = some (4, 8) := by decide +kernel
theorem k11_93 : m_ml (m_own 11) 93 = some (7, 0) := by decide +kernel
theorem k11_99 : m_ml (m_own 11) 99 = some (8, 0) := by decide +kernel
theorem g12_0 : m_get 12 0 = some (.aload_n 0, 1) := by decide +kernel
theorem g12_1 : m_get 12 1 = some (.getfield 22, 3) := by decide +kernel
theorem g12_4 : m_get 12 4 = some (.iload_n 2, 1) := by decide +kernel
theorem g12_5 : m_get 12 5 = some (.iaload, 1) := by decide +kernel
theorem g12_6 : m_get 12 6 = some (.istore_n 3, 1) := by decide +kernel
theorem g12_7 : m_get 12 7 = some (.aload_n 1, 1) := by decide +kernel
theorem g12_8 : m_get 12 8 = some (.iload_n 2, 1) := by decide +kernel
theorem g12_9 : m_get 12 9 = some (.iconst 0, 1) := by decide +kernel
theorem g12_10 : m_get 12 10 = some (.invokevirtual 102, 3) := by decide +kernel
theorem g12_13 : m_get 12 13 = some (.istore 4, 2) := by decide +kernel
theorem g12_15 : m_get 12 15 = some (.iload 4, 2) := by decide +kernel
theorem g12_17 : m_get 12 17 = some (.ifCond .lt 30, 3) := by decide +kernel
theorem g12_20 : m_get 12 20 = some (.iload 4, 2) := by decide +kernel
theorem g12_22 : m_get 12 22 = some (.bipush 6, 2) := by decide +kernel
theorem g12_24 : m_get 12 24 = some (.if_icmp .ge 23, 3) := by decide +kernel
theorem g12_27 : m_get 12 27 = some (.iload_n 3, 1) := by decide +kernel
theorem g12_28 : m_get 12 28 = some (.aload_n 1, 1) := by decide +kernel
theorem g12_29 : m_get 12 29 = some (.iconst 0, 1) := by decide +kernel
theorem g12_30 : m_get 12 30 = some (.aload_n 1, 1) := by decide +kernel
theorem g12_31 : m_get 12 31 = some (.aload_n 0, 1) := by decide +kernel
theorem g12_32 : m_get 12 32 = some (.getfield 15, 3) := by decide +kernel
theorem g12_35 : m_get 12 35 = some (.iload 4, 2) := by decide +kernel
theorem g12_37 : m_get 12 37 = some (.iaload, 1) := by decide +kernel
theorem g12_38 : m_get 12 38 = some (.iconst 2, 1) := by decide +kernel
theorem g12_39 : m_get 12 39 = some (.invokevirtual 105, 3) := by decide +kernel
theorem g12_42 : m_get 12 42 = some (.invokevirtual 108, 3) := by decide +kernel
theorem g12_45 : m_get 12 45 = some (.iand, 1) := by decide +kernel
theorem g12_46 : m_get 12 46 = some (.istore_n 3, 1) := by decide +kernel
theorem g12_47 : m_get 12 47 = some (.aload_n 1, 1) := by decide +kernel
theorem g12_48 : m_get 12 48 = some (.iload_n 2, 1) := by decide +kernel
theorem g12_49 : m_get 12 49 = some (.iconst 3, 1) := by decide +kernel
theorem g12_50 : m_get 12 50 = some (.invokevirtual 102, 3) := by decide +kernel
theorem g12_53 : m_get 12 53 = some (.istore 5, 2) := by decide +kernel
theorem g12_55 : m_get 12 55 = some (.iload 5, 2) := by decide +kernel
theorem g12_57 : m_get 12 57 = some (.ifCond .lt 30, 3) := by decide +kernel
theorem g12_60 : m_get 12 60 = some (.iload 5, 2) := by decide +kernel
theorem g12_62 : m_get 12 62 = some (.bipush 6, 2) := by decide +kernel
theorem g12_64 : m_get 12 64 = some (.if_icmp .ge 23, 3) := by decide +kernel
theorem g12_67 : m_get 12 67 = some (.iload_n 3, 1) := by decide +kernel
theorem g12_68 : m_get 12 68 = some (.aload_n 1, 1) := by decide +kernel
theorem g12_69 : m_get 12 69 = some (.iconst 3, 1) := by decide +kernel
theorem g12_70 : m_get 12 70 = some (.aload_n 1, 1) := by decide +kernel
theorem g12_71 : m_get 12 71 = some (.aload_n 0, 1) := by decide +kernel
theorem g12_72 : m_get 12 72 = some (.getfield 15, 3) := by decide +kernel
theorem g12_75 : m_get 12 75 = some (.iload 5, 2) := by decide +kernel
theorem g12_77 : m_get 12 77 = some (.iaload, 1) := by decide +kernel
theorem g12_78 : m_get 12 78 = some (.iconst 1, 1) := by decide +kernel
theorem g12_79 : m_get 12 79 = some (.invokevirtual 105, 3) := by decide +kernel
theorem g12_82 : m_get 12 82 = some (.invokevirtual 108, 3) := by decide +kernel
theorem g12_85 : m_get 12 85 = some (.iand, 1) := by decide +kernel
theorem g12_86 : m_get 12 86 = some (.istore_n 3, 1) := by decide +kernel
theorem g12_87 : m_get 12 87 = some (.iload_n 3, 1) := by decide +kernel
theorem g12_88 : m_get 12 88 = some (.ireturn, 1) := by decide +kernel
theorem f12_15 : m_fl (m_own 12) 15 = some (1, 1) := by decide +kernel
theorem f12_22 : m_fl (m_own 12) 22 = some (1, 3) := by decide +kernel
theorem k12_102 : m_ml (m_own 12) 102 = some (0, 42) := by decide +kernel
theorem k12_105 : m_ml (m_own 12) 105 = some (0, 37) := by decide +kernel
theorem k12_108 : m_ml (m_own 12) 108 = some (0, 41) := by decide +kernel
theorem g13_0 : m_get 13 0 = some (.aload_n 0, 1) := by decide +kernel
theorem g13_1 : m_get 13 1 = some (.invokespecial 3, 3) := by decide +kernel
theorem g13_4 : m_get 13 4 = some (.aload_n 0, 1) := by decide +kernel
theorem g13_5 : m_get 13 5 = some (.bipush 6, 2) := by decide +kernel
theorem g13_7 : m_get 13 7 = some (.newarray .int, 2) := by decide +kernel
theorem g13_9 : m_get 13 9 = some (.putfield 9, 3) := by decide +kernel
theorem g13_12 : m_get 13 12 = some (.aload_n 0, 1) := by decide +kernel
theorem g13_13 : m_get 13 13 = some (.bipush 6, 2) := by decide +kernel
theorem g13_15 : m_get 13 15 = some (.newarray .int, 2) := by decide +kernel
theorem g13_17 : m_get 13 17 = some (.putfield 15, 3) := by decide +kernel
theorem g13_20 : m_get 13 20 = some (.aload_n 0, 1) := by decide +kernel
theorem g13_21 : m_get 13 21 = some (.invokevirtual 18, 3) := by decide +kernel
theorem g13_24 : m_get 13 24 = some (.return_, 1) := by decide +kernel
theorem f13_9 : m_fl (m_own 13) 9 = some (2, 0) := by decide +kernel
theorem f13_15 : m_fl (m_own 13) 15 = some (2, 1) := by decide +kernel
theorem k13_3 : m_ml (m_own 13) 3 = some (5, 0) := by decide +kernel
theorem k13_18 : m_ml (m_own 13) 18 = some (0, 16) := by decide +kernel
theorem g14_0 : m_get 14 0 = some (.aload_n 0, 1) := by decide +kernel
theorem g14_1 : m_get 14 1 = some (.invokevirtual 18, 3) := by decide +kernel
theorem g14_4 : m_get 14 4 = some (.aload_n 1, 1) := by decide +kernel
theorem g14_5 : m_get 14 5 = some (.getfield 21, 3) := by decide +kernel
theorem g14_8 : m_get 14 8 = some (.iconst 0, 1) := by decide +kernel
theorem g14_9 : m_get 14 9 = some (.aload_n 0, 1) := by decide +kernel
theorem g14_10 : m_get 14 10 = some (.getfield 15, 3) := by decide +kernel
theorem g14_13 : m_get 14 13 = some (.iconst 0, 1) := by decide +kernel
theorem g14_14 : m_get 14 14 = some (.bipush 6, 2) := by decide +kernel
theorem g14_16 : m_get 14 16 = some (.invokestatic 24, 3) := by decide +kernel
theorem g14_19 : m_get 14 19 = some (.return_, 1) := by decide +kernel
theorem f14_15 : m_fl (m_own 14) 15 = some (2, 1) := by decide +kernel
theorem f14_21 : m_fl (m_own 14) 21 = some (4, 9) := by decide +kernel
theorem k14_18 : m_ml (m_own 14) 18 = some (0, 16) := by decide +kernel
theorem k14_24 : m_ml (m_own 14) 24 = some (6, 0) := by decide +kernel
theorem g15_0 : m_get 15 0 = some (.aload_n 1, 1) := by decide +kernel
theorem g15_1 : m_get 15 1 = some (.getfield 9, 3) := by decide +kernel
theorem g15_4 : m_get 15 4 = some (.iconst 0, 1) := by decide +kernel
theorem g15_5 : m_get 15 5 = some (.aload_n 0, 1) := by decide +kernel
theorem g15_6 : m_get 15 6 = some (.getfield 9, 3) := by decide +kernel
theorem g15_9 : m_get 15 9 = some (.iconst 0, 1) := by decide +kernel
theorem g15_10 : m_get 15 10 = some (.bipush 6, 2) := by decide +kernel
theorem g15_12 : m_get 15 12 = some (.invokestatic 24, 3) := by decide +kernel
theorem g15_15 : m_get 15 15 = some (.aload_n 1, 1) := by decide +kernel
theorem g15_16 : m_get 15 16 = some (.getfield 15, 3) := by decide +kernel
theorem g15_19 : m_get 15 19 = some (.iconst 0, 1) := by decide +kernel
theorem g15_20 : m_get 15 20 = some (.aload_n 0, 1) := by decide +kernel
theorem g15_21 : m_get 15 21 = some (.getfield 15, 3) := by decide +kernel
theorem g15_24 : m_get 15 24 = some (.iconst 0, 1) := by decide +kernel
theorem g15_25 : m_get 15 25 = some (.bipush 6, 2) := by decide +kernel
theorem g15_27 : m_get 15 27 = some (.invokestatic 24, 3) := by decide +kernel
theorem g15_30 : m_get 15 30 = some (.return_, 1) := by decide +kernel
theorem f15_9 : m_fl (m_own 15) 9 = some (2, 0) := by decide +kernel
theorem f15_15 : m_fl (m_own 15) 15 = some (2, 1) := by decide +kernel
theorem k15_24 : m_ml (m_own 15) 24 = some (6, 0) := by decide +kernel
theorem g16_0 : m_get 16 0 = some (.aload_n 0, 1) := by decide +kernel
theorem g16_1 : m_get 16 1 = some (.getfield 9, 3) := by decide +kernel
theorem g16_4 : m_get 16 4 = some (.bipush (-9), 2) := by decide +kernel
theorem g16_6 : m_get 16 6 = some (.invokestatic 30, 3) := by decide +kernel
theorem g16_9 : m_get 16 9 = some (.return_, 1) := by decide +kernel
theorem f16_9 : m_fl (m_own 16) 9 = some (2, 0) := by decide +kernel
theorem k16_30 : m_ml (m_own 16) 30 = some (1, 161) := by decide +kernel
theorem g17_0 : m_get 17 0 = some (.iload_n 1, 1) := by decide +kernel
theorem g17_1 : m_get 17 1 = some (.ifCond .lt 24, 3) := by decide +kernel
theorem g17_4 : m_get 17 4 = some (.iload_n 1, 1) := by decide +kernel
theorem g17_5 : m_get 17 5 = some (.bipush 6, 2) := by decide +kernel
theorem g17_7 : m_get 17 7 = some (.if_icmp .ge 18, 3) := by decide +kernel
theorem g17_10 : m_get 17 10 = some (.aload_n 0, 1) := by decide +kernel
theorem g17_11 : m_get 17 11 = some (.getfield 9, 3) := by decide +kernel
theorem g17_14 : m_get 17 14 = some (.iload_n 1, 1) := by decide +kernel
theorem g17_15 : m_get 17 15 = some (.iaload, 1) := by decide +kernel
theorem g17_16 : m_get 17 16 = some (.bipush (-9), 2) := by decide +kernel
theorem g17_18 : m_get 17 18 = some (.if_icmp .ne 7, 3) := by decide +kernel
theorem g17_21 : m_get 17 21 = some (.iconst 1, 1) := by decide +kernel
theorem g17_22 : m_get 17 22 = some (.goto 4, 3) := by decide +kernel
theorem g17_25 : m_get 17 25 = some (.iconst 0, 1) := by decide +kernel
theorem g17_26 : m_get 17 26 = some (.ireturn, 1) := by decide +kernel
theorem f17_9 : m_fl (m_own 17) 9 = some (2, 0) := by decide +kernel
theorem g18_0 : m_get 18 0 = some (.iload_n 1, 1) := by decide +kernel
theorem g18_1 : m_get 18 1 = some (.ifCond .lt 9, 3) := by decide +kernel
theorem g18_4 : m_get 18 4 = some (.iload_n 1, 1) := by decide +kernel
theorem g18_5 : m_get 18 5 = some (.bipush 6, 2) := by decide +kernel
theorem g18_7 : m_get 18 7 = some (.if_icmp .lt 5, 3) := by decide +kernel
theorem g18_10 : m_get 18 10 = some (.iconst 0, 1) := by decide +kernel
theorem g18_11 : m_get 18 11 = some (.ireturn, 1) := by decide +kernel
theorem g18_12 : m_get 18 12 = some (.iconst 0, 1) := by decide +kernel
theorem g18_13 : m_get 18 13 = some (.istore_n 2, 1) := by decide +kernel
theorem g18_14 : m_get 18 14 = some (.iconst 0, 1) := by decide +kernel
theorem g18_15 : m_get 18 15 = some (.istore_n 3, 1) := by decide +kernel
theorem g18_16 : m_get 18 16 = some (.iload_n 3, 1) := by decide +kernel
theorem g18_17 : m_get 18 17 = some (.bipush 6, 2) := by decide +kernel
theorem g18_19 : m_get 18 19 = some (.if_icmp .ge 33, 3) := by decide +kernel
theorem g18_22 : m_get 18 22 = some (.aload_n 0, 1) := by decide +kernel
theorem g18_23 : m_get 18 23 = some (.getfield 9, 3) := by decide +kernel
theorem g18_26 : m_get 18 26 = some (.iload_n 3, 1) := by decide +kernel
theorem g18_27 : m_get 18 27 = some (.iaload, 1) := by decide +kernel
theorem g18_28 : m_get 18 28 = some (.ifCond .lt 18, 3) := by decide +kernel
theorem g18_31 : m_get 18 31 = some (.aload_n 0, 1) := by decide +kernel
theorem g18_32 : m_get 18 32 = some (.getfield 9, 3) := by decide +kernel
theorem g18_35 : m_get 18 35 = some (.iload_n 3, 1) := by decide +kernel
theorem g18_36 : m_get 18 36 = some (.iaload, 1) := by decide +kernel
theorem g18_37 : m_get 18 37 = some (.iconst 4, 1) := by decide +kernel
theorem g18_38 : m_get 18 38 = some (.idiv, 1) := by decide +kernel
theorem g18_39 : m_get 18 39 = some (.iload_n 1, 1) := by decide +kernel
theorem g18_40 : m_get 18 40 = some (.if_icmp .ne 6, 3) := by decide +kernel
theorem g18_43 : m_get 18 43 = some (.iinc 2 1, 3) := by decide +kernel
theorem g18_46 : m_get 18 46 = some (.iinc 3 1, 3) := by decide +kernel
theorem g18_49 : m_get 18 49 = some (.goto (-33), 3) := by decide +kernel
theorem g18_52 : m_get 18 52 = some (.aload_n 0, 1) := by decide +kernel
theorem g18_53 : m_get 18 53 = some (.getfield 15, 3) := by decide +kernel
theorem g18_56 : m_get 18 56 = some (.iload_n 1, 1) := by decide +kernel
theorem g18_57 : m_get 18 57 = some (.iaload, 1) := by decide +kernel
theorem g18_58 : m_get 18 58 = some (.iload_n 2, 1) := by decide +kernel
theorem g18_59 : m_get 18 59 = some (.isub, 1) := by decide +kernel
theorem g18_60 : m_get 18 60 = some (.ireturn, 1) := by decide +kernel
theorem f18_9 : m_fl (m_own 18) 9 = some (2, 0) := by decide +kernel
theorem f18_15 : m_fl (m_own 18) 15 = some (2, 1) := by decide +kernel
theorem g19_0 : m_get 19 0 = some (.iconst 0, 1) := by decide +kernel
theorem g19_1 : m_get 19 1 = some (.istore_n 3, 1) := by decide +kernel
theorem g19_2 : m_get 19 2 = some (.iconst 0, 1) := by decide +kernel
theorem g19_3 : m_get 19 3 = some (.istore 4, 2) := by decide +kernel
theorem g19_5 : m_get 19 5 = some (.iload 4, 2) := by decide +kernel
theorem g19_7 : m_get 19 7 = some (.bipush 6, 2) := by decide +kernel
theorem g19_9 : m_get 19 9 = some (.if_icmp .ge 51, 3) := by decide +kernel
theorem g19_12 : m_get 19 12 = some (.aload_n 0, 1) := by decide +kernel
theorem g19_13 : m_get 19 13 = some (.getfield 9, 3) := by decide +kernel
theorem g19_16 : m_get 19 16 = some (.iload 4, 2) := by decide +kernel
theorem g19_18 : m_get 19 18 = some (.iaload, 1) := by decide +kernel
theorem g19_19 : m_get 19 19 = some (.iconst 4, 1) := by decide +kernel
theorem g19_20 : m_get 19 20 = some (.idiv, 1) := by decide +kernel
theorem g19_21 : m_get 19 21 = some (.istore 5, 2) := by decide +kernel
theorem g19_23 : m_get 19 23 = some (.aload_n 0, 1) := by decide +kernel
theorem g19_24 : m_get 19 24 = some (.getfield 9, 3) := by decide +kernel
theorem g19_27 : m_get 19 27 = some (.iload 4, 2) := by decide +kernel
theorem g19_29 : m_get 19 29 = some (.iaload, 1) := by decide +kernel
theorem g19_30 : m_get 19 30 = some (.ifCond .lt 24, 3) := by decide +kernel
theorem g19_33 : m_get 19 33 = some (.iload 5, 2) := by decide +kernel
theorem g19_35 : m_get 19 35 = some (.bipush 6, 2) := by decide +kernel
theorem g19_37 : m_get 19 37 = some (.if_icmp .ge 17, 3) := by decide +kernel
theorem g19_40 : m_get 19 40 = some (.aload_n 1, 1) := by decide +kernel
theorem g19_41 : m_get 19 41 = some (.getfield 36, 3) := by decide +kernel
theorem g19_44 : m_get 19 44 = some (.iload 5, 2) := by decide +kernel
theorem g19_46 : m_get 19 46 = some (.iaload, 1) := by decide +kernel
theorem g19_47 : m_get 19 47 = some (.iload_n 2, 1) := by decide +kernel
theorem g19_48 : m_get 19 48 = some (.if_icmp .ne 6, 3) := by decide +kernel
theorem g19_51 : m_get 19 51 = some (.iinc 3 1, 3) := by decide +kernel
theorem g19_54 : m_get 19 54 = some (.iinc 4 1, 3) := by decide +kernel
theorem g19_57 : m_get 19 57 = some (.goto (-52), 3) := by decide +kernel
theorem g19_60 : m_get 19 60 = some (.iload_n 3, 1) := by decide +kernel
theorem g19_61 : m_get 19 61 = some (.ireturn, 1) := by decide +kernel
theorem f19_9 : m_fl (m_own 19) 9 = some (2, 0) := by decide +kernel
theorem f19_36 : m_fl (m_own 19) 36 = some (4, 8) := by decide +kernel
theorem g20_0 : m_get 20 0 = some (.aload_n 0, 1) := by decide +kernel
theorem g20_1 : m_get 20 1 = some (.invokespecial 3, 3) := by decide +kernel
theorem g20_4 : m_get 20 4 = some (.return_, 1) := by decide +kernel
theorem k20_3 : m_ml (m_own 20) 3 = some (5, 0) := by decide +kernel
theorem g21_0 : m_get 21 0 = some (.aload_n 0, 1) := by decide +kernel
theorem g21_1 : m_get 21 1 = some (.aload_n 1, 1) := by decide +kernel
theorem g21_2 : m_get 21 2 = some (.invokevirtual 9, 3) := by decide +kernel
theorem g21_5 : m_get 21 5 = some (.iload_n 3, 1) := by decide +kernel
theorem g21_6 : m_get 21 6 = some (.aload_n 2, 1) := by decide +kernel
theorem g21_7 : m_get 21 7 = some (.arraylength, 1) := by decide +kernel
theorem g21_8 : m_get 21 8 = some (.invokestatic 15, 3) := by decide +kernel
theorem g21_11 : m_get 21 11 = some (.istore 4, 2) := by decide +kernel
theorem g21_13 : m_get 21 13 = some (.iconst 0, 1) := by decide +kernel
theorem g21_14 : m_get 21 14 = some (.istore 5, 2) := by decide +kernel
theorem g21_16 : m_get 21 16 = some (.aload_n 0, 1) := by decide +kernel
theorem g21_17 : m_get 21 17 = some (.aload_n 2, 1) := by decide +kernel
theorem g21_18 : m_get 21 18 = some (.iload 4, 2) := by decide +kernel
theorem g21_20 : m_get 21 20 = some (.invokevirtual 21, 3) := by decide +kernel
theorem g21_23 : m_get 21 23 = some (.aload_n 0, 1) := by decide +kernel
theorem g21_24 : m_get 21 24 = some (.getfield 25, 3) := by decide +kernel
theorem g21_27 : m_get 21 27 = some (.iconst (-1), 1) := by decide +kernel
theorem g21_28 : m_get 21 28 = some (.if_icmp .eq 42, 3) := by decide +kernel
theorem g21_31 : m_get 21 31 = some (.iload 5, 2) := by decide +kernel
theorem g21_33 : m_get 21 33 = some (.bipush 120, 2) := by decide +kernel
theorem g21_35 : m_get 21 35 = some (.if_icmp .gt 35, 3) := by decide +kernel
theorem g21_38 : m_get 21 38 = some (.aload_n 0, 1) := by decide +kernel
theorem g21_39 : m_get 21 39 = some (.aload_n 1, 1) := by decide +kernel
theorem g21_40 : m_get 21 40 = some (.aload_n 2, 1) := by decide +kernel
theorem g21_41 : m_get 21 41 = some (.iload 4, 2) := by decide +kernel
theorem g21_43 : m_get 21 43 = some (.invokevirtual 29, 3) := by decide +kernel
theorem g21_46 : m_get 21 46 = some (.ifCond .ne 11, 3) := by decide +kernel
theorem g21_49 : m_get 21 49 = some (.bipush (-10), 2) := by decide +kernel
theorem g21_51 : m_get 21 51 = some (.aload_n 0, 1) := by decide +kernel
theorem g21_52 : m_get 21 52 = some (.getfield 33, 3) := by decide +kernel
theorem g21_55 : m_get 21 55 = some (.isub, 1) := by decide +kernel
theorem g21_56 : m_get 21 56 = some (.ireturn, 1) := by decide +kernel
theorem g21_57 : m_get 21 57 = some (.iinc 5 1, 3) := by decide +kernel
theorem g21_60 : m_get 21 60 = some (.aload_n 0, 1) := by decide +kernel
theorem g21_61 : m_get 21 61 = some (.aload_n 2, 1) := by decide +kernel
theorem g21_62 : m_get 21 62 = some (.iload 4, 2) := by decide +kernel
theorem g21_64 : m_get 21 64 = some (.invokevirtual 21, 3) := by decide +kernel
theorem g21_67 : m_get 21 67 = some (.goto (-44), 3) := by decide +kernel
theorem g21_70 : m_get 21 70 = some (.iload 5, 2) := by decide +kernel
theorem g21_72 : m_get 21 72 = some (.ireturn, 1) := by decide +kernel
theorem f21_25 : m_fl (m_own 21) 25 = some (3, 2) := by decide +kernel
theorem f21_33 : m_fl (m_own 21) 33 = some (3, 1) := by decide +kernel
theorem k21_9 : m_ml (m_own 21) 9 = some (0, 22) := by decide +kernel
theorem k21_15 : m_ml (m_own 21) 15 = some (8, 0) := by decide +kernel
theorem k21_21 : m_ml (m_own 21) 21 = some (0, 30) := by decide +kernel
theorem k21_29 : m_ml (m_own 21) 29 = some (0, 23) := by decide +kernel
theorem g22_0 : m_get 22 0 = some (.aload_n 1, 1) := by decide +kernel
theorem g22_1 : m_get 22 1 = some (.invokevirtual 36, 3) := by decide +kernel
theorem g22_4 : m_get 22 4 = some (.aload_n 0, 1) := by decide +kernel
theorem g22_5 : m_get 22 5 = some (.iconst 0, 1) := by decide +kernel
theorem g22_6 : m_get 22 6 = some (.putfield 40, 3) := by decide +kernel
theorem g22_9 : m_get 22 9 = some (.aload_n 0, 1) := by decide +kernel
theorem g22_10 : m_get 22 10 = some (.iconst 0, 1) := by decide +kernel
theorem g22_11 : m_get 22 11 = some (.putfield 43, 3) := by decide +kernel
theorem g22_14 : m_get 22 14 = some (.aload_n 0, 1) := by decide +kernel
theorem g22_15 : m_get 22 15 = some (.iconst 0, 1) := by decide +kernel
theorem g22_16 : m_get 22 16 = some (.putfield 47, 3) := by decide +kernel
theorem g22_19 : m_get 22 19 = some (.aload_n 0, 1) := by decide +kernel
theorem g22_20 : m_get 22 20 = some (.iconst 0, 1) := by decide +kernel
theorem g22_21 : m_get 22 21 = some (.putfield 50, 3) := by decide +kernel
theorem g22_24 : m_get 22 24 = some (.aload_n 0, 1) := by decide +kernel
theorem g22_25 : m_get 22 25 = some (.iconst 0, 1) := by decide +kernel
theorem g22_26 : m_get 22 26 = some (.putfield 53, 3) := by decide +kernel
theorem g22_29 : m_get 22 29 = some (.return_, 1) := by decide +kernel
theorem f22_40 : m_fl (m_own 22) 40 = some (3, 0) := by decide +kernel
theorem f22_43 : m_fl (m_own 22) 43 = some (3, 4) := by decide +kernel
theorem f22_47 : m_fl (m_own 22) 47 = some (3, 5) := by decide +kernel
theorem f22_50 : m_fl (m_own 22) 50 = some (3, 6) := by decide +kernel
theorem f22_53 : m_fl (m_own 22) 53 = some (3, 7) := by decide +kernel
theorem k22_36 : m_ml (m_own 22) 36 = some (0, 35) := by decide +kernel
theorem g23_0 : m_get 23 0 = some (.aload_n 0, 1) := by decide +kernel
theorem g23_1 : m_get 23 1 = some (.getfield 25, 3) := by decide +kernel
theorem g23_4 : m_get 23 4 = some (.istore 4, 2) := by decide +kernel
theorem g23_6 : m_get 23 6 = some (.aload_n 0, 1) := by decide +kernel
theorem g23_7 : m_get 23 7 = some (.aload_n 1, 1) := by decide +kernel
theorem g23_8 : m_get 23 8 = some (.iload 4, 2) := by decide +kernel
theorem g23_10 : m_get 23 10 = some (.invokevirtual 56, 3) := by decide +kernel
theorem g23_13 : m_get 23 13 = some (.ifCond .ne 5, 3) := by decide +kernel
theorem g23_16 : m_get 23 16 = some (.iconst 0, 1) := by decide +kernel
theorem g23_17 : m_get 23 17 = some (.ireturn, 1) := by decide +kernel
theorem g23_18 : m_get 23 18 = some (.aload_n 1, 1) := by decide +kernel
theorem g23_19 : m_get 23 19 = some (.getfield 60, 3) := by decide +kernel
theorem g23_22 : m_get 23 22 = some (.istore 5, 2) := by decide +kernel
theorem g23_24 : m_get 23 24 = some (.iconst 0, 1) := by decide +kernel
theorem g23_25 : m_get 23 25 = some (.istore 6, 2) := by decide +kernel
theorem g23_27 : m_get 23 27 = some (.iload 6, 2) := by decide +kernel
theorem g23_29 : m_get 23 29 = some (.iload 4, 2) := by decide +kernel
theorem g23_31 : m_get 23 31 = some (.invokestatic 63, 3) := by decide +kernel
theorem g23_34 : m_get 23 34 = some (.if_icmp .ge 63, 3) := by decide +kernel
theorem g23_37 : m_get 23 37 = some (.aload_n 0, 1) := by decide +kernel
theorem g23_38 : m_get 23 38 = some (.aload_n 2, 1) := by decide +kernel
theorem g23_39 : m_get 23 39 = some (.iload_n 3, 1) := by decide +kernel
theorem g23_40 : m_get 23 40 = some (.invokevirtual 21, 3) := by decide +kernel
theorem g23_43 : m_get 23 43 = some (.aload_n 0, 1) := by decide +kernel
theorem g23_44 : m_get 23 44 = some (.getfield 25, 3) := by decide +kernel
theorem g23_47 : m_get 23 47 = some (.bipush (-2), 2) := by decide +kernel
theorem g23_49 : m_get 23 49 = some (.if_icmp .ne 29, 3) := by decide +kernel
theorem g23_52 : m_get 23 52 = some (.aload_n 0, 1) := by decide +kernel
theorem g23_53 : m_get 23 53 = some (.getfield 67, 3) := by decide +kernel
theorem g23_56 : m_get 23 56 = some (.iload 4, 2) := by decide +kernel
theorem g23_58 : m_get 23 58 = some (.invokestatic 70, 3) := by decide +kernel
theorem g23_61 : m_get 23 61 = some (.if_icmp .lt 17, 3) := by decide +kernel
theorem g23_64 : m_get 23 64 = some (.aload_n 0, 1) := by decide +kernel
theorem g23_65 : m_get 23 65 = some (.getfield 67, 3) := by decide +kernel
theorem g23_68 : m_get 23 68 = some (.iload 4, 2) := by decide +kernel
theorem g23_70 : m_get 23 70 = some (.iload 6, 2) := by decide +kernel
theorem g23_72 : m_get 23 72 = some (.invokestatic 73, 3) := by decide +kernel
theorem g23_75 : m_get 23 75 = some (.if_icmp .le 5, 3) := by decide +kernel
theorem g23_78 : m_get 23 78 = some (.iconst 0, 1) := by decide +kernel
theorem g23_79 : m_get 23 79 = some (.ireturn, 1) := by decide +kernel
theorem g23_80 : m_get 23 80 = some (.aload_n 0, 1) := by decide +kernel
theorem g23_81 : m_get 23 81 = some (.aload_n 1, 1) := by decide +kernel
theorem g23_82 : m_get 23 82 = some (.iload 4, 2) := by decide +kernel
theorem g23_84 : m_get 23 84 = some (.iload 5, 2) := by decide +kernel
theorem g23_86 : m_get 23 86 = some (.iload 6, 2) := by decide +kernel
theorem g23_88 : m_get 23 88 = some (.invokevirtual 76, 3) := by decide +kernel
theorem g23_91 : m_get 23 91 = some (.iinc 6 1, 3) := by decide +kernel
theorem g23_94 : m_get 23 94 = some (.goto (-67), 3) := by decide +kernel
theorem g23_97 : m_get 23 97 = some (.aload_n 0, 1) := by decide +kernel
theorem g23_98 : m_get 23 98 = some (.aload_n 2, 1) := by decide +kernel
theorem g23_99 : m_get 23 99 = some (.iload_n 3, 1) := by decide +kernel
theorem g23_100 : m_get 23 100 = some (.invokevirtual 21, 3) := by decide +kernel
theorem g23_103 : m_get 23 103 = some (.aload_n 0, 1) := by decide +kernel
theorem g23_104 : m_get 23 104 = some (.getfield 25, 3) := by decide +kernel
theorem g23_107 : m_get 23 107 = some (.bipush 59, 2) := by decide +kernel
theorem g23_109 : m_get 23 109 = some (.if_icmp .eq 5, 3) := by decide +kernel
theorem g23_112 : m_get 23 112 = some (.iconst 0, 1) := by decide +kernel
theorem g23_113 : m_get 23 113 = some (.ireturn, 1) := by decide +kernel
theorem g23_114 : m_get 23 114 = some (.iload 4, 2) := by decide +kernel
theorem g23_116 : m_get 23 116 = some (.bipush 107, 2) := by decide +kernel
theorem g23_118 : m_get 23 118 = some (.if_icmp .ne 11, 3) := by decide +kernel
theorem g23_121 : m_get 23 121 = some (.aload_n 1, 1) := by decide +kernel
theorem g23_122 : m_get 23 122 = some (.iload 5, 2) := by decide +kernel
theorem g23_124 : m_get 23 124 = some (.iconst 1, 1) := by decide +kernel
theorem g23_125 : m_get 23 125 = some (.iadd, 1) := by decide +kernel
theorem g23_126 : m_get 23 126 = some (.putfield 60, 3) := by decide +kernel
theorem g23_129 : m_get 23 129 = some (.iconst 1, 1) := by decide +kernel
theorem g23_130 : m_get 23 130 = some (.ireturn, 1) := by decide +kernel
theorem f23_25 : m_fl (m_own 23) 25 = some (3, 2) := by decide +kernel
theorem f23_60 : m_fl (m_own 23) 60 = some (4, 0) := by decide +kernel
theorem f23_67 : m_fl (m_own 23) 67 = some (3, 3) := by decide +kernel
theorem k23_21 : m_ml (m_own 23) 21 = some (0, 30) := by decide +kernel
theorem k23_56 : m_ml (m_own 23) 56 = some (0, 24) := by decide +kernel
theorem k23_63 : m_ml (m_own 23) 63 = some (1, 25) := by decide +kernel
theorem k23_70 : m_ml (m_own 23) 70 = some (1, 26) := by decide +kernel
theorem k23_73 : m_ml (m_own 23) 73 = some (1, 27) := by decide +kernel
theorem k23_76 : m_ml (m_own 23) 76 = some (0, 28) := by decide +kernel
theorem g24_0 : m_get 24 0 = some (.iload_n 2, 1) := by decide +kernel
theorem g24_1 : m_get 24 1 = some (.lookupswitch 153 #[(101, 90), (107, 51), (109, 111), (115, 132), (119, 69)], 51) := by decide +kernel
theorem g24_52 : m_get 24 52 = some (.aload_n 1, 1) := by decide +kernel
theorem g24_53 : m_get 24 53 = some (.getfield 60, 3) := by decide +kernel
theorem g24_56 : m_get 24 56 = some (.bipush 6, 2) := by decide +kernel
theorem g24_58 : m_get 24 58 = some (.if_icmp .ge 7, 3) := by decide +kernel
theorem g24_61 : m_get 24 61 = some (.iconst 1, 1) := by decide +kernel
theorem g24_62 : m_get 24 62 = some (.goto 4, 3) := by decide +kernel
theorem g24_65 : m_get 24 65 = some (.iconst 0, 1) := by decide +kernel
theorem g24_66 : m_get 24 66 = some (.istore_n 3, 1) := by decide +kernel
theorem g24_67 : m_get 24 67 = some (.goto 89, 3) := by decide +kernel
theorem g24_70 : m_get 24 70 = some (.aload_n 0, 1) := by decide +kernel
theorem g24_71 : m_get 24 71 = some (.getfield 43, 3) := by decide +kernel
theorem g24_74 : m_get 24 74 = some (.ifCond .ne 7, 3) := by decide +kernel
theorem g24_77 : m_get 24 77 = some (.iconst 1, 1) := by decide +kernel
theorem g24_78 : m_get 24 78 = some (.goto 4, 3) := by decide +kernel
theorem g24_81 : m_get 24 81 = some (.iconst 0, 1) := by decide +kernel
theorem g24_82 : m_get 24 82 = some (.istore_n 3, 1) := by decide +kernel
theorem g24_83 : m_get 24 83 = some (.aload_n 0, 1) := by decide +kernel
theorem g24_84 : m_get 24 84 = some (.iconst 1, 1) := by decide +kernel
theorem g24_85 : m_get 24 85 = some (.putfield 43, 3) := by decide +kernel
theorem g24_88 : m_get 24 88 = some (.goto 68, 3) := by decide +kernel
theorem g24_91 : m_get 24 91 = some (.aload_n 0, 1) := by decide +kernel
theorem g24_92 : m_get 24 92 = some (.getfield 47, 3) := by decide +kernel
theorem g24_95 : m_get 24 95 = some (.ifCond .ne 7, 3) := by decide +kernel
theorem g24_98 : m_get 24 98 = some (.iconst 1, 1) := by decide +kernel
theorem g24_99 : m_get 24 99 = some (.goto 4, 3) := by decide +kernel
theorem g24_102 : m_get 24 102 = some (.iconst 0, 1) := by decide +kernel
theorem g24_103 : m_get 24 103 = some (.istore_n 3, 1) := by decide +kernel
theorem g24_104 : m_get 24 104 = some (.aload_n 0, 1) := by decide +kernel
theorem g24_105 : m_get 24 105 = some (.iconst 1, 1) := by decide +kernel
theorem g24_106 : m_get 24 106 = some (.putfield 47, 3) := by decide +kernel
theorem g24_109 : m_get 24 109 = some (.goto 47, 3) := by decide +kernel
theorem g24_112 : m_get 24 112 = some (.aload_n 0, 1) := by decide +kernel
theorem g24_113 : m_get 24 113 = some (.getfield 50, 3) := by decide +kernel
theorem g24_116 : m_get 24 116 = some (.ifCond .ne 7, 3) := by decide +kernel
theorem g24_119 : m_get 24 119 = some (.iconst 1, 1) := by decide +kernel
theorem g24_120 : m_get 24 120 = some (.goto 4, 3) := by decide +kernel
theorem g24_123 : m_get 24 123 = some (.iconst 0, 1) := by decide +kernel
theorem g24_124 : m_get 24 124 = some (.istore_n 3, 1) := by decide +kernel
theorem g24_125 : m_get 24 125 = some (.aload_n 0, 1) := by decide +kernel
theorem g24_126 : m_get 24 126 = some (.iconst 1, 1) := by decide +kernel
theorem g24_127 : m_get 24 127 = some (.putfield 50, 3) := by decide +kernel
theorem g24_130 : m_get 24 130 = some (.goto 26, 3) := by decide +kernel
theorem g24_133 : m_get 24 133 = some (.aload_n 0, 1) := by decide +kernel
theorem g24_134 : m_get 24 134 = some (.getfield 53, 3) := by decide +kernel
theorem g24_137 : m_get 24 137 = some (.ifCond .ne 7, 3) := by decide +kernel
theorem g24_140 : m_get 24 140 = some (.iconst 1, 1) := by decide +kernel
theorem g24_141 : m_get 24 141 = some (.goto 4, 3) := by decide +kernel
theorem g24_144 : m_get 24 144 = some (.iconst 0, 1) := by decide +kernel
theorem g24_145 : m_get 24 145 = some (.istore_n 3, 1) := by decide +kernel
theorem g24_146 : m_get 24 146 = some (.aload_n 0, 1) := by decide +kernel
theorem g24_147 : m_get 24 147 = some (.iconst 1, 1) := by decide +kernel
theorem g24_148 : m_get 24 148 = some (.putfield 53, 3) := by decide +kernel
theorem g24_151 : m_get 24 151 = some (.goto 5, 3) := by decide +kernel
theorem g24_154 : m_get 24 154 = some (.iconst 0, 1) := by decide +kernel
theorem g24_155 : m_get 24 155 = some (.istore_n 3, 1) := by decide +kernel
theorem g24_156 : m_get 24 156 = some (.iload_n 3, 1) := by decide +kernel
theorem g24_157 : m_get 24 157 = some (.ireturn, 1) := by decide +kernel
theorem f24_43 : m_fl (m_own 24) 43 = some (3, 4) := by decide +kernel
theorem f24_47 : m_fl (m_own 24) 47 = some (3, 5) := by decide +kernel
theorem f24_50 : m_fl (m_own 24) 50 = some (3, 6) := by decide +kernel
theorem f24_53 : m_fl (m_own 24) 53 = some (3, 7) := by decide +kernel
theorem f24_60 : m_fl (m_own 24) 60 = some (4, 0) := by decide +kernel
theorem g26_0 : m_get 26 0 = some (.iload_n 0, 1) := by decide +kernel
theorem g26_1 : m_get 26 1 = some (.bipush 107, 2) := by decide +kernel
theorem g26_3 : m_get 26 3 = some (.if_icmp .eq 9, 3) := by decide +kernel
theorem g26_6 : m_get 26 6 = some (.iload_n 0, 1) := by decide +kernel
theorem g26_7 : m_get 26 7 = some (.bipush 101, 2) := by decide +kernel
theorem g26_9 : m_get 26 9 = some (.if_icmp .ne 7, 3) := by decide +kernel
theorem g26_12 : m_get 26 12 = some (.iconst 0, 1) := by decide +kernel
theorem g26_13 : m_get 26 13 = some (.goto 4, 3) := by decide +kernel
theorem g26_16 : m_get 26 16 = some (.iconst 1, 1) := by decide +kernel
theorem g26_17 : m_get 26 17 = some (.ireturn, 1) := by decide +kernel
theorem g28_0 : m_get 28 0 = some (.iload_n 2, 1) := by decide +kernel
theorem g28_1 : m_get 28 1 = some (.lookupswitch 103 #[(101, 81), (107, 43), (109, 92), (119, 54)], 43) := by decide +kernel
theorem g28_44 : m_get 28 44 = some (.aload_n 0, 1) := by decide +kernel
theorem g28_45 : m_get 28 45 = some (.aload_n 1, 1) := by decide +kernel
theorem g28_46 : m_get 28 46 = some (.iload_n 3, 1) := by decide +kernel
theorem g28_47 : m_get 28 47 = some (.iload 4, 2) := by decide +kernel
theorem g28_49 : m_get 28 49 = some (.invokevirtual 84, 3) := by decide +kernel
theorem g28_52 : m_get 28 52 = some (.goto 76, 3) := by decide +kernel
theorem g28_55 : m_get 28 55 = some (.iload 4, 2) := by decide +kernel
theorem g28_57 : m_get 28 57 = some (.ifCond .ne 14, 3) := by decide +kernel
theorem g28_60 : m_get 28 60 = some (.aload_n 1, 1) := by decide +kernel
theorem g28_61 : m_get 28 61 = some (.aload_n 0, 1) := by decide +kernel
theorem g28_62 : m_get 28 62 = some (.getfield 67, 3) := by decide +kernel
theorem g28_65 : m_get 28 65 = some (.putfield 88, 3) := by decide +kernel
theorem g28_68 : m_get 28 68 = some (.goto 60, 3) := by decide +kernel
theorem g28_71 : m_get 28 71 = some (.aload_n 1, 1) := by decide +kernel
theorem g28_72 : m_get 28 72 = some (.aload_n 0, 1) := by decide +kernel
theorem g28_73 : m_get 28 73 = some (.getfield 67, 3) := by decide +kernel
theorem g28_76 : m_get 28 76 = some (.putfield 91, 3) := by decide +kernel
theorem g28_79 : m_get 28 79 = some (.goto 49, 3) := by decide +kernel
theorem g28_82 : m_get 28 82 = some (.aload_n 1, 1) := by decide +kernel
theorem g28_83 : m_get 28 83 = some (.aload_n 0, 1) := by decide +kernel
theorem g28_84 : m_get 28 84 = some (.getfield 67, 3) := by decide +kernel
theorem g28_87 : m_get 28 87 = some (.putfield 94, 3) := by decide +kernel
theorem g28_90 : m_get 28 90 = some (.goto 38, 3) := by decide +kernel
theorem g28_93 : m_get 28 93 = some (.aload_n 1, 1) := by decide +kernel
theorem g28_94 : m_get 28 94 = some (.aload_n 0, 1) := by decide +kernel
theorem g28_95 : m_get 28 95 = some (.getfield 67, 3) := by decide +kernel
theorem g28_98 : m_get 28 98 = some (.putfield 97, 3) := by decide +kernel
theorem g28_101 : m_get 28 101 = some (.goto 27, 3) := by decide +kernel
theorem g28_104 : m_get 28 104 = some (.iload 4, 2) := by decide +kernel
theorem g28_106 : m_get 28 106 = some (.ifCond .ne 14, 3) := by decide +kernel
theorem g28_109 : m_get 28 109 = some (.aload_n 1, 1) := by decide +kernel
theorem g28_110 : m_get 28 110 = some (.aload_n 0, 1) := by decide +kernel
theorem g28_111 : m_get 28 111 = some (.getfield 67, 3) := by decide +kernel
theorem g28_114 : m_get 28 114 = some (.putfield 100, 3) := by decide +kernel
theorem g28_117 : m_get 28 117 = some (.goto 11, 3) := by decide +kernel
theorem g28_120 : m_get 28 120 = some (.aload_n 1, 1) := by decide +kernel
theorem g28_121 : m_get 28 121 = some (.aload_n 0, 1) := by decide +kernel
theorem g28_122 : m_get 28 122 = some (.getfield 67, 3) := by decide +kernel
theorem g28_125 : m_get 28 125 = some (.putfield 103, 3) := by decide +kernel
theorem g28_128 : m_get 28 128 = some (.return_, 1) := by decide +kernel
theorem f28_67 : m_fl (m_own 28) 67 = some (3, 3) := by decide +kernel
theorem f28_88 : m_fl (m_own 28) 88 = some (4, 1) := by decide +kernel
theorem f28_91 : m_fl (m_own 28) 91 = some (4, 2) := by decide +kernel
theorem f28_94 : m_fl (m_own 28) 94 = some (4, 3) := by decide +kernel
theorem f28_97 : m_fl (m_own 28) 97 = some (4, 4) := by decide +kernel
theorem f28_100 : m_fl (m_own 28) 100 = some (4, 5) := by decide +kernel
theorem f28_103 : m_fl (m_own 28) 103 = some (4, 6) := by decide +kernel
theorem k28_84 : m_ml (m_own 28) 84 = some (0, 29) := by decide +kernel
theorem g29_0 : m_get 29 0 = some (.iload_n 2, 1) := by decide +kernel
theorem g29_1 : m_get 29 1 = some (.ifCond .lt 13, 3) := by decide +kernel
theorem g29_4 : m_get 29 4 = some (.iload_n 2, 1) := by decide +kernel
theorem g29_5 : m_get 29 5 = some (.bipush 6, 2) := by decide +kernel
theorem g29_7 : m_get 29 7 = some (.if_icmp .ge 7, 3) := by decide +kernel
theorem g29_10 : m_get 29 10 = some (.iload_n 3, 1) := by decide +kernel
theorem g29_11 : m_get 29 11 = some (.ifCond .ge 4, 3) := by decide +kernel
theorem g29_14 : m_get 29 14 = some (.return_, 1) := by decide +kernel
theorem g29_15 : m_get 29 15 = some (.iload_n 3, 1) := by decide +kernel
theorem g29_16 : m_get 29 16 = some (.iconst 4, 1) := by decide +kernel
theorem g29_17 : m_get 29 17 = some (.if_icmp .ge 20, 3) := by decide +kernel
theorem g29_20 : m_get 29 20 = some (.aload_n 1, 1) := by decide +kernel
theorem g29_21 : m_get 29 21 = some (.getfield 106, 3) := by decide +kernel
theorem g29_24 : m_get 29 24 = some (.iload_n 2, 1) := by decide +kernel
theorem g29_25 : m_get 29 25 = some (.iconst 4, 1) := by decide +kernel
theorem g29_26 : m_get 29 26 = some (.imul, 1) := by decide +kernel
theorem g29_27 : m_get 29 27 = some (.iload_n 3, 1) := by decide +kernel
theorem g29_28 : m_get 29 28 = some (.iadd, 1) := by decide +kernel
theorem g29_29 : m_get 29 29 = some (.aload_n 0, 1) := by decide +kernel
theorem g29_30 : m_get 29 30 = some (.getfield 67, 3) := by decide +kernel
theorem g29_33 : m_get 29 33 = some (.iastore, 1) := by decide +kernel
theorem g29_34 : m_get 29 34 = some (.goto 31, 3) := by decide +kernel
theorem g29_37 : m_get 29 37 = some (.iload_n 3, 1) := by decide +kernel
theorem g29_38 : m_get 29 38 = some (.iconst 4, 1) := by decide +kernel
theorem g29_39 : m_get 29 39 = some (.if_icmp .ne 16, 3) := by decide +kernel
theorem g29_42 : m_get 29 42 = some (.aload_n 1, 1) := by decide +kernel
theorem g29_43 : m_get 29 43 = some (.getfield 109, 3) := by decide +kernel
theorem g29_46 : m_get 29 46 = some (.iload_n 2, 1) := by decide +kernel
theorem g29_47 : m_get 29 47 = some (.aload_n 0, 1) := by decide +kernel
theorem g29_48 : m_get 29 48 = some (.getfield 67, 3) := by decide +kernel
theorem g29_51 : m_get 29 51 = some (.iastore, 1) := by decide +kernel
theorem g29_52 : m_get 29 52 = some (.goto 13, 3) := by decide +kernel
theorem g29_55 : m_get 29 55 = some (.aload_n 1, 1) := by decide +kernel
theorem g29_56 : m_get 29 56 = some (.getfield 112, 3) := by decide +kernel
theorem g29_59 : m_get 29 59 = some (.iload_n 2, 1) := by decide +kernel
theorem g29_60 : m_get 29 60 = some (.aload_n 0, 1) := by decide +kernel
theorem g29_61 : m_get 29 61 = some (.getfield 67, 3) := by decide +kernel
theorem g29_64 : m_get 29 64 = some (.iastore, 1) := by decide +kernel
theorem g29_65 : m_get 29 65 = some (.return_, 1) := by decide +kernel
theorem f29_67 : m_fl (m_own 29) 67 = some (3, 3) := by decide +kernel
theorem f29_106 : m_fl (m_own 29) 106 = some (4, 7) := by decide +kernel
theorem f29_109 : m_fl (m_own 29) 109 = some (4, 8) := by decide +kernel
theorem f29_112 : m_fl (m_own 29) 112 = some (4, 9) := by decide +kernel
theorem g30_0 : m_get 30 0 = some (.aload_n 0, 1) := by decide +kernel
theorem g30_1 : m_get 30 1 = some (.getfield 40, 3) := by decide +kernel
theorem g30_4 : m_get 30 4 = some (.iload_n 2, 1) := by decide +kernel
theorem g30_5 : m_get 30 5 = some (.if_icmp .ge 27, 3) := by decide +kernel
theorem g30_8 : m_get 30 8 = some (.aload_n 1, 1) := by decide +kernel
theorem g30_9 : m_get 30 9 = some (.aload_n 0, 1) := by decide +kernel
theorem g30_10 : m_get 30 10 = some (.getfield 40, 3) := by decide +kernel
theorem g30_13 : m_get 30 13 = some (.iaload, 1) := by decide +kernel
theorem g30_14 : m_get 30 14 = some (.bipush 32, 2) := by decide +kernel
theorem g30_16 : m_get 30 16 = some (.if_icmp .ne 16, 3) := by decide +kernel
theorem g30_19 : m_get 30 19 = some (.aload_n 0, 1) := by decide +kernel
theorem g30_20 : m_get 30 20 = some (.dup, 1) := by decide +kernel
theorem g30_21 : m_get 30 21 = some (.getfield 40, 3) := by decide +kernel
theorem g30_24 : m_get 30 24 = some (.iconst 1, 1) := by decide +kernel
theorem g30_25 : m_get 30 25 = some (.iadd, 1) := by decide +kernel
theorem g30_26 : m_get 30 26 = some (.putfield 40, 3) := by decide +kernel
theorem g30_29 : m_get 30 29 = some (.goto (-29), 3) := by decide +kernel
theorem g30_32 : m_get 30 32 = some (.aload_n 0, 1) := by decide +kernel
theorem g30_33 : m_get 30 33 = some (.aload_n 0, 1) := by decide +kernel
theorem g30_34 : m_get 30 34 = some (.getfield 40, 3) := by decide +kernel
theorem g30_37 : m_get 30 37 = some (.putfield 33, 3) := by decide +kernel
theorem g30_40 : m_get 30 40 = some (.aload_n 0, 1) := by decide +kernel
theorem g30_41 : m_get 30 41 = some (.getfield 40, 3) := by decide +kernel
theorem g30_44 : m_get 30 44 = some (.iload_n 2, 1) := by decide +kernel
theorem g30_45 : m_get 30 45 = some (.if_icmp .lt 9, 3) := by decide +kernel
theorem g30_48 : m_get 30 48 = some (.aload_n 0, 1) := by decide +kernel
theorem g30_49 : m_get 30 49 = some (.iconst (-1), 1) := by decide +kernel
theorem g30_50 : m_get 30 50 = some (.putfield 25, 3) := by decide +kernel
theorem g30_53 : m_get 30 53 = some (.return_, 1) := by decide +kernel
theorem g30_54 : m_get 30 54 = some (.aload_n 1, 1) := by decide +kernel
theorem g30_55 : m_get 30 55 = some (.aload_n 0, 1) := by decide +kernel
theorem g30_56 : m_get 30 56 = some (.getfield 40, 3) := by decide +kernel
theorem g30_59 : m_get 30 59 = some (.iaload, 1) := by decide +kernel
theorem g30_60 : m_get 30 60 = some (.istore_n 3, 1) := by decide +kernel
theorem g30_61 : m_get 30 61 = some (.iload_n 3, 1) := by decide +kernel
theorem g30_62 : m_get 30 62 = some (.invokestatic 115, 3) := by decide +kernel
theorem g30_65 : m_get 30 65 = some (.ifCond .eq 10, 3) := by decide +kernel
theorem g30_68 : m_get 30 68 = some (.aload_n 0, 1) := by decide +kernel
theorem g30_69 : m_get 30 69 = some (.aload_n 1, 1) := by decide +kernel
theorem g30_70 : m_get 30 70 = some (.iload_n 2, 1) := by decide +kernel
theorem g30_71 : m_get 30 71 = some (.invokevirtual 119, 3) := by decide +kernel
theorem g30_74 : m_get 30 74 = some (.return_, 1) := by decide +kernel
theorem g30_75 : m_get 30 75 = some (.aload_n 0, 1) := by decide +kernel
theorem g30_76 : m_get 30 76 = some (.dup, 1) := by decide +kernel
theorem g30_77 : m_get 30 77 = some (.getfield 40, 3) := by decide +kernel
theorem g30_80 : m_get 30 80 = some (.iconst 1, 1) := by decide +kernel
theorem g30_81 : m_get 30 81 = some (.iadd, 1) := by decide +kernel
theorem g30_82 : m_get 30 82 = some (.putfield 40, 3) := by decide +kernel
theorem g30_85 : m_get 30 85 = some (.aload_n 0, 1) := by decide +kernel
theorem g30_86 : m_get 30 86 = some (.iload_n 3, 1) := by decide +kernel
theorem g30_87 : m_get 30 87 = some (.invokestatic 122, 3) := by decide +kernel
theorem g30_90 : m_get 30 90 = some (.ifCond .eq 7, 3) := by decide +kernel
theorem g30_93 : m_get 30 93 = some (.iload_n 3, 1) := by decide +kernel
theorem g30_94 : m_get 30 94 = some (.goto 5, 3) := by decide +kernel
theorem g30_97 : m_get 30 97 = some (.bipush (-3), 2) := by decide +kernel
theorem g30_99 : m_get 30 99 = some (.putfield 25, 3) := by decide +kernel
theorem g30_102 : m_get 30 102 = some (.return_, 1) := by decide +kernel
theorem f30_25 : m_fl (m_own 30) 25 = some (3, 2) := by decide +kernel
theorem f30_33 : m_fl (m_own 30) 33 = some (3, 1) := by decide +kernel
theorem f30_40 : m_fl (m_own 30) 40 = some (3, 0) := by decide +kernel
theorem k30_115 : m_ml (m_own 30) 115 = some (1, 32) := by decide +kernel
theorem k30_119 : m_ml (m_own 30) 119 = some (0, 31) := by decide +kernel
theorem k30_122 : m_ml (m_own 30) 122 = some (1, 33) := by decide +kernel
theorem g31_0 : m_get 31 0 = some (.aload_n 0, 1) := by decide +kernel
theorem g31_1 : m_get 31 1 = some (.iconst 0, 1) := by decide +kernel
theorem g31_2 : m_get 31 2 = some (.putfield 67, 3) := by decide +kernel
theorem g31_5 : m_get 31 5 = some (.aload_n 0, 1) := by decide +kernel
theorem g31_6 : m_get 31 6 = some (.getfield 40, 3) := by decide +kernel
theorem g31_9 : m_get 31 9 = some (.iload_n 2, 1) := by decide +kernel
theorem g31_10 : m_get 31 10 = some (.if_icmp .ge 54, 3) := by decide +kernel
theorem g31_13 : m_get 31 13 = some (.aload_n 1, 1) := by decide +kernel
theorem g31_14 : m_get 31 14 = some (.aload_n 0, 1) := by decide +kernel
theorem g31_15 : m_get 31 15 = some (.getfield 40, 3) := by decide +kernel
theorem g31_18 : m_get 31 18 = some (.iaload, 1) := by decide +kernel
theorem g31_19 : m_get 31 19 = some (.invokestatic 115, 3) := by decide +kernel
theorem g31_22 : m_get 31 22 = some (.ifCond .eq 42, 3) := by decide +kernel
theorem g31_25 : m_get 31 25 = some (.aload_n 0, 1) := by decide +kernel
theorem g31_26 : m_get 31 26 = some (.aload_n 0, 1) := by decide +kernel
theorem g31_27 : m_get 31 27 = some (.getfield 67, 3) := by decide +kernel
theorem g31_30 : m_get 31 30 = some (.bipush 10, 2) := by decide +kernel
theorem g31_32 : m_get 31 32 = some (.imul, 1) := by decide +kernel
theorem g31_33 : m_get 31 33 = some (.aload_n 1, 1) := by decide +kernel
theorem g31_34 : m_get 31 34 = some (.aload_n 0, 1) := by decide +kernel
theorem g31_35 : m_get 31 35 = some (.getfield 40, 3) := by decide +kernel
theorem g31_38 : m_get 31 38 = some (.iaload, 1) := by decide +kernel
theorem g31_39 : m_get 31 39 = some (.iadd, 1) := by decide +kernel
theorem g31_40 : m_get 31 40 = some (.bipush 48, 2) := by decide +kernel
theorem g31_42 : m_get 31 42 = some (.isub, 1) := by decide +kernel
theorem g31_43 : m_get 31 43 = some (.bipush 100, 2) := by decide +kernel
theorem g31_45 : m_get 31 45 = some (.invokestatic 15, 3) := by decide +kernel
theorem g31_48 : m_get 31 48 = some (.putfield 67, 3) := by decide +kernel
theorem g31_51 : m_get 31 51 = some (.aload_n 0, 1) := by decide +kernel
theorem g31_52 : m_get 31 52 = some (.dup, 1) := by decide +kernel
theorem g31_53 : m_get 31 53 = some (.getfield 40, 3) := by decide +kernel
theorem g31_56 : m_get 31 56 = some (.iconst 1, 1) := by decide +kernel
theorem g31_57 : m_get 31 57 = some (.iadd, 1) := by decide +kernel
theorem g31_58 : m_get 31 58 = some (.putfield 40, 3) := by decide +kernel
theorem g31_61 : m_get 31 61 = some (.goto (-56), 3) := by decide +kernel
theorem g31_64 : m_get 31 64 = some (.aload_n 0, 1) := by decide +kernel
theorem g31_65 : m_get 31 65 = some (.getfield 40, 3) := by decide +kernel
theorem g31_68 : m_get 31 68 = some (.aload_n 0, 1) := by decide +kernel
theorem g31_69 : m_get 31 69 = some (.getfield 33, 3) := by decide +kernel
theorem g31_72 : m_get 31 72 = some (.isub, 1) := by decide +kernel
theorem g31_73 : m_get 31 73 = some (.iconst 1, 1) := by decide +kernel
theorem g31_74 : m_get 31 74 = some (.if_icmp .le 18, 3) := by decide +kernel
theorem g31_77 : m_get 31 77 = some (.aload_n 1, 1) := by decide +kernel
theorem g31_78 : m_get 31 78 = some (.aload_n 0, 1) := by decide +kernel
theorem g31_79 : m_get 31 79 = some (.getfield 33, 3) := by decide +kernel
theorem g31_82 : m_get 31 82 = some (.iaload, 1) := by decide +kernel
theorem g31_83 : m_get 31 83 = some (.bipush 48, 2) := by decide +kernel
theorem g31_85 : m_get 31 85 = some (.if_icmp .ne 7, 3) := by decide +kernel
theorem g31_88 : m_get 31 88 = some (.iconst 1, 1) := by decide +kernel
theorem g31_89 : m_get 31 89 = some (.goto 4, 3) := by decide +kernel
theorem g31_92 : m_get 31 92 = some (.iconst 0, 1) := by decide +kernel
theorem g31_93 : m_get 31 93 = some (.istore_n 3, 1) := by decide +kernel
theorem g31_94 : m_get 31 94 = some (.aload_n 0, 1) := by decide +kernel
theorem g31_95 : m_get 31 95 = some (.aload_n 0, 1) := by decide +kernel
theorem g31_96 : m_get 31 96 = some (.getfield 67, 3) := by decide +kernel
theorem g31_99 : m_get 31 99 = some (.bipush 99, 2) := by decide +kernel
theorem g31_101 : m_get 31 101 = some (.if_icmp .gt 7, 3) := by decide +kernel
theorem g31_104 : m_get 31 104 = some (.iload_n 3, 1) := by decide +kernel
theorem g31_105 : m_get 31 105 = some (.ifCond .eq 8, 3) := by decide +kernel
theorem g31_108 : m_get 31 108 = some (.bipush (-3), 2) := by decide +kernel
theorem g31_110 : m_get 31 110 = some (.goto 5, 3) := by decide +kernel
theorem g31_113 : m_get 31 113 = some (.bipush (-2), 2) := by decide +kernel
theorem g31_115 : m_get 31 115 = some (.putfield 25, 3) := by decide +kernel
theorem g31_118 : m_get 31 118 = some (.return_, 1) := by decide +kernel
theorem f31_25 : m_fl (m_own 31) 25 = some (3, 2) := by decide +kernel
theorem f31_33 : m_fl (m_own 31) 33 = some (3, 1) := by decide +kernel
theorem f31_40 : m_fl (m_own 31) 40 = some (3, 0) := by decide +kernel
theorem f31_67 : m_fl (m_own 31) 67 = some (3, 3) := by decide +kernel
theorem k31_15 : m_ml (m_own 31) 15 = some (8, 0) := by decide +kernel
theorem k31_115 : m_ml (m_own 31) 115 = some (1, 32) := by decide +kernel
theorem g32_0 : m_get 32 0 = some (.iload_n 0, 1) := by decide +kernel
theorem g32_1 : m_get 32 1 = some (.bipush 48, 2) := by decide +kernel
theorem g32_3 : m_get 32 3 = some (.if_icmp .lt 13, 3) := by decide +kernel
theorem g32_6 : m_get 32 6 = some (.iload_n 0, 1) := by decide +kernel
theorem g32_7 : m_get 32 7 = some (.bipush 57, 2) := by decide +kernel
theorem g32_9 : m_get 32 9 = some (.if_icmp .gt 7, 3) := by decide +kernel
theorem g32_12 : m_get 32 12 = some (.iconst 1, 1) := by decide +kernel
theorem g32_13 : m_get 32 13 = some (.goto 4, 3) := by decide +kernel
theorem g32_16 : m_get 32 16 = some (.iconst 0, 1) := by decide +kernel
theorem g32_17 : m_get 32 17 = some (.ireturn, 1) := by decide +kernel
theorem g33_0 : m_get 33 0 = some (.iload_n 0, 1) := by decide +kernel
theorem g33_1 : m_get 33 1 = some (.bipush 107, 2) := by decide +kernel
theorem g33_3 : m_get 33 3 = some (.if_icmp .eq 33, 3) := by decide +kernel
theorem g33_6 : m_get 33 6 = some (.iload_n 0, 1) := by decide +kernel
theorem g33_7 : m_get 33 7 = some (.bipush 119, 2) := by decide +kernel
theorem g33_9 : m_get 33 9 = some (.if_icmp .eq 27, 3) := by decide +kernel
theorem g33_12 : m_get 33 12 = some (.iload_n 0, 1) := by decide +kernel
theorem g33_13 : m_get 33 13 = some (.bipush 101, 2) := by decide +kernel
theorem g33_15 : m_get 33 15 = some (.if_icmp .eq 21, 3) := by decide +kernel
theorem g33_18 : m_get 33 18 = some (.iload_n 0, 1) := by decide +kernel
theorem g33_19 : m_get 33 19 = some (.bipush 109, 2) := by decide +kernel
theorem g33_21 : m_get 33 21 = some (.if_icmp .eq 15, 3) := by decide +kernel
theorem g33_24 : m_get 33 24 = some (.iload_n 0, 1) := by decide +kernel
theorem g33_25 : m_get 33 25 = some (.bipush 115, 2) := by decide +kernel
theorem g33_27 : m_get 33 27 = some (.if_icmp .eq 9, 3) := by decide +kernel
theorem g33_30 : m_get 33 30 = some (.iload_n 0, 1) := by decide +kernel
theorem g33_31 : m_get 33 31 = some (.bipush 59, 2) := by decide +kernel
theorem g33_33 : m_get 33 33 = some (.if_icmp .ne 7, 3) := by decide +kernel
theorem g33_36 : m_get 33 36 = some (.iconst 1, 1) := by decide +kernel
theorem g33_37 : m_get 33 37 = some (.goto 4, 3) := by decide +kernel
theorem g33_40 : m_get 33 40 = some (.iconst 0, 1) := by decide +kernel
theorem g33_41 : m_get 33 41 = some (.ireturn, 1) := by decide +kernel
theorem na0 : m_na 0 = 1 := rfl
theorem ow0 : m_own 0 = 0 := rfl
theorem rt0 : m_rt 0 = none := rfl
theorem na1 : m_na 1 = 2 := rfl
theorem ow1 : m_own 1 = 0 := rfl
theorem rt1 : m_rt 1 = some .int := rfl
theorem ro1 {v : Int} : m_rok 1 v = true := by simp [m_rok, rt1]
theorem na2 : m_na 2 = 2 := rfl
theorem ow2 : m_own 2 = 0 := rfl
theorem rt2 : m_rt 2 = none := rfl
theorem na3 : m_na 3 = 1 := rfl
theorem ow3 : m_own 3 = 0 := rfl
theorem rt3 : m_rt 3 = none := rfl
theorem na4 : m_na 4 = 3 := rfl
theorem ow4 : m_own 4 = 0 := rfl
theorem rt4 : m_rt 4 = none := rfl
theorem na5 : m_na 5 = 5 := rfl
theorem ow5 : m_own 5 = 0 := rfl
theorem rt5 : m_rt 5 = none := rfl
theorem na6 : m_na 6 = 3 := rfl
theorem ow6 : m_own 6 = 0 := rfl
theorem rt6 : m_rt 6 = some .int := rfl
theorem ro6 {v : Int} : m_rok 6 v = true := by simp [m_rok, rt6]
theorem na7 : m_na 7 = 1 := rfl
theorem ow7 : m_own 7 = 1 := rfl
theorem rt7 : m_rt 7 = none := rfl
theorem na8 : m_na 8 = 5 := rfl
theorem ow8 : m_own 8 = 1 := rfl
theorem rt8 : m_rt 8 = some .int := rfl
theorem ro8 {v : Int} : m_rok 8 v = true := by simp [m_rok, rt8]
theorem na9 : m_na 9 = 3 := rfl
theorem ow9 : m_own 9 = 1 := rfl
theorem rt9 : m_rt 9 = none := rfl
theorem na10 : m_na 10 = 4 := rfl
theorem ow10 : m_own 10 = 1 := rfl
theorem rt10 : m_rt 10 = none := rfl
theorem na11 : m_na 11 = 2 := rfl
theorem ow11 : m_own 11 = 1 := rfl
theorem rt11 : m_rt 11 = some .int := rfl
theorem ro11 {v : Int} : m_rok 11 v = true := by simp [m_rok, rt11]
theorem na12 : m_na 12 = 3 := rfl
theorem ow12 : m_own 12 = 1 := rfl
theorem rt12 : m_rt 12 = some .int := rfl
theorem ro12 {v : Int} : m_rok 12 v = true := by simp [m_rok, rt12]
theorem na13 : m_na 13 = 1 := rfl
theorem ow13 : m_own 13 = 2 := rfl
theorem rt13 : m_rt 13 = none := rfl
theorem na14 : m_na 14 = 2 := rfl
theorem ow14 : m_own 14 = 2 := rfl
theorem rt14 : m_rt 14 = none := rfl
theorem na15 : m_na 15 = 2 := rfl
theorem ow15 : m_own 15 = 2 := rfl
theorem rt15 : m_rt 15 = none := rfl
theorem na16 : m_na 16 = 1 := rfl
theorem ow16 : m_own 16 = 2 := rfl
theorem rt16 : m_rt 16 = none := rfl
theorem na17 : m_na 17 = 2 := rfl
theorem ow17 : m_own 17 = 2 := rfl
theorem rt17 : m_rt 17 = some .boolean := rfl
theorem ro17 {v : Int} (h : v = 0 ∨ v = 1) : m_rok 17 v = true := by rcases h with rfl | rfl <;> rfl
theorem na18 : m_na 18 = 2 := rfl
theorem ow18 : m_own 18 = 2 := rfl
theorem rt18 : m_rt 18 = some .int := rfl
theorem ro18 {v : Int} : m_rok 18 v = true := by simp [m_rok, rt18]
theorem na19 : m_na 19 = 3 := rfl
theorem ow19 : m_own 19 = 2 := rfl
theorem rt19 : m_rt 19 = some .int := rfl
theorem ro19 {v : Int} : m_rok 19 v = true := by simp [m_rok, rt19]
theorem na20 : m_na 20 = 1 := rfl
theorem ow20 : m_own 20 = 3 := rfl
theorem rt20 : m_rt 20 = none := rfl
theorem na21 : m_na 21 = 4 := rfl
theorem ow21 : m_own 21 = 3 := rfl
theorem rt21 : m_rt 21 = some .int := rfl
theorem ro21 {v : Int} : m_rok 21 v = true := by simp [m_rok, rt21]
theorem na22 : m_na 22 = 2 := rfl
theorem ow22 : m_own 22 = 3 := rfl
theorem rt22 : m_rt 22 = none := rfl
theorem na23 : m_na 23 = 4 := rfl
theorem ow23 : m_own 23 = 3 := rfl
theorem rt23 : m_rt 23 = some .boolean := rfl
theorem ro23 {v : Int} (h : v = 0 ∨ v = 1) : m_rok 23 v = true := by rcases h with rfl | rfl <;> rfl
theorem na24 : m_na 24 = 3 := rfl
theorem ow24 : m_own 24 = 3 := rfl
theorem rt24 : m_rt 24 = some .boolean := rfl
theorem ro24 {v : Int} (h : v = 0 ∨ v = 1) : m_rok 24 v = true := by rcases h with rfl | rfl <;> rfl
theorem na25 : m_na 25 = 1 := rfl
theorem ow25 : m_own 25 = 3 := rfl
theorem rt25 : m_rt 25 = some .int := rfl
theorem ro25 {v : Int} : m_rok 25 v = true := by simp [m_rok, rt25]
theorem na26 : m_na 26 = 1 := rfl
theorem ow26 : m_own 26 = 3 := rfl
theorem rt26 : m_rt 26 = some .int := rfl
theorem ro26 {v : Int} : m_rok 26 v = true := by simp [m_rok, rt26]
theorem na27 : m_na 27 = 2 := rfl
theorem ow27 : m_own 27 = 3 := rfl
theorem rt27 : m_rt 27 = some .int := rfl
theorem ro27 {v : Int} : m_rok 27 v = true := by simp [m_rok, rt27]
theorem na28 : m_na 28 = 5 := rfl
theorem ow28 : m_own 28 = 3 := rfl
theorem rt28 : m_rt 28 = none := rfl
theorem na29 : m_na 29 = 4 := rfl
theorem ow29 : m_own 29 = 3 := rfl
theorem rt29 : m_rt 29 = none := rfl
theorem na30 : m_na 30 = 3 := rfl
theorem ow30 : m_own 30 = 3 := rfl
theorem rt30 : m_rt 30 = none := rfl
theorem na31 : m_na 31 = 3 := rfl
theorem ow31 : m_own 31 = 3 := rfl
theorem rt31 : m_rt 31 = none := rfl
theorem na32 : m_na 32 = 1 := rfl
theorem ow32 : m_own 32 = 3 := rfl
theorem rt32 : m_rt 32 = some .boolean := rfl
theorem ro32 {v : Int} (h : v = 0 ∨ v = 1) : m_rok 32 v = true := by rcases h with rfl | rfl <;> rfl
theorem na33 : m_na 33 = 1 := rfl
theorem ow33 : m_own 33 = 3 := rfl
theorem rt33 : m_rt 33 = some .boolean := rfl
theorem ro33 {v : Int} (h : v = 0 ∨ v = 1) : m_rok 33 v = true := by rcases h with rfl | rfl <;> rfl
theorem na34 : m_na 34 = 1 := rfl
theorem ow34 : m_own 34 = 4 := rfl
theorem rt34 : m_rt 34 = none := rfl
theorem na35 : m_na 35 = 1 := rfl
theorem ow35 : m_own 35 = 4 := rfl
theorem rt35 : m_rt 35 = none := rfl
theorem na36 : m_na 36 = 1 := rfl
theorem ow36 : m_own 36 = 4 := rfl
theorem rt36 : m_rt 36 = some .int := rfl
theorem ro36 {v : Int} : m_rok 36 v = true := by simp [m_rok, rt36]
theorem na37 : m_na 37 = 3 := rfl
theorem ow37 : m_own 37 = 4 := rfl
theorem rt37 : m_rt 37 = some .int := rfl
theorem ro37 {v : Int} : m_rok 37 v = true := by simp [m_rok, rt37]
theorem na38 : m_na 38 = 2 := rfl
theorem ow38 : m_own 38 = 4 := rfl
theorem rt38 : m_rt 38 = some .boolean := rfl
theorem ro38 {v : Int} (h : v = 0 ∨ v = 1) : m_rok 38 v = true := by rcases h with rfl | rfl <;> rfl
theorem na39 : m_na 39 = 3 := rfl
theorem ow39 : m_own 39 = 4 := rfl
theorem rt39 : m_rt 39 = some .boolean := rfl
theorem ro39 {v : Int} (h : v = 0 ∨ v = 1) : m_rok 39 v = true := by rcases h with rfl | rfl <;> rfl
theorem na40 : m_na 40 = 1 := rfl
theorem ow40 : m_own 40 = 4 := rfl
theorem rt40 : m_rt 40 = none := rfl
theorem na41 : m_na 41 = 3 := rfl
theorem ow41 : m_own 41 = 4 := rfl
theorem rt41 : m_rt 41 = some .int := rfl
theorem ro41 {v : Int} : m_rok 41 v = true := by simp [m_rok, rt41]
theorem na42 : m_na 42 = 3 := rfl
theorem ow42 : m_own 42 = 4 := rfl
theorem rt42 : m_rt 42 = some .int := rfl
theorem ro42 {v : Int} : m_rok 42 v = true := by simp [m_rok, rt42]
theorem na43 : m_na 43 = 2 := rfl
theorem ow43 : m_own 43 = 4 := rfl
theorem rt43 : m_rt 43 = some .boolean := rfl
theorem ro43 {v : Int} (h : v = 0 ∨ v = 1) : m_rok 43 v = true := by rcases h with rfl | rfl <;> rfl
theorem na44 : m_na 44 = 1 := rfl
theorem ow44 : m_own 44 = 4 := rfl
theorem rt44 : m_rt 44 = some .int := rfl
theorem ro44 {v : Int} : m_rok 44 v = true := by simp [m_rok, rt44]
theorem na45 : m_na 45 = 2 := rfl
theorem ow45 : m_own 45 = 4 := rfl
theorem rt45 : m_rt 45 = some .int := rfl
theorem ro45 {v : Int} : m_rok 45 v = true := by simp [m_rok, rt45]
theorem na46 : m_na 46 = 2 := rfl
theorem ow46 : m_own 46 = 4 := rfl
theorem rt46 : m_rt 46 = some .int := rfl
theorem ro46 {v : Int} : m_rok 46 v = true := by simp [m_rok, rt46]
theorem na47 : m_na 47 = 1 := rfl
theorem ow47 : m_own 47 = 5 := rfl
theorem rt47 : m_rt 47 = none := rfl
theorem na48 : m_na 48 = 3 := rfl
theorem ow48 : m_own 48 = 5 := rfl
theorem rt48 : m_rt 48 = none := rfl
theorem na49 : m_na 49 = 3 := rfl
theorem ow49 : m_own 49 = 5 := rfl
theorem rt49 : m_rt 49 = none := rfl
theorem na50 : m_na 50 = 2 := rfl
theorem ow50 : m_own 50 = 5 := rfl
theorem rt50 : m_rt 50 = some .int := rfl
theorem ro50 {v : Int} : m_rok 50 v = true := by simp [m_rok, rt50]
theorem na51 : m_na 51 = 3 := rfl
theorem ow51 : m_own 51 = 5 := rfl
theorem rt51 : m_rt 51 = some .int := rfl
theorem ro51 {v : Int} : m_rok 51 v = true := by simp [m_rok, rt51]
theorem na52 : m_na 52 = 4 := rfl
theorem ow52 : m_own 52 = 5 := rfl
theorem rt52 : m_rt 52 = some .int := rfl
theorem ro52 {v : Int} : m_rok 52 v = true := by simp [m_rok, rt52]
theorem na53 : m_na 53 = 3 := rfl
theorem ow53 : m_own 53 = 5 := rfl
theorem rt53 : m_rt 53 = some .int := rfl
theorem ro53 {v : Int} : m_rok 53 v = true := by simp [m_rok, rt53]
theorem na54 : m_na 54 = 1 := rfl
theorem ow54 : m_own 54 = 6 := rfl
theorem rt54 : m_rt 54 = none := rfl
theorem na55 : m_na 55 = 2 := rfl
theorem ow55 : m_own 55 = 6 := rfl
theorem rt55 : m_rt 55 = some .int := rfl
theorem ro55 {v : Int} : m_rok 55 v = true := by simp [m_rok, rt55]
theorem na56 : m_na 56 = 1 := rfl
theorem ow56 : m_own 56 = 6 := rfl
theorem rt56 : m_rt 56 = some .int := rfl
theorem ro56 {v : Int} : m_rok 56 v = true := by simp [m_rok, rt56]
theorem na57 : m_na 57 = 1 := rfl
theorem ow57 : m_own 57 = 6 := rfl
theorem rt57 : m_rt 57 = some .int := rfl
theorem ro57 {v : Int} : m_rok 57 v = true := by simp [m_rok, rt57]
theorem na58 : m_na 58 = 3 := rfl
theorem ow58 : m_own 58 = 6 := rfl
theorem rt58 : m_rt 58 = some .int := rfl
theorem ro58 {v : Int} : m_rok 58 v = true := by simp [m_rok, rt58]
theorem na59 : m_na 59 = 3 := rfl
theorem ow59 : m_own 59 = 6 := rfl
theorem rt59 : m_rt 59 = some .int := rfl
theorem ro59 {v : Int} : m_rok 59 v = true := by simp [m_rok, rt59]
theorem na60 : m_na 60 = 3 := rfl
theorem ow60 : m_own 60 = 6 := rfl
theorem rt60 : m_rt 60 = some .int := rfl
theorem ro60 {v : Int} : m_rok 60 v = true := by simp [m_rok, rt60]
theorem na61 : m_na 61 = 2 := rfl
theorem ow61 : m_own 61 = 6 := rfl
theorem rt61 : m_rt 61 = some .int := rfl
theorem ro61 {v : Int} : m_rok 61 v = true := by simp [m_rok, rt61]
theorem na62 : m_na 62 = 3 := rfl
theorem ow62 : m_own 62 = 6 := rfl
theorem rt62 : m_rt 62 = some .int := rfl
theorem ro62 {v : Int} : m_rok 62 v = true := by simp [m_rok, rt62]
theorem na63 : m_na 63 = 1 := rfl
theorem ow63 : m_own 63 = 6 := rfl
theorem rt63 : m_rt 63 = some .int := rfl
theorem ro63 {v : Int} : m_rok 63 v = true := by simp [m_rok, rt63]
theorem na64 : m_na 64 = 1 := rfl
theorem ow64 : m_own 64 = 6 := rfl
theorem rt64 : m_rt 64 = some .int := rfl
theorem ro64 {v : Int} : m_rok 64 v = true := by simp [m_rok, rt64]
theorem na65 : m_na 65 = 2 := rfl
theorem ow65 : m_own 65 = 6 := rfl
theorem rt65 : m_rt 65 = some .int := rfl
theorem ro65 {v : Int} : m_rok 65 v = true := by simp [m_rok, rt65]
theorem na66 : m_na 66 = 3 := rfl
theorem ow66 : m_own 66 = 6 := rfl
theorem rt66 : m_rt 66 = some .int := rfl
theorem ro66 {v : Int} : m_rok 66 v = true := by simp [m_rok, rt66]
theorem na67 : m_na 67 = 3 := rfl
theorem ow67 : m_own 67 = 6 := rfl
theorem rt67 : m_rt 67 = some .int := rfl
theorem ro67 {v : Int} : m_rok 67 v = true := by simp [m_rok, rt67]
theorem na68 : m_na 68 = 3 := rfl
theorem ow68 : m_own 68 = 6 := rfl
theorem rt68 : m_rt 68 = some .int := rfl
theorem ro68 {v : Int} : m_rok 68 v = true := by simp [m_rok, rt68]
theorem na69 : m_na 69 = 2 := rfl
theorem ow69 : m_own 69 = 6 := rfl
theorem rt69 : m_rt 69 = some .int := rfl
theorem ro69 {v : Int} : m_rok 69 v = true := by simp [m_rok, rt69]
theorem na70 : m_na 70 = 3 := rfl
theorem ow70 : m_own 70 = 6 := rfl
theorem rt70 : m_rt 70 = some .int := rfl
theorem ro70 {v : Int} : m_rok 70 v = true := by simp [m_rok, rt70]
theorem na71 : m_na 71 = 1 := rfl
theorem ow71 : m_own 71 = 6 := rfl
theorem rt71 : m_rt 71 = some .int := rfl
theorem ro71 {v : Int} : m_rok 71 v = true := by simp [m_rok, rt71]
theorem na72 : m_na 72 = 1 := rfl
theorem ow72 : m_own 72 = 6 := rfl
theorem rt72 : m_rt 72 = some .int := rfl
theorem ro72 {v : Int} : m_rok 72 v = true := by simp [m_rok, rt72]
theorem na73 : m_na 73 = 2 := rfl
theorem ow73 : m_own 73 = 6 := rfl
theorem rt73 : m_rt 73 = some .int := rfl
theorem ro73 {v : Int} : m_rok 73 v = true := by simp [m_rok, rt73]
theorem na74 : m_na 74 = 3 := rfl
theorem ow74 : m_own 74 = 6 := rfl
theorem rt74 : m_rt 74 = some .int := rfl
theorem ro74 {v : Int} : m_rok 74 v = true := by simp [m_rok, rt74]
theorem na75 : m_na 75 = 3 := rfl
theorem ow75 : m_own 75 = 6 := rfl
theorem rt75 : m_rt 75 = some .int := rfl
theorem ro75 {v : Int} : m_rok 75 v = true := by simp [m_rok, rt75]
theorem na76 : m_na 76 = 3 := rfl
theorem ow76 : m_own 76 = 6 := rfl
theorem rt76 : m_rt 76 = some .int := rfl
theorem ro76 {v : Int} : m_rok 76 v = true := by simp [m_rok, rt76]
theorem na77 : m_na 77 = 4 := rfl
theorem ow77 : m_own 77 = 6 := rfl
theorem rt77 : m_rt 77 = some .int := rfl
theorem ro77 {v : Int} : m_rok 77 v = true := by simp [m_rok, rt77]
theorem na78 : m_na 78 = 2 := rfl
theorem ow78 : m_own 78 = 6 := rfl
theorem rt78 : m_rt 78 = some .int := rfl
theorem ro78 {v : Int} : m_rok 78 v = true := by simp [m_rok, rt78]
theorem na79 : m_na 79 = 2 := rfl
theorem ow79 : m_own 79 = 6 := rfl
theorem rt79 : m_rt 79 = some .int := rfl
theorem ro79 {v : Int} : m_rok 79 v = true := by simp [m_rok, rt79]
theorem na80 : m_na 80 = 2 := rfl
theorem ow80 : m_own 80 = 6 := rfl
theorem rt80 : m_rt 80 = some .int := rfl
theorem ro80 {v : Int} : m_rok 80 v = true := by simp [m_rok, rt80]
theorem na81 : m_na 81 = 2 := rfl
theorem ow81 : m_own 81 = 6 := rfl
theorem rt81 : m_rt 81 = some .boolean := rfl
theorem ro81 {v : Int} (h : v = 0 ∨ v = 1) : m_rok 81 v = true := by rcases h with rfl | rfl <;> rfl
theorem na82 : m_na 82 = 2 := rfl
theorem ow82 : m_own 82 = 6 := rfl
theorem rt82 : m_rt 82 = some .boolean := rfl
theorem ro82 {v : Int} (h : v = 0 ∨ v = 1) : m_rok 82 v = true := by rcases h with rfl | rfl <;> rfl
theorem na83 : m_na 83 = 2 := rfl
theorem ow83 : m_own 83 = 6 := rfl
theorem rt83 : m_rt 83 = some .boolean := rfl
theorem ro83 {v : Int} (h : v = 0 ∨ v = 1) : m_rok 83 v = true := by rcases h with rfl | rfl <;> rfl
theorem na84 : m_na 84 = 1 := rfl
theorem ow84 : m_own 84 = 6 := rfl
theorem rt84 : m_rt 84 = some .boolean := rfl
theorem ro84 {v : Int} (h : v = 0 ∨ v = 1) : m_rok 84 v = true := by rcases h with rfl | rfl <;> rfl
theorem na85 : m_na 85 = 2 := rfl
theorem ow85 : m_own 85 = 6 := rfl
theorem rt85 : m_rt 85 = some .boolean := rfl
theorem ro85 {v : Int} (h : v = 0 ∨ v = 1) : m_rok 85 v = true := by rcases h with rfl | rfl <;> rfl
theorem na86 : m_na 86 = 1 := rfl
theorem ow86 : m_own 86 = 6 := rfl
theorem rt86 : m_rt 86 = some .boolean := rfl
theorem ro86 {v : Int} (h : v = 0 ∨ v = 1) : m_rok 86 v = true := by rcases h with rfl | rfl <;> rfl
theorem na87 : m_na 87 = 1 := rfl
theorem ow87 : m_own 87 = 6 := rfl
theorem rt87 : m_rt 87 = some .int := rfl
theorem ro87 {v : Int} : m_rok 87 v = true := by simp [m_rok, rt87]
theorem na88 : m_na 88 = 1 := rfl
theorem ow88 : m_own 88 = 6 := rfl
theorem rt88 : m_rt 88 = none := rfl
theorem na89 : m_na 89 = 1 := rfl
theorem ow89 : m_own 89 = 6 := rfl
theorem rt89 : m_rt 89 = none := rfl
theorem na90 : m_na 90 = 3 := rfl
theorem ow90 : m_own 90 = 6 := rfl
theorem rt90 : m_rt 90 = some .int := rfl
theorem ro90 {v : Int} : m_rok 90 v = true := by simp [m_rok, rt90]
theorem na91 : m_na 91 = 3 := rfl
theorem ow91 : m_own 91 = 6 := rfl
theorem rt91 : m_rt 91 = some .boolean := rfl
theorem ro91 {v : Int} (h : v = 0 ∨ v = 1) : m_rok 91 v = true := by rcases h with rfl | rfl <;> rfl
theorem na92 : m_na 92 = 3 := rfl
theorem ow92 : m_own 92 = 6 := rfl
theorem rt92 : m_rt 92 = some .boolean := rfl
theorem ro92 {v : Int} (h : v = 0 ∨ v = 1) : m_rok 92 v = true := by rcases h with rfl | rfl <;> rfl
theorem na93 : m_na 93 = 3 := rfl
theorem ow93 : m_own 93 = 6 := rfl
theorem rt93 : m_rt 93 = some .int := rfl
theorem ro93 {v : Int} : m_rok 93 v = true := by simp [m_rok, rt93]
theorem na94 : m_na 94 = 3 := rfl
theorem ow94 : m_own 94 = 6 := rfl
theorem rt94 : m_rt 94 = some .int := rfl
theorem ro94 {v : Int} : m_rok 94 v = true := by simp [m_rok, rt94]
theorem na95 : m_na 95 = 2 := rfl
theorem ow95 : m_own 95 = 6 := rfl
theorem rt95 : m_rt 95 = some .int := rfl
theorem ro95 {v : Int} : m_rok 95 v = true := by simp [m_rok, rt95]
theorem na96 : m_na 96 = 1 := rfl
theorem ow96 : m_own 96 = 6 := rfl
theorem rt96 : m_rt 96 = some .int := rfl
theorem ro96 {v : Int} : m_rok 96 v = true := by simp [m_rok, rt96]
theorem na97 : m_na 97 = 3 := rfl
theorem ow97 : m_own 97 = 7 := rfl
theorem rt97 : m_rt 97 = some .boolean := rfl
theorem ro97 {v : Int} (h : v = 0 ∨ v = 1) : m_rok 97 v = true := by rcases h with rfl | rfl <;> rfl
theorem na98 : m_na 98 = 1 := rfl
theorem ow98 : m_own 98 = 7 := rfl
theorem rt98 : m_rt 98 = none := rfl
theorem na99 : m_na 99 = 1 := rfl
theorem ow99 : m_own 99 = 7 := rfl
theorem rt99 : m_rt 99 = none := rfl
theorem na100 : m_na 100 = 1 := rfl
theorem ow100 : m_own 100 = 7 := rfl
theorem rt100 : m_rt 100 = none := rfl
theorem na101 : m_na 101 = 2 := rfl
theorem ow101 : m_own 101 = 7 := rfl
theorem rt101 : m_rt 101 = some .int := rfl
theorem ro101 {v : Int} : m_rok 101 v = true := by simp [m_rok, rt101]
theorem na102 : m_na 102 = 1 := rfl
theorem ow102 : m_own 102 = 7 := rfl
theorem rt102 : m_rt 102 = some .int := rfl
theorem ro102 {v : Int} : m_rok 102 v = true := by simp [m_rok, rt102]
theorem na103 : m_na 103 = 1 := rfl
theorem ow103 : m_own 103 = 7 := rfl
theorem rt103 : m_rt 103 = some .int := rfl
theorem ro103 {v : Int} : m_rok 103 v = true := by simp [m_rok, rt103]
theorem na104 : m_na 104 = 3 := rfl
theorem ow104 : m_own 104 = 7 := rfl
theorem rt104 : m_rt 104 = some .boolean := rfl
theorem ro104 {v : Int} (h : v = 0 ∨ v = 1) : m_rok 104 v = true := by rcases h with rfl | rfl <;> rfl
theorem na105 : m_na 105 = 1 := rfl
theorem ow105 : m_own 105 = 7 := rfl
theorem rt105 : m_rt 105 = some .boolean := rfl
theorem ro105 {v : Int} (h : v = 0 ∨ v = 1) : m_rok 105 v = true := by rcases h with rfl | rfl <;> rfl
theorem na106 : m_na 106 = 6 := rfl
theorem ow106 : m_own 106 = 7 := rfl
theorem rt106 : m_rt 106 = some .boolean := rfl
theorem ro106 {v : Int} (h : v = 0 ∨ v = 1) : m_rok 106 v = true := by rcases h with rfl | rfl <;> rfl
theorem na107 : m_na 107 = 1 := rfl
theorem ow107 : m_own 107 = 7 := rfl
theorem rt107 : m_rt 107 = some .boolean := rfl
theorem ro107 {v : Int} (h : v = 0 ∨ v = 1) : m_rok 107 v = true := by rcases h with rfl | rfl <;> rfl
theorem na108 : m_na 108 = 1 := rfl
theorem ow108 : m_own 108 = 7 := rfl
theorem rt108 : m_rt 108 = some .int := rfl
theorem ro108 {v : Int} : m_rok 108 v = true := by simp [m_rok, rt108]
theorem na109 : m_na 109 = 2 := rfl
theorem ow109 : m_own 109 = 7 := rfl
theorem rt109 : m_rt 109 = some .boolean := rfl
theorem ro109 {v : Int} (h : v = 0 ∨ v = 1) : m_rok 109 v = true := by rcases h with rfl | rfl <;> rfl
theorem na110 : m_na 110 = 2 := rfl
theorem ow110 : m_own 110 = 7 := rfl
theorem rt110 : m_rt 110 = some .boolean := rfl
theorem ro110 {v : Int} (h : v = 0 ∨ v = 1) : m_rok 110 v = true := by rcases h with rfl | rfl <;> rfl
theorem na111 : m_na 111 = 1 := rfl
theorem ow111 : m_own 111 = 7 := rfl
theorem rt111 : m_rt 111 = some .int := rfl
theorem ro111 {v : Int} : m_rok 111 v = true := by simp [m_rok, rt111]
theorem na112 : m_na 112 = 2 := rfl
theorem ow112 : m_own 112 = 7 := rfl
theorem rt112 : m_rt 112 = some .boolean := rfl
theorem ro112 {v : Int} (h : v = 0 ∨ v = 1) : m_rok 112 v = true := by rcases h with rfl | rfl <;> rfl
theorem na113 : m_na 113 = 3 := rfl
theorem ow113 : m_own 113 = 7 := rfl
theorem rt113 : m_rt 113 = some .int := rfl
theorem ro113 {v : Int} : m_rok 113 v = true := by simp [m_rok, rt113]
theorem na114 : m_na 114 = 2 := rfl
theorem ow114 : m_own 114 = 7 := rfl
theorem rt114 : m_rt 114 = some .boolean := rfl
theorem ro114 {v : Int} (h : v = 0 ∨ v = 1) : m_rok 114 v = true := by rcases h with rfl | rfl <;> rfl
theorem na115 : m_na 115 = 2 := rfl
theorem ow115 : m_own 115 = 7 := rfl
theorem rt115 : m_rt 115 = some .int := rfl
theorem ro115 {v : Int} : m_rok 115 v = true := by simp [m_rok, rt115]
theorem na116 : m_na 116 = 1 := rfl
theorem ow116 : m_own 116 = 7 := rfl
theorem rt116 : m_rt 116 = none := rfl
theorem na117 : m_na 117 = 2 := rfl
theorem ow117 : m_own 117 = 7 := rfl
theorem rt117 : m_rt 117 = some .int := rfl
theorem ro117 {v : Int} : m_rok 117 v = true := by simp [m_rok, rt117]
theorem na118 : m_na 118 = 2 := rfl
theorem ow118 : m_own 118 = 7 := rfl
theorem rt118 : m_rt 118 = some .int := rfl
theorem ro118 {v : Int} : m_rok 118 v = true := by simp [m_rok, rt118]
theorem na119 : m_na 119 = 3 := rfl
theorem ow119 : m_own 119 = 7 := rfl
theorem rt119 : m_rt 119 = some .int := rfl
theorem ro119 {v : Int} : m_rok 119 v = true := by simp [m_rok, rt119]
theorem na120 : m_na 120 = 3 := rfl
theorem ow120 : m_own 120 = 7 := rfl
theorem rt120 : m_rt 120 = some .int := rfl
theorem ro120 {v : Int} : m_rok 120 v = true := by simp [m_rok, rt120]
theorem na121 : m_na 121 = 3 := rfl
theorem ow121 : m_own 121 = 7 := rfl
theorem rt121 : m_rt 121 = some .int := rfl
theorem ro121 {v : Int} : m_rok 121 v = true := by simp [m_rok, rt121]
theorem na122 : m_na 122 = 3 := rfl
theorem ow122 : m_own 122 = 7 := rfl
theorem rt122 : m_rt 122 = some .int := rfl
theorem ro122 {v : Int} : m_rok 122 v = true := by simp [m_rok, rt122]
theorem na123 : m_na 123 = 1 := rfl
theorem ow123 : m_own 123 = 7 := rfl
theorem rt123 : m_rt 123 = some .int := rfl
theorem ro123 {v : Int} : m_rok 123 v = true := by simp [m_rok, rt123]
theorem na124 : m_na 124 = 1 := rfl
theorem ow124 : m_own 124 = 7 := rfl
theorem rt124 : m_rt 124 = none := rfl
theorem na125 : m_na 125 = 3 := rfl
theorem ow125 : m_own 125 = 7 := rfl
theorem rt125 : m_rt 125 = some .int := rfl
theorem ro125 {v : Int} : m_rok 125 v = true := by simp [m_rok, rt125]
theorem na126 : m_na 126 = 2 := rfl
theorem ow126 : m_own 126 = 7 := rfl
theorem rt126 : m_rt 126 = some .int := rfl
theorem ro126 {v : Int} : m_rok 126 v = true := by simp [m_rok, rt126]
theorem na127 : m_na 127 = 3 := rfl
theorem ow127 : m_own 127 = 7 := rfl
theorem rt127 : m_rt 127 = some .int := rfl
theorem ro127 {v : Int} : m_rok 127 v = true := by simp [m_rok, rt127]
theorem na128 : m_na 128 = 1 := rfl
theorem ow128 : m_own 128 = 7 := rfl
theorem rt128 : m_rt 128 = some .int := rfl
theorem ro128 {v : Int} : m_rok 128 v = true := by simp [m_rok, rt128]
theorem na129 : m_na 129 = 1 := rfl
theorem ow129 : m_own 129 = 7 := rfl
theorem rt129 : m_rt 129 = some .int := rfl
theorem ro129 {v : Int} : m_rok 129 v = true := by simp [m_rok, rt129]
theorem na130 : m_na 130 = 2 := rfl
theorem ow130 : m_own 130 = 7 := rfl
theorem rt130 : m_rt 130 = some .int := rfl
theorem ro130 {v : Int} : m_rok 130 v = true := by simp [m_rok, rt130]
theorem na131 : m_na 131 = 3 := rfl
theorem ow131 : m_own 131 = 7 := rfl
theorem rt131 : m_rt 131 = some .int := rfl
theorem ro131 {v : Int} : m_rok 131 v = true := by simp [m_rok, rt131]
theorem na132 : m_na 132 = 4 := rfl
theorem ow132 : m_own 132 = 7 := rfl
theorem rt132 : m_rt 132 = some .boolean := rfl
theorem ro132 {v : Int} (h : v = 0 ∨ v = 1) : m_rok 132 v = true := by rcases h with rfl | rfl <;> rfl
theorem na133 : m_na 133 = 3 := rfl
theorem ow133 : m_own 133 = 7 := rfl
theorem rt133 : m_rt 133 = some .boolean := rfl
theorem ro133 {v : Int} (h : v = 0 ∨ v = 1) : m_rok 133 v = true := by rcases h with rfl | rfl <;> rfl
theorem na134 : m_na 134 = 1 := rfl
theorem ow134 : m_own 134 = 7 := rfl
theorem rt134 : m_rt 134 = none := rfl
theorem na135 : m_na 135 = 1 := rfl
theorem ow135 : m_own 135 = 7 := rfl
theorem rt135 : m_rt 135 = some .int := rfl
theorem ro135 {v : Int} : m_rok 135 v = true := by simp [m_rok, rt135]
theorem na136 : m_na 136 = 3 := rfl
theorem ow136 : m_own 136 = 7 := rfl
theorem rt136 : m_rt 136 = some .int := rfl
theorem ro136 {v : Int} : m_rok 136 v = true := by simp [m_rok, rt136]
theorem na137 : m_na 137 = 2 := rfl
theorem ow137 : m_own 137 = 7 := rfl
theorem rt137 : m_rt 137 = some .int := rfl
theorem ro137 {v : Int} : m_rok 137 v = true := by simp [m_rok, rt137]
theorem na138 : m_na 138 = 3 := rfl
theorem ow138 : m_own 138 = 7 := rfl
theorem rt138 : m_rt 138 = some .int := rfl
theorem ro138 {v : Int} : m_rok 138 v = true := by simp [m_rok, rt138]
theorem na139 : m_na 139 = 1 := rfl
theorem ow139 : m_own 139 = 7 := rfl
theorem rt139 : m_rt 139 = none := rfl
theorem na140 : m_na 140 = 3 := rfl
theorem ow140 : m_own 140 = 7 := rfl
theorem rt140 : m_rt 140 = some .boolean := rfl
theorem ro140 {v : Int} (h : v = 0 ∨ v = 1) : m_rok 140 v = true := by rcases h with rfl | rfl <;> rfl
theorem na141 : m_na 141 = 1 := rfl
theorem ow141 : m_own 141 = 7 := rfl
theorem rt141 : m_rt 141 = some .boolean := rfl
theorem ro141 {v : Int} (h : v = 0 ∨ v = 1) : m_rok 141 v = true := by rcases h with rfl | rfl <;> rfl
theorem na142 : m_na 142 = 2 := rfl
theorem ow142 : m_own 142 = 7 := rfl
theorem rt142 : m_rt 142 = some .int := rfl
theorem ro142 {v : Int} : m_rok 142 v = true := by simp [m_rok, rt142]
theorem na143 : m_na 143 = 3 := rfl
theorem ow143 : m_own 143 = 7 := rfl
theorem rt143 : m_rt 143 = some .int := rfl
theorem ro143 {v : Int} : m_rok 143 v = true := by simp [m_rok, rt143]
theorem na144 : m_na 144 = 1 := rfl
theorem ow144 : m_own 144 = 7 := rfl
theorem rt144 : m_rt 144 = some .int := rfl
theorem ro144 {v : Int} : m_rok 144 v = true := by simp [m_rok, rt144]
theorem na145 : m_na 145 = 1 := rfl
theorem ow145 : m_own 145 = 7 := rfl
theorem rt145 : m_rt 145 = some .int := rfl
theorem ro145 {v : Int} : m_rok 145 v = true := by simp [m_rok, rt145]
theorem na146 : m_na 146 = 2 := rfl
theorem ow146 : m_own 146 = 7 := rfl
theorem rt146 : m_rt 146 = some .int := rfl
theorem ro146 {v : Int} : m_rok 146 v = true := by simp [m_rok, rt146]
theorem na147 : m_na 147 = 3 := rfl
theorem ow147 : m_own 147 = 7 := rfl
theorem rt147 : m_rt 147 = some .int := rfl
theorem ro147 {v : Int} : m_rok 147 v = true := by simp [m_rok, rt147]
theorem na148 : m_na 148 = 3 := rfl
theorem ow148 : m_own 148 = 7 := rfl
theorem rt148 : m_rt 148 = some .int := rfl
theorem ro148 {v : Int} : m_rok 148 v = true := by simp [m_rok, rt148]
theorem na149 : m_na 149 = 5 := rfl
theorem ow149 : m_own 149 = 7 := rfl
theorem rt149 : m_rt 149 = none := rfl
theorem na150 : m_na 150 = 3 := rfl
theorem ow150 : m_own 150 = 7 := rfl
theorem rt150 : m_rt 150 = none := rfl
theorem na151 : m_na 151 = 1 := rfl
theorem ow151 : m_own 151 = 7 := rfl
theorem rt151 : m_rt 151 = none := rfl
theorem na152 : m_na 152 = 2 := rfl
theorem ow152 : m_own 152 = 7 := rfl
theorem rt152 : m_rt 152 = some .boolean := rfl
theorem ro152 {v : Int} (h : v = 0 ∨ v = 1) : m_rok 152 v = true := by rcases h with rfl | rfl <;> rfl
theorem na153 : m_na 153 = 3 := rfl
theorem ow153 : m_own 153 = 7 := rfl
theorem rt153 : m_rt 153 = some .int := rfl
theorem ro153 {v : Int} : m_rok 153 v = true := by simp [m_rok, rt153]
theorem na154 : m_na 154 = 3 := rfl
theorem ow154 : m_own 154 = 7 := rfl
theorem rt154 : m_rt 154 = some .int := rfl
theorem ro154 {v : Int} : m_rok 154 v = true := by simp [m_rok, rt154]
theorem na155 : m_na 155 = 3 := rfl
theorem ow155 : m_own 155 = 7 := rfl
theorem rt155 : m_rt 155 = some .int := rfl
theorem ro155 {v : Int} : m_rok 155 v = true := by simp [m_rok, rt155]
theorem na156 : m_na 156 = 4 := rfl
theorem ow156 : m_own 156 = 7 := rfl
theorem rt156 : m_rt 156 = some .int := rfl
theorem ro156 {v : Int} : m_rok 156 v = true := by simp [m_rok, rt156]
theorem na157 : m_na 157 = 2 := rfl
theorem ow157 : m_own 157 = 7 := rfl
theorem rt157 : m_rt 157 = some .int := rfl
theorem ro157 {v : Int} : m_rok 157 v = true := by simp [m_rok, rt157]
theorem na158 : m_na 158 = 2 := rfl
theorem ow158 : m_own 158 = 7 := rfl
theorem rt158 : m_rt 158 = some .int := rfl
theorem ro158 {v : Int} : m_rok 158 v = true := by simp [m_rok, rt158]
theorem na159 : m_na 159 = 1 := rfl
theorem ow159 : m_own 159 = 7 := rfl
theorem rt159 : m_rt 159 = some .int := rfl
theorem ro159 {v : Int} : m_rok 159 v = true := by simp [m_rok, rt159]
theorem na160 : m_na 160 = 2 := rfl
theorem ow160 : m_own 160 = 7 := rfl
theorem rt160 : m_rt 160 = some .int := rfl
theorem ro160 {v : Int} : m_rok 160 v = true := by simp [m_rok, rt160]
theorem na161 : m_na 161 = 2 := rfl
theorem ow161 : m_own 161 = 8 := rfl
theorem rt161 : m_rt 161 = none := rfl
theorem na162 : m_na 162 = 1 := rfl
theorem ow162 : m_own 162 = 9 := rfl
theorem rt162 : m_rt 162 = some .int := rfl
theorem ro162 {v : Int} : m_rok 162 v = true := by simp [m_rok, rt162]
theorem tg0_0 : (m_tagL 0)[0]? = some 2 := rfl
theorem tg0_1 : (m_tagL 0)[1]? = some 2 := rfl
theorem tg0_2 : (m_tagL 0)[2]? = some 2 := rfl
theorem tg0_3 : (m_tagL 0)[3]? = some 2 := rfl
theorem tg0_4 : (m_tagL 0)[4]? = some 2 := rfl
theorem tg0_5 : (m_tagL 0)[5]? = some 1 := rfl
theorem fn0_5 : ((m_C 0).2.1 5).2.2.2 = false := rfl
theorem tg1_0 : (m_tagL 1)[0]? = some 2 := rfl
theorem tg1_1 : (m_tagL 1)[1]? = some 2 := rfl
theorem tg1_2 : (m_tagL 1)[2]? = some 2 := rfl
theorem tg1_3 : (m_tagL 1)[3]? = some 2 := rfl
theorem tg1_4 : (m_tagL 1)[4]? = some 2 := rfl
theorem tg1_5 : (m_tagL 1)[5]? = some 2 := rfl
theorem tg1_6 : (m_tagL 1)[6]? = some 0 := rfl
theorem fn1_6 : ((m_C 1).2.1 6).2.2.2 = false := rfl
theorem tg1_7 : (m_tagL 1)[7]? = some 0 := rfl
theorem fn1_7 : ((m_C 1).2.1 7).2.2.2 = false := rfl
theorem tg1_8 : (m_tagL 1)[8]? = some 0 := rfl
theorem fn1_8 : ((m_C 1).2.1 8).2.2.2 = false := rfl
theorem tg2_0 : (m_tagL 2)[0]? = some 2 := rfl
theorem tg2_1 : (m_tagL 2)[1]? = some 2 := rfl
theorem tg3_0 : (m_tagL 3)[0]? = some 0 := rfl
theorem fn3_0 : ((m_C 3).2.1 0).2.2.2 = false := rfl
theorem tg3_1 : (m_tagL 3)[1]? = some 0 := rfl
theorem fn3_1 : ((m_C 3).2.1 1).2.2.2 = false := rfl
theorem tg3_2 : (m_tagL 3)[2]? = some 0 := rfl
theorem fn3_2 : ((m_C 3).2.1 2).2.2.2 = false := rfl
theorem tg3_3 : (m_tagL 3)[3]? = some 0 := rfl
theorem fn3_3 : ((m_C 3).2.1 3).2.2.2 = false := rfl
theorem tg3_4 : (m_tagL 3)[4]? = some 1 := rfl
theorem fn3_4 : ((m_C 3).2.1 4).2.2.2 = false := rfl
theorem tg3_5 : (m_tagL 3)[5]? = some 1 := rfl
theorem fn3_5 : ((m_C 3).2.1 5).2.2.2 = false := rfl
theorem tg3_6 : (m_tagL 3)[6]? = some 1 := rfl
theorem fn3_6 : ((m_C 3).2.1 6).2.2.2 = false := rfl
theorem tg3_7 : (m_tagL 3)[7]? = some 1 := rfl
theorem fn3_7 : ((m_C 3).2.1 7).2.2.2 = false := rfl
theorem tg4_0 : (m_tagL 4)[0]? = some 0 := rfl
theorem fn4_0 : ((m_C 4).2.1 0).2.2.2 = false := rfl
theorem tg4_1 : (m_tagL 4)[1]? = some 0 := rfl
theorem fn4_1 : ((m_C 4).2.1 1).2.2.2 = false := rfl
theorem tg4_2 : (m_tagL 4)[2]? = some 0 := rfl
theorem fn4_2 : ((m_C 4).2.1 2).2.2.2 = false := rfl
theorem tg4_3 : (m_tagL 4)[3]? = some 0 := rfl
theorem fn4_3 : ((m_C 4).2.1 3).2.2.2 = false := rfl
theorem tg4_4 : (m_tagL 4)[4]? = some 0 := rfl
theorem fn4_4 : ((m_C 4).2.1 4).2.2.2 = false := rfl
theorem tg4_5 : (m_tagL 4)[5]? = some 0 := rfl
theorem fn4_5 : ((m_C 4).2.1 5).2.2.2 = false := rfl
theorem tg4_6 : (m_tagL 4)[6]? = some 0 := rfl
theorem fn4_6 : ((m_C 4).2.1 6).2.2.2 = false := rfl
theorem tg4_7 : (m_tagL 4)[7]? = some 2 := rfl
theorem tg4_8 : (m_tagL 4)[8]? = some 2 := rfl
theorem tg4_9 : (m_tagL 4)[9]? = some 2 := rfl
theorem tg4_10 : (m_tagL 4)[10]? = some 2 := rfl
theorem tg5_0 : (m_tagL 5)[0]? = some 2 := rfl
theorem tg6_0 : (m_tagL 6)[0]? = some 2 := rfl
theorem tg6_1 : (m_tagL 6)[1]? = some 0 := rfl
theorem fn6_1 : ((m_C 6).2.1 1).2.2.2 = false := rfl
theorem tg6_2 : (m_tagL 6)[2]? = some 2 := rfl
theorem tg6_3 : (m_tagL 6)[3]? = some 2 := rfl
theorem fn6_3 : ((m_C 6).2.1 3).2.2.2 = false := rfl
theorem tg6_4 : (m_tagL 6)[4]? = some 2 := rfl
theorem fn6_4 : ((m_C 6).2.1 4).2.2.2 = false := rfl
theorem tg6_5 : (m_tagL 6)[5]? = some 2 := rfl
theorem tg6_6 : (m_tagL 6)[6]? = some 2 := rfl
theorem tg6_7 : (m_tagL 6)[7]? = some 2 := rfl
theorem tg6_8 : (m_tagL 6)[8]? = some 0 := rfl
theorem fn6_8 : ((m_C 6).2.1 8).2.2.2 = false := rfl
theorem tg6_9 : (m_tagL 6)[9]? = some 0 := rfl
theorem fn6_9 : ((m_C 6).2.1 9).2.2.2 = false := rfl
theorem tg6_10 : (m_tagL 6)[10]? = some 2 := rfl
theorem tg6_11 : (m_tagL 6)[11]? = some 2 := rfl
theorem tg6_12 : (m_tagL 6)[12]? = some 2 := rfl
theorem tg6_13 : (m_tagL 6)[13]? = some 2 := rfl
theorem tg6_14 : (m_tagL 6)[14]? = some 2 := rfl
theorem tg6_15 : (m_tagL 6)[15]? = some 2 := rfl
theorem tg7_0 : (m_tagL 7)[0]? = some 0 := rfl
theorem fn7_0 : ((m_C 7).2.1 0).2.2.2 = false := rfl
theorem tg7_1 : (m_tagL 7)[1]? = some 2 := rfl
theorem tg7_2 : (m_tagL 7)[2]? = some 2 := rfl
theorem tg7_3 : (m_tagL 7)[3]? = some 2 := rfl
theorem tg7_4 : (m_tagL 7)[4]? = some 0 := rfl
theorem fn7_4 : ((m_C 7).2.1 4).2.2.2 = false := rfl
theorem tg7_5 : (m_tagL 7)[5]? = some 2 := rfl
theorem tg7_6 : (m_tagL 7)[6]? = some 2 := rfl
theorem tg7_7 : (m_tagL 7)[7]? = some 2 := rfl
theorem tg7_8 : (m_tagL 7)[8]? = some 0 := rfl
theorem fn7_8 : ((m_C 7).2.1 8).2.2.2 = false := rfl
theorem tg7_9 : (m_tagL 7)[9]? = some 2 := rfl
theorem tg7_10 : (m_tagL 7)[10]? = some 2 := rfl
theorem tg7_11 : (m_tagL 7)[11]? = some 2 := rfl
theorem tg7_12 : (m_tagL 7)[12]? = some 0 := rfl
theorem fn7_12 : ((m_C 7).2.1 12).2.2.2 = false := rfl
theorem tg7_13 : (m_tagL 7)[13]? = some 2 := rfl
theorem tg7_14 : (m_tagL 7)[14]? = some 0 := rfl
theorem fn7_14 : ((m_C 7).2.1 14).2.2.2 = false := rfl
theorem tg7_15 : (m_tagL 7)[15]? = some 0 := rfl
theorem fn7_15 : ((m_C 7).2.1 15).2.2.2 = false := rfl
theorem tg7_16 : (m_tagL 7)[16]? = some 0 := rfl
theorem fn7_16 : ((m_C 7).2.1 16).2.2.2 = false := rfl
theorem tg7_17 : (m_tagL 7)[17]? = some 2 := rfl
theorem tg7_18 : (m_tagL 7)[18]? = some 2 := rfl
theorem tg7_19 : (m_tagL 7)[19]? = some 0 := rfl
theorem fn7_19 : ((m_C 7).2.1 19).2.2.2 = false := rfl
theorem tg7_20 : (m_tagL 7)[20]? = some 2 := rfl
theorem tg7_21 : (m_tagL 7)[21]? = some 2 := rfl
theorem tg7_22 : (m_tagL 7)[22]? = some 0 := rfl
theorem fn7_22 : ((m_C 7).2.1 22).2.2.2 = false := rfl
theorem tg7_23 : (m_tagL 7)[23]? = some 1 := rfl
theorem fn7_23 : ((m_C 7).2.1 23).2.2.2 = false := rfl
theorem tg7_24 : (m_tagL 7)[24]? = some 0 := rfl
theorem fn7_24 : ((m_C 7).2.1 24).2.2.2 = false := rfl
theorem tg7_25 : (m_tagL 7)[25]? = some 0 := rfl
theorem fn7_25 : ((m_C 7).2.1 25).2.2.2 = false := rfl
theorem tg7_26 : (m_tagL 7)[26]? = some 2 := rfl
theorem tg7_27 : (m_tagL 7)[27]? = some 2 := rfl
theorem tg7_28 : (m_tagL 7)[28]? = some 2 := rfl
theorem tg7_29 : (m_tagL 7)[29]? = some 2 := rfl
