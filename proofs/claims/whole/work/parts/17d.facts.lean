/-! facts of the tables, one by one (printed by gen3.py) -/
theorem g97_0 : m_get 97 0 = some (.iload_n 0, 1) := by decide +kernel
theorem g97_1 : m_get 97 1 = some (.iload_n 1, 1) := by decide +kernel
theorem g97_2 : m_get 97 2 = some (.if_icmp .lt 12, 3) := by decide +kernel
theorem g97_5 : m_get 97 5 = some (.iload_n 0, 1) := by decide +kernel
theorem g97_6 : m_get 97 6 = some (.iload_n 2, 1) := by decide +kernel
theorem g97_7 : m_get 97 7 = some (.if_icmp .gt 7, 3) := by decide +kernel
theorem g97_10 : m_get 97 10 = some (.iconst 1, 1) := by decide +kernel
theorem g97_11 : m_get 97 11 = some (.goto 4, 3) := by decide +kernel
theorem g97_14 : m_get 97 14 = some (.iconst 0, 1) := by decide +kernel
theorem g97_15 : m_get 97 15 = some (.ireturn, 1) := by decide +kernel
theorem g98_0 : m_get 98 0 = some (.aload_n 0, 1) := by decide +kernel
theorem g98_1 : m_get 98 1 = some (.invokespecial 1, 3) := by decide +kernel
theorem g98_4 : m_get 98 4 = some (.aload_n 0, 1) := by decide +kernel
theorem g98_5 : m_get 98 5 = some (.bipush 6, 2) := by decide +kernel
theorem g98_7 : m_get 98 7 = some (.newarray .int, 2) := by decide +kernel
theorem g98_9 : m_get 98 9 = some (.putfield 7, 3) := by decide +kernel
theorem g98_12 : m_get 98 12 = some (.aload_n 0, 1) := by decide +kernel
theorem g98_13 : m_get 98 13 = some (.bipush 30, 2) := by decide +kernel
theorem g98_15 : m_get 98 15 = some (.newarray .int, 2) := by decide +kernel
theorem g98_17 : m_get 98 17 = some (.putfield 13, 3) := by decide +kernel
theorem g98_20 : m_get 98 20 = some (.aload_n 0, 1) := by decide +kernel
theorem g98_21 : m_get 98 21 = some (.bipush 15, 2) := by decide +kernel
theorem g98_23 : m_get 98 23 = some (.newarray .int, 2) := by decide +kernel
theorem g98_25 : m_get 98 25 = some (.putfield 16, 3) := by decide +kernel
theorem g98_28 : m_get 98 28 = some (.aload_n 0, 1) := by decide +kernel
theorem g98_29 : m_get 98 29 = some (.sipush 150, 3) := by decide +kernel
theorem g98_32 : m_get 98 32 = some (.newarray .int, 2) := by decide +kernel
theorem g98_34 : m_get 98 34 = some (.putfield 19, 3) := by decide +kernel
theorem g98_37 : m_get 98 37 = some (.aload_n 0, 1) := by decide +kernel
theorem g98_38 : m_get 98 38 = some (.iconst 2, 1) := by decide +kernel
theorem g98_39 : m_get 98 39 = some (.newarray .boolean, 2) := by decide +kernel
theorem g98_41 : m_get 98 41 = some (.putfield 22, 3) := by decide +kernel
theorem g98_44 : m_get 98 44 = some (.aload_n 0, 1) := by decide +kernel
theorem g98_45 : m_get 98 45 = some (.bipush 30, 2) := by decide +kernel
theorem g98_47 : m_get 98 47 = some (.newarray .int, 2) := by decide +kernel
theorem g98_49 : m_get 98 49 = some (.putfield 26, 3) := by decide +kernel
theorem g98_52 : m_get 98 52 = some (.aload_n 0, 1) := by decide +kernel
theorem g98_53 : m_get 98 53 = some (.bipush 6, 2) := by decide +kernel
theorem g98_55 : m_get 98 55 = some (.newarray .int, 2) := by decide +kernel
theorem g98_57 : m_get 98 57 = some (.putfield 29, 3) := by decide +kernel
theorem g98_60 : m_get 98 60 = some (.aload_n 0, 1) := by decide +kernel
theorem g98_61 : m_get 98 61 = some (.bipush 30, 2) := by decide +kernel
theorem g98_63 : m_get 98 63 = some (.newarray .int, 2) := by decide +kernel
theorem g98_65 : m_get 98 65 = some (.putfield 32, 3) := by decide +kernel
theorem g98_68 : m_get 98 68 = some (.aload_n 0, 1) := by decide +kernel
theorem g98_69 : m_get 98 69 = some (.bipush 6, 2) := by decide +kernel
theorem g98_71 : m_get 98 71 = some (.newarray .int, 2) := by decide +kernel
theorem g98_73 : m_get 98 73 = some (.putfield 35, 3) := by decide +kernel
theorem g98_76 : m_get 98 76 = some (.aload_n 0, 1) := by decide +kernel
theorem g98_77 : m_get 98 77 = some (.bipush 120, 2) := by decide +kernel
theorem g98_79 : m_get 98 79 = some (.newarray .int, 2) := by decide +kernel
theorem g98_81 : m_get 98 81 = some (.putfield 38, 3) := by decide +kernel
theorem g98_84 : m_get 98 84 = some (.aload_n 0, 1) := by decide +kernel
theorem g98_85 : m_get 98 85 = some (.bipush 15, 2) := by decide +kernel
theorem g98_87 : m_get 98 87 = some (.newarray .int, 2) := by decide +kernel
theorem g98_89 : m_get 98 89 = some (.putfield 41, 3) := by decide +kernel
theorem g98_92 : m_get 98 92 = some (.aload_n 0, 1) := by decide +kernel
theorem g98_93 : m_get 98 93 = some (.bipush 9, 2) := by decide +kernel
theorem g98_95 : m_get 98 95 = some (.newarray .int, 2) := by decide +kernel
theorem g98_97 : m_get 98 97 = some (.putfield 44, 3) := by decide +kernel
theorem g98_100 : m_get 98 100 = some (.aload_n 0, 1) := by decide +kernel
theorem g98_101 : m_get 98 101 = some (.bipush 9, 2) := by decide +kernel
theorem g98_103 : m_get 98 103 = some (.newarray .int, 2) := by decide +kernel
theorem g98_105 : m_get 98 105 = some (.putfield 47, 3) := by decide +kernel
theorem g98_108 : m_get 98 108 = some (.aload_n 0, 1) := by decide +kernel
theorem g98_109 : m_get 98 109 = some (.bipush 9, 2) := by decide +kernel
theorem g98_111 : m_get 98 111 = some (.newarray .int, 2) := by decide +kernel
theorem g98_113 : m_get 98 113 = some (.putfield 50, 3) := by decide +kernel
theorem g98_116 : m_get 98 116 = some (.aload_n 0, 1) := by decide +kernel
theorem g98_117 : m_get 98 117 = some (.bipush 9, 2) := by decide +kernel
theorem g98_119 : m_get 98 119 = some (.newarray .int, 2) := by decide +kernel
theorem g98_121 : m_get 98 121 = some (.putfield 53, 3) := by decide +kernel
theorem g98_124 : m_get 98 124 = some (.aload_n 0, 1) := by decide +kernel
theorem g98_125 : m_get 98 125 = some (.sipush 625, 3) := by decide +kernel
theorem g98_128 : m_get 98 128 = some (.newarray .int, 2) := by decide +kernel
theorem g98_130 : m_get 98 130 = some (.putfield 56, 3) := by decide +kernel
theorem g98_133 : m_get 98 133 = some (.aload_n 0, 1) := by decide +kernel
theorem g98_134 : m_get 98 134 = some (.sipush 625, 3) := by decide +kernel
theorem g98_137 : m_get 98 137 = some (.newarray .int, 2) := by decide +kernel
theorem g98_139 : m_get 98 139 = some (.putfield 59, 3) := by decide +kernel
theorem g98_142 : m_get 98 142 = some (.aload_n 0, 1) := by decide +kernel
theorem g98_143 : m_get 98 143 = some (.sipush 1875, 3) := by decide +kernel
theorem g98_146 : m_get 98 146 = some (.newarray .int, 2) := by decide +kernel
theorem g98_148 : m_get 98 148 = some (.putfield 62, 3) := by decide +kernel
theorem g98_151 : m_get 98 151 = some (.aload_n 0, 1) := by decide +kernel
theorem g98_152 : m_get 98 152 = some (.invokevirtual 65, 3) := by decide +kernel
theorem g98_155 : m_get 98 155 = some (.aload_n 0, 1) := by decide +kernel
theorem g98_156 : m_get 98 156 = some (.invokevirtual 68, 3) := by decide +kernel
theorem g98_159 : m_get 98 159 = some (.return_, 1) := by decide +kernel
theorem f98_7 : m_fl (m_own 98) 7 = some (7, 1) := by decide +kernel
theorem f98_13 : m_fl (m_own 98) 13 = some (7, 2) := by decide +kernel
theorem f98_16 : m_fl (m_own 98) 16 = some (7, 3) := by decide +kernel
theorem f98_19 : m_fl (m_own 98) 19 = some (7, 5) := by decide +kernel
theorem f98_22 : m_fl (m_own 98) 22 = some (7, 6) := by decide +kernel
theorem f98_26 : m_fl (m_own 98) 26 = some (7, 7) := by decide +kernel
theorem f98_29 : m_fl (m_own 98) 29 = some (7, 9) := by decide +kernel
theorem f98_32 : m_fl (m_own 98) 32 = some (7, 10) := by decide +kernel
theorem f98_35 : m_fl (m_own 98) 35 = some (7, 11) := by decide +kernel
theorem f98_38 : m_fl (m_own 98) 38 = some (7, 13) := by decide +kernel
theorem f98_41 : m_fl (m_own 98) 41 = some (7, 17) := by decide +kernel
theorem f98_44 : m_fl (m_own 98) 44 = some (7, 18) := by decide +kernel
theorem f98_47 : m_fl (m_own 98) 47 = some (7, 20) := by decide +kernel
theorem f98_50 : m_fl (m_own 98) 50 = some (7, 21) := by decide +kernel
theorem f98_53 : m_fl (m_own 98) 53 = some (7, 26) := by decide +kernel
theorem f98_56 : m_fl (m_own 98) 56 = some (7, 27) := by decide +kernel
theorem f98_59 : m_fl (m_own 98) 59 = some (7, 28) := by decide +kernel
theorem f98_62 : m_fl (m_own 98) 62 = some (7, 29) := by decide +kernel
theorem k98_1 : m_ml (m_own 98) 1 = some (5, 0) := by decide +kernel
theorem k98_65 : m_ml (m_own 98) 65 = some (0, 99) := by decide +kernel
theorem k98_68 : m_ml (m_own 98) 68 = some (0, 100) := by decide +kernel
theorem g99_0 : m_get 99 0 = some (.aload_n 0, 1) := by decide +kernel
theorem g99_1 : m_get 99 1 = some (.iconst 0, 1) := by decide +kernel
theorem g99_2 : m_get 99 2 = some (.putfield 71, 3) := by decide +kernel
theorem g99_5 : m_get 99 5 = some (.aload_n 0, 1) := by decide +kernel
theorem g99_6 : m_get 99 6 = some (.getfield 29, 3) := by decide +kernel
theorem g99_9 : m_get 99 9 = some (.iconst 0, 1) := by decide +kernel
theorem g99_10 : m_get 99 10 = some (.iconst 2, 1) := by decide +kernel
theorem g99_11 : m_get 99 11 = some (.iastore, 1) := by decide +kernel
theorem g99_12 : m_get 99 12 = some (.aload_n 0, 1) := by decide +kernel
theorem g99_13 : m_get 99 13 = some (.getfield 29, 3) := by decide +kernel
theorem g99_16 : m_get 99 16 = some (.iconst 1, 1) := by decide +kernel
theorem g99_17 : m_get 99 17 = some (.iconst 2, 1) := by decide +kernel
theorem g99_18 : m_get 99 18 = some (.iastore, 1) := by decide +kernel
theorem g99_19 : m_get 99 19 = some (.aload_n 0, 1) := by decide +kernel
theorem g99_20 : m_get 99 20 = some (.getfield 29, 3) := by decide +kernel
theorem g99_23 : m_get 99 23 = some (.iconst 2, 1) := by decide +kernel
theorem g99_24 : m_get 99 24 = some (.bipush (-9), 2) := by decide +kernel
theorem g99_26 : m_get 99 26 = some (.iastore, 1) := by decide +kernel
theorem g99_27 : m_get 99 27 = some (.aload_n 0, 1) := by decide +kernel
theorem g99_28 : m_get 99 28 = some (.getfield 29, 3) := by decide +kernel
theorem g99_31 : m_get 99 31 = some (.iconst 3, 1) := by decide +kernel
theorem g99_32 : m_get 99 32 = some (.bipush 9, 2) := by decide +kernel
theorem g99_34 : m_get 99 34 = some (.iastore, 1) := by decide +kernel
theorem g99_35 : m_get 99 35 = some (.aload_n 0, 1) := by decide +kernel
theorem g99_36 : m_get 99 36 = some (.getfield 29, 3) := by decide +kernel
theorem g99_39 : m_get 99 39 = some (.iconst 4, 1) := by decide +kernel
theorem g99_40 : m_get 99 40 = some (.iconst 4, 1) := by decide +kernel
theorem g99_41 : m_get 99 41 = some (.iastore, 1) := by decide +kernel
theorem g99_42 : m_get 99 42 = some (.aload_n 0, 1) := by decide +kernel
theorem g99_43 : m_get 99 43 = some (.getfield 29, 3) := by decide +kernel
theorem g99_46 : m_get 99 46 = some (.iconst 5, 1) := by decide +kernel
theorem g99_47 : m_get 99 47 = some (.iconst 1, 1) := by decide +kernel
theorem g99_48 : m_get 99 48 = some (.iastore, 1) := by decide +kernel
theorem g99_49 : m_get 99 49 = some (.return_, 1) := by decide +kernel
theorem f99_29 : m_fl (m_own 99) 29 = some (7, 9) := by decide +kernel
theorem f99_71 : m_fl (m_own 99) 71 = some (7, 8) := by decide +kernel
theorem g100_0 : m_get 100 0 = some (.aload_n 0, 1) := by decide +kernel
theorem g100_1 : m_get 100 1 = some (.aload_n 0, 1) := by decide +kernel
theorem g100_2 : m_get 100 2 = some (.getfield 71, 3) := by decide +kernel
theorem g100_5 : m_get 100 5 = some (.putfield 75, 3) := by decide +kernel
theorem g100_8 : m_get 100 8 = some (.iconst 0, 1) := by decide +kernel
theorem g100_9 : m_get 100 9 = some (.istore_n 1, 1) := by decide +kernel
theorem g100_10 : m_get 100 10 = some (.iload_n 1, 1) := by decide +kernel
theorem g100_11 : m_get 100 11 = some (.bipush 6, 2) := by decide +kernel
theorem g100_13 : m_get 100 13 = some (.if_icmp .ge 21, 3) := by decide +kernel
theorem g100_16 : m_get 100 16 = some (.aload_n 0, 1) := by decide +kernel
theorem g100_17 : m_get 100 17 = some (.getfield 7, 3) := by decide +kernel
theorem g100_20 : m_get 100 20 = some (.iload_n 1, 1) := by decide +kernel
theorem g100_21 : m_get 100 21 = some (.aload_n 0, 1) := by decide +kernel
theorem g100_22 : m_get 100 22 = some (.getfield 29, 3) := by decide +kernel
theorem g100_25 : m_get 100 25 = some (.iload_n 1, 1) := by decide +kernel
theorem g100_26 : m_get 100 26 = some (.iaload, 1) := by decide +kernel
theorem g100_27 : m_get 100 27 = some (.iastore, 1) := by decide +kernel
theorem g100_28 : m_get 100 28 = some (.iinc 1 1, 3) := by decide +kernel
theorem g100_31 : m_get 100 31 = some (.goto (-21), 3) := by decide +kernel
theorem g100_34 : m_get 100 34 = some (.iconst 0, 1) := by decide +kernel
theorem g100_35 : m_get 100 35 = some (.istore_n 1, 1) := by decide +kernel
theorem g100_36 : m_get 100 36 = some (.iload_n 1, 1) := by decide +kernel
theorem g100_37 : m_get 100 37 = some (.bipush 30, 2) := by decide +kernel
theorem g100_39 : m_get 100 39 = some (.if_icmp .ge 21, 3) := by decide +kernel
theorem g100_42 : m_get 100 42 = some (.aload_n 0, 1) := by decide +kernel
theorem g100_43 : m_get 100 43 = some (.getfield 13, 3) := by decide +kernel
theorem g100_46 : m_get 100 46 = some (.iload_n 1, 1) := by decide +kernel
theorem g100_47 : m_get 100 47 = some (.aload_n 0, 1) := by decide +kernel
theorem g100_48 : m_get 100 48 = some (.getfield 32, 3) := by decide +kernel
theorem g100_51 : m_get 100 51 = some (.iload_n 1, 1) := by decide +kernel
theorem g100_52 : m_get 100 52 = some (.iaload, 1) := by decide +kernel
theorem g100_53 : m_get 100 53 = some (.iastore, 1) := by decide +kernel
theorem g100_54 : m_get 100 54 = some (.iinc 1 1, 3) := by decide +kernel
theorem g100_57 : m_get 100 57 = some (.goto (-21), 3) := by decide +kernel
theorem g100_60 : m_get 100 60 = some (.iconst 0, 1) := by decide +kernel
theorem g100_61 : m_get 100 61 = some (.istore_n 1, 1) := by decide +kernel
theorem g100_62 : m_get 100 62 = some (.iload_n 1, 1) := by decide +kernel
theorem g100_63 : m_get 100 63 = some (.bipush 9, 2) := by decide +kernel
theorem g100_65 : m_get 100 65 = some (.if_icmp .ge 17, 3) := by decide +kernel
theorem g100_68 : m_get 100 68 = some (.aload_n 0, 1) := by decide +kernel
theorem g100_69 : m_get 100 69 = some (.getfield 16, 3) := by decide +kernel
theorem g100_72 : m_get 100 72 = some (.iload_n 1, 1) := by decide +kernel
theorem g100_73 : m_get 100 73 = some (.bipush (-9), 2) := by decide +kernel
theorem g100_75 : m_get 100 75 = some (.iastore, 1) := by decide +kernel
theorem g100_76 : m_get 100 76 = some (.iinc 1 1, 3) := by decide +kernel
theorem g100_79 : m_get 100 79 = some (.goto (-17), 3) := by decide +kernel
theorem g100_82 : m_get 100 82 = some (.iconst 0, 1) := by decide +kernel
theorem g100_83 : m_get 100 83 = some (.istore_n 1, 1) := by decide +kernel
theorem g100_84 : m_get 100 84 = some (.iload_n 1, 1) := by decide +kernel
theorem g100_85 : m_get 100 85 = some (.bipush 6, 2) := by decide +kernel
theorem g100_87 : m_get 100 87 = some (.if_icmp .ge 36, 3) := by decide +kernel
theorem g100_90 : m_get 100 90 = some (.aload_n 0, 1) := by decide +kernel
theorem g100_91 : m_get 100 91 = some (.getfield 16, 3) := by decide +kernel
theorem g100_94 : m_get 100 94 = some (.bipush 9, 2) := by decide +kernel
theorem g100_96 : m_get 100 96 = some (.iload_n 1, 1) := by decide +kernel
theorem g100_97 : m_get 100 97 = some (.iadd, 1) := by decide +kernel
theorem g100_98 : m_get 100 98 = some (.iload_n 1, 1) := by decide +kernel
theorem g100_99 : m_get 100 99 = some (.aload_n 0, 1) := by decide +kernel
theorem g100_100 : m_get 100 100 = some (.getfield 75, 3) := by decide +kernel
theorem g100_103 : m_get 100 103 = some (.if_icmp .ge 12, 3) := by decide +kernel
theorem g100_106 : m_get 100 106 = some (.aload_n 0, 1) := by decide +kernel
theorem g100_107 : m_get 100 107 = some (.getfield 35, 3) := by decide +kernel
theorem g100_110 : m_get 100 110 = some (.iload_n 1, 1) := by decide +kernel
theorem g100_111 : m_get 100 111 = some (.iaload, 1) := by decide +kernel
theorem g100_112 : m_get 100 112 = some (.goto 4, 3) := by decide +kernel
theorem g100_115 : m_get 100 115 = some (.iconst 0, 1) := by decide +kernel
theorem g100_116 : m_get 100 116 = some (.iastore, 1) := by decide +kernel
theorem g100_117 : m_get 100 117 = some (.iinc 1 1, 3) := by decide +kernel
theorem g100_120 : m_get 100 120 = some (.goto (-36), 3) := by decide +kernel
theorem g100_123 : m_get 100 123 = some (.aload_n 0, 1) := by decide +kernel
theorem g100_124 : m_get 100 124 = some (.iconst 0, 1) := by decide +kernel
theorem g100_125 : m_get 100 125 = some (.putfield 78, 3) := by decide +kernel
theorem g100_128 : m_get 100 128 = some (.aload_n 0, 1) := by decide +kernel
theorem g100_129 : m_get 100 129 = some (.getfield 22, 3) := by decide +kernel
theorem g100_132 : m_get 100 132 = some (.iconst 0, 1) := by decide +kernel
theorem g100_133 : m_get 100 133 = some (.iconst 0, 1) := by decide +kernel
theorem g100_134 : m_get 100 134 = some (.bastore, 1) := by decide +kernel
theorem g100_135 : m_get 100 135 = some (.aload_n 0, 1) := by decide +kernel
theorem g100_136 : m_get 100 136 = some (.getfield 22, 3) := by decide +kernel
theorem g100_139 : m_get 100 139 = some (.iconst 1, 1) := by decide +kernel
theorem g100_140 : m_get 100 140 = some (.iconst 0, 1) := by decide +kernel
theorem g100_141 : m_get 100 141 = some (.bastore, 1) := by decide +kernel
theorem g100_142 : m_get 100 142 = some (.return_, 1) := by decide +kernel
theorem f100_7 : m_fl (m_own 100) 7 = some (7, 1) := by decide +kernel
theorem f100_13 : m_fl (m_own 100) 13 = some (7, 2) := by decide +kernel
theorem f100_16 : m_fl (m_own 100) 16 = some (7, 3) := by decide +kernel
theorem f100_22 : m_fl (m_own 100) 22 = some (7, 6) := by decide +kernel
theorem f100_29 : m_fl (m_own 100) 29 = some (7, 9) := by decide +kernel
theorem f100_32 : m_fl (m_own 100) 32 = some (7, 10) := by decide +kernel
theorem f100_35 : m_fl (m_own 100) 35 = some (7, 11) := by decide +kernel
theorem f100_71 : m_fl (m_own 100) 71 = some (7, 8) := by decide +kernel
theorem f100_75 : m_fl (m_own 100) 75 = some (7, 0) := by decide +kernel
theorem f100_78 : m_fl (m_own 100) 78 = some (7, 4) := by decide +kernel
theorem g101_0 : m_get 101 0 = some (.iload_n 1, 1) := by decide +kernel
theorem g101_1 : m_get 101 1 = some (.iconst 0, 1) := by decide +kernel
theorem g101_2 : m_get 101 2 = some (.sipush 255, 3) := by decide +kernel
theorem g101_5 : m_get 101 5 = some (.invokestatic 81, 3) := by decide +kernel
theorem g101_8 : m_get 101 8 = some (.ifCond .ne 5, 3) := by decide +kernel
theorem g101_11 : m_get 101 11 = some (.iconst (-1), 1) := by decide +kernel
theorem g101_12 : m_get 101 12 = some (.ireturn, 1) := by decide +kernel
theorem g101_13 : m_get 101 13 = some (.aload_n 0, 1) := by decide +kernel
theorem g101_14 : m_get 101 14 = some (.getfield 85, 3) := by decide +kernel
theorem g101_17 : m_get 101 17 = some (.bipush 120, 2) := by decide +kernel
theorem g101_19 : m_get 101 19 = some (.if_icmp .ne 6, 3) := by decide +kernel
theorem g101_22 : m_get 101 22 = some (.bipush (-3), 2) := by decide +kernel
theorem g101_24 : m_get 101 24 = some (.ireturn, 1) := by decide +kernel
theorem g101_25 : m_get 101 25 = some (.aload_n 0, 1) := by decide +kernel
theorem g101_26 : m_get 101 26 = some (.getfield 38, 3) := by decide +kernel
theorem g101_29 : m_get 101 29 = some (.aload_n 0, 1) := by decide +kernel
theorem g101_30 : m_get 101 30 = some (.getfield 85, 3) := by decide +kernel
theorem g101_33 : m_get 101 33 = some (.iload_n 1, 1) := by decide +kernel
theorem g101_34 : m_get 101 34 = some (.iastore, 1) := by decide +kernel
theorem g101_35 : m_get 101 35 = some (.aload_n 0, 1) := by decide +kernel
theorem g101_36 : m_get 101 36 = some (.dup, 1) := by decide +kernel
theorem g101_37 : m_get 101 37 = some (.getfield 85, 3) := by decide +kernel
theorem g101_40 : m_get 101 40 = some (.iconst 1, 1) := by decide +kernel
theorem g101_41 : m_get 101 41 = some (.iadd, 1) := by decide +kernel
theorem g101_42 : m_get 101 42 = some (.putfield 85, 3) := by decide +kernel
theorem g101_45 : m_get 101 45 = some (.aload_n 0, 1) := by decide +kernel
theorem g101_46 : m_get 101 46 = some (.getfield 85, 3) := by decide +kernel
theorem g101_49 : m_get 101 49 = some (.ireturn, 1) := by decide +kernel
theorem f101_38 : m_fl (m_own 101) 38 = some (7, 13) := by decide +kernel
theorem f101_85 : m_fl (m_own 101) 85 = some (7, 12) := by decide +kernel
theorem k101_81 : m_ml (m_own 101) 81 = some (1, 97) := by decide +kernel
theorem g102_0 : m_get 102 0 = some (.aload_n 0, 1) := by decide +kernel
theorem g102_1 : m_get 102 1 = some (.getfield 85, 3) := by decide +kernel
theorem g102_4 : m_get 102 4 = some (.istore_n 1, 1) := by decide +kernel
theorem g102_5 : m_get 102 5 = some (.aload_n 0, 1) := by decide +kernel
theorem g102_6 : m_get 102 6 = some (.iconst 0, 1) := by decide +kernel
theorem g102_7 : m_get 102 7 = some (.putfield 85, 3) := by decide +kernel
theorem g102_10 : m_get 102 10 = some (.iload_n 1, 1) := by decide +kernel
theorem g102_11 : m_get 102 11 = some (.ireturn, 1) := by decide +kernel
theorem f102_85 : m_fl (m_own 102) 85 = some (7, 12) := by decide +kernel
theorem g103_0 : m_get 103 0 = some (.aload_n 0, 1) := by decide +kernel
theorem g103_1 : m_get 103 1 = some (.getfield 88, 3) := by decide +kernel
theorem g103_4 : m_get 103 4 = some (.aload_n 0, 1) := by decide +kernel
theorem g103_5 : m_get 103 5 = some (.getfield 85, 3) := by decide +kernel
theorem g103_8 : m_get 103 8 = some (.if_icmp .ge 30, 3) := by decide +kernel
theorem g103_11 : m_get 103 11 = some (.aload_n 0, 1) := by decide +kernel
theorem g103_12 : m_get 103 12 = some (.getfield 38, 3) := by decide +kernel
theorem g103_15 : m_get 103 15 = some (.aload_n 0, 1) := by decide +kernel
theorem g103_16 : m_get 103 16 = some (.getfield 88, 3) := by decide +kernel
theorem g103_19 : m_get 103 19 = some (.iaload, 1) := by decide +kernel
theorem g103_20 : m_get 103 20 = some (.bipush 32, 2) := by decide +kernel
theorem g103_22 : m_get 103 22 = some (.if_icmp .ne 16, 3) := by decide +kernel
theorem g103_25 : m_get 103 25 = some (.aload_n 0, 1) := by decide +kernel
theorem g103_26 : m_get 103 26 = some (.dup, 1) := by decide +kernel
theorem g103_27 : m_get 103 27 = some (.getfield 88, 3) := by decide +kernel
theorem g103_30 : m_get 103 30 = some (.iconst 1, 1) := by decide +kernel
theorem g103_31 : m_get 103 31 = some (.iadd, 1) := by decide +kernel
theorem g103_32 : m_get 103 32 = some (.putfield 88, 3) := by decide +kernel
theorem g103_35 : m_get 103 35 = some (.goto (-35), 3) := by decide +kernel
theorem g103_38 : m_get 103 38 = some (.aload_n 0, 1) := by decide +kernel
theorem g103_39 : m_get 103 39 = some (.getfield 88, 3) := by decide +kernel
theorem g103_42 : m_get 103 42 = some (.aload_n 0, 1) := by decide +kernel
theorem g103_43 : m_get 103 43 = some (.getfield 85, 3) := by decide +kernel
theorem g103_46 : m_get 103 46 = some (.if_icmp .ge 15, 3) := by decide +kernel
theorem g103_49 : m_get 103 49 = some (.aload_n 0, 1) := by decide +kernel
theorem g103_50 : m_get 103 50 = some (.getfield 38, 3) := by decide +kernel
theorem g103_53 : m_get 103 53 = some (.aload_n 0, 1) := by decide +kernel
theorem g103_54 : m_get 103 54 = some (.getfield 88, 3) := by decide +kernel
theorem g103_57 : m_get 103 57 = some (.iaload, 1) := by decide +kernel
theorem g103_58 : m_get 103 58 = some (.goto 4, 3) := by decide +kernel
theorem g103_61 : m_get 103 61 = some (.iconst (-1), 1) := by decide +kernel
theorem g103_62 : m_get 103 62 = some (.ireturn, 1) := by decide +kernel
theorem f103_38 : m_fl (m_own 103) 38 = some (7, 13) := by decide +kernel
theorem f103_85 : m_fl (m_own 103) 85 = some (7, 12) := by decide +kernel
theorem f103_88 : m_fl (m_own 103) 88 = some (7, 14) := by decide +kernel
theorem g104_0 : m_get 104 0 = some (.aload_n 0, 1) := by decide +kernel
theorem g104_1 : m_get 104 1 = some (.invokevirtual 91, 3) := by decide +kernel
theorem g104_4 : m_get 104 4 = some (.istore_n 3, 1) := by decide +kernel
theorem g104_5 : m_get 104 5 = some (.aload_n 0, 1) := by decide +kernel
theorem g104_6 : m_get 104 6 = some (.getfield 88, 3) := by decide +kernel
theorem g104_9 : m_get 104 9 = some (.istore 4, 2) := by decide +kernel
theorem g104_11 : m_get 104 11 = some (.iconst 0, 1) := by decide +kernel
theorem g104_12 : m_get 104 12 = some (.istore 5, 2) := by decide +kernel
theorem g104_14 : m_get 104 14 = some (.iload 4, 2) := by decide +kernel
theorem g104_16 : m_get 104 16 = some (.aload_n 0, 1) := by decide +kernel
theorem g104_17 : m_get 104 17 = some (.getfield 85, 3) := by decide +kernel
theorem g104_20 : m_get 104 20 = some (.if_icmp .ge 56, 3) := by decide +kernel
theorem g104_23 : m_get 104 23 = some (.aload_n 0, 1) := by decide +kernel
theorem g104_24 : m_get 104 24 = some (.getfield 38, 3) := by decide +kernel
theorem g104_27 : m_get 104 27 = some (.iload 4, 2) := by decide +kernel
theorem g104_29 : m_get 104 29 = some (.iaload, 1) := by decide +kernel
theorem g104_30 : m_get 104 30 = some (.bipush 48, 2) := by decide +kernel
theorem g104_32 : m_get 104 32 = some (.bipush 57, 2) := by decide +kernel
theorem g104_34 : m_get 104 34 = some (.invokestatic 81, 3) := by decide +kernel
theorem g104_37 : m_get 104 37 = some (.ifCond .eq 39, 3) := by decide +kernel
theorem g104_40 : m_get 104 40 = some (.iload 5, 2) := by decide +kernel
theorem g104_42 : m_get 104 42 = some (.bipush 99, 2) := by decide +kernel
theorem g104_44 : m_get 104 44 = some (.if_icmp .le 8, 3) := by decide +kernel
theorem g104_47 : m_get 104 47 = some (.iload 5, 2) := by decide +kernel
theorem g104_49 : m_get 104 49 = some (.goto 19, 3) := by decide +kernel
theorem g104_52 : m_get 104 52 = some (.bipush 10, 2) := by decide +kernel
theorem g104_54 : m_get 104 54 = some (.iload 5, 2) := by decide +kernel
theorem g104_56 : m_get 104 56 = some (.imul, 1) := by decide +kernel
theorem g104_57 : m_get 104 57 = some (.aload_n 0, 1) := by decide +kernel
theorem g104_58 : m_get 104 58 = some (.getfield 38, 3) := by decide +kernel
theorem g104_61 : m_get 104 61 = some (.iload 4, 2) := by decide +kernel
theorem g104_63 : m_get 104 63 = some (.iaload, 1) := by decide +kernel
theorem g104_64 : m_get 104 64 = some (.iadd, 1) := by decide +kernel
theorem g104_65 : m_get 104 65 = some (.bipush 48, 2) := by decide +kernel
theorem g104_67 : m_get 104 67 = some (.isub, 1) := by decide +kernel
theorem g104_68 : m_get 104 68 = some (.istore 5, 2) := by decide +kernel
theorem g104_70 : m_get 104 70 = some (.iinc 4 1, 3) := by decide +kernel
theorem g104_73 : m_get 104 73 = some (.goto (-59), 3) := by decide +kernel
theorem g104_76 : m_get 104 76 = some (.iload 4, 2) := by decide +kernel
theorem g104_78 : m_get 104 78 = some (.aload_n 0, 1) := by decide +kernel
theorem g104_79 : m_get 104 79 = some (.getfield 88, 3) := by decide +kernel
theorem g104_82 : m_get 104 82 = some (.if_icmp .le 34, 3) := by decide +kernel
theorem g104_85 : m_get 104 85 = some (.iload_n 3, 1) := by decide +kernel
theorem g104_86 : m_get 104 86 = some (.bipush 48, 2) := by decide +kernel
theorem g104_88 : m_get 104 88 = some (.if_icmp .ne 14, 3) := by decide +kernel
theorem g104_91 : m_get 104 91 = some (.iload 4, 2) := by decide +kernel
theorem g104_93 : m_get 104 93 = some (.aload_n 0, 1) := by decide +kernel
theorem g104_94 : m_get 104 94 = some (.getfield 88, 3) := by decide +kernel
theorem g104_97 : m_get 104 97 = some (.iconst 1, 1) := by decide +kernel
theorem g104_98 : m_get 104 98 = some (.iadd, 1) := by decide +kernel
theorem g104_99 : m_get 104 99 = some (.if_icmp .ne 17, 3) := by decide +kernel
theorem g104_102 : m_get 104 102 = some (.iload 5, 2) := by decide +kernel
theorem g104_104 : m_get 104 104 = some (.iload_n 1, 1) := by decide +kernel
theorem g104_105 : m_get 104 105 = some (.iload_n 2, 1) := by decide +kernel
theorem g104_106 : m_get 104 106 = some (.invokestatic 81, 3) := by decide +kernel
theorem g104_109 : m_get 104 109 = some (.ifCond .eq 7, 3) := by decide +kernel
theorem g104_112 : m_get 104 112 = some (.iconst 1, 1) := by decide +kernel
theorem g104_113 : m_get 104 113 = some (.goto 4, 3) := by decide +kernel
theorem g104_116 : m_get 104 116 = some (.iconst 0, 1) := by decide +kernel
theorem g104_117 : m_get 104 117 = some (.istore 6, 2) := by decide +kernel
theorem g104_119 : m_get 104 119 = some (.aload_n 0, 1) := by decide +kernel
theorem g104_120 : m_get 104 120 = some (.iload 6, 2) := by decide +kernel
theorem g104_122 : m_get 104 122 = some (.ifCond .eq 8, 3) := by decide +kernel
theorem g104_125 : m_get 104 125 = some (.iload 4, 2) := by decide +kernel
theorem g104_127 : m_get 104 127 = some (.goto 7, 3) := by decide +kernel
theorem g104_130 : m_get 104 130 = some (.aload_n 0, 1) := by decide +kernel
theorem g104_131 : m_get 104 131 = some (.getfield 88, 3) := by decide +kernel
theorem g104_134 : m_get 104 134 = some (.putfield 88, 3) := by decide +kernel
theorem g104_137 : m_get 104 137 = some (.aload_n 0, 1) := by decide +kernel
theorem g104_138 : m_get 104 138 = some (.iload 5, 2) := by decide +kernel
theorem g104_140 : m_get 104 140 = some (.putfield 95, 3) := by decide +kernel
theorem g104_143 : m_get 104 143 = some (.iload 6, 2) := by decide +kernel
theorem g104_145 : m_get 104 145 = some (.ireturn, 1) := by decide +kernel
theorem f104_38 : m_fl (m_own 104) 38 = some (7, 13) := by decide +kernel
theorem f104_85 : m_fl (m_own 104) 85 = some (7, 12) := by decide +kernel
theorem f104_88 : m_fl (m_own 104) 88 = some (7, 14) := by decide +kernel
theorem f104_95 : m_fl (m_own 104) 95 = some (7, 15) := by decide +kernel
theorem k104_81 : m_ml (m_own 104) 81 = some (1, 97) := by decide +kernel
theorem k104_91 : m_ml (m_own 104) 91 = some (0, 103) := by decide +kernel
theorem g105_0 : m_get 105 0 = some (.aload_n 0, 1) := by decide +kernel
theorem g105_1 : m_get 105 1 = some (.getfield 71, 3) := by decide +kernel
theorem g105_4 : m_get 105 4 = some (.bipush 6, 2) := by decide +kernel
theorem g105_6 : m_get 105 6 = some (.if_icmp .ne 5, 3) := by decide +kernel
theorem g105_9 : m_get 105 9 = some (.iconst 0, 1) := by decide +kernel
theorem g105_10 : m_get 105 10 = some (.ireturn, 1) := by decide +kernel
theorem g105_11 : m_get 105 11 = some (.aload_n 0, 1) := by decide +kernel
theorem g105_12 : m_get 105 12 = some (.dup, 1) := by decide +kernel
theorem g105_13 : m_get 105 13 = some (.getfield 88, 3) := by decide +kernel
theorem g105_16 : m_get 105 16 = some (.iconst 1, 1) := by decide +kernel
theorem g105_17 : m_get 105 17 = some (.iadd, 1) := by decide +kernel
theorem g105_18 : m_get 105 18 = some (.putfield 88, 3) := by decide +kernel
theorem g105_21 : m_get 105 21 = some (.iconst 0, 1) := by decide +kernel
theorem g105_22 : m_get 105 22 = some (.istore_n 1, 1) := by decide +kernel
theorem g105_23 : m_get 105 23 = some (.iload_n 1, 1) := by decide +kernel
theorem g105_24 : m_get 105 24 = some (.bipush 6, 2) := by decide +kernel
theorem g105_26 : m_get 105 26 = some (.if_icmp .ge 68, 3) := by decide +kernel
theorem g105_29 : m_get 105 29 = some (.aload_n 0, 1) := by decide +kernel
theorem g105_30 : m_get 105 30 = some (.iconst 0, 1) := by decide +kernel
theorem g105_31 : m_get 105 31 = some (.iload_n 1, 1) := by decide +kernel
theorem g105_32 : m_get 105 32 = some (.iconst 4, 1) := by decide +kernel
theorem g105_33 : m_get 105 33 = some (.if_icmp .ne 7, 3) := by decide +kernel
theorem g105_36 : m_get 105 36 = some (.iconst 5, 1) := by decide +kernel
theorem g105_37 : m_get 105 37 = some (.goto 5, 3) := by decide +kernel
theorem g105_40 : m_get 105 40 = some (.bipush 9, 2) := by decide +kernel
theorem g105_42 : m_get 105 42 = some (.invokevirtual 98, 3) := by decide +kernel
theorem g105_45 : m_get 105 45 = some (.ifCond .ne 5, 3) := by decide +kernel
theorem g105_48 : m_get 105 48 = some (.iconst 0, 1) := by decide +kernel
theorem g105_49 : m_get 105 49 = some (.ireturn, 1) := by decide +kernel
theorem g105_50 : m_get 105 50 = some (.iload_n 1, 1) := by decide +kernel
theorem g105_51 : m_get 105 51 = some (.iconst 5, 1) := by decide +kernel
theorem g105_52 : m_get 105 52 = some (.if_icmp .ge 23, 3) := by decide +kernel
theorem g105_55 : m_get 105 55 = some (.aload_n 0, 1) := by decide +kernel
theorem g105_56 : m_get 105 56 = some (.getfield 32, 3) := by decide +kernel
theorem g105_59 : m_get 105 59 = some (.iconst 5, 1) := by decide +kernel
theorem g105_60 : m_get 105 60 = some (.aload_n 0, 1) := by decide +kernel
theorem g105_61 : m_get 105 61 = some (.getfield 71, 3) := by decide +kernel
theorem g105_64 : m_get 105 64 = some (.imul, 1) := by decide +kernel
theorem g105_65 : m_get 105 65 = some (.iload_n 1, 1) := by decide +kernel
theorem g105_66 : m_get 105 66 = some (.iadd, 1) := by decide +kernel
theorem g105_67 : m_get 105 67 = some (.aload_n 0, 1) := by decide +kernel
theorem g105_68 : m_get 105 68 = some (.getfield 95, 3) := by decide +kernel
theorem g105_71 : m_get 105 71 = some (.iastore, 1) := by decide +kernel
theorem g105_72 : m_get 105 72 = some (.goto 16, 3) := by decide +kernel
theorem g105_75 : m_get 105 75 = some (.aload_n 0, 1) := by decide +kernel
theorem g105_76 : m_get 105 76 = some (.getfield 35, 3) := by decide +kernel
theorem g105_79 : m_get 105 79 = some (.aload_n 0, 1) := by decide +kernel
theorem g105_80 : m_get 105 80 = some (.getfield 71, 3) := by decide +kernel
theorem g105_83 : m_get 105 83 = some (.aload_n 0, 1) := by decide +kernel
theorem g105_84 : m_get 105 84 = some (.getfield 95, 3) := by decide +kernel
theorem g105_87 : m_get 105 87 = some (.iastore, 1) := by decide +kernel
theorem g105_88 : m_get 105 88 = some (.iinc 1 1, 3) := by decide +kernel
theorem g105_91 : m_get 105 91 = some (.goto (-68), 3) := by decide +kernel
theorem g105_94 : m_get 105 94 = some (.aload_n 0, 1) := by decide +kernel
theorem g105_95 : m_get 105 95 = some (.dup, 1) := by decide +kernel
theorem g105_96 : m_get 105 96 = some (.getfield 71, 3) := by decide +kernel
theorem g105_99 : m_get 105 99 = some (.iconst 1, 1) := by decide +kernel
theorem g105_100 : m_get 105 100 = some (.iadd, 1) := by decide +kernel
theorem g105_101 : m_get 105 101 = some (.putfield 71, 3) := by decide +kernel
theorem g105_104 : m_get 105 104 = some (.iconst 1, 1) := by decide +kernel
theorem g105_105 : m_get 105 105 = some (.ireturn, 1) := by decide +kernel
theorem f105_32 : m_fl (m_own 105) 32 = some (7, 10) := by decide +kernel
theorem f105_35 : m_fl (m_own 105) 35 = some (7, 11) := by decide +kernel
theorem f105_71 : m_fl (m_own 105) 71 = some (7, 8) := by decide +kernel
theorem f105_88 : m_fl (m_own 105) 88 = some (7, 14) := by decide +kernel
theorem f105_95 : m_fl (m_own 105) 95 = some (7, 15) := by decide +kernel
theorem k105_98 : m_ml (m_own 105) 98 = some (0, 104) := by decide +kernel
theorem g106_0 : m_get 106 0 = some (.aload_n 0, 1) := by decide +kernel
theorem g106_1 : m_get 106 1 = some (.getfield 102, 3) := by decide +kernel
theorem g106_4 : m_get 106 4 = some (.iload_n 1, 1) := by decide +kernel
theorem g106_5 : m_get 106 5 = some (.iand, 1) := by decide +kernel
theorem g106_6 : m_get 106 6 = some (.ifCond .eq 5, 3) := by decide +kernel
theorem g106_9 : m_get 106 9 = some (.iconst 0, 1) := by decide +kernel
theorem g106_10 : m_get 106 10 = some (.ireturn, 1) := by decide +kernel
theorem g106_11 : m_get 106 11 = some (.aload_n 0, 1) := by decide +kernel
theorem g106_12 : m_get 106 12 = some (.dup, 1) := by decide +kernel
theorem g106_13 : m_get 106 13 = some (.getfield 102, 3) := by decide +kernel
theorem g106_16 : m_get 106 16 = some (.iload_n 1, 1) := by decide +kernel
theorem g106_17 : m_get 106 17 = some (.ior, 1) := by decide +kernel
theorem g106_18 : m_get 106 18 = some (.putfield 102, 3) := by decide +kernel
theorem g106_21 : m_get 106 21 = some (.aload_n 0, 1) := by decide +kernel
theorem g106_22 : m_get 106 22 = some (.dup, 1) := by decide +kernel
theorem g106_23 : m_get 106 23 = some (.getfield 88, 3) := by decide +kernel
theorem g106_26 : m_get 106 26 = some (.iconst 1, 1) := by decide +kernel
theorem g106_27 : m_get 106 27 = some (.iadd, 1) := by decide +kernel
theorem g106_28 : m_get 106 28 = some (.putfield 88, 3) := by decide +kernel
theorem g106_31 : m_get 106 31 = some (.aload_n 0, 1) := by decide +kernel
theorem g106_32 : m_get 106 32 = some (.iload_n 3, 1) := by decide +kernel
theorem g106_33 : m_get 106 33 = some (.iload 4, 2) := by decide +kernel
theorem g106_35 : m_get 106 35 = some (.invokevirtual 98, 3) := by decide +kernel
theorem g106_38 : m_get 106 38 = some (.ifCond .ne 5, 3) := by decide +kernel
theorem g106_41 : m_get 106 41 = some (.iconst 0, 1) := by decide +kernel
theorem g106_42 : m_get 106 42 = some (.ireturn, 1) := by decide +kernel
theorem g106_43 : m_get 106 43 = some (.aload_n 0, 1) := by decide +kernel
theorem g106_44 : m_get 106 44 = some (.getfield 29, 3) := by decide +kernel
theorem g106_47 : m_get 106 47 = some (.iload_n 2, 1) := by decide +kernel
theorem g106_48 : m_get 106 48 = some (.aload_n 0, 1) := by decide +kernel
theorem g106_49 : m_get 106 49 = some (.getfield 95, 3) := by decide +kernel
theorem g106_52 : m_get 106 52 = some (.iastore, 1) := by decide +kernel
theorem g106_53 : m_get 106 53 = some (.iload 5, 2) := by decide +kernel
theorem g106_55 : m_get 106 55 = some (.ifCond .ne 5, 3) := by decide +kernel
theorem g106_58 : m_get 106 58 = some (.iconst 1, 1) := by decide +kernel
theorem g106_59 : m_get 106 59 = some (.ireturn, 1) := by decide +kernel
theorem g106_60 : m_get 106 60 = some (.aload_n 0, 1) := by decide +kernel
theorem g106_61 : m_get 106 61 = some (.iconst 1, 1) := by decide +kernel
theorem g106_62 : m_get 106 62 = some (.iload 5, 2) := by decide +kernel
theorem g106_64 : m_get 106 64 = some (.invokevirtual 98, 3) := by decide +kernel
theorem g106_67 : m_get 106 67 = some (.istore 6, 2) := by decide +kernel
theorem g106_69 : m_get 106 69 = some (.aload_n 0, 1) := by decide +kernel
theorem g106_70 : m_get 106 70 = some (.getfield 29, 3) := by decide +kernel
theorem g106_73 : m_get 106 73 = some (.iload_n 2, 1) := by decide +kernel
theorem g106_74 : m_get 106 74 = some (.iconst 1, 1) := by decide +kernel
theorem g106_75 : m_get 106 75 = some (.iadd, 1) := by decide +kernel
theorem g106_76 : m_get 106 76 = some (.aload_n 0, 1) := by decide +kernel
theorem g106_77 : m_get 106 77 = some (.getfield 95, 3) := by decide +kernel
theorem g106_80 : m_get 106 80 = some (.iastore, 1) := by decide +kernel
theorem g106_81 : m_get 106 81 = some (.iload 6, 2) := by decide +kernel
theorem g106_83 : m_get 106 83 = some (.ireturn, 1) := by decide +kernel
theorem f106_29 : m_fl (m_own 106) 29 = some (7, 9) := by decide +kernel
theorem f106_88 : m_fl (m_own 106) 88 = some (7, 14) := by decide +kernel
theorem f106_95 : m_fl (m_own 106) 95 = some (7, 15) := by decide +kernel
theorem f106_102 : m_fl (m_own 106) 102 = some (7, 16) := by decide +kernel
theorem k106_98 : m_ml (m_own 106) 98 = some (0, 104) := by decide +kernel
theorem g107_0 : m_get 107 0 = some (.aload_n 0, 1) := by decide +kernel
theorem g107_1 : m_get 107 1 = some (.invokevirtual 91, 3) := by decide +kernel
theorem g107_4 : m_get 107 4 = some (.lookupswitch 101 #[(101, 67), (107, 52), (109, 78), (115, 89), (119, 57)], 52) := by decide +kernel
theorem g107_56 : m_get 107 56 = some (.aload_n 0, 1) := by decide +kernel
theorem g107_57 : m_get 107 57 = some (.invokevirtual 105, 3) := by decide +kernel
theorem g107_60 : m_get 107 60 = some (.ireturn, 1) := by decide +kernel
theorem g107_61 : m_get 107 61 = some (.aload_n 0, 1) := by decide +kernel
theorem g107_62 : m_get 107 62 = some (.iconst 1, 1) := by decide +kernel
theorem g107_63 : m_get 107 63 = some (.iconst 0, 1) := by decide +kernel
theorem g107_64 : m_get 107 64 = some (.iconst 1, 1) := by decide +kernel
theorem g107_65 : m_get 107 65 = some (.iconst 3, 1) := by decide +kernel
theorem g107_66 : m_get 107 66 = some (.iconst 2, 1) := by decide +kernel
theorem g107_67 : m_get 107 67 = some (.invokevirtual 109, 3) := by decide +kernel
theorem g107_70 : m_get 107 70 = some (.ireturn, 1) := by decide +kernel
theorem g107_71 : m_get 107 71 = some (.aload_n 0, 1) := by decide +kernel
theorem g107_72 : m_get 107 72 = some (.iconst 2, 1) := by decide +kernel
theorem g107_73 : m_get 107 73 = some (.iconst 2, 1) := by decide +kernel
theorem g107_74 : m_get 107 74 = some (.iconst 0, 1) := by decide +kernel
theorem g107_75 : m_get 107 75 = some (.bipush 9, 2) := by decide +kernel
theorem g107_77 : m_get 107 77 = some (.iconst 0, 1) := by decide +kernel
theorem g107_78 : m_get 107 78 = some (.invokevirtual 109, 3) := by decide +kernel
theorem g107_81 : m_get 107 81 = some (.ireturn, 1) := by decide +kernel
theorem g107_82 : m_get 107 82 = some (.aload_n 0, 1) := by decide +kernel
theorem g107_83 : m_get 107 83 = some (.iconst 4, 1) := by decide +kernel
theorem g107_84 : m_get 107 84 = some (.iconst 3, 1) := by decide +kernel
theorem g107_85 : m_get 107 85 = some (.iconst 1, 1) := by decide +kernel
theorem g107_86 : m_get 107 86 = some (.bipush 9, 2) := by decide +kernel
theorem g107_88 : m_get 107 88 = some (.iconst 0, 1) := by decide +kernel
theorem g107_89 : m_get 107 89 = some (.invokevirtual 109, 3) := by decide +kernel
theorem g107_92 : m_get 107 92 = some (.ireturn, 1) := by decide +kernel
theorem g107_93 : m_get 107 93 = some (.aload_n 0, 1) := by decide +kernel
theorem g107_94 : m_get 107 94 = some (.bipush 8, 2) := by decide +kernel
theorem g107_96 : m_get 107 96 = some (.iconst 4, 1) := by decide +kernel
theorem g107_97 : m_get 107 97 = some (.iconst 1, 1) := by decide +kernel
theorem g107_98 : m_get 107 98 = some (.bipush 9, 2) := by decide +kernel
theorem g107_100 : m_get 107 100 = some (.iconst 4, 1) := by decide +kernel
theorem g107_101 : m_get 107 101 = some (.invokevirtual 109, 3) := by decide +kernel
theorem g107_104 : m_get 107 104 = some (.ireturn, 1) := by decide +kernel
theorem g107_105 : m_get 107 105 = some (.iconst 0, 1) := by decide +kernel
theorem g107_106 : m_get 107 106 = some (.ireturn, 1) := by decide +kernel
theorem k107_91 : m_ml (m_own 107) 91 = some (0, 103) := by decide +kernel
theorem k107_105 : m_ml (m_own 107) 105 = some (0, 105) := by decide +kernel
theorem k107_109 : m_ml (m_own 107) 109 = some (0, 106) := by decide +kernel
theorem g108_0 : m_get 108 0 = some (.aload_n 0, 1) := by decide +kernel
theorem g108_1 : m_get 108 1 = some (.invokevirtual 65, 3) := by decide +kernel
theorem g108_4 : m_get 108 4 = some (.aload_n 0, 1) := by decide +kernel
theorem g108_5 : m_get 108 5 = some (.iconst 0, 1) := by decide +kernel
theorem g108_6 : m_get 108 6 = some (.putfield 102, 3) := by decide +kernel
theorem g108_9 : m_get 108 9 = some (.aload_n 0, 1) := by decide +kernel
theorem g108_10 : m_get 108 10 = some (.iconst 0, 1) := by decide +kernel
theorem g108_11 : m_get 108 11 = some (.putfield 88, 3) := by decide +kernel
theorem g108_14 : m_get 108 14 = some (.iconst 0, 1) := by decide +kernel
theorem g108_15 : m_get 108 15 = some (.istore_n 1, 1) := by decide +kernel
theorem g108_16 : m_get 108 16 = some (.aload_n 0, 1) := by decide +kernel
theorem g108_17 : m_get 108 17 = some (.invokevirtual 91, 3) := by decide +kernel
theorem g108_20 : m_get 108 20 = some (.iconst (-1), 1) := by decide +kernel
theorem g108_21 : m_get 108 21 = some (.if_icmp .eq 43, 3) := by decide +kernel
theorem g108_24 : m_get 108 24 = some (.aload_n 0, 1) := by decide +kernel
theorem g108_25 : m_get 108 25 = some (.invokevirtual 113, 3) := by decide +kernel
theorem g108_28 : m_get 108 28 = some (.ifCond .eq 12, 3) := by decide +kernel
theorem g108_31 : m_get 108 31 = some (.aload_n 0, 1) := by decide +kernel
theorem g108_32 : m_get 108 32 = some (.invokevirtual 91, 3) := by decide +kernel
theorem g108_35 : m_get 108 35 = some (.bipush 59, 2) := by decide +kernel
theorem g108_37 : m_get 108 37 = some (.if_icmp .eq 11, 3) := by decide +kernel
theorem g108_40 : m_get 108 40 = some (.bipush (-10), 2) := by decide +kernel
theorem g108_42 : m_get 108 42 = some (.aload_n 0, 1) := by decide +kernel
theorem g108_43 : m_get 108 43 = some (.getfield 88, 3) := by decide +kernel
theorem g108_46 : m_get 108 46 = some (.isub, 1) := by decide +kernel
theorem g108_47 : m_get 108 47 = some (.ireturn, 1) := by decide +kernel
theorem g108_48 : m_get 108 48 = some (.aload_n 0, 1) := by decide +kernel
theorem g108_49 : m_get 108 49 = some (.dup, 1) := by decide +kernel
theorem g108_50 : m_get 108 50 = some (.getfield 88, 3) := by decide +kernel
theorem g108_53 : m_get 108 53 = some (.iconst 1, 1) := by decide +kernel
theorem g108_54 : m_get 108 54 = some (.iadd, 1) := by decide +kernel
theorem g108_55 : m_get 108 55 = some (.putfield 88, 3) := by decide +kernel
theorem g108_58 : m_get 108 58 = some (.iinc 1 1, 3) := by decide +kernel
theorem g108_61 : m_get 108 61 = some (.goto (-45), 3) := by decide +kernel
theorem g108_64 : m_get 108 64 = some (.aload_n 0, 1) := by decide +kernel
theorem g108_65 : m_get 108 65 = some (.invokevirtual 68, 3) := by decide +kernel
theorem g108_68 : m_get 108 68 = some (.aload_n 0, 1) := by decide +kernel
theorem g108_69 : m_get 108 69 = some (.iconst 0, 1) := by decide +kernel
theorem g108_70 : m_get 108 70 = some (.putfield 85, 3) := by decide +kernel
theorem g108_73 : m_get 108 73 = some (.iload_n 1, 1) := by decide +kernel
theorem g108_74 : m_get 108 74 = some (.ireturn, 1) := by decide +kernel
theorem f108_85 : m_fl (m_own 108) 85 = some (7, 12) := by decide +kernel
theorem f108_88 : m_fl (m_own 108) 88 = some (7, 14) := by decide +kernel
theorem f108_102 : m_fl (m_own 108) 102 = some (7, 16) := by decide +kernel
theorem k108_65 : m_ml (m_own 108) 65 = some (0, 99) := by decide +kernel
theorem k108_68 : m_ml (m_own 108) 68 = some (0, 100) := by decide +kernel
theorem k108_91 : m_ml (m_own 108) 91 = some (0, 103) := by decide +kernel
theorem k108_113 : m_ml (m_own 108) 113 = some (0, 107) := by decide +kernel
theorem g109_0 : m_get 109 0 = some (.iload_n 1, 1) := by decide +kernel
theorem g109_1 : m_get 109 1 = some (.iconst 0, 1) := by decide +kernel
theorem g109_2 : m_get 109 2 = some (.aload_n 0, 1) := by decide +kernel
theorem g109_3 : m_get 109 3 = some (.getfield 75, 3) := by decide +kernel
theorem g109_6 : m_get 109 6 = some (.iconst 1, 1) := by decide +kernel
theorem g109_7 : m_get 109 7 = some (.isub, 1) := by decide +kernel
theorem g109_8 : m_get 109 8 = some (.invokestatic 81, 3) := by decide +kernel
theorem g109_11 : m_get 109 11 = some (.ireturn, 1) := by decide +kernel
theorem f109_75 : m_fl (m_own 109) 75 = some (7, 0) := by decide +kernel
theorem k109_81 : m_ml (m_own 109) 81 = some (1, 97) := by decide +kernel
theorem g110_0 : m_get 110 0 = some (.iload_n 1, 1) := by decide +kernel
theorem g110_1 : m_get 110 1 = some (.iconst 0, 1) := by decide +kernel
theorem g110_2 : m_get 110 2 = some (.iconst 4, 1) := by decide +kernel
theorem g110_3 : m_get 110 3 = some (.aload_n 0, 1) := by decide +kernel
theorem g110_4 : m_get 110 4 = some (.getfield 75, 3) := by decide +kernel
theorem g110_7 : m_get 110 7 = some (.imul, 1) := by decide +kernel
theorem g110_8 : m_get 110 8 = some (.iconst 1, 1) := by decide +kernel
theorem g110_9 : m_get 110 9 = some (.isub, 1) := by decide +kernel
theorem g110_10 : m_get 110 10 = some (.invokestatic 81, 3) := by decide +kernel
theorem g110_13 : m_get 110 13 = some (.ireturn, 1) := by decide +kernel
theorem f110_75 : m_fl (m_own 110) 75 = some (7, 0) := by decide +kernel
theorem k110_81 : m_ml (m_own 110) 81 = some (1, 97) := by decide +kernel
theorem g111_0 : m_get 111 0 = some (.aload_n 0, 1) := by decide +kernel
theorem g111_1 : m_get 111 1 = some (.getfield 7, 3) := by decide +kernel
theorem g111_4 : m_get 111 4 = some (.iconst 0, 1) := by decide +kernel
theorem g111_5 : m_get 111 5 = some (.iaload, 1) := by decide +kernel
theorem g111_6 : m_get 111 6 = some (.aload_n 0, 1) := by decide +kernel
theorem g111_7 : m_get 111 7 = some (.getfield 7, 3) := by decide +kernel
theorem g111_10 : m_get 111 10 = some (.iconst 1, 1) := by decide +kernel
theorem g111_11 : m_get 111 11 = some (.iaload, 1) := by decide +kernel
theorem g111_12 : m_get 111 12 = some (.imul, 1) := by decide +kernel
theorem g111_13 : m_get 111 13 = some (.ireturn, 1) := by decide +kernel
theorem f111_7 : m_fl (m_own 111) 7 = some (7, 1) := by decide +kernel
theorem g112_0 : m_get 112 0 = some (.iload_n 1, 1) := by decide +kernel
theorem g112_1 : m_get 112 1 = some (.iconst 0, 1) := by decide +kernel
theorem g112_2 : m_get 112 2 = some (.aload_n 0, 1) := by decide +kernel
theorem g112_3 : m_get 112 3 = some (.invokevirtual 116, 3) := by decide +kernel
theorem g112_6 : m_get 112 6 = some (.iconst 1, 1) := by decide +kernel
theorem g112_7 : m_get 112 7 = some (.isub, 1) := by decide +kernel
theorem g112_8 : m_get 112 8 = some (.invokestatic 81, 3) := by decide +kernel
theorem g112_11 : m_get 112 11 = some (.ireturn, 1) := by decide +kernel
theorem k112_81 : m_ml (m_own 112) 81 = some (1, 97) := by decide +kernel
theorem k112_116 : m_ml (m_own 112) 116 = some (0, 111) := by decide +kernel
theorem g113_0 : m_get 113 0 = some (.aload_n 0, 1) := by decide +kernel
theorem g113_1 : m_get 113 1 = some (.getfield 13, 3) := by decide +kernel
theorem g113_4 : m_get 113 4 = some (.iconst 5, 1) := by decide +kernel
theorem g113_5 : m_get 113 5 = some (.iload_n 1, 1) := by decide +kernel
theorem g113_6 : m_get 113 6 = some (.iconst 4, 1) := by decide +kernel
theorem g113_7 : m_get 113 7 = some (.idiv, 1) := by decide +kernel
theorem g113_8 : m_get 113 8 = some (.imul, 1) := by decide +kernel
theorem g113_9 : m_get 113 9 = some (.iload_n 2, 1) := by decide +kernel
theorem g113_10 : m_get 113 10 = some (.iload_n 1, 1) := by decide +kernel
theorem g113_11 : m_get 113 11 = some (.iconst 4, 1) := by decide +kernel
theorem g113_12 : m_get 113 12 = some (.irem, 1) := by decide +kernel
theorem g113_13 : m_get 113 13 = some (.isub, 1) := by decide +kernel
theorem g113_14 : m_get 113 14 = some (.iconst 4, 1) := by decide +kernel
theorem g113_15 : m_get 113 15 = some (.iadd, 1) := by decide +kernel
theorem g113_16 : m_get 113 16 = some (.iconst 4, 1) := by decide +kernel
theorem g113_17 : m_get 113 17 = some (.irem, 1) := by decide +kernel
theorem g113_18 : m_get 113 18 = some (.iadd, 1) := by decide +kernel
theorem g113_19 : m_get 113 19 = some (.iaload, 1) := by decide +kernel
theorem g113_20 : m_get 113 20 = some (.ireturn, 1) := by decide +kernel
theorem f113_13 : m_fl (m_own 113) 13 = some (7, 2) := by decide +kernel
theorem g114_0 : m_get 114 0 = some (.iload_n 1, 1) := by decide +kernel
theorem g114_1 : m_get 114 1 = some (.iload_n 1, 1) := by decide +kernel
theorem g114_2 : m_get 114 2 = some (.iconst 4, 1) := by decide +kernel
theorem g114_3 : m_get 114 3 = some (.irem, 1) := by decide +kernel
theorem g114_4 : m_get 114 4 = some (.isub, 1) := by decide +kernel
theorem g114_5 : m_get 114 5 = some (.istore_n 2, 1) := by decide +kernel
theorem g114_6 : m_get 114 6 = some (.iload_n 2, 1) := by decide +kernel
theorem g114_7 : m_get 114 7 = some (.iload_n 1, 1) := by decide +kernel
theorem g114_8 : m_get 114 8 = some (.if_icmp .ge 59, 3) := by decide +kernel
theorem g114_11 : m_get 114 11 = some (.iconst 1, 1) := by decide +kernel
theorem g114_12 : m_get 114 12 = some (.istore_n 3, 1) := by decide +kernel
theorem g114_13 : m_get 114 13 = some (.iconst 0, 1) := by decide +kernel
theorem g114_14 : m_get 114 14 = some (.istore 4, 2) := by decide +kernel
theorem g114_16 : m_get 114 16 = some (.iload 4, 2) := by decide +kernel
theorem g114_18 : m_get 114 18 = some (.iconst 4, 1) := by decide +kernel
theorem g114_19 : m_get 114 19 = some (.if_icmp .ge 36, 3) := by decide +kernel
theorem g114_22 : m_get 114 22 = some (.iload_n 3, 1) := by decide +kernel
theorem g114_23 : m_get 114 23 = some (.ifCond .eq 24, 3) := by decide +kernel
theorem g114_26 : m_get 114 26 = some (.aload_n 0, 1) := by decide +kernel
theorem g114_27 : m_get 114 27 = some (.iload_n 2, 1) := by decide +kernel
theorem g114_28 : m_get 114 28 = some (.iload 4, 2) := by decide +kernel
theorem g114_30 : m_get 114 30 = some (.invokevirtual 119, 3) := by decide +kernel
theorem g114_33 : m_get 114 33 = some (.aload_n 0, 1) := by decide +kernel
theorem g114_34 : m_get 114 34 = some (.iload_n 1, 1) := by decide +kernel
theorem g114_35 : m_get 114 35 = some (.iload 4, 2) := by decide +kernel
theorem g114_37 : m_get 114 37 = some (.invokevirtual 119, 3) := by decide +kernel
theorem g114_40 : m_get 114 40 = some (.if_icmp .ne 7, 3) := by decide +kernel
theorem g114_43 : m_get 114 43 = some (.iconst 1, 1) := by decide +kernel
theorem g114_44 : m_get 114 44 = some (.goto 4, 3) := by decide +kernel
theorem g114_47 : m_get 114 47 = some (.iconst 0, 1) := by decide +kernel
theorem g114_48 : m_get 114 48 = some (.istore_n 3, 1) := by decide +kernel
theorem g114_49 : m_get 114 49 = some (.iinc 4 1, 3) := by decide +kernel
theorem g114_52 : m_get 114 52 = some (.goto (-36), 3) := by decide +kernel
theorem g114_55 : m_get 114 55 = some (.iload_n 3, 1) := by decide +kernel
theorem g114_56 : m_get 114 56 = some (.ifCond .eq 5, 3) := by decide +kernel
theorem g114_59 : m_get 114 59 = some (.iconst 0, 1) := by decide +kernel
theorem g114_60 : m_get 114 60 = some (.ireturn, 1) := by decide +kernel
theorem g114_61 : m_get 114 61 = some (.iinc 2 1, 3) := by decide +kernel
theorem g114_64 : m_get 114 64 = some (.goto (-58), 3) := by decide +kernel
theorem g114_67 : m_get 114 67 = some (.iconst 1, 1) := by decide +kernel
theorem g114_68 : m_get 114 68 = some (.ireturn, 1) := by decide +kernel
theorem k114_119 : m_ml (m_own 114) 119 = some (0, 113) := by decide +kernel
theorem g115_0 : m_get 115 0 = some (.aload_n 0, 1) := by decide +kernel
theorem g115_1 : m_get 115 1 = some (.getfield 13, 3) := by decide +kernel
theorem g115_4 : m_get 115 4 = some (.iconst 5, 1) := by decide +kernel
theorem g115_5 : m_get 115 5 = some (.iload_n 1, 1) := by decide +kernel
theorem g115_6 : m_get 115 6 = some (.imul, 1) := by decide +kernel
theorem g115_7 : m_get 115 7 = some (.iconst 4, 1) := by decide +kernel
theorem g115_8 : m_get 115 8 = some (.iadd, 1) := by decide +kernel
theorem g115_9 : m_get 115 9 = some (.iaload, 1) := by decide +kernel
theorem g115_10 : m_get 115 10 = some (.ireturn, 1) := by decide +kernel
theorem f115_13 : m_fl (m_own 115) 13 = some (7, 2) := by decide +kernel
theorem g116_0 : m_get 116 0 = some (.iconst 0, 1) := by decide +kernel
theorem g116_1 : m_get 116 1 = some (.istore_n 1, 1) := by decide +kernel
theorem g116_2 : m_get 116 2 = some (.iload_n 1, 1) := by decide +kernel
theorem g116_3 : m_get 116 3 = some (.bipush 15, 2) := by decide +kernel
theorem g116_5 : m_get 116 5 = some (.if_icmp .ge 21, 3) := by decide +kernel
theorem g116_8 : m_get 116 8 = some (.aload_n 0, 1) := by decide +kernel
theorem g116_9 : m_get 116 9 = some (.getfield 41, 3) := by decide +kernel
theorem g116_12 : m_get 116 12 = some (.iload_n 1, 1) := by decide +kernel
theorem g116_13 : m_get 116 13 = some (.aload_n 0, 1) := by decide +kernel
theorem g116_14 : m_get 116 14 = some (.getfield 16, 3) := by decide +kernel
theorem g116_17 : m_get 116 17 = some (.iload_n 1, 1) := by decide +kernel
theorem g116_18 : m_get 116 18 = some (.iaload, 1) := by decide +kernel
theorem g116_19 : m_get 116 19 = some (.iastore, 1) := by decide +kernel
theorem g116_20 : m_get 116 20 = some (.iinc 1 1, 3) := by decide +kernel
theorem g116_23 : m_get 116 23 = some (.goto (-21), 3) := by decide +kernel
theorem g116_26 : m_get 116 26 = some (.return_, 1) := by decide +kernel
theorem f116_16 : m_fl (m_own 116) 16 = some (7, 3) := by decide +kernel
theorem f116_41 : m_fl (m_own 116) 41 = some (7, 17) := by decide +kernel
theorem g117_0 : m_get 117 0 = some (.aload_n 0, 1) := by decide +kernel
theorem g117_1 : m_get 117 1 = some (.getfield 41, 3) := by decide +kernel
theorem g117_4 : m_get 117 4 = some (.bipush 9, 2) := by decide +kernel
theorem g117_6 : m_get 117 6 = some (.iload_n 1, 1) := by decide +kernel
theorem g117_7 : m_get 117 7 = some (.iadd, 1) := by decide +kernel
theorem g117_8 : m_get 117 8 = some (.iaload, 1) := by decide +kernel
theorem g117_9 : m_get 117 9 = some (.istore_n 2, 1) := by decide +kernel
theorem g117_10 : m_get 117 10 = some (.iconst 0, 1) := by decide +kernel
theorem g117_11 : m_get 117 11 = some (.istore_n 3, 1) := by decide +kernel
theorem g117_12 : m_get 117 12 = some (.iload_n 3, 1) := by decide +kernel
theorem g117_13 : m_get 117 13 = some (.bipush 9, 2) := by decide +kernel
theorem g117_15 : m_get 117 15 = some (.if_icmp .ge 40, 3) := by decide +kernel
theorem g117_18 : m_get 117 18 = some (.iload_n 2, 1) := by decide +kernel
theorem g117_19 : m_get 117 19 = some (.aload_n 0, 1) := by decide +kernel
theorem g117_20 : m_get 117 20 = some (.getfield 41, 3) := by decide +kernel
theorem g117_23 : m_get 117 23 = some (.iload_n 3, 1) := by decide +kernel
theorem g117_24 : m_get 117 24 = some (.iaload, 1) := by decide +kernel
theorem g117_25 : m_get 117 25 = some (.bipush (-9), 2) := by decide +kernel
theorem g117_27 : m_get 117 27 = some (.if_icmp .eq 19, 3) := by decide +kernel
theorem g117_30 : m_get 117 30 = some (.aload_n 0, 1) := by decide +kernel
theorem g117_31 : m_get 117 31 = some (.getfield 41, 3) := by decide +kernel
theorem g117_34 : m_get 117 34 = some (.iload_n 3, 1) := by decide +kernel
theorem g117_35 : m_get 117 35 = some (.iaload, 1) := by decide +kernel
theorem g117_36 : m_get 117 36 = some (.iconst 4, 1) := by decide +kernel
theorem g117_37 : m_get 117 37 = some (.idiv, 1) := by decide +kernel
theorem g117_38 : m_get 117 38 = some (.iload_n 1, 1) := by decide +kernel
theorem g117_39 : m_get 117 39 = some (.if_icmp .ne 7, 3) := by decide +kernel
theorem g117_42 : m_get 117 42 = some (.iconst 1, 1) := by decide +kernel
theorem g117_43 : m_get 117 43 = some (.goto 4, 3) := by decide +kernel
theorem g117_46 : m_get 117 46 = some (.iconst 0, 1) := by decide +kernel
theorem g117_47 : m_get 117 47 = some (.isub, 1) := by decide +kernel
theorem g117_48 : m_get 117 48 = some (.istore_n 2, 1) := by decide +kernel
theorem g117_49 : m_get 117 49 = some (.iinc 3 1, 3) := by decide +kernel
theorem g117_52 : m_get 117 52 = some (.goto (-40), 3) := by decide +kernel
theorem g117_55 : m_get 117 55 = some (.iload_n 2, 1) := by decide +kernel
theorem g117_56 : m_get 117 56 = some (.ireturn, 1) := by decide +kernel
theorem f117_41 : m_fl (m_own 117) 41 = some (7, 17) := by decide +kernel
theorem g118_0 : m_get 118 0 = some (.iconst 0, 1) := by decide +kernel
theorem g118_1 : m_get 118 1 = some (.istore_n 2, 1) := by decide +kernel
theorem g118_2 : m_get 118 2 = some (.iconst 0, 1) := by decide +kernel
theorem g118_3 : m_get 118 3 = some (.istore_n 3, 1) := by decide +kernel
theorem g118_4 : m_get 118 4 = some (.iload_n 3, 1) := by decide +kernel
theorem g118_5 : m_get 118 5 = some (.bipush 9, 2) := by decide +kernel
theorem g118_7 : m_get 118 7 = some (.if_icmp .ge 44, 3) := by decide +kernel
theorem g118_10 : m_get 118 10 = some (.iload_n 2, 1) := by decide +kernel
theorem g118_11 : m_get 118 11 = some (.aload_n 0, 1) := by decide +kernel
theorem g118_12 : m_get 118 12 = some (.getfield 41, 3) := by decide +kernel
theorem g118_15 : m_get 118 15 = some (.iload_n 3, 1) := by decide +kernel
theorem g118_16 : m_get 118 16 = some (.iaload, 1) := by decide +kernel
theorem g118_17 : m_get 118 17 = some (.bipush (-9), 2) := by decide +kernel
theorem g118_19 : m_get 118 19 = some (.if_icmp .eq 23, 3) := by decide +kernel
theorem g118_22 : m_get 118 22 = some (.aload_n 0, 1) := by decide +kernel
theorem g118_23 : m_get 118 23 = some (.aload_n 0, 1) := by decide +kernel
theorem g118_24 : m_get 118 24 = some (.getfield 41, 3) := by decide +kernel
theorem g118_27 : m_get 118 27 = some (.iload_n 3, 1) := by decide +kernel
theorem g118_28 : m_get 118 28 = some (.iaload, 1) := by decide +kernel
theorem g118_29 : m_get 118 29 = some (.iconst 4, 1) := by decide +kernel
theorem g118_30 : m_get 118 30 = some (.idiv, 1) := by decide +kernel
theorem g118_31 : m_get 118 31 = some (.invokevirtual 123, 3) := by decide +kernel
theorem g118_34 : m_get 118 34 = some (.iload_n 1, 1) := by decide +kernel
theorem g118_35 : m_get 118 35 = some (.if_icmp .ne 7, 3) := by decide +kernel
theorem g118_38 : m_get 118 38 = some (.iconst 1, 1) := by decide +kernel
theorem g118_39 : m_get 118 39 = some (.goto 4, 3) := by decide +kernel
theorem g118_42 : m_get 118 42 = some (.iconst 0, 1) := by decide +kernel
theorem g118_43 : m_get 118 43 = some (.iadd, 1) := by decide +kernel
theorem g118_44 : m_get 118 44 = some (.istore_n 2, 1) := by decide +kernel
theorem g118_45 : m_get 118 45 = some (.iinc 3 1, 3) := by decide +kernel
theorem g118_48 : m_get 118 48 = some (.goto (-44), 3) := by decide +kernel
theorem g118_51 : m_get 118 51 = some (.iload_n 2, 1) := by decide +kernel
theorem g118_52 : m_get 118 52 = some (.ireturn, 1) := by decide +kernel
theorem f118_41 : m_fl (m_own 118) 41 = some (7, 17) := by decide +kernel
theorem k118_123 : m_ml (m_own 118) 123 = some (0, 115) := by decide +kernel
theorem g119_0 : m_get 119 0 = some (.iload_n 1, 1) := by decide +kernel
theorem g119_1 : m_get 119 1 = some (.aload_n 0, 1) := by decide +kernel
theorem g119_2 : m_get 119 2 = some (.getfield 7, 3) := by decide +kernel
theorem g119_5 : m_get 119 5 = some (.iconst 0, 1) := by decide +kernel
theorem g119_6 : m_get 119 6 = some (.iaload, 1) := by decide +kernel
theorem g119_7 : m_get 119 7 = some (.irem, 1) := by decide +kernel
theorem g119_8 : m_get 119 8 = some (.iload_n 2, 1) := by decide +kernel
theorem g119_9 : m_get 119 9 = some (.iconst 1, 1) := by decide +kernel
theorem g119_10 : m_get 119 10 = some (.if_icmp .ne 7, 3) := by decide +kernel
theorem g119_13 : m_get 119 13 = some (.iconst 1, 1) := by decide +kernel
theorem g119_14 : m_get 119 14 = some (.goto 13, 3) := by decide +kernel
theorem g119_17 : m_get 119 17 = some (.iload_n 2, 1) := by decide +kernel
theorem g119_18 : m_get 119 18 = some (.iconst 3, 1) := by decide +kernel
theorem g119_19 : m_get 119 19 = some (.if_icmp .ne 7, 3) := by decide +kernel
theorem g119_22 : m_get 119 22 = some (.iconst (-1), 1) := by decide +kernel
theorem g119_23 : m_get 119 23 = some (.goto 4, 3) := by decide +kernel
theorem g119_26 : m_get 119 26 = some (.iconst 0, 1) := by decide +kernel
theorem g119_27 : m_get 119 27 = some (.iadd, 1) := by decide +kernel
theorem g119_28 : m_get 119 28 = some (.istore_n 3, 1) := by decide +kernel
theorem g119_29 : m_get 119 29 = some (.iload_n 1, 1) := by decide +kernel
theorem g119_30 : m_get 119 30 = some (.aload_n 0, 1) := by decide +kernel
theorem g119_31 : m_get 119 31 = some (.getfield 7, 3) := by decide +kernel
theorem g119_34 : m_get 119 34 = some (.iconst 0, 1) := by decide +kernel
theorem g119_35 : m_get 119 35 = some (.iaload, 1) := by decide +kernel
theorem g119_36 : m_get 119 36 = some (.idiv, 1) := by decide +kernel
theorem g119_37 : m_get 119 37 = some (.iload_n 2, 1) := by decide +kernel
theorem g119_38 : m_get 119 38 = some (.ifCond .ne 7, 3) := by decide +kernel
theorem g119_41 : m_get 119 41 = some (.iconst (-1), 1) := by decide +kernel
theorem g119_42 : m_get 119 42 = some (.goto 13, 3) := by decide +kernel
theorem g119_45 : m_get 119 45 = some (.iload_n 2, 1) := by decide +kernel
theorem g119_46 : m_get 119 46 = some (.iconst 2, 1) := by decide +kernel
theorem g119_47 : m_get 119 47 = some (.if_icmp .ne 7, 3) := by decide +kernel
theorem g119_50 : m_get 119 50 = some (.iconst 1, 1) := by decide +kernel
theorem g119_51 : m_get 119 51 = some (.goto 4, 3) := by decide +kernel
theorem g119_54 : m_get 119 54 = some (.iconst 0, 1) := by decide +kernel
theorem g119_55 : m_get 119 55 = some (.iadd, 1) := by decide +kernel
theorem g119_56 : m_get 119 56 = some (.istore 4, 2) := by decide +kernel
theorem g119_58 : m_get 119 58 = some (.iload_n 3, 1) := by decide +kernel
theorem g119_59 : m_get 119 59 = some (.iconst 0, 1) := by decide +kernel
theorem g119_60 : m_get 119 60 = some (.aload_n 0, 1) := by decide +kernel
theorem g119_61 : m_get 119 61 = some (.getfield 7, 3) := by decide +kernel
theorem g119_64 : m_get 119 64 = some (.iconst 0, 1) := by decide +kernel
theorem g119_65 : m_get 119 65 = some (.iaload, 1) := by decide +kernel
theorem g119_66 : m_get 119 66 = some (.iconst 1, 1) := by decide +kernel
theorem g119_67 : m_get 119 67 = some (.isub, 1) := by decide +kernel
theorem g119_68 : m_get 119 68 = some (.invokestatic 81, 3) := by decide +kernel
theorem g119_71 : m_get 119 71 = some (.ifCond .eq 34, 3) := by decide +kernel
theorem g119_74 : m_get 119 74 = some (.iload 4, 2) := by decide +kernel
theorem g119_76 : m_get 119 76 = some (.iconst 0, 1) := by decide +kernel
theorem g119_77 : m_get 119 77 = some (.aload_n 0, 1) := by decide +kernel
theorem g119_78 : m_get 119 78 = some (.getfield 7, 3) := by decide +kernel
theorem g119_81 : m_get 119 81 = some (.iconst 1, 1) := by decide +kernel
theorem g119_82 : m_get 119 82 = some (.iaload, 1) := by decide +kernel
theorem g119_83 : m_get 119 83 = some (.iconst 1, 1) := by decide +kernel
theorem g119_84 : m_get 119 84 = some (.isub, 1) := by decide +kernel
theorem g119_85 : m_get 119 85 = some (.invokestatic 81, 3) := by decide +kernel
theorem g119_88 : m_get 119 88 = some (.ifCond .eq 17, 3) := by decide +kernel
theorem g119_91 : m_get 119 91 = some (.aload_n 0, 1) := by decide +kernel
theorem g119_92 : m_get 119 92 = some (.getfield 7, 3) := by decide +kernel
theorem g119_95 : m_get 119 95 = some (.iconst 0, 1) := by decide +kernel
theorem g119_96 : m_get 119 96 = some (.iaload, 1) := by decide +kernel
theorem g119_97 : m_get 119 97 = some (.iload 4, 2) := by decide +kernel
theorem g119_99 : m_get 119 99 = some (.imul, 1) := by decide +kernel
theorem g119_100 : m_get 119 100 = some (.iload_n 3, 1) := by decide +kernel
theorem g119_101 : m_get 119 101 = some (.iadd, 1) := by decide +kernel
theorem g119_102 : m_get 119 102 = some (.goto 5, 3) := by decide +kernel
theorem g119_105 : m_get 119 105 = some (.bipush (-9), 2) := by decide +kernel
theorem g119_107 : m_get 119 107 = some (.ireturn, 1) := by decide +kernel
theorem f119_7 : m_fl (m_own 119) 7 = some (7, 1) := by decide +kernel
theorem k119_81 : m_ml (m_own 119) 81 = some (1, 97) := by decide +kernel
theorem g120_0 : m_get 120 0 = some (.aload_n 0, 1) := by decide +kernel
theorem g120_1 : m_get 120 1 = some (.iload_n 2, 1) := by decide +kernel
theorem g120_2 : m_get 120 2 = some (.iconst 4, 1) := by decide +kernel
theorem g120_3 : m_get 120 3 = some (.idiv, 1) := by decide +kernel
theorem g120_4 : m_get 120 4 = some (.invokevirtual 127, 3) := by decide +kernel
theorem g120_7 : m_get 120 7 = some (.ifCond .gt 5, 3) := by decide +kernel
theorem g120_10 : m_get 120 10 = some (.iconst 1, 1) := by decide +kernel
theorem g120_11 : m_get 120 11 = some (.ireturn, 1) := by decide +kernel
theorem g120_12 : m_get 120 12 = some (.iconst 1, 1) := by decide +kernel
theorem g120_13 : m_get 120 13 = some (.istore_n 3, 1) := by decide +kernel
theorem g120_14 : m_get 120 14 = some (.iconst 0, 1) := by decide +kernel
theorem g120_15 : m_get 120 15 = some (.istore 4, 2) := by decide +kernel
theorem g120_17 : m_get 120 17 = some (.iload 4, 2) := by decide +kernel
theorem g120_19 : m_get 120 19 = some (.iconst 4, 1) := by decide +kernel
theorem g120_20 : m_get 120 20 = some (.if_icmp .ge 110, 3) := by decide +kernel
theorem g120_23 : m_get 120 23 = some (.aload_n 0, 1) := by decide +kernel
theorem g120_24 : m_get 120 24 = some (.iload_n 1, 1) := by decide +kernel
theorem g120_25 : m_get 120 25 = some (.iload 4, 2) := by decide +kernel
theorem g120_27 : m_get 120 27 = some (.invokevirtual 130, 3) := by decide +kernel
theorem g120_30 : m_get 120 30 = some (.istore 5, 2) := by decide +kernel
theorem g120_32 : m_get 120 32 = some (.iload 5, 2) := by decide +kernel
theorem g120_34 : m_get 120 34 = some (.bipush (-9), 2) := by decide +kernel
theorem g120_36 : m_get 120 36 = some (.if_icmp .eq 44, 3) := by decide +kernel
theorem g120_39 : m_get 120 39 = some (.aload_n 0, 1) := by decide +kernel
theorem g120_40 : m_get 120 40 = some (.getfield 41, 3) := by decide +kernel
theorem g120_43 : m_get 120 43 = some (.iload 5, 2) := by decide +kernel
theorem g120_45 : m_get 120 45 = some (.iaload, 1) := by decide +kernel
theorem g120_46 : m_get 120 46 = some (.bipush (-9), 2) := by decide +kernel
theorem g120_48 : m_get 120 48 = some (.if_icmp .eq 32, 3) := by decide +kernel
theorem g120_51 : m_get 120 51 = some (.aload_n 0, 1) := by decide +kernel
theorem g120_52 : m_get 120 52 = some (.aload_n 0, 1) := by decide +kernel
theorem g120_53 : m_get 120 53 = some (.getfield 41, 3) := by decide +kernel
theorem g120_56 : m_get 120 56 = some (.iload 5, 2) := by decide +kernel
theorem g120_58 : m_get 120 58 = some (.iaload, 1) := by decide +kernel
theorem g120_59 : m_get 120 59 = some (.iload 4, 2) := by decide +kernel
theorem g120_61 : m_get 120 61 = some (.iconst 2, 1) := by decide +kernel
theorem g120_62 : m_get 120 62 = some (.iadd, 1) := by decide +kernel
theorem g120_63 : m_get 120 63 = some (.iconst 4, 1) := by decide +kernel
theorem g120_64 : m_get 120 64 = some (.irem, 1) := by decide +kernel
theorem g120_65 : m_get 120 65 = some (.invokevirtual 119, 3) := by decide +kernel
theorem g120_68 : m_get 120 68 = some (.aload_n 0, 1) := by decide +kernel
theorem g120_69 : m_get 120 69 = some (.iload_n 2, 1) := by decide +kernel
theorem g120_70 : m_get 120 70 = some (.iload 4, 2) := by decide +kernel
theorem g120_72 : m_get 120 72 = some (.invokevirtual 119, 3) := by decide +kernel
theorem g120_75 : m_get 120 75 = some (.if_icmp .eq 5, 3) := by decide +kernel
theorem g120_78 : m_get 120 78 = some (.iconst 2, 1) := by decide +kernel
theorem g120_79 : m_get 120 79 = some (.ireturn, 1) := by decide +kernel
theorem g120_80 : m_get 120 80 = some (.iload_n 3, 1) := by decide +kernel
theorem g120_81 : m_get 120 81 = some (.ifCond .eq 41, 3) := by decide +kernel
theorem g120_84 : m_get 120 84 = some (.iload 5, 2) := by decide +kernel
theorem g120_86 : m_get 120 86 = some (.bipush (-9), 2) := by decide +kernel
theorem g120_88 : m_get 120 88 = some (.if_icmp .ne 30, 3) := by decide +kernel
theorem g120_91 : m_get 120 91 = some (.aload_n 0, 1) := by decide +kernel
theorem g120_92 : m_get 120 92 = some (.getfield 7, 3) := by decide +kernel
theorem g120_95 : m_get 120 95 = some (.iconst 2, 1) := by decide +kernel
theorem g120_96 : m_get 120 96 = some (.iaload, 1) := by decide +kernel
theorem g120_97 : m_get 120 97 = some (.bipush (-9), 2) := by decide +kernel
theorem g120_99 : m_get 120 99 = some (.if_icmp .eq 19, 3) := by decide +kernel
theorem g120_102 : m_get 120 102 = some (.aload_n 0, 1) := by decide +kernel
theorem g120_103 : m_get 120 103 = some (.iload_n 2, 1) := by decide +kernel
theorem g120_104 : m_get 120 104 = some (.iload 4, 2) := by decide +kernel
theorem g120_106 : m_get 120 106 = some (.invokevirtual 119, 3) := by decide +kernel
theorem g120_109 : m_get 120 109 = some (.aload_n 0, 1) := by decide +kernel
theorem g120_110 : m_get 120 110 = some (.getfield 7, 3) := by decide +kernel
theorem g120_113 : m_get 120 113 = some (.iconst 2, 1) := by decide +kernel
theorem g120_114 : m_get 120 114 = some (.iaload, 1) := by decide +kernel
theorem g120_115 : m_get 120 115 = some (.if_icmp .ne 7, 3) := by decide +kernel
theorem g120_118 : m_get 120 118 = some (.iconst 1, 1) := by decide +kernel
theorem g120_119 : m_get 120 119 = some (.goto 4, 3) := by decide +kernel
theorem g120_122 : m_get 120 122 = some (.iconst 0, 1) := by decide +kernel
theorem g120_123 : m_get 120 123 = some (.istore_n 3, 1) := by decide +kernel
theorem g120_124 : m_get 120 124 = some (.iinc 4 1, 3) := by decide +kernel
theorem g120_127 : m_get 120 127 = some (.goto (-110), 3) := by decide +kernel
theorem g120_130 : m_get 120 130 = some (.iload_n 3, 1) := by decide +kernel
theorem g120_131 : m_get 120 131 = some (.ifCond .ne 7, 3) := by decide +kernel
theorem g120_134 : m_get 120 134 = some (.iconst 3, 1) := by decide +kernel
theorem g120_135 : m_get 120 135 = some (.goto 28, 3) := by decide +kernel
theorem g120_138 : m_get 120 138 = some (.aload_n 0, 1) := by decide +kernel
theorem g120_139 : m_get 120 139 = some (.aload_n 0, 1) := by decide +kernel
theorem g120_140 : m_get 120 140 = some (.iload_n 2, 1) := by decide +kernel
theorem g120_141 : m_get 120 141 = some (.iconst 4, 1) := by decide +kernel
theorem g120_142 : m_get 120 142 = some (.idiv, 1) := by decide +kernel
theorem g120_143 : m_get 120 143 = some (.invokevirtual 123, 3) := by decide +kernel
theorem g120_146 : m_get 120 146 = some (.invokevirtual 133, 3) := by decide +kernel
theorem g120_149 : m_get 120 149 = some (.aload_n 0, 1) := by decide +kernel
theorem g120_150 : m_get 120 150 = some (.getfield 7, 3) := by decide +kernel
theorem g120_153 : m_get 120 153 = some (.iconst 3, 1) := by decide +kernel
theorem g120_154 : m_get 120 154 = some (.iaload, 1) := by decide +kernel
theorem g120_155 : m_get 120 155 = some (.if_icmp .lt 7, 3) := by decide +kernel
theorem g120_158 : m_get 120 158 = some (.iconst 4, 1) := by decide +kernel
theorem g120_159 : m_get 120 159 = some (.goto 4, 3) := by decide +kernel
theorem g120_162 : m_get 120 162 = some (.iconst 0, 1) := by decide +kernel
theorem g120_163 : m_get 120 163 = some (.ireturn, 1) := by decide +kernel
theorem f120_7 : m_fl (m_own 120) 7 = some (7, 1) := by decide +kernel
theorem f120_41 : m_fl (m_own 120) 41 = some (7, 17) := by decide +kernel
theorem k120_119 : m_ml (m_own 120) 119 = some (0, 113) := by decide +kernel
theorem k120_123 : m_ml (m_own 120) 123 = some (0, 115) := by decide +kernel
theorem k120_127 : m_ml (m_own 120) 127 = some (0, 117) := by decide +kernel
theorem k120_130 : m_ml (m_own 120) 130 = some (0, 119) := by decide +kernel
theorem k120_133 : m_ml (m_own 120) 133 = some (0, 118) := by decide +kernel
theorem g121_0 : m_get 121 0 = some (.aload_n 0, 1) := by decide +kernel
theorem g121_1 : m_get 121 1 = some (.iload_n 1, 1) := by decide +kernel
theorem g121_2 : m_get 121 2 = some (.invokevirtual 136, 3) := by decide +kernel
theorem g121_5 : m_get 121 5 = some (.ifCond .eq 13, 3) := by decide +kernel
theorem g121_8 : m_get 121 8 = some (.iload_n 2, 1) := by decide +kernel
theorem g121_9 : m_get 121 9 = some (.iconst 0, 1) := by decide +kernel
theorem g121_10 : m_get 121 10 = some (.bipush 6, 2) := by decide +kernel
theorem g121_12 : m_get 121 12 = some (.invokestatic 81, 3) := by decide +kernel
theorem g121_15 : m_get 121 15 = some (.ifCond .ne 5, 3) := by decide +kernel
theorem g121_18 : m_get 121 18 = some (.iconst (-1), 1) := by decide +kernel
theorem g121_19 : m_get 121 19 = some (.ireturn, 1) := by decide +kernel
theorem g121_20 : m_get 121 20 = some (.aload_n 0, 1) := by decide +kernel
theorem g121_21 : m_get 121 21 = some (.invokevirtual 140, 3) := by decide +kernel
theorem g121_24 : m_get 121 24 = some (.iload_n 2, 1) := by decide +kernel
theorem g121_25 : m_get 121 25 = some (.iconst 5, 1) := by decide +kernel
theorem g121_26 : m_get 121 26 = some (.if_icmp .ge 16, 3) := by decide +kernel
theorem g121_29 : m_get 121 29 = some (.aload_n 0, 1) := by decide +kernel
theorem g121_30 : m_get 121 30 = some (.getfield 13, 3) := by decide +kernel
theorem g121_33 : m_get 121 33 = some (.iconst 5, 1) := by decide +kernel
theorem g121_34 : m_get 121 34 = some (.iload_n 1, 1) := by decide +kernel
theorem g121_35 : m_get 121 35 = some (.imul, 1) := by decide +kernel
theorem g121_36 : m_get 121 36 = some (.iload_n 2, 1) := by decide +kernel
theorem g121_37 : m_get 121 37 = some (.iadd, 1) := by decide +kernel
theorem g121_38 : m_get 121 38 = some (.iaload, 1) := by decide +kernel
theorem g121_39 : m_get 121 39 = some (.goto 28, 3) := by decide +kernel
theorem g121_42 : m_get 121 42 = some (.iload_n 2, 1) := by decide +kernel
theorem g121_43 : m_get 121 43 = some (.iconst 5, 1) := by decide +kernel
theorem g121_44 : m_get 121 44 = some (.if_icmp .ne 15, 3) := by decide +kernel
theorem g121_47 : m_get 121 47 = some (.aload_n 0, 1) := by decide +kernel
theorem g121_48 : m_get 121 48 = some (.getfield 16, 3) := by decide +kernel
theorem g121_51 : m_get 121 51 = some (.bipush 9, 2) := by decide +kernel
theorem g121_53 : m_get 121 53 = some (.iload_n 1, 1) := by decide +kernel
theorem g121_54 : m_get 121 54 = some (.iadd, 1) := by decide +kernel
theorem g121_55 : m_get 121 55 = some (.iaload, 1) := by decide +kernel
theorem g121_56 : m_get 121 56 = some (.goto 11, 3) := by decide +kernel
theorem g121_59 : m_get 121 59 = some (.aload_n 0, 1) := by decide +kernel
theorem g121_60 : m_get 121 60 = some (.iload_n 1, 1) := by decide +kernel
theorem g121_61 : m_get 121 61 = some (.invokevirtual 127, 3) := by decide +kernel
theorem g121_64 : m_get 121 64 = some (.bipush 100, 2) := by decide +kernel
theorem g121_66 : m_get 121 66 = some (.iadd, 1) := by decide +kernel
theorem g121_67 : m_get 121 67 = some (.ireturn, 1) := by decide +kernel
theorem f121_13 : m_fl (m_own 121) 13 = some (7, 2) := by decide +kernel
theorem f121_16 : m_fl (m_own 121) 16 = some (7, 3) := by decide +kernel
theorem k121_81 : m_ml (m_own 121) 81 = some (1, 97) := by decide +kernel
theorem k121_127 : m_ml (m_own 121) 127 = some (0, 117) := by decide +kernel
theorem k121_136 : m_ml (m_own 121) 136 = some (0, 109) := by decide +kernel
theorem k121_140 : m_ml (m_own 121) 140 = some (0, 116) := by decide +kernel
theorem g122_0 : m_get 122 0 = some (.aload_n 0, 1) := by decide +kernel
theorem g122_1 : m_get 122 1 = some (.iload_n 1, 1) := by decide +kernel
theorem g122_2 : m_get 122 2 = some (.invokevirtual 143, 3) := by decide +kernel
theorem g122_5 : m_get 122 5 = some (.ifCond .eq 12, 3) := by decide +kernel
theorem g122_8 : m_get 122 8 = some (.iload_n 2, 1) := by decide +kernel
theorem g122_9 : m_get 122 9 = some (.iconst 0, 1) := by decide +kernel
theorem g122_10 : m_get 122 10 = some (.iconst 4, 1) := by decide +kernel
theorem g122_11 : m_get 122 11 = some (.invokestatic 81, 3) := by decide +kernel
theorem g122_14 : m_get 122 14 = some (.ifCond .ne 5, 3) := by decide +kernel
theorem g122_17 : m_get 122 17 = some (.iconst (-1), 1) := by decide +kernel
theorem g122_18 : m_get 122 18 = some (.ireturn, 1) := by decide +kernel
theorem g122_19 : m_get 122 19 = some (.iload_n 2, 1) := by decide +kernel
theorem g122_20 : m_get 122 20 = some (.iconst 4, 1) := by decide +kernel
theorem g122_21 : m_get 122 21 = some (.if_icmp .ge 12, 3) := by decide +kernel
theorem g122_24 : m_get 122 24 = some (.aload_n 0, 1) := by decide +kernel
theorem g122_25 : m_get 122 25 = some (.iload_n 1, 1) := by decide +kernel
theorem g122_26 : m_get 122 26 = some (.iload_n 2, 1) := by decide +kernel
theorem g122_27 : m_get 122 27 = some (.invokevirtual 119, 3) := by decide +kernel
theorem g122_30 : m_get 122 30 = some (.goto 16, 3) := by decide +kernel
theorem g122_33 : m_get 122 33 = some (.aload_n 0, 1) := by decide +kernel
theorem g122_34 : m_get 122 34 = some (.iload_n 1, 1) := by decide +kernel
theorem g122_35 : m_get 122 35 = some (.invokevirtual 146, 3) := by decide +kernel
theorem g122_38 : m_get 122 38 = some (.ifCond .eq 7, 3) := by decide +kernel
theorem g122_41 : m_get 122 41 = some (.iconst 1, 1) := by decide +kernel
theorem g122_42 : m_get 122 42 = some (.goto 4, 3) := by decide +kernel
theorem g122_45 : m_get 122 45 = some (.iconst 0, 1) := by decide +kernel
theorem g122_46 : m_get 122 46 = some (.ireturn, 1) := by decide +kernel
theorem k122_81 : m_ml (m_own 122) 81 = some (1, 97) := by decide +kernel
theorem k122_119 : m_ml (m_own 122) 119 = some (0, 113) := by decide +kernel
theorem k122_143 : m_ml (m_own 122) 143 = some (0, 110) := by decide +kernel
theorem k122_146 : m_ml (m_own 122) 146 = some (0, 114) := by decide +kernel
theorem g123_0 : m_get 123 0 = some (.iconst 0, 1) := by decide +kernel
theorem g123_1 : m_get 123 1 = some (.istore_n 1, 1) := by decide +kernel
theorem g123_2 : m_get 123 2 = some (.iconst 0, 1) := by decide +kernel
theorem g123_3 : m_get 123 3 = some (.istore_n 2, 1) := by decide +kernel
theorem g123_4 : m_get 123 4 = some (.iload_n 2, 1) := by decide +kernel
theorem g123_5 : m_get 123 5 = some (.aload_n 0, 1) := by decide +kernel
theorem g123_6 : m_get 123 6 = some (.invokevirtual 116, 3) := by decide +kernel
theorem g123_9 : m_get 123 9 = some (.if_icmp .ge 28, 3) := by decide +kernel
theorem g123_12 : m_get 123 12 = some (.iload_n 1, 1) := by decide +kernel
theorem g123_13 : m_get 123 13 = some (.aload_n 0, 1) := by decide +kernel
theorem g123_14 : m_get 123 14 = some (.getfield 16, 3) := by decide +kernel
theorem g123_17 : m_get 123 17 = some (.iload_n 2, 1) := by decide +kernel
theorem g123_18 : m_get 123 18 = some (.iaload, 1) := by decide +kernel
theorem g123_19 : m_get 123 19 = some (.bipush (-9), 2) := by decide +kernel
theorem g123_21 : m_get 123 21 = some (.if_icmp .ne 7, 3) := by decide +kernel
theorem g123_24 : m_get 123 24 = some (.iconst 1, 1) := by decide +kernel
theorem g123_25 : m_get 123 25 = some (.goto 4, 3) := by decide +kernel
theorem g123_28 : m_get 123 28 = some (.iconst 0, 1) := by decide +kernel
theorem g123_29 : m_get 123 29 = some (.iadd, 1) := by decide +kernel
theorem g123_30 : m_get 123 30 = some (.istore_n 1, 1) := by decide +kernel
theorem g123_31 : m_get 123 31 = some (.iinc 2 1, 3) := by decide +kernel
theorem g123_34 : m_get 123 34 = some (.goto (-30), 3) := by decide +kernel
theorem g123_37 : m_get 123 37 = some (.iload_n 1, 1) := by decide +kernel
theorem g123_38 : m_get 123 38 = some (.ireturn, 1) := by decide +kernel
theorem f123_16 : m_fl (m_own 123) 16 = some (7, 3) := by decide +kernel
theorem k123_116 : m_ml (m_own 123) 116 = some (0, 111) := by decide +kernel
theorem g124_0 : m_get 124 0 = some (.aload_n 0, 1) := by decide +kernel
theorem g124_1 : m_get 124 1 = some (.getfield 78, 3) := by decide +kernel
theorem g124_4 : m_get 124 4 = some (.bipush 10, 2) := by decide +kernel
theorem g124_6 : m_get 124 6 = some (.if_icmp .ne 43, 3) := by decide +kernel
theorem g124_9 : m_get 124 9 = some (.iconst 0, 1) := by decide +kernel
theorem g124_10 : m_get 124 10 = some (.istore_n 1, 1) := by decide +kernel
theorem g124_11 : m_get 124 11 = some (.iload_n 1, 1) := by decide +kernel
theorem g124_12 : m_get 124 12 = some (.sipush 135, 3) := by decide +kernel
theorem g124_15 : m_get 124 15 = some (.if_icmp .ge 24, 3) := by decide +kernel
theorem g124_18 : m_get 124 18 = some (.aload_n 0, 1) := by decide +kernel
theorem g124_19 : m_get 124 19 = some (.getfield 19, 3) := by decide +kernel
theorem g124_22 : m_get 124 22 = some (.iload_n 1, 1) := by decide +kernel
theorem g124_23 : m_get 124 23 = some (.aload_n 0, 1) := by decide +kernel
theorem g124_24 : m_get 124 24 = some (.getfield 19, 3) := by decide +kernel
theorem g124_27 : m_get 124 27 = some (.iload_n 1, 1) := by decide +kernel
theorem g124_28 : m_get 124 28 = some (.bipush 15, 2) := by decide +kernel
theorem g124_30 : m_get 124 30 = some (.iadd, 1) := by decide +kernel
theorem g124_31 : m_get 124 31 = some (.iaload, 1) := by decide +kernel
theorem g124_32 : m_get 124 32 = some (.iastore, 1) := by decide +kernel
theorem g124_33 : m_get 124 33 = some (.iinc 1 1, 3) := by decide +kernel
theorem g124_36 : m_get 124 36 = some (.goto (-25), 3) := by decide +kernel
theorem g124_39 : m_get 124 39 = some (.aload_n 0, 1) := by decide +kernel
theorem g124_40 : m_get 124 40 = some (.dup, 1) := by decide +kernel
theorem g124_41 : m_get 124 41 = some (.getfield 78, 3) := by decide +kernel
theorem g124_44 : m_get 124 44 = some (.iconst 1, 1) := by decide +kernel
theorem g124_45 : m_get 124 45 = some (.isub, 1) := by decide +kernel
theorem g124_46 : m_get 124 46 = some (.putfield 78, 3) := by decide +kernel
theorem g124_49 : m_get 124 49 = some (.iconst 0, 1) := by decide +kernel
theorem g124_50 : m_get 124 50 = some (.istore_n 1, 1) := by decide +kernel
theorem g124_51 : m_get 124 51 = some (.iload_n 1, 1) := by decide +kernel
theorem g124_52 : m_get 124 52 = some (.bipush 15, 2) := by decide +kernel
theorem g124_54 : m_get 124 54 = some (.if_icmp .ge 29, 3) := by decide +kernel
theorem g124_57 : m_get 124 57 = some (.aload_n 0, 1) := by decide +kernel
theorem g124_58 : m_get 124 58 = some (.getfield 19, 3) := by decide +kernel
theorem g124_61 : m_get 124 61 = some (.bipush 15, 2) := by decide +kernel
theorem g124_63 : m_get 124 63 = some (.aload_n 0, 1) := by decide +kernel
theorem g124_64 : m_get 124 64 = some (.getfield 78, 3) := by decide +kernel
theorem g124_67 : m_get 124 67 = some (.imul, 1) := by decide +kernel
theorem g124_68 : m_get 124 68 = some (.iload_n 1, 1) := by decide +kernel
theorem g124_69 : m_get 124 69 = some (.iadd, 1) := by decide +kernel
theorem g124_70 : m_get 124 70 = some (.aload_n 0, 1) := by decide +kernel
theorem g124_71 : m_get 124 71 = some (.getfield 16, 3) := by decide +kernel
theorem g124_74 : m_get 124 74 = some (.iload_n 1, 1) := by decide +kernel
theorem g124_75 : m_get 124 75 = some (.iaload, 1) := by decide +kernel
theorem g124_76 : m_get 124 76 = some (.iastore, 1) := by decide +kernel
theorem g124_77 : m_get 124 77 = some (.iinc 1 1, 3) := by decide +kernel
theorem g124_80 : m_get 124 80 = some (.goto (-29), 3) := by decide +kernel
theorem g124_83 : m_get 124 83 = some (.aload_n 0, 1) := by decide +kernel
theorem g124_84 : m_get 124 84 = some (.dup, 1) := by decide +kernel
theorem g124_85 : m_get 124 85 = some (.getfield 78, 3) := by decide +kernel
theorem g124_88 : m_get 124 88 = some (.iconst 1, 1) := by decide +kernel
theorem g124_89 : m_get 124 89 = some (.iadd, 1) := by decide +kernel
theorem g124_90 : m_get 124 90 = some (.putfield 78, 3) := by decide +kernel
theorem g124_93 : m_get 124 93 = some (.return_, 1) := by decide +kernel
theorem f124_16 : m_fl (m_own 124) 16 = some (7, 3) := by decide +kernel
theorem f124_19 : m_fl (m_own 124) 19 = some (7, 5) := by decide +kernel
theorem f124_78 : m_fl (m_own 124) 78 = some (7, 4) := by decide +kernel
theorem g125_0 : m_get 125 0 = some (.aload_n 0, 1) := by decide +kernel
theorem g125_1 : m_get 125 1 = some (.iload_n 1, 1) := by decide +kernel
theorem g125_2 : m_get 125 2 = some (.invokevirtual 149, 3) := by decide +kernel
theorem g125_5 : m_get 125 5 = some (.ifCond .eq 11, 3) := by decide +kernel
theorem g125_8 : m_get 125 8 = some (.aload_n 0, 1) := by decide +kernel
theorem g125_9 : m_get 125 9 = some (.iload_n 2, 1) := by decide +kernel
theorem g125_10 : m_get 125 10 = some (.invokevirtual 143, 3) := by decide +kernel
theorem g125_13 : m_get 125 13 = some (.ifCond .ne 5, 3) := by decide +kernel
theorem g125_16 : m_get 125 16 = some (.iconst (-1), 1) := by decide +kernel
theorem g125_17 : m_get 125 17 = some (.ireturn, 1) := by decide +kernel
theorem g125_18 : m_get 125 18 = some (.aload_n 0, 1) := by decide +kernel
theorem g125_19 : m_get 125 19 = some (.getfield 16, 3) := by decide +kernel
theorem g125_22 : m_get 125 22 = some (.iload_n 1, 1) := by decide +kernel
theorem g125_23 : m_get 125 23 = some (.iaload, 1) := by decide +kernel
theorem g125_24 : m_get 125 24 = some (.bipush (-9), 2) := by decide +kernel
theorem g125_26 : m_get 125 26 = some (.if_icmp .eq 6, 3) := by decide +kernel
theorem g125_29 : m_get 125 29 = some (.bipush (-2), 2) := by decide +kernel
theorem g125_31 : m_get 125 31 = some (.ireturn, 1) := by decide +kernel
theorem g125_32 : m_get 125 32 = some (.aload_n 0, 1) := by decide +kernel
theorem g125_33 : m_get 125 33 = some (.invokevirtual 140, 3) := by decide +kernel
theorem g125_36 : m_get 125 36 = some (.aload_n 0, 1) := by decide +kernel
theorem g125_37 : m_get 125 37 = some (.iload_n 1, 1) := by decide +kernel
theorem g125_38 : m_get 125 38 = some (.iload_n 2, 1) := by decide +kernel
theorem g125_39 : m_get 125 39 = some (.invokevirtual 152, 3) := by decide +kernel
theorem g125_42 : m_get 125 42 = some (.istore_n 3, 1) := by decide +kernel
theorem g125_43 : m_get 125 43 = some (.iload_n 3, 1) := by decide +kernel
theorem g125_44 : m_get 125 44 = some (.ifCond .eq 8, 3) := by decide +kernel
theorem g125_47 : m_get 125 47 = some (.bipush (-10), 2) := by decide +kernel
theorem g125_49 : m_get 125 49 = some (.iload_n 3, 1) := by decide +kernel
theorem g125_50 : m_get 125 50 = some (.isub, 1) := by decide +kernel
theorem g125_51 : m_get 125 51 = some (.ireturn, 1) := by decide +kernel
theorem g125_52 : m_get 125 52 = some (.aload_n 0, 1) := by decide +kernel
theorem g125_53 : m_get 125 53 = some (.invokevirtual 155, 3) := by decide +kernel
theorem g125_56 : m_get 125 56 = some (.aload_n 0, 1) := by decide +kernel
theorem g125_57 : m_get 125 57 = some (.getfield 16, 3) := by decide +kernel
theorem g125_60 : m_get 125 60 = some (.iload_n 1, 1) := by decide +kernel
theorem g125_61 : m_get 125 61 = some (.iload_n 2, 1) := by decide +kernel
theorem g125_62 : m_get 125 62 = some (.iastore, 1) := by decide +kernel
theorem g125_63 : m_get 125 63 = some (.aload_n 0, 1) := by decide +kernel
theorem g125_64 : m_get 125 64 = some (.invokevirtual 158, 3) := by decide +kernel
theorem g125_67 : m_get 125 67 = some (.ireturn, 1) := by decide +kernel
theorem f125_16 : m_fl (m_own 125) 16 = some (7, 3) := by decide +kernel
theorem k125_140 : m_ml (m_own 125) 140 = some (0, 116) := by decide +kernel
theorem k125_143 : m_ml (m_own 125) 143 = some (0, 110) := by decide +kernel
theorem k125_149 : m_ml (m_own 125) 149 = some (0, 112) := by decide +kernel
theorem k125_152 : m_ml (m_own 125) 152 = some (0, 120) := by decide +kernel
theorem k125_155 : m_ml (m_own 125) 155 = some (0, 124) := by decide +kernel
theorem k125_158 : m_ml (m_own 125) 158 = some (0, 123) := by decide +kernel
theorem g126_0 : m_get 126 0 = some (.aload_n 0, 1) := by decide +kernel
theorem g126_1 : m_get 126 1 = some (.iload_n 1, 1) := by decide +kernel
theorem g126_2 : m_get 126 2 = some (.invokevirtual 149, 3) := by decide +kernel
theorem g126_5 : m_get 126 5 = some (.ifCond .ne 5, 3) := by decide +kernel
theorem g126_8 : m_get 126 8 = some (.iconst (-1), 1) := by decide +kernel
theorem g126_9 : m_get 126 9 = some (.ireturn, 1) := by decide +kernel
theorem g126_10 : m_get 126 10 = some (.aload_n 0, 1) := by decide +kernel
theorem g126_11 : m_get 126 11 = some (.getfield 16, 3) := by decide +kernel
theorem g126_14 : m_get 126 14 = some (.iload_n 1, 1) := by decide +kernel
theorem g126_15 : m_get 126 15 = some (.iaload, 1) := by decide +kernel
theorem g126_16 : m_get 126 16 = some (.istore_n 2, 1) := by decide +kernel
theorem g126_17 : m_get 126 17 = some (.iload_n 2, 1) := by decide +kernel
theorem g126_18 : m_get 126 18 = some (.bipush (-9), 2) := by decide +kernel
theorem g126_20 : m_get 126 20 = some (.if_icmp .ne 6, 3) := by decide +kernel
theorem g126_23 : m_get 126 23 = some (.bipush (-2), 2) := by decide +kernel
theorem g126_25 : m_get 126 25 = some (.ireturn, 1) := by decide +kernel
theorem g126_26 : m_get 126 26 = some (.aload_n 0, 1) := by decide +kernel
theorem g126_27 : m_get 126 27 = some (.invokevirtual 155, 3) := by decide +kernel
theorem g126_30 : m_get 126 30 = some (.aload_n 0, 1) := by decide +kernel
theorem g126_31 : m_get 126 31 = some (.getfield 16, 3) := by decide +kernel
theorem g126_34 : m_get 126 34 = some (.iload_n 1, 1) := by decide +kernel
theorem g126_35 : m_get 126 35 = some (.bipush (-9), 2) := by decide +kernel
theorem g126_37 : m_get 126 37 = some (.iastore, 1) := by decide +kernel
theorem g126_38 : m_get 126 38 = some (.iload_n 2, 1) := by decide +kernel
theorem g126_39 : m_get 126 39 = some (.ireturn, 1) := by decide +kernel
theorem f126_16 : m_fl (m_own 126) 16 = some (7, 3) := by decide +kernel
theorem k126_149 : m_ml (m_own 126) 149 = some (0, 112) := by decide +kernel
theorem k126_155 : m_ml (m_own 126) 155 = some (0, 124) := by decide +kernel
theorem g127_0 : m_get 127 0 = some (.aload_n 0, 1) := by decide +kernel
theorem g127_1 : m_get 127 1 = some (.iload_n 1, 1) := by decide +kernel
theorem g127_2 : m_get 127 2 = some (.invokevirtual 136, 3) := by decide +kernel
theorem g127_5 : m_get 127 5 = some (.ifCond .eq 13, 3) := by decide +kernel
theorem g127_8 : m_get 127 8 = some (.iload_n 2, 1) := by decide +kernel
theorem g127_9 : m_get 127 9 = some (.iconst 0, 1) := by decide +kernel
theorem g127_10 : m_get 127 10 = some (.bipush 9, 2) := by decide +kernel
theorem g127_12 : m_get 127 12 = some (.invokestatic 81, 3) := by decide +kernel
theorem g127_15 : m_get 127 15 = some (.ifCond .ne 5, 3) := by decide +kernel
theorem g127_18 : m_get 127 18 = some (.iconst (-1), 1) := by decide +kernel
theorem g127_19 : m_get 127 19 = some (.ireturn, 1) := by decide +kernel
theorem g127_20 : m_get 127 20 = some (.aload_n 0, 1) := by decide +kernel
theorem g127_21 : m_get 127 21 = some (.getfield 16, 3) := by decide +kernel
theorem g127_24 : m_get 127 24 = some (.bipush 9, 2) := by decide +kernel
theorem g127_26 : m_get 127 26 = some (.iload_n 1, 1) := by decide +kernel
theorem g127_27 : m_get 127 27 = some (.iadd, 1) := by decide +kernel
theorem g127_28 : m_get 127 28 = some (.iaload, 1) := by decide +kernel
theorem g127_29 : m_get 127 29 = some (.istore_n 3, 1) := by decide +kernel
theorem g127_30 : m_get 127 30 = some (.iload_n 3, 1) := by decide +kernel
theorem g127_31 : m_get 127 31 = some (.iload_n 2, 1) := by decide +kernel
theorem g127_32 : m_get 127 32 = some (.if_icmp .ne 6, 3) := by decide +kernel
theorem g127_35 : m_get 127 35 = some (.bipush (-2), 2) := by decide +kernel
theorem g127_37 : m_get 127 37 = some (.ireturn, 1) := by decide +kernel
theorem g127_38 : m_get 127 38 = some (.aload_n 0, 1) := by decide +kernel
theorem g127_39 : m_get 127 39 = some (.invokevirtual 155, 3) := by decide +kernel
theorem g127_42 : m_get 127 42 = some (.aload_n 0, 1) := by decide +kernel
theorem g127_43 : m_get 127 43 = some (.getfield 16, 3) := by decide +kernel
theorem g127_46 : m_get 127 46 = some (.bipush 9, 2) := by decide +kernel
theorem g127_48 : m_get 127 48 = some (.iload_n 1, 1) := by decide +kernel
theorem g127_49 : m_get 127 49 = some (.iadd, 1) := by decide +kernel
theorem g127_50 : m_get 127 50 = some (.iload_n 2, 1) := by decide +kernel
theorem g127_51 : m_get 127 51 = some (.iastore, 1) := by decide +kernel
theorem g127_52 : m_get 127 52 = some (.iload_n 3, 1) := by decide +kernel
theorem g127_53 : m_get 127 53 = some (.ireturn, 1) := by decide +kernel
theorem f127_16 : m_fl (m_own 127) 16 = some (7, 3) := by decide +kernel
theorem k127_81 : m_ml (m_own 127) 81 = some (1, 97) := by decide +kernel
theorem k127_136 : m_ml (m_own 127) 136 = some (0, 109) := by decide +kernel
theorem k127_155 : m_ml (m_own 127) 155 = some (0, 124) := by decide +kernel
theorem g128_0 : m_get 128 0 = some (.aload_n 0, 1) := by decide +kernel
theorem g128_1 : m_get 128 1 = some (.invokevirtual 116, 3) := by decide +kernel
theorem g128_4 : m_get 128 4 = some (.aload_n 0, 1) := by decide +kernel
theorem g128_5 : m_get 128 5 = some (.invokevirtual 158, 3) := by decide +kernel
theorem g128_8 : m_get 128 8 = some (.isub, 1) := by decide +kernel
theorem g128_9 : m_get 128 9 = some (.istore_n 1, 1) := by decide +kernel
theorem g128_10 : m_get 128 10 = some (.aload_n 0, 1) := by decide +kernel
theorem g128_11 : m_get 128 11 = some (.invokevirtual 155, 3) := by decide +kernel
theorem g128_14 : m_get 128 14 = some (.iconst 0, 1) := by decide +kernel
theorem g128_15 : m_get 128 15 = some (.istore_n 2, 1) := by decide +kernel
theorem g128_16 : m_get 128 16 = some (.iload_n 2, 1) := by decide +kernel
theorem g128_17 : m_get 128 17 = some (.bipush 9, 2) := by decide +kernel
theorem g128_19 : m_get 128 19 = some (.if_icmp .ge 17, 3) := by decide +kernel
theorem g128_22 : m_get 128 22 = some (.aload_n 0, 1) := by decide +kernel
theorem g128_23 : m_get 128 23 = some (.getfield 16, 3) := by decide +kernel
theorem g128_26 : m_get 128 26 = some (.iload_n 2, 1) := by decide +kernel
theorem g128_27 : m_get 128 27 = some (.bipush (-9), 2) := by decide +kernel
theorem g128_29 : m_get 128 29 = some (.iastore, 1) := by decide +kernel
theorem g128_30 : m_get 128 30 = some (.iinc 2 1, 3) := by decide +kernel
theorem g128_33 : m_get 128 33 = some (.goto (-17), 3) := by decide +kernel
theorem g128_36 : m_get 128 36 = some (.iload_n 1, 1) := by decide +kernel
theorem g128_37 : m_get 128 37 = some (.ireturn, 1) := by decide +kernel
theorem f128_16 : m_fl (m_own 128) 16 = some (7, 3) := by decide +kernel
theorem k128_116 : m_ml (m_own 128) 116 = some (0, 111) := by decide +kernel
theorem k128_155 : m_ml (m_own 128) 155 = some (0, 124) := by decide +kernel
theorem k128_158 : m_ml (m_own 128) 158 = some (0, 123) := by decide +kernel
theorem g129_0 : m_get 129 0 = some (.aload_n 0, 1) := by decide +kernel
theorem g129_1 : m_get 129 1 = some (.getfield 78, 3) := by decide +kernel
theorem g129_4 : m_get 129 4 = some (.ifCond .ne 6, 3) := by decide +kernel
theorem g129_7 : m_get 129 7 = some (.bipush (-2), 2) := by decide +kernel
theorem g129_9 : m_get 129 9 = some (.ireturn, 1) := by decide +kernel
theorem g129_10 : m_get 129 10 = some (.aload_n 0, 1) := by decide +kernel
theorem g129_11 : m_get 129 11 = some (.dup, 1) := by decide +kernel
theorem g129_12 : m_get 129 12 = some (.getfield 78, 3) := by decide +kernel
theorem g129_15 : m_get 129 15 = some (.iconst 1, 1) := by decide +kernel
theorem g129_16 : m_get 129 16 = some (.isub, 1) := by decide +kernel
theorem g129_17 : m_get 129 17 = some (.putfield 78, 3) := by decide +kernel
theorem g129_20 : m_get 129 20 = some (.iconst 0, 1) := by decide +kernel
theorem g129_21 : m_get 129 21 = some (.istore_n 1, 1) := by decide +kernel
theorem g129_22 : m_get 129 22 = some (.iload_n 1, 1) := by decide +kernel
theorem g129_23 : m_get 129 23 = some (.bipush 15, 2) := by decide +kernel
theorem g129_25 : m_get 129 25 = some (.if_icmp .ge 29, 3) := by decide +kernel
theorem g129_28 : m_get 129 28 = some (.aload_n 0, 1) := by decide +kernel
theorem g129_29 : m_get 129 29 = some (.getfield 16, 3) := by decide +kernel
theorem g129_32 : m_get 129 32 = some (.iload_n 1, 1) := by decide +kernel
theorem g129_33 : m_get 129 33 = some (.aload_n 0, 1) := by decide +kernel
theorem g129_34 : m_get 129 34 = some (.getfield 19, 3) := by decide +kernel
theorem g129_37 : m_get 129 37 = some (.bipush 15, 2) := by decide +kernel
theorem g129_39 : m_get 129 39 = some (.aload_n 0, 1) := by decide +kernel
theorem g129_40 : m_get 129 40 = some (.getfield 78, 3) := by decide +kernel
theorem g129_43 : m_get 129 43 = some (.imul, 1) := by decide +kernel
theorem g129_44 : m_get 129 44 = some (.iload_n 1, 1) := by decide +kernel
theorem g129_45 : m_get 129 45 = some (.iadd, 1) := by decide +kernel
theorem g129_46 : m_get 129 46 = some (.iaload, 1) := by decide +kernel
theorem g129_47 : m_get 129 47 = some (.iastore, 1) := by decide +kernel
theorem g129_48 : m_get 129 48 = some (.iinc 1 1, 3) := by decide +kernel
theorem g129_51 : m_get 129 51 = some (.goto (-29), 3) := by decide +kernel
theorem g129_54 : m_get 129 54 = some (.aload_n 0, 1) := by decide +kernel
theorem g129_55 : m_get 129 55 = some (.getfield 78, 3) := by decide +kernel
theorem g129_58 : m_get 129 58 = some (.ireturn, 1) := by decide +kernel
theorem f129_16 : m_fl (m_own 129) 16 = some (7, 3) := by decide +kernel
theorem f129_19 : m_fl (m_own 129) 19 = some (7, 5) := by decide +kernel
theorem f129_78 : m_fl (m_own 129) 78 = some (7, 4) := by decide +kernel
theorem g130_0 : m_get 130 0 = some (.aload_n 0, 1) := by decide +kernel
theorem g130_1 : m_get 130 1 = some (.iload_n 1, 1) := by decide +kernel
theorem g130_2 : m_get 130 2 = some (.invokevirtual 149, 3) := by decide +kernel
theorem g130_5 : m_get 130 5 = some (.ifCond .eq 12, 3) := by decide +kernel
theorem g130_8 : m_get 130 8 = some (.aload_n 0, 1) := by decide +kernel
theorem g130_9 : m_get 130 9 = some (.getfield 16, 3) := by decide +kernel
theorem g130_12 : m_get 130 12 = some (.iload_n 1, 1) := by decide +kernel
theorem g130_13 : m_get 130 13 = some (.iaload, 1) := by decide +kernel
theorem g130_14 : m_get 130 14 = some (.goto 4, 3) := by decide +kernel
theorem g130_17 : m_get 130 17 = some (.iconst (-1), 1) := by decide +kernel
theorem g130_18 : m_get 130 18 = some (.ireturn, 1) := by decide +kernel
theorem f130_16 : m_fl (m_own 130) 16 = some (7, 3) := by decide +kernel
theorem k130_149 : m_ml (m_own 130) 149 = some (0, 112) := by decide +kernel
theorem g131_0 : m_get 131 0 = some (.aload_n 0, 1) := by decide +kernel
theorem g131_1 : m_get 131 1 = some (.iload_n 1, 1) := by decide +kernel
theorem g131_2 : m_get 131 2 = some (.invokevirtual 149, 3) := by decide +kernel
theorem g131_5 : m_get 131 5 = some (.ifCond .eq 11, 3) := by decide +kernel
theorem g131_8 : m_get 131 8 = some (.aload_n 0, 1) := by decide +kernel
theorem g131_9 : m_get 131 9 = some (.iload_n 2, 1) := by decide +kernel
theorem g131_10 : m_get 131 10 = some (.invokevirtual 143, 3) := by decide +kernel
theorem g131_13 : m_get 131 13 = some (.ifCond .ne 5, 3) := by decide +kernel
theorem g131_16 : m_get 131 16 = some (.iconst (-1), 1) := by decide +kernel
theorem g131_17 : m_get 131 17 = some (.ireturn, 1) := by decide +kernel
theorem g131_18 : m_get 131 18 = some (.aload_n 0, 1) := by decide +kernel
theorem g131_19 : m_get 131 19 = some (.getfield 16, 3) := by decide +kernel
theorem g131_22 : m_get 131 22 = some (.iload_n 1, 1) := by decide +kernel
theorem g131_23 : m_get 131 23 = some (.iaload, 1) := by decide +kernel
theorem g131_24 : m_get 131 24 = some (.bipush (-9), 2) := by decide +kernel
theorem g131_26 : m_get 131 26 = some (.if_icmp .eq 6, 3) := by decide +kernel
theorem g131_29 : m_get 131 29 = some (.bipush (-2), 2) := by decide +kernel
theorem g131_31 : m_get 131 31 = some (.ireturn, 1) := by decide +kernel
theorem g131_32 : m_get 131 32 = some (.aload_n 0, 1) := by decide +kernel
theorem g131_33 : m_get 131 33 = some (.invokevirtual 140, 3) := by decide +kernel
theorem g131_36 : m_get 131 36 = some (.aload_n 0, 1) := by decide +kernel
theorem g131_37 : m_get 131 37 = some (.iload_n 1, 1) := by decide +kernel
theorem g131_38 : m_get 131 38 = some (.iload_n 2, 1) := by decide +kernel
theorem g131_39 : m_get 131 39 = some (.invokevirtual 152, 3) := by decide +kernel
theorem g131_42 : m_get 131 42 = some (.ireturn, 1) := by decide +kernel
theorem f131_16 : m_fl (m_own 131) 16 = some (7, 3) := by decide +kernel
theorem k131_140 : m_ml (m_own 131) 140 = some (0, 116) := by decide +kernel
theorem k131_143 : m_ml (m_own 131) 143 = some (0, 110) := by decide +kernel
theorem k131_149 : m_ml (m_own 131) 149 = some (0, 112) := by decide +kernel
theorem k131_152 : m_ml (m_own 131) 152 = some (0, 120) := by decide +kernel
theorem g132_0 : m_get 132 0 = some (.iconst 0, 1) := by decide +kernel
theorem g132_1 : m_get 132 1 = some (.istore 4, 2) := by decide +kernel
theorem g132_3 : m_get 132 3 = some (.iconst 0, 1) := by decide +kernel
theorem g132_4 : m_get 132 4 = some (.istore 5, 2) := by decide +kernel
theorem g132_6 : m_get 132 6 = some (.iload 5, 2) := by decide +kernel
theorem g132_8 : m_get 132 8 = some (.iconst 4, 1) := by decide +kernel
theorem g132_9 : m_get 132 9 = some (.aload_n 0, 1) := by decide +kernel
theorem g132_10 : m_get 132 10 = some (.getfield 75, 3) := by decide +kernel
theorem g132_13 : m_get 132 13 = some (.imul, 1) := by decide +kernel
theorem g132_14 : m_get 132 14 = some (.if_icmp .ge 47, 3) := by decide +kernel
theorem g132_17 : m_get 132 17 = some (.iload 4, 2) := by decide +kernel
theorem g132_19 : m_get 132 19 = some (.ifCond .ne 29, 3) := by decide +kernel
theorem g132_22 : m_get 132 22 = some (.aload_n 0, 1) := by decide +kernel
theorem g132_23 : m_get 132 23 = some (.getfield 44, 3) := by decide +kernel
theorem g132_26 : m_get 132 26 = some (.iload_n 1, 1) := by decide +kernel
theorem g132_27 : m_get 132 27 = some (.iaload, 1) := by decide +kernel
theorem g132_28 : m_get 132 28 = some (.iload 5, 2) := by decide +kernel
theorem g132_30 : m_get 132 30 = some (.ishr, 1) := by decide +kernel
theorem g132_31 : m_get 132 31 = some (.iconst 1, 1) := by decide +kernel
theorem g132_32 : m_get 132 32 = some (.iand, 1) := by decide +kernel
theorem g132_33 : m_get 132 33 = some (.iconst 1, 1) := by decide +kernel
theorem g132_34 : m_get 132 34 = some (.if_icmp .ne 18, 3) := by decide +kernel
theorem g132_37 : m_get 132 37 = some (.aload_n 0, 1) := by decide +kernel
theorem g132_38 : m_get 132 38 = some (.iload 5, 2) := by decide +kernel
theorem g132_40 : m_get 132 40 = some (.iload_n 2, 1) := by decide +kernel
theorem g132_41 : m_get 132 41 = some (.invokevirtual 119, 3) := by decide +kernel
theorem g132_44 : m_get 132 44 = some (.iload_n 3, 1) := by decide +kernel
theorem g132_45 : m_get 132 45 = some (.if_icmp .ne 7, 3) := by decide +kernel
theorem g132_48 : m_get 132 48 = some (.iconst 1, 1) := by decide +kernel
theorem g132_49 : m_get 132 49 = some (.goto 4, 3) := by decide +kernel
theorem g132_52 : m_get 132 52 = some (.iconst 0, 1) := by decide +kernel
theorem g132_53 : m_get 132 53 = some (.istore 4, 2) := by decide +kernel
theorem g132_55 : m_get 132 55 = some (.iinc 5 1, 3) := by decide +kernel
theorem g132_58 : m_get 132 58 = some (.goto (-52), 3) := by decide +kernel
theorem g132_61 : m_get 132 61 = some (.iload 4, 2) := by decide +kernel
theorem g132_63 : m_get 132 63 = some (.ireturn, 1) := by decide +kernel
theorem f132_44 : m_fl (m_own 132) 44 = some (7, 18) := by decide +kernel
theorem f132_75 : m_fl (m_own 132) 75 = some (7, 0) := by decide +kernel
theorem k132_119 : m_ml (m_own 132) 119 = some (0, 113) := by decide +kernel
theorem g133_0 : m_get 133 0 = some (.iconst 1, 1) := by decide +kernel
theorem g133_1 : m_get 133 1 = some (.istore_n 3, 1) := by decide +kernel
theorem g133_2 : m_get 133 2 = some (.iconst 0, 1) := by decide +kernel
theorem g133_3 : m_get 133 3 = some (.istore 4, 2) := by decide +kernel
theorem g133_5 : m_get 133 5 = some (.iload 4, 2) := by decide +kernel
theorem g133_7 : m_get 133 7 = some (.iconst 4, 1) := by decide +kernel
theorem g133_8 : m_get 133 8 = some (.if_icmp .ge 69, 3) := by decide +kernel
theorem g133_11 : m_get 133 11 = some (.aload_n 0, 1) := by decide +kernel
theorem g133_12 : m_get 133 12 = some (.iload_n 1, 1) := by decide +kernel
theorem g133_13 : m_get 133 13 = some (.iload 4, 2) := by decide +kernel
theorem g133_15 : m_get 133 15 = some (.invokevirtual 130, 3) := by decide +kernel
theorem g133_18 : m_get 133 18 = some (.istore 5, 2) := by decide +kernel
theorem g133_20 : m_get 133 20 = some (.iload_n 3, 1) := by decide +kernel
theorem g133_21 : m_get 133 21 = some (.ifCond .eq 48, 3) := by decide +kernel
theorem g133_24 : m_get 133 24 = some (.iload 5, 2) := by decide +kernel
theorem g133_26 : m_get 133 26 = some (.bipush (-9), 2) := by decide +kernel
theorem g133_28 : m_get 133 28 = some (.if_icmp .eq 37, 3) := by decide +kernel
theorem g133_31 : m_get 133 31 = some (.aload_n 0, 1) := by decide +kernel
theorem g133_32 : m_get 133 32 = some (.getfield 16, 3) := by decide +kernel
theorem g133_35 : m_get 133 35 = some (.iload 5, 2) := by decide +kernel
theorem g133_37 : m_get 133 37 = some (.iaload, 1) := by decide +kernel
theorem g133_38 : m_get 133 38 = some (.bipush (-9), 2) := by decide +kernel
theorem g133_40 : m_get 133 40 = some (.if_icmp .ne 25, 3) := by decide +kernel
theorem g133_43 : m_get 133 43 = some (.aload_n 0, 1) := by decide +kernel
theorem g133_44 : m_get 133 44 = some (.iload 5, 2) := by decide +kernel
theorem g133_46 : m_get 133 46 = some (.iload 4, 2) := by decide +kernel
theorem g133_48 : m_get 133 48 = some (.iconst 2, 1) := by decide +kernel
theorem g133_49 : m_get 133 49 = some (.iadd, 1) := by decide +kernel
theorem g133_50 : m_get 133 50 = some (.iconst 4, 1) := by decide +kernel
theorem g133_51 : m_get 133 51 = some (.irem, 1) := by decide +kernel
theorem g133_52 : m_get 133 52 = some (.aload_n 0, 1) := by decide +kernel
theorem g133_53 : m_get 133 53 = some (.iload_n 2, 1) := by decide +kernel
theorem g133_54 : m_get 133 54 = some (.iload 4, 2) := by decide +kernel
theorem g133_56 : m_get 133 56 = some (.invokevirtual 119, 3) := by decide +kernel
theorem g133_59 : m_get 133 59 = some (.invokevirtual 161, 3) := by decide +kernel
theorem g133_62 : m_get 133 62 = some (.ifCond .eq 7, 3) := by decide +kernel
theorem g133_65 : m_get 133 65 = some (.iconst 1, 1) := by decide +kernel
theorem g133_66 : m_get 133 66 = some (.goto 4, 3) := by decide +kernel
theorem g133_69 : m_get 133 69 = some (.iconst 0, 1) := by decide +kernel
theorem g133_70 : m_get 133 70 = some (.istore_n 3, 1) := by decide +kernel
theorem g133_71 : m_get 133 71 = some (.iinc 4 1, 3) := by decide +kernel
theorem g133_74 : m_get 133 74 = some (.goto (-69), 3) := by decide +kernel
theorem g133_77 : m_get 133 77 = some (.iload_n 3, 1) := by decide +kernel
theorem g133_78 : m_get 133 78 = some (.ireturn, 1) := by decide +kernel
theorem f133_16 : m_fl (m_own 133) 16 = some (7, 3) := by decide +kernel
theorem k133_119 : m_ml (m_own 133) 119 = some (0, 113) := by decide +kernel
theorem k133_130 : m_ml (m_own 133) 130 = some (0, 119) := by decide +kernel
theorem k133_161 : m_ml (m_own 133) 161 = some (0, 132) := by decide +kernel
