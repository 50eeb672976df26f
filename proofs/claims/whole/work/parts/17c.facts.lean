/-! facts of the tables, one by one (printed by gen3.py) -/
theorem g60_0 : m_get 60 0 = some (.aload_n 0, 1) := by decide +kernel
theorem g60_1 : m_get 60 1 = some (.iload_n 1, 1) := by decide +kernel
theorem g60_2 : m_get 60 2 = some (.invokevirtual 123, 3) := by decide +kernel
theorem g60_5 : m_get 60 5 = some (.ifCond .eq 11, 3) := by decide +kernel
theorem g60_8 : m_get 60 8 = some (.aload_n 0, 1) := by decide +kernel
theorem g60_9 : m_get 60 9 = some (.iload_n 2, 1) := by decide +kernel
theorem g60_10 : m_get 60 10 = some (.invokevirtual 117, 3) := by decide +kernel
theorem g60_13 : m_get 60 13 = some (.ifCond .ne 5, 3) := by decide +kernel
theorem g60_16 : m_get 60 16 = some (.iconst (-1), 1) := by decide +kernel
theorem g60_17 : m_get 60 17 = some (.ireturn, 1) := by decide +kernel
theorem g60_18 : m_get 60 18 = some (.aload_n 0, 1) := by decide +kernel
theorem g60_19 : m_get 60 19 = some (.getfield 33, 3) := by decide +kernel
theorem g60_22 : m_get 60 22 = some (.iload_n 1, 1) := by decide +kernel
theorem g60_23 : m_get 60 23 = some (.invokevirtual 126, 3) := by decide +kernel
theorem g60_26 : m_get 60 26 = some (.ifCond .ne 6, 3) := by decide +kernel
theorem g60_29 : m_get 60 29 = some (.bipush (-2), 2) := by decide +kernel
theorem g60_31 : m_get 60 31 = some (.ireturn, 1) := by decide +kernel
theorem g60_32 : m_get 60 32 = some (.aload_n 0, 1) := by decide +kernel
theorem g60_33 : m_get 60 33 = some (.iload_n 1, 1) := by decide +kernel
theorem g60_34 : m_get 60 34 = some (.iload_n 2, 1) := by decide +kernel
theorem g60_35 : m_get 60 35 = some (.invokevirtual 129, 3) := by decide +kernel
theorem g60_38 : m_get 60 38 = some (.istore_n 3, 1) := by decide +kernel
theorem g60_39 : m_get 60 39 = some (.iload_n 3, 1) := by decide +kernel
theorem g60_40 : m_get 60 40 = some (.ifCond .eq 8, 3) := by decide +kernel
theorem g60_43 : m_get 60 43 = some (.bipush (-10), 2) := by decide +kernel
theorem g60_45 : m_get 60 45 = some (.iload_n 3, 1) := by decide +kernel
theorem g60_46 : m_get 60 46 = some (.isub, 1) := by decide +kernel
theorem g60_47 : m_get 60 47 = some (.ireturn, 1) := by decide +kernel
theorem g60_48 : m_get 60 48 = some (.aload_n 0, 1) := by decide +kernel
theorem g60_49 : m_get 60 49 = some (.invokevirtual 132, 3) := by decide +kernel
theorem g60_52 : m_get 60 52 = some (.aload_n 0, 1) := by decide +kernel
theorem g60_53 : m_get 60 53 = some (.getfield 33, 3) := by decide +kernel
theorem g60_56 : m_get 60 56 = some (.getfield 135, 3) := by decide +kernel
theorem g60_59 : m_get 60 59 = some (.iload_n 1, 1) := by decide +kernel
theorem g60_60 : m_get 60 60 = some (.iload_n 2, 1) := by decide +kernel
theorem g60_61 : m_get 60 61 = some (.iastore, 1) := by decide +kernel
theorem g60_62 : m_get 60 62 = some (.aload_n 0, 1) := by decide +kernel
theorem g60_63 : m_get 60 63 = some (.invokevirtual 138, 3) := by decide +kernel
theorem g60_66 : m_get 60 66 = some (.ireturn, 1) := by decide +kernel
theorem f60_33 : m_fl (m_own 60) 33 = some (6, 5) := by decide +kernel
theorem f60_135 : m_fl (m_own 60) 135 = some (2, 0) := by decide +kernel
theorem k60_117 : m_ml (m_own 60) 117 = some (0, 82) := by decide +kernel
theorem k60_123 : m_ml (m_own 60) 123 = some (0, 83) := by decide +kernel
theorem k60_126 : m_ml (m_own 60) 126 = some (0, 17) := by decide +kernel
theorem k60_129 : m_ml (m_own 60) 129 = some (0, 90) := by decide +kernel
theorem k60_132 : m_ml (m_own 60) 132 = some (0, 89) := by decide +kernel
theorem k60_138 : m_ml (m_own 60) 138 = some (0, 87) := by decide +kernel
theorem g61_0 : m_get 61 0 = some (.aload_n 0, 1) := by decide +kernel
theorem g61_1 : m_get 61 1 = some (.iload_n 1, 1) := by decide +kernel
theorem g61_2 : m_get 61 2 = some (.invokevirtual 123, 3) := by decide +kernel
theorem g61_5 : m_get 61 5 = some (.ifCond .ne 5, 3) := by decide +kernel
theorem g61_8 : m_get 61 8 = some (.iconst (-1), 1) := by decide +kernel
theorem g61_9 : m_get 61 9 = some (.ireturn, 1) := by decide +kernel
theorem g61_10 : m_get 61 10 = some (.aload_n 0, 1) := by decide +kernel
theorem g61_11 : m_get 61 11 = some (.getfield 33, 3) := by decide +kernel
theorem g61_14 : m_get 61 14 = some (.iload_n 1, 1) := by decide +kernel
theorem g61_15 : m_get 61 15 = some (.invokevirtual 126, 3) := by decide +kernel
theorem g61_18 : m_get 61 18 = some (.ifCond .eq 6, 3) := by decide +kernel
theorem g61_21 : m_get 61 21 = some (.bipush (-2), 2) := by decide +kernel
theorem g61_23 : m_get 61 23 = some (.ireturn, 1) := by decide +kernel
theorem g61_24 : m_get 61 24 = some (.aload_n 0, 1) := by decide +kernel
theorem g61_25 : m_get 61 25 = some (.invokevirtual 132, 3) := by decide +kernel
theorem g61_28 : m_get 61 28 = some (.aload_n 0, 1) := by decide +kernel
theorem g61_29 : m_get 61 29 = some (.getfield 33, 3) := by decide +kernel
theorem g61_32 : m_get 61 32 = some (.getfield 135, 3) := by decide +kernel
theorem g61_35 : m_get 61 35 = some (.iload_n 1, 1) := by decide +kernel
theorem g61_36 : m_get 61 36 = some (.iaload, 1) := by decide +kernel
theorem g61_37 : m_get 61 37 = some (.istore_n 2, 1) := by decide +kernel
theorem g61_38 : m_get 61 38 = some (.aload_n 0, 1) := by decide +kernel
theorem g61_39 : m_get 61 39 = some (.getfield 33, 3) := by decide +kernel
theorem g61_42 : m_get 61 42 = some (.getfield 135, 3) := by decide +kernel
theorem g61_45 : m_get 61 45 = some (.iload_n 1, 1) := by decide +kernel
theorem g61_46 : m_get 61 46 = some (.bipush (-9), 2) := by decide +kernel
theorem g61_48 : m_get 61 48 = some (.iastore, 1) := by decide +kernel
theorem g61_49 : m_get 61 49 = some (.iload_n 2, 1) := by decide +kernel
theorem g61_50 : m_get 61 50 = some (.ireturn, 1) := by decide +kernel
theorem f61_33 : m_fl (m_own 61) 33 = some (6, 5) := by decide +kernel
theorem f61_135 : m_fl (m_own 61) 135 = some (2, 0) := by decide +kernel
theorem k61_123 : m_ml (m_own 61) 123 = some (0, 83) := by decide +kernel
theorem k61_126 : m_ml (m_own 61) 126 = some (0, 17) := by decide +kernel
theorem k61_132 : m_ml (m_own 61) 132 = some (0, 89) := by decide +kernel
theorem g62_0 : m_get 62 0 = some (.aload_n 0, 1) := by decide +kernel
theorem g62_1 : m_get 62 1 = some (.iload_n 1, 1) := by decide +kernel
theorem g62_2 : m_get 62 2 = some (.invokevirtual 99, 3) := by decide +kernel
theorem g62_5 : m_get 62 5 = some (.ifCond .eq 13, 3) := by decide +kernel
theorem g62_8 : m_get 62 8 = some (.iload_n 2, 1) := by decide +kernel
theorem g62_9 : m_get 62 9 = some (.ifCond .lt 9, 3) := by decide +kernel
theorem g62_12 : m_get 62 12 = some (.iload_n 2, 1) := by decide +kernel
theorem g62_13 : m_get 62 13 = some (.bipush 9, 2) := by decide +kernel
theorem g62_15 : m_get 62 15 = some (.if_icmp .le 5, 3) := by decide +kernel
theorem g62_18 : m_get 62 18 = some (.iconst (-1), 1) := by decide +kernel
theorem g62_19 : m_get 62 19 = some (.ireturn, 1) := by decide +kernel
theorem g62_20 : m_get 62 20 = some (.aload_n 0, 1) := by decide +kernel
theorem g62_21 : m_get 62 21 = some (.getfield 33, 3) := by decide +kernel
theorem g62_24 : m_get 62 24 = some (.getfield 106, 3) := by decide +kernel
theorem g62_27 : m_get 62 27 = some (.iload_n 1, 1) := by decide +kernel
theorem g62_28 : m_get 62 28 = some (.iaload, 1) := by decide +kernel
theorem g62_29 : m_get 62 29 = some (.istore_n 3, 1) := by decide +kernel
theorem g62_30 : m_get 62 30 = some (.iload_n 3, 1) := by decide +kernel
theorem g62_31 : m_get 62 31 = some (.iload_n 2, 1) := by decide +kernel
theorem g62_32 : m_get 62 32 = some (.if_icmp .ne 6, 3) := by decide +kernel
theorem g62_35 : m_get 62 35 = some (.bipush (-2), 2) := by decide +kernel
theorem g62_37 : m_get 62 37 = some (.ireturn, 1) := by decide +kernel
theorem g62_38 : m_get 62 38 = some (.aload_n 0, 1) := by decide +kernel
theorem g62_39 : m_get 62 39 = some (.invokevirtual 132, 3) := by decide +kernel
theorem g62_42 : m_get 62 42 = some (.aload_n 0, 1) := by decide +kernel
theorem g62_43 : m_get 62 43 = some (.getfield 33, 3) := by decide +kernel
theorem g62_46 : m_get 62 46 = some (.getfield 106, 3) := by decide +kernel
theorem g62_49 : m_get 62 49 = some (.iload_n 1, 1) := by decide +kernel
theorem g62_50 : m_get 62 50 = some (.iload_n 2, 1) := by decide +kernel
theorem g62_51 : m_get 62 51 = some (.iastore, 1) := by decide +kernel
theorem g62_52 : m_get 62 52 = some (.iload_n 3, 1) := by decide +kernel
theorem g62_53 : m_get 62 53 = some (.ireturn, 1) := by decide +kernel
theorem f62_33 : m_fl (m_own 62) 33 = some (6, 5) := by decide +kernel
theorem f62_106 : m_fl (m_own 62) 106 = some (2, 1) := by decide +kernel
theorem k62_99 : m_ml (m_own 62) 99 = some (0, 81) := by decide +kernel
theorem k62_132 : m_ml (m_own 62) 132 = some (0, 89) := by decide +kernel
theorem g63_0 : m_get 63 0 = some (.aload_n 0, 1) := by decide +kernel
theorem g63_1 : m_get 63 1 = some (.getfield 23, 3) := by decide +kernel
theorem g63_4 : m_get 63 4 = some (.invokevirtual 142, 3) := by decide +kernel
theorem g63_7 : m_get 63 7 = some (.aload_n 0, 1) := by decide +kernel
theorem g63_8 : m_get 63 8 = some (.invokevirtual 138, 3) := by decide +kernel
theorem g63_11 : m_get 63 11 = some (.isub, 1) := by decide +kernel
theorem g63_12 : m_get 63 12 = some (.istore_n 1, 1) := by decide +kernel
theorem g63_13 : m_get 63 13 = some (.aload_n 0, 1) := by decide +kernel
theorem g63_14 : m_get 63 14 = some (.invokevirtual 132, 3) := by decide +kernel
theorem g63_17 : m_get 63 17 = some (.aload_n 0, 1) := by decide +kernel
theorem g63_18 : m_get 63 18 = some (.getfield 33, 3) := by decide +kernel
theorem g63_21 : m_get 63 21 = some (.invokevirtual 145, 3) := by decide +kernel
theorem g63_24 : m_get 63 24 = some (.iload_n 1, 1) := by decide +kernel
theorem g63_25 : m_get 63 25 = some (.ireturn, 1) := by decide +kernel
theorem f63_23 : m_fl (m_own 63) 23 = some (6, 3) := by decide +kernel
theorem f63_33 : m_fl (m_own 63) 33 = some (6, 5) := by decide +kernel
theorem k63_132 : m_ml (m_own 63) 132 = some (0, 89) := by decide +kernel
theorem k63_138 : m_ml (m_own 63) 138 = some (0, 87) := by decide +kernel
theorem k63_142 : m_ml (m_own 63) 142 = some (0, 36) := by decide +kernel
theorem k63_145 : m_ml (m_own 63) 145 = some (0, 16) := by decide +kernel
theorem g64_0 : m_get 64 0 = some (.aload_n 0, 1) := by decide +kernel
theorem g64_1 : m_get 64 1 = some (.getfield 93, 3) := by decide +kernel
theorem g64_4 : m_get 64 4 = some (.iconst 1, 1) := by decide +kernel
theorem g64_5 : m_get 64 5 = some (.if_icmp .ge 6, 3) := by decide +kernel
theorem g64_8 : m_get 64 8 = some (.bipush (-2), 2) := by decide +kernel
theorem g64_10 : m_get 64 10 = some (.ireturn, 1) := by decide +kernel
theorem g64_11 : m_get 64 11 = some (.aload_n 0, 1) := by decide +kernel
theorem g64_12 : m_get 64 12 = some (.aload_n 0, 1) := by decide +kernel
theorem g64_13 : m_get 64 13 = some (.getfield 148, 3) := by decide +kernel
theorem g64_16 : m_get 64 16 = some (.bipush 10, 2) := by decide +kernel
theorem g64_18 : m_get 64 18 = some (.iadd, 1) := by decide +kernel
theorem g64_19 : m_get 64 19 = some (.iconst 1, 1) := by decide +kernel
theorem g64_20 : m_get 64 20 = some (.isub, 1) := by decide +kernel
theorem g64_21 : m_get 64 21 = some (.bipush 10, 2) := by decide +kernel
theorem g64_23 : m_get 64 23 = some (.irem, 1) := by decide +kernel
theorem g64_24 : m_get 64 24 = some (.putfield 148, 3) := by decide +kernel
theorem g64_27 : m_get 64 27 = some (.aload_n 0, 1) := by decide +kernel
theorem g64_28 : m_get 64 28 = some (.dup, 1) := by decide +kernel
theorem g64_29 : m_get 64 29 = some (.getfield 93, 3) := by decide +kernel
theorem g64_32 : m_get 64 32 = some (.iconst 1, 1) := by decide +kernel
theorem g64_33 : m_get 64 33 = some (.isub, 1) := by decide +kernel
theorem g64_34 : m_get 64 34 = some (.putfield 93, 3) := by decide +kernel
theorem g64_37 : m_get 64 37 = some (.aload_n 0, 1) := by decide +kernel
theorem g64_38 : m_get 64 38 = some (.getfield 33, 3) := by decide +kernel
theorem g64_41 : m_get 64 41 = some (.aload_n 0, 1) := by decide +kernel
theorem g64_42 : m_get 64 42 = some (.getfield 40, 3) := by decide +kernel
theorem g64_45 : m_get 64 45 = some (.aload_n 0, 1) := by decide +kernel
theorem g64_46 : m_get 64 46 = some (.getfield 148, 3) := by decide +kernel
theorem g64_49 : m_get 64 49 = some (.aaload, 1) := by decide +kernel
theorem g64_50 : m_get 64 50 = some (.invokevirtual 151, 3) := by decide +kernel
theorem g64_53 : m_get 64 53 = some (.aload_n 0, 1) := by decide +kernel
theorem g64_54 : m_get 64 54 = some (.getfield 93, 3) := by decide +kernel
theorem g64_57 : m_get 64 57 = some (.ireturn, 1) := by decide +kernel
theorem f64_33 : m_fl (m_own 64) 33 = some (6, 5) := by decide +kernel
theorem f64_40 : m_fl (m_own 64) 40 = some (6, 7) := by decide +kernel
theorem f64_93 : m_fl (m_own 64) 93 = some (6, 9) := by decide +kernel
theorem f64_148 : m_fl (m_own 64) 148 = some (6, 8) := by decide +kernel
theorem k64_151 : m_ml (m_own 64) 151 = some (0, 15) := by decide +kernel
theorem g65_0 : m_get 65 0 = some (.aload_n 0, 1) := by decide +kernel
theorem g65_1 : m_get 65 1 = some (.iload_n 1, 1) := by decide +kernel
theorem g65_2 : m_get 65 2 = some (.invokevirtual 123, 3) := by decide +kernel
theorem g65_5 : m_get 65 5 = some (.ifCond .ne 5, 3) := by decide +kernel
theorem g65_8 : m_get 65 8 = some (.iconst (-1), 1) := by decide +kernel
theorem g65_9 : m_get 65 9 = some (.ireturn, 1) := by decide +kernel
theorem g65_10 : m_get 65 10 = some (.aload_n 0, 1) := by decide +kernel
theorem g65_11 : m_get 65 11 = some (.getfield 33, 3) := by decide +kernel
theorem g65_14 : m_get 65 14 = some (.getfield 135, 3) := by decide +kernel
theorem g65_17 : m_get 65 17 = some (.iload_n 1, 1) := by decide +kernel
theorem g65_18 : m_get 65 18 = some (.iaload, 1) := by decide +kernel
theorem g65_19 : m_get 65 19 = some (.ireturn, 1) := by decide +kernel
theorem f65_33 : m_fl (m_own 65) 33 = some (6, 5) := by decide +kernel
theorem f65_135 : m_fl (m_own 65) 135 = some (2, 0) := by decide +kernel
theorem k65_123 : m_ml (m_own 65) 123 = some (0, 83) := by decide +kernel
theorem g66_0 : m_get 66 0 = some (.aload_n 0, 1) := by decide +kernel
theorem g66_1 : m_get 66 1 = some (.iload_n 1, 1) := by decide +kernel
theorem g66_2 : m_get 66 2 = some (.invokevirtual 123, 3) := by decide +kernel
theorem g66_5 : m_get 66 5 = some (.ifCond .eq 11, 3) := by decide +kernel
theorem g66_8 : m_get 66 8 = some (.aload_n 0, 1) := by decide +kernel
theorem g66_9 : m_get 66 9 = some (.iload_n 2, 1) := by decide +kernel
theorem g66_10 : m_get 66 10 = some (.invokevirtual 117, 3) := by decide +kernel
theorem g66_13 : m_get 66 13 = some (.ifCond .ne 5, 3) := by decide +kernel
theorem g66_16 : m_get 66 16 = some (.iconst (-1), 1) := by decide +kernel
theorem g66_17 : m_get 66 17 = some (.ireturn, 1) := by decide +kernel
theorem g66_18 : m_get 66 18 = some (.aload_n 0, 1) := by decide +kernel
theorem g66_19 : m_get 66 19 = some (.getfield 33, 3) := by decide +kernel
theorem g66_22 : m_get 66 22 = some (.iload_n 1, 1) := by decide +kernel
theorem g66_23 : m_get 66 23 = some (.invokevirtual 126, 3) := by decide +kernel
theorem g66_26 : m_get 66 26 = some (.ifCond .ne 6, 3) := by decide +kernel
theorem g66_29 : m_get 66 29 = some (.bipush (-2), 2) := by decide +kernel
theorem g66_31 : m_get 66 31 = some (.ireturn, 1) := by decide +kernel
theorem g66_32 : m_get 66 32 = some (.aload_n 0, 1) := by decide +kernel
theorem g66_33 : m_get 66 33 = some (.iload_n 1, 1) := by decide +kernel
theorem g66_34 : m_get 66 34 = some (.iload_n 2, 1) := by decide +kernel
theorem g66_35 : m_get 66 35 = some (.invokevirtual 129, 3) := by decide +kernel
theorem g66_38 : m_get 66 38 = some (.ireturn, 1) := by decide +kernel
theorem f66_33 : m_fl (m_own 66) 33 = some (6, 5) := by decide +kernel
theorem k66_117 : m_ml (m_own 66) 117 = some (0, 82) := by decide +kernel
theorem k66_123 : m_ml (m_own 66) 123 = some (0, 83) := by decide +kernel
theorem k66_126 : m_ml (m_own 66) 126 = some (0, 17) := by decide +kernel
theorem k66_129 : m_ml (m_own 66) 129 = some (0, 90) := by decide +kernel
theorem g67_0 : m_get 67 0 = some (.aload_n 0, 1) := by decide +kernel
theorem g67_1 : m_get 67 1 = some (.iload_n 1, 1) := by decide +kernel
theorem g67_2 : m_get 67 2 = some (.invokevirtual 123, 3) := by decide +kernel
theorem g67_5 : m_get 67 5 = some (.ifCond .eq 8, 3) := by decide +kernel
theorem g67_8 : m_get 67 8 = some (.iload_n 2, 1) := by decide +kernel
theorem g67_9 : m_get 67 9 = some (.iconst (-1), 1) := by decide +kernel
theorem g67_10 : m_get 67 10 = some (.if_icmp .ge 5, 3) := by decide +kernel
theorem g67_13 : m_get 67 13 = some (.iconst (-1), 1) := by decide +kernel
theorem g67_14 : m_get 67 14 = some (.ireturn, 1) := by decide +kernel
theorem g67_15 : m_get 67 15 = some (.aload_n 0, 1) := by decide +kernel
theorem g67_16 : m_get 67 16 = some (.getfield 33, 3) := by decide +kernel
theorem g67_19 : m_get 67 19 = some (.iload_n 1, 1) := by decide +kernel
theorem g67_20 : m_get 67 20 = some (.invokevirtual 126, 3) := by decide +kernel
theorem g67_23 : m_get 67 23 = some (.ifCond .ne 6, 3) := by decide +kernel
theorem g67_26 : m_get 67 26 = some (.bipush (-2), 2) := by decide +kernel
theorem g67_28 : m_get 67 28 = some (.ireturn, 1) := by decide +kernel
theorem g67_29 : m_get 67 29 = some (.aload_n 0, 1) := by decide +kernel
theorem g67_30 : m_get 67 30 = some (.getfield 54, 3) := by decide +kernel
theorem g67_33 : m_get 67 33 = some (.aload_n 0, 1) := by decide +kernel
theorem g67_34 : m_get 67 34 = some (.getfield 23, 3) := by decide +kernel
theorem g67_37 : m_get 67 37 = some (.aload_n 0, 1) := by decide +kernel
theorem g67_38 : m_get 67 38 = some (.getfield 33, 3) := by decide +kernel
theorem g67_41 : m_get 67 41 = some (.invokevirtual 155, 3) := by decide +kernel
theorem g67_44 : m_get 67 44 = some (.aload_n 0, 1) := by decide +kernel
theorem g67_45 : m_get 67 45 = some (.getfield 54, 3) := by decide +kernel
theorem g67_48 : m_get 67 48 = some (.aload_n 0, 1) := by decide +kernel
theorem g67_49 : m_get 67 49 = some (.getfield 23, 3) := by decide +kernel
theorem g67_52 : m_get 67 52 = some (.aload_n 0, 1) := by decide +kernel
theorem g67_53 : m_get 67 53 = some (.getfield 33, 3) := by decide +kernel
theorem g67_56 : m_get 67 56 = some (.invokevirtual 158, 3) := by decide +kernel
theorem g67_59 : m_get 67 59 = some (.aload_n 0, 1) := by decide +kernel
theorem g67_60 : m_get 67 60 = some (.getfield 54, 3) := by decide +kernel
theorem g67_63 : m_get 67 63 = some (.getfield 161, 3) := by decide +kernel
theorem g67_66 : m_get 67 66 = some (.iload_n 1, 1) := by decide +kernel
theorem g67_67 : m_get 67 67 = some (.iaload, 1) := by decide +kernel
theorem g67_68 : m_get 67 68 = some (.istore_n 3, 1) := by decide +kernel
theorem g67_69 : m_get 67 69 = some (.iload_n 2, 1) := by decide +kernel
theorem g67_70 : m_get 67 70 = some (.iconst (-1), 1) := by decide +kernel
theorem g67_71 : m_get 67 71 = some (.if_icmp .ne 10, 3) := by decide +kernel
theorem g67_74 : m_get 67 74 = some (.iload_n 3, 1) := by decide +kernel
theorem g67_75 : m_get 67 75 = some (.invokestatic 164, 3) := by decide +kernel
theorem g67_78 : m_get 67 78 = some (.goto 8, 3) := by decide +kernel
theorem g67_81 : m_get 67 81 = some (.iload_n 3, 1) := by decide +kernel
theorem g67_82 : m_get 67 82 = some (.iload_n 2, 1) := by decide +kernel
theorem g67_83 : m_get 67 83 = some (.invokestatic 169, 3) := by decide +kernel
theorem g67_86 : m_get 67 86 = some (.ireturn, 1) := by decide +kernel
theorem f67_23 : m_fl (m_own 67) 23 = some (6, 3) := by decide +kernel
theorem f67_33 : m_fl (m_own 67) 33 = some (6, 5) := by decide +kernel
theorem f67_54 : m_fl (m_own 67) 54 = some (6, 12) := by decide +kernel
theorem f67_161 : m_fl (m_own 67) 161 = some (5, 0) := by decide +kernel
theorem k67_123 : m_ml (m_own 67) 123 = some (0, 83) := by decide +kernel
theorem k67_126 : m_ml (m_own 67) 126 = some (0, 17) := by decide +kernel
theorem k67_155 : m_ml (m_own 67) 155 = some (0, 48) := by decide +kernel
theorem k67_158 : m_ml (m_own 67) 158 = some (0, 49) := by decide +kernel
theorem k67_164 : m_ml (m_own 67) 164 = some (1, 162) := by decide +kernel
theorem k67_169 : m_ml (m_own 67) 169 = some (1, 95) := by decide +kernel
theorem g68_0 : m_get 68 0 = some (.iload_n 1, 1) := by decide +kernel
theorem g68_1 : m_get 68 1 = some (.ifCond .lt 12, 3) := by decide +kernel
theorem g68_4 : m_get 68 4 = some (.iload_n 2, 1) := by decide +kernel
theorem g68_5 : m_get 68 5 = some (.ifCond .lt 8, 3) := by decide +kernel
theorem g68_8 : m_get 68 8 = some (.iload_n 2, 1) := by decide +kernel
theorem g68_9 : m_get 68 9 = some (.iconst 2, 1) := by decide +kernel
theorem g68_10 : m_get 68 10 = some (.if_icmp .le 5, 3) := by decide +kernel
theorem g68_13 : m_get 68 13 = some (.iconst (-1), 1) := by decide +kernel
theorem g68_14 : m_get 68 14 = some (.ireturn, 1) := by decide +kernel
theorem g68_15 : m_get 68 15 = some (.aload_n 0, 1) := by decide +kernel
theorem g68_16 : m_get 68 16 = some (.getfield 23, 3) := by decide +kernel
theorem g68_19 : m_get 68 19 = some (.iload_n 1, 1) := by decide +kernel
theorem g68_20 : m_get 68 20 = some (.invokevirtual 172, 3) := by decide +kernel
theorem g68_23 : m_get 68 23 = some (.istore_n 3, 1) := by decide +kernel
theorem g68_24 : m_get 68 24 = some (.iload_n 3, 1) := by decide +kernel
theorem g68_25 : m_get 68 25 = some (.ifCond .lt 7, 3) := by decide +kernel
theorem g68_28 : m_get 68 28 = some (.iload_n 2, 1) := by decide +kernel
theorem g68_29 : m_get 68 29 = some (.ifCond .ne 5, 3) := by decide +kernel
theorem g68_32 : m_get 68 32 = some (.iload_n 3, 1) := by decide +kernel
theorem g68_33 : m_get 68 33 = some (.ireturn, 1) := by decide +kernel
theorem g68_34 : m_get 68 34 = some (.iload_n 2, 1) := by decide +kernel
theorem g68_35 : m_get 68 35 = some (.iconst 1, 1) := by decide +kernel
theorem g68_36 : m_get 68 36 = some (.if_icmp .ne 14, 3) := by decide +kernel
theorem g68_39 : m_get 68 39 = some (.aload_n 0, 1) := by decide +kernel
theorem g68_40 : m_get 68 40 = some (.getfield 23, 3) := by decide +kernel
theorem g68_43 : m_get 68 43 = some (.iload_n 3, 1) := by decide +kernel
theorem g68_44 : m_get 68 44 = some (.invokevirtual 175, 3) := by decide +kernel
theorem g68_47 : m_get 68 47 = some (.goto 15, 3) := by decide +kernel
theorem g68_50 : m_get 68 50 = some (.aload_n 0, 1) := by decide +kernel
theorem g68_51 : m_get 68 51 = some (.getfield 33, 3) := by decide +kernel
theorem g68_54 : m_get 68 54 = some (.aload_n 0, 1) := by decide +kernel
theorem g68_55 : m_get 68 55 = some (.getfield 23, 3) := by decide +kernel
theorem g68_58 : m_get 68 58 = some (.iload_n 3, 1) := by decide +kernel
theorem g68_59 : m_get 68 59 = some (.invokevirtual 178, 3) := by decide +kernel
theorem g68_62 : m_get 68 62 = some (.ireturn, 1) := by decide +kernel
theorem f68_23 : m_fl (m_own 68) 23 = some (6, 3) := by decide +kernel
theorem f68_33 : m_fl (m_own 68) 33 = some (6, 5) := by decide +kernel
theorem k68_172 : m_ml (m_own 68) 172 = some (0, 45) := by decide +kernel
theorem k68_175 : m_ml (m_own 68) 175 = some (0, 46) := by decide +kernel
theorem k68_178 : m_ml (m_own 68) 178 = some (0, 19) := by decide +kernel
theorem g69_0 : m_get 69 0 = some (.iload_n 1, 1) := by decide +kernel
theorem g69_1 : m_get 69 1 = some (.iconst 1, 1) := by decide +kernel
theorem g69_2 : m_get 69 2 = some (.if_icmp .lt 10, 3) := by decide +kernel
theorem g69_5 : m_get 69 5 = some (.iload_n 1, 1) := by decide +kernel
theorem g69_6 : m_get 69 6 = some (.sipush 300, 3) := by decide +kernel
theorem g69_9 : m_get 69 9 = some (.if_icmp .le 5, 3) := by decide +kernel
theorem g69_12 : m_get 69 12 = some (.iconst (-1), 1) := by decide +kernel
theorem g69_13 : m_get 69 13 = some (.ireturn, 1) := by decide +kernel
theorem g69_14 : m_get 69 14 = some (.aload_n 0, 1) := by decide +kernel
theorem g69_15 : m_get 69 15 = some (.aload_n 0, 1) := by decide +kernel
theorem g69_16 : m_get 69 16 = some (.getfield 33, 3) := by decide +kernel
theorem g69_19 : m_get 69 19 = some (.iload_n 1, 1) := by decide +kernel
theorem g69_20 : m_get 69 20 = some (.invokevirtual 182, 3) := by decide +kernel
theorem g69_23 : m_get 69 23 = some (.ireturn, 1) := by decide +kernel
theorem f69_33 : m_fl (m_own 69) 33 = some (6, 5) := by decide +kernel
theorem k69_182 : m_ml (m_own 69) 182 = some (0, 93) := by decide +kernel
theorem g70_0 : m_get 70 0 = some (.iload_n 1, 1) := by decide +kernel
theorem g70_1 : m_get 70 1 = some (.ifCond .lt 18, 3) := by decide +kernel
theorem g70_4 : m_get 70 4 = some (.iload_n 1, 1) := by decide +kernel
theorem g70_5 : m_get 70 5 = some (.sipush 300, 3) := by decide +kernel
theorem g70_8 : m_get 70 8 = some (.if_icmp .ge 11, 3) := by decide +kernel
theorem g70_11 : m_get 70 11 = some (.aload_n 0, 1) := by decide +kernel
theorem g70_12 : m_get 70 12 = some (.iload_n 2, 1) := by decide +kernel
theorem g70_13 : m_get 70 13 = some (.invokevirtual 123, 3) := by decide +kernel
theorem g70_16 : m_get 70 16 = some (.ifCond .ne 5, 3) := by decide +kernel
theorem g70_19 : m_get 70 19 = some (.iconst (-1), 1) := by decide +kernel
theorem g70_20 : m_get 70 20 = some (.ireturn, 1) := by decide +kernel
theorem g70_21 : m_get 70 21 = some (.aload_n 0, 1) := by decide +kernel
theorem g70_22 : m_get 70 22 = some (.aload_n 0, 1) := by decide +kernel
theorem g70_23 : m_get 70 23 = some (.getfield 33, 3) := by decide +kernel
theorem g70_26 : m_get 70 26 = some (.iload_n 1, 1) := by decide +kernel
theorem g70_27 : m_get 70 27 = some (.iconst 1, 1) := by decide +kernel
theorem g70_28 : m_get 70 28 = some (.iadd, 1) := by decide +kernel
theorem g70_29 : m_get 70 29 = some (.invokevirtual 182, 3) := by decide +kernel
theorem g70_32 : m_get 70 32 = some (.iload_n 1, 1) := by decide +kernel
theorem g70_33 : m_get 70 33 = some (.if_icmp .le 15, 3) := by decide +kernel
theorem g70_36 : m_get 70 36 = some (.aload_n 0, 1) := by decide +kernel
theorem g70_37 : m_get 70 37 = some (.getfield 61, 3) := by decide +kernel
theorem g70_40 : m_get 70 40 = some (.getfield 186, 3) := by decide +kernel
theorem g70_43 : m_get 70 43 = some (.iload_n 2, 1) := by decide +kernel
theorem g70_44 : m_get 70 44 = some (.iaload, 1) := by decide +kernel
theorem g70_45 : m_get 70 45 = some (.goto 5, 3) := by decide +kernel
theorem g70_48 : m_get 70 48 = some (.bipush (-9), 2) := by decide +kernel
theorem g70_50 : m_get 70 50 = some (.ireturn, 1) := by decide +kernel
theorem f70_33 : m_fl (m_own 70) 33 = some (6, 5) := by decide +kernel
theorem f70_61 : m_fl (m_own 70) 61 = some (6, 13) := by decide +kernel
theorem f70_186 : m_fl (m_own 70) 186 = some (1, 0) := by decide +kernel
theorem k70_123 : m_ml (m_own 70) 123 = some (0, 83) := by decide +kernel
theorem k70_182 : m_ml (m_own 70) 182 = some (0, 93) := by decide +kernel
theorem g71_0 : m_get 71 0 = some (.aload_n 0, 1) := by decide +kernel
theorem g71_1 : m_get 71 1 = some (.aload_n 0, 1) := by decide +kernel
theorem g71_2 : m_get 71 2 = some (.getfield 33, 3) := by decide +kernel
theorem g71_5 : m_get 71 5 = some (.iconst 1, 1) := by decide +kernel
theorem g71_6 : m_get 71 6 = some (.invokevirtual 182, 3) := by decide +kernel
theorem g71_9 : m_get 71 9 = some (.iconst 1, 1) := by decide +kernel
theorem g71_10 : m_get 71 10 = some (.if_icmp .ge 5, 3) := by decide +kernel
theorem g71_13 : m_get 71 13 = some (.iconst 0, 1) := by decide +kernel
theorem g71_14 : m_get 71 14 = some (.ireturn, 1) := by decide +kernel
theorem g71_15 : m_get 71 15 = some (.aload_n 0, 1) := by decide +kernel
theorem g71_16 : m_get 71 16 = some (.getfield 61, 3) := by decide +kernel
theorem g71_19 : m_get 71 19 = some (.getfield 186, 3) := by decide +kernel
theorem g71_22 : m_get 71 22 = some (.iconst 0, 1) := by decide +kernel
theorem g71_23 : m_get 71 23 = some (.aload_n 0, 1) := by decide +kernel
theorem g71_24 : m_get 71 24 = some (.getfield 72, 3) := by decide +kernel
theorem g71_27 : m_get 71 27 = some (.iconst 0, 1) := by decide +kernel
theorem g71_28 : m_get 71 28 = some (.bipush 6, 2) := by decide +kernel
theorem g71_30 : m_get 71 30 = some (.invokestatic 189, 3) := by decide +kernel
theorem g71_33 : m_get 71 33 = some (.iconst 0, 1) := by decide +kernel
theorem g71_34 : m_get 71 34 = some (.istore_n 1, 1) := by decide +kernel
theorem g71_35 : m_get 71 35 = some (.iconst 0, 1) := by decide +kernel
theorem g71_36 : m_get 71 36 = some (.istore_n 2, 1) := by decide +kernel
theorem g71_37 : m_get 71 37 = some (.iload_n 2, 1) := by decide +kernel
theorem g71_38 : m_get 71 38 = some (.aload_n 0, 1) := by decide +kernel
theorem g71_39 : m_get 71 39 = some (.getfield 23, 3) := by decide +kernel
theorem g71_42 : m_get 71 42 = some (.invokevirtual 142, 3) := by decide +kernel
theorem g71_45 : m_get 71 45 = some (.if_icmp .ge 26, 3) := by decide +kernel
theorem g71_48 : m_get 71 48 = some (.aload_n 0, 1) := by decide +kernel
theorem g71_49 : m_get 71 49 = some (.getfield 33, 3) := by decide +kernel
theorem g71_52 : m_get 71 52 = some (.iload_n 2, 1) := by decide +kernel
theorem g71_53 : m_get 71 53 = some (.invokevirtual 126, 3) := by decide +kernel
theorem g71_56 : m_get 71 56 = some (.ifCond .eq 9, 3) := by decide +kernel
theorem g71_59 : m_get 71 59 = some (.iload_n 1, 1) := by decide +kernel
theorem g71_60 : m_get 71 60 = some (.iconst 1, 1) := by decide +kernel
theorem g71_61 : m_get 71 61 = some (.iload_n 2, 1) := by decide +kernel
theorem g71_62 : m_get 71 62 = some (.ishl, 1) := by decide +kernel
theorem g71_63 : m_get 71 63 = some (.ior, 1) := by decide +kernel
theorem g71_64 : m_get 71 64 = some (.istore_n 1, 1) := by decide +kernel
theorem g71_65 : m_get 71 65 = some (.iinc 2 1, 3) := by decide +kernel
theorem g71_68 : m_get 71 68 = some (.goto (-31), 3) := by decide +kernel
theorem g71_71 : m_get 71 71 = some (.iconst 0, 1) := by decide +kernel
theorem g71_72 : m_get 71 72 = some (.istore_n 2, 1) := by decide +kernel
theorem g71_73 : m_get 71 73 = some (.iload_n 2, 1) := by decide +kernel
theorem g71_74 : m_get 71 74 = some (.bipush 6, 2) := by decide +kernel
theorem g71_76 : m_get 71 76 = some (.if_icmp .ge 25, 3) := by decide +kernel
theorem g71_79 : m_get 71 79 = some (.iload_n 1, 1) := by decide +kernel
theorem g71_80 : m_get 71 80 = some (.iload_n 2, 1) := by decide +kernel
theorem g71_81 : m_get 71 81 = some (.ishr, 1) := by decide +kernel
theorem g71_82 : m_get 71 82 = some (.iconst 1, 1) := by decide +kernel
theorem g71_83 : m_get 71 83 = some (.iand, 1) := by decide +kernel
theorem g71_84 : m_get 71 84 = some (.iconst 1, 1) := by decide +kernel
theorem g71_85 : m_get 71 85 = some (.if_icmp .ne 10, 3) := by decide +kernel
theorem g71_88 : m_get 71 88 = some (.aload_n 0, 1) := by decide +kernel
theorem g71_89 : m_get 71 89 = some (.iload_n 2, 1) := by decide +kernel
theorem g71_90 : m_get 71 90 = some (.iload_n 1, 1) := by decide +kernel
theorem g71_91 : m_get 71 91 = some (.invokevirtual 195, 3) := by decide +kernel
theorem g71_94 : m_get 71 94 = some (.istore_n 1, 1) := by decide +kernel
theorem g71_95 : m_get 71 95 = some (.iinc 2 1, 3) := by decide +kernel
theorem g71_98 : m_get 71 98 = some (.goto (-25), 3) := by decide +kernel
theorem g71_101 : m_get 71 101 = some (.iload_n 1, 1) := by decide +kernel
theorem g71_102 : m_get 71 102 = some (.ireturn, 1) := by decide +kernel
theorem f71_23 : m_fl (m_own 71) 23 = some (6, 3) := by decide +kernel
theorem f71_33 : m_fl (m_own 71) 33 = some (6, 5) := by decide +kernel
theorem f71_61 : m_fl (m_own 71) 61 = some (6, 13) := by decide +kernel
theorem f71_72 : m_fl (m_own 71) 72 = some (6, 15) := by decide +kernel
theorem f71_186 : m_fl (m_own 71) 186 = some (1, 0) := by decide +kernel
theorem k71_126 : m_ml (m_own 71) 126 = some (0, 17) := by decide +kernel
theorem k71_142 : m_ml (m_own 71) 142 = some (0, 36) := by decide +kernel
theorem k71_182 : m_ml (m_own 71) 182 = some (0, 93) := by decide +kernel
theorem k71_189 : m_ml (m_own 71) 189 = some (6, 0) := by decide +kernel
theorem k71_195 : m_ml (m_own 71) 195 = some (0, 94) := by decide +kernel
theorem g72_0 : m_get 72 0 = some (.aload_n 0, 1) := by decide +kernel
theorem g72_1 : m_get 72 1 = some (.getfield 54, 3) := by decide +kernel
theorem g72_4 : m_get 72 4 = some (.aload_n 0, 1) := by decide +kernel
theorem g72_5 : m_get 72 5 = some (.getfield 23, 3) := by decide +kernel
theorem g72_8 : m_get 72 8 = some (.aload_n 0, 1) := by decide +kernel
theorem g72_9 : m_get 72 9 = some (.getfield 33, 3) := by decide +kernel
theorem g72_12 : m_get 72 12 = some (.invokevirtual 155, 3) := by decide +kernel
theorem g72_15 : m_get 72 15 = some (.aload_n 0, 1) := by decide +kernel
theorem g72_16 : m_get 72 16 = some (.getfield 54, 3) := by decide +kernel
theorem g72_19 : m_get 72 19 = some (.aload_n 0, 1) := by decide +kernel
theorem g72_20 : m_get 72 20 = some (.getfield 23, 3) := by decide +kernel
theorem g72_23 : m_get 72 23 = some (.aload_n 0, 1) := by decide +kernel
theorem g72_24 : m_get 72 24 = some (.getfield 33, 3) := by decide +kernel
theorem g72_27 : m_get 72 27 = some (.invokevirtual 158, 3) := by decide +kernel
theorem g72_30 : m_get 72 30 = some (.bipush (-9), 2) := by decide +kernel
theorem g72_32 : m_get 72 32 = some (.istore_n 1, 1) := by decide +kernel
theorem g72_33 : m_get 72 33 = some (.bipush 25, 2) := by decide +kernel
theorem g72_35 : m_get 72 35 = some (.istore_n 2, 1) := by decide +kernel
theorem g72_36 : m_get 72 36 = some (.iconst 0, 1) := by decide +kernel
theorem g72_37 : m_get 72 37 = some (.istore_n 3, 1) := by decide +kernel
theorem g72_38 : m_get 72 38 = some (.iload_n 3, 1) := by decide +kernel
theorem g72_39 : m_get 72 39 = some (.aload_n 0, 1) := by decide +kernel
theorem g72_40 : m_get 72 40 = some (.getfield 23, 3) := by decide +kernel
theorem g72_43 : m_get 72 43 = some (.invokevirtual 142, 3) := by decide +kernel
theorem g72_46 : m_get 72 46 = some (.if_icmp .ge 45, 3) := by decide +kernel
theorem g72_49 : m_get 72 49 = some (.aload_n 0, 1) := by decide +kernel
theorem g72_50 : m_get 72 50 = some (.getfield 54, 3) := by decide +kernel
theorem g72_53 : m_get 72 53 = some (.getfield 161, 3) := by decide +kernel
theorem g72_56 : m_get 72 56 = some (.iload_n 3, 1) := by decide +kernel
theorem g72_57 : m_get 72 57 = some (.iaload, 1) := by decide +kernel
theorem g72_58 : m_get 72 58 = some (.invokestatic 164, 3) := by decide +kernel
theorem g72_61 : m_get 72 61 = some (.istore 4, 2) := by decide +kernel
theorem g72_63 : m_get 72 63 = some (.aload_n 0, 1) := by decide +kernel
theorem g72_64 : m_get 72 64 = some (.getfield 33, 3) := by decide +kernel
theorem g72_67 : m_get 72 67 = some (.iload_n 3, 1) := by decide +kernel
theorem g72_68 : m_get 72 68 = some (.invokevirtual 126, 3) := by decide +kernel
theorem g72_71 : m_get 72 71 = some (.ifCond .eq 14, 3) := by decide +kernel
theorem g72_74 : m_get 72 74 = some (.iload 4, 2) := by decide +kernel
theorem g72_76 : m_get 72 76 = some (.iload_n 2, 1) := by decide +kernel
theorem g72_77 : m_get 72 77 = some (.if_icmp .ge 8, 3) := by decide +kernel
theorem g72_80 : m_get 72 80 = some (.iload_n 3, 1) := by decide +kernel
theorem g72_81 : m_get 72 81 = some (.istore_n 1, 1) := by decide +kernel
theorem g72_82 : m_get 72 82 = some (.iload 4, 2) := by decide +kernel
theorem g72_84 : m_get 72 84 = some (.istore_n 2, 1) := by decide +kernel
theorem g72_85 : m_get 72 85 = some (.iinc 3 1, 3) := by decide +kernel
theorem g72_88 : m_get 72 88 = some (.goto (-50), 3) := by decide +kernel
theorem g72_91 : m_get 72 91 = some (.iload_n 1, 1) := by decide +kernel
theorem g72_92 : m_get 72 92 = some (.ireturn, 1) := by decide +kernel
theorem f72_23 : m_fl (m_own 72) 23 = some (6, 3) := by decide +kernel
theorem f72_33 : m_fl (m_own 72) 33 = some (6, 5) := by decide +kernel
theorem f72_54 : m_fl (m_own 72) 54 = some (6, 12) := by decide +kernel
theorem f72_161 : m_fl (m_own 72) 161 = some (5, 0) := by decide +kernel
theorem k72_126 : m_ml (m_own 72) 126 = some (0, 17) := by decide +kernel
theorem k72_142 : m_ml (m_own 72) 142 = some (0, 36) := by decide +kernel
theorem k72_155 : m_ml (m_own 72) 155 = some (0, 48) := by decide +kernel
theorem k72_158 : m_ml (m_own 72) 158 = some (0, 49) := by decide +kernel
theorem k72_164 : m_ml (m_own 72) 164 = some (1, 162) := by decide +kernel
theorem g73_0 : m_get 73 0 = some (.aload_n 0, 1) := by decide +kernel
theorem g73_1 : m_get 73 1 = some (.iload_n 1, 1) := by decide +kernel
theorem g73_2 : m_get 73 2 = some (.invokevirtual 99, 3) := by decide +kernel
theorem g73_5 : m_get 73 5 = some (.ifCond .ne 5, 3) := by decide +kernel
theorem g73_8 : m_get 73 8 = some (.iconst (-1), 1) := by decide +kernel
theorem g73_9 : m_get 73 9 = some (.ireturn, 1) := by decide +kernel
theorem g73_10 : m_get 73 10 = some (.aload_n 0, 1) := by decide +kernel
theorem g73_11 : m_get 73 11 = some (.getfield 37, 3) := by decide +kernel
theorem g73_14 : m_get 73 14 = some (.aload_n 0, 1) := by decide +kernel
theorem g73_15 : m_get 73 15 = some (.getfield 33, 3) := by decide +kernel
theorem g73_18 : m_get 73 18 = some (.invokevirtual 151, 3) := by decide +kernel
theorem g73_21 : m_get 73 21 = some (.aload_n 0, 1) := by decide +kernel
theorem g73_22 : m_get 73 22 = some (.getfield 37, 3) := by decide +kernel
theorem g73_25 : m_get 73 25 = some (.getfield 106, 3) := by decide +kernel
theorem g73_28 : m_get 73 28 = some (.iload_n 1, 1) := by decide +kernel
theorem g73_29 : m_get 73 29 = some (.bipush 9, 2) := by decide +kernel
theorem g73_31 : m_get 73 31 = some (.iastore, 1) := by decide +kernel
theorem g73_32 : m_get 73 32 = some (.aload_n 0, 1) := by decide +kernel
theorem g73_33 : m_get 73 33 = some (.aload_n 0, 1) := by decide +kernel
theorem g73_34 : m_get 73 34 = some (.getfield 37, 3) := by decide +kernel
theorem g73_37 : m_get 73 37 = some (.iconst 1, 1) := by decide +kernel
theorem g73_38 : m_get 73 38 = some (.invokevirtual 182, 3) := by decide +kernel
theorem g73_41 : m_get 73 41 = some (.iconst 1, 1) := by decide +kernel
theorem g73_42 : m_get 73 42 = some (.if_icmp .ge 6, 3) := by decide +kernel
theorem g73_45 : m_get 73 45 = some (.bipush (-9), 2) := by decide +kernel
theorem g73_47 : m_get 73 47 = some (.ireturn, 1) := by decide +kernel
theorem g73_48 : m_get 73 48 = some (.iconst 0, 1) := by decide +kernel
theorem g73_49 : m_get 73 49 = some (.istore_n 2, 1) := by decide +kernel
theorem g73_50 : m_get 73 50 = some (.iload_n 2, 1) := by decide +kernel
theorem g73_51 : m_get 73 51 = some (.bipush 9, 2) := by decide +kernel
theorem g73_53 : m_get 73 53 = some (.if_icmp .ge 33, 3) := by decide +kernel
theorem g73_56 : m_get 73 56 = some (.aload_n 0, 1) := by decide +kernel
theorem g73_57 : m_get 73 57 = some (.getfield 37, 3) := by decide +kernel
theorem g73_60 : m_get 73 60 = some (.getfield 106, 3) := by decide +kernel
theorem g73_63 : m_get 73 63 = some (.iload_n 1, 1) := by decide +kernel
theorem g73_64 : m_get 73 64 = some (.iload_n 2, 1) := by decide +kernel
theorem g73_65 : m_get 73 65 = some (.iastore, 1) := by decide +kernel
theorem g73_66 : m_get 73 66 = some (.aload_n 0, 1) := by decide +kernel
theorem g73_67 : m_get 73 67 = some (.aload_n 0, 1) := by decide +kernel
theorem g73_68 : m_get 73 68 = some (.getfield 37, 3) := by decide +kernel
theorem g73_71 : m_get 73 71 = some (.iconst 1, 1) := by decide +kernel
theorem g73_72 : m_get 73 72 = some (.invokevirtual 182, 3) := by decide +kernel
theorem g73_75 : m_get 73 75 = some (.ifCond .le 5, 3) := by decide +kernel
theorem g73_78 : m_get 73 78 = some (.iload_n 2, 1) := by decide +kernel
theorem g73_79 : m_get 73 79 = some (.ireturn, 1) := by decide +kernel
theorem g73_80 : m_get 73 80 = some (.iinc 2 1, 3) := by decide +kernel
theorem g73_83 : m_get 73 83 = some (.goto (-33), 3) := by decide +kernel
theorem g73_86 : m_get 73 86 = some (.bipush 9, 2) := by decide +kernel
theorem g73_88 : m_get 73 88 = some (.ireturn, 1) := by decide +kernel
theorem f73_33 : m_fl (m_own 73) 33 = some (6, 5) := by decide +kernel
theorem f73_37 : m_fl (m_own 73) 37 = some (6, 6) := by decide +kernel
theorem f73_106 : m_fl (m_own 73) 106 = some (2, 1) := by decide +kernel
theorem k73_99 : m_ml (m_own 73) 99 = some (0, 81) := by decide +kernel
theorem k73_151 : m_ml (m_own 73) 151 = some (0, 15) := by decide +kernel
theorem k73_182 : m_ml (m_own 73) 182 = some (0, 93) := by decide +kernel
theorem g74_0 : m_get 74 0 = some (.iload_n 1, 1) := by decide +kernel
theorem g74_1 : m_get 74 1 = some (.invokestatic 198, 3) := by decide +kernel
theorem g74_4 : m_get 74 4 = some (.ifCond .eq 12, 3) := by decide +kernel
theorem g74_7 : m_get 74 7 = some (.iload_n 2, 1) := by decide +kernel
theorem g74_8 : m_get 74 8 = some (.ifCond .lt 8, 3) := by decide +kernel
theorem g74_11 : m_get 74 11 = some (.iload_n 2, 1) := by decide +kernel
theorem g74_12 : m_get 74 12 = some (.iconst 1, 1) := by decide +kernel
theorem g74_13 : m_get 74 13 = some (.if_icmp .le 5, 3) := by decide +kernel
theorem g74_16 : m_get 74 16 = some (.iconst (-1), 1) := by decide +kernel
theorem g74_17 : m_get 74 17 = some (.ireturn, 1) := by decide +kernel
theorem g74_18 : m_get 74 18 = some (.iload_n 2, 1) := by decide +kernel
theorem g74_19 : m_get 74 19 = some (.ifCond .ne 15, 3) := by decide +kernel
theorem g74_22 : m_get 74 22 = some (.aload_n 0, 1) := by decide +kernel
theorem g74_23 : m_get 74 23 = some (.getfield 68, 3) := by decide +kernel
theorem g74_26 : m_get 74 26 = some (.getfield 201, 3) := by decide +kernel
theorem g74_29 : m_get 74 29 = some (.iload_n 1, 1) := by decide +kernel
theorem g74_30 : m_get 74 30 = some (.iaload, 1) := by decide +kernel
theorem g74_31 : m_get 74 31 = some (.goto 12, 3) := by decide +kernel
theorem g74_34 : m_get 74 34 = some (.aload_n 0, 1) := by decide +kernel
theorem g74_35 : m_get 74 35 = some (.getfield 68, 3) := by decide +kernel
theorem g74_38 : m_get 74 38 = some (.getfield 204, 3) := by decide +kernel
theorem g74_41 : m_get 74 41 = some (.iload_n 1, 1) := by decide +kernel
theorem g74_42 : m_get 74 42 = some (.iaload, 1) := by decide +kernel
theorem g74_43 : m_get 74 43 = some (.ireturn, 1) := by decide +kernel
theorem f74_68 : m_fl (m_own 74) 68 = some (6, 14) := by decide +kernel
theorem f74_201 : m_fl (m_own 74) 201 = some (0, 0) := by decide +kernel
theorem f74_204 : m_fl (m_own 74) 204 = some (0, 1) := by decide +kernel
theorem k74_198 : m_ml (m_own 74) 198 = some (1, 84) := by decide +kernel
theorem g75_0 : m_get 75 0 = some (.iload_n 1, 1) := by decide +kernel
theorem g75_1 : m_get 75 1 = some (.iload_n 2, 1) := by decide +kernel
theorem g75_2 : m_get 75 2 = some (.invokestatic 207, 3) := by decide +kernel
theorem g75_5 : m_get 75 5 = some (.ifCond .ne 5, 3) := by decide +kernel
theorem g75_8 : m_get 75 8 = some (.iconst (-1), 1) := by decide +kernel
theorem g75_9 : m_get 75 9 = some (.ireturn, 1) := by decide +kernel
theorem g75_10 : m_get 75 10 = some (.aload_n 0, 1) := by decide +kernel
theorem g75_11 : m_get 75 11 = some (.getfield 68, 3) := by decide +kernel
theorem g75_14 : m_get 75 14 = some (.invokevirtual 211, 3) := by decide +kernel
theorem g75_17 : m_get 75 17 = some (.aload_n 0, 1) := by decide +kernel
theorem g75_18 : m_get 75 18 = some (.getfield 68, 3) := by decide +kernel
theorem g75_21 : m_get 75 21 = some (.getfield 214, 3) := by decide +kernel
theorem g75_24 : m_get 75 24 = some (.iload_n 1, 1) := by decide +kernel
theorem g75_25 : m_get 75 25 = some (.iload_n 2, 1) := by decide +kernel
theorem g75_26 : m_get 75 26 = some (.invokestatic 217, 3) := by decide +kernel
theorem g75_29 : m_get 75 29 = some (.iaload, 1) := by decide +kernel
theorem g75_30 : m_get 75 30 = some (.ireturn, 1) := by decide +kernel
theorem f75_68 : m_fl (m_own 75) 68 = some (6, 14) := by decide +kernel
theorem f75_214 : m_fl (m_own 75) 214 = some (0, 2) := by decide +kernel
theorem k75_207 : m_ml (m_own 75) 207 = some (1, 85) := by decide +kernel
theorem k75_211 : m_ml (m_own 75) 211 = some (0, 3) := by decide +kernel
theorem k75_217 : m_ml (m_own 75) 217 = some (1, 1) := by decide +kernel
theorem g76_0 : m_get 76 0 = some (.iload_n 1, 1) := by decide +kernel
theorem g76_1 : m_get 76 1 = some (.iload_n 2, 1) := by decide +kernel
theorem g76_2 : m_get 76 2 = some (.invokestatic 207, 3) := by decide +kernel
theorem g76_5 : m_get 76 5 = some (.ifCond .ne 5, 3) := by decide +kernel
theorem g76_8 : m_get 76 8 = some (.iconst (-1), 1) := by decide +kernel
theorem g76_9 : m_get 76 9 = some (.ireturn, 1) := by decide +kernel
theorem g76_10 : m_get 76 10 = some (.aload_n 0, 1) := by decide +kernel
theorem g76_11 : m_get 76 11 = some (.getfield 68, 3) := by decide +kernel
theorem g76_14 : m_get 76 14 = some (.invokevirtual 211, 3) := by decide +kernel
theorem g76_17 : m_get 76 17 = some (.aload_n 0, 1) := by decide +kernel
theorem g76_18 : m_get 76 18 = some (.getfield 68, 3) := by decide +kernel
theorem g76_21 : m_get 76 21 = some (.getfield 220, 3) := by decide +kernel
theorem g76_24 : m_get 76 24 = some (.iload_n 1, 1) := by decide +kernel
theorem g76_25 : m_get 76 25 = some (.iload_n 2, 1) := by decide +kernel
theorem g76_26 : m_get 76 26 = some (.invokestatic 217, 3) := by decide +kernel
theorem g76_29 : m_get 76 29 = some (.iaload, 1) := by decide +kernel
theorem g76_30 : m_get 76 30 = some (.ireturn, 1) := by decide +kernel
theorem f76_68 : m_fl (m_own 76) 68 = some (6, 14) := by decide +kernel
theorem f76_220 : m_fl (m_own 76) 220 = some (0, 3) := by decide +kernel
theorem k76_207 : m_ml (m_own 76) 207 = some (1, 85) := by decide +kernel
theorem k76_211 : m_ml (m_own 76) 211 = some (0, 3) := by decide +kernel
theorem k76_217 : m_ml (m_own 76) 217 = some (1, 1) := by decide +kernel
theorem g77_0 : m_get 77 0 = some (.iload_n 1, 1) := by decide +kernel
theorem g77_1 : m_get 77 1 = some (.iload_n 2, 1) := by decide +kernel
theorem g77_2 : m_get 77 2 = some (.invokestatic 207, 3) := by decide +kernel
theorem g77_5 : m_get 77 5 = some (.ifCond .eq 10, 3) := by decide +kernel
theorem g77_8 : m_get 77 8 = some (.iload_n 3, 1) := by decide +kernel
theorem g77_9 : m_get 77 9 = some (.invokestatic 198, 3) := by decide +kernel
theorem g77_12 : m_get 77 12 = some (.ifCond .ne 5, 3) := by decide +kernel
theorem g77_15 : m_get 77 15 = some (.iconst (-1), 1) := by decide +kernel
theorem g77_16 : m_get 77 16 = some (.ireturn, 1) := by decide +kernel
theorem g77_17 : m_get 77 17 = some (.aload_n 0, 1) := by decide +kernel
theorem g77_18 : m_get 77 18 = some (.getfield 68, 3) := by decide +kernel
theorem g77_21 : m_get 77 21 = some (.invokevirtual 211, 3) := by decide +kernel
theorem g77_24 : m_get 77 24 = some (.aload_n 0, 1) := by decide +kernel
theorem g77_25 : m_get 77 25 = some (.getfield 68, 3) := by decide +kernel
theorem g77_28 : m_get 77 28 = some (.getfield 223, 3) := by decide +kernel
theorem g77_31 : m_get 77 31 = some (.iload_n 3, 1) := by decide +kernel
theorem g77_32 : m_get 77 32 = some (.sipush 625, 3) := by decide +kernel
theorem g77_35 : m_get 77 35 = some (.imul, 1) := by decide +kernel
theorem g77_36 : m_get 77 36 = some (.iload_n 1, 1) := by decide +kernel
theorem g77_37 : m_get 77 37 = some (.iload_n 2, 1) := by decide +kernel
theorem g77_38 : m_get 77 38 = some (.invokestatic 217, 3) := by decide +kernel
theorem g77_41 : m_get 77 41 = some (.iadd, 1) := by decide +kernel
theorem g77_42 : m_get 77 42 = some (.iaload, 1) := by decide +kernel
theorem g77_43 : m_get 77 43 = some (.ireturn, 1) := by decide +kernel
theorem f77_68 : m_fl (m_own 77) 68 = some (6, 14) := by decide +kernel
theorem f77_223 : m_fl (m_own 77) 223 = some (0, 4) := by decide +kernel
theorem k77_198 : m_ml (m_own 77) 198 = some (1, 84) := by decide +kernel
theorem k77_207 : m_ml (m_own 77) 207 = some (1, 85) := by decide +kernel
theorem k77_211 : m_ml (m_own 77) 211 = some (0, 3) := by decide +kernel
theorem k77_217 : m_ml (m_own 77) 217 = some (1, 1) := by decide +kernel
theorem g78_0 : m_get 78 0 = some (.iload_n 1, 1) := by decide +kernel
theorem g78_1 : m_get 78 1 = some (.invokestatic 226, 3) := by decide +kernel
theorem g78_4 : m_get 78 4 = some (.ifCond .ne 5, 3) := by decide +kernel
theorem g78_7 : m_get 78 7 = some (.iconst (-1), 1) := by decide +kernel
theorem g78_8 : m_get 78 8 = some (.ireturn, 1) := by decide +kernel
theorem g78_9 : m_get 78 9 = some (.aload_n 0, 1) := by decide +kernel
theorem g78_10 : m_get 78 10 = some (.getfield 44, 3) := by decide +kernel
theorem g78_13 : m_get 78 13 = some (.iload_n 1, 1) := by decide +kernel
theorem g78_14 : m_get 78 14 = some (.aaload, 1) := by decide +kernel
theorem g78_15 : m_get 78 15 = some (.aload_n 0, 1) := by decide +kernel
theorem g78_16 : m_get 78 16 = some (.getfield 33, 3) := by decide +kernel
theorem g78_19 : m_get 78 19 = some (.invokevirtual 151, 3) := by decide +kernel
theorem g78_22 : m_get 78 22 = some (.aload_n 0, 1) := by decide +kernel
theorem g78_23 : m_get 78 23 = some (.getfield 47, 3) := by decide +kernel
theorem g78_26 : m_get 78 26 = some (.iload_n 1, 1) := by decide +kernel
theorem g78_27 : m_get 78 27 = some (.iconst 1, 1) := by decide +kernel
theorem g78_28 : m_get 78 28 = some (.bastore, 1) := by decide +kernel
theorem g78_29 : m_get 78 29 = some (.aload_n 0, 1) := by decide +kernel
theorem g78_30 : m_get 78 30 = some (.invokevirtual 138, 3) := by decide +kernel
theorem g78_33 : m_get 78 33 = some (.ireturn, 1) := by decide +kernel
theorem f78_33 : m_fl (m_own 78) 33 = some (6, 5) := by decide +kernel
theorem f78_44 : m_fl (m_own 78) 44 = some (6, 10) := by decide +kernel
theorem f78_47 : m_fl (m_own 78) 47 = some (6, 11) := by decide +kernel
theorem k78_138 : m_ml (m_own 78) 138 = some (0, 87) := by decide +kernel
theorem k78_151 : m_ml (m_own 78) 151 = some (0, 15) := by decide +kernel
theorem k78_226 : m_ml (m_own 78) 226 = some (1, 86) := by decide +kernel
theorem g79_0 : m_get 79 0 = some (.iload_n 1, 1) := by decide +kernel
theorem g79_1 : m_get 79 1 = some (.invokestatic 226, 3) := by decide +kernel
theorem g79_4 : m_get 79 4 = some (.ifCond .ne 5, 3) := by decide +kernel
theorem g79_7 : m_get 79 7 = some (.iconst (-1), 1) := by decide +kernel
theorem g79_8 : m_get 79 8 = some (.ireturn, 1) := by decide +kernel
theorem g79_9 : m_get 79 9 = some (.aload_n 0, 1) := by decide +kernel
theorem g79_10 : m_get 79 10 = some (.getfield 47, 3) := by decide +kernel
theorem g79_13 : m_get 79 13 = some (.iload_n 1, 1) := by decide +kernel
theorem g79_14 : m_get 79 14 = some (.baload, 1) := by decide +kernel
theorem g79_15 : m_get 79 15 = some (.ifCond .ne 6, 3) := by decide +kernel
theorem g79_18 : m_get 79 18 = some (.bipush (-2), 2) := by decide +kernel
theorem g79_20 : m_get 79 20 = some (.ireturn, 1) := by decide +kernel
theorem g79_21 : m_get 79 21 = some (.aload_n 0, 1) := by decide +kernel
theorem g79_22 : m_get 79 22 = some (.getfield 33, 3) := by decide +kernel
theorem g79_25 : m_get 79 25 = some (.aload_n 0, 1) := by decide +kernel
theorem g79_26 : m_get 79 26 = some (.getfield 44, 3) := by decide +kernel
theorem g79_29 : m_get 79 29 = some (.iload_n 1, 1) := by decide +kernel
theorem g79_30 : m_get 79 30 = some (.aaload, 1) := by decide +kernel
theorem g79_31 : m_get 79 31 = some (.invokevirtual 151, 3) := by decide +kernel
theorem g79_34 : m_get 79 34 = some (.aload_n 0, 1) := by decide +kernel
theorem g79_35 : m_get 79 35 = some (.iconst 0, 1) := by decide +kernel
theorem g79_36 : m_get 79 36 = some (.putfield 93, 3) := by decide +kernel
theorem g79_39 : m_get 79 39 = some (.aload_n 0, 1) := by decide +kernel
theorem g79_40 : m_get 79 40 = some (.invokevirtual 138, 3) := by decide +kernel
theorem g79_43 : m_get 79 43 = some (.ireturn, 1) := by decide +kernel
theorem f79_33 : m_fl (m_own 79) 33 = some (6, 5) := by decide +kernel
theorem f79_44 : m_fl (m_own 79) 44 = some (6, 10) := by decide +kernel
theorem f79_47 : m_fl (m_own 79) 47 = some (6, 11) := by decide +kernel
theorem f79_93 : m_fl (m_own 79) 93 = some (6, 9) := by decide +kernel
theorem k79_138 : m_ml (m_own 79) 138 = some (0, 87) := by decide +kernel
theorem k79_151 : m_ml (m_own 79) 151 = some (0, 15) := by decide +kernel
theorem k79_226 : m_ml (m_own 79) 226 = some (1, 86) := by decide +kernel
theorem g80_0 : m_get 80 0 = some (.iload_n 1, 1) := by decide +kernel
theorem g80_1 : m_get 80 1 = some (.tableswitch 138 0 10 #[59, 67, 75, 83, 91, 99, 107, 115, 120, 125, 130], 59) := by decide +kernel
theorem g80_60 : m_get 80 60 = some (.aload_n 0, 1) := by decide +kernel
theorem g80_61 : m_get 80 61 = some (.getfield 23, 3) := by decide +kernel
theorem g80_64 : m_get 80 64 = some (.getfield 229, 3) := by decide +kernel
theorem g80_67 : m_get 80 67 = some (.ireturn, 1) := by decide +kernel
theorem g80_68 : m_get 80 68 = some (.aload_n 0, 1) := by decide +kernel
theorem g80_69 : m_get 80 69 = some (.getfield 23, 3) := by decide +kernel
theorem g80_72 : m_get 80 72 = some (.getfield 232, 3) := by decide +kernel
theorem g80_75 : m_get 80 75 = some (.ireturn, 1) := by decide +kernel
theorem g80_76 : m_get 80 76 = some (.aload_n 0, 1) := by decide +kernel
theorem g80_77 : m_get 80 77 = some (.getfield 23, 3) := by decide +kernel
theorem g80_80 : m_get 80 80 = some (.getfield 235, 3) := by decide +kernel
theorem g80_83 : m_get 80 83 = some (.ireturn, 1) := by decide +kernel
theorem g80_84 : m_get 80 84 = some (.aload_n 0, 1) := by decide +kernel
theorem g80_85 : m_get 80 85 = some (.getfield 23, 3) := by decide +kernel
theorem g80_88 : m_get 80 88 = some (.getfield 238, 3) := by decide +kernel
theorem g80_91 : m_get 80 91 = some (.ireturn, 1) := by decide +kernel
theorem g80_92 : m_get 80 92 = some (.aload_n 0, 1) := by decide +kernel
theorem g80_93 : m_get 80 93 = some (.getfield 23, 3) := by decide +kernel
theorem g80_96 : m_get 80 96 = some (.getfield 241, 3) := by decide +kernel
theorem g80_99 : m_get 80 99 = some (.ireturn, 1) := by decide +kernel
theorem g80_100 : m_get 80 100 = some (.aload_n 0, 1) := by decide +kernel
theorem g80_101 : m_get 80 101 = some (.getfield 23, 3) := by decide +kernel
theorem g80_104 : m_get 80 104 = some (.getfield 244, 3) := by decide +kernel
theorem g80_107 : m_get 80 107 = some (.ireturn, 1) := by decide +kernel
theorem g80_108 : m_get 80 108 = some (.aload_n 0, 1) := by decide +kernel
theorem g80_109 : m_get 80 109 = some (.getfield 23, 3) := by decide +kernel
theorem g80_112 : m_get 80 112 = some (.getfield 247, 3) := by decide +kernel
theorem g80_115 : m_get 80 115 = some (.ireturn, 1) := by decide +kernel
theorem g80_116 : m_get 80 116 = some (.aload_n 0, 1) := by decide +kernel
theorem g80_117 : m_get 80 117 = some (.invokevirtual 138, 3) := by decide +kernel
theorem g80_120 : m_get 80 120 = some (.ireturn, 1) := by decide +kernel
theorem g80_121 : m_get 80 121 = some (.aload_n 0, 1) := by decide +kernel
theorem g80_122 : m_get 80 122 = some (.getfield 79, 3) := by decide +kernel
theorem g80_125 : m_get 80 125 = some (.ireturn, 1) := by decide +kernel
theorem g80_126 : m_get 80 126 = some (.aload_n 0, 1) := by decide +kernel
theorem g80_127 : m_get 80 127 = some (.getfield 93, 3) := by decide +kernel
theorem g80_130 : m_get 80 130 = some (.ireturn, 1) := by decide +kernel
theorem g80_131 : m_get 80 131 = some (.aload_n 0, 1) := by decide +kernel
theorem g80_132 : m_get 80 132 = some (.getfield 23, 3) := by decide +kernel
theorem g80_135 : m_get 80 135 = some (.invokevirtual 250, 3) := by decide +kernel
theorem g80_138 : m_get 80 138 = some (.ireturn, 1) := by decide +kernel
theorem g80_139 : m_get 80 139 = some (.iconst (-1), 1) := by decide +kernel
theorem g80_140 : m_get 80 140 = some (.ireturn, 1) := by decide +kernel
theorem f80_23 : m_fl (m_own 80) 23 = some (6, 3) := by decide +kernel
theorem f80_79 : m_fl (m_own 80) 79 = some (6, 1) := by decide +kernel
theorem f80_93 : m_fl (m_own 80) 93 = some (6, 9) := by decide +kernel
theorem f80_229 : m_fl (m_own 80) 229 = some (4, 0) := by decide +kernel
theorem f80_232 : m_fl (m_own 80) 232 = some (4, 1) := by decide +kernel
theorem f80_235 : m_fl (m_own 80) 235 = some (4, 2) := by decide +kernel
theorem f80_238 : m_fl (m_own 80) 238 = some (4, 3) := by decide +kernel
theorem f80_241 : m_fl (m_own 80) 241 = some (4, 4) := by decide +kernel
theorem f80_244 : m_fl (m_own 80) 244 = some (4, 5) := by decide +kernel
theorem f80_247 : m_fl (m_own 80) 247 = some (4, 6) := by decide +kernel
theorem k80_138 : m_ml (m_own 80) 138 = some (0, 87) := by decide +kernel
theorem k80_250 : m_ml (m_own 80) 250 = some (0, 44) := by decide +kernel
theorem g81_0 : m_get 81 0 = some (.iload_n 1, 1) := by decide +kernel
theorem g81_1 : m_get 81 1 = some (.ifCond .lt 18, 3) := by decide +kernel
theorem g81_4 : m_get 81 4 = some (.iload_n 1, 1) := by decide +kernel
theorem g81_5 : m_get 81 5 = some (.aload_n 0, 1) := by decide +kernel
theorem g81_6 : m_get 81 6 = some (.getfield 23, 3) := by decide +kernel
theorem g81_9 : m_get 81 9 = some (.getfield 229, 3) := by decide +kernel
theorem g81_12 : m_get 81 12 = some (.if_icmp .ge 7, 3) := by decide +kernel
theorem g81_15 : m_get 81 15 = some (.iconst 1, 1) := by decide +kernel
theorem g81_16 : m_get 81 16 = some (.goto 4, 3) := by decide +kernel
theorem g81_19 : m_get 81 19 = some (.iconst 0, 1) := by decide +kernel
theorem g81_20 : m_get 81 20 = some (.ireturn, 1) := by decide +kernel
theorem f81_23 : m_fl (m_own 81) 23 = some (6, 3) := by decide +kernel
theorem f81_229 : m_fl (m_own 81) 229 = some (4, 0) := by decide +kernel
theorem g82_0 : m_get 82 0 = some (.iload_n 1, 1) := by decide +kernel
theorem g82_1 : m_get 82 1 = some (.ifCond .lt 20, 3) := by decide +kernel
theorem g82_4 : m_get 82 4 = some (.iload_n 1, 1) := by decide +kernel
theorem g82_5 : m_get 82 5 = some (.aload_n 0, 1) := by decide +kernel
theorem g82_6 : m_get 82 6 = some (.getfield 23, 3) := by decide +kernel
theorem g82_9 : m_get 82 9 = some (.getfield 229, 3) := by decide +kernel
theorem g82_12 : m_get 82 12 = some (.iconst 4, 1) := by decide +kernel
theorem g82_13 : m_get 82 13 = some (.imul, 1) := by decide +kernel
theorem g82_14 : m_get 82 14 = some (.if_icmp .ge 7, 3) := by decide +kernel
theorem g82_17 : m_get 82 17 = some (.iconst 1, 1) := by decide +kernel
theorem g82_18 : m_get 82 18 = some (.goto 4, 3) := by decide +kernel
theorem g82_21 : m_get 82 21 = some (.iconst 0, 1) := by decide +kernel
theorem g82_22 : m_get 82 22 = some (.ireturn, 1) := by decide +kernel
theorem f82_23 : m_fl (m_own 82) 23 = some (6, 3) := by decide +kernel
theorem f82_229 : m_fl (m_own 82) 229 = some (4, 0) := by decide +kernel
theorem g83_0 : m_get 83 0 = some (.iload_n 1, 1) := by decide +kernel
theorem g83_1 : m_get 83 1 = some (.ifCond .lt 18, 3) := by decide +kernel
theorem g83_4 : m_get 83 4 = some (.iload_n 1, 1) := by decide +kernel
theorem g83_5 : m_get 83 5 = some (.aload_n 0, 1) := by decide +kernel
theorem g83_6 : m_get 83 6 = some (.getfield 23, 3) := by decide +kernel
theorem g83_9 : m_get 83 9 = some (.invokevirtual 142, 3) := by decide +kernel
theorem g83_12 : m_get 83 12 = some (.if_icmp .ge 7, 3) := by decide +kernel
theorem g83_15 : m_get 83 15 = some (.iconst 1, 1) := by decide +kernel
theorem g83_16 : m_get 83 16 = some (.goto 4, 3) := by decide +kernel
theorem g83_19 : m_get 83 19 = some (.iconst 0, 1) := by decide +kernel
theorem g83_20 : m_get 83 20 = some (.ireturn, 1) := by decide +kernel
theorem f83_23 : m_fl (m_own 83) 23 = some (6, 3) := by decide +kernel
theorem k83_142 : m_ml (m_own 83) 142 = some (0, 36) := by decide +kernel
theorem g84_0 : m_get 84 0 = some (.iload_n 0, 1) := by decide +kernel
theorem g84_1 : m_get 84 1 = some (.ifCond .lt 12, 3) := by decide +kernel
theorem g84_4 : m_get 84 4 = some (.iload_n 0, 1) := by decide +kernel
theorem g84_5 : m_get 84 5 = some (.iconst 3, 1) := by decide +kernel
theorem g84_6 : m_get 84 6 = some (.if_icmp .ge 7, 3) := by decide +kernel
theorem g84_9 : m_get 84 9 = some (.iconst 1, 1) := by decide +kernel
theorem g84_10 : m_get 84 10 = some (.goto 4, 3) := by decide +kernel
theorem g84_13 : m_get 84 13 = some (.iconst 0, 1) := by decide +kernel
theorem g84_14 : m_get 84 14 = some (.ireturn, 1) := by decide +kernel
theorem g85_0 : m_get 85 0 = some (.iload_n 0, 1) := by decide +kernel
theorem g85_1 : m_get 85 1 = some (.iconst 1, 1) := by decide +kernel
theorem g85_2 : m_get 85 2 = some (.if_icmp .lt 24, 3) := by decide +kernel
theorem g85_5 : m_get 85 5 = some (.iload_n 0, 1) := by decide +kernel
theorem g85_6 : m_get 85 6 = some (.bipush 24, 2) := by decide +kernel
theorem g85_8 : m_get 85 8 = some (.if_icmp .gt 18, 3) := by decide +kernel
theorem g85_11 : m_get 85 11 = some (.iload_n 1, 1) := by decide +kernel
theorem g85_12 : m_get 85 12 = some (.iconst 1, 1) := by decide +kernel
theorem g85_13 : m_get 85 13 = some (.if_icmp .lt 13, 3) := by decide +kernel
theorem g85_16 : m_get 85 16 = some (.iload_n 1, 1) := by decide +kernel
theorem g85_17 : m_get 85 17 = some (.bipush 24, 2) := by decide +kernel
theorem g85_19 : m_get 85 19 = some (.if_icmp .gt 7, 3) := by decide +kernel
theorem g85_22 : m_get 85 22 = some (.iconst 1, 1) := by decide +kernel
theorem g85_23 : m_get 85 23 = some (.goto 4, 3) := by decide +kernel
theorem g85_26 : m_get 85 26 = some (.iconst 0, 1) := by decide +kernel
theorem g85_27 : m_get 85 27 = some (.ireturn, 1) := by decide +kernel
theorem g86_0 : m_get 86 0 = some (.iload_n 0, 1) := by decide +kernel
theorem g86_1 : m_get 86 1 = some (.ifCond .lt 12, 3) := by decide +kernel
theorem g86_4 : m_get 86 4 = some (.iload_n 0, 1) := by decide +kernel
theorem g86_5 : m_get 86 5 = some (.iconst 2, 1) := by decide +kernel
theorem g86_6 : m_get 86 6 = some (.if_icmp .ge 7, 3) := by decide +kernel
theorem g86_9 : m_get 86 9 = some (.iconst 1, 1) := by decide +kernel
theorem g86_10 : m_get 86 10 = some (.goto 4, 3) := by decide +kernel
theorem g86_13 : m_get 86 13 = some (.iconst 0, 1) := by decide +kernel
theorem g86_14 : m_get 86 14 = some (.ireturn, 1) := by decide +kernel
theorem g87_0 : m_get 87 0 = some (.iconst 0, 1) := by decide +kernel
theorem g87_1 : m_get 87 1 = some (.istore_n 1, 1) := by decide +kernel
theorem g87_2 : m_get 87 2 = some (.iconst 0, 1) := by decide +kernel
theorem g87_3 : m_get 87 3 = some (.istore_n 2, 1) := by decide +kernel
theorem g87_4 : m_get 87 4 = some (.iload_n 2, 1) := by decide +kernel
theorem g87_5 : m_get 87 5 = some (.aload_n 0, 1) := by decide +kernel
theorem g87_6 : m_get 87 6 = some (.getfield 23, 3) := by decide +kernel
theorem g87_9 : m_get 87 9 = some (.invokevirtual 142, 3) := by decide +kernel
theorem g87_12 : m_get 87 12 = some (.if_icmp .ge 23, 3) := by decide +kernel
theorem g87_15 : m_get 87 15 = some (.aload_n 0, 1) := by decide +kernel
theorem g87_16 : m_get 87 16 = some (.getfield 33, 3) := by decide +kernel
theorem g87_19 : m_get 87 19 = some (.iload_n 2, 1) := by decide +kernel
theorem g87_20 : m_get 87 20 = some (.invokevirtual 126, 3) := by decide +kernel
theorem g87_23 : m_get 87 23 = some (.ifCond .eq 6, 3) := by decide +kernel
theorem g87_26 : m_get 87 26 = some (.iinc 1 1, 3) := by decide +kernel
theorem g87_29 : m_get 87 29 = some (.iinc 2 1, 3) := by decide +kernel
theorem g87_32 : m_get 87 32 = some (.goto (-28), 3) := by decide +kernel
theorem g87_35 : m_get 87 35 = some (.iload_n 1, 1) := by decide +kernel
theorem g87_36 : m_get 87 36 = some (.ireturn, 1) := by decide +kernel
theorem f87_23 : m_fl (m_own 87) 23 = some (6, 3) := by decide +kernel
theorem f87_33 : m_fl (m_own 87) 33 = some (6, 5) := by decide +kernel
theorem k87_126 : m_ml (m_own 87) 126 = some (0, 17) := by decide +kernel
theorem k87_142 : m_ml (m_own 87) 142 = some (0, 36) := by decide +kernel
theorem g88_0 : m_get 88 0 = some (.iconst 0, 1) := by decide +kernel
theorem g88_1 : m_get 88 1 = some (.istore_n 1, 1) := by decide +kernel
theorem g88_2 : m_get 88 2 = some (.iload_n 1, 1) := by decide +kernel
theorem g88_3 : m_get 88 3 = some (.iconst 2, 1) := by decide +kernel
theorem g88_4 : m_get 88 4 = some (.if_icmp .ge 16, 3) := by decide +kernel
theorem g88_7 : m_get 88 7 = some (.aload_n 0, 1) := by decide +kernel
theorem g88_8 : m_get 88 8 = some (.getfield 47, 3) := by decide +kernel
theorem g88_11 : m_get 88 11 = some (.iload_n 1, 1) := by decide +kernel
theorem g88_12 : m_get 88 12 = some (.iconst 0, 1) := by decide +kernel
theorem g88_13 : m_get 88 13 = some (.bastore, 1) := by decide +kernel
theorem g88_14 : m_get 88 14 = some (.iinc 1 1, 3) := by decide +kernel
theorem g88_17 : m_get 88 17 = some (.goto (-15), 3) := by decide +kernel
theorem g88_20 : m_get 88 20 = some (.return_, 1) := by decide +kernel
theorem f88_47 : m_fl (m_own 88) 47 = some (6, 11) := by decide +kernel
theorem g89_0 : m_get 89 0 = some (.aload_n 0, 1) := by decide +kernel
theorem g89_1 : m_get 89 1 = some (.getfield 40, 3) := by decide +kernel
theorem g89_4 : m_get 89 4 = some (.aload_n 0, 1) := by decide +kernel
theorem g89_5 : m_get 89 5 = some (.getfield 148, 3) := by decide +kernel
theorem g89_8 : m_get 89 8 = some (.aaload, 1) := by decide +kernel
theorem g89_9 : m_get 89 9 = some (.aload_n 0, 1) := by decide +kernel
theorem g89_10 : m_get 89 10 = some (.getfield 33, 3) := by decide +kernel
theorem g89_13 : m_get 89 13 = some (.invokevirtual 151, 3) := by decide +kernel
theorem g89_16 : m_get 89 16 = some (.aload_n 0, 1) := by decide +kernel
theorem g89_17 : m_get 89 17 = some (.aload_n 0, 1) := by decide +kernel
theorem g89_18 : m_get 89 18 = some (.getfield 148, 3) := by decide +kernel
theorem g89_21 : m_get 89 21 = some (.iconst 1, 1) := by decide +kernel
theorem g89_22 : m_get 89 22 = some (.iadd, 1) := by decide +kernel
theorem g89_23 : m_get 89 23 = some (.bipush 10, 2) := by decide +kernel
theorem g89_25 : m_get 89 25 = some (.irem, 1) := by decide +kernel
theorem g89_26 : m_get 89 26 = some (.putfield 148, 3) := by decide +kernel
theorem g89_29 : m_get 89 29 = some (.aload_n 0, 1) := by decide +kernel
theorem g89_30 : m_get 89 30 = some (.aload_n 0, 1) := by decide +kernel
theorem g89_31 : m_get 89 31 = some (.getfield 93, 3) := by decide +kernel
theorem g89_34 : m_get 89 34 = some (.iconst 1, 1) := by decide +kernel
theorem g89_35 : m_get 89 35 = some (.iadd, 1) := by decide +kernel
theorem g89_36 : m_get 89 36 = some (.bipush 10, 2) := by decide +kernel
theorem g89_38 : m_get 89 38 = some (.invokestatic 253, 3) := by decide +kernel
theorem g89_41 : m_get 89 41 = some (.putfield 93, 3) := by decide +kernel
theorem g89_44 : m_get 89 44 = some (.return_, 1) := by decide +kernel
theorem f89_33 : m_fl (m_own 89) 33 = some (6, 5) := by decide +kernel
theorem f89_40 : m_fl (m_own 89) 40 = some (6, 7) := by decide +kernel
theorem f89_93 : m_fl (m_own 89) 93 = some (6, 9) := by decide +kernel
theorem f89_148 : m_fl (m_own 89) 148 = some (6, 8) := by decide +kernel
theorem k89_151 : m_ml (m_own 89) 151 = some (0, 15) := by decide +kernel
theorem k89_253 : m_ml (m_own 89) 253 = some (8, 0) := by decide +kernel
theorem g90_0 : m_get 90 0 = some (.iload_n 2, 1) := by decide +kernel
theorem g90_1 : m_get 90 1 = some (.iconst 4, 1) := by decide +kernel
theorem g90_2 : m_get 90 2 = some (.idiv, 1) := by decide +kernel
theorem g90_3 : m_get 90 3 = some (.istore_n 3, 1) := by decide +kernel
theorem g90_4 : m_get 90 4 = some (.aload_n 0, 1) := by decide +kernel
theorem g90_5 : m_get 90 5 = some (.getfield 33, 3) := by decide +kernel
theorem g90_8 : m_get 90 8 = some (.iload_n 3, 1) := by decide +kernel
theorem g90_9 : m_get 90 9 = some (.invokevirtual 109, 3) := by decide +kernel
theorem g90_12 : m_get 90 12 = some (.ifCond .gt 5, 3) := by decide +kernel
theorem g90_15 : m_get 90 15 = some (.iconst 1, 1) := by decide +kernel
theorem g90_16 : m_get 90 16 = some (.ireturn, 1) := by decide +kernel
theorem g90_17 : m_get 90 17 = some (.aload_n 0, 1) := by decide +kernel
theorem g90_18 : m_get 90 18 = some (.iload_n 1, 1) := by decide +kernel
theorem g90_19 : m_get 90 19 = some (.iload_n 2, 1) := by decide +kernel
theorem g90_20 : m_get 90 20 = some (.invokevirtual 258, 3) := by decide +kernel
theorem g90_23 : m_get 90 23 = some (.ifCond .ne 5, 3) := by decide +kernel
theorem g90_26 : m_get 90 26 = some (.iconst 2, 1) := by decide +kernel
theorem g90_27 : m_get 90 27 = some (.ireturn, 1) := by decide +kernel
theorem g90_28 : m_get 90 28 = some (.aload_n 0, 1) := by decide +kernel
theorem g90_29 : m_get 90 29 = some (.iload_n 1, 1) := by decide +kernel
theorem g90_30 : m_get 90 30 = some (.iload_n 2, 1) := by decide +kernel
theorem g90_31 : m_get 90 31 = some (.invokevirtual 261, 3) := by decide +kernel
theorem g90_34 : m_get 90 34 = some (.ifCond .ne 5, 3) := by decide +kernel
theorem g90_37 : m_get 90 37 = some (.iconst 3, 1) := by decide +kernel
theorem g90_38 : m_get 90 38 = some (.ireturn, 1) := by decide +kernel
theorem g90_39 : m_get 90 39 = some (.aload_n 0, 1) := by decide +kernel
theorem g90_40 : m_get 90 40 = some (.getfield 33, 3) := by decide +kernel
theorem g90_43 : m_get 90 43 = some (.aload_n 0, 1) := by decide +kernel
theorem g90_44 : m_get 90 44 = some (.getfield 23, 3) := by decide +kernel
theorem g90_47 : m_get 90 47 = some (.aload_n 0, 1) := by decide +kernel
theorem g90_48 : m_get 90 48 = some (.getfield 23, 3) := by decide +kernel
theorem g90_51 : m_get 90 51 = some (.getfield 103, 3) := by decide +kernel
theorem g90_54 : m_get 90 54 = some (.iload_n 3, 1) := by decide +kernel
theorem g90_55 : m_get 90 55 = some (.iaload, 1) := by decide +kernel
theorem g90_56 : m_get 90 56 = some (.invokevirtual 178, 3) := by decide +kernel
theorem g90_59 : m_get 90 59 = some (.aload_n 0, 1) := by decide +kernel
theorem g90_60 : m_get 90 60 = some (.getfield 23, 3) := by decide +kernel
theorem g90_63 : m_get 90 63 = some (.getfield 241, 3) := by decide +kernel
theorem g90_66 : m_get 90 66 = some (.if_icmp .lt 7, 3) := by decide +kernel
theorem g90_69 : m_get 90 69 = some (.iconst 4, 1) := by decide +kernel
theorem g90_70 : m_get 90 70 = some (.goto 4, 3) := by decide +kernel
theorem g90_73 : m_get 90 73 = some (.iconst 0, 1) := by decide +kernel
theorem g90_74 : m_get 90 74 = some (.ireturn, 1) := by decide +kernel
theorem f90_23 : m_fl (m_own 90) 23 = some (6, 3) := by decide +kernel
theorem f90_33 : m_fl (m_own 90) 33 = some (6, 5) := by decide +kernel
theorem f90_103 : m_fl (m_own 90) 103 = some (4, 8) := by decide +kernel
theorem f90_241 : m_fl (m_own 90) 241 = some (4, 4) := by decide +kernel
theorem k90_109 : m_ml (m_own 90) 109 = some (0, 18) := by decide +kernel
theorem k90_178 : m_ml (m_own 90) 178 = some (0, 19) := by decide +kernel
theorem k90_258 : m_ml (m_own 90) 258 = some (0, 91) := by decide +kernel
theorem k90_261 : m_ml (m_own 90) 261 = some (0, 92) := by decide +kernel
theorem g91_0 : m_get 91 0 = some (.iconst 0, 1) := by decide +kernel
theorem g91_1 : m_get 91 1 = some (.istore_n 3, 1) := by decide +kernel
theorem g91_2 : m_get 91 2 = some (.iload_n 3, 1) := by decide +kernel
theorem g91_3 : m_get 91 3 = some (.iconst 4, 1) := by decide +kernel
theorem g91_4 : m_get 91 4 = some (.if_icmp .ge 79, 3) := by decide +kernel
theorem g91_7 : m_get 91 7 = some (.aload_n 0, 1) := by decide +kernel
theorem g91_8 : m_get 91 8 = some (.getfield 23, 3) := by decide +kernel
theorem g91_11 : m_get 91 11 = some (.iload_n 1, 1) := by decide +kernel
theorem g91_12 : m_get 91 12 = some (.iload_n 3, 1) := by decide +kernel
theorem g91_13 : m_get 91 13 = some (.invokevirtual 264, 3) := by decide +kernel
theorem g91_16 : m_get 91 16 = some (.istore 4, 2) := by decide +kernel
theorem g91_18 : m_get 91 18 = some (.iload 4, 2) := by decide +kernel
theorem g91_20 : m_get 91 20 = some (.ifCond .lt 57, 3) := by decide +kernel
theorem g91_23 : m_get 91 23 = some (.iload 4, 2) := by decide +kernel
theorem g91_25 : m_get 91 25 = some (.bipush 6, 2) := by decide +kernel
theorem g91_27 : m_get 91 27 = some (.if_icmp .ge 50, 3) := by decide +kernel
theorem g91_30 : m_get 91 30 = some (.aload_n 0, 1) := by decide +kernel
theorem g91_31 : m_get 91 31 = some (.getfield 33, 3) := by decide +kernel
theorem g91_34 : m_get 91 34 = some (.iload 4, 2) := by decide +kernel
theorem g91_36 : m_get 91 36 = some (.invokevirtual 126, 3) := by decide +kernel
theorem g91_39 : m_get 91 39 = some (.ifCond .ne 38, 3) := by decide +kernel
theorem g91_42 : m_get 91 42 = some (.aload_n 0, 1) := by decide +kernel
theorem g91_43 : m_get 91 43 = some (.getfield 23, 3) := by decide +kernel
theorem g91_46 : m_get 91 46 = some (.aload_n 0, 1) := by decide +kernel
theorem g91_47 : m_get 91 47 = some (.getfield 33, 3) := by decide +kernel
theorem g91_50 : m_get 91 50 = some (.getfield 135, 3) := by decide +kernel
theorem g91_53 : m_get 91 53 = some (.iload 4, 2) := by decide +kernel
theorem g91_55 : m_get 91 55 = some (.iaload, 1) := by decide +kernel
theorem g91_56 : m_get 91 56 = some (.iload_n 3, 1) := by decide +kernel
theorem g91_57 : m_get 91 57 = some (.invokestatic 267, 3) := by decide +kernel
theorem g91_60 : m_get 91 60 = some (.invokevirtual 113, 3) := by decide +kernel
theorem g91_63 : m_get 91 63 = some (.aload_n 0, 1) := by decide +kernel
theorem g91_64 : m_get 91 64 = some (.getfield 23, 3) := by decide +kernel
theorem g91_67 : m_get 91 67 = some (.iload_n 2, 1) := by decide +kernel
theorem g91_68 : m_get 91 68 = some (.iload_n 3, 1) := by decide +kernel
theorem g91_69 : m_get 91 69 = some (.invokevirtual 113, 3) := by decide +kernel
theorem g91_72 : m_get 91 72 = some (.if_icmp .eq 5, 3) := by decide +kernel
theorem g91_75 : m_get 91 75 = some (.iconst 0, 1) := by decide +kernel
theorem g91_76 : m_get 91 76 = some (.ireturn, 1) := by decide +kernel
theorem g91_77 : m_get 91 77 = some (.iinc 3 1, 3) := by decide +kernel
theorem g91_80 : m_get 91 80 = some (.goto (-78), 3) := by decide +kernel
theorem g91_83 : m_get 91 83 = some (.iconst 1, 1) := by decide +kernel
theorem g91_84 : m_get 91 84 = some (.ireturn, 1) := by decide +kernel
theorem f91_23 : m_fl (m_own 91) 23 = some (6, 3) := by decide +kernel
theorem f91_33 : m_fl (m_own 91) 33 = some (6, 5) := by decide +kernel
theorem f91_135 : m_fl (m_own 91) 135 = some (2, 0) := by decide +kernel
theorem k91_113 : m_ml (m_own 91) 113 = some (0, 37) := by decide +kernel
theorem k91_126 : m_ml (m_own 91) 126 = some (0, 17) := by decide +kernel
theorem k91_264 : m_ml (m_own 91) 264 = some (0, 42) := by decide +kernel
theorem k91_267 : m_ml (m_own 91) 267 = some (1, 96) := by decide +kernel
theorem g92_0 : m_get 92 0 = some (.aload_n 0, 1) := by decide +kernel
theorem g92_1 : m_get 92 1 = some (.getfield 23, 3) := by decide +kernel
theorem g92_4 : m_get 92 4 = some (.getfield 238, 3) := by decide +kernel
theorem g92_7 : m_get 92 7 = some (.bipush (-9), 2) := by decide +kernel
theorem g92_9 : m_get 92 9 = some (.if_icmp .ne 5, 3) := by decide +kernel
theorem g92_12 : m_get 92 12 = some (.iconst 1, 1) := by decide +kernel
theorem g92_13 : m_get 92 13 = some (.ireturn, 1) := by decide +kernel
theorem g92_14 : m_get 92 14 = some (.iconst 0, 1) := by decide +kernel
theorem g92_15 : m_get 92 15 = some (.istore_n 3, 1) := by decide +kernel
theorem g92_16 : m_get 92 16 = some (.iload_n 3, 1) := by decide +kernel
theorem g92_17 : m_get 92 17 = some (.iconst 4, 1) := by decide +kernel
theorem g92_18 : m_get 92 18 = some (.if_icmp .ge 42, 3) := by decide +kernel
theorem g92_21 : m_get 92 21 = some (.aload_n 0, 1) := by decide +kernel
theorem g92_22 : m_get 92 22 = some (.getfield 23, 3) := by decide +kernel
theorem g92_25 : m_get 92 25 = some (.iload_n 1, 1) := by decide +kernel
theorem g92_26 : m_get 92 26 = some (.iload_n 3, 1) := by decide +kernel
theorem g92_27 : m_get 92 27 = some (.invokevirtual 264, 3) := by decide +kernel
theorem g92_30 : m_get 92 30 = some (.ifCond .ge 24, 3) := by decide +kernel
theorem g92_33 : m_get 92 33 = some (.aload_n 0, 1) := by decide +kernel
theorem g92_34 : m_get 92 34 = some (.getfield 23, 3) := by decide +kernel
theorem g92_37 : m_get 92 37 = some (.iload_n 2, 1) := by decide +kernel
theorem g92_38 : m_get 92 38 = some (.iload_n 3, 1) := by decide +kernel
theorem g92_39 : m_get 92 39 = some (.invokevirtual 113, 3) := by decide +kernel
theorem g92_42 : m_get 92 42 = some (.aload_n 0, 1) := by decide +kernel
theorem g92_43 : m_get 92 43 = some (.getfield 23, 3) := by decide +kernel
theorem g92_46 : m_get 92 46 = some (.getfield 238, 3) := by decide +kernel
theorem g92_49 : m_get 92 49 = some (.if_icmp .eq 5, 3) := by decide +kernel
theorem g92_52 : m_get 92 52 = some (.iconst 0, 1) := by decide +kernel
theorem g92_53 : m_get 92 53 = some (.ireturn, 1) := by decide +kernel
theorem g92_54 : m_get 92 54 = some (.iinc 3 1, 3) := by decide +kernel
theorem g92_57 : m_get 92 57 = some (.goto (-41), 3) := by decide +kernel
theorem g92_60 : m_get 92 60 = some (.iconst 1, 1) := by decide +kernel
theorem g92_61 : m_get 92 61 = some (.ireturn, 1) := by decide +kernel
theorem f92_23 : m_fl (m_own 92) 23 = some (6, 3) := by decide +kernel
theorem f92_238 : m_fl (m_own 92) 238 = some (4, 3) := by decide +kernel
theorem k92_113 : m_ml (m_own 92) 113 = some (0, 37) := by decide +kernel
theorem k92_264 : m_ml (m_own 92) 264 = some (0, 42) := by decide +kernel
theorem g93_0 : m_get 93 0 = some (.aload_n 0, 1) := by decide +kernel
theorem g93_1 : m_get 93 1 = some (.getfield 54, 3) := by decide +kernel
theorem g93_4 : m_get 93 4 = some (.aload_n 0, 1) := by decide +kernel
theorem g93_5 : m_get 93 5 = some (.getfield 23, 3) := by decide +kernel
theorem g93_8 : m_get 93 8 = some (.aload_n 1, 1) := by decide +kernel
theorem g93_9 : m_get 93 9 = some (.invokevirtual 155, 3) := by decide +kernel
theorem g93_12 : m_get 93 12 = some (.aload_n 0, 1) := by decide +kernel
theorem g93_13 : m_get 93 13 = some (.getfield 54, 3) := by decide +kernel
theorem g93_16 : m_get 93 16 = some (.aload_n 0, 1) := by decide +kernel
theorem g93_17 : m_get 93 17 = some (.getfield 23, 3) := by decide +kernel
theorem g93_20 : m_get 93 20 = some (.aload_n 1, 1) := by decide +kernel
theorem g93_21 : m_get 93 21 = some (.invokevirtual 158, 3) := by decide +kernel
theorem g93_24 : m_get 93 24 = some (.aload_n 0, 1) := by decide +kernel
theorem g93_25 : m_get 93 25 = some (.getfield 61, 3) := by decide +kernel
theorem g93_28 : m_get 93 28 = some (.aload_n 0, 1) := by decide +kernel
theorem g93_29 : m_get 93 29 = some (.getfield 23, 3) := by decide +kernel
theorem g93_32 : m_get 93 32 = some (.aload_n 1, 1) := by decide +kernel
theorem g93_33 : m_get 93 33 = some (.aload_n 0, 1) := by decide +kernel
theorem g93_34 : m_get 93 34 = some (.getfield 54, 3) := by decide +kernel
theorem g93_37 : m_get 93 37 = some (.getfield 161, 3) := by decide +kernel
theorem g93_40 : m_get 93 40 = some (.iload_n 2, 1) := by decide +kernel
theorem g93_41 : m_get 93 41 = some (.invokevirtual 270, 3) := by decide +kernel
theorem g93_44 : m_get 93 44 = some (.ireturn, 1) := by decide +kernel
theorem f93_23 : m_fl (m_own 93) 23 = some (6, 3) := by decide +kernel
theorem f93_54 : m_fl (m_own 93) 54 = some (6, 12) := by decide +kernel
theorem f93_61 : m_fl (m_own 93) 61 = some (6, 13) := by decide +kernel
theorem f93_161 : m_fl (m_own 93) 161 = some (5, 0) := by decide +kernel
theorem k93_155 : m_ml (m_own 93) 155 = some (0, 48) := by decide +kernel
theorem k93_158 : m_ml (m_own 93) 158 = some (0, 49) := by decide +kernel
theorem k93_270 : m_ml (m_own 93) 270 = some (0, 8) := by decide +kernel
theorem g94_0 : m_get 94 0 = some (.aload_n 0, 1) := by decide +kernel
theorem g94_1 : m_get 94 1 = some (.getfield 54, 3) := by decide +kernel
theorem g94_4 : m_get 94 4 = some (.aload_n 0, 1) := by decide +kernel
theorem g94_5 : m_get 94 5 = some (.getfield 23, 3) := by decide +kernel
theorem g94_8 : m_get 94 8 = some (.aload_n 0, 1) := by decide +kernel
theorem g94_9 : m_get 94 9 = some (.getfield 33, 3) := by decide +kernel
theorem g94_12 : m_get 94 12 = some (.invokevirtual 155, 3) := by decide +kernel
theorem g94_15 : m_get 94 15 = some (.aload_n 0, 1) := by decide +kernel
theorem g94_16 : m_get 94 16 = some (.getfield 54, 3) := by decide +kernel
theorem g94_19 : m_get 94 19 = some (.getfield 161, 3) := by decide +kernel
theorem g94_22 : m_get 94 22 = some (.iload_n 1, 1) := by decide +kernel
theorem g94_23 : m_get 94 23 = some (.dup2, 1) := by decide +kernel
theorem g94_24 : m_get 94 24 = some (.iaload, 1) := by decide +kernel
theorem g94_25 : m_get 94 25 = some (.iconst 1, 1) := by decide +kernel
theorem g94_26 : m_get 94 26 = some (.aload_n 0, 1) := by decide +kernel
theorem g94_27 : m_get 94 27 = some (.getfield 72, 3) := by decide +kernel
theorem g94_30 : m_get 94 30 = some (.iload_n 1, 1) := by decide +kernel
theorem g94_31 : m_get 94 31 = some (.iaload, 1) := by decide +kernel
theorem g94_32 : m_get 94 32 = some (.ishl, 1) := by decide +kernel
theorem g94_33 : m_get 94 33 = some (.iconst (-1), 1) := by decide +kernel
theorem g94_34 : m_get 94 34 = some (.ixor, 1) := by decide +kernel
theorem g94_35 : m_get 94 35 = some (.iand, 1) := by decide +kernel
theorem g94_36 : m_get 94 36 = some (.iastore, 1) := by decide +kernel
theorem g94_37 : m_get 94 37 = some (.aload_n 0, 1) := by decide +kernel
theorem g94_38 : m_get 94 38 = some (.getfield 54, 3) := by decide +kernel
theorem g94_41 : m_get 94 41 = some (.aload_n 0, 1) := by decide +kernel
theorem g94_42 : m_get 94 42 = some (.getfield 23, 3) := by decide +kernel
theorem g94_45 : m_get 94 45 = some (.aload_n 0, 1) := by decide +kernel
theorem g94_46 : m_get 94 46 = some (.getfield 33, 3) := by decide +kernel
theorem g94_49 : m_get 94 49 = some (.invokevirtual 158, 3) := by decide +kernel
theorem g94_52 : m_get 94 52 = some (.aload_n 0, 1) := by decide +kernel
theorem g94_53 : m_get 94 53 = some (.getfield 61, 3) := by decide +kernel
theorem g94_56 : m_get 94 56 = some (.aload_n 0, 1) := by decide +kernel
theorem g94_57 : m_get 94 57 = some (.getfield 23, 3) := by decide +kernel
theorem g94_60 : m_get 94 60 = some (.aload_n 0, 1) := by decide +kernel
theorem g94_61 : m_get 94 61 = some (.getfield 33, 3) := by decide +kernel
theorem g94_64 : m_get 94 64 = some (.aload_n 0, 1) := by decide +kernel
theorem g94_65 : m_get 94 65 = some (.getfield 54, 3) := by decide +kernel
theorem g94_68 : m_get 94 68 = some (.getfield 161, 3) := by decide +kernel
theorem g94_71 : m_get 94 71 = some (.iconst 1, 1) := by decide +kernel
theorem g94_72 : m_get 94 72 = some (.invokevirtual 270, 3) := by decide +kernel
theorem g94_75 : m_get 94 75 = some (.iconst 1, 1) := by decide +kernel
theorem g94_76 : m_get 94 76 = some (.if_icmp .ge 5, 3) := by decide +kernel
theorem g94_79 : m_get 94 79 = some (.iload_n 2, 1) := by decide +kernel
theorem g94_80 : m_get 94 80 = some (.ireturn, 1) := by decide +kernel
theorem g94_81 : m_get 94 81 = some (.iload_n 2, 1) := by decide +kernel
theorem g94_82 : m_get 94 82 = some (.istore_n 3, 1) := by decide +kernel
theorem g94_83 : m_get 94 83 = some (.iconst 0, 1) := by decide +kernel
theorem g94_84 : m_get 94 84 = some (.istore 4, 2) := by decide +kernel
theorem g94_86 : m_get 94 86 = some (.iload 4, 2) := by decide +kernel
theorem g94_88 : m_get 94 88 = some (.bipush 6, 2) := by decide +kernel
theorem g94_90 : m_get 94 90 = some (.if_icmp .ge 38, 3) := by decide +kernel
theorem g94_93 : m_get 94 93 = some (.aload_n 0, 1) := by decide +kernel
theorem g94_94 : m_get 94 94 = some (.getfield 61, 3) := by decide +kernel
theorem g94_97 : m_get 94 97 = some (.getfield 186, 3) := by decide +kernel
theorem g94_100 : m_get 94 100 = some (.iload 4, 2) := by decide +kernel
theorem g94_102 : m_get 94 102 = some (.iaload, 1) := by decide +kernel
theorem g94_103 : m_get 94 103 = some (.aload_n 0, 1) := by decide +kernel
theorem g94_104 : m_get 94 104 = some (.getfield 72, 3) := by decide +kernel
theorem g94_107 : m_get 94 107 = some (.iload 4, 2) := by decide +kernel
theorem g94_109 : m_get 94 109 = some (.iaload, 1) := by decide +kernel
theorem g94_110 : m_get 94 110 = some (.if_icmp .eq 12, 3) := by decide +kernel
theorem g94_113 : m_get 94 113 = some (.iload_n 3, 1) := by decide +kernel
theorem g94_114 : m_get 94 114 = some (.iconst 1, 1) := by decide +kernel
theorem g94_115 : m_get 94 115 = some (.iload 4, 2) := by decide +kernel
theorem g94_117 : m_get 94 117 = some (.ishl, 1) := by decide +kernel
theorem g94_118 : m_get 94 118 = some (.iconst (-1), 1) := by decide +kernel
theorem g94_119 : m_get 94 119 = some (.ixor, 1) := by decide +kernel
theorem g94_120 : m_get 94 120 = some (.iand, 1) := by decide +kernel
theorem g94_121 : m_get 94 121 = some (.istore_n 3, 1) := by decide +kernel
theorem g94_122 : m_get 94 122 = some (.iinc 4 1, 3) := by decide +kernel
theorem g94_125 : m_get 94 125 = some (.goto (-39), 3) := by decide +kernel
theorem g94_128 : m_get 94 128 = some (.iload_n 3, 1) := by decide +kernel
theorem g94_129 : m_get 94 129 = some (.ireturn, 1) := by decide +kernel
theorem f94_23 : m_fl (m_own 94) 23 = some (6, 3) := by decide +kernel
theorem f94_33 : m_fl (m_own 94) 33 = some (6, 5) := by decide +kernel
theorem f94_54 : m_fl (m_own 94) 54 = some (6, 12) := by decide +kernel
theorem f94_61 : m_fl (m_own 94) 61 = some (6, 13) := by decide +kernel
theorem f94_72 : m_fl (m_own 94) 72 = some (6, 15) := by decide +kernel
theorem f94_161 : m_fl (m_own 94) 161 = some (5, 0) := by decide +kernel
theorem f94_186 : m_fl (m_own 94) 186 = some (1, 0) := by decide +kernel
theorem k94_155 : m_ml (m_own 94) 155 = some (0, 48) := by decide +kernel
theorem k94_158 : m_ml (m_own 94) 158 = some (0, 49) := by decide +kernel
theorem k94_270 : m_ml (m_own 94) 270 = some (0, 8) := by decide +kernel
theorem g95_0 : m_get 95 0 = some (.iconst 0, 1) := by decide +kernel
theorem g95_1 : m_get 95 1 = some (.istore_n 2, 1) := by decide +kernel
theorem g95_2 : m_get 95 2 = some (.iconst 0, 1) := by decide +kernel
theorem g95_3 : m_get 95 3 = some (.istore_n 3, 1) := by decide +kernel
theorem g95_4 : m_get 95 4 = some (.iload_n 3, 1) := by decide +kernel
theorem g95_5 : m_get 95 5 = some (.bipush 24, 2) := by decide +kernel
theorem g95_7 : m_get 95 7 = some (.if_icmp .ge 28, 3) := by decide +kernel
theorem g95_10 : m_get 95 10 = some (.iload_n 0, 1) := by decide +kernel
theorem g95_11 : m_get 95 11 = some (.iload_n 3, 1) := by decide +kernel
theorem g95_12 : m_get 95 12 = some (.ishr, 1) := by decide +kernel
theorem g95_13 : m_get 95 13 = some (.iconst 1, 1) := by decide +kernel
theorem g95_14 : m_get 95 14 = some (.iand, 1) := by decide +kernel
theorem g95_15 : m_get 95 15 = some (.iconst 1, 1) := by decide +kernel
theorem g95_16 : m_get 95 16 = some (.if_icmp .ne 13, 3) := by decide +kernel
theorem g95_19 : m_get 95 19 = some (.iload_n 2, 1) := by decide +kernel
theorem g95_20 : m_get 95 20 = some (.iload_n 1, 1) := by decide +kernel
theorem g95_21 : m_get 95 21 = some (.if_icmp .ne 5, 3) := by decide +kernel
theorem g95_24 : m_get 95 24 = some (.iload_n 3, 1) := by decide +kernel
theorem g95_25 : m_get 95 25 = some (.ireturn, 1) := by decide +kernel
theorem g95_26 : m_get 95 26 = some (.iinc 2 1, 3) := by decide +kernel
theorem g95_29 : m_get 95 29 = some (.iinc 3 1, 3) := by decide +kernel
theorem g95_32 : m_get 95 32 = some (.goto (-28), 3) := by decide +kernel
theorem g95_35 : m_get 95 35 = some (.bipush (-9), 2) := by decide +kernel
theorem g95_37 : m_get 95 37 = some (.ireturn, 1) := by decide +kernel
theorem g96_0 : m_get 96 0 = some (.iload_n 0, 1) := by decide +kernel
theorem g96_1 : m_get 96 1 = some (.iconst 2, 1) := by decide +kernel
theorem g96_2 : m_get 96 2 = some (.iadd, 1) := by decide +kernel
theorem g96_3 : m_get 96 3 = some (.iconst 4, 1) := by decide +kernel
theorem g96_4 : m_get 96 4 = some (.irem, 1) := by decide +kernel
theorem g96_5 : m_get 96 5 = some (.ireturn, 1) := by decide +kernel
