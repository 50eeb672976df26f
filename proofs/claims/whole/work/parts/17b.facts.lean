/-! facts of the tables, one by one (printed by gen3.py) -/
theorem g34_0 : m_get 34 0 = some (.aload_n 0, 1) := by decide +kernel
theorem g34_1 : m_get 34 1 = some (.invokespecial 3, 3) := by decide +kernel
theorem g34_4 : m_get 34 4 = some (.aload_n 0, 1) := by decide +kernel
theorem g34_5 : m_get 34 5 = some (.bipush 24, 2) := by decide +kernel
theorem g34_7 : m_get 34 7 = some (.newarray .int, 2) := by decide +kernel
theorem g34_9 : m_get 34 9 = some (.putfield 9, 3) := by decide +kernel
theorem g34_12 : m_get 34 12 = some (.aload_n 0, 1) := by decide +kernel
theorem g34_13 : m_get 34 13 = some (.bipush 6, 2) := by decide +kernel
theorem g34_15 : m_get 34 15 = some (.newarray .int, 2) := by decide +kernel
theorem g34_17 : m_get 34 17 = some (.putfield 15, 3) := by decide +kernel
theorem g34_20 : m_get 34 20 = some (.aload_n 0, 1) := by decide +kernel
theorem g34_21 : m_get 34 21 = some (.bipush 6, 2) := by decide +kernel
theorem g34_23 : m_get 34 23 = some (.newarray .int, 2) := by decide +kernel
theorem g34_25 : m_get 34 25 = some (.putfield 18, 3) := by decide +kernel
theorem g34_28 : m_get 34 28 = some (.aload_n 0, 1) := by decide +kernel
theorem g34_29 : m_get 34 29 = some (.bipush 40, 2) := by decide +kernel
theorem g34_31 : m_get 34 31 = some (.newarray .int, 2) := by decide +kernel
theorem g34_33 : m_get 34 33 = some (.putfield 21, 3) := by decide +kernel
theorem g34_36 : m_get 34 36 = some (.aload_n 0, 1) := by decide +kernel
theorem g34_37 : m_get 34 37 = some (.invokevirtual 24, 3) := by decide +kernel
theorem g34_40 : m_get 34 40 = some (.return_, 1) := by decide +kernel
theorem f34_9 : m_fl (m_own 34) 9 = some (4, 7) := by decide +kernel
theorem f34_15 : m_fl (m_own 34) 15 = some (4, 8) := by decide +kernel
theorem f34_18 : m_fl (m_own 34) 18 = some (4, 9) := by decide +kernel
theorem f34_21 : m_fl (m_own 34) 21 = some (4, 10) := by decide +kernel
theorem k34_3 : m_ml (m_own 34) 3 = some (5, 0) := by decide +kernel
theorem k34_24 : m_ml (m_own 34) 24 = some (0, 35) := by decide +kernel
theorem g35_0 : m_get 35 0 = some (.aload_n 0, 1) := by decide +kernel
theorem g35_1 : m_get 35 1 = some (.iconst 0, 1) := by decide +kernel
theorem g35_2 : m_get 35 2 = some (.putfield 27, 3) := by decide +kernel
theorem g35_5 : m_get 35 5 = some (.aload_n 0, 1) := by decide +kernel
theorem g35_6 : m_get 35 6 = some (.iconst 2, 1) := by decide +kernel
theorem g35_7 : m_get 35 7 = some (.putfield 31, 3) := by decide +kernel
theorem g35_10 : m_get 35 10 = some (.aload_n 0, 1) := by decide +kernel
theorem g35_11 : m_get 35 11 = some (.iconst 2, 1) := by decide +kernel
theorem g35_12 : m_get 35 12 = some (.putfield 34, 3) := by decide +kernel
theorem g35_15 : m_get 35 15 = some (.aload_n 0, 1) := by decide +kernel
theorem g35_16 : m_get 35 16 = some (.bipush (-9), 2) := by decide +kernel
theorem g35_18 : m_get 35 18 = some (.putfield 37, 3) := by decide +kernel
theorem g35_21 : m_get 35 21 = some (.aload_n 0, 1) := by decide +kernel
theorem g35_22 : m_get 35 22 = some (.bipush 9, 2) := by decide +kernel
theorem g35_24 : m_get 35 24 = some (.putfield 40, 3) := by decide +kernel
theorem g35_27 : m_get 35 27 = some (.aload_n 0, 1) := by decide +kernel
theorem g35_28 : m_get 35 28 = some (.iconst 4, 1) := by decide +kernel
theorem g35_29 : m_get 35 29 = some (.putfield 43, 3) := by decide +kernel
theorem g35_32 : m_get 35 32 = some (.aload_n 0, 1) := by decide +kernel
theorem g35_33 : m_get 35 33 = some (.iconst 1, 1) := by decide +kernel
theorem g35_34 : m_get 35 34 = some (.putfield 46, 3) := by decide +kernel
theorem g35_37 : m_get 35 37 = some (.return_, 1) := by decide +kernel
theorem f35_27 : m_fl (m_own 35) 27 = some (4, 0) := by decide +kernel
theorem f35_31 : m_fl (m_own 35) 31 = some (4, 1) := by decide +kernel
theorem f35_34 : m_fl (m_own 35) 34 = some (4, 2) := by decide +kernel
theorem f35_37 : m_fl (m_own 35) 37 = some (4, 3) := by decide +kernel
theorem f35_40 : m_fl (m_own 35) 40 = some (4, 4) := by decide +kernel
theorem f35_43 : m_fl (m_own 35) 43 = some (4, 5) := by decide +kernel
theorem f35_46 : m_fl (m_own 35) 46 = some (4, 6) := by decide +kernel
theorem g36_0 : m_get 36 0 = some (.aload_n 0, 1) := by decide +kernel
theorem g36_1 : m_get 36 1 = some (.getfield 31, 3) := by decide +kernel
theorem g36_4 : m_get 36 4 = some (.aload_n 0, 1) := by decide +kernel
theorem g36_5 : m_get 36 5 = some (.getfield 34, 3) := by decide +kernel
theorem g36_8 : m_get 36 8 = some (.imul, 1) := by decide +kernel
theorem g36_9 : m_get 36 9 = some (.bipush 6, 2) := by decide +kernel
theorem g36_11 : m_get 36 11 = some (.invokestatic 49, 3) := by decide +kernel
theorem g36_14 : m_get 36 14 = some (.ireturn, 1) := by decide +kernel
theorem f36_31 : m_fl (m_own 36) 31 = some (4, 1) := by decide +kernel
theorem f36_34 : m_fl (m_own 36) 34 = some (4, 2) := by decide +kernel
theorem k36_49 : m_ml (m_own 36) 49 = some (8, 0) := by decide +kernel
theorem g37_0 : m_get 37 0 = some (.iload_n 1, 1) := by decide +kernel
theorem g37_1 : m_get 37 1 = some (.ifCond .lt 18, 3) := by decide +kernel
theorem g37_4 : m_get 37 4 = some (.iload_n 1, 1) := by decide +kernel
theorem g37_5 : m_get 37 5 = some (.bipush 24, 2) := by decide +kernel
theorem g37_7 : m_get 37 7 = some (.if_icmp .ge 12, 3) := by decide +kernel
theorem g37_10 : m_get 37 10 = some (.iload_n 2, 1) := by decide +kernel
theorem g37_11 : m_get 37 11 = some (.ifCond .lt 8, 3) := by decide +kernel
theorem g37_14 : m_get 37 14 = some (.iload_n 2, 1) := by decide +kernel
theorem g37_15 : m_get 37 15 = some (.iconst 4, 1) := by decide +kernel
theorem g37_16 : m_get 37 16 = some (.if_icmp .lt 6, 3) := by decide +kernel
theorem g37_19 : m_get 37 19 = some (.bipush (-9), 2) := by decide +kernel
theorem g37_21 : m_get 37 21 = some (.ireturn, 1) := by decide +kernel
theorem g37_22 : m_get 37 22 = some (.iload_n 1, 1) := by decide +kernel
theorem g37_23 : m_get 37 23 = some (.iconst 4, 1) := by decide +kernel
theorem g37_24 : m_get 37 24 = some (.irem, 1) := by decide +kernel
theorem g37_25 : m_get 37 25 = some (.istore_n 3, 1) := by decide +kernel
theorem g37_26 : m_get 37 26 = some (.aload_n 0, 1) := by decide +kernel
theorem g37_27 : m_get 37 27 = some (.getfield 9, 3) := by decide +kernel
theorem g37_30 : m_get 37 30 = some (.iload_n 1, 1) := by decide +kernel
theorem g37_31 : m_get 37 31 = some (.iconst 4, 1) := by decide +kernel
theorem g37_32 : m_get 37 32 = some (.idiv, 1) := by decide +kernel
theorem g37_33 : m_get 37 33 = some (.iconst 4, 1) := by decide +kernel
theorem g37_34 : m_get 37 34 = some (.imul, 1) := by decide +kernel
theorem g37_35 : m_get 37 35 = some (.iload_n 2, 1) := by decide +kernel
theorem g37_36 : m_get 37 36 = some (.iconst 4, 1) := by decide +kernel
theorem g37_37 : m_get 37 37 = some (.iadd, 1) := by decide +kernel
theorem g37_38 : m_get 37 38 = some (.iload_n 3, 1) := by decide +kernel
theorem g37_39 : m_get 37 39 = some (.isub, 1) := by decide +kernel
theorem g37_40 : m_get 37 40 = some (.iconst 4, 1) := by decide +kernel
theorem g37_41 : m_get 37 41 = some (.irem, 1) := by decide +kernel
theorem g37_42 : m_get 37 42 = some (.iadd, 1) := by decide +kernel
theorem g37_43 : m_get 37 43 = some (.iaload, 1) := by decide +kernel
theorem g37_44 : m_get 37 44 = some (.ireturn, 1) := by decide +kernel
theorem f37_9 : m_fl (m_own 37) 9 = some (4, 7) := by decide +kernel
theorem g38_0 : m_get 38 0 = some (.iload_n 1, 1) := by decide +kernel
theorem g38_1 : m_get 38 1 = some (.iload_n 1, 1) := by decide +kernel
theorem g38_2 : m_get 38 2 = some (.iconst 4, 1) := by decide +kernel
theorem g38_3 : m_get 38 3 = some (.irem, 1) := by decide +kernel
theorem g38_4 : m_get 38 4 = some (.isub, 1) := by decide +kernel
theorem g38_5 : m_get 38 5 = some (.istore_n 2, 1) := by decide +kernel
theorem g38_6 : m_get 38 6 = some (.iload_n 2, 1) := by decide +kernel
theorem g38_7 : m_get 38 7 = some (.iload_n 1, 1) := by decide +kernel
theorem g38_8 : m_get 38 8 = some (.if_icmp .ge 20, 3) := by decide +kernel
theorem g38_11 : m_get 38 11 = some (.aload_n 0, 1) := by decide +kernel
theorem g38_12 : m_get 38 12 = some (.iload_n 2, 1) := by decide +kernel
theorem g38_13 : m_get 38 13 = some (.iload_n 1, 1) := by decide +kernel
theorem g38_14 : m_get 38 14 = some (.invokevirtual 55, 3) := by decide +kernel
theorem g38_17 : m_get 38 17 = some (.ifCond .eq 5, 3) := by decide +kernel
theorem g38_20 : m_get 38 20 = some (.iconst 0, 1) := by decide +kernel
theorem g38_21 : m_get 38 21 = some (.ireturn, 1) := by decide +kernel
theorem g38_22 : m_get 38 22 = some (.iinc 2 1, 3) := by decide +kernel
theorem g38_25 : m_get 38 25 = some (.goto (-19), 3) := by decide +kernel
theorem g38_28 : m_get 38 28 = some (.iconst 1, 1) := by decide +kernel
theorem g38_29 : m_get 38 29 = some (.ireturn, 1) := by decide +kernel
theorem k38_55 : m_ml (m_own 38) 55 = some (0, 39) := by decide +kernel
theorem g39_0 : m_get 39 0 = some (.iconst 0, 1) := by decide +kernel
theorem g39_1 : m_get 39 1 = some (.istore_n 3, 1) := by decide +kernel
theorem g39_2 : m_get 39 2 = some (.iload_n 3, 1) := by decide +kernel
theorem g39_3 : m_get 39 3 = some (.iconst 4, 1) := by decide +kernel
theorem g39_4 : m_get 39 4 = some (.if_icmp .ge 26, 3) := by decide +kernel
theorem g39_7 : m_get 39 7 = some (.aload_n 0, 1) := by decide +kernel
theorem g39_8 : m_get 39 8 = some (.iload_n 1, 1) := by decide +kernel
theorem g39_9 : m_get 39 9 = some (.iload_n 3, 1) := by decide +kernel
theorem g39_10 : m_get 39 10 = some (.invokevirtual 59, 3) := by decide +kernel
theorem g39_13 : m_get 39 13 = some (.aload_n 0, 1) := by decide +kernel
theorem g39_14 : m_get 39 14 = some (.iload_n 2, 1) := by decide +kernel
theorem g39_15 : m_get 39 15 = some (.iload_n 3, 1) := by decide +kernel
theorem g39_16 : m_get 39 16 = some (.invokevirtual 59, 3) := by decide +kernel
theorem g39_19 : m_get 39 19 = some (.if_icmp .eq 5, 3) := by decide +kernel
theorem g39_22 : m_get 39 22 = some (.iconst 0, 1) := by decide +kernel
theorem g39_23 : m_get 39 23 = some (.ireturn, 1) := by decide +kernel
theorem g39_24 : m_get 39 24 = some (.iinc 3 1, 3) := by decide +kernel
theorem g39_27 : m_get 39 27 = some (.goto (-25), 3) := by decide +kernel
theorem g39_30 : m_get 39 30 = some (.iconst 1, 1) := by decide +kernel
theorem g39_31 : m_get 39 31 = some (.ireturn, 1) := by decide +kernel
theorem k39_59 : m_ml (m_own 39) 59 = some (0, 37) := by decide +kernel
theorem g40_0 : m_get 40 0 = some (.aload_n 0, 1) := by decide +kernel
theorem g40_1 : m_get 40 1 = some (.getfield 21, 3) := by decide +kernel
theorem g40_4 : m_get 40 4 = some (.iconst 0, 1) := by decide +kernel
theorem g40_5 : m_get 40 5 = some (.invokestatic 62, 3) := by decide +kernel
theorem g40_8 : m_get 40 8 = some (.iconst 0, 1) := by decide +kernel
theorem g40_9 : m_get 40 9 = some (.istore_n 1, 1) := by decide +kernel
theorem g40_10 : m_get 40 10 = some (.iload_n 1, 1) := by decide +kernel
theorem g40_11 : m_get 40 11 = some (.aload_n 0, 1) := by decide +kernel
theorem g40_12 : m_get 40 12 = some (.getfield 27, 3) := by decide +kernel
theorem g40_15 : m_get 40 15 = some (.iconst 4, 1) := by decide +kernel
theorem g40_16 : m_get 40 16 = some (.imul, 1) := by decide +kernel
theorem g40_17 : m_get 40 17 = some (.if_icmp .ge 52, 3) := by decide +kernel
theorem g40_20 : m_get 40 20 = some (.aload_n 0, 1) := by decide +kernel
theorem g40_21 : m_get 40 21 = some (.iload_n 1, 1) := by decide +kernel
theorem g40_22 : m_get 40 22 = some (.invokevirtual 68, 3) := by decide +kernel
theorem g40_25 : m_get 40 25 = some (.ifCond .eq 38, 3) := by decide +kernel
theorem g40_28 : m_get 40 28 = some (.iconst 0, 1) := by decide +kernel
theorem g40_29 : m_get 40 29 = some (.istore_n 2, 1) := by decide +kernel
theorem g40_30 : m_get 40 30 = some (.iload_n 2, 1) := by decide +kernel
theorem g40_31 : m_get 40 31 = some (.iconst 4, 1) := by decide +kernel
theorem g40_32 : m_get 40 32 = some (.if_icmp .ge 31, 3) := by decide +kernel
theorem g40_35 : m_get 40 35 = some (.aload_n 0, 1) := by decide +kernel
theorem g40_36 : m_get 40 36 = some (.getfield 21, 3) := by decide +kernel
theorem g40_39 : m_get 40 39 = some (.bipush 10, 2) := by decide +kernel
theorem g40_41 : m_get 40 41 = some (.iload_n 2, 1) := by decide +kernel
theorem g40_42 : m_get 40 42 = some (.imul, 1) := by decide +kernel
theorem g40_43 : m_get 40 43 = some (.aload_n 0, 1) := by decide +kernel
theorem g40_44 : m_get 40 44 = some (.iload_n 1, 1) := by decide +kernel
theorem g40_45 : m_get 40 45 = some (.iload_n 2, 1) := by decide +kernel
theorem g40_46 : m_get 40 46 = some (.invokevirtual 59, 3) := by decide +kernel
theorem g40_49 : m_get 40 49 = some (.iadd, 1) := by decide +kernel
theorem g40_50 : m_get 40 50 = some (.dup2, 1) := by decide +kernel
theorem g40_51 : m_get 40 51 = some (.iaload, 1) := by decide +kernel
theorem g40_52 : m_get 40 52 = some (.iconst 1, 1) := by decide +kernel
theorem g40_53 : m_get 40 53 = some (.iload_n 1, 1) := by decide +kernel
theorem g40_54 : m_get 40 54 = some (.ishl, 1) := by decide +kernel
theorem g40_55 : m_get 40 55 = some (.ior, 1) := by decide +kernel
theorem g40_56 : m_get 40 56 = some (.iastore, 1) := by decide +kernel
theorem g40_57 : m_get 40 57 = some (.iinc 2 1, 3) := by decide +kernel
theorem g40_60 : m_get 40 60 = some (.goto (-30), 3) := by decide +kernel
theorem g40_63 : m_get 40 63 = some (.iinc 1 1, 3) := by decide +kernel
theorem g40_66 : m_get 40 66 = some (.goto (-56), 3) := by decide +kernel
theorem g40_69 : m_get 40 69 = some (.return_, 1) := by decide +kernel
theorem f40_21 : m_fl (m_own 40) 21 = some (4, 10) := by decide +kernel
theorem f40_27 : m_fl (m_own 40) 27 = some (4, 0) := by decide +kernel
theorem k40_59 : m_ml (m_own 40) 59 = some (0, 37) := by decide +kernel
theorem k40_62 : m_ml (m_own 40) 62 = some (1, 161) := by decide +kernel
theorem k40_68 : m_ml (m_own 40) 68 = some (0, 38) := by decide +kernel
theorem g41_0 : m_get 41 0 = some (.iload_n 1, 1) := by decide +kernel
theorem g41_1 : m_get 41 1 = some (.ifCond .lt 18, 3) := by decide +kernel
theorem g41_4 : m_get 41 4 = some (.iload_n 1, 1) := by decide +kernel
theorem g41_5 : m_get 41 5 = some (.iconst 4, 1) := by decide +kernel
theorem g41_6 : m_get 41 6 = some (.if_icmp .ge 13, 3) := by decide +kernel
theorem g41_9 : m_get 41 9 = some (.iload_n 2, 1) := by decide +kernel
theorem g41_10 : m_get 41 10 = some (.ifCond .lt 9, 3) := by decide +kernel
theorem g41_13 : m_get 41 13 = some (.iload_n 2, 1) := by decide +kernel
theorem g41_14 : m_get 41 14 = some (.bipush 10, 2) := by decide +kernel
theorem g41_16 : m_get 41 16 = some (.if_icmp .lt 5, 3) := by decide +kernel
theorem g41_19 : m_get 41 19 = some (.iconst 0, 1) := by decide +kernel
theorem g41_20 : m_get 41 20 = some (.ireturn, 1) := by decide +kernel
theorem g41_21 : m_get 41 21 = some (.aload_n 0, 1) := by decide +kernel
theorem g41_22 : m_get 41 22 = some (.getfield 21, 3) := by decide +kernel
theorem g41_25 : m_get 41 25 = some (.bipush 10, 2) := by decide +kernel
theorem g41_27 : m_get 41 27 = some (.iload_n 1, 1) := by decide +kernel
theorem g41_28 : m_get 41 28 = some (.imul, 1) := by decide +kernel
theorem g41_29 : m_get 41 29 = some (.iload_n 2, 1) := by decide +kernel
theorem g41_30 : m_get 41 30 = some (.iadd, 1) := by decide +kernel
theorem g41_31 : m_get 41 31 = some (.iaload, 1) := by decide +kernel
theorem g41_32 : m_get 41 32 = some (.ireturn, 1) := by decide +kernel
theorem f41_21 : m_fl (m_own 41) 21 = some (4, 10) := by decide +kernel
theorem g42_0 : m_get 42 0 = some (.aload_n 0, 1) := by decide +kernel
theorem g42_1 : m_get 42 1 = some (.getfield 31, 3) := by decide +kernel
theorem g42_4 : m_get 42 4 = some (.iconst 1, 1) := by decide +kernel
theorem g42_5 : m_get 42 5 = some (.if_icmp .ge 6, 3) := by decide +kernel
theorem g42_8 : m_get 42 8 = some (.bipush (-9), 2) := by decide +kernel
theorem g42_10 : m_get 42 10 = some (.ireturn, 1) := by decide +kernel
theorem g42_11 : m_get 42 11 = some (.iload_n 1, 1) := by decide +kernel
theorem g42_12 : m_get 42 12 = some (.aload_n 0, 1) := by decide +kernel
theorem g42_13 : m_get 42 13 = some (.getfield 31, 3) := by decide +kernel
theorem g42_16 : m_get 42 16 = some (.irem, 1) := by decide +kernel
theorem g42_17 : m_get 42 17 = some (.istore_n 3, 1) := by decide +kernel
theorem g42_18 : m_get 42 18 = some (.iload_n 1, 1) := by decide +kernel
theorem g42_19 : m_get 42 19 = some (.aload_n 0, 1) := by decide +kernel
theorem g42_20 : m_get 42 20 = some (.getfield 31, 3) := by decide +kernel
theorem g42_23 : m_get 42 23 = some (.idiv, 1) := by decide +kernel
theorem g42_24 : m_get 42 24 = some (.istore 4, 2) := by decide +kernel
theorem g42_26 : m_get 42 26 = some (.iload_n 2, 1) := by decide +kernel
theorem g42_27 : m_get 42 27 = some (.tableswitch 84 0 2 #[25, 42, 61], 25) := by decide +kernel
theorem g42_52 : m_get 42 52 = some (.iload 4, 2) := by decide +kernel
theorem g42_54 : m_get 42 54 = some (.ifCond .le 12, 3) := by decide +kernel
theorem g42_57 : m_get 42 57 = some (.iload_n 1, 1) := by decide +kernel
theorem g42_58 : m_get 42 58 = some (.aload_n 0, 1) := by decide +kernel
theorem g42_59 : m_get 42 59 = some (.getfield 31, 3) := by decide +kernel
theorem g42_62 : m_get 42 62 = some (.isub, 1) := by decide +kernel
theorem g42_63 : m_get 42 63 = some (.goto 5, 3) := by decide +kernel
theorem g42_66 : m_get 42 66 = some (.bipush (-9), 2) := by decide +kernel
theorem g42_68 : m_get 42 68 = some (.ireturn, 1) := by decide +kernel
theorem g42_69 : m_get 42 69 = some (.iload_n 3, 1) := by decide +kernel
theorem g42_70 : m_get 42 70 = some (.aload_n 0, 1) := by decide +kernel
theorem g42_71 : m_get 42 71 = some (.getfield 31, 3) := by decide +kernel
theorem g42_74 : m_get 42 74 = some (.iconst 1, 1) := by decide +kernel
theorem g42_75 : m_get 42 75 = some (.isub, 1) := by decide +kernel
theorem g42_76 : m_get 42 76 = some (.if_icmp .ge 9, 3) := by decide +kernel
theorem g42_79 : m_get 42 79 = some (.iload_n 1, 1) := by decide +kernel
theorem g42_80 : m_get 42 80 = some (.iconst 1, 1) := by decide +kernel
theorem g42_81 : m_get 42 81 = some (.iadd, 1) := by decide +kernel
theorem g42_82 : m_get 42 82 = some (.goto 5, 3) := by decide +kernel
theorem g42_85 : m_get 42 85 = some (.bipush (-9), 2) := by decide +kernel
theorem g42_87 : m_get 42 87 = some (.ireturn, 1) := by decide +kernel
theorem g42_88 : m_get 42 88 = some (.iload 4, 2) := by decide +kernel
theorem g42_90 : m_get 42 90 = some (.aload_n 0, 1) := by decide +kernel
theorem g42_91 : m_get 42 91 = some (.getfield 34, 3) := by decide +kernel
theorem g42_94 : m_get 42 94 = some (.iconst 1, 1) := by decide +kernel
theorem g42_95 : m_get 42 95 = some (.isub, 1) := by decide +kernel
theorem g42_96 : m_get 42 96 = some (.if_icmp .ge 12, 3) := by decide +kernel
theorem g42_99 : m_get 42 99 = some (.iload_n 1, 1) := by decide +kernel
theorem g42_100 : m_get 42 100 = some (.aload_n 0, 1) := by decide +kernel
theorem g42_101 : m_get 42 101 = some (.getfield 31, 3) := by decide +kernel
theorem g42_104 : m_get 42 104 = some (.iadd, 1) := by decide +kernel
theorem g42_105 : m_get 42 105 = some (.goto 5, 3) := by decide +kernel
theorem g42_108 : m_get 42 108 = some (.bipush (-9), 2) := by decide +kernel
theorem g42_110 : m_get 42 110 = some (.ireturn, 1) := by decide +kernel
theorem g42_111 : m_get 42 111 = some (.iload_n 3, 1) := by decide +kernel
theorem g42_112 : m_get 42 112 = some (.ifCond .le 9, 3) := by decide +kernel
theorem g42_115 : m_get 42 115 = some (.iload_n 1, 1) := by decide +kernel
theorem g42_116 : m_get 42 116 = some (.iconst 1, 1) := by decide +kernel
theorem g42_117 : m_get 42 117 = some (.isub, 1) := by decide +kernel
theorem g42_118 : m_get 42 118 = some (.goto 5, 3) := by decide +kernel
theorem g42_121 : m_get 42 121 = some (.bipush (-9), 2) := by decide +kernel
theorem g42_123 : m_get 42 123 = some (.ireturn, 1) := by decide +kernel
theorem f42_31 : m_fl (m_own 42) 31 = some (4, 1) := by decide +kernel
theorem f42_34 : m_fl (m_own 42) 34 = some (4, 2) := by decide +kernel
theorem g43_0 : m_get 43 0 = some (.iconst 0, 1) := by decide +kernel
theorem g43_1 : m_get 43 1 = some (.istore_n 2, 1) := by decide +kernel
theorem g43_2 : m_get 43 2 = some (.iload_n 2, 1) := by decide +kernel
theorem g43_3 : m_get 43 3 = some (.iload_n 1, 1) := by decide +kernel
theorem g43_4 : m_get 43 4 = some (.if_icmp .ge 26, 3) := by decide +kernel
theorem g43_7 : m_get 43 7 = some (.aload_n 0, 1) := by decide +kernel
theorem g43_8 : m_get 43 8 = some (.getfield 15, 3) := by decide +kernel
theorem g43_11 : m_get 43 11 = some (.iload_n 2, 1) := by decide +kernel
theorem g43_12 : m_get 43 12 = some (.iaload, 1) := by decide +kernel
theorem g43_13 : m_get 43 13 = some (.aload_n 0, 1) := by decide +kernel
theorem g43_14 : m_get 43 14 = some (.getfield 15, 3) := by decide +kernel
theorem g43_17 : m_get 43 17 = some (.iload_n 1, 1) := by decide +kernel
theorem g43_18 : m_get 43 18 = some (.iaload, 1) := by decide +kernel
theorem g43_19 : m_get 43 19 = some (.if_icmp .ne 5, 3) := by decide +kernel
theorem g43_22 : m_get 43 22 = some (.iconst 0, 1) := by decide +kernel
theorem g43_23 : m_get 43 23 = some (.ireturn, 1) := by decide +kernel
theorem g43_24 : m_get 43 24 = some (.iinc 2 1, 3) := by decide +kernel
theorem g43_27 : m_get 43 27 = some (.goto (-25), 3) := by decide +kernel
theorem g43_30 : m_get 43 30 = some (.iconst 1, 1) := by decide +kernel
theorem g43_31 : m_get 43 31 = some (.ireturn, 1) := by decide +kernel
theorem f43_15 : m_fl (m_own 43) 15 = some (4, 8) := by decide +kernel
theorem g44_0 : m_get 44 0 = some (.iconst 0, 1) := by decide +kernel
theorem g44_1 : m_get 44 1 = some (.istore_n 1, 1) := by decide +kernel
theorem g44_2 : m_get 44 2 = some (.iconst 0, 1) := by decide +kernel
theorem g44_3 : m_get 44 3 = some (.istore_n 2, 1) := by decide +kernel
theorem g44_4 : m_get 44 4 = some (.iload_n 2, 1) := by decide +kernel
theorem g44_5 : m_get 44 5 = some (.aload_n 0, 1) := by decide +kernel
theorem g44_6 : m_get 44 6 = some (.getfield 27, 3) := by decide +kernel
theorem g44_9 : m_get 44 9 = some (.if_icmp .ge 20, 3) := by decide +kernel
theorem g44_12 : m_get 44 12 = some (.aload_n 0, 1) := by decide +kernel
theorem g44_13 : m_get 44 13 = some (.iload_n 2, 1) := by decide +kernel
theorem g44_14 : m_get 44 14 = some (.invokevirtual 72, 3) := by decide +kernel
theorem g44_17 : m_get 44 17 = some (.ifCond .eq 6, 3) := by decide +kernel
theorem g44_20 : m_get 44 20 = some (.iinc 1 1, 3) := by decide +kernel
theorem g44_23 : m_get 44 23 = some (.iinc 2 1, 3) := by decide +kernel
theorem g44_26 : m_get 44 26 = some (.goto (-22), 3) := by decide +kernel
theorem g44_29 : m_get 44 29 = some (.iload_n 1, 1) := by decide +kernel
theorem g44_30 : m_get 44 30 = some (.ireturn, 1) := by decide +kernel
theorem f44_27 : m_fl (m_own 44) 27 = some (4, 0) := by decide +kernel
theorem k44_72 : m_ml (m_own 44) 72 = some (0, 43) := by decide +kernel
theorem g45_0 : m_get 45 0 = some (.iconst 0, 1) := by decide +kernel
theorem g45_1 : m_get 45 1 = some (.istore_n 2, 1) := by decide +kernel
theorem g45_2 : m_get 45 2 = some (.iconst 0, 1) := by decide +kernel
theorem g45_3 : m_get 45 3 = some (.istore_n 3, 1) := by decide +kernel
theorem g45_4 : m_get 45 4 = some (.iload_n 3, 1) := by decide +kernel
theorem g45_5 : m_get 45 5 = some (.aload_n 0, 1) := by decide +kernel
theorem g45_6 : m_get 45 6 = some (.getfield 27, 3) := by decide +kernel
theorem g45_9 : m_get 45 9 = some (.if_icmp .ge 32, 3) := by decide +kernel
theorem g45_12 : m_get 45 12 = some (.aload_n 0, 1) := by decide +kernel
theorem g45_13 : m_get 45 13 = some (.iload_n 3, 1) := by decide +kernel
theorem g45_14 : m_get 45 14 = some (.invokevirtual 72, 3) := by decide +kernel
theorem g45_17 : m_get 45 17 = some (.ifCond .eq 18, 3) := by decide +kernel
theorem g45_20 : m_get 45 20 = some (.iload_n 2, 1) := by decide +kernel
theorem g45_21 : m_get 45 21 = some (.iload_n 1, 1) := by decide +kernel
theorem g45_22 : m_get 45 22 = some (.if_icmp .ne 10, 3) := by decide +kernel
theorem g45_25 : m_get 45 25 = some (.aload_n 0, 1) := by decide +kernel
theorem g45_26 : m_get 45 26 = some (.getfield 15, 3) := by decide +kernel
theorem g45_29 : m_get 45 29 = some (.iload_n 3, 1) := by decide +kernel
theorem g45_30 : m_get 45 30 = some (.iaload, 1) := by decide +kernel
theorem g45_31 : m_get 45 31 = some (.ireturn, 1) := by decide +kernel
theorem g45_32 : m_get 45 32 = some (.iinc 2 1, 3) := by decide +kernel
theorem g45_35 : m_get 45 35 = some (.iinc 3 1, 3) := by decide +kernel
theorem g45_38 : m_get 45 38 = some (.goto (-34), 3) := by decide +kernel
theorem g45_41 : m_get 45 41 = some (.bipush (-9), 2) := by decide +kernel
theorem g45_43 : m_get 45 43 = some (.ireturn, 1) := by decide +kernel
theorem f45_15 : m_fl (m_own 45) 15 = some (4, 8) := by decide +kernel
theorem f45_27 : m_fl (m_own 45) 27 = some (4, 0) := by decide +kernel
theorem k45_72 : m_ml (m_own 45) 72 = some (0, 43) := by decide +kernel
theorem g46_0 : m_get 46 0 = some (.iconst 0, 1) := by decide +kernel
theorem g46_1 : m_get 46 1 = some (.istore_n 2, 1) := by decide +kernel
theorem g46_2 : m_get 46 2 = some (.iconst 0, 1) := by decide +kernel
theorem g46_3 : m_get 46 3 = some (.istore_n 3, 1) := by decide +kernel
theorem g46_4 : m_get 46 4 = some (.iload_n 3, 1) := by decide +kernel
theorem g46_5 : m_get 46 5 = some (.aload_n 0, 1) := by decide +kernel
theorem g46_6 : m_get 46 6 = some (.getfield 27, 3) := by decide +kernel
theorem g46_9 : m_get 46 9 = some (.if_icmp .ge 22, 3) := by decide +kernel
theorem g46_12 : m_get 46 12 = some (.aload_n 0, 1) := by decide +kernel
theorem g46_13 : m_get 46 13 = some (.getfield 15, 3) := by decide +kernel
theorem g46_16 : m_get 46 16 = some (.iload_n 3, 1) := by decide +kernel
theorem g46_17 : m_get 46 17 = some (.iaload, 1) := by decide +kernel
theorem g46_18 : m_get 46 18 = some (.iload_n 1, 1) := by decide +kernel
theorem g46_19 : m_get 46 19 = some (.if_icmp .ne 6, 3) := by decide +kernel
theorem g46_22 : m_get 46 22 = some (.iinc 2 1, 3) := by decide +kernel
theorem g46_25 : m_get 46 25 = some (.iinc 3 1, 3) := by decide +kernel
theorem g46_28 : m_get 46 28 = some (.goto (-24), 3) := by decide +kernel
theorem g46_31 : m_get 46 31 = some (.iload_n 2, 1) := by decide +kernel
theorem g46_32 : m_get 46 32 = some (.ireturn, 1) := by decide +kernel
theorem f46_15 : m_fl (m_own 46) 15 = some (4, 8) := by decide +kernel
theorem f46_27 : m_fl (m_own 46) 27 = some (4, 0) := by decide +kernel
theorem g47_0 : m_get 47 0 = some (.aload_n 0, 1) := by decide +kernel
theorem g47_1 : m_get 47 1 = some (.invokespecial 3, 3) := by decide +kernel
theorem g47_4 : m_get 47 4 = some (.aload_n 0, 1) := by decide +kernel
theorem g47_5 : m_get 47 5 = some (.bipush 6, 2) := by decide +kernel
theorem g47_7 : m_get 47 7 = some (.newarray .int, 2) := by decide +kernel
theorem g47_9 : m_get 47 9 = some (.putfield 9, 3) := by decide +kernel
theorem g47_12 : m_get 47 12 = some (.return_, 1) := by decide +kernel
theorem f47_9 : m_fl (m_own 47) 9 = some (5, 0) := by decide +kernel
theorem k47_3 : m_ml (m_own 47) 3 = some (5, 0) := by decide +kernel
theorem g48_0 : m_get 48 0 = some (.aload_n 1, 1) := by decide +kernel
theorem g48_1 : m_get 48 1 = some (.aload_n 2, 1) := by decide +kernel
theorem g48_2 : m_get 48 2 = some (.invokestatic 15, 3) := by decide +kernel
theorem g48_5 : m_get 48 5 = some (.istore_n 3, 1) := by decide +kernel
theorem g48_6 : m_get 48 6 = some (.iconst 0, 1) := by decide +kernel
theorem g48_7 : m_get 48 7 = some (.istore 4, 2) := by decide +kernel
theorem g48_9 : m_get 48 9 = some (.iload 4, 2) := by decide +kernel
theorem g48_11 : m_get 48 11 = some (.bipush 6, 2) := by decide +kernel
theorem g48_13 : m_get 48 13 = some (.if_icmp .ge 59, 3) := by decide +kernel
theorem g48_16 : m_get 48 16 = some (.iload 4, 2) := by decide +kernel
theorem g48_18 : m_get 48 18 = some (.aload_n 1, 1) := by decide +kernel
theorem g48_19 : m_get 48 19 = some (.invokevirtual 19, 3) := by decide +kernel
theorem g48_22 : m_get 48 22 = some (.if_icmp .ge 16, 3) := by decide +kernel
theorem g48_25 : m_get 48 25 = some (.aload_n 2, 1) := by decide +kernel
theorem g48_26 : m_get 48 26 = some (.iload 4, 2) := by decide +kernel
theorem g48_28 : m_get 48 28 = some (.invokevirtual 25, 3) := by decide +kernel
theorem g48_31 : m_get 48 31 = some (.ifCond .eq 7, 3) := by decide +kernel
theorem g48_34 : m_get 48 34 = some (.iconst 1, 1) := by decide +kernel
theorem g48_35 : m_get 48 35 = some (.goto 4, 3) := by decide +kernel
theorem g48_38 : m_get 48 38 = some (.iconst 0, 1) := by decide +kernel
theorem g48_39 : m_get 48 39 = some (.istore 5, 2) := by decide +kernel
theorem g48_41 : m_get 48 41 = some (.aload_n 0, 1) := by decide +kernel
theorem g48_42 : m_get 48 42 = some (.getfield 9, 3) := by decide +kernel
theorem g48_45 : m_get 48 45 = some (.iload 4, 2) := by decide +kernel
theorem g48_47 : m_get 48 47 = some (.iload 5, 2) := by decide +kernel
theorem g48_49 : m_get 48 49 = some (.ifCond .eq 15, 3) := by decide +kernel
theorem g48_52 : m_get 48 52 = some (.iload_n 3, 1) := by decide +kernel
theorem g48_53 : m_get 48 53 = some (.aload_n 1, 1) := by decide +kernel
theorem g48_54 : m_get 48 54 = some (.aload_n 2, 1) := by decide +kernel
theorem g48_55 : m_get 48 55 = some (.iload 4, 2) := by decide +kernel
theorem g48_57 : m_get 48 57 = some (.invokestatic 31, 3) := by decide +kernel
theorem g48_60 : m_get 48 60 = some (.iand, 1) := by decide +kernel
theorem g48_61 : m_get 48 61 = some (.goto 4, 3) := by decide +kernel
theorem g48_64 : m_get 48 64 = some (.iconst 0, 1) := by decide +kernel
theorem g48_65 : m_get 48 65 = some (.iastore, 1) := by decide +kernel
theorem g48_66 : m_get 48 66 = some (.iinc 4 1, 3) := by decide +kernel
theorem g48_69 : m_get 48 69 = some (.goto (-60), 3) := by decide +kernel
theorem g48_72 : m_get 48 72 = some (.return_, 1) := by decide +kernel
theorem f48_9 : m_fl (m_own 48) 9 = some (5, 0) := by decide +kernel
theorem k48_15 : m_ml (m_own 48) 15 = some (1, 50) := by decide +kernel
theorem k48_19 : m_ml (m_own 48) 19 = some (0, 36) := by decide +kernel
theorem k48_25 : m_ml (m_own 48) 25 = some (0, 17) := by decide +kernel
theorem k48_31 : m_ml (m_own 48) 31 = some (1, 51) := by decide +kernel
theorem g49_0 : m_get 49 0 = some (.iconst 1, 1) := by decide +kernel
theorem g49_1 : m_get 49 1 = some (.istore_n 3, 1) := by decide +kernel
theorem g49_2 : m_get 49 2 = some (.iconst 0, 1) := by decide +kernel
theorem g49_3 : m_get 49 3 = some (.istore 4, 2) := by decide +kernel
theorem g49_5 : m_get 49 5 = some (.iload_n 3, 1) := by decide +kernel
theorem g49_6 : m_get 49 6 = some (.ifCond .eq 95, 3) := by decide +kernel
theorem g49_9 : m_get 49 9 = some (.iload 4, 2) := by decide +kernel
theorem g49_11 : m_get 49 11 = some (.sipush 144, 3) := by decide +kernel
theorem g49_14 : m_get 49 14 = some (.if_icmp .gt 87, 3) := by decide +kernel
theorem g49_17 : m_get 49 17 = some (.iconst 0, 1) := by decide +kernel
theorem g49_18 : m_get 49 18 = some (.istore_n 3, 1) := by decide +kernel
theorem g49_19 : m_get 49 19 = some (.iconst 0, 1) := by decide +kernel
theorem g49_20 : m_get 49 20 = some (.istore 5, 2) := by decide +kernel
theorem g49_22 : m_get 49 22 = some (.iload 5, 2) := by decide +kernel
theorem g49_24 : m_get 49 24 = some (.aload_n 1, 1) := by decide +kernel
theorem g49_25 : m_get 49 25 = some (.invokevirtual 19, 3) := by decide +kernel
theorem g49_28 : m_get 49 28 = some (.if_icmp .ge 67, 3) := by decide +kernel
theorem g49_31 : m_get 49 31 = some (.aload_n 2, 1) := by decide +kernel
theorem g49_32 : m_get 49 32 = some (.iload 5, 2) := by decide +kernel
theorem g49_34 : m_get 49 34 = some (.invokevirtual 25, 3) := by decide +kernel
theorem g49_37 : m_get 49 37 = some (.ifCond .eq 52, 3) := by decide +kernel
theorem g49_40 : m_get 49 40 = some (.aload_n 0, 1) := by decide +kernel
theorem g49_41 : m_get 49 41 = some (.getfield 9, 3) := by decide +kernel
theorem g49_44 : m_get 49 44 = some (.iload 5, 2) := by decide +kernel
theorem g49_46 : m_get 49 46 = some (.iaload, 1) := by decide +kernel
theorem g49_47 : m_get 49 47 = some (.aload_n 0, 1) := by decide +kernel
theorem g49_48 : m_get 49 48 = some (.aload_n 1, 1) := by decide +kernel
theorem g49_49 : m_get 49 49 = some (.aload_n 2, 1) := by decide +kernel
theorem g49_50 : m_get 49 50 = some (.iload 5, 2) := by decide +kernel
theorem g49_52 : m_get 49 52 = some (.invokevirtual 35, 3) := by decide +kernel
theorem g49_55 : m_get 49 55 = some (.iand, 1) := by decide +kernel
theorem g49_56 : m_get 49 56 = some (.istore 6, 2) := by decide +kernel
theorem g49_58 : m_get 49 58 = some (.iload_n 3, 1) := by decide +kernel
theorem g49_59 : m_get 49 59 = some (.ifCond .ne 15, 3) := by decide +kernel
theorem g49_62 : m_get 49 62 = some (.iload 6, 2) := by decide +kernel
theorem g49_64 : m_get 49 64 = some (.aload_n 0, 1) := by decide +kernel
theorem g49_65 : m_get 49 65 = some (.getfield 9, 3) := by decide +kernel
theorem g49_68 : m_get 49 68 = some (.iload 5, 2) := by decide +kernel
theorem g49_70 : m_get 49 70 = some (.iaload, 1) := by decide +kernel
theorem g49_71 : m_get 49 71 = some (.if_icmp .eq 7, 3) := by decide +kernel
theorem g49_74 : m_get 49 74 = some (.iconst 1, 1) := by decide +kernel
theorem g49_75 : m_get 49 75 = some (.goto 4, 3) := by decide +kernel
theorem g49_78 : m_get 49 78 = some (.iconst 0, 1) := by decide +kernel
theorem g49_79 : m_get 49 79 = some (.istore_n 3, 1) := by decide +kernel
theorem g49_80 : m_get 49 80 = some (.aload_n 0, 1) := by decide +kernel
theorem g49_81 : m_get 49 81 = some (.getfield 9, 3) := by decide +kernel
theorem g49_84 : m_get 49 84 = some (.iload 5, 2) := by decide +kernel
theorem g49_86 : m_get 49 86 = some (.iload 6, 2) := by decide +kernel
theorem g49_88 : m_get 49 88 = some (.iastore, 1) := by decide +kernel
theorem g49_89 : m_get 49 89 = some (.iinc 5 1, 3) := by decide +kernel
theorem g49_92 : m_get 49 92 = some (.goto (-70), 3) := by decide +kernel
theorem g49_95 : m_get 49 95 = some (.iinc 4 1, 3) := by decide +kernel
theorem g49_98 : m_get 49 98 = some (.goto (-93), 3) := by decide +kernel
theorem g49_101 : m_get 49 101 = some (.return_, 1) := by decide +kernel
theorem f49_9 : m_fl (m_own 49) 9 = some (5, 0) := by decide +kernel
theorem k49_19 : m_ml (m_own 49) 19 = some (0, 36) := by decide +kernel
theorem k49_25 : m_ml (m_own 49) 25 = some (0, 17) := by decide +kernel
theorem k49_35 : m_ml (m_own 49) 35 = some (0, 52) := by decide +kernel
theorem g50_0 : m_get 50 0 = some (.iconst 0, 1) := by decide +kernel
theorem g50_1 : m_get 50 1 = some (.istore_n 2, 1) := by decide +kernel
theorem g50_2 : m_get 50 2 = some (.iconst 0, 1) := by decide +kernel
theorem g50_3 : m_get 50 3 = some (.istore_n 3, 1) := by decide +kernel
theorem g50_4 : m_get 50 4 = some (.iload_n 3, 1) := by decide +kernel
theorem g50_5 : m_get 50 5 = some (.aload_n 0, 1) := by decide +kernel
theorem g50_6 : m_get 50 6 = some (.getfield 38, 3) := by decide +kernel
theorem g50_9 : m_get 50 9 = some (.if_icmp .ge 44, 3) := by decide +kernel
theorem g50_12 : m_get 50 12 = some (.aload_n 1, 1) := by decide +kernel
theorem g50_13 : m_get 50 13 = some (.iload_n 3, 1) := by decide +kernel
theorem g50_14 : m_get 50 14 = some (.invokevirtual 42, 3) := by decide +kernel
theorem g50_17 : m_get 50 17 = some (.ifCond .le 30, 3) := by decide +kernel
theorem g50_20 : m_get 50 20 = some (.aload_n 1, 1) := by decide +kernel
theorem g50_21 : m_get 50 21 = some (.aload_n 0, 1) := by decide +kernel
theorem g50_22 : m_get 50 22 = some (.aload_n 0, 1) := by decide +kernel
theorem g50_23 : m_get 50 23 = some (.getfield 46, 3) := by decide +kernel
theorem g50_26 : m_get 50 26 = some (.iload_n 3, 1) := by decide +kernel
theorem g50_27 : m_get 50 27 = some (.iaload, 1) := by decide +kernel
theorem g50_28 : m_get 50 28 = some (.invokevirtual 49, 3) := by decide +kernel
theorem g50_31 : m_get 50 31 = some (.aload_n 0, 1) := by decide +kernel
theorem g50_32 : m_get 50 32 = some (.getfield 53, 3) := by decide +kernel
theorem g50_35 : m_get 50 35 = some (.if_icmp .ge 12, 3) := by decide +kernel
theorem g50_38 : m_get 50 38 = some (.iload_n 2, 1) := by decide +kernel
theorem g50_39 : m_get 50 39 = some (.bipush 15, 2) := by decide +kernel
theorem g50_41 : m_get 50 41 = some (.iload_n 3, 1) := by decide +kernel
theorem g50_42 : m_get 50 42 = some (.iconst 4, 1) := by decide +kernel
theorem g50_43 : m_get 50 43 = some (.imul, 1) := by decide +kernel
theorem g50_44 : m_get 50 44 = some (.ishl, 1) := by decide +kernel
theorem g50_45 : m_get 50 45 = some (.ior, 1) := by decide +kernel
theorem g50_46 : m_get 50 46 = some (.istore_n 2, 1) := by decide +kernel
theorem g50_47 : m_get 50 47 = some (.iinc 3 1, 3) := by decide +kernel
theorem g50_50 : m_get 50 50 = some (.goto (-46), 3) := by decide +kernel
theorem g50_53 : m_get 50 53 = some (.iload_n 2, 1) := by decide +kernel
theorem g50_54 : m_get 50 54 = some (.ireturn, 1) := by decide +kernel
theorem f50_38 : m_fl (m_own 50) 38 = some (4, 0) := by decide +kernel
theorem f50_46 : m_fl (m_own 50) 46 = some (4, 8) := by decide +kernel
theorem f50_53 : m_fl (m_own 50) 53 = some (4, 4) := by decide +kernel
theorem k50_42 : m_ml (m_own 50) 42 = some (0, 18) := by decide +kernel
theorem k50_49 : m_ml (m_own 50) 49 = some (0, 19) := by decide +kernel
theorem g51_0 : m_get 51 0 = some (.iconst 0, 1) := by decide +kernel
theorem g51_1 : m_get 51 1 = some (.istore_n 3, 1) := by decide +kernel
theorem g51_2 : m_get 51 2 = some (.iconst 0, 1) := by decide +kernel
theorem g51_3 : m_get 51 3 = some (.istore 4, 2) := by decide +kernel
theorem g51_5 : m_get 51 5 = some (.iload 4, 2) := by decide +kernel
theorem g51_7 : m_get 51 7 = some (.bipush 10, 2) := by decide +kernel
theorem g51_9 : m_get 51 9 = some (.if_icmp .ge 19, 3) := by decide +kernel
theorem g51_12 : m_get 51 12 = some (.iload_n 3, 1) := by decide +kernel
theorem g51_13 : m_get 51 13 = some (.aload_n 0, 1) := by decide +kernel
theorem g51_14 : m_get 51 14 = some (.iconst 0, 1) := by decide +kernel
theorem g51_15 : m_get 51 15 = some (.iload 4, 2) := by decide +kernel
theorem g51_17 : m_get 51 17 = some (.invokevirtual 56, 3) := by decide +kernel
theorem g51_20 : m_get 51 20 = some (.ior, 1) := by decide +kernel
theorem g51_21 : m_get 51 21 = some (.istore_n 3, 1) := by decide +kernel
theorem g51_22 : m_get 51 22 = some (.iinc 4 1, 3) := by decide +kernel
theorem g51_25 : m_get 51 25 = some (.goto (-20), 3) := by decide +kernel
theorem g51_28 : m_get 51 28 = some (.iconst 0, 1) := by decide +kernel
theorem g51_29 : m_get 51 29 = some (.istore 4, 2) := by decide +kernel
theorem g51_31 : m_get 51 31 = some (.iload 4, 2) := by decide +kernel
theorem g51_33 : m_get 51 33 = some (.iconst 4, 1) := by decide +kernel
theorem g51_34 : m_get 51 34 = some (.if_icmp .ge 93, 3) := by decide +kernel
theorem g51_37 : m_get 51 37 = some (.aload_n 0, 1) := by decide +kernel
theorem g51_38 : m_get 51 38 = some (.iload_n 2, 1) := by decide +kernel
theorem g51_39 : m_get 51 39 = some (.iload 4, 2) := by decide +kernel
theorem g51_41 : m_get 51 41 = some (.invokevirtual 60, 3) := by decide +kernel
theorem g51_44 : m_get 51 44 = some (.istore 5, 2) := by decide +kernel
theorem g51_46 : m_get 51 46 = some (.iload 5, 2) := by decide +kernel
theorem g51_48 : m_get 51 48 = some (.ifCond .lt 10, 3) := by decide +kernel
theorem g51_51 : m_get 51 51 = some (.iload 5, 2) := by decide +kernel
theorem g51_53 : m_get 51 53 = some (.bipush 6, 2) := by decide +kernel
theorem g51_55 : m_get 51 55 = some (.if_icmp .lt 32, 3) := by decide +kernel
theorem g51_58 : m_get 51 58 = some (.iload_n 3, 1) := by decide +kernel
theorem g51_59 : m_get 51 59 = some (.aload_n 0, 1) := by decide +kernel
theorem g51_60 : m_get 51 60 = some (.getfield 63, 3) := by decide +kernel
theorem g51_63 : m_get 51 63 = some (.bipush (-9), 2) := by decide +kernel
theorem g51_65 : m_get 51 65 = some (.if_icmp .ne 7, 3) := by decide +kernel
theorem g51_68 : m_get 51 68 = some (.iload_n 3, 1) := by decide +kernel
theorem g51_69 : m_get 51 69 = some (.goto 13, 3) := by decide +kernel
theorem g51_72 : m_get 51 72 = some (.aload_n 0, 1) := by decide +kernel
theorem g51_73 : m_get 51 73 = some (.iload 4, 2) := by decide +kernel
theorem g51_75 : m_get 51 75 = some (.aload_n 0, 1) := by decide +kernel
theorem g51_76 : m_get 51 76 = some (.getfield 63, 3) := by decide +kernel
theorem g51_79 : m_get 51 79 = some (.invokevirtual 56, 3) := by decide +kernel
theorem g51_82 : m_get 51 82 = some (.iand, 1) := by decide +kernel
theorem g51_83 : m_get 51 83 = some (.istore_n 3, 1) := by decide +kernel
theorem g51_84 : m_get 51 84 = some (.goto 37, 3) := by decide +kernel
theorem g51_87 : m_get 51 87 = some (.aload_n 1, 1) := by decide +kernel
theorem g51_88 : m_get 51 88 = some (.iload 5, 2) := by decide +kernel
theorem g51_90 : m_get 51 90 = some (.invokevirtual 25, 3) := by decide +kernel
theorem g51_93 : m_get 51 93 = some (.ifCond .ne 28, 3) := by decide +kernel
theorem g51_96 : m_get 51 96 = some (.iload_n 3, 1) := by decide +kernel
theorem g51_97 : m_get 51 97 = some (.aload_n 0, 1) := by decide +kernel
theorem g51_98 : m_get 51 98 = some (.iload 4, 2) := by decide +kernel
theorem g51_100 : m_get 51 100 = some (.aload_n 0, 1) := by decide +kernel
theorem g51_101 : m_get 51 101 = some (.aload_n 1, 1) := by decide +kernel
theorem g51_102 : m_get 51 102 = some (.getfield 66, 3) := by decide +kernel
theorem g51_105 : m_get 51 105 = some (.iload 5, 2) := by decide +kernel
theorem g51_107 : m_get 51 107 = some (.iaload, 1) := by decide +kernel
theorem g51_108 : m_get 51 108 = some (.iload 4, 2) := by decide +kernel
theorem g51_110 : m_get 51 110 = some (.invokestatic 69, 3) := by decide +kernel
theorem g51_113 : m_get 51 113 = some (.invokevirtual 72, 3) := by decide +kernel
theorem g51_116 : m_get 51 116 = some (.invokevirtual 56, 3) := by decide +kernel
theorem g51_119 : m_get 51 119 = some (.iand, 1) := by decide +kernel
theorem g51_120 : m_get 51 120 = some (.istore_n 3, 1) := by decide +kernel
theorem g51_121 : m_get 51 121 = some (.iinc 4 1, 3) := by decide +kernel
theorem g51_124 : m_get 51 124 = some (.goto (-93), 3) := by decide +kernel
theorem g51_127 : m_get 51 127 = some (.iload_n 3, 1) := by decide +kernel
theorem g51_128 : m_get 51 128 = some (.ireturn, 1) := by decide +kernel
theorem f51_63 : m_fl (m_own 51) 63 = some (4, 3) := by decide +kernel
theorem f51_66 : m_fl (m_own 51) 66 = some (2, 0) := by decide +kernel
theorem k51_25 : m_ml (m_own 51) 25 = some (0, 17) := by decide +kernel
theorem k51_56 : m_ml (m_own 51) 56 = some (0, 41) := by decide +kernel
theorem k51_60 : m_ml (m_own 51) 60 = some (0, 42) := by decide +kernel
theorem k51_69 : m_ml (m_own 51) 69 = some (3, 96) := by decide +kernel
theorem k51_72 : m_ml (m_own 51) 72 = some (0, 37) := by decide +kernel
theorem g52_0 : m_get 52 0 = some (.aload_n 0, 1) := by decide +kernel
theorem g52_1 : m_get 52 1 = some (.getfield 9, 3) := by decide +kernel
theorem g52_4 : m_get 52 4 = some (.iload_n 3, 1) := by decide +kernel
theorem g52_5 : m_get 52 5 = some (.iaload, 1) := by decide +kernel
theorem g52_6 : m_get 52 6 = some (.istore 4, 2) := by decide +kernel
theorem g52_8 : m_get 52 8 = some (.iconst 0, 1) := by decide +kernel
theorem g52_9 : m_get 52 9 = some (.istore 5, 2) := by decide +kernel
theorem g52_11 : m_get 52 11 = some (.iload 5, 2) := by decide +kernel
theorem g52_13 : m_get 52 13 = some (.iconst 4, 1) := by decide +kernel
theorem g52_14 : m_get 52 14 = some (.if_icmp .ge 57, 3) := by decide +kernel
theorem g52_17 : m_get 52 17 = some (.aload_n 1, 1) := by decide +kernel
theorem g52_18 : m_get 52 18 = some (.iload_n 3, 1) := by decide +kernel
theorem g52_19 : m_get 52 19 = some (.iload 5, 2) := by decide +kernel
theorem g52_21 : m_get 52 21 = some (.invokevirtual 60, 3) := by decide +kernel
theorem g52_24 : m_get 52 24 = some (.istore 6, 2) := by decide +kernel
theorem g52_26 : m_get 52 26 = some (.iload 6, 2) := by decide +kernel
theorem g52_28 : m_get 52 28 = some (.ifCond .lt 37, 3) := by decide +kernel
theorem g52_31 : m_get 52 31 = some (.iload 6, 2) := by decide +kernel
theorem g52_33 : m_get 52 33 = some (.bipush 6, 2) := by decide +kernel
theorem g52_35 : m_get 52 35 = some (.if_icmp .ge 30, 3) := by decide +kernel
theorem g52_38 : m_get 52 38 = some (.aload_n 2, 1) := by decide +kernel
theorem g52_39 : m_get 52 39 = some (.iload 6, 2) := by decide +kernel
theorem g52_41 : m_get 52 41 = some (.invokevirtual 25, 3) := by decide +kernel
theorem g52_44 : m_get 52 44 = some (.ifCond .eq 21, 3) := by decide +kernel
theorem g52_47 : m_get 52 47 = some (.iload 4, 2) := by decide +kernel
theorem g52_49 : m_get 52 49 = some (.aload_n 1, 1) := by decide +kernel
theorem g52_50 : m_get 52 50 = some (.aload_n 0, 1) := by decide +kernel
theorem g52_51 : m_get 52 51 = some (.getfield 9, 3) := by decide +kernel
theorem g52_54 : m_get 52 54 = some (.iload 6, 2) := by decide +kernel
theorem g52_56 : m_get 52 56 = some (.iaload, 1) := by decide +kernel
theorem g52_57 : m_get 52 57 = some (.iload 5, 2) := by decide +kernel
theorem g52_59 : m_get 52 59 = some (.invokestatic 75, 3) := by decide +kernel
theorem g52_62 : m_get 52 62 = some (.iand, 1) := by decide +kernel
theorem g52_63 : m_get 52 63 = some (.istore 4, 2) := by decide +kernel
theorem g52_65 : m_get 52 65 = some (.iinc 5 1, 3) := by decide +kernel
theorem g52_68 : m_get 52 68 = some (.goto (-57), 3) := by decide +kernel
theorem g52_71 : m_get 52 71 = some (.iload 4, 2) := by decide +kernel
theorem g52_73 : m_get 52 73 = some (.ireturn, 1) := by decide +kernel
theorem f52_9 : m_fl (m_own 52) 9 = some (5, 0) := by decide +kernel
theorem k52_25 : m_ml (m_own 52) 25 = some (0, 17) := by decide +kernel
theorem k52_60 : m_ml (m_own 52) 60 = some (0, 42) := by decide +kernel
theorem k52_75 : m_ml (m_own 52) 75 = some (1, 53) := by decide +kernel
theorem g53_0 : m_get 53 0 = some (.iconst 0, 1) := by decide +kernel
theorem g53_1 : m_get 53 1 = some (.istore_n 3, 1) := by decide +kernel
theorem g53_2 : m_get 53 2 = some (.iconst 0, 1) := by decide +kernel
theorem g53_3 : m_get 53 3 = some (.istore 4, 2) := by decide +kernel
theorem g53_5 : m_get 53 5 = some (.iload 4, 2) := by decide +kernel
theorem g53_7 : m_get 53 7 = some (.bipush 10, 2) := by decide +kernel
theorem g53_9 : m_get 53 9 = some (.if_icmp .ge 34, 3) := by decide +kernel
theorem g53_12 : m_get 53 12 = some (.iload_n 1, 1) := by decide +kernel
theorem g53_13 : m_get 53 13 = some (.aload_n 0, 1) := by decide +kernel
theorem g53_14 : m_get 53 14 = some (.iload_n 2, 1) := by decide +kernel
theorem g53_15 : m_get 53 15 = some (.invokestatic 69, 3) := by decide +kernel
theorem g53_18 : m_get 53 18 = some (.iload 4, 2) := by decide +kernel
theorem g53_20 : m_get 53 20 = some (.invokevirtual 56, 3) := by decide +kernel
theorem g53_23 : m_get 53 23 = some (.iand, 1) := by decide +kernel
theorem g53_24 : m_get 53 24 = some (.ifCond .eq 13, 3) := by decide +kernel
theorem g53_27 : m_get 53 27 = some (.iload_n 3, 1) := by decide +kernel
theorem g53_28 : m_get 53 28 = some (.aload_n 0, 1) := by decide +kernel
theorem g53_29 : m_get 53 29 = some (.iload_n 2, 1) := by decide +kernel
theorem g53_30 : m_get 53 30 = some (.iload 4, 2) := by decide +kernel
theorem g53_32 : m_get 53 32 = some (.invokevirtual 56, 3) := by decide +kernel
theorem g53_35 : m_get 53 35 = some (.ior, 1) := by decide +kernel
theorem g53_36 : m_get 53 36 = some (.istore_n 3, 1) := by decide +kernel
theorem g53_37 : m_get 53 37 = some (.iinc 4 1, 3) := by decide +kernel
theorem g53_40 : m_get 53 40 = some (.goto (-35), 3) := by decide +kernel
theorem g53_43 : m_get 53 43 = some (.iload_n 3, 1) := by decide +kernel
theorem g53_44 : m_get 53 44 = some (.ireturn, 1) := by decide +kernel
theorem k53_56 : m_ml (m_own 53) 56 = some (0, 41) := by decide +kernel
theorem k53_69 : m_ml (m_own 53) 69 = some (3, 96) := by decide +kernel
theorem g54_0 : m_get 54 0 = some (.aload_n 0, 1) := by decide +kernel
theorem g54_1 : m_get 54 1 = some (.invokespecial 3, 3) := by decide +kernel
theorem g54_4 : m_get 54 4 = some (.aload_n 0, 1) := by decide +kernel
theorem g54_5 : m_get 54 5 = some (.bipush 120, 2) := by decide +kernel
theorem g54_7 : m_get 54 7 = some (.newarray .int, 2) := by decide +kernel
theorem g54_9 : m_get 54 9 = some (.putfield 9, 3) := by decide +kernel
theorem g54_12 : m_get 54 12 = some (.aload_n 0, 1) := by decide +kernel
theorem g54_13 : m_get 54 13 = some (.new 13, 3) := by decide +kernel
theorem g54_16 : m_get 54 16 = some (.dup, 1) := by decide +kernel
theorem g54_17 : m_get 54 17 = some (.invokespecial 15, 3) := by decide +kernel
theorem g54_20 : m_get 54 20 = some (.putfield 16, 3) := by decide +kernel
theorem g54_23 : m_get 54 23 = some (.aload_n 0, 1) := by decide +kernel
theorem g54_24 : m_get 54 24 = some (.new 20, 3) := by decide +kernel
theorem g54_27 : m_get 54 27 = some (.dup, 1) := by decide +kernel
theorem g54_28 : m_get 54 28 = some (.invokespecial 22, 3) := by decide +kernel
theorem g54_31 : m_get 54 31 = some (.putfield 23, 3) := by decide +kernel
theorem g54_34 : m_get 54 34 = some (.aload_n 0, 1) := by decide +kernel
theorem g54_35 : m_get 54 35 = some (.new 20, 3) := by decide +kernel
theorem g54_38 : m_get 54 38 = some (.dup, 1) := by decide +kernel
theorem g54_39 : m_get 54 39 = some (.invokespecial 22, 3) := by decide +kernel
theorem g54_42 : m_get 54 42 = some (.putfield 27, 3) := by decide +kernel
theorem g54_45 : m_get 54 45 = some (.aload_n 0, 1) := by decide +kernel
theorem g54_46 : m_get 54 46 = some (.new 30, 3) := by decide +kernel
theorem g54_49 : m_get 54 49 = some (.dup, 1) := by decide +kernel
theorem g54_50 : m_get 54 50 = some (.invokespecial 32, 3) := by decide +kernel
theorem g54_53 : m_get 54 53 = some (.putfield 33, 3) := by decide +kernel
theorem g54_56 : m_get 54 56 = some (.aload_n 0, 1) := by decide +kernel
theorem g54_57 : m_get 54 57 = some (.new 30, 3) := by decide +kernel
theorem g54_60 : m_get 54 60 = some (.dup, 1) := by decide +kernel
theorem g54_61 : m_get 54 61 = some (.invokespecial 32, 3) := by decide +kernel
theorem g54_64 : m_get 54 64 = some (.putfield 37, 3) := by decide +kernel
theorem g54_67 : m_get 54 67 = some (.aload_n 0, 1) := by decide +kernel
theorem g54_68 : m_get 54 68 = some (.bipush 10, 2) := by decide +kernel
theorem g54_70 : m_get 54 70 = some (.anewarray 30, 3) := by decide +kernel
theorem g54_73 : m_get 54 73 = some (.putfield 40, 3) := by decide +kernel
theorem g54_76 : m_get 54 76 = some (.aload_n 0, 1) := by decide +kernel
theorem g54_77 : m_get 54 77 = some (.iconst 2, 1) := by decide +kernel
theorem g54_78 : m_get 54 78 = some (.anewarray 30, 3) := by decide +kernel
theorem g54_81 : m_get 54 81 = some (.putfield 44, 3) := by decide +kernel
theorem g54_84 : m_get 54 84 = some (.aload_n 0, 1) := by decide +kernel
theorem g54_85 : m_get 54 85 = some (.iconst 2, 1) := by decide +kernel
theorem g54_86 : m_get 54 86 = some (.newarray .boolean, 2) := by decide +kernel
theorem g54_88 : m_get 54 88 = some (.putfield 47, 3) := by decide +kernel
theorem g54_91 : m_get 54 91 = some (.aload_n 0, 1) := by decide +kernel
theorem g54_92 : m_get 54 92 = some (.new 51, 3) := by decide +kernel
theorem g54_95 : m_get 54 95 = some (.dup, 1) := by decide +kernel
theorem g54_96 : m_get 54 96 = some (.invokespecial 53, 3) := by decide +kernel
theorem g54_99 : m_get 54 99 = some (.putfield 54, 3) := by decide +kernel
theorem g54_102 : m_get 54 102 = some (.aload_n 0, 1) := by decide +kernel
theorem g54_103 : m_get 54 103 = some (.new 58, 3) := by decide +kernel
theorem g54_106 : m_get 54 106 = some (.dup, 1) := by decide +kernel
theorem g54_107 : m_get 54 107 = some (.invokespecial 60, 3) := by decide +kernel
theorem g54_110 : m_get 54 110 = some (.putfield 61, 3) := by decide +kernel
theorem g54_113 : m_get 54 113 = some (.aload_n 0, 1) := by decide +kernel
theorem g54_114 : m_get 54 114 = some (.new 65, 3) := by decide +kernel
theorem g54_117 : m_get 54 117 = some (.dup, 1) := by decide +kernel
theorem g54_118 : m_get 54 118 = some (.invokespecial 67, 3) := by decide +kernel
theorem g54_121 : m_get 54 121 = some (.putfield 68, 3) := by decide +kernel
theorem g54_124 : m_get 54 124 = some (.aload_n 0, 1) := by decide +kernel
theorem g54_125 : m_get 54 125 = some (.bipush 6, 2) := by decide +kernel
theorem g54_127 : m_get 54 127 = some (.newarray .int, 2) := by decide +kernel
theorem g54_129 : m_get 54 129 = some (.putfield 72, 3) := by decide +kernel
theorem g54_132 : m_get 54 132 = some (.iconst 0, 1) := by decide +kernel
theorem g54_133 : m_get 54 133 = some (.istore_n 1, 1) := by decide +kernel
theorem g54_134 : m_get 54 134 = some (.iload_n 1, 1) := by decide +kernel
theorem g54_135 : m_get 54 135 = some (.bipush 10, 2) := by decide +kernel
theorem g54_137 : m_get 54 137 = some (.if_icmp .ge 22, 3) := by decide +kernel
theorem g54_140 : m_get 54 140 = some (.aload_n 0, 1) := by decide +kernel
theorem g54_141 : m_get 54 141 = some (.getfield 40, 3) := by decide +kernel
theorem g54_144 : m_get 54 144 = some (.iload_n 1, 1) := by decide +kernel
theorem g54_145 : m_get 54 145 = some (.new 30, 3) := by decide +kernel
theorem g54_148 : m_get 54 148 = some (.dup, 1) := by decide +kernel
theorem g54_149 : m_get 54 149 = some (.invokespecial 32, 3) := by decide +kernel
theorem g54_152 : m_get 54 152 = some (.aastore, 1) := by decide +kernel
theorem g54_153 : m_get 54 153 = some (.iinc 1 1, 3) := by decide +kernel
theorem g54_156 : m_get 54 156 = some (.goto (-22), 3) := by decide +kernel
theorem g54_159 : m_get 54 159 = some (.iconst 0, 1) := by decide +kernel
theorem g54_160 : m_get 54 160 = some (.istore_n 1, 1) := by decide +kernel
theorem g54_161 : m_get 54 161 = some (.iload_n 1, 1) := by decide +kernel
theorem g54_162 : m_get 54 162 = some (.iconst 2, 1) := by decide +kernel
theorem g54_163 : m_get 54 163 = some (.if_icmp .ge 22, 3) := by decide +kernel
theorem g54_166 : m_get 54 166 = some (.aload_n 0, 1) := by decide +kernel
theorem g54_167 : m_get 54 167 = some (.getfield 44, 3) := by decide +kernel
theorem g54_170 : m_get 54 170 = some (.iload_n 1, 1) := by decide +kernel
theorem g54_171 : m_get 54 171 = some (.new 30, 3) := by decide +kernel
theorem g54_174 : m_get 54 174 = some (.dup, 1) := by decide +kernel
theorem g54_175 : m_get 54 175 = some (.invokespecial 32, 3) := by decide +kernel
theorem g54_178 : m_get 54 178 = some (.aastore, 1) := by decide +kernel
theorem g54_179 : m_get 54 179 = some (.iinc 1 1, 3) := by decide +kernel
theorem g54_182 : m_get 54 182 = some (.goto (-21), 3) := by decide +kernel
theorem g54_185 : m_get 54 185 = some (.aload_n 0, 1) := by decide +kernel
theorem g54_186 : m_get 54 186 = some (.getfield 68, 3) := by decide +kernel
theorem g54_189 : m_get 54 189 = some (.aload_n 0, 1) := by decide +kernel
theorem g54_190 : m_get 54 190 = some (.getfield 23, 3) := by decide +kernel
theorem g54_193 : m_get 54 193 = some (.invokevirtual 75, 3) := by decide +kernel
theorem g54_196 : m_get 54 196 = some (.return_, 1) := by decide +kernel
theorem f54_9 : m_fl (m_own 54) 9 = some (6, 0) := by decide +kernel
theorem f54_16 : m_fl (m_own 54) 16 = some (6, 2) := by decide +kernel
theorem f54_23 : m_fl (m_own 54) 23 = some (6, 3) := by decide +kernel
theorem f54_27 : m_fl (m_own 54) 27 = some (6, 4) := by decide +kernel
theorem f54_33 : m_fl (m_own 54) 33 = some (6, 5) := by decide +kernel
theorem f54_37 : m_fl (m_own 54) 37 = some (6, 6) := by decide +kernel
theorem f54_40 : m_fl (m_own 54) 40 = some (6, 7) := by decide +kernel
theorem f54_44 : m_fl (m_own 54) 44 = some (6, 10) := by decide +kernel
theorem f54_47 : m_fl (m_own 54) 47 = some (6, 11) := by decide +kernel
theorem f54_54 : m_fl (m_own 54) 54 = some (6, 12) := by decide +kernel
theorem f54_61 : m_fl (m_own 54) 61 = some (6, 13) := by decide +kernel
theorem f54_68 : m_fl (m_own 54) 68 = some (6, 14) := by decide +kernel
theorem f54_72 : m_fl (m_own 54) 72 = some (6, 15) := by decide +kernel
theorem k54_3 : m_ml (m_own 54) 3 = some (5, 0) := by decide +kernel
theorem k54_15 : m_ml (m_own 54) 15 = some (4, 20) := by decide +kernel
theorem k54_22 : m_ml (m_own 54) 22 = some (2, 34) := by decide +kernel
theorem k54_32 : m_ml (m_own 54) 32 = some (2, 13) := by decide +kernel
theorem k54_53 : m_ml (m_own 54) 53 = some (4, 47) := by decide +kernel
theorem k54_60 : m_ml (m_own 54) 60 = some (4, 7) := by decide +kernel
theorem k54_67 : m_ml (m_own 54) 67 = some (4, 0) := by decide +kernel
theorem k54_75 : m_ml (m_own 54) 75 = some (0, 2) := by decide +kernel
theorem g55_0 : m_get 55 0 = some (.iload_n 1, 1) := by decide +kernel
theorem g55_1 : m_get 55 1 = some (.ifCond .lt 10, 3) := by decide +kernel
theorem g55_4 : m_get 55 4 = some (.iload_n 1, 1) := by decide +kernel
theorem g55_5 : m_get 55 5 = some (.sipush 255, 3) := by decide +kernel
theorem g55_8 : m_get 55 8 = some (.if_icmp .le 5, 3) := by decide +kernel
theorem g55_11 : m_get 55 11 = some (.iconst (-1), 1) := by decide +kernel
theorem g55_12 : m_get 55 12 = some (.ireturn, 1) := by decide +kernel
theorem g55_13 : m_get 55 13 = some (.aload_n 0, 1) := by decide +kernel
theorem g55_14 : m_get 55 14 = some (.getfield 79, 3) := by decide +kernel
theorem g55_17 : m_get 55 17 = some (.bipush 120, 2) := by decide +kernel
theorem g55_19 : m_get 55 19 = some (.if_icmp .lt 6, 3) := by decide +kernel
theorem g55_22 : m_get 55 22 = some (.bipush (-3), 2) := by decide +kernel
theorem g55_24 : m_get 55 24 = some (.ireturn, 1) := by decide +kernel
theorem g55_25 : m_get 55 25 = some (.aload_n 0, 1) := by decide +kernel
theorem g55_26 : m_get 55 26 = some (.getfield 9, 3) := by decide +kernel
theorem g55_29 : m_get 55 29 = some (.aload_n 0, 1) := by decide +kernel
theorem g55_30 : m_get 55 30 = some (.getfield 79, 3) := by decide +kernel
theorem g55_33 : m_get 55 33 = some (.iload_n 1, 1) := by decide +kernel
theorem g55_34 : m_get 55 34 = some (.iastore, 1) := by decide +kernel
theorem g55_35 : m_get 55 35 = some (.aload_n 0, 1) := by decide +kernel
theorem g55_36 : m_get 55 36 = some (.dup, 1) := by decide +kernel
theorem g55_37 : m_get 55 37 = some (.getfield 79, 3) := by decide +kernel
theorem g55_40 : m_get 55 40 = some (.iconst 1, 1) := by decide +kernel
theorem g55_41 : m_get 55 41 = some (.iadd, 1) := by decide +kernel
theorem g55_42 : m_get 55 42 = some (.putfield 79, 3) := by decide +kernel
theorem g55_45 : m_get 55 45 = some (.aload_n 0, 1) := by decide +kernel
theorem g55_46 : m_get 55 46 = some (.getfield 79, 3) := by decide +kernel
theorem g55_49 : m_get 55 49 = some (.ireturn, 1) := by decide +kernel
theorem f55_9 : m_fl (m_own 55) 9 = some (6, 0) := by decide +kernel
theorem f55_79 : m_fl (m_own 55) 79 = some (6, 1) := by decide +kernel
theorem g56_0 : m_get 56 0 = some (.aload_n 0, 1) := by decide +kernel
theorem g56_1 : m_get 56 1 = some (.getfield 79, 3) := by decide +kernel
theorem g56_4 : m_get 56 4 = some (.istore_n 1, 1) := by decide +kernel
theorem g56_5 : m_get 56 5 = some (.aload_n 0, 1) := by decide +kernel
theorem g56_6 : m_get 56 6 = some (.iconst 0, 1) := by decide +kernel
theorem g56_7 : m_get 56 7 = some (.putfield 79, 3) := by decide +kernel
theorem g56_10 : m_get 56 10 = some (.iload_n 1, 1) := by decide +kernel
theorem g56_11 : m_get 56 11 = some (.ireturn, 1) := by decide +kernel
theorem f56_79 : m_fl (m_own 56) 79 = some (6, 1) := by decide +kernel
theorem g57_0 : m_get 57 0 = some (.aload_n 0, 1) := by decide +kernel
theorem g57_1 : m_get 57 1 = some (.getfield 16, 3) := by decide +kernel
theorem g57_4 : m_get 57 4 = some (.aload_n 0, 1) := by decide +kernel
theorem g57_5 : m_get 57 5 = some (.getfield 27, 3) := by decide +kernel
theorem g57_8 : m_get 57 8 = some (.aload_n 0, 1) := by decide +kernel
theorem g57_9 : m_get 57 9 = some (.getfield 9, 3) := by decide +kernel
theorem g57_12 : m_get 57 12 = some (.aload_n 0, 1) := by decide +kernel
theorem g57_13 : m_get 57 13 = some (.getfield 79, 3) := by decide +kernel
theorem g57_16 : m_get 57 16 = some (.invokevirtual 83, 3) := by decide +kernel
theorem g57_19 : m_get 57 19 = some (.istore_n 1, 1) := by decide +kernel
theorem g57_20 : m_get 57 20 = some (.iload_n 1, 1) := by decide +kernel
theorem g57_21 : m_get 57 21 = some (.ifCond .ge 5, 3) := by decide +kernel
theorem g57_24 : m_get 57 24 = some (.iload_n 1, 1) := by decide +kernel
theorem g57_25 : m_get 57 25 = some (.ireturn, 1) := by decide +kernel
theorem g57_26 : m_get 57 26 = some (.aload_n 0, 1) := by decide +kernel
theorem g57_27 : m_get 57 27 = some (.getfield 23, 3) := by decide +kernel
theorem g57_30 : m_get 57 30 = some (.astore_n 2, 1) := by decide +kernel
theorem g57_31 : m_get 57 31 = some (.aload_n 0, 1) := by decide +kernel
theorem g57_32 : m_get 57 32 = some (.aload_n 0, 1) := by decide +kernel
theorem g57_33 : m_get 57 33 = some (.getfield 27, 3) := by decide +kernel
theorem g57_36 : m_get 57 36 = some (.putfield 23, 3) := by decide +kernel
theorem g57_39 : m_get 57 39 = some (.aload_n 0, 1) := by decide +kernel
theorem g57_40 : m_get 57 40 = some (.aload_n 2, 1) := by decide +kernel
theorem g57_41 : m_get 57 41 = some (.putfield 27, 3) := by decide +kernel
theorem g57_44 : m_get 57 44 = some (.aload_n 0, 1) := by decide +kernel
theorem g57_45 : m_get 57 45 = some (.getfield 23, 3) := by decide +kernel
theorem g57_48 : m_get 57 48 = some (.invokevirtual 87, 3) := by decide +kernel
theorem g57_51 : m_get 57 51 = some (.aload_n 0, 1) := by decide +kernel
theorem g57_52 : m_get 57 52 = some (.getfield 33, 3) := by decide +kernel
theorem g57_55 : m_get 57 55 = some (.aload_n 0, 1) := by decide +kernel
theorem g57_56 : m_get 57 56 = some (.getfield 23, 3) := by decide +kernel
theorem g57_59 : m_get 57 59 = some (.invokevirtual 90, 3) := by decide +kernel
theorem g57_62 : m_get 57 62 = some (.aload_n 0, 1) := by decide +kernel
theorem g57_63 : m_get 57 63 = some (.iconst 0, 1) := by decide +kernel
theorem g57_64 : m_get 57 64 = some (.putfield 79, 3) := by decide +kernel
theorem g57_67 : m_get 57 67 = some (.aload_n 0, 1) := by decide +kernel
theorem g57_68 : m_get 57 68 = some (.iconst 0, 1) := by decide +kernel
theorem g57_69 : m_get 57 69 = some (.putfield 93, 3) := by decide +kernel
theorem g57_72 : m_get 57 72 = some (.aload_n 0, 1) := by decide +kernel
theorem g57_73 : m_get 57 73 = some (.invokevirtual 96, 3) := by decide +kernel
theorem g57_76 : m_get 57 76 = some (.aload_n 0, 1) := by decide +kernel
theorem g57_77 : m_get 57 77 = some (.getfield 68, 3) := by decide +kernel
theorem g57_80 : m_get 57 80 = some (.aload_n 0, 1) := by decide +kernel
theorem g57_81 : m_get 57 81 = some (.getfield 23, 3) := by decide +kernel
theorem g57_84 : m_get 57 84 = some (.invokevirtual 75, 3) := by decide +kernel
theorem g57_87 : m_get 57 87 = some (.iload_n 1, 1) := by decide +kernel
theorem g57_88 : m_get 57 88 = some (.ireturn, 1) := by decide +kernel
theorem f57_9 : m_fl (m_own 57) 9 = some (6, 0) := by decide +kernel
theorem f57_16 : m_fl (m_own 57) 16 = some (6, 2) := by decide +kernel
theorem f57_23 : m_fl (m_own 57) 23 = some (6, 3) := by decide +kernel
theorem f57_27 : m_fl (m_own 57) 27 = some (6, 4) := by decide +kernel
theorem f57_33 : m_fl (m_own 57) 33 = some (6, 5) := by decide +kernel
theorem f57_68 : m_fl (m_own 57) 68 = some (6, 14) := by decide +kernel
theorem f57_79 : m_fl (m_own 57) 79 = some (6, 1) := by decide +kernel
theorem f57_93 : m_fl (m_own 57) 93 = some (6, 9) := by decide +kernel
theorem k57_75 : m_ml (m_own 57) 75 = some (0, 2) := by decide +kernel
theorem k57_83 : m_ml (m_own 57) 83 = some (0, 21) := by decide +kernel
theorem k57_87 : m_ml (m_own 57) 87 = some (0, 40) := by decide +kernel
theorem k57_90 : m_ml (m_own 57) 90 = some (0, 14) := by decide +kernel
theorem k57_96 : m_ml (m_own 57) 96 = some (0, 88) := by decide +kernel
theorem g58_0 : m_get 58 0 = some (.aload_n 0, 1) := by decide +kernel
theorem g58_1 : m_get 58 1 = some (.iload_n 1, 1) := by decide +kernel
theorem g58_2 : m_get 58 2 = some (.invokevirtual 99, 3) := by decide +kernel
theorem g58_5 : m_get 58 5 = some (.ifCond .eq 13, 3) := by decide +kernel
theorem g58_8 : m_get 58 8 = some (.iload_n 2, 1) := by decide +kernel
theorem g58_9 : m_get 58 9 = some (.ifCond .lt 9, 3) := by decide +kernel
theorem g58_12 : m_get 58 12 = some (.iload_n 2, 1) := by decide +kernel
theorem g58_13 : m_get 58 13 = some (.bipush 6, 2) := by decide +kernel
theorem g58_15 : m_get 58 15 = some (.if_icmp .le 5, 3) := by decide +kernel
theorem g58_18 : m_get 58 18 = some (.iconst (-1), 1) := by decide +kernel
theorem g58_19 : m_get 58 19 = some (.ireturn, 1) := by decide +kernel
theorem g58_20 : m_get 58 20 = some (.iload_n 2, 1) := by decide +kernel
theorem g58_21 : m_get 58 21 = some (.tableswitch 59 4 6 #[27, 37, 47], 27) := by decide +kernel
theorem g58_48 : m_get 58 48 = some (.aload_n 0, 1) := by decide +kernel
theorem g58_49 : m_get 58 49 = some (.getfield 23, 3) := by decide +kernel
theorem g58_52 : m_get 58 52 = some (.getfield 103, 3) := by decide +kernel
theorem g58_55 : m_get 58 55 = some (.iload_n 1, 1) := by decide +kernel
theorem g58_56 : m_get 58 56 = some (.iaload, 1) := by decide +kernel
theorem g58_57 : m_get 58 57 = some (.ireturn, 1) := by decide +kernel
theorem g58_58 : m_get 58 58 = some (.aload_n 0, 1) := by decide +kernel
theorem g58_59 : m_get 58 59 = some (.getfield 33, 3) := by decide +kernel
theorem g58_62 : m_get 58 62 = some (.getfield 106, 3) := by decide +kernel
theorem g58_65 : m_get 58 65 = some (.iload_n 1, 1) := by decide +kernel
theorem g58_66 : m_get 58 66 = some (.iaload, 1) := by decide +kernel
theorem g58_67 : m_get 58 67 = some (.ireturn, 1) := by decide +kernel
theorem g58_68 : m_get 58 68 = some (.aload_n 0, 1) := by decide +kernel
theorem g58_69 : m_get 58 69 = some (.getfield 33, 3) := by decide +kernel
theorem g58_72 : m_get 58 72 = some (.iload_n 1, 1) := by decide +kernel
theorem g58_73 : m_get 58 73 = some (.invokevirtual 109, 3) := by decide +kernel
theorem g58_76 : m_get 58 76 = some (.bipush 100, 2) := by decide +kernel
theorem g58_78 : m_get 58 78 = some (.iadd, 1) := by decide +kernel
theorem g58_79 : m_get 58 79 = some (.ireturn, 1) := by decide +kernel
theorem g58_80 : m_get 58 80 = some (.aload_n 0, 1) := by decide +kernel
theorem g58_81 : m_get 58 81 = some (.getfield 23, 3) := by decide +kernel
theorem g58_84 : m_get 58 84 = some (.iload_n 1, 1) := by decide +kernel
theorem g58_85 : m_get 58 85 = some (.iconst 4, 1) := by decide +kernel
theorem g58_86 : m_get 58 86 = some (.imul, 1) := by decide +kernel
theorem g58_87 : m_get 58 87 = some (.iload_n 2, 1) := by decide +kernel
theorem g58_88 : m_get 58 88 = some (.invokevirtual 113, 3) := by decide +kernel
theorem g58_91 : m_get 58 91 = some (.ireturn, 1) := by decide +kernel
theorem f58_23 : m_fl (m_own 58) 23 = some (6, 3) := by decide +kernel
theorem f58_33 : m_fl (m_own 58) 33 = some (6, 5) := by decide +kernel
theorem f58_103 : m_fl (m_own 58) 103 = some (4, 8) := by decide +kernel
theorem f58_106 : m_fl (m_own 58) 106 = some (2, 1) := by decide +kernel
theorem k58_99 : m_ml (m_own 58) 99 = some (0, 81) := by decide +kernel
theorem k58_109 : m_ml (m_own 58) 109 = some (0, 18) := by decide +kernel
theorem k58_113 : m_ml (m_own 58) 113 = some (0, 37) := by decide +kernel
theorem g59_0 : m_get 59 0 = some (.aload_n 0, 1) := by decide +kernel
theorem g59_1 : m_get 59 1 = some (.iload_n 1, 1) := by decide +kernel
theorem g59_2 : m_get 59 2 = some (.invokevirtual 117, 3) := by decide +kernel
theorem g59_5 : m_get 59 5 = some (.ifCond .eq 12, 3) := by decide +kernel
theorem g59_8 : m_get 59 8 = some (.iload_n 2, 1) := by decide +kernel
theorem g59_9 : m_get 59 9 = some (.ifCond .lt 8, 3) := by decide +kernel
theorem g59_12 : m_get 59 12 = some (.iload_n 2, 1) := by decide +kernel
theorem g59_13 : m_get 59 13 = some (.iconst 4, 1) := by decide +kernel
theorem g59_14 : m_get 59 14 = some (.if_icmp .le 5, 3) := by decide +kernel
theorem g59_17 : m_get 59 17 = some (.iconst (-1), 1) := by decide +kernel
theorem g59_18 : m_get 59 18 = some (.ireturn, 1) := by decide +kernel
theorem g59_19 : m_get 59 19 = some (.iload_n 2, 1) := by decide +kernel
theorem g59_20 : m_get 59 20 = some (.iconst 4, 1) := by decide +kernel
theorem g59_21 : m_get 59 21 = some (.if_icmp .ne 20, 3) := by decide +kernel
theorem g59_24 : m_get 59 24 = some (.aload_n 0, 1) := by decide +kernel
theorem g59_25 : m_get 59 25 = some (.getfield 23, 3) := by decide +kernel
theorem g59_28 : m_get 59 28 = some (.iload_n 1, 1) := by decide +kernel
theorem g59_29 : m_get 59 29 = some (.invokevirtual 120, 3) := by decide +kernel
theorem g59_32 : m_get 59 32 = some (.ifCond .eq 7, 3) := by decide +kernel
theorem g59_35 : m_get 59 35 = some (.iconst 1, 1) := by decide +kernel
theorem g59_36 : m_get 59 36 = some (.goto 4, 3) := by decide +kernel
theorem g59_39 : m_get 59 39 = some (.iconst 0, 1) := by decide +kernel
theorem g59_40 : m_get 59 40 = some (.ireturn, 1) := by decide +kernel
theorem g59_41 : m_get 59 41 = some (.aload_n 0, 1) := by decide +kernel
theorem g59_42 : m_get 59 42 = some (.getfield 23, 3) := by decide +kernel
theorem g59_45 : m_get 59 45 = some (.iload_n 1, 1) := by decide +kernel
theorem g59_46 : m_get 59 46 = some (.iload_n 2, 1) := by decide +kernel
theorem g59_47 : m_get 59 47 = some (.invokevirtual 113, 3) := by decide +kernel
theorem g59_50 : m_get 59 50 = some (.ireturn, 1) := by decide +kernel
theorem f59_23 : m_fl (m_own 59) 23 = some (6, 3) := by decide +kernel
theorem k59_113 : m_ml (m_own 59) 113 = some (0, 37) := by decide +kernel
theorem k59_117 : m_ml (m_own 59) 117 = some (0, 82) := by decide +kernel
theorem k59_120 : m_ml (m_own 59) 120 = some (0, 38) := by decide +kernel
