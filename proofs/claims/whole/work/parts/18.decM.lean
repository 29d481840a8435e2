theorem d_M_init_0 : decode b_M_init 0 = .ok (.aload_n 0, 1) := by decide +kernel
theorem d_M_init_1 : decode b_M_init 1 = .ok (.invokespecial 1, 3) := by decide +kernel
theorem d_M_init_4 : decode b_M_init 4 = .ok (.aload_n 0, 1) := by decide +kernel
theorem d_M_init_5 : decode b_M_init 5 = .ok (.sipush 1200, 3) := by decide +kernel
theorem d_M_init_8 : decode b_M_init 8 = .ok (.newarray .int, 2) := by decide +kernel
theorem d_M_init_10 : decode b_M_init 10 = .ok (.putfield 7, 3) := by decide +kernel
theorem d_M_init_13 : decode b_M_init 13 = .ok (.aload_n 0, 1) := by decide +kernel
theorem d_M_init_14 : decode b_M_init 14 = .ok (.sipush 600, 3) := by decide +kernel
theorem d_M_init_17 : decode b_M_init 17 = .ok (.newarray .int, 2) := by decide +kernel
theorem d_M_init_19 : decode b_M_init 19 = .ok (.putfield 13, 3) := by decide +kernel
theorem d_M_init_22 : decode b_M_init 22 = .ok (.aload_n 0, 1) := by decide +kernel
theorem d_M_init_23 : decode b_M_init 23 = .ok (.bipush 61, 2) := by decide +kernel
theorem d_M_init_25 : decode b_M_init 25 = .ok (.newarray .boolean, 2) := by decide +kernel
theorem d_M_init_27 : decode b_M_init 27 = .ok (.putfield 16, 3) := by decide +kernel
theorem d_M_init_30 : decode b_M_init 30 = .ok (.aload_n 0, 1) := by decide +kernel
theorem d_M_init_31 : decode b_M_init 31 = .ok (.sipush 600, 3) := by decide +kernel
theorem d_M_init_34 : decode b_M_init 34 = .ok (.newarray .boolean, 2) := by decide +kernel
theorem d_M_init_36 : decode b_M_init 36 = .ok (.putfield 20, 3) := by decide +kernel
theorem d_M_init_39 : decode b_M_init 39 = .ok (.aload_n 0, 1) := by decide +kernel
theorem d_M_init_40 : decode b_M_init 40 = .ok (.bipush 100, 2) := by decide +kernel
theorem d_M_init_42 : decode b_M_init 42 = .ok (.newarray .int, 2) := by decide +kernel
theorem d_M_init_44 : decode b_M_init 44 = .ok (.putfield 23, 3) := by decide +kernel
theorem d_M_init_47 : decode b_M_init 47 = .ok (.aload_n 0, 1) := by decide +kernel
theorem d_M_init_48 : decode b_M_init 48 = .ok (.bipush 100, 2) := by decide +kernel
theorem d_M_init_50 : decode b_M_init 50 = .ok (.newarray .int, 2) := by decide +kernel
theorem d_M_init_52 : decode b_M_init 52 = .ok (.putfield 26, 3) := by decide +kernel
theorem d_M_init_55 : decode b_M_init 55 = .ok (.aload_n 0, 1) := by decide +kernel
theorem d_M_init_56 : decode b_M_init 56 = .ok (.bipush 6, 2) := by decide +kernel
theorem d_M_init_58 : decode b_M_init 58 = .ok (.newarray .boolean, 2) := by decide +kernel
theorem d_M_init_60 : decode b_M_init 60 = .ok (.putfield 29, 3) := by decide +kernel
theorem d_M_init_63 : decode b_M_init 63 = .ok (.aload_n 0, 1) := by decide +kernel
theorem d_M_init_64 : decode b_M_init 64 = .ok (.sipush 366, 3) := by decide +kernel
theorem d_M_init_67 : decode b_M_init 67 = .ok (.newarray .boolean, 2) := by decide +kernel
theorem d_M_init_69 : decode b_M_init 69 = .ok (.putfield 32, 3) := by decide +kernel
theorem d_M_init_72 : decode b_M_init 72 = .ok (.aload_n 0, 1) := by decide +kernel
theorem d_M_init_73 : decode b_M_init 73 = .ok (.bipush 61, 2) := by decide +kernel
theorem d_M_init_75 : decode b_M_init 75 = .ok (.newarray .boolean, 2) := by decide +kernel
theorem d_M_init_77 : decode b_M_init 77 = .ok (.putfield 35, 3) := by decide +kernel
theorem d_M_init_80 : decode b_M_init 80 = .ok (.iconst 0, 1) := by decide +kernel
theorem d_M_init_81 : decode b_M_init 81 = .ok (.istore_n 1, 1) := by decide +kernel
theorem d_M_init_82 : decode b_M_init 82 = .ok (.iload_n 1, 1) := by decide +kernel
theorem d_M_init_83 : decode b_M_init 83 = .ok (.sipush 600, 3) := by decide +kernel
theorem d_M_init_86 : decode b_M_init 86 = .ok (.if_icmp .ge 16, 3) := by decide +kernel
theorem d_M_init_89 : decode b_M_init 89 = .ok (.aload_n 0, 1) := by decide +kernel
theorem d_M_init_90 : decode b_M_init 90 = .ok (.getfield 13, 3) := by decide +kernel
theorem d_M_init_93 : decode b_M_init 93 = .ok (.iload_n 1, 1) := by decide +kernel
theorem d_M_init_94 : decode b_M_init 94 = .ok (.iconst (-1), 1) := by decide +kernel
theorem d_M_init_95 : decode b_M_init 95 = .ok (.iastore, 1) := by decide +kernel
theorem d_M_init_96 : decode b_M_init 96 = .ok (.iinc 1 1, 3) := by decide +kernel
theorem d_M_init_99 : decode b_M_init 99 = .ok (.goto (-17), 3) := by decide +kernel
theorem d_M_init_102 : decode b_M_init 102 = .ok (.return_, 1) := by decide +kernel
theorem d_M_thrown_0 : decode b_M_thrown 0 = .ok (.aload_n 0, 1) := by decide +kernel
theorem d_M_thrown_1 : decode b_M_thrown 1 = .ok (.getfield 38, 3) := by decide +kernel
theorem d_M_thrown_4 : decode b_M_thrown 4 = .ok (.ireturn, 1) := by decide +kernel
theorem d_M_record_0 : decode b_M_record 0 = .ok (.aload_n 0, 1) := by decide +kernel
theorem d_M_record_1 : decode b_M_record 1 = .ok (.iconst 0, 1) := by decide +kernel
theorem d_M_record_2 : decode b_M_record 2 = .ok (.putfield 38, 3) := by decide +kernel
theorem d_M_record_5 : decode b_M_record 5 = .ok (.aload_n 0, 1) := by decide +kernel
theorem d_M_record_6 : decode b_M_record 6 = .ok (.getfield 42, 3) := by decide +kernel
theorem d_M_record_9 : decode b_M_record 9 = .ok (.bipush 60, 2) := by decide +kernel
theorem d_M_record_11 : decode b_M_record 11 = .ok (.if_icmp .ne 5, 3) := by decide +kernel
theorem d_M_record_14 : decode b_M_record 14 = .ok (.iconst 0, 1) := by decide +kernel
theorem d_M_record_15 : decode b_M_record 15 = .ok (.ireturn, 1) := by decide +kernel
theorem d_M_record_16 : decode b_M_record 16 = .ok (.aload_n 0, 1) := by decide +kernel
theorem d_M_record_17 : decode b_M_record 17 = .ok (.dup, 1) := by decide +kernel
theorem d_M_record_18 : decode b_M_record 18 = .ok (.getfield 42, 3) := by decide +kernel
theorem d_M_record_21 : decode b_M_record 21 = .ok (.iconst 1, 1) := by decide +kernel
theorem d_M_record_22 : decode b_M_record 22 = .ok (.iadd, 1) := by decide +kernel
theorem d_M_record_23 : decode b_M_record 23 = .ok (.putfield 42, 3) := by decide +kernel
theorem d_M_record_26 : decode b_M_record 26 = .ok (.aload_n 0, 1) := by decide +kernel
theorem d_M_record_27 : decode b_M_record 27 = .ok (.getfield 42, 3) := by decide +kernel
theorem d_M_record_30 : decode b_M_record 30 = .ok (.ireturn, 1) := by decide +kernel
theorem d_M_value_0 : decode b_M_value 0 = .ok (.aload_n 0, 1) := by decide +kernel
theorem d_M_value_1 : decode b_M_value 1 = .ok (.iconst 0, 1) := by decide +kernel
theorem d_M_value_2 : decode b_M_value 2 = .ok (.putfield 38, 3) := by decide +kernel
theorem d_M_value_5 : decode b_M_value 5 = .ok (.aload_n 0, 1) := by decide +kernel
theorem d_M_value_6 : decode b_M_value 6 = .ok (.iload_n 1, 1) := by decide +kernel
theorem d_M_value_7 : decode b_M_value 7 = .ok (.invokevirtual 52, 3) := by decide +kernel
theorem d_M_value_10 : decode b_M_value 10 = .ok (.ifCond .eq 32, 3) := by decide +kernel
theorem d_M_value_13 : decode b_M_value 13 = .ok (.iload_n 2, 1) := by decide +kernel
theorem d_M_value_14 : decode b_M_value 14 = .ok (.iload_n 3, 1) := by decide +kernel
theorem d_M_value_15 : decode b_M_value 15 = .ok (.invokestatic 55, 3) := by decide +kernel
theorem d_M_value_18 : decode b_M_value 18 = .ok (.ifCond .eq 24, 3) := by decide +kernel
theorem d_M_value_21 : decode b_M_value 21 = .ok (.aload_n 0, 1) := by decide +kernel
theorem d_M_value_22 : decode b_M_value 22 = .ok (.iload_n 1, 1) := by decide +kernel
theorem d_M_value_23 : decode b_M_value 23 = .ok (.iload_n 2, 1) := by decide +kernel
theorem d_M_value_24 : decode b_M_value 24 = .ok (.iload_n 3, 1) := by decide +kernel
theorem d_M_value_25 : decode b_M_value 25 = .ok (.invokevirtual 59, 3) := by decide +kernel
theorem d_M_value_28 : decode b_M_value 28 = .ok (.iconst (-1), 1) := by decide +kernel
theorem d_M_value_29 : decode b_M_value 29 = .ok (.if_icmp .ne 13, 3) := by decide +kernel
theorem d_M_value_32 : decode b_M_value 32 = .ok (.aload_n 0, 1) := by decide +kernel
theorem d_M_value_33 : decode b_M_value 33 = .ok (.getfield 49, 3) := by decide +kernel
theorem d_M_value_36 : decode b_M_value 36 = .ok (.sipush 400, 3) := by decide +kernel
theorem d_M_value_39 : decode b_M_value 39 = .ok (.if_icmp .ne 5, 3) := by decide +kernel
theorem d_M_value_42 : decode b_M_value 42 = .ok (.iconst 0, 1) := by decide +kernel
theorem d_M_value_43 : decode b_M_value 43 = .ok (.ireturn, 1) := by decide +kernel
theorem d_M_value_44 : decode b_M_value 44 = .ok (.aload_n 0, 1) := by decide +kernel
theorem d_M_value_45 : decode b_M_value 45 = .ok (.getfield 7, 3) := by decide +kernel
theorem d_M_value_48 : decode b_M_value 48 = .ok (.iconst 3, 1) := by decide +kernel
theorem d_M_value_49 : decode b_M_value 49 = .ok (.aload_n 0, 1) := by decide +kernel
theorem d_M_value_50 : decode b_M_value 50 = .ok (.getfield 49, 3) := by decide +kernel
theorem d_M_value_53 : decode b_M_value 53 = .ok (.imul, 1) := by decide +kernel
theorem d_M_value_54 : decode b_M_value 54 = .ok (.iload_n 1, 1) := by decide +kernel
theorem d_M_value_55 : decode b_M_value 55 = .ok (.iastore, 1) := by decide +kernel
theorem d_M_value_56 : decode b_M_value 56 = .ok (.aload_n 0, 1) := by decide +kernel
theorem d_M_value_57 : decode b_M_value 57 = .ok (.getfield 7, 3) := by decide +kernel
theorem d_M_value_60 : decode b_M_value 60 = .ok (.iconst 3, 1) := by decide +kernel
theorem d_M_value_61 : decode b_M_value 61 = .ok (.aload_n 0, 1) := by decide +kernel
theorem d_M_value_62 : decode b_M_value 62 = .ok (.getfield 49, 3) := by decide +kernel
theorem d_M_value_65 : decode b_M_value 65 = .ok (.imul, 1) := by decide +kernel
theorem d_M_value_66 : decode b_M_value 66 = .ok (.iconst 1, 1) := by decide +kernel
theorem d_M_value_67 : decode b_M_value 67 = .ok (.iadd, 1) := by decide +kernel
theorem d_M_value_68 : decode b_M_value 68 = .ok (.iload_n 2, 1) := by decide +kernel
theorem d_M_value_69 : decode b_M_value 69 = .ok (.iastore, 1) := by decide +kernel
theorem d_M_value_70 : decode b_M_value 70 = .ok (.aload_n 0, 1) := by decide +kernel
theorem d_M_value_71 : decode b_M_value 71 = .ok (.getfield 7, 3) := by decide +kernel
theorem d_M_value_74 : decode b_M_value 74 = .ok (.iconst 3, 1) := by decide +kernel
theorem d_M_value_75 : decode b_M_value 75 = .ok (.aload_n 0, 1) := by decide +kernel
theorem d_M_value_76 : decode b_M_value 76 = .ok (.getfield 49, 3) := by decide +kernel
theorem d_M_value_79 : decode b_M_value 79 = .ok (.imul, 1) := by decide +kernel
theorem d_M_value_80 : decode b_M_value 80 = .ok (.iconst 2, 1) := by decide +kernel
theorem d_M_value_81 : decode b_M_value 81 = .ok (.iadd, 1) := by decide +kernel
theorem d_M_value_82 : decode b_M_value 82 = .ok (.iload_n 3, 1) := by decide +kernel
theorem d_M_value_83 : decode b_M_value 83 = .ok (.iastore, 1) := by decide +kernel
theorem d_M_value_84 : decode b_M_value 84 = .ok (.aload_n 0, 1) := by decide +kernel
theorem d_M_value_85 : decode b_M_value 85 = .ok (.dup, 1) := by decide +kernel
theorem d_M_value_86 : decode b_M_value 86 = .ok (.getfield 49, 3) := by decide +kernel
theorem d_M_value_89 : decode b_M_value 89 = .ok (.iconst 1, 1) := by decide +kernel
theorem d_M_value_90 : decode b_M_value 90 = .ok (.iadd, 1) := by decide +kernel
theorem d_M_value_91 : decode b_M_value 91 = .ok (.putfield 49, 3) := by decide +kernel
theorem d_M_value_94 : decode b_M_value 94 = .ok (.iconst 0, 1) := by decide +kernel
theorem d_M_value_95 : decode b_M_value 95 = .ok (.istore 4, 2) := by decide +kernel
theorem d_M_value_97 : decode b_M_value 97 = .ok (.iconst 0, 1) := by decide +kernel
theorem d_M_value_98 : decode b_M_value 98 = .ok (.istore 5, 2) := by decide +kernel
theorem d_M_value_100 : decode b_M_value 100 = .ok (.iload 5, 2) := by decide +kernel
theorem d_M_value_102 : decode b_M_value 102 = .ok (.aload_n 0, 1) := by decide +kernel
theorem d_M_value_103 : decode b_M_value 103 = .ok (.getfield 49, 3) := by decide +kernel
theorem d_M_value_106 : decode b_M_value 106 = .ok (.if_icmp .ge 47, 3) := by decide +kernel
theorem d_M_value_109 : decode b_M_value 109 = .ok (.iload 4, 2) := by decide +kernel
theorem d_M_value_111 : decode b_M_value 111 = .ok (.aload_n 0, 1) := by decide +kernel
theorem d_M_value_112 : decode b_M_value 112 = .ok (.getfield 7, 3) := by decide +kernel
theorem d_M_value_115 : decode b_M_value 115 = .ok (.iconst 3, 1) := by decide +kernel
theorem d_M_value_116 : decode b_M_value 116 = .ok (.iload 5, 2) := by decide +kernel
theorem d_M_value_118 : decode b_M_value 118 = .ok (.imul, 1) := by decide +kernel
theorem d_M_value_119 : decode b_M_value 119 = .ok (.iaload, 1) := by decide +kernel
theorem d_M_value_120 : decode b_M_value 120 = .ok (.iload_n 1, 1) := by decide +kernel
theorem d_M_value_121 : decode b_M_value 121 = .ok (.if_icmp .ne 22, 3) := by decide +kernel
theorem d_M_value_124 : decode b_M_value 124 = .ok (.aload_n 0, 1) := by decide +kernel
theorem d_M_value_125 : decode b_M_value 125 = .ok (.getfield 7, 3) := by decide +kernel
theorem d_M_value_128 : decode b_M_value 128 = .ok (.iconst 3, 1) := by decide +kernel
theorem d_M_value_129 : decode b_M_value 129 = .ok (.iload 5, 2) := by decide +kernel
theorem d_M_value_131 : decode b_M_value 131 = .ok (.imul, 1) := by decide +kernel
theorem d_M_value_132 : decode b_M_value 132 = .ok (.iconst 1, 1) := by decide +kernel
theorem d_M_value_133 : decode b_M_value 133 = .ok (.iadd, 1) := by decide +kernel
theorem d_M_value_134 : decode b_M_value 134 = .ok (.iaload, 1) := by decide +kernel
theorem d_M_value_135 : decode b_M_value 135 = .ok (.iload_n 2, 1) := by decide +kernel
theorem d_M_value_136 : decode b_M_value 136 = .ok (.if_icmp .ne 7, 3) := by decide +kernel
theorem d_M_value_139 : decode b_M_value 139 = .ok (.iconst 1, 1) := by decide +kernel
theorem d_M_value_140 : decode b_M_value 140 = .ok (.goto 4, 3) := by decide +kernel
theorem d_M_value_143 : decode b_M_value 143 = .ok (.iconst 0, 1) := by decide +kernel
theorem d_M_value_144 : decode b_M_value 144 = .ok (.iadd, 1) := by decide +kernel
theorem d_M_value_145 : decode b_M_value 145 = .ok (.istore 4, 2) := by decide +kernel
theorem d_M_value_147 : decode b_M_value 147 = .ok (.iinc 5 1, 3) := by decide +kernel
theorem d_M_value_150 : decode b_M_value 150 = .ok (.goto (-50), 3) := by decide +kernel
theorem d_M_value_153 : decode b_M_value 153 = .ok (.iload 4, 2) := by decide +kernel
theorem d_M_value_155 : decode b_M_value 155 = .ok (.ireturn, 1) := by decide +kernel
theorem d_M_isRecord_0 : decode b_M_isRecord 0 = .ok (.iload_n 1, 1) := by decide +kernel
theorem d_M_isRecord_1 : decode b_M_isRecord 1 = .ok (.ifCond .le 15, 3) := by decide +kernel
theorem d_M_isRecord_4 : decode b_M_isRecord 4 = .ok (.iload_n 1, 1) := by decide +kernel
theorem d_M_isRecord_5 : decode b_M_isRecord 5 = .ok (.aload_n 0, 1) := by decide +kernel
theorem d_M_isRecord_6 : decode b_M_isRecord 6 = .ok (.getfield 42, 3) := by decide +kernel
theorem d_M_isRecord_9 : decode b_M_isRecord 9 = .ok (.if_icmp .gt 7, 3) := by decide +kernel
theorem d_M_isRecord_12 : decode b_M_isRecord 12 = .ok (.iconst 1, 1) := by decide +kernel
theorem d_M_isRecord_13 : decode b_M_isRecord 13 = .ok (.goto 4, 3) := by decide +kernel
theorem d_M_isRecord_16 : decode b_M_isRecord 16 = .ok (.iconst 0, 1) := by decide +kernel
theorem d_M_isRecord_17 : decode b_M_isRecord 17 = .ok (.ireturn, 1) := by decide +kernel
theorem d_M_isValue_0 : decode b_M_isValue 0 = .ok (.iload_n 0, 1) := by decide +kernel
theorem d_M_isValue_1 : decode b_M_isValue 1 = .ok (.invokestatic 45, 3) := by decide +kernel
theorem d_M_isValue_4 : decode b_M_isValue 4 = .ok (.ifCond .eq 17, 3) := by decide +kernel
theorem d_M_isValue_7 : decode b_M_isValue 7 = .ok (.iload_n 1, 1) := by decide +kernel
theorem d_M_isValue_8 : decode b_M_isValue 8 = .ok (.ifCond .lt 13, 3) := by decide +kernel
theorem d_M_isValue_11 : decode b_M_isValue 11 = .ok (.iload_n 1, 1) := by decide +kernel
theorem d_M_isValue_12 : decode b_M_isValue 12 = .ok (.bipush 100, 2) := by decide +kernel
theorem d_M_isValue_14 : decode b_M_isValue 14 = .ok (.if_icmp .ge 7, 3) := by decide +kernel
theorem d_M_isValue_17 : decode b_M_isValue 17 = .ok (.iconst 1, 1) := by decide +kernel
theorem d_M_isValue_18 : decode b_M_isValue 18 = .ok (.goto 4, 3) := by decide +kernel
theorem d_M_isValue_21 : decode b_M_isValue 21 = .ok (.iconst 0, 1) := by decide +kernel
theorem d_M_isValue_22 : decode b_M_isValue 22 = .ok (.ireturn, 1) := by decide +kernel
theorem d_M_isFacet_0 : decode b_M_isFacet 0 = .ok (.iload_n 0, 1) := by decide +kernel
theorem d_M_isFacet_1 : decode b_M_isFacet 1 = .ok (.ifCond .lt 13, 3) := by decide +kernel
theorem d_M_isFacet_4 : decode b_M_isFacet 4 = .ok (.iload_n 0, 1) := by decide +kernel
theorem d_M_isFacet_5 : decode b_M_isFacet 5 = .ok (.bipush 6, 2) := by decide +kernel
theorem d_M_isFacet_7 : decode b_M_isFacet 7 = .ok (.if_icmp .ge 7, 3) := by decide +kernel
theorem d_M_isFacet_10 : decode b_M_isFacet 10 = .ok (.iconst 1, 1) := by decide +kernel
theorem d_M_isFacet_11 : decode b_M_isFacet 11 = .ok (.goto 4, 3) := by decide +kernel
theorem d_M_isFacet_14 : decode b_M_isFacet 14 = .ok (.iconst 0, 1) := by decide +kernel
theorem d_M_isFacet_15 : decode b_M_isFacet 15 = .ok (.ireturn, 1) := by decide +kernel
theorem d_M_find_0 : decode b_M_find 0 = .ok (.iconst 0, 1) := by decide +kernel
theorem d_M_find_1 : decode b_M_find 1 = .ok (.istore 4, 2) := by decide +kernel
theorem d_M_find_3 : decode b_M_find 3 = .ok (.iload 4, 2) := by decide +kernel
theorem d_M_find_5 : decode b_M_find 5 = .ok (.aload_n 0, 1) := by decide +kernel
theorem d_M_find_6 : decode b_M_find 6 = .ok (.getfield 49, 3) := by decide +kernel
theorem d_M_find_9 : decode b_M_find 9 = .ok (.if_icmp .ge 55, 3) := by decide +kernel
theorem d_M_find_12 : decode b_M_find 12 = .ok (.aload_n 0, 1) := by decide +kernel
theorem d_M_find_13 : decode b_M_find 13 = .ok (.getfield 7, 3) := by decide +kernel
theorem d_M_find_16 : decode b_M_find 16 = .ok (.iconst 3, 1) := by decide +kernel
theorem d_M_find_17 : decode b_M_find 17 = .ok (.iload 4, 2) := by decide +kernel
theorem d_M_find_19 : decode b_M_find 19 = .ok (.imul, 1) := by decide +kernel
theorem d_M_find_20 : decode b_M_find 20 = .ok (.iaload, 1) := by decide +kernel
theorem d_M_find_21 : decode b_M_find 21 = .ok (.iload_n 1, 1) := by decide +kernel
theorem d_M_find_22 : decode b_M_find 22 = .ok (.if_icmp .ne 36, 3) := by decide +kernel
theorem d_M_find_25 : decode b_M_find 25 = .ok (.aload_n 0, 1) := by decide +kernel
theorem d_M_find_26 : decode b_M_find 26 = .ok (.getfield 7, 3) := by decide +kernel
theorem d_M_find_29 : decode b_M_find 29 = .ok (.iconst 3, 1) := by decide +kernel
theorem d_M_find_30 : decode b_M_find 30 = .ok (.iload 4, 2) := by decide +kernel
theorem d_M_find_32 : decode b_M_find 32 = .ok (.imul, 1) := by decide +kernel
theorem d_M_find_33 : decode b_M_find 33 = .ok (.iconst 1, 1) := by decide +kernel
theorem d_M_find_34 : decode b_M_find 34 = .ok (.iadd, 1) := by decide +kernel
theorem d_M_find_35 : decode b_M_find 35 = .ok (.iaload, 1) := by decide +kernel
theorem d_M_find_36 : decode b_M_find 36 = .ok (.iload_n 2, 1) := by decide +kernel
theorem d_M_find_37 : decode b_M_find 37 = .ok (.if_icmp .ne 21, 3) := by decide +kernel
theorem d_M_find_40 : decode b_M_find 40 = .ok (.aload_n 0, 1) := by decide +kernel
theorem d_M_find_41 : decode b_M_find 41 = .ok (.getfield 7, 3) := by decide +kernel
theorem d_M_find_44 : decode b_M_find 44 = .ok (.iconst 3, 1) := by decide +kernel
theorem d_M_find_45 : decode b_M_find 45 = .ok (.iload 4, 2) := by decide +kernel
theorem d_M_find_47 : decode b_M_find 47 = .ok (.imul, 1) := by decide +kernel
theorem d_M_find_48 : decode b_M_find 48 = .ok (.iconst 2, 1) := by decide +kernel
theorem d_M_find_49 : decode b_M_find 49 = .ok (.iadd, 1) := by decide +kernel
theorem d_M_find_50 : decode b_M_find 50 = .ok (.iaload, 1) := by decide +kernel
theorem d_M_find_51 : decode b_M_find 51 = .ok (.iload_n 3, 1) := by decide +kernel
theorem d_M_find_52 : decode b_M_find 52 = .ok (.if_icmp .ne 6, 3) := by decide +kernel
theorem d_M_find_55 : decode b_M_find 55 = .ok (.iload 4, 2) := by decide +kernel
theorem d_M_find_57 : decode b_M_find 57 = .ok (.ireturn, 1) := by decide +kernel
theorem d_M_find_58 : decode b_M_find 58 = .ok (.iinc 4 1, 3) := by decide +kernel
theorem d_M_find_61 : decode b_M_find 61 = .ok (.goto (-58), 3) := by decide +kernel
theorem d_M_find_64 : decode b_M_find 64 = .ok (.iconst (-1), 1) := by decide +kernel
theorem d_M_find_65 : decode b_M_find 65 = .ok (.ireturn, 1) := by decide +kernel
theorem d_M_gone_0 : decode b_M_gone 0 = .ok (.aload_n 0, 1) := by decide +kernel
theorem d_M_gone_1 : decode b_M_gone 1 = .ok (.iconst 0, 1) := by decide +kernel
theorem d_M_gone_2 : decode b_M_gone 2 = .ok (.putfield 38, 3) := by decide +kernel
theorem d_M_gone_5 : decode b_M_gone 5 = .ok (.aload_n 0, 1) := by decide +kernel
theorem d_M_gone_6 : decode b_M_gone 6 = .ok (.iload_n 1, 1) := by decide +kernel
theorem d_M_gone_7 : decode b_M_gone 7 = .ok (.iload_n 2, 1) := by decide +kernel
theorem d_M_gone_8 : decode b_M_gone 8 = .ok (.iload_n 3, 1) := by decide +kernel
theorem d_M_gone_9 : decode b_M_gone 9 = .ok (.invokevirtual 59, 3) := by decide +kernel
theorem d_M_gone_12 : decode b_M_gone 12 = .ok (.istore 4, 2) := by decide +kernel
theorem d_M_gone_14 : decode b_M_gone 14 = .ok (.iload 4, 2) := by decide +kernel
theorem d_M_gone_16 : decode b_M_gone 16 = .ok (.iconst (-1), 1) := by decide +kernel
theorem d_M_gone_17 : decode b_M_gone 17 = .ok (.if_icmp .ne 5, 3) := by decide +kernel
theorem d_M_gone_20 : decode b_M_gone 20 = .ok (.iconst 0, 1) := by decide +kernel
theorem d_M_gone_21 : decode b_M_gone 21 = .ok (.ireturn, 1) := by decide +kernel
theorem d_M_gone_22 : decode b_M_gone 22 = .ok (.aload_n 0, 1) := by decide +kernel
theorem d_M_gone_23 : decode b_M_gone 23 = .ok (.dup, 1) := by decide +kernel
theorem d_M_gone_24 : decode b_M_gone 24 = .ok (.getfield 49, 3) := by decide +kernel
theorem d_M_gone_27 : decode b_M_gone 27 = .ok (.iconst 1, 1) := by decide +kernel
theorem d_M_gone_28 : decode b_M_gone 28 = .ok (.isub, 1) := by decide +kernel
theorem d_M_gone_29 : decode b_M_gone 29 = .ok (.putfield 49, 3) := by decide +kernel
theorem d_M_gone_32 : decode b_M_gone 32 = .ok (.iconst 0, 1) := by decide +kernel
theorem d_M_gone_33 : decode b_M_gone 33 = .ok (.istore 5, 2) := by decide +kernel
theorem d_M_gone_35 : decode b_M_gone 35 = .ok (.iload 5, 2) := by decide +kernel
theorem d_M_gone_37 : decode b_M_gone 37 = .ok (.iconst 3, 1) := by decide +kernel
theorem d_M_gone_38 : decode b_M_gone 38 = .ok (.if_icmp .ge 35, 3) := by decide +kernel
theorem d_M_gone_41 : decode b_M_gone 41 = .ok (.aload_n 0, 1) := by decide +kernel
theorem d_M_gone_42 : decode b_M_gone 42 = .ok (.getfield 7, 3) := by decide +kernel
theorem d_M_gone_45 : decode b_M_gone 45 = .ok (.iconst 3, 1) := by decide +kernel
theorem d_M_gone_46 : decode b_M_gone 46 = .ok (.iload 4, 2) := by decide +kernel
theorem d_M_gone_48 : decode b_M_gone 48 = .ok (.imul, 1) := by decide +kernel
theorem d_M_gone_49 : decode b_M_gone 49 = .ok (.iload 5, 2) := by decide +kernel
theorem d_M_gone_51 : decode b_M_gone 51 = .ok (.iadd, 1) := by decide +kernel
theorem d_M_gone_52 : decode b_M_gone 52 = .ok (.aload_n 0, 1) := by decide +kernel
theorem d_M_gone_53 : decode b_M_gone 53 = .ok (.getfield 7, 3) := by decide +kernel
theorem d_M_gone_56 : decode b_M_gone 56 = .ok (.iconst 3, 1) := by decide +kernel
theorem d_M_gone_57 : decode b_M_gone 57 = .ok (.aload_n 0, 1) := by decide +kernel
theorem d_M_gone_58 : decode b_M_gone 58 = .ok (.getfield 49, 3) := by decide +kernel
theorem d_M_gone_61 : decode b_M_gone 61 = .ok (.imul, 1) := by decide +kernel
theorem d_M_gone_62 : decode b_M_gone 62 = .ok (.iload 5, 2) := by decide +kernel
theorem d_M_gone_64 : decode b_M_gone 64 = .ok (.iadd, 1) := by decide +kernel
theorem d_M_gone_65 : decode b_M_gone 65 = .ok (.iaload, 1) := by decide +kernel
theorem d_M_gone_66 : decode b_M_gone 66 = .ok (.iastore, 1) := by decide +kernel
theorem d_M_gone_67 : decode b_M_gone 67 = .ok (.iinc 5 1, 3) := by decide +kernel
theorem d_M_gone_70 : decode b_M_gone 70 = .ok (.goto (-35), 3) := by decide +kernel
theorem d_M_gone_73 : decode b_M_gone 73 = .ok (.iconst 1, 1) := by decide +kernel
theorem d_M_gone_74 : decode b_M_gone 74 = .ok (.ireturn, 1) := by decide +kernel
theorem d_M_narrower_0 : decode b_M_narrower 0 = .ok (.aload_n 0, 1) := by decide +kernel
theorem d_M_narrower_1 : decode b_M_narrower 1 = .ok (.iconst 0, 1) := by decide +kernel
theorem d_M_narrower_2 : decode b_M_narrower 2 = .ok (.putfield 38, 3) := by decide +kernel
theorem d_M_narrower_5 : decode b_M_narrower 5 = .ok (.iload_n 1, 1) := by decide +kernel
theorem d_M_narrower_6 : decode b_M_narrower 6 = .ok (.iload_n 2, 1) := by decide +kernel
theorem d_M_narrower_7 : decode b_M_narrower 7 = .ok (.invokestatic 55, 3) := by decide +kernel
theorem d_M_narrower_10 : decode b_M_narrower 10 = .ok (.ifCond .eq 26, 3) := by decide +kernel
theorem d_M_narrower_13 : decode b_M_narrower 13 = .ok (.iload_n 3, 1) := by decide +kernel
theorem d_M_narrower_14 : decode b_M_narrower 14 = .ok (.iconst (-1), 1) := by decide +kernel
theorem d_M_narrower_15 : decode b_M_narrower 15 = .ok (.if_icmp .eq 23, 3) := by decide +kernel
theorem d_M_narrower_18 : decode b_M_narrower 18 = .ok (.iload_n 1, 1) := by decide +kernel
theorem d_M_narrower_19 : decode b_M_narrower 19 = .ok (.iload_n 3, 1) := by decide +kernel
theorem d_M_narrower_20 : decode b_M_narrower 20 = .ok (.invokestatic 55, 3) := by decide +kernel
theorem d_M_narrower_23 : decode b_M_narrower 23 = .ok (.ifCond .eq 13, 3) := by decide +kernel
theorem d_M_narrower_26 : decode b_M_narrower 26 = .ok (.aload_n 0, 1) := by decide +kernel
theorem d_M_narrower_27 : decode b_M_narrower 27 = .ok (.iload_n 1, 1) := by decide +kernel
theorem d_M_narrower_28 : decode b_M_narrower 28 = .ok (.iload_n 3, 1) := by decide +kernel
theorem d_M_narrower_29 : decode b_M_narrower 29 = .ok (.iload_n 2, 1) := by decide +kernel
theorem d_M_narrower_30 : decode b_M_narrower 30 = .ok (.invokevirtual 63, 3) := by decide +kernel
theorem d_M_narrower_33 : decode b_M_narrower 33 = .ok (.ifCond .eq 5, 3) := by decide +kernel
theorem d_M_narrower_36 : decode b_M_narrower 36 = .ok (.iconst 0, 1) := by decide +kernel
theorem d_M_narrower_37 : decode b_M_narrower 37 = .ok (.ireturn, 1) := by decide +kernel
theorem d_M_narrower_38 : decode b_M_narrower 38 = .ok (.aload_n 0, 1) := by decide +kernel
theorem d_M_narrower_39 : decode b_M_narrower 39 = .ok (.getfield 13, 3) := by decide +kernel
theorem d_M_narrower_42 : decode b_M_narrower 42 = .ok (.bipush 100, 2) := by decide +kernel
theorem d_M_narrower_44 : decode b_M_narrower 44 = .ok (.iload_n 1, 1) := by decide +kernel
theorem d_M_narrower_45 : decode b_M_narrower 45 = .ok (.imul, 1) := by decide +kernel
theorem d_M_narrower_46 : decode b_M_narrower 46 = .ok (.iload_n 2, 1) := by decide +kernel
theorem d_M_narrower_47 : decode b_M_narrower 47 = .ok (.iadd, 1) := by decide +kernel
theorem d_M_narrower_48 : decode b_M_narrower 48 = .ok (.iload_n 3, 1) := by decide +kernel
theorem d_M_narrower_49 : decode b_M_narrower 49 = .ok (.iastore, 1) := by decide +kernel
theorem d_M_narrower_50 : decode b_M_narrower 50 = .ok (.iconst 1, 1) := by decide +kernel
theorem d_M_narrower_51 : decode b_M_narrower 51 = .ok (.ireturn, 1) := by decide +kernel
theorem d_M_lies_0 : decode b_M_lies 0 = .ok (.iload_n 2, 1) := by decide +kernel
theorem d_M_lies_1 : decode b_M_lies 1 = .ok (.istore 4, 2) := by decide +kernel
theorem d_M_lies_3 : decode b_M_lies 3 = .ok (.iload 4, 2) := by decide +kernel
theorem d_M_lies_5 : decode b_M_lies 5 = .ok (.iconst (-1), 1) := by decide +kernel
theorem d_M_lies_6 : decode b_M_lies 6 = .ok (.if_icmp .eq 26, 3) := by decide +kernel
theorem d_M_lies_9 : decode b_M_lies 9 = .ok (.iload 4, 2) := by decide +kernel
theorem d_M_lies_11 : decode b_M_lies 11 = .ok (.iload_n 3, 1) := by decide +kernel
theorem d_M_lies_12 : decode b_M_lies 12 = .ok (.if_icmp .eq 20, 3) := by decide +kernel
theorem d_M_lies_15 : decode b_M_lies 15 = .ok (.aload_n 0, 1) := by decide +kernel
theorem d_M_lies_16 : decode b_M_lies 16 = .ok (.getfield 13, 3) := by decide +kernel
theorem d_M_lies_19 : decode b_M_lies 19 = .ok (.bipush 100, 2) := by decide +kernel
theorem d_M_lies_21 : decode b_M_lies 21 = .ok (.iload_n 1, 1) := by decide +kernel
theorem d_M_lies_22 : decode b_M_lies 22 = .ok (.imul, 1) := by decide +kernel
theorem d_M_lies_23 : decode b_M_lies 23 = .ok (.iload 4, 2) := by decide +kernel
theorem d_M_lies_25 : decode b_M_lies 25 = .ok (.iadd, 1) := by decide +kernel
theorem d_M_lies_26 : decode b_M_lies 26 = .ok (.iaload, 1) := by decide +kernel
theorem d_M_lies_27 : decode b_M_lies 27 = .ok (.istore 4, 2) := by decide +kernel
theorem d_M_lies_29 : decode b_M_lies 29 = .ok (.goto (-26), 3) := by decide +kernel
theorem d_M_lies_32 : decode b_M_lies 32 = .ok (.iload 4, 2) := by decide +kernel
theorem d_M_lies_34 : decode b_M_lies 34 = .ok (.iload_n 3, 1) := by decide +kernel
theorem d_M_lies_35 : decode b_M_lies 35 = .ok (.if_icmp .ne 7, 3) := by decide +kernel
theorem d_M_lies_38 : decode b_M_lies 38 = .ok (.iconst 1, 1) := by decide +kernel
theorem d_M_lies_39 : decode b_M_lies 39 = .ok (.goto 4, 3) := by decide +kernel
theorem d_M_lies_42 : decode b_M_lies 42 = .ok (.iconst 0, 1) := by decide +kernel
theorem d_M_lies_43 : decode b_M_lies 43 = .ok (.ireturn, 1) := by decide +kernel
theorem d_M_hit_0 : decode b_M_hit 0 = .ok (.aload_n 0, 1) := by decide +kernel
theorem d_M_hit_1 : decode b_M_hit 1 = .ok (.iconst 0, 1) := by decide +kernel
theorem d_M_hit_2 : decode b_M_hit 2 = .ok (.putfield 38, 3) := by decide +kernel
theorem d_M_hit_5 : decode b_M_hit 5 = .ok (.aload_n 0, 1) := by decide +kernel
theorem d_M_hit_6 : decode b_M_hit 6 = .ok (.iload_n 1, 1) := by decide +kernel
theorem d_M_hit_7 : decode b_M_hit 7 = .ok (.invokevirtual 52, 3) := by decide +kernel
theorem d_M_hit_10 : decode b_M_hit 10 = .ok (.ifCond .ne 5, 3) := by decide +kernel
theorem d_M_hit_13 : decode b_M_hit 13 = .ok (.iconst (-1), 1) := by decide +kernel
theorem d_M_hit_14 : decode b_M_hit 14 = .ok (.ireturn, 1) := by decide +kernel
theorem d_M_hit_15 : decode b_M_hit 15 = .ok (.aload_n 0, 1) := by decide +kernel
theorem d_M_hit_16 : decode b_M_hit 16 = .ok (.getfield 16, 3) := by decide +kernel
theorem d_M_hit_19 : decode b_M_hit 19 = .ok (.iload_n 1, 1) := by decide +kernel
theorem d_M_hit_20 : decode b_M_hit 20 = .ok (.iload_n 2, 1) := by decide +kernel
theorem d_M_hit_21 : decode b_M_hit 21 = .ok (.bastore, 1) := by decide +kernel
theorem d_M_hit_22 : decode b_M_hit 22 = .ok (.iconst 0, 1) := by decide +kernel
theorem d_M_hit_23 : decode b_M_hit 23 = .ok (.istore_n 3, 1) := by decide +kernel
theorem d_M_hit_24 : decode b_M_hit 24 = .ok (.iconst 1, 1) := by decide +kernel
theorem d_M_hit_25 : decode b_M_hit 25 = .ok (.istore 4, 2) := by decide +kernel
theorem d_M_hit_27 : decode b_M_hit 27 = .ok (.iload 4, 2) := by decide +kernel
theorem d_M_hit_29 : decode b_M_hit 29 = .ok (.aload_n 0, 1) := by decide +kernel
theorem d_M_hit_30 : decode b_M_hit 30 = .ok (.getfield 42, 3) := by decide +kernel
theorem d_M_hit_33 : decode b_M_hit 33 = .ok (.if_icmp .gt 27, 3) := by decide +kernel
theorem d_M_hit_36 : decode b_M_hit 36 = .ok (.iload_n 3, 1) := by decide +kernel
theorem d_M_hit_37 : decode b_M_hit 37 = .ok (.aload_n 0, 1) := by decide +kernel
theorem d_M_hit_38 : decode b_M_hit 38 = .ok (.getfield 16, 3) := by decide +kernel
theorem d_M_hit_41 : decode b_M_hit 41 = .ok (.iload 4, 2) := by decide +kernel
theorem d_M_hit_43 : decode b_M_hit 43 = .ok (.baload, 1) := by decide +kernel
theorem d_M_hit_44 : decode b_M_hit 44 = .ok (.ifCond .eq 7, 3) := by decide +kernel
theorem d_M_hit_47 : decode b_M_hit 47 = .ok (.iconst 1, 1) := by decide +kernel
theorem d_M_hit_48 : decode b_M_hit 48 = .ok (.goto 4, 3) := by decide +kernel
theorem d_M_hit_51 : decode b_M_hit 51 = .ok (.iconst 0, 1) := by decide +kernel
theorem d_M_hit_52 : decode b_M_hit 52 = .ok (.iadd, 1) := by decide +kernel
theorem d_M_hit_53 : decode b_M_hit 53 = .ok (.istore_n 3, 1) := by decide +kernel
theorem d_M_hit_54 : decode b_M_hit 54 = .ok (.iinc 4 1, 3) := by decide +kernel
theorem d_M_hit_57 : decode b_M_hit 57 = .ok (.goto (-30), 3) := by decide +kernel
theorem d_M_hit_60 : decode b_M_hit 60 = .ok (.iload_n 3, 1) := by decide +kernel
theorem d_M_hit_61 : decode b_M_hit 61 = .ok (.ireturn, 1) := by decide +kernel
theorem d_M_choose_0 : decode b_M_choose 0 = .ok (.aload_n 0, 1) := by decide +kernel
theorem d_M_choose_1 : decode b_M_choose 1 = .ok (.iconst 0, 1) := by decide +kernel
theorem d_M_choose_2 : decode b_M_choose 2 = .ok (.putfield 38, 3) := by decide +kernel
theorem d_M_choose_5 : decode b_M_choose 5 = .ok (.iload_n 1, 1) := by decide +kernel
theorem d_M_choose_6 : decode b_M_choose 6 = .ok (.iload_n 2, 1) := by decide +kernel
theorem d_M_choose_7 : decode b_M_choose 7 = .ok (.invokestatic 55, 3) := by decide +kernel
theorem d_M_choose_10 : decode b_M_choose 10 = .ok (.ifCond .ne 5, 3) := by decide +kernel
theorem d_M_choose_13 : decode b_M_choose 13 = .ok (.iconst (-1), 1) := by decide +kernel
theorem d_M_choose_14 : decode b_M_choose 14 = .ok (.ireturn, 1) := by decide +kernel
theorem d_M_choose_15 : decode b_M_choose 15 = .ok (.aload_n 0, 1) := by decide +kernel
theorem d_M_choose_16 : decode b_M_choose 16 = .ok (.getfield 20, 3) := by decide +kernel
theorem d_M_choose_19 : decode b_M_choose 19 = .ok (.bipush 100, 2) := by decide +kernel
theorem d_M_choose_21 : decode b_M_choose 21 = .ok (.iload_n 1, 1) := by decide +kernel
theorem d_M_choose_22 : decode b_M_choose 22 = .ok (.imul, 1) := by decide +kernel
theorem d_M_choose_23 : decode b_M_choose 23 = .ok (.iload_n 2, 1) := by decide +kernel
theorem d_M_choose_24 : decode b_M_choose 24 = .ok (.iadd, 1) := by decide +kernel
theorem d_M_choose_25 : decode b_M_choose 25 = .ok (.aload_n 0, 1) := by decide +kernel
theorem d_M_choose_26 : decode b_M_choose 26 = .ok (.getfield 20, 3) := by decide +kernel
theorem d_M_choose_29 : decode b_M_choose 29 = .ok (.bipush 100, 2) := by decide +kernel
theorem d_M_choose_31 : decode b_M_choose 31 = .ok (.iload_n 1, 1) := by decide +kernel
theorem d_M_choose_32 : decode b_M_choose 32 = .ok (.imul, 1) := by decide +kernel
theorem d_M_choose_33 : decode b_M_choose 33 = .ok (.iload_n 2, 1) := by decide +kernel
theorem d_M_choose_34 : decode b_M_choose 34 = .ok (.iadd, 1) := by decide +kernel
theorem d_M_choose_35 : decode b_M_choose 35 = .ok (.baload, 1) := by decide +kernel
theorem d_M_choose_36 : decode b_M_choose 36 = .ok (.ifCond .ne 7, 3) := by decide +kernel
theorem d_M_choose_39 : decode b_M_choose 39 = .ok (.iconst 1, 1) := by decide +kernel
theorem d_M_choose_40 : decode b_M_choose 40 = .ok (.goto 4, 3) := by decide +kernel
theorem d_M_choose_43 : decode b_M_choose 43 = .ok (.iconst 0, 1) := by decide +kernel
theorem d_M_choose_44 : decode b_M_choose 44 = .ok (.bastore, 1) := by decide +kernel
theorem d_M_choose_45 : decode b_M_choose 45 = .ok (.aload_n 0, 1) := by decide +kernel
theorem d_M_choose_46 : decode b_M_choose 46 = .ok (.invokevirtual 70, 3) := by decide +kernel
theorem d_M_choose_49 : decode b_M_choose 49 = .ok (.aload_n 0, 1) := by decide +kernel
theorem d_M_choose_50 : decode b_M_choose 50 = .ok (.getfield 67, 3) := by decide +kernel
theorem d_M_choose_53 : decode b_M_choose 53 = .ok (.ireturn, 1) := by decide +kernel
theorem d_M_sort_0 : decode b_M_sort 0 = .ok (.iconst 0, 1) := by decide +kernel
theorem d_M_sort_1 : decode b_M_sort 1 = .ok (.istore_n 1, 1) := by decide +kernel
theorem d_M_sort_2 : decode b_M_sort 2 = .ok (.iload_n 1, 1) := by decide +kernel
theorem d_M_sort_3 : decode b_M_sort 3 = .ok (.bipush 6, 2) := by decide +kernel
theorem d_M_sort_5 : decode b_M_sort 5 = .ok (.if_icmp .ge 64, 3) := by decide +kernel
theorem d_M_sort_8 : decode b_M_sort 8 = .ok (.aload_n 0, 1) := by decide +kernel
theorem d_M_sort_9 : decode b_M_sort 9 = .ok (.getfield 29, 3) := by decide +kernel
theorem d_M_sort_12 : decode b_M_sort 12 = .ok (.iload_n 1, 1) := by decide +kernel
theorem d_M_sort_13 : decode b_M_sort 13 = .ok (.iconst 0, 1) := by decide +kernel
theorem d_M_sort_14 : decode b_M_sort 14 = .ok (.bastore, 1) := by decide +kernel
theorem d_M_sort_15 : decode b_M_sort 15 = .ok (.iconst 0, 1) := by decide +kernel
theorem d_M_sort_16 : decode b_M_sort 16 = .ok (.istore_n 2, 1) := by decide +kernel
theorem d_M_sort_17 : decode b_M_sort 17 = .ok (.iload_n 2, 1) := by decide +kernel
theorem d_M_sort_18 : decode b_M_sort 18 = .ok (.bipush 100, 2) := by decide +kernel
theorem d_M_sort_20 : decode b_M_sort 20 = .ok (.if_icmp .ge 43, 3) := by decide +kernel
theorem d_M_sort_23 : decode b_M_sort 23 = .ok (.aload_n 0, 1) := by decide +kernel
theorem d_M_sort_24 : decode b_M_sort 24 = .ok (.getfield 29, 3) := by decide +kernel
theorem d_M_sort_27 : decode b_M_sort 27 = .ok (.iload_n 1, 1) := by decide +kernel
theorem d_M_sort_28 : decode b_M_sort 28 = .ok (.aload_n 0, 1) := by decide +kernel
theorem d_M_sort_29 : decode b_M_sort 29 = .ok (.getfield 29, 3) := by decide +kernel
theorem d_M_sort_32 : decode b_M_sort 32 = .ok (.iload_n 1, 1) := by decide +kernel
theorem d_M_sort_33 : decode b_M_sort 33 = .ok (.baload, 1) := by decide +kernel
theorem d_M_sort_34 : decode b_M_sort 34 = .ok (.ifCond .ne 17, 3) := by decide +kernel
theorem d_M_sort_37 : decode b_M_sort 37 = .ok (.aload_n 0, 1) := by decide +kernel
theorem d_M_sort_38 : decode b_M_sort 38 = .ok (.getfield 20, 3) := by decide +kernel
theorem d_M_sort_41 : decode b_M_sort 41 = .ok (.bipush 100, 2) := by decide +kernel
theorem d_M_sort_43 : decode b_M_sort 43 = .ok (.iload_n 1, 1) := by decide +kernel
theorem d_M_sort_44 : decode b_M_sort 44 = .ok (.imul, 1) := by decide +kernel
theorem d_M_sort_45 : decode b_M_sort 45 = .ok (.iload_n 2, 1) := by decide +kernel
theorem d_M_sort_46 : decode b_M_sort 46 = .ok (.iadd, 1) := by decide +kernel
theorem d_M_sort_47 : decode b_M_sort 47 = .ok (.baload, 1) := by decide +kernel
theorem d_M_sort_48 : decode b_M_sort 48 = .ok (.ifCond .eq 7, 3) := by decide +kernel
theorem d_M_sort_51 : decode b_M_sort 51 = .ok (.iconst 1, 1) := by decide +kernel
theorem d_M_sort_52 : decode b_M_sort 52 = .ok (.goto 4, 3) := by decide +kernel
theorem d_M_sort_55 : decode b_M_sort 55 = .ok (.iconst 0, 1) := by decide +kernel
theorem d_M_sort_56 : decode b_M_sort 56 = .ok (.bastore, 1) := by decide +kernel
theorem d_M_sort_57 : decode b_M_sort 57 = .ok (.iinc 2 1, 3) := by decide +kernel
theorem d_M_sort_60 : decode b_M_sort 60 = .ok (.goto (-43), 3) := by decide +kernel
theorem d_M_sort_63 : decode b_M_sort 63 = .ok (.iinc 1 1, 3) := by decide +kernel
theorem d_M_sort_66 : decode b_M_sort 66 = .ok (.goto (-64), 3) := by decide +kernel
theorem d_M_sort_69 : decode b_M_sort 69 = .ok (.iconst 0, 1) := by decide +kernel
theorem d_M_sort_70 : decode b_M_sort 70 = .ok (.istore_n 1, 1) := by decide +kernel
theorem d_M_sort_71 : decode b_M_sort 71 = .ok (.iload_n 1, 1) := by decide +kernel
theorem d_M_sort_72 : decode b_M_sort 72 = .ok (.sipush 366, 3) := by decide +kernel
theorem d_M_sort_75 : decode b_M_sort 75 = .ok (.if_icmp .ge 16, 3) := by decide +kernel
theorem d_M_sort_78 : decode b_M_sort 78 = .ok (.aload_n 0, 1) := by decide +kernel
theorem d_M_sort_79 : decode b_M_sort 79 = .ok (.getfield 32, 3) := by decide +kernel
theorem d_M_sort_82 : decode b_M_sort 82 = .ok (.iload_n 1, 1) := by decide +kernel
theorem d_M_sort_83 : decode b_M_sort 83 = .ok (.iconst 0, 1) := by decide +kernel
theorem d_M_sort_84 : decode b_M_sort 84 = .ok (.bastore, 1) := by decide +kernel
theorem d_M_sort_85 : decode b_M_sort 85 = .ok (.iinc 1 1, 3) := by decide +kernel
theorem d_M_sort_88 : decode b_M_sort 88 = .ok (.goto (-17), 3) := by decide +kernel
theorem d_M_sort_91 : decode b_M_sort 91 = .ok (.iconst 0, 1) := by decide +kernel
theorem d_M_sort_92 : decode b_M_sort 92 = .ok (.istore_n 1, 1) := by decide +kernel
theorem d_M_sort_93 : decode b_M_sort 93 = .ok (.iload_n 1, 1) := by decide +kernel
theorem d_M_sort_94 : decode b_M_sort 94 = .ok (.aload_n 0, 1) := by decide +kernel
theorem d_M_sort_95 : decode b_M_sort 95 = .ok (.getfield 49, 3) := by decide +kernel
theorem d_M_sort_98 : decode b_M_sort 98 = .ok (.if_icmp .ge 109, 3) := by decide +kernel
theorem d_M_sort_101 : decode b_M_sort 101 = .ok (.aload_n 0, 1) := by decide +kernel
theorem d_M_sort_102 : decode b_M_sort 102 = .ok (.getfield 7, 3) := by decide +kernel
theorem d_M_sort_105 : decode b_M_sort 105 = .ok (.iconst 3, 1) := by decide +kernel
theorem d_M_sort_106 : decode b_M_sort 106 = .ok (.iload_n 1, 1) := by decide +kernel
theorem d_M_sort_107 : decode b_M_sort 107 = .ok (.imul, 1) := by decide +kernel
theorem d_M_sort_108 : decode b_M_sort 108 = .ok (.iconst 1, 1) := by decide +kernel
theorem d_M_sort_109 : decode b_M_sort 109 = .ok (.iadd, 1) := by decide +kernel
theorem d_M_sort_110 : decode b_M_sort 110 = .ok (.iaload, 1) := by decide +kernel
theorem d_M_sort_111 : decode b_M_sort 111 = .ok (.istore_n 2, 1) := by decide +kernel
theorem d_M_sort_112 : decode b_M_sort 112 = .ok (.aload_n 0, 1) := by decide +kernel
theorem d_M_sort_113 : decode b_M_sort 113 = .ok (.getfield 7, 3) := by decide +kernel
theorem d_M_sort_116 : decode b_M_sort 116 = .ok (.iconst 3, 1) := by decide +kernel
theorem d_M_sort_117 : decode b_M_sort 117 = .ok (.iload_n 1, 1) := by decide +kernel
theorem d_M_sort_118 : decode b_M_sort 118 = .ok (.imul, 1) := by decide +kernel
theorem d_M_sort_119 : decode b_M_sort 119 = .ok (.iconst 2, 1) := by decide +kernel
theorem d_M_sort_120 : decode b_M_sort 120 = .ok (.iadd, 1) := by decide +kernel
theorem d_M_sort_121 : decode b_M_sort 121 = .ok (.iaload, 1) := by decide +kernel
theorem d_M_sort_122 : decode b_M_sort 122 = .ok (.istore_n 3, 1) := by decide +kernel
theorem d_M_sort_123 : decode b_M_sort 123 = .ok (.iload_n 3, 1) := by decide +kernel
theorem d_M_sort_124 : decode b_M_sort 124 = .ok (.iconst (-1), 1) := by decide +kernel
theorem d_M_sort_125 : decode b_M_sort 125 = .ok (.if_icmp .eq 76, 3) := by decide +kernel
theorem d_M_sort_128 : decode b_M_sort 128 = .ok (.aload_n 0, 1) := by decide +kernel
theorem d_M_sort_129 : decode b_M_sort 129 = .ok (.getfield 32, 3) := by decide +kernel
theorem d_M_sort_132 : decode b_M_sort 132 = .ok (.bipush 6, 2) := by decide +kernel
theorem d_M_sort_134 : decode b_M_sort 134 = .ok (.aload_n 0, 1) := by decide +kernel
theorem d_M_sort_135 : decode b_M_sort 135 = .ok (.getfield 7, 3) := by decide +kernel
theorem d_M_sort_138 : decode b_M_sort 138 = .ok (.iconst 3, 1) := by decide +kernel
theorem d_M_sort_139 : decode b_M_sort 139 = .ok (.iload_n 1, 1) := by decide +kernel
theorem d_M_sort_140 : decode b_M_sort 140 = .ok (.imul, 1) := by decide +kernel
theorem d_M_sort_141 : decode b_M_sort 141 = .ok (.iaload, 1) := by decide +kernel
theorem d_M_sort_142 : decode b_M_sort 142 = .ok (.imul, 1) := by decide +kernel
theorem d_M_sort_143 : decode b_M_sort 143 = .ok (.iload_n 2, 1) := by decide +kernel
theorem d_M_sort_144 : decode b_M_sort 144 = .ok (.iadd, 1) := by decide +kernel
theorem d_M_sort_145 : decode b_M_sort 145 = .ok (.aload_n 0, 1) := by decide +kernel
theorem d_M_sort_146 : decode b_M_sort 146 = .ok (.getfield 32, 3) := by decide +kernel
theorem d_M_sort_149 : decode b_M_sort 149 = .ok (.bipush 6, 2) := by decide +kernel
theorem d_M_sort_151 : decode b_M_sort 151 = .ok (.aload_n 0, 1) := by decide +kernel
theorem d_M_sort_152 : decode b_M_sort 152 = .ok (.getfield 7, 3) := by decide +kernel
theorem d_M_sort_155 : decode b_M_sort 155 = .ok (.iconst 3, 1) := by decide +kernel
theorem d_M_sort_156 : decode b_M_sort 156 = .ok (.iload_n 1, 1) := by decide +kernel
theorem d_M_sort_157 : decode b_M_sort 157 = .ok (.imul, 1) := by decide +kernel
theorem d_M_sort_158 : decode b_M_sort 158 = .ok (.iaload, 1) := by decide +kernel
theorem d_M_sort_159 : decode b_M_sort 159 = .ok (.imul, 1) := by decide +kernel
theorem d_M_sort_160 : decode b_M_sort 160 = .ok (.iload_n 2, 1) := by decide +kernel
theorem d_M_sort_161 : decode b_M_sort 161 = .ok (.iadd, 1) := by decide +kernel
theorem d_M_sort_162 : decode b_M_sort 162 = .ok (.baload, 1) := by decide +kernel
theorem d_M_sort_163 : decode b_M_sort 163 = .ok (.ifCond .ne 17, 3) := by decide +kernel
theorem d_M_sort_166 : decode b_M_sort 166 = .ok (.aload_n 0, 1) := by decide +kernel
theorem d_M_sort_167 : decode b_M_sort 167 = .ok (.getfield 20, 3) := by decide +kernel
theorem d_M_sort_170 : decode b_M_sort 170 = .ok (.bipush 100, 2) := by decide +kernel
theorem d_M_sort_172 : decode b_M_sort 172 = .ok (.iload_n 2, 1) := by decide +kernel
theorem d_M_sort_173 : decode b_M_sort 173 = .ok (.imul, 1) := by decide +kernel
theorem d_M_sort_174 : decode b_M_sort 174 = .ok (.iload_n 3, 1) := by decide +kernel
theorem d_M_sort_175 : decode b_M_sort 175 = .ok (.iadd, 1) := by decide +kernel
theorem d_M_sort_176 : decode b_M_sort 176 = .ok (.baload, 1) := by decide +kernel
theorem d_M_sort_177 : decode b_M_sort 177 = .ok (.ifCond .eq 7, 3) := by decide +kernel
theorem d_M_sort_180 : decode b_M_sort 180 = .ok (.iconst 1, 1) := by decide +kernel
theorem d_M_sort_181 : decode b_M_sort 181 = .ok (.goto 4, 3) := by decide +kernel
theorem d_M_sort_184 : decode b_M_sort 184 = .ok (.iconst 0, 1) := by decide +kernel
theorem d_M_sort_185 : decode b_M_sort 185 = .ok (.bastore, 1) := by decide +kernel
theorem d_M_sort_186 : decode b_M_sort 186 = .ok (.aload_n 0, 1) := by decide +kernel
theorem d_M_sort_187 : decode b_M_sort 187 = .ok (.getfield 13, 3) := by decide +kernel
theorem d_M_sort_190 : decode b_M_sort 190 = .ok (.bipush 100, 2) := by decide +kernel
theorem d_M_sort_192 : decode b_M_sort 192 = .ok (.iload_n 2, 1) := by decide +kernel
theorem d_M_sort_193 : decode b_M_sort 193 = .ok (.imul, 1) := by decide +kernel
theorem d_M_sort_194 : decode b_M_sort 194 = .ok (.iload_n 3, 1) := by decide +kernel
theorem d_M_sort_195 : decode b_M_sort 195 = .ok (.iadd, 1) := by decide +kernel
theorem d_M_sort_196 : decode b_M_sort 196 = .ok (.iaload, 1) := by decide +kernel
theorem d_M_sort_197 : decode b_M_sort 197 = .ok (.istore_n 3, 1) := by decide +kernel
theorem d_M_sort_198 : decode b_M_sort 198 = .ok (.goto (-75), 3) := by decide +kernel
theorem d_M_sort_201 : decode b_M_sort 201 = .ok (.iinc 1 1, 3) := by decide +kernel
theorem d_M_sort_204 : decode b_M_sort 204 = .ok (.goto (-111), 3) := by decide +kernel
theorem d_M_sort_207 : decode b_M_sort 207 = .ok (.aload_n 0, 1) := by decide +kernel
theorem d_M_sort_208 : decode b_M_sort 208 = .ok (.iconst 0, 1) := by decide +kernel
theorem d_M_sort_209 : decode b_M_sort 209 = .ok (.putfield 67, 3) := by decide +kernel
theorem d_M_sort_212 : decode b_M_sort 212 = .ok (.iconst 1, 1) := by decide +kernel
theorem d_M_sort_213 : decode b_M_sort 213 = .ok (.istore_n 1, 1) := by decide +kernel
theorem d_M_sort_214 : decode b_M_sort 214 = .ok (.iload_n 1, 1) := by decide +kernel
theorem d_M_sort_215 : decode b_M_sort 215 = .ok (.aload_n 0, 1) := by decide +kernel
theorem d_M_sort_216 : decode b_M_sort 216 = .ok (.getfield 42, 3) := by decide +kernel
theorem d_M_sort_219 : decode b_M_sort 219 = .ok (.if_icmp .gt 101, 3) := by decide +kernel
theorem d_M_sort_222 : decode b_M_sort 222 = .ok (.aload_n 0, 1) := by decide +kernel
theorem d_M_sort_223 : decode b_M_sort 223 = .ok (.getfield 35, 3) := by decide +kernel
theorem d_M_sort_226 : decode b_M_sort 226 = .ok (.iload_n 1, 1) := by decide +kernel
theorem d_M_sort_227 : decode b_M_sort 227 = .ok (.aload_n 0, 1) := by decide +kernel
theorem d_M_sort_228 : decode b_M_sort 228 = .ok (.getfield 16, 3) := by decide +kernel
theorem d_M_sort_231 : decode b_M_sort 231 = .ok (.iload_n 1, 1) := by decide +kernel
theorem d_M_sort_232 : decode b_M_sort 232 = .ok (.baload, 1) := by decide +kernel
theorem d_M_sort_233 : decode b_M_sort 233 = .ok (.bastore, 1) := by decide +kernel
theorem d_M_sort_234 : decode b_M_sort 234 = .ok (.iconst 0, 1) := by decide +kernel
theorem d_M_sort_235 : decode b_M_sort 235 = .ok (.istore_n 2, 1) := by decide +kernel
theorem d_M_sort_236 : decode b_M_sort 236 = .ok (.iload_n 2, 1) := by decide +kernel
theorem d_M_sort_237 : decode b_M_sort 237 = .ok (.bipush 6, 2) := by decide +kernel
theorem d_M_sort_239 : decode b_M_sort 239 = .ok (.if_icmp .ge 52, 3) := by decide +kernel
theorem d_M_sort_242 : decode b_M_sort 242 = .ok (.aload_n 0, 1) := by decide +kernel
theorem d_M_sort_243 : decode b_M_sort 243 = .ok (.getfield 35, 3) := by decide +kernel
theorem d_M_sort_246 : decode b_M_sort 246 = .ok (.iload_n 1, 1) := by decide +kernel
theorem d_M_sort_247 : decode b_M_sort 247 = .ok (.aload_n 0, 1) := by decide +kernel
theorem d_M_sort_248 : decode b_M_sort 248 = .ok (.getfield 35, 3) := by decide +kernel
theorem d_M_sort_251 : decode b_M_sort 251 = .ok (.iload_n 1, 1) := by decide +kernel
theorem d_M_sort_252 : decode b_M_sort 252 = .ok (.baload, 1) := by decide +kernel
theorem d_M_sort_253 : decode b_M_sort 253 = .ok (.ifCond .eq 30, 3) := by decide +kernel
theorem d_M_sort_256 : decode b_M_sort 256 = .ok (.aload_n 0, 1) := by decide +kernel
theorem d_M_sort_257 : decode b_M_sort 257 = .ok (.getfield 29, 3) := by decide +kernel
theorem d_M_sort_260 : decode b_M_sort 260 = .ok (.iload_n 2, 1) := by decide +kernel
theorem d_M_sort_261 : decode b_M_sort 261 = .ok (.baload, 1) := by decide +kernel
theorem d_M_sort_262 : decode b_M_sort 262 = .ok (.ifCond .eq 17, 3) := by decide +kernel
theorem d_M_sort_265 : decode b_M_sort 265 = .ok (.aload_n 0, 1) := by decide +kernel
theorem d_M_sort_266 : decode b_M_sort 266 = .ok (.getfield 32, 3) := by decide +kernel
theorem d_M_sort_269 : decode b_M_sort 269 = .ok (.bipush 6, 2) := by decide +kernel
theorem d_M_sort_271 : decode b_M_sort 271 = .ok (.iload_n 1, 1) := by decide +kernel
theorem d_M_sort_272 : decode b_M_sort 272 = .ok (.imul, 1) := by decide +kernel
theorem d_M_sort_273 : decode b_M_sort 273 = .ok (.iload_n 2, 1) := by decide +kernel
theorem d_M_sort_274 : decode b_M_sort 274 = .ok (.iadd, 1) := by decide +kernel
theorem d_M_sort_275 : decode b_M_sort 275 = .ok (.baload, 1) := by decide +kernel
theorem d_M_sort_276 : decode b_M_sort 276 = .ok (.ifCond .eq 7, 3) := by decide +kernel
theorem d_M_sort_279 : decode b_M_sort 279 = .ok (.iconst 1, 1) := by decide +kernel
theorem d_M_sort_280 : decode b_M_sort 280 = .ok (.goto 4, 3) := by decide +kernel
theorem d_M_sort_283 : decode b_M_sort 283 = .ok (.iconst 0, 1) := by decide +kernel
theorem d_M_sort_284 : decode b_M_sort 284 = .ok (.bastore, 1) := by decide +kernel
theorem d_M_sort_285 : decode b_M_sort 285 = .ok (.iinc 2 1, 3) := by decide +kernel
theorem d_M_sort_288 : decode b_M_sort 288 = .ok (.goto (-52), 3) := by decide +kernel
theorem d_M_sort_291 : decode b_M_sort 291 = .ok (.aload_n 0, 1) := by decide +kernel
theorem d_M_sort_292 : decode b_M_sort 292 = .ok (.dup, 1) := by decide +kernel
theorem d_M_sort_293 : decode b_M_sort 293 = .ok (.getfield 67, 3) := by decide +kernel
theorem d_M_sort_296 : decode b_M_sort 296 = .ok (.aload_n 0, 1) := by decide +kernel
theorem d_M_sort_297 : decode b_M_sort 297 = .ok (.getfield 35, 3) := by decide +kernel
theorem d_M_sort_300 : decode b_M_sort 300 = .ok (.iload_n 1, 1) := by decide +kernel
theorem d_M_sort_301 : decode b_M_sort 301 = .ok (.baload, 1) := by decide +kernel
theorem d_M_sort_302 : decode b_M_sort 302 = .ok (.ifCond .eq 7, 3) := by decide +kernel
theorem d_M_sort_305 : decode b_M_sort 305 = .ok (.iconst 1, 1) := by decide +kernel
theorem d_M_sort_306 : decode b_M_sort 306 = .ok (.goto 4, 3) := by decide +kernel
theorem d_M_sort_309 : decode b_M_sort 309 = .ok (.iconst 0, 1) := by decide +kernel
theorem d_M_sort_310 : decode b_M_sort 310 = .ok (.iadd, 1) := by decide +kernel
theorem d_M_sort_311 : decode b_M_sort 311 = .ok (.putfield 67, 3) := by decide +kernel
theorem d_M_sort_314 : decode b_M_sort 314 = .ok (.iinc 1 1, 3) := by decide +kernel
theorem d_M_sort_317 : decode b_M_sort 317 = .ok (.goto (-103), 3) := by decide +kernel
theorem d_M_sort_320 : decode b_M_sort 320 = .ok (.return_, 1) := by decide +kernel
theorem d_M_count_0 : decode b_M_count 0 = .ok (.aload_n 0, 1) := by decide +kernel
theorem d_M_count_1 : decode b_M_count 1 = .ok (.iconst 0, 1) := by decide +kernel
theorem d_M_count_2 : decode b_M_count 2 = .ok (.putfield 38, 3) := by decide +kernel
theorem d_M_count_5 : decode b_M_count 5 = .ok (.iload_n 1, 1) := by decide +kernel
theorem d_M_count_6 : decode b_M_count 6 = .ok (.iload_n 2, 1) := by decide +kernel
theorem d_M_count_7 : decode b_M_count 7 = .ok (.invokestatic 55, 3) := by decide +kernel
theorem d_M_count_10 : decode b_M_count 10 = .ok (.ifCond .ne 5, 3) := by decide +kernel
theorem d_M_count_13 : decode b_M_count 13 = .ok (.iconst (-1), 1) := by decide +kernel
theorem d_M_count_14 : decode b_M_count 14 = .ok (.ireturn, 1) := by decide +kernel
theorem d_M_count_15 : decode b_M_count 15 = .ok (.aload_n 0, 1) := by decide +kernel
theorem d_M_count_16 : decode b_M_count 16 = .ok (.iload_n 1, 1) := by decide +kernel
theorem d_M_count_17 : decode b_M_count 17 = .ok (.invokevirtual 73, 3) := by decide +kernel
theorem d_M_count_20 : decode b_M_count 20 = .ok (.aload_n 0, 1) := by decide +kernel
theorem d_M_count_21 : decode b_M_count 21 = .ok (.getfield 23, 3) := by decide +kernel
theorem d_M_count_24 : decode b_M_count 24 = .ok (.iload_n 2, 1) := by decide +kernel
theorem d_M_count_25 : decode b_M_count 25 = .ok (.iaload, 1) := by decide +kernel
theorem d_M_count_26 : decode b_M_count 26 = .ok (.ireturn, 1) := by decide +kernel
theorem d_M_reckon_0 : decode b_M_reckon 0 = .ok (.aload_n 0, 1) := by decide +kernel
theorem d_M_reckon_1 : decode b_M_reckon 1 = .ok (.invokevirtual 70, 3) := by decide +kernel
theorem d_M_reckon_4 : decode b_M_reckon 4 = .ok (.iconst 0, 1) := by decide +kernel
theorem d_M_reckon_5 : decode b_M_reckon 5 = .ok (.istore_n 2, 1) := by decide +kernel
theorem d_M_reckon_6 : decode b_M_reckon 6 = .ok (.iload_n 2, 1) := by decide +kernel
theorem d_M_reckon_7 : decode b_M_reckon 7 = .ok (.bipush 100, 2) := by decide +kernel
theorem d_M_reckon_9 : decode b_M_reckon 9 = .ok (.if_icmp .ge 23, 3) := by decide +kernel
theorem d_M_reckon_12 : decode b_M_reckon 12 = .ok (.aload_n 0, 1) := by decide +kernel
theorem d_M_reckon_13 : decode b_M_reckon 13 = .ok (.getfield 23, 3) := by decide +kernel
theorem d_M_reckon_16 : decode b_M_reckon 16 = .ok (.iload_n 2, 1) := by decide +kernel
theorem d_M_reckon_17 : decode b_M_reckon 17 = .ok (.iconst 0, 1) := by decide +kernel
theorem d_M_reckon_18 : decode b_M_reckon 18 = .ok (.iastore, 1) := by decide +kernel
theorem d_M_reckon_19 : decode b_M_reckon 19 = .ok (.aload_n 0, 1) := by decide +kernel
theorem d_M_reckon_20 : decode b_M_reckon 20 = .ok (.getfield 26, 3) := by decide +kernel
theorem d_M_reckon_23 : decode b_M_reckon 23 = .ok (.iload_n 2, 1) := by decide +kernel
theorem d_M_reckon_24 : decode b_M_reckon 24 = .ok (.iconst 0, 1) := by decide +kernel
theorem d_M_reckon_25 : decode b_M_reckon 25 = .ok (.iastore, 1) := by decide +kernel
theorem d_M_reckon_26 : decode b_M_reckon 26 = .ok (.iinc 2 1, 3) := by decide +kernel
theorem d_M_reckon_29 : decode b_M_reckon 29 = .ok (.goto (-23), 3) := by decide +kernel
theorem d_M_reckon_32 : decode b_M_reckon 32 = .ok (.iconst 1, 1) := by decide +kernel
theorem d_M_reckon_33 : decode b_M_reckon 33 = .ok (.istore_n 2, 1) := by decide +kernel
theorem d_M_reckon_34 : decode b_M_reckon 34 = .ok (.iload_n 2, 1) := by decide +kernel
theorem d_M_reckon_35 : decode b_M_reckon 35 = .ok (.aload_n 0, 1) := by decide +kernel
theorem d_M_reckon_36 : decode b_M_reckon 36 = .ok (.getfield 42, 3) := by decide +kernel
theorem d_M_reckon_39 : decode b_M_reckon 39 = .ok (.if_icmp .gt 129, 3) := by decide +kernel
theorem d_M_reckon_42 : decode b_M_reckon 42 = .ok (.iconst 0, 1) := by decide +kernel
theorem d_M_reckon_43 : decode b_M_reckon 43 = .ok (.istore_n 3, 1) := by decide +kernel
theorem d_M_reckon_44 : decode b_M_reckon 44 = .ok (.iload_n 3, 1) := by decide +kernel
theorem d_M_reckon_45 : decode b_M_reckon 45 = .ok (.aload_n 0, 1) := by decide +kernel
theorem d_M_reckon_46 : decode b_M_reckon 46 = .ok (.getfield 49, 3) := by decide +kernel
theorem d_M_reckon_49 : decode b_M_reckon 49 = .ok (.if_icmp .ge 113, 3) := by decide +kernel
theorem d_M_reckon_52 : decode b_M_reckon 52 = .ok (.aload_n 0, 1) := by decide +kernel
theorem d_M_reckon_53 : decode b_M_reckon 53 = .ok (.getfield 35, 3) := by decide +kernel
theorem d_M_reckon_56 : decode b_M_reckon 56 = .ok (.iload_n 2, 1) := by decide +kernel
theorem d_M_reckon_57 : decode b_M_reckon 57 = .ok (.baload, 1) := by decide +kernel
theorem d_M_reckon_58 : decode b_M_reckon 58 = .ok (.ifCond .eq 104, 3) := by decide +kernel
theorem d_M_reckon_61 : decode b_M_reckon 61 = .ok (.aload_n 0, 1) := by decide +kernel
theorem d_M_reckon_62 : decode b_M_reckon 62 = .ok (.getfield 7, 3) := by decide +kernel
theorem d_M_reckon_65 : decode b_M_reckon 65 = .ok (.iconst 3, 1) := by decide +kernel
theorem d_M_reckon_66 : decode b_M_reckon 66 = .ok (.iload_n 3, 1) := by decide +kernel
theorem d_M_reckon_67 : decode b_M_reckon 67 = .ok (.imul, 1) := by decide +kernel
theorem d_M_reckon_68 : decode b_M_reckon 68 = .ok (.iaload, 1) := by decide +kernel
theorem d_M_reckon_69 : decode b_M_reckon 69 = .ok (.iload_n 2, 1) := by decide +kernel
theorem d_M_reckon_70 : decode b_M_reckon 70 = .ok (.if_icmp .ne 30, 3) := by decide +kernel
theorem d_M_reckon_73 : decode b_M_reckon 73 = .ok (.aload_n 0, 1) := by decide +kernel
theorem d_M_reckon_74 : decode b_M_reckon 74 = .ok (.getfield 7, 3) := by decide +kernel
theorem d_M_reckon_77 : decode b_M_reckon 77 = .ok (.iconst 3, 1) := by decide +kernel
theorem d_M_reckon_78 : decode b_M_reckon 78 = .ok (.iload_n 3, 1) := by decide +kernel
theorem d_M_reckon_79 : decode b_M_reckon 79 = .ok (.imul, 1) := by decide +kernel
theorem d_M_reckon_80 : decode b_M_reckon 80 = .ok (.iconst 1, 1) := by decide +kernel
theorem d_M_reckon_81 : decode b_M_reckon 81 = .ok (.iadd, 1) := by decide +kernel
theorem d_M_reckon_82 : decode b_M_reckon 82 = .ok (.iaload, 1) := by decide +kernel
theorem d_M_reckon_83 : decode b_M_reckon 83 = .ok (.iload_n 1, 1) := by decide +kernel
theorem d_M_reckon_84 : decode b_M_reckon 84 = .ok (.if_icmp .ne 16, 3) := by decide +kernel
theorem d_M_reckon_87 : decode b_M_reckon 87 = .ok (.aload_n 0, 1) := by decide +kernel
theorem d_M_reckon_88 : decode b_M_reckon 88 = .ok (.getfield 7, 3) := by decide +kernel
theorem d_M_reckon_91 : decode b_M_reckon 91 = .ok (.iconst 3, 1) := by decide +kernel
theorem d_M_reckon_92 : decode b_M_reckon 92 = .ok (.iload_n 3, 1) := by decide +kernel
theorem d_M_reckon_93 : decode b_M_reckon 93 = .ok (.imul, 1) := by decide +kernel
theorem d_M_reckon_94 : decode b_M_reckon 94 = .ok (.iconst 2, 1) := by decide +kernel
theorem d_M_reckon_95 : decode b_M_reckon 95 = .ok (.iadd, 1) := by decide +kernel
theorem d_M_reckon_96 : decode b_M_reckon 96 = .ok (.iaload, 1) := by decide +kernel
theorem d_M_reckon_97 : decode b_M_reckon 97 = .ok (.goto 4, 3) := by decide +kernel
theorem d_M_reckon_100 : decode b_M_reckon 100 = .ok (.iconst (-1), 1) := by decide +kernel
theorem d_M_reckon_101 : decode b_M_reckon 101 = .ok (.istore 4, 2) := by decide +kernel
theorem d_M_reckon_103 : decode b_M_reckon 103 = .ok (.iload 4, 2) := by decide +kernel
theorem d_M_reckon_105 : decode b_M_reckon 105 = .ok (.iconst (-1), 1) := by decide +kernel
theorem d_M_reckon_106 : decode b_M_reckon 106 = .ok (.if_icmp .eq 50, 3) := by decide +kernel
theorem d_M_reckon_109 : decode b_M_reckon 109 = .ok (.aload_n 0, 1) := by decide +kernel
theorem d_M_reckon_110 : decode b_M_reckon 110 = .ok (.getfield 26, 3) := by decide +kernel
theorem d_M_reckon_113 : decode b_M_reckon 113 = .ok (.iload 4, 2) := by decide +kernel
theorem d_M_reckon_115 : decode b_M_reckon 115 = .ok (.iaload, 1) := by decide +kernel
theorem d_M_reckon_116 : decode b_M_reckon 116 = .ok (.iload_n 2, 1) := by decide +kernel
theorem d_M_reckon_117 : decode b_M_reckon 117 = .ok (.if_icmp .eq 39, 3) := by decide +kernel
theorem d_M_reckon_120 : decode b_M_reckon 120 = .ok (.aload_n 0, 1) := by decide +kernel
theorem d_M_reckon_121 : decode b_M_reckon 121 = .ok (.getfield 26, 3) := by decide +kernel
theorem d_M_reckon_124 : decode b_M_reckon 124 = .ok (.iload 4, 2) := by decide +kernel
theorem d_M_reckon_126 : decode b_M_reckon 126 = .ok (.iload_n 2, 1) := by decide +kernel
theorem d_M_reckon_127 : decode b_M_reckon 127 = .ok (.iastore, 1) := by decide +kernel
theorem d_M_reckon_128 : decode b_M_reckon 128 = .ok (.aload_n 0, 1) := by decide +kernel
theorem d_M_reckon_129 : decode b_M_reckon 129 = .ok (.getfield 23, 3) := by decide +kernel
theorem d_M_reckon_132 : decode b_M_reckon 132 = .ok (.iload 4, 2) := by decide +kernel
theorem d_M_reckon_134 : decode b_M_reckon 134 = .ok (.dup2, 1) := by decide +kernel
theorem d_M_reckon_135 : decode b_M_reckon 135 = .ok (.iaload, 1) := by decide +kernel
theorem d_M_reckon_136 : decode b_M_reckon 136 = .ok (.iconst 1, 1) := by decide +kernel
theorem d_M_reckon_137 : decode b_M_reckon 137 = .ok (.iadd, 1) := by decide +kernel
theorem d_M_reckon_138 : decode b_M_reckon 138 = .ok (.iastore, 1) := by decide +kernel
theorem d_M_reckon_139 : decode b_M_reckon 139 = .ok (.aload_n 0, 1) := by decide +kernel
theorem d_M_reckon_140 : decode b_M_reckon 140 = .ok (.getfield 13, 3) := by decide +kernel
theorem d_M_reckon_143 : decode b_M_reckon 143 = .ok (.bipush 100, 2) := by decide +kernel
theorem d_M_reckon_145 : decode b_M_reckon 145 = .ok (.iload_n 1, 1) := by decide +kernel
theorem d_M_reckon_146 : decode b_M_reckon 146 = .ok (.imul, 1) := by decide +kernel
theorem d_M_reckon_147 : decode b_M_reckon 147 = .ok (.iload 4, 2) := by decide +kernel
theorem d_M_reckon_149 : decode b_M_reckon 149 = .ok (.iadd, 1) := by decide +kernel
theorem d_M_reckon_150 : decode b_M_reckon 150 = .ok (.iaload, 1) := by decide +kernel
theorem d_M_reckon_151 : decode b_M_reckon 151 = .ok (.istore 4, 2) := by decide +kernel
theorem d_M_reckon_153 : decode b_M_reckon 153 = .ok (.goto (-50), 3) := by decide +kernel
theorem d_M_reckon_156 : decode b_M_reckon 156 = .ok (.iinc 3 1, 3) := by decide +kernel
theorem d_M_reckon_159 : decode b_M_reckon 159 = .ok (.goto (-115), 3) := by decide +kernel
theorem d_M_reckon_162 : decode b_M_reckon 162 = .ok (.iinc 2 1, 3) := by decide +kernel
theorem d_M_reckon_165 : decode b_M_reckon 165 = .ok (.goto (-131), 3) := by decide +kernel
theorem d_M_reckon_168 : decode b_M_reckon 168 = .ok (.return_, 1) := by decide +kernel
theorem d_M_top_0 : decode b_M_top 0 = .ok (.aload_n 0, 1) := by decide +kernel
theorem d_M_top_1 : decode b_M_top 1 = .ok (.iconst 0, 1) := by decide +kernel
theorem d_M_top_2 : decode b_M_top 2 = .ok (.putfield 38, 3) := by decide +kernel
theorem d_M_top_5 : decode b_M_top 5 = .ok (.iload_n 1, 1) := by decide +kernel
theorem d_M_top_6 : decode b_M_top 6 = .ok (.invokestatic 45, 3) := by decide +kernel
theorem d_M_top_9 : decode b_M_top 9 = .ok (.ifCond .eq 7, 3) := by decide +kernel
theorem d_M_top_12 : decode b_M_top 12 = .ok (.iload_n 2, 1) := by decide +kernel
theorem d_M_top_13 : decode b_M_top 13 = .ok (.ifCond .ge 5, 3) := by decide +kernel
theorem d_M_top_16 : decode b_M_top 16 = .ok (.iconst (-1), 1) := by decide +kernel
theorem d_M_top_17 : decode b_M_top 17 = .ok (.ireturn, 1) := by decide +kernel
theorem d_M_top_18 : decode b_M_top 18 = .ok (.aload_n 0, 1) := by decide +kernel
theorem d_M_top_19 : decode b_M_top 19 = .ok (.iload_n 1, 1) := by decide +kernel
theorem d_M_top_20 : decode b_M_top 20 = .ok (.invokevirtual 73, 3) := by decide +kernel
theorem d_M_top_23 : decode b_M_top 23 = .ok (.aload_n 0, 1) := by decide +kernel
theorem d_M_top_24 : decode b_M_top 24 = .ok (.iload_n 1, 1) := by decide +kernel
theorem d_M_top_25 : decode b_M_top 25 = .ok (.bipush (-2), 2) := by decide +kernel
theorem d_M_top_27 : decode b_M_top 27 = .ok (.iload_n 2, 1) := by decide +kernel
theorem d_M_top_28 : decode b_M_top 28 = .ok (.invokevirtual 77, 3) := by decide +kernel
theorem d_M_top_31 : decode b_M_top 31 = .ok (.ireturn, 1) := by decide +kernel
theorem d_M_ranked_0 : decode b_M_ranked 0 = .ok (.iconst 0, 1) := by decide +kernel
theorem d_M_ranked_1 : decode b_M_ranked 1 = .ok (.istore 4, 2) := by decide +kernel
theorem d_M_ranked_3 : decode b_M_ranked 3 = .ok (.iload 4, 2) := by decide +kernel
theorem d_M_ranked_5 : decode b_M_ranked 5 = .ok (.bipush 100, 2) := by decide +kernel
theorem d_M_ranked_7 : decode b_M_ranked 7 = .ok (.if_icmp .ge 142, 3) := by decide +kernel
theorem d_M_ranked_10 : decode b_M_ranked 10 = .ok (.aload_n 0, 1) := by decide +kernel
theorem d_M_ranked_11 : decode b_M_ranked 11 = .ok (.getfield 23, 3) := by decide +kernel
theorem d_M_ranked_14 : decode b_M_ranked 14 = .ok (.iload 4, 2) := by decide +kernel
theorem d_M_ranked_16 : decode b_M_ranked 16 = .ok (.iaload, 1) := by decide +kernel
theorem d_M_ranked_17 : decode b_M_ranked 17 = .ok (.ifCond .le 126, 3) := by decide +kernel
theorem d_M_ranked_20 : decode b_M_ranked 20 = .ok (.iload_n 2, 1) := by decide +kernel
theorem d_M_ranked_21 : decode b_M_ranked 21 = .ok (.bipush (-2), 2) := by decide +kernel
theorem d_M_ranked_23 : decode b_M_ranked 23 = .ok (.if_icmp .eq 19, 3) := by decide +kernel
theorem d_M_ranked_26 : decode b_M_ranked 26 = .ok (.aload_n 0, 1) := by decide +kernel
theorem d_M_ranked_27 : decode b_M_ranked 27 = .ok (.getfield 13, 3) := by decide +kernel
theorem d_M_ranked_30 : decode b_M_ranked 30 = .ok (.bipush 100, 2) := by decide +kernel
theorem d_M_ranked_32 : decode b_M_ranked 32 = .ok (.iload_n 1, 1) := by decide +kernel
theorem d_M_ranked_33 : decode b_M_ranked 33 = .ok (.imul, 1) := by decide +kernel
theorem d_M_ranked_34 : decode b_M_ranked 34 = .ok (.iload 4, 2) := by decide +kernel
theorem d_M_ranked_36 : decode b_M_ranked 36 = .ok (.iadd, 1) := by decide +kernel
theorem d_M_ranked_37 : decode b_M_ranked 37 = .ok (.iaload, 1) := by decide +kernel
theorem d_M_ranked_38 : decode b_M_ranked 38 = .ok (.iload_n 2, 1) := by decide +kernel
theorem d_M_ranked_39 : decode b_M_ranked 39 = .ok (.if_icmp .ne 104, 3) := by decide +kernel
theorem d_M_ranked_42 : decode b_M_ranked 42 = .ok (.iconst 0, 1) := by decide +kernel
theorem d_M_ranked_43 : decode b_M_ranked 43 = .ok (.istore 5, 2) := by decide +kernel
theorem d_M_ranked_45 : decode b_M_ranked 45 = .ok (.iconst 0, 1) := by decide +kernel
theorem d_M_ranked_46 : decode b_M_ranked 46 = .ok (.istore 6, 2) := by decide +kernel
theorem d_M_ranked_48 : decode b_M_ranked 48 = .ok (.iload 6, 2) := by decide +kernel
theorem d_M_ranked_50 : decode b_M_ranked 50 = .ok (.bipush 100, 2) := by decide +kernel
theorem d_M_ranked_52 : decode b_M_ranked 52 = .ok (.if_icmp .ge 82, 3) := by decide +kernel
theorem d_M_ranked_55 : decode b_M_ranked 55 = .ok (.iload 5, 2) := by decide +kernel
theorem d_M_ranked_57 : decode b_M_ranked 57 = .ok (.iload_n 2, 1) := by decide +kernel
theorem d_M_ranked_58 : decode b_M_ranked 58 = .ok (.bipush (-2), 2) := by decide +kernel
theorem d_M_ranked_60 : decode b_M_ranked 60 = .ok (.if_icmp .eq 19, 3) := by decide +kernel
theorem d_M_ranked_63 : decode b_M_ranked 63 = .ok (.aload_n 0, 1) := by decide +kernel
theorem d_M_ranked_64 : decode b_M_ranked 64 = .ok (.getfield 13, 3) := by decide +kernel
theorem d_M_ranked_67 : decode b_M_ranked 67 = .ok (.bipush 100, 2) := by decide +kernel
theorem d_M_ranked_69 : decode b_M_ranked 69 = .ok (.iload_n 1, 1) := by decide +kernel
theorem d_M_ranked_70 : decode b_M_ranked 70 = .ok (.imul, 1) := by decide +kernel
theorem d_M_ranked_71 : decode b_M_ranked 71 = .ok (.iload 6, 2) := by decide +kernel
theorem d_M_ranked_73 : decode b_M_ranked 73 = .ok (.iadd, 1) := by decide +kernel
theorem d_M_ranked_74 : decode b_M_ranked 74 = .ok (.iaload, 1) := by decide +kernel
theorem d_M_ranked_75 : decode b_M_ranked 75 = .ok (.iload_n 2, 1) := by decide +kernel
theorem d_M_ranked_76 : decode b_M_ranked 76 = .ok (.if_icmp .ne 48, 3) := by decide +kernel
theorem d_M_ranked_79 : decode b_M_ranked 79 = .ok (.aload_n 0, 1) := by decide +kernel
theorem d_M_ranked_80 : decode b_M_ranked 80 = .ok (.getfield 23, 3) := by decide +kernel
theorem d_M_ranked_83 : decode b_M_ranked 83 = .ok (.iload 6, 2) := by decide +kernel
theorem d_M_ranked_85 : decode b_M_ranked 85 = .ok (.iaload, 1) := by decide +kernel
theorem d_M_ranked_86 : decode b_M_ranked 86 = .ok (.aload_n 0, 1) := by decide +kernel
theorem d_M_ranked_87 : decode b_M_ranked 87 = .ok (.getfield 23, 3) := by decide +kernel
theorem d_M_ranked_90 : decode b_M_ranked 90 = .ok (.iload 4, 2) := by decide +kernel
theorem d_M_ranked_92 : decode b_M_ranked 92 = .ok (.iaload, 1) := by decide +kernel
theorem d_M_ranked_93 : decode b_M_ranked 93 = .ok (.if_icmp .gt 27, 3) := by decide +kernel
theorem d_M_ranked_96 : decode b_M_ranked 96 = .ok (.aload_n 0, 1) := by decide +kernel
theorem d_M_ranked_97 : decode b_M_ranked 97 = .ok (.getfield 23, 3) := by decide +kernel
theorem d_M_ranked_100 : decode b_M_ranked 100 = .ok (.iload 6, 2) := by decide +kernel
theorem d_M_ranked_102 : decode b_M_ranked 102 = .ok (.iaload, 1) := by decide +kernel
theorem d_M_ranked_103 : decode b_M_ranked 103 = .ok (.aload_n 0, 1) := by decide +kernel
theorem d_M_ranked_104 : decode b_M_ranked 104 = .ok (.getfield 23, 3) := by decide +kernel
theorem d_M_ranked_107 : decode b_M_ranked 107 = .ok (.iload 4, 2) := by decide +kernel
theorem d_M_ranked_109 : decode b_M_ranked 109 = .ok (.iaload, 1) := by decide +kernel
theorem d_M_ranked_110 : decode b_M_ranked 110 = .ok (.if_icmp .ne 14, 3) := by decide +kernel
theorem d_M_ranked_113 : decode b_M_ranked 113 = .ok (.iload 6, 2) := by decide +kernel
theorem d_M_ranked_115 : decode b_M_ranked 115 = .ok (.iload 4, 2) := by decide +kernel
theorem d_M_ranked_117 : decode b_M_ranked 117 = .ok (.if_icmp .ge 7, 3) := by decide +kernel
theorem d_M_ranked_120 : decode b_M_ranked 120 = .ok (.iconst 1, 1) := by decide +kernel
theorem d_M_ranked_121 : decode b_M_ranked 121 = .ok (.goto 4, 3) := by decide +kernel
theorem d_M_ranked_124 : decode b_M_ranked 124 = .ok (.iconst 0, 1) := by decide +kernel
theorem d_M_ranked_125 : decode b_M_ranked 125 = .ok (.iadd, 1) := by decide +kernel
theorem d_M_ranked_126 : decode b_M_ranked 126 = .ok (.istore 5, 2) := by decide +kernel
theorem d_M_ranked_128 : decode b_M_ranked 128 = .ok (.iinc 6 1, 3) := by decide +kernel
theorem d_M_ranked_131 : decode b_M_ranked 131 = .ok (.goto (-83), 3) := by decide +kernel
theorem d_M_ranked_134 : decode b_M_ranked 134 = .ok (.iload 5, 2) := by decide +kernel
theorem d_M_ranked_136 : decode b_M_ranked 136 = .ok (.iload_n 3, 1) := by decide +kernel
theorem d_M_ranked_137 : decode b_M_ranked 137 = .ok (.if_icmp .ne 6, 3) := by decide +kernel
theorem d_M_ranked_140 : decode b_M_ranked 140 = .ok (.iload 4, 2) := by decide +kernel
theorem d_M_ranked_142 : decode b_M_ranked 142 = .ok (.ireturn, 1) := by decide +kernel
theorem d_M_ranked_143 : decode b_M_ranked 143 = .ok (.iinc 4 1, 3) := by decide +kernel
theorem d_M_ranked_146 : decode b_M_ranked 146 = .ok (.goto (-143), 3) := by decide +kernel
theorem d_M_ranked_149 : decode b_M_ranked 149 = .ok (.iconst (-1), 1) := by decide +kernel
theorem d_M_ranked_150 : decode b_M_ranked 150 = .ok (.ireturn, 1) := by decide +kernel
theorem d_M_below_0 : decode b_M_below 0 = .ok (.aload_n 0, 1) := by decide +kernel
theorem d_M_below_1 : decode b_M_below 1 = .ok (.iconst 0, 1) := by decide +kernel
theorem d_M_below_2 : decode b_M_below 2 = .ok (.putfield 38, 3) := by decide +kernel
theorem d_M_below_5 : decode b_M_below 5 = .ok (.iload_n 1, 1) := by decide +kernel
theorem d_M_below_6 : decode b_M_below 6 = .ok (.invokestatic 45, 3) := by decide +kernel
theorem d_M_below_9 : decode b_M_below 9 = .ok (.ifCond .eq 20, 3) := by decide +kernel
theorem d_M_below_12 : decode b_M_below 12 = .ok (.iload 4, 2) := by decide +kernel
theorem d_M_below_14 : decode b_M_below 14 = .ok (.ifCond .lt 15, 3) := by decide +kernel
theorem d_M_below_17 : decode b_M_below 17 = .ok (.iload_n 2, 1) := by decide +kernel
theorem d_M_below_18 : decode b_M_below 18 = .ok (.ifCond .ne 13, 3) := by decide +kernel
theorem d_M_below_21 : decode b_M_below 21 = .ok (.iload_n 1, 1) := by decide +kernel
theorem d_M_below_22 : decode b_M_below 22 = .ok (.iload_n 3, 1) := by decide +kernel
theorem d_M_below_23 : decode b_M_below 23 = .ok (.invokestatic 55, 3) := by decide +kernel
theorem d_M_below_26 : decode b_M_below 26 = .ok (.ifCond .ne 5, 3) := by decide +kernel
theorem d_M_below_29 : decode b_M_below 29 = .ok (.iconst (-1), 1) := by decide +kernel
theorem d_M_below_30 : decode b_M_below 30 = .ok (.ireturn, 1) := by decide +kernel
theorem d_M_below_31 : decode b_M_below 31 = .ok (.aload_n 0, 1) := by decide +kernel
theorem d_M_below_32 : decode b_M_below 32 = .ok (.iload_n 1, 1) := by decide +kernel
theorem d_M_below_33 : decode b_M_below 33 = .ok (.invokevirtual 73, 3) := by decide +kernel
theorem d_M_below_36 : decode b_M_below 36 = .ok (.aload_n 0, 1) := by decide +kernel
theorem d_M_below_37 : decode b_M_below 37 = .ok (.iload_n 1, 1) := by decide +kernel
theorem d_M_below_38 : decode b_M_below 38 = .ok (.iload_n 2, 1) := by decide +kernel
theorem d_M_below_39 : decode b_M_below 39 = .ok (.ifCond .eq 7, 3) := by decide +kernel
theorem d_M_below_42 : decode b_M_below 42 = .ok (.iconst (-1), 1) := by decide +kernel
theorem d_M_below_43 : decode b_M_below 43 = .ok (.goto 4, 3) := by decide +kernel
theorem d_M_below_46 : decode b_M_below 46 = .ok (.iload_n 3, 1) := by decide +kernel
theorem d_M_below_47 : decode b_M_below 47 = .ok (.iload 4, 2) := by decide +kernel
theorem d_M_below_49 : decode b_M_below 49 = .ok (.invokevirtual 77, 3) := by decide +kernel
theorem d_M_below_52 : decode b_M_below 52 = .ok (.ireturn, 1) := by decide +kernel
theorem d_M_band_0 : decode b_M_band 0 = .ok (.aload_n 0, 1) := by decide +kernel
theorem d_M_band_1 : decode b_M_band 1 = .ok (.iconst 0, 1) := by decide +kernel
theorem d_M_band_2 : decode b_M_band 2 = .ok (.putfield 38, 3) := by decide +kernel
theorem d_M_band_5 : decode b_M_band 5 = .ok (.iload_n 1, 1) := by decide +kernel
theorem d_M_band_6 : decode b_M_band 6 = .ok (.invokestatic 45, 3) := by decide +kernel
theorem d_M_band_9 : decode b_M_band 9 = .ok (.ifCond .eq 8, 3) := by decide +kernel
theorem d_M_band_12 : decode b_M_band 12 = .ok (.iload_n 3, 1) := by decide +kernel
theorem d_M_band_13 : decode b_M_band 13 = .ok (.iload_n 2, 1) := by decide +kernel
theorem d_M_band_14 : decode b_M_band 14 = .ok (.if_icmp .ge 5, 3) := by decide +kernel
theorem d_M_band_17 : decode b_M_band 17 = .ok (.iconst (-1), 1) := by decide +kernel
theorem d_M_band_18 : decode b_M_band 18 = .ok (.ireturn, 1) := by decide +kernel
theorem d_M_band_19 : decode b_M_band 19 = .ok (.iconst 0, 1) := by decide +kernel
theorem d_M_band_20 : decode b_M_band 20 = .ok (.istore 4, 2) := by decide +kernel
theorem d_M_band_22 : decode b_M_band 22 = .ok (.aload_n 0, 1) := by decide +kernel
theorem d_M_band_23 : decode b_M_band 23 = .ok (.invokevirtual 70, 3) := by decide +kernel
theorem d_M_band_26 : decode b_M_band 26 = .ok (.iconst 1, 1) := by decide +kernel
theorem d_M_band_27 : decode b_M_band 27 = .ok (.istore 5, 2) := by decide +kernel
theorem d_M_band_29 : decode b_M_band 29 = .ok (.iload 5, 2) := by decide +kernel
theorem d_M_band_31 : decode b_M_band 31 = .ok (.aload_n 0, 1) := by decide +kernel
theorem d_M_band_32 : decode b_M_band 32 = .ok (.getfield 42, 3) := by decide +kernel
theorem d_M_band_35 : decode b_M_band 35 = .ok (.if_icmp .gt 126, 3) := by decide +kernel
theorem d_M_band_38 : decode b_M_band 38 = .ok (.iconst 0, 1) := by decide +kernel
theorem d_M_band_39 : decode b_M_band 39 = .ok (.istore 6, 2) := by decide +kernel
theorem d_M_band_41 : decode b_M_band 41 = .ok (.iconst 0, 1) := by decide +kernel
theorem d_M_band_42 : decode b_M_band 42 = .ok (.istore 7, 2) := by decide +kernel
theorem d_M_band_44 : decode b_M_band 44 = .ok (.iload 7, 2) := by decide +kernel
theorem d_M_band_46 : decode b_M_band 46 = .ok (.aload_n 0, 1) := by decide +kernel
theorem d_M_band_47 : decode b_M_band 47 = .ok (.getfield 49, 3) := by decide +kernel
theorem d_M_band_50 : decode b_M_band 50 = .ok (.if_icmp .ge 80, 3) := by decide +kernel
theorem d_M_band_53 : decode b_M_band 53 = .ok (.iload 6, 2) := by decide +kernel
theorem d_M_band_55 : decode b_M_band 55 = .ok (.ifCond .ne 62, 3) := by decide +kernel
theorem d_M_band_58 : decode b_M_band 58 = .ok (.aload_n 0, 1) := by decide +kernel
theorem d_M_band_59 : decode b_M_band 59 = .ok (.getfield 7, 3) := by decide +kernel
theorem d_M_band_62 : decode b_M_band 62 = .ok (.iconst 3, 1) := by decide +kernel
theorem d_M_band_63 : decode b_M_band 63 = .ok (.iload 7, 2) := by decide +kernel
theorem d_M_band_65 : decode b_M_band 65 = .ok (.imul, 1) := by decide +kernel
theorem d_M_band_66 : decode b_M_band 66 = .ok (.iaload, 1) := by decide +kernel
theorem d_M_band_67 : decode b_M_band 67 = .ok (.iload 5, 2) := by decide +kernel
theorem d_M_band_69 : decode b_M_band 69 = .ok (.if_icmp .ne 52, 3) := by decide +kernel
theorem d_M_band_72 : decode b_M_band 72 = .ok (.aload_n 0, 1) := by decide +kernel
theorem d_M_band_73 : decode b_M_band 73 = .ok (.getfield 7, 3) := by decide +kernel
theorem d_M_band_76 : decode b_M_band 76 = .ok (.iconst 3, 1) := by decide +kernel
theorem d_M_band_77 : decode b_M_band 77 = .ok (.iload 7, 2) := by decide +kernel
theorem d_M_band_79 : decode b_M_band 79 = .ok (.imul, 1) := by decide +kernel
theorem d_M_band_80 : decode b_M_band 80 = .ok (.iconst 1, 1) := by decide +kernel
theorem d_M_band_81 : decode b_M_band 81 = .ok (.iadd, 1) := by decide +kernel
theorem d_M_band_82 : decode b_M_band 82 = .ok (.iaload, 1) := by decide +kernel
theorem d_M_band_83 : decode b_M_band 83 = .ok (.iload_n 1, 1) := by decide +kernel
theorem d_M_band_84 : decode b_M_band 84 = .ok (.if_icmp .ne 37, 3) := by decide +kernel
theorem d_M_band_87 : decode b_M_band 87 = .ok (.aload_n 0, 1) := by decide +kernel
theorem d_M_band_88 : decode b_M_band 88 = .ok (.getfield 7, 3) := by decide +kernel
theorem d_M_band_91 : decode b_M_band 91 = .ok (.iconst 3, 1) := by decide +kernel
theorem d_M_band_92 : decode b_M_band 92 = .ok (.iload 7, 2) := by decide +kernel
theorem d_M_band_94 : decode b_M_band 94 = .ok (.imul, 1) := by decide +kernel
theorem d_M_band_95 : decode b_M_band 95 = .ok (.iconst 2, 1) := by decide +kernel
theorem d_M_band_96 : decode b_M_band 96 = .ok (.iadd, 1) := by decide +kernel
theorem d_M_band_97 : decode b_M_band 97 = .ok (.iaload, 1) := by decide +kernel
theorem d_M_band_98 : decode b_M_band 98 = .ok (.iload_n 2, 1) := by decide +kernel
theorem d_M_band_99 : decode b_M_band 99 = .ok (.if_icmp .lt 22, 3) := by decide +kernel
theorem d_M_band_102 : decode b_M_band 102 = .ok (.aload_n 0, 1) := by decide +kernel
theorem d_M_band_103 : decode b_M_band 103 = .ok (.getfield 7, 3) := by decide +kernel
theorem d_M_band_106 : decode b_M_band 106 = .ok (.iconst 3, 1) := by decide +kernel
theorem d_M_band_107 : decode b_M_band 107 = .ok (.iload 7, 2) := by decide +kernel
theorem d_M_band_109 : decode b_M_band 109 = .ok (.imul, 1) := by decide +kernel
theorem d_M_band_110 : decode b_M_band 110 = .ok (.iconst 2, 1) := by decide +kernel
theorem d_M_band_111 : decode b_M_band 111 = .ok (.iadd, 1) := by decide +kernel
theorem d_M_band_112 : decode b_M_band 112 = .ok (.iaload, 1) := by decide +kernel
theorem d_M_band_113 : decode b_M_band 113 = .ok (.iload_n 3, 1) := by decide +kernel
theorem d_M_band_114 : decode b_M_band 114 = .ok (.if_icmp .gt 7, 3) := by decide +kernel
theorem d_M_band_117 : decode b_M_band 117 = .ok (.iconst 1, 1) := by decide +kernel
theorem d_M_band_118 : decode b_M_band 118 = .ok (.goto 4, 3) := by decide +kernel
theorem d_M_band_121 : decode b_M_band 121 = .ok (.iconst 0, 1) := by decide +kernel
theorem d_M_band_122 : decode b_M_band 122 = .ok (.istore 6, 2) := by decide +kernel
theorem d_M_band_124 : decode b_M_band 124 = .ok (.iinc 7 1, 3) := by decide +kernel
theorem d_M_band_127 : decode b_M_band 127 = .ok (.goto (-83), 3) := by decide +kernel
theorem d_M_band_130 : decode b_M_band 130 = .ok (.iload 4, 2) := by decide +kernel
theorem d_M_band_132 : decode b_M_band 132 = .ok (.iload 6, 2) := by decide +kernel
theorem d_M_band_134 : decode b_M_band 134 = .ok (.ifCond .eq 17, 3) := by decide +kernel
theorem d_M_band_137 : decode b_M_band 137 = .ok (.aload_n 0, 1) := by decide +kernel
theorem d_M_band_138 : decode b_M_band 138 = .ok (.getfield 35, 3) := by decide +kernel
theorem d_M_band_141 : decode b_M_band 141 = .ok (.iload 5, 2) := by decide +kernel
theorem d_M_band_143 : decode b_M_band 143 = .ok (.baload, 1) := by decide +kernel
theorem d_M_band_144 : decode b_M_band 144 = .ok (.ifCond .eq 7, 3) := by decide +kernel
theorem d_M_band_147 : decode b_M_band 147 = .ok (.iconst 1, 1) := by decide +kernel
theorem d_M_band_148 : decode b_M_band 148 = .ok (.goto 4, 3) := by decide +kernel
theorem d_M_band_151 : decode b_M_band 151 = .ok (.iconst 0, 1) := by decide +kernel
theorem d_M_band_152 : decode b_M_band 152 = .ok (.iadd, 1) := by decide +kernel
theorem d_M_band_153 : decode b_M_band 153 = .ok (.istore 4, 2) := by decide +kernel
theorem d_M_band_155 : decode b_M_band 155 = .ok (.iinc 5 1, 3) := by decide +kernel
theorem d_M_band_158 : decode b_M_band 158 = .ok (.goto (-129), 3) := by decide +kernel
theorem d_M_band_161 : decode b_M_band 161 = .ok (.iload 4, 2) := by decide +kernel
theorem d_M_band_163 : decode b_M_band 163 = .ok (.ireturn, 1) := by decide +kernel
theorem d_M_share_0 : decode b_M_share 0 = .ok (.aload_n 0, 1) := by decide +kernel
theorem d_M_share_1 : decode b_M_share 1 = .ok (.iconst 0, 1) := by decide +kernel
theorem d_M_share_2 : decode b_M_share 2 = .ok (.putfield 38, 3) := by decide +kernel
theorem d_M_share_5 : decode b_M_share 5 = .ok (.iload_n 1, 1) := by decide +kernel
theorem d_M_share_6 : decode b_M_share 6 = .ok (.iload_n 2, 1) := by decide +kernel
theorem d_M_share_7 : decode b_M_share 7 = .ok (.invokestatic 55, 3) := by decide +kernel
theorem d_M_share_10 : decode b_M_share 10 = .ok (.ifCond .ne 7, 3) := by decide +kernel
theorem d_M_share_13 : decode b_M_share 13 = .ok (.ldc2_w 80, 3) := by decide +kernel
theorem d_M_share_16 : decode b_M_share 16 = .ok (.lreturn, 1) := by decide +kernel
theorem d_M_share_17 : decode b_M_share 17 = .ok (.aload_n 0, 1) := by decide +kernel
theorem d_M_share_18 : decode b_M_share 18 = .ok (.iload_n 1, 1) := by decide +kernel
theorem d_M_share_19 : decode b_M_share 19 = .ok (.invokevirtual 73, 3) := by decide +kernel
theorem d_M_share_22 : decode b_M_share 22 = .ok (.aload_n 0, 1) := by decide +kernel
theorem d_M_share_23 : decode b_M_share 23 = .ok (.getfield 23, 3) := by decide +kernel
theorem d_M_share_26 : decode b_M_share 26 = .ok (.iload_n 2, 1) := by decide +kernel
theorem d_M_share_27 : decode b_M_share 27 = .ok (.iaload, 1) := by decide +kernel
theorem d_M_share_28 : decode b_M_share 28 = .ok (.istore 4, 2) := by decide +kernel
theorem d_M_share_30 : decode b_M_share 30 = .ok (.aload_n 0, 1) := by decide +kernel
theorem d_M_share_31 : decode b_M_share 31 = .ok (.getfield 67, 3) := by decide +kernel
theorem d_M_share_34 : decode b_M_share 34 = .ok (.istore 5, 2) := by decide +kernel
theorem d_M_share_36 : decode b_M_share 36 = .ok (.iload 5, 2) := by decide +kernel
theorem d_M_share_38 : decode b_M_share 38 = .ok (.ifCond .ne 10, 3) := by decide +kernel
theorem d_M_share_41 : decode b_M_share 41 = .ok (.aload_n 0, 1) := by decide +kernel
theorem d_M_share_42 : decode b_M_share 42 = .ok (.iconst 1, 1) := by decide +kernel
theorem d_M_share_43 : decode b_M_share 43 = .ok (.putfield 38, 3) := by decide +kernel
theorem d_M_share_46 : decode b_M_share 46 = .ok (.lconst 0, 1) := by decide +kernel
theorem d_M_share_47 : decode b_M_share 47 = .ok (.lreturn, 1) := by decide +kernel
theorem d_M_share_48 : decode b_M_share 48 = .ok (.iload 4, 2) := by decide +kernel
theorem d_M_share_50 : decode b_M_share 50 = .ok (.istore 6, 2) := by decide +kernel
theorem d_M_share_52 : decode b_M_share 52 = .ok (.iload 5, 2) := by decide +kernel
theorem d_M_share_54 : decode b_M_share 54 = .ok (.istore 7, 2) := by decide +kernel
theorem d_M_share_56 : decode b_M_share 56 = .ok (.iload 7, 2) := by decide +kernel
theorem d_M_share_58 : decode b_M_share 58 = .ok (.ifCond .le 21, 3) := by decide +kernel
theorem d_M_share_61 : decode b_M_share 61 = .ok (.iload 6, 2) := by decide +kernel
theorem d_M_share_63 : decode b_M_share 63 = .ok (.iload 7, 2) := by decide +kernel
theorem d_M_share_65 : decode b_M_share 65 = .ok (.irem, 1) := by decide +kernel
theorem d_M_share_66 : decode b_M_share 66 = .ok (.istore 8, 2) := by decide +kernel
theorem d_M_share_68 : decode b_M_share 68 = .ok (.iload 7, 2) := by decide +kernel
theorem d_M_share_70 : decode b_M_share 70 = .ok (.istore 6, 2) := by decide +kernel
theorem d_M_share_72 : decode b_M_share 72 = .ok (.iload 8, 2) := by decide +kernel
theorem d_M_share_74 : decode b_M_share 74 = .ok (.istore 7, 2) := by decide +kernel
theorem d_M_share_76 : decode b_M_share 76 = .ok (.goto (-20), 3) := by decide +kernel
theorem d_M_share_79 : decode b_M_share 79 = .ok (.iload_n 3, 1) := by decide +kernel
theorem d_M_share_80 : decode b_M_share 80 = .ok (.ifCond .ne 12, 3) := by decide +kernel
theorem d_M_share_83 : decode b_M_share 83 = .ok (.iload 4, 2) := by decide +kernel
theorem d_M_share_85 : decode b_M_share 85 = .ok (.iload 6, 2) := by decide +kernel
theorem d_M_share_87 : decode b_M_share 87 = .ok (.idiv, 1) := by decide +kernel
theorem d_M_share_88 : decode b_M_share 88 = .ok (.i2l, 1) := by decide +kernel
theorem d_M_share_89 : decode b_M_share 89 = .ok (.goto 9, 3) := by decide +kernel
theorem d_M_share_92 : decode b_M_share 92 = .ok (.iload 5, 2) := by decide +kernel
theorem d_M_share_94 : decode b_M_share 94 = .ok (.iload 6, 2) := by decide +kernel
theorem d_M_share_96 : decode b_M_share 96 = .ok (.idiv, 1) := by decide +kernel
theorem d_M_share_97 : decode b_M_share 97 = .ok (.i2l, 1) := by decide +kernel
theorem d_M_share_98 : decode b_M_share 98 = .ok (.lreturn, 1) := by decide +kernel
theorem d_M_missing_0 : decode b_M_missing 0 = .ok (.aload_n 0, 1) := by decide +kernel
theorem d_M_missing_1 : decode b_M_missing 1 = .ok (.iconst 0, 1) := by decide +kernel
theorem d_M_missing_2 : decode b_M_missing 2 = .ok (.putfield 38, 3) := by decide +kernel
theorem d_M_missing_5 : decode b_M_missing 5 = .ok (.iload_n 1, 1) := by decide +kernel
theorem d_M_missing_6 : decode b_M_missing 6 = .ok (.invokestatic 45, 3) := by decide +kernel
theorem d_M_missing_9 : decode b_M_missing 9 = .ok (.ifCond .ne 5, 3) := by decide +kernel
theorem d_M_missing_12 : decode b_M_missing 12 = .ok (.iconst (-1), 1) := by decide +kernel
theorem d_M_missing_13 : decode b_M_missing 13 = .ok (.ireturn, 1) := by decide +kernel
theorem d_M_missing_14 : decode b_M_missing 14 = .ok (.iconst 0, 1) := by decide +kernel
theorem d_M_missing_15 : decode b_M_missing 15 = .ok (.istore_n 2, 1) := by decide +kernel
theorem d_M_missing_16 : decode b_M_missing 16 = .ok (.aload_n 0, 1) := by decide +kernel
theorem d_M_missing_17 : decode b_M_missing 17 = .ok (.invokevirtual 70, 3) := by decide +kernel
theorem d_M_missing_20 : decode b_M_missing 20 = .ok (.iconst 1, 1) := by decide +kernel
theorem d_M_missing_21 : decode b_M_missing 21 = .ok (.istore_n 3, 1) := by decide +kernel
theorem d_M_missing_22 : decode b_M_missing 22 = .ok (.iload_n 3, 1) := by decide +kernel
theorem d_M_missing_23 : decode b_M_missing 23 = .ok (.aload_n 0, 1) := by decide +kernel
theorem d_M_missing_24 : decode b_M_missing 24 = .ok (.getfield 42, 3) := by decide +kernel
theorem d_M_missing_27 : decode b_M_missing 27 = .ok (.if_icmp .gt 92, 3) := by decide +kernel
theorem d_M_missing_30 : decode b_M_missing 30 = .ok (.iconst 1, 1) := by decide +kernel
theorem d_M_missing_31 : decode b_M_missing 31 = .ok (.istore 4, 2) := by decide +kernel
theorem d_M_missing_33 : decode b_M_missing 33 = .ok (.iconst 0, 1) := by decide +kernel
theorem d_M_missing_34 : decode b_M_missing 34 = .ok (.istore 5, 2) := by decide +kernel
theorem d_M_missing_36 : decode b_M_missing 36 = .ok (.iload 5, 2) := by decide +kernel
theorem d_M_missing_38 : decode b_M_missing 38 = .ok (.aload_n 0, 1) := by decide +kernel
theorem d_M_missing_39 : decode b_M_missing 39 = .ok (.getfield 49, 3) := by decide +kernel
theorem d_M_missing_42 : decode b_M_missing 42 = .ok (.if_icmp .ge 49, 3) := by decide +kernel
theorem d_M_missing_45 : decode b_M_missing 45 = .ok (.iload 4, 2) := by decide +kernel
theorem d_M_missing_47 : decode b_M_missing 47 = .ok (.ifCond .eq 35, 3) := by decide +kernel
theorem d_M_missing_50 : decode b_M_missing 50 = .ok (.aload_n 0, 1) := by decide +kernel
theorem d_M_missing_51 : decode b_M_missing 51 = .ok (.getfield 7, 3) := by decide +kernel
theorem d_M_missing_54 : decode b_M_missing 54 = .ok (.iconst 3, 1) := by decide +kernel
theorem d_M_missing_55 : decode b_M_missing 55 = .ok (.iload 5, 2) := by decide +kernel
theorem d_M_missing_57 : decode b_M_missing 57 = .ok (.imul, 1) := by decide +kernel
theorem d_M_missing_58 : decode b_M_missing 58 = .ok (.iaload, 1) := by decide +kernel
theorem d_M_missing_59 : decode b_M_missing 59 = .ok (.iload_n 3, 1) := by decide +kernel
theorem d_M_missing_60 : decode b_M_missing 60 = .ok (.if_icmp .ne 18, 3) := by decide +kernel
theorem d_M_missing_63 : decode b_M_missing 63 = .ok (.aload_n 0, 1) := by decide +kernel
theorem d_M_missing_64 : decode b_M_missing 64 = .ok (.getfield 7, 3) := by decide +kernel
theorem d_M_missing_67 : decode b_M_missing 67 = .ok (.iconst 3, 1) := by decide +kernel
theorem d_M_missing_68 : decode b_M_missing 68 = .ok (.iload 5, 2) := by decide +kernel
theorem d_M_missing_70 : decode b_M_missing 70 = .ok (.imul, 1) := by decide +kernel
theorem d_M_missing_71 : decode b_M_missing 71 = .ok (.iconst 1, 1) := by decide +kernel
theorem d_M_missing_72 : decode b_M_missing 72 = .ok (.iadd, 1) := by decide +kernel
theorem d_M_missing_73 : decode b_M_missing 73 = .ok (.iaload, 1) := by decide +kernel
theorem d_M_missing_74 : decode b_M_missing 74 = .ok (.iload_n 1, 1) := by decide +kernel
theorem d_M_missing_75 : decode b_M_missing 75 = .ok (.if_icmp .eq 7, 3) := by decide +kernel
theorem d_M_missing_78 : decode b_M_missing 78 = .ok (.iconst 1, 1) := by decide +kernel
theorem d_M_missing_79 : decode b_M_missing 79 = .ok (.goto 4, 3) := by decide +kernel
theorem d_M_missing_82 : decode b_M_missing 82 = .ok (.iconst 0, 1) := by decide +kernel
theorem d_M_missing_83 : decode b_M_missing 83 = .ok (.istore 4, 2) := by decide +kernel
theorem d_M_missing_85 : decode b_M_missing 85 = .ok (.iinc 5 1, 3) := by decide +kernel
theorem d_M_missing_88 : decode b_M_missing 88 = .ok (.goto (-52), 3) := by decide +kernel
theorem d_M_missing_91 : decode b_M_missing 91 = .ok (.iload_n 2, 1) := by decide +kernel
theorem d_M_missing_92 : decode b_M_missing 92 = .ok (.iload 4, 2) := by decide +kernel
theorem d_M_missing_94 : decode b_M_missing 94 = .ok (.ifCond .eq 16, 3) := by decide +kernel
theorem d_M_missing_97 : decode b_M_missing 97 = .ok (.aload_n 0, 1) := by decide +kernel
theorem d_M_missing_98 : decode b_M_missing 98 = .ok (.getfield 35, 3) := by decide +kernel
theorem d_M_missing_101 : decode b_M_missing 101 = .ok (.iload_n 3, 1) := by decide +kernel
theorem d_M_missing_102 : decode b_M_missing 102 = .ok (.baload, 1) := by decide +kernel
theorem d_M_missing_103 : decode b_M_missing 103 = .ok (.ifCond .eq 7, 3) := by decide +kernel
theorem d_M_missing_106 : decode b_M_missing 106 = .ok (.iconst 1, 1) := by decide +kernel
theorem d_M_missing_107 : decode b_M_missing 107 = .ok (.goto 4, 3) := by decide +kernel
theorem d_M_missing_110 : decode b_M_missing 110 = .ok (.iconst 0, 1) := by decide +kernel
theorem d_M_missing_111 : decode b_M_missing 111 = .ok (.iadd, 1) := by decide +kernel
theorem d_M_missing_112 : decode b_M_missing 112 = .ok (.istore_n 2, 1) := by decide +kernel
theorem d_M_missing_113 : decode b_M_missing 113 = .ok (.iinc 3 1, 3) := by decide +kernel
theorem d_M_missing_116 : decode b_M_missing 116 = .ok (.goto (-94), 3) := by decide +kernel
theorem d_M_missing_119 : decode b_M_missing 119 = .ok (.iload_n 2, 1) := by decide +kernel
theorem d_M_missing_120 : decode b_M_missing 120 = .ok (.ireturn, 1) := by decide +kernel
theorem d_M_left_0 : decode b_M_left 0 = .ok (.aload_n 0, 1) := by decide +kernel
theorem d_M_left_1 : decode b_M_left 1 = .ok (.iconst 0, 1) := by decide +kernel
theorem d_M_left_2 : decode b_M_left 2 = .ok (.putfield 38, 3) := by decide +kernel
theorem d_M_left_5 : decode b_M_left 5 = .ok (.iconst 0, 1) := by decide +kernel
theorem d_M_left_6 : decode b_M_left 6 = .ok (.istore_n 2, 1) := by decide +kernel
theorem d_M_left_7 : decode b_M_left 7 = .ok (.aload_n 0, 1) := by decide +kernel
theorem d_M_left_8 : decode b_M_left 8 = .ok (.invokevirtual 70, 3) := by decide +kernel
theorem d_M_left_11 : decode b_M_left 11 = .ok (.iconst 1, 1) := by decide +kernel
theorem d_M_left_12 : decode b_M_left 12 = .ok (.istore_n 3, 1) := by decide +kernel
theorem d_M_left_13 : decode b_M_left 13 = .ok (.iload_n 3, 1) := by decide +kernel
theorem d_M_left_14 : decode b_M_left 14 = .ok (.aload_n 0, 1) := by decide +kernel
theorem d_M_left_15 : decode b_M_left 15 = .ok (.getfield 42, 3) := by decide +kernel
theorem d_M_left_18 : decode b_M_left 18 = .ok (.if_icmp .gt 32, 3) := by decide +kernel
theorem d_M_left_21 : decode b_M_left 21 = .ok (.iload_n 1, 1) := by decide +kernel
theorem d_M_left_22 : decode b_M_left 22 = .ok (.ifCond .lt 28, 3) := by decide +kernel
theorem d_M_left_25 : decode b_M_left 25 = .ok (.aload_n 0, 1) := by decide +kernel
theorem d_M_left_26 : decode b_M_left 26 = .ok (.getfield 35, 3) := by decide +kernel
theorem d_M_left_29 : decode b_M_left 29 = .ok (.iload_n 3, 1) := by decide +kernel
theorem d_M_left_30 : decode b_M_left 30 = .ok (.baload, 1) := by decide +kernel
theorem d_M_left_31 : decode b_M_left 31 = .ok (.ifCond .eq 13, 3) := by decide +kernel
theorem d_M_left_34 : decode b_M_left 34 = .ok (.iload_n 2, 1) := by decide +kernel
theorem d_M_left_35 : decode b_M_left 35 = .ok (.iload_n 1, 1) := by decide +kernel
theorem d_M_left_36 : decode b_M_left 36 = .ok (.if_icmp .ne 5, 3) := by decide +kernel
theorem d_M_left_39 : decode b_M_left 39 = .ok (.iload_n 3, 1) := by decide +kernel
theorem d_M_left_40 : decode b_M_left 40 = .ok (.ireturn, 1) := by decide +kernel
theorem d_M_left_41 : decode b_M_left 41 = .ok (.iinc 2 1, 3) := by decide +kernel
theorem d_M_left_44 : decode b_M_left 44 = .ok (.iinc 3 1, 3) := by decide +kernel
theorem d_M_left_47 : decode b_M_left 47 = .ok (.goto (-34), 3) := by decide +kernel
theorem d_M_left_50 : decode b_M_left 50 = .ok (.iconst 0, 1) := by decide +kernel
theorem d_M_left_51 : decode b_M_left 51 = .ok (.ireturn, 1) := by decide +kernel
