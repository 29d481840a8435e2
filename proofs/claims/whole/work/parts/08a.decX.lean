theorem d_X_init_0 : decode b_X_init 0 = .ok (.aload_n 0, 1) := by decide +kernel
theorem d_X_init_1 : decode b_X_init 1 = .ok (.invokespecial 1, 3) := by decide +kernel
theorem d_X_init_4 : decode b_X_init 4 = .ok (.aload_n 0, 1) := by decide +kernel
theorem d_X_init_5 : decode b_X_init 5 = .ok (.sipush 600, 3) := by decide +kernel
theorem d_X_init_8 : decode b_X_init 8 = .ok (.newarray .long, 2) := by decide +kernel
theorem d_X_init_10 : decode b_X_init 10 = .ok (.putfield 9, 3) := by decide +kernel
theorem d_X_init_13 : decode b_X_init 13 = .ok (.aload_n 0, 1) := by decide +kernel
theorem d_X_init_14 : decode b_X_init 14 = .ok (.sipush 600, 3) := by decide +kernel
theorem d_X_init_17 : decode b_X_init 17 = .ok (.newarray .long, 2) := by decide +kernel
theorem d_X_init_19 : decode b_X_init 19 = .ok (.putfield 13, 3) := by decide +kernel
theorem d_X_init_22 : decode b_X_init 22 = .ok (.aload_n 0, 1) := by decide +kernel
theorem d_X_init_23 : decode b_X_init 23 = .ok (.sipush 600, 3) := by decide +kernel
theorem d_X_init_26 : decode b_X_init 26 = .ok (.newarray .int, 2) := by decide +kernel
theorem d_X_init_28 : decode b_X_init 28 = .ok (.putfield 16, 3) := by decide +kernel
theorem d_X_init_31 : decode b_X_init 31 = .ok (.aload_n 0, 1) := by decide +kernel
theorem d_X_init_32 : decode b_X_init 32 = .ok (.getfield 16, 3) := by decide +kernel
theorem d_X_init_35 : decode b_X_init 35 = .ok (.iconst (-1), 1) := by decide +kernel
theorem d_X_init_36 : decode b_X_init 36 = .ok (.invokestatic 20, 3) := by decide +kernel
theorem d_X_init_39 : decode b_X_init 39 = .ok (.aload_n 0, 1) := by decide +kernel
theorem d_X_init_40 : decode b_X_init 40 = .ok (.sipush 600, 3) := by decide +kernel
theorem d_X_init_43 : decode b_X_init 43 = .ok (.newarray .boolean, 2) := by decide +kernel
theorem d_X_init_45 : decode b_X_init 45 = .ok (.putfield 26, 3) := by decide +kernel
theorem d_X_init_48 : decode b_X_init 48 = .ok (.aload_n 0, 1) := by decide +kernel
theorem d_X_init_49 : decode b_X_init 49 = .ok (.bipush 100, 2) := by decide +kernel
theorem d_X_init_51 : decode b_X_init 51 = .ok (.newarray .int, 2) := by decide +kernel
theorem d_X_init_53 : decode b_X_init 53 = .ok (.putfield 30, 3) := by decide +kernel
theorem d_X_init_56 : decode b_X_init 56 = .ok (.aload_n 0, 1) := by decide +kernel
theorem d_X_init_57 : decode b_X_init 57 = .ok (.iconst 0, 1) := by decide +kernel
theorem d_X_init_58 : decode b_X_init 58 = .ok (.putfield 33, 3) := by decide +kernel
theorem d_X_init_61 : decode b_X_init 61 = .ok (.aload_n 0, 1) := by decide +kernel
theorem d_X_init_62 : decode b_X_init 62 = .ok (.iconst 0, 1) := by decide +kernel
theorem d_X_init_63 : decode b_X_init 63 = .ok (.putfield 37, 3) := by decide +kernel
theorem d_X_init_66 : decode b_X_init 66 = .ok (.aload_n 0, 1) := by decide +kernel
theorem d_X_init_67 : decode b_X_init 67 = .ok (.lconst 0, 1) := by decide +kernel
theorem d_X_init_68 : decode b_X_init 68 = .ok (.putfield 40, 3) := by decide +kernel
theorem d_X_init_71 : decode b_X_init 71 = .ok (.return_, 1) := by decide +kernel
theorem d_JA_fill_0 : decode b_JA_fill 0 = .ok (.iconst 0, 1) := by decide +kernel
theorem d_JA_fill_1 : decode b_JA_fill 1 = .ok (.istore_n 2, 1) := by decide +kernel
theorem d_JA_fill_2 : decode b_JA_fill 2 = .ok (.aload_n 0, 1) := by decide +kernel
theorem d_JA_fill_3 : decode b_JA_fill 3 = .ok (.arraylength, 1) := by decide +kernel
theorem d_JA_fill_4 : decode b_JA_fill 4 = .ok (.istore_n 3, 1) := by decide +kernel
theorem d_JA_fill_5 : decode b_JA_fill 5 = .ok (.iload_n 2, 1) := by decide +kernel
theorem d_JA_fill_6 : decode b_JA_fill 6 = .ok (.iload_n 3, 1) := by decide +kernel
theorem d_JA_fill_7 : decode b_JA_fill 7 = .ok (.if_icmp .ge 13, 3) := by decide +kernel
theorem d_JA_fill_10 : decode b_JA_fill 10 = .ok (.aload_n 0, 1) := by decide +kernel
theorem d_JA_fill_11 : decode b_JA_fill 11 = .ok (.iload_n 2, 1) := by decide +kernel
theorem d_JA_fill_12 : decode b_JA_fill 12 = .ok (.iload_n 1, 1) := by decide +kernel
theorem d_JA_fill_13 : decode b_JA_fill 13 = .ok (.iastore, 1) := by decide +kernel
theorem d_JA_fill_14 : decode b_JA_fill 14 = .ok (.iinc 2 1, 3) := by decide +kernel
theorem d_JA_fill_17 : decode b_JA_fill 17 = .ok (.goto (-12), 3) := by decide +kernel
theorem d_JA_fill_20 : decode b_JA_fill 20 = .ok (.return_, 1) := by decide +kernel
theorem d_X_record_0 : decode b_X_record 0 = .ok (.aload_n 0, 1) := by decide +kernel
theorem d_X_record_1 : decode b_X_record 1 = .ok (.getfield 33, 3) := by decide +kernel
theorem d_X_record_4 : decode b_X_record 4 = .ok (.bipush 60, 2) := by decide +kernel
theorem d_X_record_6 : decode b_X_record 6 = .ok (.if_icmp .lt 5, 3) := by decide +kernel
theorem d_X_record_9 : decode b_X_record 9 = .ok (.iconst 0, 1) := by decide +kernel
theorem d_X_record_10 : decode b_X_record 10 = .ok (.ireturn, 1) := by decide +kernel
theorem d_X_record_11 : decode b_X_record 11 = .ok (.aload_n 0, 1) := by decide +kernel
theorem d_X_record_12 : decode b_X_record 12 = .ok (.dup, 1) := by decide +kernel
theorem d_X_record_13 : decode b_X_record 13 = .ok (.getfield 33, 3) := by decide +kernel
theorem d_X_record_16 : decode b_X_record 16 = .ok (.iconst 1, 1) := by decide +kernel
theorem d_X_record_17 : decode b_X_record 17 = .ok (.iadd, 1) := by decide +kernel
theorem d_X_record_18 : decode b_X_record 18 = .ok (.putfield 33, 3) := by decide +kernel
theorem d_X_record_21 : decode b_X_record 21 = .ok (.aload_n 0, 1) := by decide +kernel
theorem d_X_record_22 : decode b_X_record 22 = .ok (.getfield 33, 3) := by decide +kernel
theorem d_X_record_25 : decode b_X_record 25 = .ok (.ireturn, 1) := by decide +kernel
theorem d_X_value_0 : decode b_X_value 0 = .ok (.aload_n 0, 1) := by decide +kernel
theorem d_X_value_1 : decode b_X_value 1 = .ok (.iload_n 1, 1) := by decide +kernel
theorem d_X_value_2 : decode b_X_value 2 = .ok (.invokevirtual 44, 3) := by decide +kernel
theorem d_X_value_5 : decode b_X_value 5 = .ok (.ifCond .eq 17, 3) := by decide +kernel
theorem d_X_value_8 : decode b_X_value 8 = .ok (.iload_n 2, 1) := by decide +kernel
theorem d_X_value_9 : decode b_X_value 9 = .ok (.invokestatic 48, 3) := by decide +kernel
theorem d_X_value_12 : decode b_X_value 12 = .ok (.ifCond .eq 10, 3) := by decide +kernel
theorem d_X_value_15 : decode b_X_value 15 = .ok (.iload_n 3, 1) := by decide +kernel
theorem d_X_value_16 : decode b_X_value 16 = .ok (.invokestatic 51, 3) := by decide +kernel
theorem d_X_value_19 : decode b_X_value 19 = .ok (.ifCond .ne 5, 3) := by decide +kernel
theorem d_X_value_22 : decode b_X_value 22 = .ok (.iconst 0, 1) := by decide +kernel
theorem d_X_value_23 : decode b_X_value 23 = .ok (.ireturn, 1) := by decide +kernel
theorem d_X_value_24 : decode b_X_value 24 = .ok (.aload_n 0, 1) := by decide +kernel
theorem d_X_value_25 : decode b_X_value 25 = .ok (.iload_n 1, 1) := by decide +kernel
theorem d_X_value_26 : decode b_X_value 26 = .ok (.iload_n 2, 1) := by decide +kernel
theorem d_X_value_27 : decode b_X_value 27 = .ok (.iload_n 3, 1) := by decide +kernel
theorem d_X_value_28 : decode b_X_value 28 = .ok (.invokevirtual 54, 3) := by decide +kernel
theorem d_X_value_31 : decode b_X_value 31 = .ok (.ifCond .ne 13, 3) := by decide +kernel
theorem d_X_value_34 : decode b_X_value 34 = .ok (.aload_n 0, 1) := by decide +kernel
theorem d_X_value_35 : decode b_X_value 35 = .ok (.getfield 37, 3) := by decide +kernel
theorem d_X_value_38 : decode b_X_value 38 = .ok (.sipush 400, 3) := by decide +kernel
theorem d_X_value_41 : decode b_X_value 41 = .ok (.if_icmp .lt 5, 3) := by decide +kernel
theorem d_X_value_44 : decode b_X_value 44 = .ok (.iconst 0, 1) := by decide +kernel
theorem d_X_value_45 : decode b_X_value 45 = .ok (.ireturn, 1) := by decide +kernel
theorem d_X_value_46 : decode b_X_value 46 = .ok (.aload_n 0, 1) := by decide +kernel
theorem d_X_value_47 : decode b_X_value 47 = .ok (.getfield 9, 3) := by decide +kernel
theorem d_X_value_50 : decode b_X_value 50 = .ok (.iload_n 2, 1) := by decide +kernel
theorem d_X_value_51 : decode b_X_value 51 = .ok (.iload_n 3, 1) := by decide +kernel
theorem d_X_value_52 : decode b_X_value 52 = .ok (.invokestatic 58, 3) := by decide +kernel
theorem d_X_value_55 : decode b_X_value 55 = .ok (.dup2, 1) := by decide +kernel
theorem d_X_value_56 : decode b_X_value 56 = .ok (.laload, 1) := by decide +kernel
theorem d_X_value_57 : decode b_X_value 57 = .ok (.iload_n 1, 1) := by decide +kernel
theorem d_X_value_58 : decode b_X_value 58 = .ok (.invokestatic 62, 3) := by decide +kernel
theorem d_X_value_61 : decode b_X_value 61 = .ok (.lor, 1) := by decide +kernel
theorem d_X_value_62 : decode b_X_value 62 = .ok (.lastore, 1) := by decide +kernel
theorem d_X_value_63 : decode b_X_value 63 = .ok (.aload_n 0, 1) := by decide +kernel
theorem d_X_value_64 : decode b_X_value 64 = .ok (.dup, 1) := by decide +kernel
theorem d_X_value_65 : decode b_X_value 65 = .ok (.getfield 37, 3) := by decide +kernel
theorem d_X_value_68 : decode b_X_value 68 = .ok (.iconst 1, 1) := by decide +kernel
theorem d_X_value_69 : decode b_X_value 69 = .ok (.iadd, 1) := by decide +kernel
theorem d_X_value_70 : decode b_X_value 70 = .ok (.putfield 37, 3) := by decide +kernel
theorem d_X_value_73 : decode b_X_value 73 = .ok (.aload_n 0, 1) := by decide +kernel
theorem d_X_value_74 : decode b_X_value 74 = .ok (.iload_n 2, 1) := by decide +kernel
theorem d_X_value_75 : decode b_X_value 75 = .ok (.iload_n 3, 1) := by decide +kernel
theorem d_X_value_76 : decode b_X_value 76 = .ok (.iload_n 1, 1) := by decide +kernel
theorem d_X_value_77 : decode b_X_value 77 = .ok (.invokestatic 62, 3) := by decide +kernel
theorem d_X_value_80 : decode b_X_value 80 = .ok (.invokevirtual 66, 3) := by decide +kernel
theorem d_X_value_83 : decode b_X_value 83 = .ok (.aload_n 0, 1) := by decide +kernel
theorem d_X_value_84 : decode b_X_value 84 = .ok (.iload_n 1, 1) := by decide +kernel
theorem d_X_value_85 : decode b_X_value 85 = .ok (.iload_n 2, 1) := by decide +kernel
theorem d_X_value_86 : decode b_X_value 86 = .ok (.invokevirtual 70, 3) := by decide +kernel
theorem d_X_value_89 : decode b_X_value 89 = .ok (.ireturn, 1) := by decide +kernel
theorem d_X_isRecord_0 : decode b_X_isRecord 0 = .ok (.iload_n 1, 1) := by decide +kernel
theorem d_X_isRecord_1 : decode b_X_isRecord 1 = .ok (.iconst 1, 1) := by decide +kernel
theorem d_X_isRecord_2 : decode b_X_isRecord 2 = .ok (.if_icmp .lt 15, 3) := by decide +kernel
theorem d_X_isRecord_5 : decode b_X_isRecord 5 = .ok (.iload_n 1, 1) := by decide +kernel
theorem d_X_isRecord_6 : decode b_X_isRecord 6 = .ok (.aload_n 0, 1) := by decide +kernel
theorem d_X_isRecord_7 : decode b_X_isRecord 7 = .ok (.getfield 33, 3) := by decide +kernel
theorem d_X_isRecord_10 : decode b_X_isRecord 10 = .ok (.if_icmp .gt 7, 3) := by decide +kernel
theorem d_X_isRecord_13 : decode b_X_isRecord 13 = .ok (.iconst 1, 1) := by decide +kernel
theorem d_X_isRecord_14 : decode b_X_isRecord 14 = .ok (.goto 4, 3) := by decide +kernel
theorem d_X_isRecord_17 : decode b_X_isRecord 17 = .ok (.iconst 0, 1) := by decide +kernel
theorem d_X_isRecord_18 : decode b_X_isRecord 18 = .ok (.ireturn, 1) := by decide +kernel
theorem d_X_isFacet_0 : decode b_X_isFacet 0 = .ok (.iload_n 0, 1) := by decide +kernel
theorem d_X_isFacet_1 : decode b_X_isFacet 1 = .ok (.ifCond .lt 13, 3) := by decide +kernel
theorem d_X_isFacet_4 : decode b_X_isFacet 4 = .ok (.iload_n 0, 1) := by decide +kernel
theorem d_X_isFacet_5 : decode b_X_isFacet 5 = .ok (.bipush 6, 2) := by decide +kernel
theorem d_X_isFacet_7 : decode b_X_isFacet 7 = .ok (.if_icmp .ge 7, 3) := by decide +kernel
theorem d_X_isFacet_10 : decode b_X_isFacet 10 = .ok (.iconst 1, 1) := by decide +kernel
theorem d_X_isFacet_11 : decode b_X_isFacet 11 = .ok (.goto 4, 3) := by decide +kernel
theorem d_X_isFacet_14 : decode b_X_isFacet 14 = .ok (.iconst 0, 1) := by decide +kernel
theorem d_X_isFacet_15 : decode b_X_isFacet 15 = .ok (.ireturn, 1) := by decide +kernel
theorem d_X_isValue_0 : decode b_X_isValue 0 = .ok (.iload_n 0, 1) := by decide +kernel
theorem d_X_isValue_1 : decode b_X_isValue 1 = .ok (.ifCond .lt 13, 3) := by decide +kernel
theorem d_X_isValue_4 : decode b_X_isValue 4 = .ok (.iload_n 0, 1) := by decide +kernel
theorem d_X_isValue_5 : decode b_X_isValue 5 = .ok (.bipush 100, 2) := by decide +kernel
theorem d_X_isValue_7 : decode b_X_isValue 7 = .ok (.if_icmp .ge 7, 3) := by decide +kernel
theorem d_X_isValue_10 : decode b_X_isValue 10 = .ok (.iconst 1, 1) := by decide +kernel
theorem d_X_isValue_11 : decode b_X_isValue 11 = .ok (.goto 4, 3) := by decide +kernel
theorem d_X_isValue_14 : decode b_X_isValue 14 = .ok (.iconst 0, 1) := by decide +kernel
theorem d_X_isValue_15 : decode b_X_isValue 15 = .ok (.ireturn, 1) := by decide +kernel
theorem d_X_holds_0 : decode b_X_holds 0 = .ok (.aload_n 0, 1) := by decide +kernel
theorem d_X_holds_1 : decode b_X_holds 1 = .ok (.getfield 9, 3) := by decide +kernel
theorem d_X_holds_4 : decode b_X_holds 4 = .ok (.iload_n 2, 1) := by decide +kernel
theorem d_X_holds_5 : decode b_X_holds 5 = .ok (.iload_n 3, 1) := by decide +kernel
theorem d_X_holds_6 : decode b_X_holds 6 = .ok (.invokestatic 58, 3) := by decide +kernel
theorem d_X_holds_9 : decode b_X_holds 9 = .ok (.laload, 1) := by decide +kernel
theorem d_X_holds_10 : decode b_X_holds 10 = .ok (.iload_n 1, 1) := by decide +kernel
theorem d_X_holds_11 : decode b_X_holds 11 = .ok (.invokestatic 62, 3) := by decide +kernel
theorem d_X_holds_14 : decode b_X_holds 14 = .ok (.land, 1) := by decide +kernel
theorem d_X_holds_15 : decode b_X_holds 15 = .ok (.lconst 0, 1) := by decide +kernel
theorem d_X_holds_16 : decode b_X_holds 16 = .ok (.lcmp, 1) := by decide +kernel
theorem d_X_holds_17 : decode b_X_holds 17 = .ok (.ifCond .eq 7, 3) := by decide +kernel
theorem d_X_holds_20 : decode b_X_holds 20 = .ok (.iconst 1, 1) := by decide +kernel
theorem d_X_holds_21 : decode b_X_holds 21 = .ok (.goto 4, 3) := by decide +kernel
theorem d_X_holds_24 : decode b_X_holds 24 = .ok (.iconst 0, 1) := by decide +kernel
theorem d_X_holds_25 : decode b_X_holds 25 = .ok (.ireturn, 1) := by decide +kernel
theorem d_X_cell_0 : decode b_X_cell 0 = .ok (.iload_n 0, 1) := by decide +kernel
theorem d_X_cell_1 : decode b_X_cell 1 = .ok (.bipush 100, 2) := by decide +kernel
theorem d_X_cell_3 : decode b_X_cell 3 = .ok (.imul, 1) := by decide +kernel
theorem d_X_cell_4 : decode b_X_cell 4 = .ok (.iload_n 1, 1) := by decide +kernel
theorem d_X_cell_5 : decode b_X_cell 5 = .ok (.iadd, 1) := by decide +kernel
theorem d_X_cell_6 : decode b_X_cell 6 = .ok (.ireturn, 1) := by decide +kernel
theorem d_X_bit_0 : decode b_X_bit 0 = .ok (.lconst 1, 1) := by decide +kernel
theorem d_X_bit_1 : decode b_X_bit 1 = .ok (.iload_n 0, 1) := by decide +kernel
theorem d_X_bit_2 : decode b_X_bit 2 = .ok (.lshl, 1) := by decide +kernel
theorem d_X_bit_3 : decode b_X_bit 3 = .ok (.lreturn, 1) := by decide +kernel
theorem d_X_raise_0 : decode b_X_raise 0 = .ok (.iload_n 2, 1) := by decide +kernel
theorem d_X_raise_1 : decode b_X_raise 1 = .ok (.istore 5, 2) := by decide +kernel
theorem d_X_raise_3 : decode b_X_raise 3 = .ok (.iconst 0, 1) := by decide +kernel
theorem d_X_raise_4 : decode b_X_raise 4 = .ok (.istore 6, 2) := by decide +kernel
theorem d_X_raise_6 : decode b_X_raise 6 = .ok (.iload 6, 2) := by decide +kernel
theorem d_X_raise_8 : decode b_X_raise 8 = .ok (.bipush 100, 2) := by decide +kernel
theorem d_X_raise_10 : decode b_X_raise 10 = .ok (.if_icmp .ge 45, 3) := by decide +kernel
theorem d_X_raise_13 : decode b_X_raise 13 = .ok (.iload 5, 2) := by decide +kernel
theorem d_X_raise_15 : decode b_X_raise 15 = .ok (.invokestatic 51, 3) := by decide +kernel
theorem d_X_raise_18 : decode b_X_raise 18 = .ok (.ifCond .eq 37, 3) := by decide +kernel
theorem d_X_raise_21 : decode b_X_raise 21 = .ok (.aload_n 0, 1) := by decide +kernel
theorem d_X_raise_22 : decode b_X_raise 22 = .ok (.getfield 13, 3) := by decide +kernel
theorem d_X_raise_25 : decode b_X_raise 25 = .ok (.iload_n 1, 1) := by decide +kernel
theorem d_X_raise_26 : decode b_X_raise 26 = .ok (.iload 5, 2) := by decide +kernel
theorem d_X_raise_28 : decode b_X_raise 28 = .ok (.invokestatic 58, 3) := by decide +kernel
theorem d_X_raise_31 : decode b_X_raise 31 = .ok (.dup2, 1) := by decide +kernel
theorem d_X_raise_32 : decode b_X_raise 32 = .ok (.laload, 1) := by decide +kernel
theorem d_X_raise_33 : decode b_X_raise 33 = .ok (.lload_n 3, 1) := by decide +kernel
theorem d_X_raise_34 : decode b_X_raise 34 = .ok (.lor, 1) := by decide +kernel
theorem d_X_raise_35 : decode b_X_raise 35 = .ok (.lastore, 1) := by decide +kernel
theorem d_X_raise_36 : decode b_X_raise 36 = .ok (.aload_n 0, 1) := by decide +kernel
theorem d_X_raise_37 : decode b_X_raise 37 = .ok (.getfield 16, 3) := by decide +kernel
theorem d_X_raise_40 : decode b_X_raise 40 = .ok (.iload_n 1, 1) := by decide +kernel
theorem d_X_raise_41 : decode b_X_raise 41 = .ok (.iload 5, 2) := by decide +kernel
theorem d_X_raise_43 : decode b_X_raise 43 = .ok (.invokestatic 58, 3) := by decide +kernel
theorem d_X_raise_46 : decode b_X_raise 46 = .ok (.iaload, 1) := by decide +kernel
theorem d_X_raise_47 : decode b_X_raise 47 = .ok (.istore 5, 2) := by decide +kernel
theorem d_X_raise_49 : decode b_X_raise 49 = .ok (.iinc 6 1, 3) := by decide +kernel
theorem d_X_raise_52 : decode b_X_raise 52 = .ok (.goto (-46), 3) := by decide +kernel
theorem d_X_raise_55 : decode b_X_raise 55 = .ok (.return_, 1) := by decide +kernel
theorem d_X_heldOf_0 : decode b_X_heldOf 0 = .ok (.iconst 0, 1) := by decide +kernel
theorem d_X_heldOf_1 : decode b_X_heldOf 1 = .ok (.istore_n 3, 1) := by decide +kernel
theorem d_X_heldOf_2 : decode b_X_heldOf 2 = .ok (.iconst 0, 1) := by decide +kernel
theorem d_X_heldOf_3 : decode b_X_heldOf 3 = .ok (.istore 4, 2) := by decide +kernel
theorem d_X_heldOf_5 : decode b_X_heldOf 5 = .ok (.iload 4, 2) := by decide +kernel
theorem d_X_heldOf_7 : decode b_X_heldOf 7 = .ok (.bipush 100, 2) := by decide +kernel
theorem d_X_heldOf_9 : decode b_X_heldOf 9 = .ok (.if_icmp .ge 23, 3) := by decide +kernel
theorem d_X_heldOf_12 : decode b_X_heldOf 12 = .ok (.aload_n 0, 1) := by decide +kernel
theorem d_X_heldOf_13 : decode b_X_heldOf 13 = .ok (.iload_n 1, 1) := by decide +kernel
theorem d_X_heldOf_14 : decode b_X_heldOf 14 = .ok (.iload_n 2, 1) := by decide +kernel
theorem d_X_heldOf_15 : decode b_X_heldOf 15 = .ok (.iload 4, 2) := by decide +kernel
theorem d_X_heldOf_17 : decode b_X_heldOf 17 = .ok (.invokevirtual 54, 3) := by decide +kernel
theorem d_X_heldOf_20 : decode b_X_heldOf 20 = .ok (.ifCond .eq 6, 3) := by decide +kernel
theorem d_X_heldOf_23 : decode b_X_heldOf 23 = .ok (.iinc 3 1, 3) := by decide +kernel
theorem d_X_heldOf_26 : decode b_X_heldOf 26 = .ok (.iinc 4 1, 3) := by decide +kernel
theorem d_X_heldOf_29 : decode b_X_heldOf 29 = .ok (.goto (-24), 3) := by decide +kernel
theorem d_X_heldOf_32 : decode b_X_heldOf 32 = .ok (.iload_n 3, 1) := by decide +kernel
theorem d_X_heldOf_33 : decode b_X_heldOf 33 = .ok (.ireturn, 1) := by decide +kernel
theorem d_X_gone_0 : decode b_X_gone 0 = .ok (.aload_n 0, 1) := by decide +kernel
theorem d_X_gone_1 : decode b_X_gone 1 = .ok (.iload_n 1, 1) := by decide +kernel
theorem d_X_gone_2 : decode b_X_gone 2 = .ok (.invokevirtual 44, 3) := by decide +kernel
theorem d_X_gone_5 : decode b_X_gone 5 = .ok (.ifCond .eq 17, 3) := by decide +kernel
theorem d_X_gone_8 : decode b_X_gone 8 = .ok (.iload_n 2, 1) := by decide +kernel
theorem d_X_gone_9 : decode b_X_gone 9 = .ok (.invokestatic 48, 3) := by decide +kernel
theorem d_X_gone_12 : decode b_X_gone 12 = .ok (.ifCond .eq 10, 3) := by decide +kernel
theorem d_X_gone_15 : decode b_X_gone 15 = .ok (.iload_n 3, 1) := by decide +kernel
theorem d_X_gone_16 : decode b_X_gone 16 = .ok (.invokestatic 51, 3) := by decide +kernel
theorem d_X_gone_19 : decode b_X_gone 19 = .ok (.ifCond .ne 5, 3) := by decide +kernel
theorem d_X_gone_22 : decode b_X_gone 22 = .ok (.iconst 0, 1) := by decide +kernel
theorem d_X_gone_23 : decode b_X_gone 23 = .ok (.ireturn, 1) := by decide +kernel
theorem d_X_gone_24 : decode b_X_gone 24 = .ok (.aload_n 0, 1) := by decide +kernel
theorem d_X_gone_25 : decode b_X_gone 25 = .ok (.iload_n 1, 1) := by decide +kernel
theorem d_X_gone_26 : decode b_X_gone 26 = .ok (.iload_n 2, 1) := by decide +kernel
theorem d_X_gone_27 : decode b_X_gone 27 = .ok (.iload_n 3, 1) := by decide +kernel
theorem d_X_gone_28 : decode b_X_gone 28 = .ok (.invokevirtual 54, 3) := by decide +kernel
theorem d_X_gone_31 : decode b_X_gone 31 = .ok (.ifCond .ne 5, 3) := by decide +kernel
theorem d_X_gone_34 : decode b_X_gone 34 = .ok (.iconst 0, 1) := by decide +kernel
theorem d_X_gone_35 : decode b_X_gone 35 = .ok (.ireturn, 1) := by decide +kernel
theorem d_X_gone_36 : decode b_X_gone 36 = .ok (.aload_n 0, 1) := by decide +kernel
theorem d_X_gone_37 : decode b_X_gone 37 = .ok (.getfield 9, 3) := by decide +kernel
theorem d_X_gone_40 : decode b_X_gone 40 = .ok (.iload_n 2, 1) := by decide +kernel
theorem d_X_gone_41 : decode b_X_gone 41 = .ok (.iload_n 3, 1) := by decide +kernel
theorem d_X_gone_42 : decode b_X_gone 42 = .ok (.invokestatic 58, 3) := by decide +kernel
theorem d_X_gone_45 : decode b_X_gone 45 = .ok (.dup2, 1) := by decide +kernel
theorem d_X_gone_46 : decode b_X_gone 46 = .ok (.laload, 1) := by decide +kernel
theorem d_X_gone_47 : decode b_X_gone 47 = .ok (.iload_n 1, 1) := by decide +kernel
theorem d_X_gone_48 : decode b_X_gone 48 = .ok (.invokestatic 62, 3) := by decide +kernel
theorem d_X_gone_51 : decode b_X_gone 51 = .ok (.ldc2_w 73, 3) := by decide +kernel
theorem d_X_gone_54 : decode b_X_gone 54 = .ok (.lxor, 1) := by decide +kernel
theorem d_X_gone_55 : decode b_X_gone 55 = .ok (.land, 1) := by decide +kernel
theorem d_X_gone_56 : decode b_X_gone 56 = .ok (.lastore, 1) := by decide +kernel
theorem d_X_gone_57 : decode b_X_gone 57 = .ok (.aload_n 0, 1) := by decide +kernel
theorem d_X_gone_58 : decode b_X_gone 58 = .ok (.dup, 1) := by decide +kernel
theorem d_X_gone_59 : decode b_X_gone 59 = .ok (.getfield 37, 3) := by decide +kernel
theorem d_X_gone_62 : decode b_X_gone 62 = .ok (.iconst 1, 1) := by decide +kernel
theorem d_X_gone_63 : decode b_X_gone 63 = .ok (.isub, 1) := by decide +kernel
theorem d_X_gone_64 : decode b_X_gone 64 = .ok (.putfield 37, 3) := by decide +kernel
theorem d_X_gone_67 : decode b_X_gone 67 = .ok (.aload_n 0, 1) := by decide +kernel
theorem d_X_gone_68 : decode b_X_gone 68 = .ok (.iload_n 2, 1) := by decide +kernel
theorem d_X_gone_69 : decode b_X_gone 69 = .ok (.invokevirtual 75, 3) := by decide +kernel
theorem d_X_gone_72 : decode b_X_gone 72 = .ok (.iconst 1, 1) := by decide +kernel
theorem d_X_gone_73 : decode b_X_gone 73 = .ok (.ireturn, 1) := by decide +kernel
theorem d_X_raiseAll_0 : decode b_X_raiseAll 0 = .ok (.iconst 0, 1) := by decide +kernel
theorem d_X_raiseAll_1 : decode b_X_raiseAll 1 = .ok (.istore_n 2, 1) := by decide +kernel
theorem d_X_raiseAll_2 : decode b_X_raiseAll 2 = .ok (.iload_n 2, 1) := by decide +kernel
theorem d_X_raiseAll_3 : decode b_X_raiseAll 3 = .ok (.bipush 100, 2) := by decide +kernel
theorem d_X_raiseAll_5 : decode b_X_raiseAll 5 = .ok (.if_icmp .ge 20, 3) := by decide +kernel
theorem d_X_raiseAll_8 : decode b_X_raiseAll 8 = .ok (.aload_n 0, 1) := by decide +kernel
theorem d_X_raiseAll_9 : decode b_X_raiseAll 9 = .ok (.getfield 13, 3) := by decide +kernel
theorem d_X_raiseAll_12 : decode b_X_raiseAll 12 = .ok (.iload_n 1, 1) := by decide +kernel
theorem d_X_raiseAll_13 : decode b_X_raiseAll 13 = .ok (.iload_n 2, 1) := by decide +kernel
theorem d_X_raiseAll_14 : decode b_X_raiseAll 14 = .ok (.invokestatic 58, 3) := by decide +kernel
theorem d_X_raiseAll_17 : decode b_X_raiseAll 17 = .ok (.lconst 0, 1) := by decide +kernel
theorem d_X_raiseAll_18 : decode b_X_raiseAll 18 = .ok (.lastore, 1) := by decide +kernel
theorem d_X_raiseAll_19 : decode b_X_raiseAll 19 = .ok (.iinc 2 1, 3) := by decide +kernel
theorem d_X_raiseAll_22 : decode b_X_raiseAll 22 = .ok (.goto (-20), 3) := by decide +kernel
theorem d_X_raiseAll_25 : decode b_X_raiseAll 25 = .ok (.iconst 0, 1) := by decide +kernel
theorem d_X_raiseAll_26 : decode b_X_raiseAll 26 = .ok (.istore_n 2, 1) := by decide +kernel
theorem d_X_raiseAll_27 : decode b_X_raiseAll 27 = .ok (.iload_n 2, 1) := by decide +kernel
theorem d_X_raiseAll_28 : decode b_X_raiseAll 28 = .ok (.bipush 100, 2) := by decide +kernel
theorem d_X_raiseAll_30 : decode b_X_raiseAll 30 = .ok (.if_icmp .ge 33, 3) := by decide +kernel
theorem d_X_raiseAll_33 : decode b_X_raiseAll 33 = .ok (.aload_n 0, 1) := by decide +kernel
theorem d_X_raiseAll_34 : decode b_X_raiseAll 34 = .ok (.getfield 9, 3) := by decide +kernel
theorem d_X_raiseAll_37 : decode b_X_raiseAll 37 = .ok (.iload_n 1, 1) := by decide +kernel
theorem d_X_raiseAll_38 : decode b_X_raiseAll 38 = .ok (.iload_n 2, 1) := by decide +kernel
theorem d_X_raiseAll_39 : decode b_X_raiseAll 39 = .ok (.invokestatic 58, 3) := by decide +kernel
theorem d_X_raiseAll_42 : decode b_X_raiseAll 42 = .ok (.laload, 1) := by decide +kernel
theorem d_X_raiseAll_43 : decode b_X_raiseAll 43 = .ok (.lstore_n 3, 1) := by decide +kernel
theorem d_X_raiseAll_44 : decode b_X_raiseAll 44 = .ok (.lload_n 3, 1) := by decide +kernel
theorem d_X_raiseAll_45 : decode b_X_raiseAll 45 = .ok (.lconst 0, 1) := by decide +kernel
theorem d_X_raiseAll_46 : decode b_X_raiseAll 46 = .ok (.lcmp, 1) := by decide +kernel
theorem d_X_raiseAll_47 : decode b_X_raiseAll 47 = .ok (.ifCond .eq 10, 3) := by decide +kernel
theorem d_X_raiseAll_50 : decode b_X_raiseAll 50 = .ok (.aload_n 0, 1) := by decide +kernel
theorem d_X_raiseAll_51 : decode b_X_raiseAll 51 = .ok (.iload_n 1, 1) := by decide +kernel
theorem d_X_raiseAll_52 : decode b_X_raiseAll 52 = .ok (.iload_n 2, 1) := by decide +kernel
theorem d_X_raiseAll_53 : decode b_X_raiseAll 53 = .ok (.lload_n 3, 1) := by decide +kernel
theorem d_X_raiseAll_54 : decode b_X_raiseAll 54 = .ok (.invokevirtual 66, 3) := by decide +kernel
theorem d_X_raiseAll_57 : decode b_X_raiseAll 57 = .ok (.iinc 2 1, 3) := by decide +kernel
theorem d_X_raiseAll_60 : decode b_X_raiseAll 60 = .ok (.goto (-33), 3) := by decide +kernel
theorem d_X_raiseAll_63 : decode b_X_raiseAll 63 = .ok (.return_, 1) := by decide +kernel
theorem d_X_narrower_0 : decode b_X_narrower 0 = .ok (.iload_n 1, 1) := by decide +kernel
theorem d_X_narrower_1 : decode b_X_narrower 1 = .ok (.invokestatic 48, 3) := by decide +kernel
theorem d_X_narrower_4 : decode b_X_narrower 4 = .ok (.ifCond .eq 10, 3) := by decide +kernel
theorem d_X_narrower_7 : decode b_X_narrower 7 = .ok (.iload_n 2, 1) := by decide +kernel
theorem d_X_narrower_8 : decode b_X_narrower 8 = .ok (.invokestatic 51, 3) := by decide +kernel
theorem d_X_narrower_11 : decode b_X_narrower 11 = .ok (.ifCond .ne 5, 3) := by decide +kernel
theorem d_X_narrower_14 : decode b_X_narrower 14 = .ok (.iconst 0, 1) := by decide +kernel
theorem d_X_narrower_15 : decode b_X_narrower 15 = .ok (.ireturn, 1) := by decide +kernel
theorem d_X_narrower_16 : decode b_X_narrower 16 = .ok (.iload_n 3, 1) := by decide +kernel
theorem d_X_narrower_17 : decode b_X_narrower 17 = .ok (.iconst (-1), 1) := by decide +kernel
theorem d_X_narrower_18 : decode b_X_narrower 18 = .ok (.if_icmp .eq 22, 3) := by decide +kernel
theorem d_X_narrower_21 : decode b_X_narrower 21 = .ok (.iload_n 3, 1) := by decide +kernel
theorem d_X_narrower_22 : decode b_X_narrower 22 = .ok (.invokestatic 51, 3) := by decide +kernel
theorem d_X_narrower_25 : decode b_X_narrower 25 = .ok (.ifCond .eq 13, 3) := by decide +kernel
theorem d_X_narrower_28 : decode b_X_narrower 28 = .ok (.aload_n 0, 1) := by decide +kernel
theorem d_X_narrower_29 : decode b_X_narrower 29 = .ok (.iload_n 1, 1) := by decide +kernel
theorem d_X_narrower_30 : decode b_X_narrower 30 = .ok (.iload_n 3, 1) := by decide +kernel
theorem d_X_narrower_31 : decode b_X_narrower 31 = .ok (.iload_n 2, 1) := by decide +kernel
theorem d_X_narrower_32 : decode b_X_narrower 32 = .ok (.invokevirtual 79, 3) := by decide +kernel
theorem d_X_narrower_35 : decode b_X_narrower 35 = .ok (.ifCond .eq 5, 3) := by decide +kernel
theorem d_X_narrower_38 : decode b_X_narrower 38 = .ok (.iconst 0, 1) := by decide +kernel
theorem d_X_narrower_39 : decode b_X_narrower 39 = .ok (.ireturn, 1) := by decide +kernel
theorem d_X_narrower_40 : decode b_X_narrower 40 = .ok (.aload_n 0, 1) := by decide +kernel
theorem d_X_narrower_41 : decode b_X_narrower 41 = .ok (.getfield 16, 3) := by decide +kernel
theorem d_X_narrower_44 : decode b_X_narrower 44 = .ok (.iload_n 1, 1) := by decide +kernel
theorem d_X_narrower_45 : decode b_X_narrower 45 = .ok (.iload_n 2, 1) := by decide +kernel
theorem d_X_narrower_46 : decode b_X_narrower 46 = .ok (.invokestatic 58, 3) := by decide +kernel
theorem d_X_narrower_49 : decode b_X_narrower 49 = .ok (.iload_n 3, 1) := by decide +kernel
theorem d_X_narrower_50 : decode b_X_narrower 50 = .ok (.iastore, 1) := by decide +kernel
theorem d_X_narrower_51 : decode b_X_narrower 51 = .ok (.aload_n 0, 1) := by decide +kernel
theorem d_X_narrower_52 : decode b_X_narrower 52 = .ok (.iload_n 1, 1) := by decide +kernel
theorem d_X_narrower_53 : decode b_X_narrower 53 = .ok (.invokevirtual 75, 3) := by decide +kernel
theorem d_X_narrower_56 : decode b_X_narrower 56 = .ok (.iconst 1, 1) := by decide +kernel
theorem d_X_narrower_57 : decode b_X_narrower 57 = .ok (.ireturn, 1) := by decide +kernel
theorem d_X_isAtOrBelow_0 : decode b_X_isAtOrBelow 0 = .ok (.iload_n 2, 1) := by decide +kernel
theorem d_X_isAtOrBelow_1 : decode b_X_isAtOrBelow 1 = .ok (.istore 4, 2) := by decide +kernel
theorem d_X_isAtOrBelow_3 : decode b_X_isAtOrBelow 3 = .ok (.iconst 0, 1) := by decide +kernel
theorem d_X_isAtOrBelow_4 : decode b_X_isAtOrBelow 4 = .ok (.istore 5, 2) := by decide +kernel
theorem d_X_isAtOrBelow_6 : decode b_X_isAtOrBelow 6 = .ok (.iload 5, 2) := by decide +kernel
theorem d_X_isAtOrBelow_8 : decode b_X_isAtOrBelow 8 = .ok (.bipush 100, 2) := by decide +kernel
theorem d_X_isAtOrBelow_10 : decode b_X_isAtOrBelow 10 = .ok (.if_icmp .ge 38, 3) := by decide +kernel
theorem d_X_isAtOrBelow_13 : decode b_X_isAtOrBelow 13 = .ok (.iload 4, 2) := by decide +kernel
theorem d_X_isAtOrBelow_15 : decode b_X_isAtOrBelow 15 = .ok (.invokestatic 51, 3) := by decide +kernel
theorem d_X_isAtOrBelow_18 : decode b_X_isAtOrBelow 18 = .ok (.ifCond .eq 30, 3) := by decide +kernel
theorem d_X_isAtOrBelow_21 : decode b_X_isAtOrBelow 21 = .ok (.iload 4, 2) := by decide +kernel
theorem d_X_isAtOrBelow_23 : decode b_X_isAtOrBelow 23 = .ok (.iload_n 3, 1) := by decide +kernel
theorem d_X_isAtOrBelow_24 : decode b_X_isAtOrBelow 24 = .ok (.if_icmp .ne 5, 3) := by decide +kernel
theorem d_X_isAtOrBelow_27 : decode b_X_isAtOrBelow 27 = .ok (.iconst 1, 1) := by decide +kernel
theorem d_X_isAtOrBelow_28 : decode b_X_isAtOrBelow 28 = .ok (.ireturn, 1) := by decide +kernel
theorem d_X_isAtOrBelow_29 : decode b_X_isAtOrBelow 29 = .ok (.aload_n 0, 1) := by decide +kernel
theorem d_X_isAtOrBelow_30 : decode b_X_isAtOrBelow 30 = .ok (.getfield 16, 3) := by decide +kernel
theorem d_X_isAtOrBelow_33 : decode b_X_isAtOrBelow 33 = .ok (.iload_n 1, 1) := by decide +kernel
theorem d_X_isAtOrBelow_34 : decode b_X_isAtOrBelow 34 = .ok (.iload 4, 2) := by decide +kernel
theorem d_X_isAtOrBelow_36 : decode b_X_isAtOrBelow 36 = .ok (.invokestatic 58, 3) := by decide +kernel
theorem d_X_isAtOrBelow_39 : decode b_X_isAtOrBelow 39 = .ok (.iaload, 1) := by decide +kernel
theorem d_X_isAtOrBelow_40 : decode b_X_isAtOrBelow 40 = .ok (.istore 4, 2) := by decide +kernel
theorem d_X_isAtOrBelow_42 : decode b_X_isAtOrBelow 42 = .ok (.iinc 5 1, 3) := by decide +kernel
theorem d_X_isAtOrBelow_45 : decode b_X_isAtOrBelow 45 = .ok (.goto (-39), 3) := by decide +kernel
theorem d_X_isAtOrBelow_48 : decode b_X_isAtOrBelow 48 = .ok (.iconst 0, 1) := by decide +kernel
theorem d_X_isAtOrBelow_49 : decode b_X_isAtOrBelow 49 = .ok (.ireturn, 1) := by decide +kernel
theorem d_X_hit_0 : decode b_X_hit 0 = .ok (.aload_n 0, 1) := by decide +kernel
theorem d_X_hit_1 : decode b_X_hit 1 = .ok (.iload_n 1, 1) := by decide +kernel
theorem d_X_hit_2 : decode b_X_hit 2 = .ok (.invokevirtual 44, 3) := by decide +kernel
theorem d_X_hit_5 : decode b_X_hit 5 = .ok (.ifCond .ne 5, 3) := by decide +kernel
theorem d_X_hit_8 : decode b_X_hit 8 = .ok (.iconst (-1), 1) := by decide +kernel
theorem d_X_hit_9 : decode b_X_hit 9 = .ok (.ireturn, 1) := by decide +kernel
theorem d_X_hit_10 : decode b_X_hit 10 = .ok (.iload_n 2, 1) := by decide +kernel
theorem d_X_hit_11 : decode b_X_hit 11 = .ok (.ifCond .eq 19, 3) := by decide +kernel
theorem d_X_hit_14 : decode b_X_hit 14 = .ok (.aload_n 0, 1) := by decide +kernel
theorem d_X_hit_15 : decode b_X_hit 15 = .ok (.dup, 1) := by decide +kernel
theorem d_X_hit_16 : decode b_X_hit 16 = .ok (.getfield 40, 3) := by decide +kernel
theorem d_X_hit_19 : decode b_X_hit 19 = .ok (.iload_n 1, 1) := by decide +kernel
theorem d_X_hit_20 : decode b_X_hit 20 = .ok (.invokestatic 62, 3) := by decide +kernel
theorem d_X_hit_23 : decode b_X_hit 23 = .ok (.lor, 1) := by decide +kernel
theorem d_X_hit_24 : decode b_X_hit 24 = .ok (.putfield 40, 3) := by decide +kernel
theorem d_X_hit_27 : decode b_X_hit 27 = .ok (.goto 20, 3) := by decide +kernel
theorem d_X_hit_30 : decode b_X_hit 30 = .ok (.aload_n 0, 1) := by decide +kernel
theorem d_X_hit_31 : decode b_X_hit 31 = .ok (.dup, 1) := by decide +kernel
theorem d_X_hit_32 : decode b_X_hit 32 = .ok (.getfield 40, 3) := by decide +kernel
theorem d_X_hit_35 : decode b_X_hit 35 = .ok (.iload_n 1, 1) := by decide +kernel
theorem d_X_hit_36 : decode b_X_hit 36 = .ok (.invokestatic 62, 3) := by decide +kernel
theorem d_X_hit_39 : decode b_X_hit 39 = .ok (.ldc2_w 73, 3) := by decide +kernel
theorem d_X_hit_42 : decode b_X_hit 42 = .ok (.lxor, 1) := by decide +kernel
theorem d_X_hit_43 : decode b_X_hit 43 = .ok (.land, 1) := by decide +kernel
theorem d_X_hit_44 : decode b_X_hit 44 = .ok (.putfield 40, 3) := by decide +kernel
theorem d_X_hit_47 : decode b_X_hit 47 = .ok (.aload_n 0, 1) := by decide +kernel
theorem d_X_hit_48 : decode b_X_hit 48 = .ok (.getfield 40, 3) := by decide +kernel
theorem d_X_hit_51 : decode b_X_hit 51 = .ok (.invokestatic 82, 3) := by decide +kernel
theorem d_X_hit_54 : decode b_X_hit 54 = .ok (.ireturn, 1) := by decide +kernel
theorem d_JL_bitCount_0 : decode b_JL_bitCount 0 = .ok (.lload_n 0, 1) := by decide +kernel
theorem d_JL_bitCount_1 : decode b_JL_bitCount 1 = .ok (.lload_n 0, 1) := by decide +kernel
theorem d_JL_bitCount_2 : decode b_JL_bitCount 2 = .ok (.iconst 1, 1) := by decide +kernel
theorem d_JL_bitCount_3 : decode b_JL_bitCount 3 = .ok (.lushr, 1) := by decide +kernel
theorem d_JL_bitCount_4 : decode b_JL_bitCount 4 = .ok (.ldc2_w 314, 3) := by decide +kernel
theorem d_JL_bitCount_7 : decode b_JL_bitCount 7 = .ok (.land, 1) := by decide +kernel
theorem d_JL_bitCount_8 : decode b_JL_bitCount 8 = .ok (.lsub, 1) := by decide +kernel
theorem d_JL_bitCount_9 : decode b_JL_bitCount 9 = .ok (.lstore_n 0, 1) := by decide +kernel
theorem d_JL_bitCount_10 : decode b_JL_bitCount 10 = .ok (.lload_n 0, 1) := by decide +kernel
theorem d_JL_bitCount_11 : decode b_JL_bitCount 11 = .ok (.ldc2_w 316, 3) := by decide +kernel
theorem d_JL_bitCount_14 : decode b_JL_bitCount 14 = .ok (.land, 1) := by decide +kernel
theorem d_JL_bitCount_15 : decode b_JL_bitCount 15 = .ok (.lload_n 0, 1) := by decide +kernel
theorem d_JL_bitCount_16 : decode b_JL_bitCount 16 = .ok (.iconst 2, 1) := by decide +kernel
theorem d_JL_bitCount_17 : decode b_JL_bitCount 17 = .ok (.lushr, 1) := by decide +kernel
theorem d_JL_bitCount_18 : decode b_JL_bitCount 18 = .ok (.ldc2_w 316, 3) := by decide +kernel
theorem d_JL_bitCount_21 : decode b_JL_bitCount 21 = .ok (.land, 1) := by decide +kernel
theorem d_JL_bitCount_22 : decode b_JL_bitCount 22 = .ok (.ladd, 1) := by decide +kernel
theorem d_JL_bitCount_23 : decode b_JL_bitCount 23 = .ok (.lstore_n 0, 1) := by decide +kernel
theorem d_JL_bitCount_24 : decode b_JL_bitCount 24 = .ok (.lload_n 0, 1) := by decide +kernel
theorem d_JL_bitCount_25 : decode b_JL_bitCount 25 = .ok (.lload_n 0, 1) := by decide +kernel
theorem d_JL_bitCount_26 : decode b_JL_bitCount 26 = .ok (.iconst 4, 1) := by decide +kernel
theorem d_JL_bitCount_27 : decode b_JL_bitCount 27 = .ok (.lushr, 1) := by decide +kernel
theorem d_JL_bitCount_28 : decode b_JL_bitCount 28 = .ok (.ladd, 1) := by decide +kernel
theorem d_JL_bitCount_29 : decode b_JL_bitCount 29 = .ok (.ldc2_w 318, 3) := by decide +kernel
theorem d_JL_bitCount_32 : decode b_JL_bitCount 32 = .ok (.land, 1) := by decide +kernel
theorem d_JL_bitCount_33 : decode b_JL_bitCount 33 = .ok (.lstore_n 0, 1) := by decide +kernel
theorem d_JL_bitCount_34 : decode b_JL_bitCount 34 = .ok (.lload_n 0, 1) := by decide +kernel
theorem d_JL_bitCount_35 : decode b_JL_bitCount 35 = .ok (.lload_n 0, 1) := by decide +kernel
theorem d_JL_bitCount_36 : decode b_JL_bitCount 36 = .ok (.bipush 8, 2) := by decide +kernel
theorem d_JL_bitCount_38 : decode b_JL_bitCount 38 = .ok (.lushr, 1) := by decide +kernel
theorem d_JL_bitCount_39 : decode b_JL_bitCount 39 = .ok (.ladd, 1) := by decide +kernel
theorem d_JL_bitCount_40 : decode b_JL_bitCount 40 = .ok (.lstore_n 0, 1) := by decide +kernel
theorem d_JL_bitCount_41 : decode b_JL_bitCount 41 = .ok (.lload_n 0, 1) := by decide +kernel
theorem d_JL_bitCount_42 : decode b_JL_bitCount 42 = .ok (.lload_n 0, 1) := by decide +kernel
theorem d_JL_bitCount_43 : decode b_JL_bitCount 43 = .ok (.bipush 16, 2) := by decide +kernel
theorem d_JL_bitCount_45 : decode b_JL_bitCount 45 = .ok (.lushr, 1) := by decide +kernel
theorem d_JL_bitCount_46 : decode b_JL_bitCount 46 = .ok (.ladd, 1) := by decide +kernel
theorem d_JL_bitCount_47 : decode b_JL_bitCount 47 = .ok (.lstore_n 0, 1) := by decide +kernel
theorem d_JL_bitCount_48 : decode b_JL_bitCount 48 = .ok (.lload_n 0, 1) := by decide +kernel
theorem d_JL_bitCount_49 : decode b_JL_bitCount 49 = .ok (.lload_n 0, 1) := by decide +kernel
theorem d_JL_bitCount_50 : decode b_JL_bitCount 50 = .ok (.bipush 32, 2) := by decide +kernel
theorem d_JL_bitCount_52 : decode b_JL_bitCount 52 = .ok (.lushr, 1) := by decide +kernel
theorem d_JL_bitCount_53 : decode b_JL_bitCount 53 = .ok (.ladd, 1) := by decide +kernel
theorem d_JL_bitCount_54 : decode b_JL_bitCount 54 = .ok (.lstore_n 0, 1) := by decide +kernel
theorem d_JL_bitCount_55 : decode b_JL_bitCount 55 = .ok (.lload_n 0, 1) := by decide +kernel
theorem d_JL_bitCount_56 : decode b_JL_bitCount 56 = .ok (.l2i, 1) := by decide +kernel
theorem d_JL_bitCount_57 : decode b_JL_bitCount 57 = .ok (.bipush 127, 2) := by decide +kernel
theorem d_JL_bitCount_59 : decode b_JL_bitCount 59 = .ok (.iand, 1) := by decide +kernel
theorem d_JL_bitCount_60 : decode b_JL_bitCount 60 = .ok (.ireturn, 1) := by decide +kernel
theorem d_X_choose_0 : decode b_X_choose 0 = .ok (.iload_n 1, 1) := by decide +kernel
theorem d_X_choose_1 : decode b_X_choose 1 = .ok (.invokestatic 48, 3) := by decide +kernel
theorem d_X_choose_4 : decode b_X_choose 4 = .ok (.ifCond .eq 10, 3) := by decide +kernel
theorem d_X_choose_7 : decode b_X_choose 7 = .ok (.iload_n 2, 1) := by decide +kernel
theorem d_X_choose_8 : decode b_X_choose 8 = .ok (.invokestatic 51, 3) := by decide +kernel
theorem d_X_choose_11 : decode b_X_choose 11 = .ok (.ifCond .ne 5, 3) := by decide +kernel
theorem d_X_choose_14 : decode b_X_choose 14 = .ok (.iconst (-1), 1) := by decide +kernel
theorem d_X_choose_15 : decode b_X_choose 15 = .ok (.ireturn, 1) := by decide +kernel
theorem d_X_choose_16 : decode b_X_choose 16 = .ok (.aload_n 0, 1) := by decide +kernel
theorem d_X_choose_17 : decode b_X_choose 17 = .ok (.getfield 26, 3) := by decide +kernel
theorem d_X_choose_20 : decode b_X_choose 20 = .ok (.iload_n 1, 1) := by decide +kernel
theorem d_X_choose_21 : decode b_X_choose 21 = .ok (.iload_n 2, 1) := by decide +kernel
theorem d_X_choose_22 : decode b_X_choose 22 = .ok (.invokestatic 58, 3) := by decide +kernel
theorem d_X_choose_25 : decode b_X_choose 25 = .ok (.aload_n 0, 1) := by decide +kernel
theorem d_X_choose_26 : decode b_X_choose 26 = .ok (.getfield 26, 3) := by decide +kernel
theorem d_X_choose_29 : decode b_X_choose 29 = .ok (.iload_n 1, 1) := by decide +kernel
theorem d_X_choose_30 : decode b_X_choose 30 = .ok (.iload_n 2, 1) := by decide +kernel
theorem d_X_choose_31 : decode b_X_choose 31 = .ok (.invokestatic 58, 3) := by decide +kernel
theorem d_X_choose_34 : decode b_X_choose 34 = .ok (.baload, 1) := by decide +kernel
theorem d_X_choose_35 : decode b_X_choose 35 = .ok (.ifCond .ne 7, 3) := by decide +kernel
theorem d_X_choose_38 : decode b_X_choose 38 = .ok (.iconst 1, 1) := by decide +kernel
theorem d_X_choose_39 : decode b_X_choose 39 = .ok (.goto 4, 3) := by decide +kernel
theorem d_X_choose_42 : decode b_X_choose 42 = .ok (.iconst 0, 1) := by decide +kernel
theorem d_X_choose_43 : decode b_X_choose 43 = .ok (.bastore, 1) := by decide +kernel
theorem d_X_choose_44 : decode b_X_choose 44 = .ok (.aload_n 0, 1) := by decide +kernel
theorem d_X_choose_45 : decode b_X_choose 45 = .ok (.invokevirtual 88, 3) := by decide +kernel
theorem d_X_choose_48 : decode b_X_choose 48 = .ok (.invokestatic 82, 3) := by decide +kernel
theorem d_X_choose_51 : decode b_X_choose 51 = .ok (.ireturn, 1) := by decide +kernel
theorem d_X_hitsLeft_0 : decode b_X_hitsLeft 0 = .ok (.aload_n 0, 1) := by decide +kernel
theorem d_X_hitsLeft_1 : decode b_X_hitsLeft 1 = .ok (.getfield 40, 3) := by decide +kernel
theorem d_X_hitsLeft_4 : decode b_X_hitsLeft 4 = .ok (.lstore_n 1, 1) := by decide +kernel
theorem d_X_hitsLeft_5 : decode b_X_hitsLeft 5 = .ok (.iconst 0, 1) := by decide +kernel
theorem d_X_hitsLeft_6 : decode b_X_hitsLeft 6 = .ok (.istore_n 3, 1) := by decide +kernel
theorem d_X_hitsLeft_7 : decode b_X_hitsLeft 7 = .ok (.iload_n 3, 1) := by decide +kernel
theorem d_X_hitsLeft_8 : decode b_X_hitsLeft 8 = .ok (.bipush 6, 2) := by decide +kernel
theorem d_X_hitsLeft_10 : decode b_X_hitsLeft 10 = .ok (.if_icmp .ge 17, 3) := by decide +kernel
theorem d_X_hitsLeft_13 : decode b_X_hitsLeft 13 = .ok (.lload_n 1, 1) := by decide +kernel
theorem d_X_hitsLeft_14 : decode b_X_hitsLeft 14 = .ok (.aload_n 0, 1) := by decide +kernel
theorem d_X_hitsLeft_15 : decode b_X_hitsLeft 15 = .ok (.iload_n 3, 1) := by decide +kernel
theorem d_X_hitsLeft_16 : decode b_X_hitsLeft 16 = .ok (.invokevirtual 125, 3) := by decide +kernel
theorem d_X_hitsLeft_19 : decode b_X_hitsLeft 19 = .ok (.land, 1) := by decide +kernel
theorem d_X_hitsLeft_20 : decode b_X_hitsLeft 20 = .ok (.lstore_n 1, 1) := by decide +kernel
theorem d_X_hitsLeft_21 : decode b_X_hitsLeft 21 = .ok (.iinc 3 1, 3) := by decide +kernel
theorem d_X_hitsLeft_24 : decode b_X_hitsLeft 24 = .ok (.goto (-17), 3) := by decide +kernel
theorem d_X_hitsLeft_27 : decode b_X_hitsLeft 27 = .ok (.lload_n 1, 1) := by decide +kernel
theorem d_X_hitsLeft_28 : decode b_X_hitsLeft 28 = .ok (.lreturn, 1) := by decide +kernel
theorem d_X_admitted_0 : decode b_X_admitted 0 = .ok (.iconst 0, 1) := by decide +kernel
theorem d_X_admitted_1 : decode b_X_admitted 1 = .ok (.istore_n 2, 1) := by decide +kernel
theorem d_X_admitted_2 : decode b_X_admitted 2 = .ok (.lconst 0, 1) := by decide +kernel
theorem d_X_admitted_3 : decode b_X_admitted 3 = .ok (.lstore_n 3, 1) := by decide +kernel
theorem d_X_admitted_4 : decode b_X_admitted 4 = .ok (.iconst 0, 1) := by decide +kernel
theorem d_X_admitted_5 : decode b_X_admitted 5 = .ok (.istore 5, 2) := by decide +kernel
theorem d_X_admitted_7 : decode b_X_admitted 7 = .ok (.iload 5, 2) := by decide +kernel
theorem d_X_admitted_9 : decode b_X_admitted 9 = .ok (.bipush 100, 2) := by decide +kernel
theorem d_X_admitted_11 : decode b_X_admitted 11 = .ok (.if_icmp .ge 39, 3) := by decide +kernel
theorem d_X_admitted_14 : decode b_X_admitted 14 = .ok (.aload_n 0, 1) := by decide +kernel
theorem d_X_admitted_15 : decode b_X_admitted 15 = .ok (.getfield 26, 3) := by decide +kernel
theorem d_X_admitted_18 : decode b_X_admitted 18 = .ok (.iload_n 1, 1) := by decide +kernel
theorem d_X_admitted_19 : decode b_X_admitted 19 = .ok (.iload 5, 2) := by decide +kernel
theorem d_X_admitted_21 : decode b_X_admitted 21 = .ok (.invokestatic 58, 3) := by decide +kernel
theorem d_X_admitted_24 : decode b_X_admitted 24 = .ok (.baload, 1) := by decide +kernel
theorem d_X_admitted_25 : decode b_X_admitted 25 = .ok (.ifCond .eq 19, 3) := by decide +kernel
theorem d_X_admitted_28 : decode b_X_admitted 28 = .ok (.iconst 1, 1) := by decide +kernel
theorem d_X_admitted_29 : decode b_X_admitted 29 = .ok (.istore_n 2, 1) := by decide +kernel
theorem d_X_admitted_30 : decode b_X_admitted 30 = .ok (.lload_n 3, 1) := by decide +kernel
theorem d_X_admitted_31 : decode b_X_admitted 31 = .ok (.aload_n 0, 1) := by decide +kernel
theorem d_X_admitted_32 : decode b_X_admitted 32 = .ok (.getfield 13, 3) := by decide +kernel
theorem d_X_admitted_35 : decode b_X_admitted 35 = .ok (.iload_n 1, 1) := by decide +kernel
theorem d_X_admitted_36 : decode b_X_admitted 36 = .ok (.iload 5, 2) := by decide +kernel
theorem d_X_admitted_38 : decode b_X_admitted 38 = .ok (.invokestatic 58, 3) := by decide +kernel
theorem d_X_admitted_41 : decode b_X_admitted 41 = .ok (.laload, 1) := by decide +kernel
theorem d_X_admitted_42 : decode b_X_admitted 42 = .ok (.lor, 1) := by decide +kernel
theorem d_X_admitted_43 : decode b_X_admitted 43 = .ok (.lstore_n 3, 1) := by decide +kernel
theorem d_X_admitted_44 : decode b_X_admitted 44 = .ok (.iinc 5 1, 3) := by decide +kernel
theorem d_X_admitted_47 : decode b_X_admitted 47 = .ok (.goto (-40), 3) := by decide +kernel
theorem d_X_admitted_50 : decode b_X_admitted 50 = .ok (.iload_n 2, 1) := by decide +kernel
theorem d_X_admitted_51 : decode b_X_admitted 51 = .ok (.ifCond .eq 7, 3) := by decide +kernel
theorem d_X_admitted_54 : decode b_X_admitted 54 = .ok (.lload_n 3, 1) := by decide +kernel
theorem d_X_admitted_55 : decode b_X_admitted 55 = .ok (.goto 6, 3) := by decide +kernel
theorem d_X_admitted_58 : decode b_X_admitted 58 = .ok (.ldc2_w 73, 3) := by decide +kernel
theorem d_X_admitted_61 : decode b_X_admitted 61 = .ok (.lreturn, 1) := by decide +kernel
theorem d_X_count_0 : decode b_X_count 0 = .ok (.iload_n 1, 1) := by decide +kernel
theorem d_X_count_1 : decode b_X_count 1 = .ok (.invokestatic 48, 3) := by decide +kernel
theorem d_X_count_4 : decode b_X_count 4 = .ok (.ifCond .eq 10, 3) := by decide +kernel
theorem d_X_count_7 : decode b_X_count 7 = .ok (.iload_n 2, 1) := by decide +kernel
theorem d_X_count_8 : decode b_X_count 8 = .ok (.invokestatic 51, 3) := by decide +kernel
theorem d_X_count_11 : decode b_X_count 11 = .ok (.ifCond .ne 5, 3) := by decide +kernel
theorem d_X_count_14 : decode b_X_count 14 = .ok (.iconst (-1), 1) := by decide +kernel
theorem d_X_count_15 : decode b_X_count 15 = .ok (.ireturn, 1) := by decide +kernel
theorem d_X_count_16 : decode b_X_count 16 = .ok (.aload_n 0, 1) := by decide +kernel
theorem d_X_count_17 : decode b_X_count 17 = .ok (.invokevirtual 88, 3) := by decide +kernel
theorem d_X_count_20 : decode b_X_count 20 = .ok (.aload_n 0, 1) := by decide +kernel
theorem d_X_count_21 : decode b_X_count 21 = .ok (.getfield 13, 3) := by decide +kernel
theorem d_X_count_24 : decode b_X_count 24 = .ok (.iload_n 1, 1) := by decide +kernel
theorem d_X_count_25 : decode b_X_count 25 = .ok (.iload_n 2, 1) := by decide +kernel
theorem d_X_count_26 : decode b_X_count 26 = .ok (.invokestatic 58, 3) := by decide +kernel
theorem d_X_count_29 : decode b_X_count 29 = .ok (.laload, 1) := by decide +kernel
theorem d_X_count_30 : decode b_X_count 30 = .ok (.land, 1) := by decide +kernel
theorem d_X_count_31 : decode b_X_count 31 = .ok (.invokestatic 82, 3) := by decide +kernel
theorem d_X_count_34 : decode b_X_count 34 = .ok (.ireturn, 1) := by decide +kernel
theorem d_X_top_0 : decode b_X_top 0 = .ok (.iload_n 1, 1) := by decide +kernel
theorem d_X_top_1 : decode b_X_top 1 = .ok (.invokestatic 48, 3) := by decide +kernel
theorem d_X_top_4 : decode b_X_top 4 = .ok (.ifCond .ne 5, 3) := by decide +kernel
theorem d_X_top_7 : decode b_X_top 7 = .ok (.iconst (-1), 1) := by decide +kernel
theorem d_X_top_8 : decode b_X_top 8 = .ok (.ireturn, 1) := by decide +kernel
theorem d_X_top_9 : decode b_X_top 9 = .ok (.aload_n 0, 1) := by decide +kernel
theorem d_X_top_10 : decode b_X_top 10 = .ok (.iload_n 1, 1) := by decide +kernel
theorem d_X_top_11 : decode b_X_top 11 = .ok (.invokevirtual 92, 3) := by decide +kernel
theorem d_X_top_14 : decode b_X_top 14 = .ok (.aload_n 0, 1) := by decide +kernel
theorem d_X_top_15 : decode b_X_top 15 = .ok (.iload_n 2, 1) := by decide +kernel
theorem d_X_top_16 : decode b_X_top 16 = .ok (.invokevirtual 95, 3) := by decide +kernel
theorem d_X_top_19 : decode b_X_top 19 = .ok (.ireturn, 1) := by decide +kernel
theorem d_X_countValues_0 : decode b_X_countValues 0 = .ok (.aload_n 0, 1) := by decide +kernel
theorem d_X_countValues_1 : decode b_X_countValues 1 = .ok (.invokevirtual 88, 3) := by decide +kernel
theorem d_X_countValues_4 : decode b_X_countValues 4 = .ok (.lstore_n 2, 1) := by decide +kernel
theorem d_X_countValues_5 : decode b_X_countValues 5 = .ok (.iconst 0, 1) := by decide +kernel
theorem d_X_countValues_6 : decode b_X_countValues 6 = .ok (.istore 4, 2) := by decide +kernel
theorem d_X_countValues_8 : decode b_X_countValues 8 = .ok (.iload 4, 2) := by decide +kernel
theorem d_X_countValues_10 : decode b_X_countValues 10 = .ok (.bipush 100, 2) := by decide +kernel
theorem d_X_countValues_12 : decode b_X_countValues 12 = .ok (.if_icmp .ge 32, 3) := by decide +kernel
theorem d_X_countValues_15 : decode b_X_countValues 15 = .ok (.aload_n 0, 1) := by decide +kernel
theorem d_X_countValues_16 : decode b_X_countValues 16 = .ok (.getfield 30, 3) := by decide +kernel
theorem d_X_countValues_19 : decode b_X_countValues 19 = .ok (.iload 4, 2) := by decide +kernel
theorem d_X_countValues_21 : decode b_X_countValues 21 = .ok (.lload_n 2, 1) := by decide +kernel
theorem d_X_countValues_22 : decode b_X_countValues 22 = .ok (.aload_n 0, 1) := by decide +kernel
theorem d_X_countValues_23 : decode b_X_countValues 23 = .ok (.getfield 13, 3) := by decide +kernel
theorem d_X_countValues_26 : decode b_X_countValues 26 = .ok (.iload_n 1, 1) := by decide +kernel
theorem d_X_countValues_27 : decode b_X_countValues 27 = .ok (.iload 4, 2) := by decide +kernel
theorem d_X_countValues_29 : decode b_X_countValues 29 = .ok (.invokestatic 58, 3) := by decide +kernel
theorem d_X_countValues_32 : decode b_X_countValues 32 = .ok (.laload, 1) := by decide +kernel
theorem d_X_countValues_33 : decode b_X_countValues 33 = .ok (.land, 1) := by decide +kernel
theorem d_X_countValues_34 : decode b_X_countValues 34 = .ok (.invokestatic 82, 3) := by decide +kernel
theorem d_X_countValues_37 : decode b_X_countValues 37 = .ok (.iastore, 1) := by decide +kernel
theorem d_X_countValues_38 : decode b_X_countValues 38 = .ok (.iinc 4 1, 3) := by decide +kernel
theorem d_X_countValues_41 : decode b_X_countValues 41 = .ok (.goto (-33), 3) := by decide +kernel
theorem d_X_countValues_44 : decode b_X_countValues 44 = .ok (.return_, 1) := by decide +kernel
theorem d_X_ranked_0 : decode b_X_ranked 0 = .ok (.iconst 0, 1) := by decide +kernel
theorem d_X_ranked_1 : decode b_X_ranked 1 = .ok (.istore_n 2, 1) := by decide +kernel
theorem d_X_ranked_2 : decode b_X_ranked 2 = .ok (.bipush 60, 2) := by decide +kernel
theorem d_X_ranked_4 : decode b_X_ranked 4 = .ok (.istore_n 3, 1) := by decide +kernel
theorem d_X_ranked_5 : decode b_X_ranked 5 = .ok (.iload_n 3, 1) := by decide +kernel
theorem d_X_ranked_6 : decode b_X_ranked 6 = .ok (.iconst 1, 1) := by decide +kernel
theorem d_X_ranked_7 : decode b_X_ranked 7 = .ok (.if_icmp .lt 47, 3) := by decide +kernel
theorem d_X_ranked_10 : decode b_X_ranked 10 = .ok (.iconst 0, 1) := by decide +kernel
theorem d_X_ranked_11 : decode b_X_ranked 11 = .ok (.istore 4, 2) := by decide +kernel
theorem d_X_ranked_13 : decode b_X_ranked 13 = .ok (.iload 4, 2) := by decide +kernel
theorem d_X_ranked_15 : decode b_X_ranked 15 = .ok (.bipush 100, 2) := by decide +kernel
theorem d_X_ranked_17 : decode b_X_ranked 17 = .ok (.if_icmp .ge 31, 3) := by decide +kernel
theorem d_X_ranked_20 : decode b_X_ranked 20 = .ok (.aload_n 0, 1) := by decide +kernel
theorem d_X_ranked_21 : decode b_X_ranked 21 = .ok (.getfield 30, 3) := by decide +kernel
theorem d_X_ranked_24 : decode b_X_ranked 24 = .ok (.iload 4, 2) := by decide +kernel
theorem d_X_ranked_26 : decode b_X_ranked 26 = .ok (.iaload, 1) := by decide +kernel
theorem d_X_ranked_27 : decode b_X_ranked 27 = .ok (.iload_n 3, 1) := by decide +kernel
theorem d_X_ranked_28 : decode b_X_ranked 28 = .ok (.if_icmp .ne 14, 3) := by decide +kernel
theorem d_X_ranked_31 : decode b_X_ranked 31 = .ok (.iload_n 2, 1) := by decide +kernel
theorem d_X_ranked_32 : decode b_X_ranked 32 = .ok (.iload_n 1, 1) := by decide +kernel
theorem d_X_ranked_33 : decode b_X_ranked 33 = .ok (.if_icmp .ne 6, 3) := by decide +kernel
theorem d_X_ranked_36 : decode b_X_ranked 36 = .ok (.iload 4, 2) := by decide +kernel
theorem d_X_ranked_38 : decode b_X_ranked 38 = .ok (.ireturn, 1) := by decide +kernel
theorem d_X_ranked_39 : decode b_X_ranked 39 = .ok (.iinc 2 1, 3) := by decide +kernel
theorem d_X_ranked_42 : decode b_X_ranked 42 = .ok (.iinc 4 1, 3) := by decide +kernel
theorem d_X_ranked_45 : decode b_X_ranked 45 = .ok (.goto (-32), 3) := by decide +kernel
theorem d_X_ranked_48 : decode b_X_ranked 48 = .ok (.iinc 3 (-1), 3) := by decide +kernel
theorem d_X_ranked_51 : decode b_X_ranked 51 = .ok (.goto (-46), 3) := by decide +kernel
theorem d_X_ranked_54 : decode b_X_ranked 54 = .ok (.iconst (-1), 1) := by decide +kernel
theorem d_X_ranked_55 : decode b_X_ranked 55 = .ok (.ireturn, 1) := by decide +kernel
theorem d_X_below_0 : decode b_X_below 0 = .ok (.iload_n 1, 1) := by decide +kernel
theorem d_X_below_1 : decode b_X_below 1 = .ok (.invokestatic 48, 3) := by decide +kernel
theorem d_X_below_4 : decode b_X_below 4 = .ok (.ifCond .eq 14, 3) := by decide +kernel
theorem d_X_below_7 : decode b_X_below 7 = .ok (.iload_n 2, 1) := by decide +kernel
theorem d_X_below_8 : decode b_X_below 8 = .ok (.ifCond .ne 12, 3) := by decide +kernel
theorem d_X_below_11 : decode b_X_below 11 = .ok (.iload_n 3, 1) := by decide +kernel
theorem d_X_below_12 : decode b_X_below 12 = .ok (.invokestatic 51, 3) := by decide +kernel
theorem d_X_below_15 : decode b_X_below 15 = .ok (.ifCond .ne 5, 3) := by decide +kernel
theorem d_X_below_18 : decode b_X_below 18 = .ok (.iconst (-1), 1) := by decide +kernel
theorem d_X_below_19 : decode b_X_below 19 = .ok (.ireturn, 1) := by decide +kernel
theorem d_X_below_20 : decode b_X_below 20 = .ok (.aload_n 0, 1) := by decide +kernel
theorem d_X_below_21 : decode b_X_below 21 = .ok (.iload_n 1, 1) := by decide +kernel
theorem d_X_below_22 : decode b_X_below 22 = .ok (.invokevirtual 92, 3) := by decide +kernel
theorem d_X_below_25 : decode b_X_below 25 = .ok (.aload_n 0, 1) := by decide +kernel
theorem d_X_below_26 : decode b_X_below 26 = .ok (.iload_n 1, 1) := by decide +kernel
theorem d_X_below_27 : decode b_X_below 27 = .ok (.iload_n 2, 1) := by decide +kernel
theorem d_X_below_28 : decode b_X_below 28 = .ok (.ifCond .eq 7, 3) := by decide +kernel
theorem d_X_below_31 : decode b_X_below 31 = .ok (.iconst (-1), 1) := by decide +kernel
theorem d_X_below_32 : decode b_X_below 32 = .ok (.goto 4, 3) := by decide +kernel
theorem d_X_below_35 : decode b_X_below 35 = .ok (.iload_n 3, 1) := by decide +kernel
theorem d_X_below_36 : decode b_X_below 36 = .ok (.invokevirtual 99, 3) := by decide +kernel
theorem d_X_below_39 : decode b_X_below 39 = .ok (.aload_n 0, 1) := by decide +kernel
theorem d_X_below_40 : decode b_X_below 40 = .ok (.iload 4, 2) := by decide +kernel
theorem d_X_below_42 : decode b_X_below 42 = .ok (.invokevirtual 95, 3) := by decide +kernel
theorem d_X_below_45 : decode b_X_below 45 = .ok (.ireturn, 1) := by decide +kernel
theorem d_X_dropOthersThanBelow_0 : decode b_X_dropOthersThanBelow 0 = .ok (.iconst 0, 1) := by decide +kernel
theorem d_X_dropOthersThanBelow_1 : decode b_X_dropOthersThanBelow 1 = .ok (.istore_n 3, 1) := by decide +kernel
theorem d_X_dropOthersThanBelow_2 : decode b_X_dropOthersThanBelow 2 = .ok (.iload_n 3, 1) := by decide +kernel
theorem d_X_dropOthersThanBelow_3 : decode b_X_dropOthersThanBelow 3 = .ok (.bipush 100, 2) := by decide +kernel
theorem d_X_dropOthersThanBelow_5 : decode b_X_dropOthersThanBelow 5 = .ok (.if_icmp .ge 30, 3) := by decide +kernel
theorem d_X_dropOthersThanBelow_8 : decode b_X_dropOthersThanBelow 8 = .ok (.aload_n 0, 1) := by decide +kernel
theorem d_X_dropOthersThanBelow_9 : decode b_X_dropOthersThanBelow 9 = .ok (.getfield 16, 3) := by decide +kernel
theorem d_X_dropOthersThanBelow_12 : decode b_X_dropOthersThanBelow 12 = .ok (.iload_n 1, 1) := by decide +kernel
theorem d_X_dropOthersThanBelow_13 : decode b_X_dropOthersThanBelow 13 = .ok (.iload_n 3, 1) := by decide +kernel
theorem d_X_dropOthersThanBelow_14 : decode b_X_dropOthersThanBelow 14 = .ok (.invokestatic 58, 3) := by decide +kernel
theorem d_X_dropOthersThanBelow_17 : decode b_X_dropOthersThanBelow 17 = .ok (.iaload, 1) := by decide +kernel
theorem d_X_dropOthersThanBelow_18 : decode b_X_dropOthersThanBelow 18 = .ok (.iload_n 2, 1) := by decide +kernel
theorem d_X_dropOthersThanBelow_19 : decode b_X_dropOthersThanBelow 19 = .ok (.if_icmp .eq 10, 3) := by decide +kernel
theorem d_X_dropOthersThanBelow_22 : decode b_X_dropOthersThanBelow 22 = .ok (.aload_n 0, 1) := by decide +kernel
theorem d_X_dropOthersThanBelow_23 : decode b_X_dropOthersThanBelow 23 = .ok (.getfield 30, 3) := by decide +kernel
theorem d_X_dropOthersThanBelow_26 : decode b_X_dropOthersThanBelow 26 = .ok (.iload_n 3, 1) := by decide +kernel
theorem d_X_dropOthersThanBelow_27 : decode b_X_dropOthersThanBelow 27 = .ok (.iconst 0, 1) := by decide +kernel
theorem d_X_dropOthersThanBelow_28 : decode b_X_dropOthersThanBelow 28 = .ok (.iastore, 1) := by decide +kernel
theorem d_X_dropOthersThanBelow_29 : decode b_X_dropOthersThanBelow 29 = .ok (.iinc 3 1, 3) := by decide +kernel
theorem d_X_dropOthersThanBelow_32 : decode b_X_dropOthersThanBelow 32 = .ok (.goto (-30), 3) := by decide +kernel
theorem d_X_dropOthersThanBelow_35 : decode b_X_dropOthersThanBelow 35 = .ok (.return_, 1) := by decide +kernel
theorem d_X_band_0 : decode b_X_band 0 = .ok (.iload_n 1, 1) := by decide +kernel
theorem d_X_band_1 : decode b_X_band 1 = .ok (.invokestatic 48, 3) := by decide +kernel
theorem d_X_band_4 : decode b_X_band 4 = .ok (.ifCond .eq 8, 3) := by decide +kernel
theorem d_X_band_7 : decode b_X_band 7 = .ok (.iload_n 3, 1) := by decide +kernel
theorem d_X_band_8 : decode b_X_band 8 = .ok (.iload_n 2, 1) := by decide +kernel
theorem d_X_band_9 : decode b_X_band 9 = .ok (.if_icmp .ge 5, 3) := by decide +kernel
theorem d_X_band_12 : decode b_X_band 12 = .ok (.iconst (-1), 1) := by decide +kernel
theorem d_X_band_13 : decode b_X_band 13 = .ok (.ireturn, 1) := by decide +kernel
theorem d_X_band_14 : decode b_X_band 14 = .ok (.aload_n 0, 1) := by decide +kernel
theorem d_X_band_15 : decode b_X_band 15 = .ok (.invokevirtual 88, 3) := by decide +kernel
theorem d_X_band_18 : decode b_X_band 18 = .ok (.aload_n 0, 1) := by decide +kernel
theorem d_X_band_19 : decode b_X_band 19 = .ok (.iload_n 1, 1) := by decide +kernel
theorem d_X_band_20 : decode b_X_band 20 = .ok (.iload_n 2, 1) := by decide +kernel
theorem d_X_band_21 : decode b_X_band 21 = .ok (.iload_n 3, 1) := by decide +kernel
theorem d_X_band_22 : decode b_X_band 22 = .ok (.invokevirtual 103, 3) := by decide +kernel
theorem d_X_band_25 : decode b_X_band 25 = .ok (.land, 1) := by decide +kernel
theorem d_X_band_26 : decode b_X_band 26 = .ok (.invokestatic 82, 3) := by decide +kernel
theorem d_X_band_29 : decode b_X_band 29 = .ok (.ireturn, 1) := by decide +kernel
theorem d_X_holdersBetween_0 : decode b_X_holdersBetween 0 = .ok (.iload_n 3, 1) := by decide +kernel
theorem d_X_holdersBetween_1 : decode b_X_holdersBetween 1 = .ok (.bipush 99, 2) := by decide +kernel
theorem d_X_holdersBetween_3 : decode b_X_holdersBetween 3 = .ok (.invokestatic 117, 3) := by decide +kernel
theorem d_X_holdersBetween_6 : decode b_X_holdersBetween 6 = .ok (.istore 4, 2) := by decide +kernel
theorem d_X_holdersBetween_8 : decode b_X_holdersBetween 8 = .ok (.lconst 0, 1) := by decide +kernel
theorem d_X_holdersBetween_9 : decode b_X_holdersBetween 9 = .ok (.lstore 5, 2) := by decide +kernel
theorem d_X_holdersBetween_11 : decode b_X_holdersBetween 11 = .ok (.iload_n 2, 1) := by decide +kernel
theorem d_X_holdersBetween_12 : decode b_X_holdersBetween 12 = .ok (.iconst 0, 1) := by decide +kernel
theorem d_X_holdersBetween_13 : decode b_X_holdersBetween 13 = .ok (.invokestatic 122, 3) := by decide +kernel
theorem d_X_holdersBetween_16 : decode b_X_holdersBetween 16 = .ok (.istore 7, 2) := by decide +kernel
theorem d_X_holdersBetween_18 : decode b_X_holdersBetween 18 = .ok (.iload 7, 2) := by decide +kernel
theorem d_X_holdersBetween_20 : decode b_X_holdersBetween 20 = .ok (.iload 4, 2) := by decide +kernel
theorem d_X_holdersBetween_22 : decode b_X_holdersBetween 22 = .ok (.if_icmp .gt 25, 3) := by decide +kernel
theorem d_X_holdersBetween_25 : decode b_X_holdersBetween 25 = .ok (.lload 5, 2) := by decide +kernel
theorem d_X_holdersBetween_27 : decode b_X_holdersBetween 27 = .ok (.aload_n 0, 1) := by decide +kernel
theorem d_X_holdersBetween_28 : decode b_X_holdersBetween 28 = .ok (.getfield 9, 3) := by decide +kernel
theorem d_X_holdersBetween_31 : decode b_X_holdersBetween 31 = .ok (.iload_n 1, 1) := by decide +kernel
theorem d_X_holdersBetween_32 : decode b_X_holdersBetween 32 = .ok (.iload 7, 2) := by decide +kernel
theorem d_X_holdersBetween_34 : decode b_X_holdersBetween 34 = .ok (.invokestatic 58, 3) := by decide +kernel
theorem d_X_holdersBetween_37 : decode b_X_holdersBetween 37 = .ok (.laload, 1) := by decide +kernel
theorem d_X_holdersBetween_38 : decode b_X_holdersBetween 38 = .ok (.lor, 1) := by decide +kernel
theorem d_X_holdersBetween_39 : decode b_X_holdersBetween 39 = .ok (.lstore 5, 2) := by decide +kernel
theorem d_X_holdersBetween_41 : decode b_X_holdersBetween 41 = .ok (.iinc 7 1, 3) := by decide +kernel
theorem d_X_holdersBetween_44 : decode b_X_holdersBetween 44 = .ok (.goto (-26), 3) := by decide +kernel
theorem d_X_holdersBetween_47 : decode b_X_holdersBetween 47 = .ok (.lload 5, 2) := by decide +kernel
theorem d_X_holdersBetween_49 : decode b_X_holdersBetween 49 = .ok (.lreturn, 1) := by decide +kernel
theorem d_JM_min_0 : decode b_JM_min 0 = .ok (.iload_n 0, 1) := by decide +kernel
theorem d_JM_min_1 : decode b_JM_min 1 = .ok (.iload_n 1, 1) := by decide +kernel
theorem d_JM_min_2 : decode b_JM_min 2 = .ok (.if_icmp .gt 7, 3) := by decide +kernel
theorem d_JM_min_5 : decode b_JM_min 5 = .ok (.iload_n 0, 1) := by decide +kernel
theorem d_JM_min_6 : decode b_JM_min 6 = .ok (.goto 4, 3) := by decide +kernel
theorem d_JM_min_9 : decode b_JM_min 9 = .ok (.iload_n 1, 1) := by decide +kernel
theorem d_JM_min_10 : decode b_JM_min 10 = .ok (.ireturn, 1) := by decide +kernel
theorem d_JM_max_0 : decode b_JM_max 0 = .ok (.iload_n 0, 1) := by decide +kernel
theorem d_JM_max_1 : decode b_JM_max 1 = .ok (.iload_n 1, 1) := by decide +kernel
theorem d_JM_max_2 : decode b_JM_max 2 = .ok (.if_icmp .lt 7, 3) := by decide +kernel
theorem d_JM_max_5 : decode b_JM_max 5 = .ok (.iload_n 0, 1) := by decide +kernel
theorem d_JM_max_6 : decode b_JM_max 6 = .ok (.goto 4, 3) := by decide +kernel
theorem d_JM_max_9 : decode b_JM_max 9 = .ok (.iload_n 1, 1) := by decide +kernel
theorem d_JM_max_10 : decode b_JM_max 10 = .ok (.ireturn, 1) := by decide +kernel
theorem d_X_missing_0 : decode b_X_missing 0 = .ok (.iload_n 1, 1) := by decide +kernel
theorem d_X_missing_1 : decode b_X_missing 1 = .ok (.invokestatic 48, 3) := by decide +kernel
theorem d_X_missing_4 : decode b_X_missing 4 = .ok (.ifCond .ne 5, 3) := by decide +kernel
theorem d_X_missing_7 : decode b_X_missing 7 = .ok (.iconst (-1), 1) := by decide +kernel
theorem d_X_missing_8 : decode b_X_missing 8 = .ok (.ireturn, 1) := by decide +kernel
theorem d_X_missing_9 : decode b_X_missing 9 = .ok (.aload_n 0, 1) := by decide +kernel
theorem d_X_missing_10 : decode b_X_missing 10 = .ok (.invokevirtual 88, 3) := by decide +kernel
theorem d_X_missing_13 : decode b_X_missing 13 = .ok (.aload_n 0, 1) := by decide +kernel
theorem d_X_missing_14 : decode b_X_missing 14 = .ok (.iload_n 1, 1) := by decide +kernel
theorem d_X_missing_15 : decode b_X_missing 15 = .ok (.iconst 0, 1) := by decide +kernel
theorem d_X_missing_16 : decode b_X_missing 16 = .ok (.bipush 99, 2) := by decide +kernel
theorem d_X_missing_18 : decode b_X_missing 18 = .ok (.invokevirtual 103, 3) := by decide +kernel
theorem d_X_missing_21 : decode b_X_missing 21 = .ok (.ldc2_w 73, 3) := by decide +kernel
theorem d_X_missing_24 : decode b_X_missing 24 = .ok (.lxor, 1) := by decide +kernel
theorem d_X_missing_25 : decode b_X_missing 25 = .ok (.land, 1) := by decide +kernel
theorem d_X_missing_26 : decode b_X_missing 26 = .ok (.invokestatic 82, 3) := by decide +kernel
theorem d_X_missing_29 : decode b_X_missing 29 = .ok (.ireturn, 1) := by decide +kernel
theorem d_X_left_0 : decode b_X_left 0 = .ok (.aload_n 0, 1) := by decide +kernel
theorem d_X_left_1 : decode b_X_left 1 = .ok (.invokevirtual 88, 3) := by decide +kernel
theorem d_X_left_4 : decode b_X_left 4 = .ok (.lstore_n 2, 1) := by decide +kernel
theorem d_X_left_5 : decode b_X_left 5 = .ok (.iconst 0, 1) := by decide +kernel
theorem d_X_left_6 : decode b_X_left 6 = .ok (.istore 4, 2) := by decide +kernel
theorem d_X_left_8 : decode b_X_left 8 = .ok (.iconst 1, 1) := by decide +kernel
theorem d_X_left_9 : decode b_X_left 9 = .ok (.istore 5, 2) := by decide +kernel
theorem d_X_left_11 : decode b_X_left 11 = .ok (.iload 5, 2) := by decide +kernel
theorem d_X_left_13 : decode b_X_left 13 = .ok (.aload_n 0, 1) := by decide +kernel
theorem d_X_left_14 : decode b_X_left 14 = .ok (.getfield 33, 3) := by decide +kernel
theorem d_X_left_17 : decode b_X_left 17 = .ok (.if_icmp .gt 33, 3) := by decide +kernel
theorem d_X_left_20 : decode b_X_left 20 = .ok (.lload_n 2, 1) := by decide +kernel
theorem d_X_left_21 : decode b_X_left 21 = .ok (.iload 5, 2) := by decide +kernel
theorem d_X_left_23 : decode b_X_left 23 = .ok (.invokestatic 62, 3) := by decide +kernel
theorem d_X_left_26 : decode b_X_left 26 = .ok (.land, 1) := by decide +kernel
theorem d_X_left_27 : decode b_X_left 27 = .ok (.lconst 0, 1) := by decide +kernel
theorem d_X_left_28 : decode b_X_left 28 = .ok (.lcmp, 1) := by decide +kernel
theorem d_X_left_29 : decode b_X_left 29 = .ok (.ifCond .eq 15, 3) := by decide +kernel
theorem d_X_left_32 : decode b_X_left 32 = .ok (.iload 4, 2) := by decide +kernel
theorem d_X_left_34 : decode b_X_left 34 = .ok (.iload_n 1, 1) := by decide +kernel
theorem d_X_left_35 : decode b_X_left 35 = .ok (.if_icmp .ne 6, 3) := by decide +kernel
theorem d_X_left_38 : decode b_X_left 38 = .ok (.iload 5, 2) := by decide +kernel
theorem d_X_left_40 : decode b_X_left 40 = .ok (.ireturn, 1) := by decide +kernel
theorem d_X_left_41 : decode b_X_left 41 = .ok (.iinc 4 1, 3) := by decide +kernel
theorem d_X_left_44 : decode b_X_left 44 = .ok (.iinc 5 1, 3) := by decide +kernel
theorem d_X_left_47 : decode b_X_left 47 = .ok (.goto (-36), 3) := by decide +kernel
theorem d_X_left_50 : decode b_X_left 50 = .ok (.iconst 0, 1) := by decide +kernel
theorem d_X_left_51 : decode b_X_left 51 = .ok (.ireturn, 1) := by decide +kernel
theorem d_X_share_0 : decode b_X_share 0 = .ok (.iload_n 1, 1) := by decide +kernel
theorem d_X_share_1 : decode b_X_share 1 = .ok (.invokestatic 48, 3) := by decide +kernel
theorem d_X_share_4 : decode b_X_share 4 = .ok (.ifCond .eq 10, 3) := by decide +kernel
theorem d_X_share_7 : decode b_X_share 7 = .ok (.iload_n 2, 1) := by decide +kernel
theorem d_X_share_8 : decode b_X_share 8 = .ok (.invokestatic 51, 3) := by decide +kernel
theorem d_X_share_11 : decode b_X_share 11 = .ok (.ifCond .ne 7, 3) := by decide +kernel
theorem d_X_share_14 : decode b_X_share 14 = .ok (.ldc2_w 73, 3) := by decide +kernel
theorem d_X_share_17 : decode b_X_share 17 = .ok (.lreturn, 1) := by decide +kernel
theorem d_X_share_18 : decode b_X_share 18 = .ok (.aload_n 0, 1) := by decide +kernel
theorem d_X_share_19 : decode b_X_share 19 = .ok (.invokevirtual 88, 3) := by decide +kernel
theorem d_X_share_22 : decode b_X_share 22 = .ok (.lstore 4, 2) := by decide +kernel
theorem d_X_share_24 : decode b_X_share 24 = .ok (.lload 4, 2) := by decide +kernel
theorem d_X_share_26 : decode b_X_share 26 = .ok (.invokestatic 82, 3) := by decide +kernel
theorem d_X_share_29 : decode b_X_share 29 = .ok (.istore 6, 2) := by decide +kernel
theorem d_X_share_31 : decode b_X_share 31 = .ok (.iload 6, 2) := by decide +kernel
theorem d_X_share_33 : decode b_X_share 33 = .ok (.ifCond .ne 13, 3) := by decide +kernel
theorem d_X_share_36 : decode b_X_share 36 = .ok (.new 107, 3) := by decide +kernel
theorem d_X_share_39 : decode b_X_share 39 = .ok (.dup, 1) := by decide +kernel
theorem d_X_share_40 : decode b_X_share 40 = .ok (.ldc 109, 2) := by decide +kernel
theorem d_X_share_42 : decode b_X_share 42 = .ok (.invokespecial 111, 3) := by decide +kernel
theorem d_X_share_45 : decode b_X_share 45 = .ok (.athrow, 1) := by decide +kernel
theorem d_X_share_46 : decode b_X_share 46 = .ok (.lload 4, 2) := by decide +kernel
theorem d_X_share_48 : decode b_X_share 48 = .ok (.aload_n 0, 1) := by decide +kernel
theorem d_X_share_49 : decode b_X_share 49 = .ok (.getfield 13, 3) := by decide +kernel
theorem d_X_share_52 : decode b_X_share 52 = .ok (.iload_n 1, 1) := by decide +kernel
theorem d_X_share_53 : decode b_X_share 53 = .ok (.iload_n 2, 1) := by decide +kernel
theorem d_X_share_54 : decode b_X_share 54 = .ok (.invokestatic 58, 3) := by decide +kernel
theorem d_X_share_57 : decode b_X_share 57 = .ok (.laload, 1) := by decide +kernel
theorem d_X_share_58 : decode b_X_share 58 = .ok (.land, 1) := by decide +kernel
theorem d_X_share_59 : decode b_X_share 59 = .ok (.invokestatic 82, 3) := by decide +kernel
theorem d_X_share_62 : decode b_X_share 62 = .ok (.istore 7, 2) := by decide +kernel
theorem d_X_share_64 : decode b_X_share 64 = .ok (.iload 7, 2) := by decide +kernel
theorem d_X_share_66 : decode b_X_share 66 = .ok (.iload 6, 2) := by decide +kernel
theorem d_X_share_68 : decode b_X_share 68 = .ok (.invokestatic 114, 3) := by decide +kernel
theorem d_X_share_71 : decode b_X_share 71 = .ok (.istore 8, 2) := by decide +kernel
theorem d_X_share_73 : decode b_X_share 73 = .ok (.iload_n 3, 1) := by decide +kernel
theorem d_X_share_74 : decode b_X_share 74 = .ok (.ifCond .ne 12, 3) := by decide +kernel
theorem d_X_share_77 : decode b_X_share 77 = .ok (.iload 7, 2) := by decide +kernel
theorem d_X_share_79 : decode b_X_share 79 = .ok (.iload 8, 2) := by decide +kernel
theorem d_X_share_81 : decode b_X_share 81 = .ok (.idiv, 1) := by decide +kernel
theorem d_X_share_82 : decode b_X_share 82 = .ok (.i2l, 1) := by decide +kernel
theorem d_X_share_83 : decode b_X_share 83 = .ok (.goto 9, 3) := by decide +kernel
theorem d_X_share_86 : decode b_X_share 86 = .ok (.iload 6, 2) := by decide +kernel
theorem d_X_share_88 : decode b_X_share 88 = .ok (.iload 8, 2) := by decide +kernel
theorem d_X_share_90 : decode b_X_share 90 = .ok (.idiv, 1) := by decide +kernel
theorem d_X_share_91 : decode b_X_share 91 = .ok (.i2l, 1) := by decide +kernel
theorem d_X_share_92 : decode b_X_share 92 = .ok (.lreturn, 1) := by decide +kernel
theorem d_X_commonDivisor_0 : decode b_X_commonDivisor 0 = .ok (.iload_n 1, 1) := by decide +kernel
theorem d_X_commonDivisor_1 : decode b_X_commonDivisor 1 = .ok (.istore_n 2, 1) := by decide +kernel
theorem d_X_commonDivisor_2 : decode b_X_commonDivisor 2 = .ok (.iload_n 2, 1) := by decide +kernel
theorem d_X_commonDivisor_3 : decode b_X_commonDivisor 3 = .ok (.iconst 1, 1) := by decide +kernel
theorem d_X_commonDivisor_4 : decode b_X_commonDivisor 4 = .ok (.if_icmp .le 23, 3) := by decide +kernel
theorem d_X_commonDivisor_7 : decode b_X_commonDivisor 7 = .ok (.iload_n 0, 1) := by decide +kernel
theorem d_X_commonDivisor_8 : decode b_X_commonDivisor 8 = .ok (.iload_n 2, 1) := by decide +kernel
theorem d_X_commonDivisor_9 : decode b_X_commonDivisor 9 = .ok (.irem, 1) := by decide +kernel
theorem d_X_commonDivisor_10 : decode b_X_commonDivisor 10 = .ok (.ifCond .ne 11, 3) := by decide +kernel
theorem d_X_commonDivisor_13 : decode b_X_commonDivisor 13 = .ok (.iload_n 1, 1) := by decide +kernel
theorem d_X_commonDivisor_14 : decode b_X_commonDivisor 14 = .ok (.iload_n 2, 1) := by decide +kernel
theorem d_X_commonDivisor_15 : decode b_X_commonDivisor 15 = .ok (.irem, 1) := by decide +kernel
theorem d_X_commonDivisor_16 : decode b_X_commonDivisor 16 = .ok (.ifCond .ne 5, 3) := by decide +kernel
theorem d_X_commonDivisor_19 : decode b_X_commonDivisor 19 = .ok (.iload_n 2, 1) := by decide +kernel
theorem d_X_commonDivisor_20 : decode b_X_commonDivisor 20 = .ok (.ireturn, 1) := by decide +kernel
theorem d_X_commonDivisor_21 : decode b_X_commonDivisor 21 = .ok (.iinc 2 (-1), 3) := by decide +kernel
theorem d_X_commonDivisor_24 : decode b_X_commonDivisor 24 = .ok (.goto (-22), 3) := by decide +kernel
theorem d_X_commonDivisor_27 : decode b_X_commonDivisor 27 = .ok (.iconst 1, 1) := by decide +kernel
theorem d_X_commonDivisor_28 : decode b_X_commonDivisor 28 = .ok (.ireturn, 1) := by decide +kernel
