-- a fact for each instruction, by wip/whole/gen/ins.py
theorem dX10_manned_0 : Ins mX10_manned 0 (.iload_n 1) 1 1 := ⟨by decide +kernel, rfl⟩
theorem dX10_manned_1 : Ins mX10_manned 1 (.iconst (-1)) 1 2 := ⟨by decide +kernel, rfl⟩
theorem dX10_manned_2 : Ins mX10_manned 2 (.if_icmp .eq 26) 3 5 := ⟨by decide +kernel, rfl⟩
theorem dX10_manned_5 : Ins mX10_manned 5 (.iload_n 1) 1 6 := ⟨by decide +kernel, rfl⟩
theorem dX10_manned_6 : Ins mX10_manned 6 (.iconst 0) 1 7 := ⟨by decide +kernel, rfl⟩
theorem dX10_manned_7 : Ins mX10_manned 7 (.aload_n 0) 1 8 := ⟨by decide +kernel, rfl⟩
theorem dX10_manned_8 : GgR mX10_manned 8 11 9 0 := ⟨0, rfl, ⟨10, _, by decide +kernel, rfl, rfl, by decide, tb_2 (List.mem_of_getElem? (i := 33) (by decide +kernel)) rfl⟩, by decide, rfl⟩
theorem dX10_manned_11 : GgR mX10_manned 11 14 8 3 := ⟨3, rfl, ⟨315, _, by decide +kernel, rfl, rfl, by decide, tb_1 (List.mem_of_getElem? (i := 111) (by decide +kernel)) rfl⟩, by decide, rfl⟩
theorem dX10_manned_14 : GgI mX10_manned 14 17 7 4 := ⟨4, rfl, ⟨318, _, by decide +kernel, rfl, rfl, by decide, tb_1 (List.mem_of_getElem? (i := 92) (by decide +kernel)) rfl⟩, by decide, rfl⟩
theorem dX10_manned_17 : Ins mX10_manned 17 (.iconst 1) 1 18 := ⟨by decide +kernel, rfl⟩
theorem dX10_manned_18 : Ins mX10_manned 18 (.isub) 1 19 := ⟨by decide +kernel, rfl⟩
theorem dX10_manned_19 : CalS mX10_manned 19 22 mX10_isWithin := ⟨72, by decide +kernel, rfl, Or.inl (tb_2 (List.mem_of_getElem? (i := 89) (by decide +kernel)) rfl), meX10_isWithin⟩
theorem dX10_manned_22 : Ins mX10_manned 22 (.ifCond .ne 6) 3 25 := ⟨by decide +kernel, rfl⟩
theorem dX10_manned_25 : Ins mX10_manned 25 (.bipush (-2)) 2 27 := ⟨by decide +kernel, rfl⟩
theorem dX10_manned_27 : Ins mX10_manned 27 (.ireturn) 1 28 := ⟨by decide +kernel, rfl⟩
theorem dX10_manned_28 : Ins mX10_manned 28 (.aload_n 0) 1 29 := ⟨by decide +kernel, rfl⟩
theorem dX10_manned_29 : GgR mX10_manned 29 32 9 7 := ⟨7, rfl, ⟨56, _, by decide +kernel, rfl, rfl, by decide, tb_2 (List.mem_of_getElem? (i := 40) (by decide +kernel)) rfl⟩, by decide, rfl⟩
theorem dX10_manned_32 : Ins mX10_manned 32 (.aload_n 0) 1 33 := ⟨by decide +kernel, rfl⟩
theorem dX10_manned_33 : GgR mX10_manned 33 36 9 0 := ⟨0, rfl, ⟨10, _, by decide +kernel, rfl, rfl, by decide, tb_2 (List.mem_of_getElem? (i := 33) (by decide +kernel)) rfl⟩, by decide, rfl⟩
theorem dX10_manned_36 : GgR mX10_manned 36 39 8 3 := ⟨3, rfl, ⟨315, _, by decide +kernel, rfl, rfl, by decide, tb_1 (List.mem_of_getElem? (i := 111) (by decide +kernel)) rfl⟩, by decide, rfl⟩
theorem dX10_manned_39 : Ins mX10_manned 39 (.aload_n 0) 1 40 := ⟨by decide +kernel, rfl⟩
theorem dX10_manned_40 : GgR mX10_manned 40 43 9 0 := ⟨0, rfl, ⟨10, _, by decide +kernel, rfl, rfl, by decide, tb_2 (List.mem_of_getElem? (i := 33) (by decide +kernel)) rfl⟩, by decide, rfl⟩
theorem dX10_manned_43 : GgR mX10_manned 43 46 8 0 := ⟨0, rfl, ⟨61, _, by decide +kernel, rfl, rfl, by decide, tb_1 (List.mem_of_getElem? (i := 105) (by decide +kernel)) rfl⟩, by decide, rfl⟩
theorem dX10_manned_46 : CalV mX10_manned 46 49 mX4_assign := ⟨321, by decide +kernel, rfl, tb_5 (List.mem_of_getElem? (i := 41) (by decide +kernel)) rfl, meX4_assign⟩
theorem dX10_manned_49 : Ins mX10_manned 49 (.istore_n 2) 1 50 := ⟨by decide +kernel, rfl⟩
theorem dX10_manned_50 : Ins mX10_manned 50 (.iload_n 1) 1 51 := ⟨by decide +kernel, rfl⟩
theorem dX10_manned_51 : Ins mX10_manned 51 (.iconst (-1)) 1 52 := ⟨by decide +kernel, rfl⟩
theorem dX10_manned_52 : Ins mX10_manned 52 (.if_icmp .ne 7) 3 55 := ⟨by decide +kernel, rfl⟩
theorem dX10_manned_55 : Ins mX10_manned 55 (.iload_n 2) 1 56 := ⟨by decide +kernel, rfl⟩
theorem dX10_manned_56 : Ins mX10_manned 56 (.goto 11) 3 59 := ⟨by decide +kernel, rfl⟩
theorem dX10_manned_59 : Ins mX10_manned 59 (.aload_n 0) 1 60 := ⟨by decide +kernel, rfl⟩
theorem dX10_manned_60 : GgR mX10_manned 60 63 9 7 := ⟨7, rfl, ⟨56, _, by decide +kernel, rfl, rfl, by decide, tb_2 (List.mem_of_getElem? (i := 40) (by decide +kernel)) rfl⟩, by decide, rfl⟩
theorem dX10_manned_63 : Ins mX10_manned 63 (.iload_n 1) 1 64 := ⟨by decide +kernel, rfl⟩
theorem dX10_manned_64 : CalV mX10_manned 64 67 mX4_boyOf := ⟨325, by decide +kernel, rfl, tb_5 (List.mem_of_getElem? (i := 67) (by decide +kernel)) rfl, meX4_boyOf⟩
theorem dX10_manned_67 : Ins mX10_manned 67 (.ireturn) 1 68 := ⟨by decide +kernel, rfl⟩
theorem dX10_below_0 : Ins mX10_below 0 (.iload_n 1) 1 1 := ⟨by decide +kernel, rfl⟩
theorem dX10_below_1 : Ins mX10_below 1 (.iconst 1) 1 2 := ⟨by decide +kernel, rfl⟩
theorem dX10_below_2 : Ins mX10_below 2 (.bipush 9) 2 4 := ⟨by decide +kernel, rfl⟩
theorem dX10_below_4 : CalS mX10_below 4 7 mX10_isWithin := ⟨72, by decide +kernel, rfl, Or.inl (tb_2 (List.mem_of_getElem? (i := 89) (by decide +kernel)) rfl), meX10_isWithin⟩
theorem dX10_below_7 : Ins mX10_below 7 (.ifCond .eq 23) 3 10 := ⟨by decide +kernel, rfl⟩
theorem dX10_below_10 : Ins mX10_below 10 (.iload_n 2) 1 11 := ⟨by decide +kernel, rfl⟩
theorem dX10_below_11 : Ins mX10_below 11 (.iconst 0) 1 12 := ⟨by decide +kernel, rfl⟩
theorem dX10_below_12 : Ins mX10_below 12 (.bipush 9) 2 14 := ⟨by decide +kernel, rfl⟩
theorem dX10_below_14 : CalS mX10_below 14 17 mX10_isWithin := ⟨72, by decide +kernel, rfl, Or.inl (tb_2 (List.mem_of_getElem? (i := 89) (by decide +kernel)) rfl), meX10_isWithin⟩
theorem dX10_below_17 : Ins mX10_below 17 (.ifCond .eq 13) 3 20 := ⟨by decide +kernel, rfl⟩
theorem dX10_below_20 : Ins mX10_below 20 (.iload_n 3) 1 21 := ⟨by decide +kernel, rfl⟩
theorem dX10_below_21 : Ins mX10_below 21 (.iconst 0) 1 22 := ⟨by decide +kernel, rfl⟩
theorem dX10_below_22 : Ins mX10_below 22 (.bipush 9) 2 24 := ⟨by decide +kernel, rfl⟩
theorem dX10_below_24 : CalS mX10_below 24 27 mX10_isWithin := ⟨72, by decide +kernel, rfl, Or.inl (tb_2 (List.mem_of_getElem? (i := 89) (by decide +kernel)) rfl), meX10_isWithin⟩
theorem dX10_below_27 : Ins mX10_below 27 (.ifCond .ne 7) 3 30 := ⟨by decide +kernel, rfl⟩
theorem dX10_below_30 : LdcL mX10_below 30 33 (-1) := ⟨328, _, by decide +kernel, rfl, tb_5 (List.mem_of_getElem? (i := 75) (by decide +kernel)) rfl, rfl⟩
theorem dX10_below_33 : Ins mX10_below 33 (.lreturn) 1 34 := ⟨by decide +kernel, rfl⟩
theorem dX10_below_34 : Ins mX10_below 34 (.lconst 0) 1 35 := ⟨by decide +kernel, rfl⟩
theorem dX10_below_35 : Ins mX10_below 35 (.lstore 5) 2 37 := ⟨by decide +kernel, rfl⟩
theorem dX10_below_37 : Ins mX10_below 37 (.iconst 0) 1 38 := ⟨by decide +kernel, rfl⟩
theorem dX10_below_38 : Ins mX10_below 38 (.istore 7) 2 40 := ⟨by decide +kernel, rfl⟩
theorem dX10_below_40 : Ins mX10_below 40 (.iload 7) 2 42 := ⟨by decide +kernel, rfl⟩
theorem dX10_below_42 : Ins mX10_below 42 (.bipush 9) 2 44 := ⟨by decide +kernel, rfl⟩
theorem dX10_below_44 : Ins mX10_below 44 (.if_icmp .gt 21) 3 47 := ⟨by decide +kernel, rfl⟩
theorem dX10_below_47 : Ins mX10_below 47 (.lload 5) 2 49 := ⟨by decide +kernel, rfl⟩
theorem dX10_below_49 : Ins mX10_below 49 (.iload_n 1) 1 50 := ⟨by decide +kernel, rfl⟩
theorem dX10_below_50 : Ins mX10_below 50 (.iload_n 2) 1 51 := ⟨by decide +kernel, rfl⟩
theorem dX10_below_51 : Ins mX10_below 51 (.iload 7) 2 53 := ⟨by decide +kernel, rfl⟩
theorem dX10_below_53 : CalS mX10_below 53 56 mX2_weight := ⟨330, by decide +kernel, rfl, Or.inl (tb_5 (List.mem_of_getElem? (i := 76) (by decide +kernel)) rfl), meX2_weight⟩
theorem dX10_below_56 : Ins mX10_below 56 (.ladd) 1 57 := ⟨by decide +kernel, rfl⟩
theorem dX10_below_57 : Ins mX10_below 57 (.lstore 5) 2 59 := ⟨by decide +kernel, rfl⟩
theorem dX10_below_59 : Ins mX10_below 59 (.iinc 7 1) 3 62 := ⟨by decide +kernel, rfl⟩
theorem dX10_below_62 : Ins mX10_below 62 (.goto (-22)) 3 65 := ⟨by decide +kernel, rfl⟩
theorem dX10_below_65 : Ins mX10_below 65 (.iload_n 1) 1 66 := ⟨by decide +kernel, rfl⟩
theorem dX10_below_66 : Ins mX10_below 66 (.iload_n 2) 1 67 := ⟨by decide +kernel, rfl⟩
theorem dX10_below_67 : Ins mX10_below 67 (.iload_n 3) 1 68 := ⟨by decide +kernel, rfl⟩
theorem dX10_below_68 : CalS mX10_below 68 71 mX2_weight := ⟨330, by decide +kernel, rfl, Or.inl (tb_5 (List.mem_of_getElem? (i := 76) (by decide +kernel)) rfl), meX2_weight⟩
theorem dX10_below_71 : Ins mX10_below 71 (.lload 5) 2 73 := ⟨by decide +kernel, rfl⟩
theorem dX10_below_73 : Ins mX10_below 73 (.iload 4) 2 75 := ⟨by decide +kernel, rfl⟩
theorem dX10_below_75 : CalS mX10_below 75 78 mX2_lowestTerm := ⟨336, by decide +kernel, rfl, Or.inl (tb_5 (List.mem_of_getElem? (i := 85) (by decide +kernel)) rfl), meX2_lowestTerm⟩
theorem dX10_below_78 : Ins mX10_below 78 (.lreturn) 1 79 := ⟨by decide +kernel, rfl⟩
theorem dX10_gale_0 : Ins mX10_gale 0 (.aload_n 0) 1 1 := ⟨by decide +kernel, rfl⟩
theorem dX10_gale_1 : GgR mX10_gale 1 4 9 0 := ⟨0, rfl, ⟨10, _, by decide +kernel, rfl, rfl, by decide, tb_2 (List.mem_of_getElem? (i := 33) (by decide +kernel)) rfl⟩, by decide, rfl⟩
theorem dX10_gale_4 : GgR mX10_gale 4 7 8 0 := ⟨0, rfl, ⟨61, _, by decide +kernel, rfl, rfl, by decide, tb_1 (List.mem_of_getElem? (i := 105) (by decide +kernel)) rfl⟩, by decide, rfl⟩
theorem dX10_gale_7 : Ins mX10_gale 7 (.iload_n 1) 1 8 := ⟨by decide +kernel, rfl⟩
theorem dX10_gale_8 : CalV mX10_gale 8 11 mX7_isSet := ⟨255, by decide +kernel, rfl, tb_4 (List.mem_of_getElem? (i := 185) (by decide +kernel)) rfl, meX7_isSet⟩
theorem dX10_gale_11 : Ins mX10_gale 11 (.ifCond .eq 23) 3 14 := ⟨by decide +kernel, rfl⟩
theorem dX10_gale_14 : Ins mX10_gale 14 (.iload_n 2) 1 15 := ⟨by decide +kernel, rfl⟩
theorem dX10_gale_15 : Ins mX10_gale 15 (.iconst 0) 1 16 := ⟨by decide +kernel, rfl⟩
theorem dX10_gale_16 : Ins mX10_gale 16 (.bipush 10) 2 18 := ⟨by decide +kernel, rfl⟩
theorem dX10_gale_18 : CalS mX10_gale 18 21 mX10_isWithin := ⟨72, by decide +kernel, rfl, Or.inl (tb_2 (List.mem_of_getElem? (i := 89) (by decide +kernel)) rfl), meX10_isWithin⟩
theorem dX10_gale_21 : Ins mX10_gale 21 (.ifCond .eq 13) 3 24 := ⟨by decide +kernel, rfl⟩
theorem dX10_gale_24 : Ins mX10_gale 24 (.iload_n 3) 1 25 := ⟨by decide +kernel, rfl⟩
theorem dX10_gale_25 : Ins mX10_gale 25 (.iconst 0) 1 26 := ⟨by decide +kernel, rfl⟩
theorem dX10_gale_26 : Ins mX10_gale 26 (.bipush 8) 2 28 := ⟨by decide +kernel, rfl⟩
theorem dX10_gale_28 : CalS mX10_gale 28 31 mX10_isWithin := ⟨72, by decide +kernel, rfl, Or.inl (tb_2 (List.mem_of_getElem? (i := 89) (by decide +kernel)) rfl), meX10_isWithin⟩
theorem dX10_gale_31 : Ins mX10_gale 31 (.ifCond .ne 7) 3 34 := ⟨by decide +kernel, rfl⟩
theorem dX10_gale_34 : LdcL mX10_gale 34 37 (-1) := ⟨328, _, by decide +kernel, rfl, tb_5 (List.mem_of_getElem? (i := 75) (by decide +kernel)) rfl, rfl⟩
theorem dX10_gale_37 : Ins mX10_gale 37 (.lreturn) 1 38 := ⟨by decide +kernel, rfl⟩
theorem dX10_gale_38 : Ins mX10_gale 38 (.iload_n 1) 1 39 := ⟨by decide +kernel, rfl⟩
theorem dX10_gale_39 : CalS mX10_gale 39 42 mJ6_bitCount_0f7a4 := ⟨215, by decide +kernel, rfl, Or.inl (tb_4 (List.mem_of_getElem? (i := 147) (by decide +kernel)) rfl), meJ6_bitCount_0f7a4⟩
theorem dX10_gale_42 : Ins mX10_gale 42 (.istore 5) 2 44 := ⟨by decide +kernel, rfl⟩
theorem dX10_gale_44 : Ins mX10_gale 44 (.lconst 0) 1 45 := ⟨by decide +kernel, rfl⟩
theorem dX10_gale_45 : Ins mX10_gale 45 (.lstore 6) 2 47 := ⟨by decide +kernel, rfl⟩
theorem dX10_gale_47 : Ins mX10_gale 47 (.iload_n 3) 1 48 := ⟨by decide +kernel, rfl⟩
theorem dX10_gale_48 : Ins mX10_gale 48 (.istore 8) 2 50 := ⟨by decide +kernel, rfl⟩
theorem dX10_gale_50 : Ins mX10_gale 50 (.iload 8) 2 52 := ⟨by decide +kernel, rfl⟩
theorem dX10_gale_52 : Ins mX10_gale 52 (.iload 5) 2 54 := ⟨by decide +kernel, rfl⟩
theorem dX10_gale_54 : Ins mX10_gale 54 (.if_icmp .gt 41) 3 57 := ⟨by decide +kernel, rfl⟩
theorem dX10_gale_57 : Ins mX10_gale 57 (.lload 6) 2 59 := ⟨by decide +kernel, rfl⟩
theorem dX10_gale_59 : Ins mX10_gale 59 (.iload 5) 2 61 := ⟨by decide +kernel, rfl⟩
theorem dX10_gale_61 : Ins mX10_gale 61 (.iload 8) 2 63 := ⟨by decide +kernel, rfl⟩
theorem dX10_gale_63 : CalS mX10_gale 63 66 mX2_choose := ⟨340, by decide +kernel, rfl, Or.inl (tb_5 (List.mem_of_getElem? (i := 94) (by decide +kernel)) rfl), meX2_choose⟩
theorem dX10_gale_66 : Ins mX10_gale 66 (.bipush 10) 2 68 := ⟨by decide +kernel, rfl⟩
theorem dX10_gale_68 : Ins mX10_gale 68 (.iload_n 2) 1 69 := ⟨by decide +kernel, rfl⟩
theorem dX10_gale_69 : Ins mX10_gale 69 (.isub) 1 70 := ⟨by decide +kernel, rfl⟩
theorem dX10_gale_70 : Ins mX10_gale 70 (.iload 8) 2 72 := ⟨by decide +kernel, rfl⟩
theorem dX10_gale_72 : CalS mX10_gale 72 75 mX2_power := ⟨344, by decide +kernel, rfl, Or.inl (tb_5 (List.mem_of_getElem? (i := 95) (by decide +kernel)) rfl), meX2_power⟩
theorem dX10_gale_75 : Ins mX10_gale 75 (.lmul) 1 76 := ⟨by decide +kernel, rfl⟩
theorem dX10_gale_76 : Ins mX10_gale 76 (.iload_n 2) 1 77 := ⟨by decide +kernel, rfl⟩
theorem dX10_gale_77 : Ins mX10_gale 77 (.iload 5) 2 79 := ⟨by decide +kernel, rfl⟩
theorem dX10_gale_79 : Ins mX10_gale 79 (.iload 8) 2 81 := ⟨by decide +kernel, rfl⟩
theorem dX10_gale_81 : Ins mX10_gale 81 (.isub) 1 82 := ⟨by decide +kernel, rfl⟩
theorem dX10_gale_82 : CalS mX10_gale 82 85 mX2_power := ⟨344, by decide +kernel, rfl, Or.inl (tb_5 (List.mem_of_getElem? (i := 95) (by decide +kernel)) rfl), meX2_power⟩
theorem dX10_gale_85 : Ins mX10_gale 85 (.lmul) 1 86 := ⟨by decide +kernel, rfl⟩
theorem dX10_gale_86 : Ins mX10_gale 86 (.ladd) 1 87 := ⟨by decide +kernel, rfl⟩
theorem dX10_gale_87 : Ins mX10_gale 87 (.lstore 6) 2 89 := ⟨by decide +kernel, rfl⟩
theorem dX10_gale_89 : Ins mX10_gale 89 (.iinc 8 1) 3 92 := ⟨by decide +kernel, rfl⟩
theorem dX10_gale_92 : Ins mX10_gale 92 (.goto (-42)) 3 95 := ⟨by decide +kernel, rfl⟩
theorem dX10_gale_95 : Ins mX10_gale 95 (.lload 6) 2 97 := ⟨by decide +kernel, rfl⟩
theorem dX10_gale_97 : Ins mX10_gale 97 (.bipush 10) 2 99 := ⟨by decide +kernel, rfl⟩
theorem dX10_gale_99 : Ins mX10_gale 99 (.iload 5) 2 101 := ⟨by decide +kernel, rfl⟩
theorem dX10_gale_101 : CalS mX10_gale 101 104 mX2_power := ⟨344, by decide +kernel, rfl, Or.inl (tb_5 (List.mem_of_getElem? (i := 95) (by decide +kernel)) rfl), meX2_power⟩
theorem dX10_gale_104 : Ins mX10_gale 104 (.iload 4) 2 106 := ⟨by decide +kernel, rfl⟩
theorem dX10_gale_106 : CalS mX10_gale 106 109 mX2_lowestTerm := ⟨336, by decide +kernel, rfl, Or.inl (tb_5 (List.mem_of_getElem? (i := 85) (by decide +kernel)) rfl), meX2_lowestTerm⟩
theorem dX10_gale_109 : Ins mX10_gale 109 (.lreturn) 1 110 := ⟨by decide +kernel, rfl⟩
theorem dX10_ropes_0 : Ins mX10_ropes 0 (.iload_n 1) 1 1 := ⟨by decide +kernel, rfl⟩
theorem dX10_ropes_1 : Ins mX10_ropes 1 (.iconst 0) 1 2 := ⟨by decide +kernel, rfl⟩
theorem dX10_ropes_2 : Ins mX10_ropes 2 (.bipush 8) 2 4 := ⟨by decide +kernel, rfl⟩
theorem dX10_ropes_4 : CalS mX10_ropes 4 7 mX10_isWithin := ⟨72, by decide +kernel, rfl, Or.inl (tb_2 (List.mem_of_getElem? (i := 89) (by decide +kernel)) rfl), meX10_isWithin⟩
theorem dX10_ropes_7 : Ins mX10_ropes 7 (.ifCond .ne 5) 3 10 := ⟨by decide +kernel, rfl⟩
theorem dX10_ropes_10 : Ins mX10_ropes 10 (.iconst (-1)) 1 11 := ⟨by decide +kernel, rfl⟩
theorem dX10_ropes_11 : Ins mX10_ropes 11 (.ireturn) 1 12 := ⟨by decide +kernel, rfl⟩
theorem dX10_ropes_12 : Ins mX10_ropes 12 (.aload_n 0) 1 13 := ⟨by decide +kernel, rfl⟩
theorem dX10_ropes_13 : GgR mX10_ropes 13 16 9 0 := ⟨0, rfl, ⟨10, _, by decide +kernel, rfl, rfl, by decide, tb_2 (List.mem_of_getElem? (i := 33) (by decide +kernel)) rfl⟩, by decide, rfl⟩
theorem dX10_ropes_16 : GgR mX10_ropes 16 19 8 0 := ⟨0, rfl, ⟨61, _, by decide +kernel, rfl, rfl, by decide, tb_1 (List.mem_of_getElem? (i := 105) (by decide +kernel)) rfl⟩, by decide, rfl⟩
theorem dX10_ropes_19 : Ins mX10_ropes 19 (.astore_n 2) 1 20 := ⟨by decide +kernel, rfl⟩
theorem dX10_ropes_20 : Ins mX10_ropes 20 (.aload_n 2) 1 21 := ⟨by decide +kernel, rfl⟩
theorem dX10_ropes_21 : CalV mX10_ropes 21 24 mX7_mannedSet := ⟨273, by decide +kernel, rfl, tb_4 (List.mem_of_getElem? (i := 207) (by decide +kernel)) rfl, meX7_mannedSet⟩
theorem dX10_ropes_24 : Ins mX10_ropes 24 (.istore_n 3) 1 25 := ⟨by decide +kernel, rfl⟩
theorem dX10_ropes_25 : Ins mX10_ropes 25 (.iconst 0) 1 26 := ⟨by decide +kernel, rfl⟩
theorem dX10_ropes_26 : Ins mX10_ropes 26 (.istore 4) 2 28 := ⟨by decide +kernel, rfl⟩
theorem dX10_ropes_28 : Ins mX10_ropes 28 (.iconst 0) 1 29 := ⟨by decide +kernel, rfl⟩
theorem dX10_ropes_29 : Ins mX10_ropes 29 (.istore 5) 2 31 := ⟨by decide +kernel, rfl⟩
theorem dX10_ropes_31 : Ins mX10_ropes 31 (.iconst 1) 1 32 := ⟨by decide +kernel, rfl⟩
theorem dX10_ropes_32 : Ins mX10_ropes 32 (.istore 6) 2 34 := ⟨by decide +kernel, rfl⟩
theorem dX10_ropes_34 : Ins mX10_ropes 34 (.iload 6) 2 36 := ⟨by decide +kernel, rfl⟩
theorem dX10_ropes_36 : Ins mX10_ropes 36 (.iload_n 3) 1 37 := ⟨by decide +kernel, rfl⟩
theorem dX10_ropes_37 : Ins mX10_ropes 37 (.if_icmp .gt 85) 3 40 := ⟨by decide +kernel, rfl⟩
theorem dX10_ropes_40 : Ins mX10_ropes 40 (.iload 6) 2 42 := ⟨by decide +kernel, rfl⟩
theorem dX10_ropes_42 : Ins mX10_ropes 42 (.iload_n 3) 1 43 := ⟨by decide +kernel, rfl⟩
theorem dX10_ropes_43 : Ins mX10_ropes 43 (.iconst (-1)) 1 44 := ⟨by decide +kernel, rfl⟩
theorem dX10_ropes_44 : Ins mX10_ropes 44 (.ixor) 1 45 := ⟨by decide +kernel, rfl⟩
theorem dX10_ropes_45 : Ins mX10_ropes 45 (.iand) 1 46 := ⟨by decide +kernel, rfl⟩
theorem dX10_ropes_46 : Ins mX10_ropes 46 (.ifCond .ne 70) 3 49 := ⟨by decide +kernel, rfl⟩
theorem dX10_ropes_49 : Ins mX10_ropes 49 (.iload 6) 2 51 := ⟨by decide +kernel, rfl⟩
theorem dX10_ropes_51 : CalS mX10_ropes 51 54 mJ6_bitCount_0f7a4 := ⟨215, by decide +kernel, rfl, Or.inl (tb_4 (List.mem_of_getElem? (i := 147) (by decide +kernel)) rfl), meJ6_bitCount_0f7a4⟩
theorem dX10_ropes_54 : Ins mX10_ropes 54 (.iload_n 1) 1 55 := ⟨by decide +kernel, rfl⟩
theorem dX10_ropes_55 : Ins mX10_ropes 55 (.if_icmp .le 6) 3 58 := ⟨by decide +kernel, rfl⟩
theorem dX10_ropes_58 : Ins mX10_ropes 58 (.goto 58) 3 61 := ⟨by decide +kernel, rfl⟩
theorem dX10_ropes_61 : Ins mX10_ropes 61 (.aload_n 2) 1 62 := ⟨by decide +kernel, rfl⟩
theorem dX10_ropes_62 : Ins mX10_ropes 62 (.iload 6) 2 64 := ⟨by decide +kernel, rfl⟩
theorem dX10_ropes_64 : CalV mX10_ropes 64 67 mX7_wearOfSet := ⟨347, by decide +kernel, rfl, tb_5 (List.mem_of_getElem? (i := 100) (by decide +kernel)) rfl, meX7_wearOfSet⟩
theorem dX10_ropes_67 : Ins mX10_ropes 67 (.istore 7) 2 69 := ⟨by decide +kernel, rfl⟩
theorem dX10_ropes_69 : Ins mX10_ropes 69 (.iload 7) 2 71 := ⟨by decide +kernel, rfl⟩
theorem dX10_ropes_71 : Ins mX10_ropes 71 (.iload 5) 2 73 := ⟨by decide +kernel, rfl⟩
theorem dX10_ropes_73 : Ins mX10_ropes 73 (.if_icmp .ne 20) 3 76 := ⟨by decide +kernel, rfl⟩
theorem dX10_ropes_76 : Ins mX10_ropes 76 (.iload 6) 2 78 := ⟨by decide +kernel, rfl⟩
theorem dX10_ropes_78 : CalS mX10_ropes 78 81 mJ6_bitCount_0f7a4 := ⟨215, by decide +kernel, rfl, Or.inl (tb_4 (List.mem_of_getElem? (i := 147) (by decide +kernel)) rfl), meJ6_bitCount_0f7a4⟩
theorem dX10_ropes_81 : Ins mX10_ropes 81 (.iload 4) 2 83 := ⟨by decide +kernel, rfl⟩
theorem dX10_ropes_83 : CalS mX10_ropes 83 86 mJ6_bitCount_0f7a4 := ⟨215, by decide +kernel, rfl, Or.inl (tb_4 (List.mem_of_getElem? (i := 147) (by decide +kernel)) rfl), meJ6_bitCount_0f7a4⟩
theorem dX10_ropes_86 : Ins mX10_ropes 86 (.if_icmp .ge 7) 3 89 := ⟨by decide +kernel, rfl⟩
theorem dX10_ropes_89 : Ins mX10_ropes 89 (.iconst 1) 1 90 := ⟨by decide +kernel, rfl⟩
theorem dX10_ropes_90 : Ins mX10_ropes 90 (.goto 4) 3 93 := ⟨by decide +kernel, rfl⟩
theorem dX10_ropes_93 : Ins mX10_ropes 93 (.iconst 0) 1 94 := ⟨by decide +kernel, rfl⟩
theorem dX10_ropes_94 : Ins mX10_ropes 94 (.istore 8) 2 96 := ⟨by decide +kernel, rfl⟩
theorem dX10_ropes_96 : Ins mX10_ropes 96 (.iload 7) 2 98 := ⟨by decide +kernel, rfl⟩
theorem dX10_ropes_98 : Ins mX10_ropes 98 (.iload 5) 2 100 := ⟨by decide +kernel, rfl⟩
theorem dX10_ropes_100 : Ins mX10_ropes 100 (.if_icmp .gt 8) 3 103 := ⟨by decide +kernel, rfl⟩
theorem dX10_ropes_103 : Ins mX10_ropes 103 (.iload 8) 2 105 := ⟨by decide +kernel, rfl⟩
theorem dX10_ropes_105 : Ins mX10_ropes 105 (.ifCond .eq 11) 3 108 := ⟨by decide +kernel, rfl⟩
theorem dX10_ropes_108 : Ins mX10_ropes 108 (.iload 6) 2 110 := ⟨by decide +kernel, rfl⟩
theorem dX10_ropes_110 : Ins mX10_ropes 110 (.istore 4) 2 112 := ⟨by decide +kernel, rfl⟩
theorem dX10_ropes_112 : Ins mX10_ropes 112 (.iload 7) 2 114 := ⟨by decide +kernel, rfl⟩
theorem dX10_ropes_114 : Ins mX10_ropes 114 (.istore 5) 2 116 := ⟨by decide +kernel, rfl⟩
theorem dX10_ropes_116 : Ins mX10_ropes 116 (.iinc 6 1) 3 119 := ⟨by decide +kernel, rfl⟩
theorem dX10_ropes_119 : Ins mX10_ropes 119 (.goto (-85)) 3 122 := ⟨by decide +kernel, rfl⟩
theorem dX10_ropes_122 : Ins mX10_ropes 122 (.iload 4) 2 124 := ⟨by decide +kernel, rfl⟩
theorem dX10_ropes_124 : Ins mX10_ropes 124 (.ireturn) 1 125 := ⟨by decide +kernel, rfl⟩
theorem dX10_haul_0 : Ins mX10_haul 0 (.iload_n 1) 1 1 := ⟨by decide +kernel, rfl⟩
theorem dX10_haul_1 : Ins mX10_haul 1 (.iconst (-1)) 1 2 := ⟨by decide +kernel, rfl⟩
theorem dX10_haul_2 : Ins mX10_haul 2 (.if_icmp .ne 14) 3 5 := ⟨by decide +kernel, rfl⟩
theorem dX10_haul_5 : Ins mX10_haul 5 (.aload_n 0) 1 6 := ⟨by decide +kernel, rfl⟩
theorem dX10_haul_6 : GgR mX10_haul 6 9 9 0 := ⟨0, rfl, ⟨10, _, by decide +kernel, rfl, rfl, by decide, tb_2 (List.mem_of_getElem? (i := 33) (by decide +kernel)) rfl⟩, by decide, rfl⟩
theorem dX10_haul_9 : GgR mX10_haul 9 12 8 4 := ⟨4, rfl, ⟨350, _, by decide +kernel, rfl, rfl, by decide, tb_1 (List.mem_of_getElem? (i := 113) (by decide +kernel)) rfl⟩, by decide, rfl⟩
theorem dX10_haul_12 : CalV mX10_haul 12 15 mX8_forget := ⟨290, by decide +kernel, rfl, tb_4 (List.mem_of_getElem? (i := 227) (by decide +kernel)) rfl, meX8_forget⟩
theorem dX10_haul_15 : Ins mX10_haul 15 (.ireturn) 1 16 := ⟨by decide +kernel, rfl⟩
theorem dX10_haul_16 : Ins mX10_haul 16 (.iload_n 1) 1 17 := ⟨by decide +kernel, rfl⟩
theorem dX10_haul_17 : Ins mX10_haul 17 (.iconst 0) 1 18 := ⟨by decide +kernel, rfl⟩
theorem dX10_haul_18 : Ins mX10_haul 18 (.bipush 98) 2 20 := ⟨by decide +kernel, rfl⟩
theorem dX10_haul_20 : CalS mX10_haul 20 23 mX10_isWithin := ⟨72, by decide +kernel, rfl, Or.inl (tb_2 (List.mem_of_getElem? (i := 89) (by decide +kernel)) rfl), meX10_isWithin⟩
theorem dX10_haul_23 : Ins mX10_haul 23 (.ifCond .eq 19) 3 26 := ⟨by decide +kernel, rfl⟩
theorem dX10_haul_26 : Ins mX10_haul 26 (.aload_n 0) 1 27 := ⟨by decide +kernel, rfl⟩
theorem dX10_haul_27 : GgR mX10_haul 27 30 9 0 := ⟨0, rfl, ⟨10, _, by decide +kernel, rfl, rfl, by decide, tb_2 (List.mem_of_getElem? (i := 33) (by decide +kernel)) rfl⟩, by decide, rfl⟩
theorem dX10_haul_30 : GgR mX10_haul 30 33 8 4 := ⟨4, rfl, ⟨350, _, by decide +kernel, rfl, rfl, by decide, tb_1 (List.mem_of_getElem? (i := 113) (by decide +kernel)) rfl⟩, by decide, rfl⟩
theorem dX10_haul_33 : Ins mX10_haul 33 (.iload_n 1) 1 34 := ⟨by decide +kernel, rfl⟩
theorem dX10_haul_34 : Ins mX10_haul 34 (.iconst 0) 1 35 := ⟨by decide +kernel, rfl⟩
theorem dX10_haul_35 : Ins mX10_haul 35 (.iconst 0) 1 36 := ⟨by decide +kernel, rfl⟩
theorem dX10_haul_36 : CalV mX10_haul 36 39 mX8_add := ⟨295, by decide +kernel, rfl, tb_4 (List.mem_of_getElem? (i := 231) (by decide +kernel)) rfl, meX8_add⟩
theorem dX10_haul_39 : Ins mX10_haul 39 (.goto 5) 3 42 := ⟨by decide +kernel, rfl⟩
theorem dX10_haul_42 : Ins mX10_haul 42 (.bipush (-2)) 2 44 := ⟨by decide +kernel, rfl⟩
theorem dX10_haul_44 : Ins mX10_haul 44 (.ireturn) 1 45 := ⟨by decide +kernel, rfl⟩
theorem dX10_oilings_0 : Ins mX10_oilings 0 (.iload_n 1) 1 1 := ⟨by decide +kernel, rfl⟩
theorem dX10_oilings_1 : Ins mX10_oilings 1 (.iconst 0) 1 2 := ⟨by decide +kernel, rfl⟩
theorem dX10_oilings_2 : Ins mX10_oilings 2 (.bipush 98) 2 4 := ⟨by decide +kernel, rfl⟩
theorem dX10_oilings_4 : CalS mX10_oilings 4 7 mX10_isWithin := ⟨72, by decide +kernel, rfl, Or.inl (tb_2 (List.mem_of_getElem? (i := 89) (by decide +kernel)) rfl), meX10_isWithin⟩
theorem dX10_oilings_7 : Ins mX10_oilings 7 (.ifCond .ne 5) 3 10 := ⟨by decide +kernel, rfl⟩
theorem dX10_oilings_10 : Ins mX10_oilings 10 (.iconst (-1)) 1 11 := ⟨by decide +kernel, rfl⟩
theorem dX10_oilings_11 : Ins mX10_oilings 11 (.ireturn) 1 12 := ⟨by decide +kernel, rfl⟩
theorem dX10_oilings_12 : Ins mX10_oilings 12 (.iconst 1) 1 13 := ⟨by decide +kernel, rfl⟩
theorem dX10_oilings_13 : Ins mX10_oilings 13 (.aload_n 0) 1 14 := ⟨by decide +kernel, rfl⟩
theorem dX10_oilings_14 : GgR mX10_oilings 14 17 9 0 := ⟨0, rfl, ⟨10, _, by decide +kernel, rfl, rfl, by decide, tb_2 (List.mem_of_getElem? (i := 33) (by decide +kernel)) rfl⟩, by decide, rfl⟩
theorem dX10_oilings_17 : GgR mX10_oilings 17 20 8 4 := ⟨4, rfl, ⟨350, _, by decide +kernel, rfl, rfl, by decide, tb_1 (List.mem_of_getElem? (i := 113) (by decide +kernel)) rfl⟩, by decide, rfl⟩
theorem dX10_oilings_20 : GgI mX10_oilings 20 23 7 4 := ⟨4, rfl, ⟨318, _, by decide +kernel, rfl, rfl, by decide, tb_1 (List.mem_of_getElem? (i := 92) (by decide +kernel)) rfl⟩, by decide, rfl⟩
theorem dX10_oilings_23 : Ins mX10_oilings 23 (.ishl) 1 24 := ⟨by decide +kernel, rfl⟩
theorem dX10_oilings_24 : Ins mX10_oilings 24 (.istore_n 3) 1 25 := ⟨by decide +kernel, rfl⟩
theorem dX10_oilings_25 : Ins mX10_oilings 25 (.iload_n 3) 1 26 := ⟨by decide +kernel, rfl⟩
theorem dX10_oilings_26 : Ins mX10_oilings 26 (.iconst 1) 1 27 := ⟨by decide +kernel, rfl⟩
theorem dX10_oilings_27 : Ins mX10_oilings 27 (.isub) 1 28 := ⟨by decide +kernel, rfl⟩
theorem dX10_oilings_28 : Ins mX10_oilings 28 (.istore 4) 2 30 := ⟨by decide +kernel, rfl⟩
theorem dX10_oilings_30 : Ins mX10_oilings 30 (.iconst 0) 1 31 := ⟨by decide +kernel, rfl⟩
theorem dX10_oilings_31 : Ins mX10_oilings 31 (.istore 5) 2 33 := ⟨by decide +kernel, rfl⟩
theorem dX10_oilings_33 : Ins mX10_oilings 33 (.iload 5) 2 35 := ⟨by decide +kernel, rfl⟩
theorem dX10_oilings_35 : Ins mX10_oilings 35 (.iload_n 3) 1 36 := ⟨by decide +kernel, rfl⟩
theorem dX10_oilings_36 : Ins mX10_oilings 36 (.if_icmp .ge 33) 3 39 := ⟨by decide +kernel, rfl⟩
theorem dX10_oilings_39 : Ins mX10_oilings 39 (.iload 5) 2 41 := ⟨by decide +kernel, rfl⟩
theorem dX10_oilings_41 : Ins mX10_oilings 41 (.iload 4) 2 43 := ⟨by decide +kernel, rfl⟩
theorem dX10_oilings_43 : CalS mX10_oilings 43 46 mX10_isLaterOrLess := ⟨353, by decide +kernel, rfl, Or.inl (tb_5 (List.mem_of_getElem? (i := 112) (by decide +kernel)) rfl), meX10_isLaterOrLess⟩
theorem dX10_oilings_46 : Ins mX10_oilings 46 (.ifCond .eq 17) 3 49 := ⟨by decide +kernel, rfl⟩
theorem dX10_oilings_49 : Ins mX10_oilings 49 (.aload_n 0) 1 50 := ⟨by decide +kernel, rfl⟩
theorem dX10_oilings_50 : Ins mX10_oilings 50 (.iload 5) 2 52 := ⟨by decide +kernel, rfl⟩
theorem dX10_oilings_52 : Ins mX10_oilings 52 (.iload_n 1) 1 53 := ⟨by decide +kernel, rfl⟩
theorem dX10_oilings_53 : CalV mX10_oilings 53 56 mX10_lastsAllWinter := ⟨356, by decide +kernel, rfl, tb_5 (List.mem_of_getElem? (i := 115) (by decide +kernel)) rfl, meX10_lastsAllWinter⟩
theorem dX10_oilings_56 : Ins mX10_oilings 56 (.ifCond .eq 7) 3 59 := ⟨by decide +kernel, rfl⟩
theorem dX10_oilings_59 : Ins mX10_oilings 59 (.iload 5) 2 61 := ⟨by decide +kernel, rfl⟩
theorem dX10_oilings_61 : Ins mX10_oilings 61 (.istore 4) 2 63 := ⟨by decide +kernel, rfl⟩
theorem dX10_oilings_63 : Ins mX10_oilings 63 (.iinc 5 1) 3 66 := ⟨by decide +kernel, rfl⟩
theorem dX10_oilings_66 : Ins mX10_oilings 66 (.goto (-33)) 3 69 := ⟨by decide +kernel, rfl⟩
theorem dX10_oilings_69 : Ins mX10_oilings 69 (.iload_n 2) 1 70 := ⟨by decide +kernel, rfl⟩
theorem dX10_oilings_70 : Ins mX10_oilings 70 (.ifCond .eq 8) 3 73 := ⟨by decide +kernel, rfl⟩
theorem dX10_oilings_73 : Ins mX10_oilings 73 (.iload 4) 2 75 := ⟨by decide +kernel, rfl⟩
theorem dX10_oilings_75 : Ins mX10_oilings 75 (.goto 8) 3 78 := ⟨by decide +kernel, rfl⟩
theorem dX10_oilings_78 : Ins mX10_oilings 78 (.iload 4) 2 80 := ⟨by decide +kernel, rfl⟩
theorem dX10_oilings_80 : CalS mX10_oilings 80 83 mJ6_bitCount_0f7a4 := ⟨215, by decide +kernel, rfl, Or.inl (tb_4 (List.mem_of_getElem? (i := 147) (by decide +kernel)) rfl), meJ6_bitCount_0f7a4⟩
theorem dX10_oilings_83 : Ins mX10_oilings 83 (.ireturn) 1 84 := ⟨by decide +kernel, rfl⟩
theorem dX10_show_0 : Ins mX10_show 0 (.iload_n 1) 1 1 := ⟨by decide +kernel, rfl⟩
theorem dX10_show_1 : Ins mX10_show 1 (.iconst 0) 1 2 := ⟨by decide +kernel, rfl⟩
theorem dX10_show_2 : Ins mX10_show 2 (.bipush 99) 2 4 := ⟨by decide +kernel, rfl⟩
theorem dX10_show_4 : CalS mX10_show 4 7 mX10_isWithin := ⟨72, by decide +kernel, rfl, Or.inl (tb_2 (List.mem_of_getElem? (i := 89) (by decide +kernel)) rfl), meX10_isWithin⟩
theorem dX10_show_7 : Ins mX10_show 7 (.ifCond .ne 5) 3 10 := ⟨by decide +kernel, rfl⟩
theorem dX10_show_10 : Ins mX10_show 10 (.iconst (-1)) 1 11 := ⟨by decide +kernel, rfl⟩
theorem dX10_show_11 : Ins mX10_show 11 (.ireturn) 1 12 := ⟨by decide +kernel, rfl⟩
theorem dX10_show_12 : Ins mX10_show 12 (.aload_n 0) 1 13 := ⟨by decide +kernel, rfl⟩
theorem dX10_show_13 : GgR mX10_show 13 16 9 0 := ⟨0, rfl, ⟨10, _, by decide +kernel, rfl, rfl, by decide, tb_2 (List.mem_of_getElem? (i := 33) (by decide +kernel)) rfl⟩, by decide, rfl⟩
theorem dX10_show_16 : GgR mX10_show 16 19 8 0 := ⟨0, rfl, ⟨61, _, by decide +kernel, rfl, rfl, by decide, tb_1 (List.mem_of_getElem? (i := 105) (by decide +kernel)) rfl⟩, by decide, rfl⟩
theorem dX10_show_19 : Ins mX10_show 19 (.astore_n 2) 1 20 := ⟨by decide +kernel, rfl⟩
theorem dX10_show_20 : Ins mX10_show 20 (.iconst 0) 1 21 := ⟨by decide +kernel, rfl⟩
theorem dX10_show_21 : Ins mX10_show 21 (.istore_n 3) 1 22 := ⟨by decide +kernel, rfl⟩
theorem dX10_show_22 : Ins mX10_show 22 (.iconst 0) 1 23 := ⟨by decide +kernel, rfl⟩
theorem dX10_show_23 : Ins mX10_show 23 (.istore 4) 2 25 := ⟨by decide +kernel, rfl⟩
theorem dX10_show_25 : Ins mX10_show 25 (.iconst 0) 1 26 := ⟨by decide +kernel, rfl⟩
theorem dX10_show_26 : Ins mX10_show 26 (.istore 5) 2 28 := ⟨by decide +kernel, rfl⟩
theorem dX10_show_28 : Ins mX10_show 28 (.iload 5) 2 30 := ⟨by decide +kernel, rfl⟩
theorem dX10_show_30 : Ins mX10_show 30 (.aload_n 2) 1 31 := ⟨by decide +kernel, rfl⟩
theorem dX10_show_31 : CalV mX10_show 31 34 mX7_horses := ⟨280, by decide +kernel, rfl, tb_4 (List.mem_of_getElem? (i := 122) (by decide +kernel)) rfl, meX7_horses⟩
theorem dX10_show_34 : Ins mX10_show 34 (.if_icmp .gt 48) 3 37 := ⟨by decide +kernel, rfl⟩
theorem dX10_show_37 : Ins mX10_show 37 (.aload_n 0) 1 38 := ⟨by decide +kernel, rfl⟩
theorem dX10_show_38 : GgR mX10_show 38 41 9 4 := ⟨4, rfl, ⟨35, _, by decide +kernel, rfl, rfl, by decide, tb_2 (List.mem_of_getElem? (i := 37) (by decide +kernel)) rfl⟩, by decide, rfl⟩
theorem dX10_show_41 : Ins mX10_show 41 (.aload_n 0) 1 42 := ⟨by decide +kernel, rfl⟩
theorem dX10_show_42 : CalV mX10_show 42 45 mX10_ruling := ⟨155, by decide +kernel, rfl, tb_3 (List.mem_of_getElem? (i := 194) (by decide +kernel)) rfl, meX10_ruling⟩
theorem dX10_show_45 : Ins mX10_show 45 (.aload_n 2) 1 46 := ⟨by decide +kernel, rfl⟩
theorem dX10_show_46 : Ins mX10_show 46 (.iload 4) 2 48 := ⟨by decide +kernel, rfl⟩
theorem dX10_show_48 : CalV mX10_show 48 51 mX1_seen := ⟨245, by decide +kernel, rfl, tb_4 (List.mem_of_getElem? (i := 164) (by decide +kernel)) rfl, meX1_seen⟩
theorem dX10_show_51 : Ins mX10_show 51 (.iload_n 1) 1 52 := ⟨by decide +kernel, rfl⟩
theorem dX10_show_52 : Ins mX10_show 52 (.if_icmp .ne 5) 3 55 := ⟨by decide +kernel, rfl⟩
theorem dX10_show_55 : Ins mX10_show 55 (.iload_n 3) 1 56 := ⟨by decide +kernel, rfl⟩
theorem dX10_show_56 : Ins mX10_show 56 (.ireturn) 1 57 := ⟨by decide +kernel, rfl⟩
theorem dX10_show_57 : Ins mX10_show 57 (.aload_n 2) 1 58 := ⟨by decide +kernel, rfl⟩
theorem dX10_show_58 : Ins mX10_show 58 (.iload 5) 2 60 := ⟨by decide +kernel, rfl⟩
theorem dX10_show_60 : CalV mX10_show 60 63 mX7_canRock := ⟨359, by decide +kernel, rfl, tb_5 (List.mem_of_getElem? (i := 124) (by decide +kernel)) rfl, meX7_canRock⟩
theorem dX10_show_63 : Ins mX10_show 63 (.ifCond .eq 13) 3 66 := ⟨by decide +kernel, rfl⟩
theorem dX10_show_66 : Ins mX10_show 66 (.iload_n 3) 1 67 := ⟨by decide +kernel, rfl⟩
theorem dX10_show_67 : Ins mX10_show 67 (.iconst 1) 1 68 := ⟨by decide +kernel, rfl⟩
theorem dX10_show_68 : Ins mX10_show 68 (.iload 5) 2 70 := ⟨by decide +kernel, rfl⟩
theorem dX10_show_70 : Ins mX10_show 70 (.ishl) 1 71 := ⟨by decide +kernel, rfl⟩
theorem dX10_show_71 : Ins mX10_show 71 (.ior) 1 72 := ⟨by decide +kernel, rfl⟩
theorem dX10_show_72 : Ins mX10_show 72 (.istore_n 3) 1 73 := ⟨by decide +kernel, rfl⟩
theorem dX10_show_73 : Ins mX10_show 73 (.iinc 4 1) 3 76 := ⟨by decide +kernel, rfl⟩
theorem dX10_show_76 : Ins mX10_show 76 (.iinc 5 1) 3 79 := ⟨by decide +kernel, rfl⟩
theorem dX10_show_79 : Ins mX10_show 79 (.goto (-51)) 3 82 := ⟨by decide +kernel, rfl⟩
theorem dX10_show_82 : Ins mX10_show 82 (.iconst (-1)) 1 83 := ⟨by decide +kernel, rfl⟩
theorem dX10_show_83 : Ins mX10_show 83 (.ireturn) 1 84 := ⟨by decide +kernel, rfl⟩
theorem dX10_counted_0 : Ins mX10_counted 0 (.iload_n 1) 1 1 := ⟨by decide +kernel, rfl⟩
theorem dX10_counted_1 : Ins mX10_counted 1 (.iconst (-1)) 1 2 := ⟨by decide +kernel, rfl⟩
theorem dX10_counted_2 : Ins mX10_counted 2 (.if_icmp .ne 14) 3 5 := ⟨by decide +kernel, rfl⟩
theorem dX10_counted_5 : Ins mX10_counted 5 (.aload_n 0) 1 6 := ⟨by decide +kernel, rfl⟩
theorem dX10_counted_6 : GgR mX10_counted 6 9 9 0 := ⟨0, rfl, ⟨10, _, by decide +kernel, rfl, rfl, by decide, tb_2 (List.mem_of_getElem? (i := 33) (by decide +kernel)) rfl⟩, by decide, rfl⟩
theorem dX10_counted_9 : GgR mX10_counted 9 12 8 5 := ⟨5, rfl, ⟨362, _, by decide +kernel, rfl, rfl, by decide, tb_1 (List.mem_of_getElem? (i := 115) (by decide +kernel)) rfl⟩, by decide, rfl⟩
theorem dX10_counted_12 : CalV mX10_counted 12 15 mX8_forget := ⟨290, by decide +kernel, rfl, tb_4 (List.mem_of_getElem? (i := 227) (by decide +kernel)) rfl, meX8_forget⟩
theorem dX10_counted_15 : Ins mX10_counted 15 (.ireturn) 1 16 := ⟨by decide +kernel, rfl⟩
theorem dX10_counted_16 : Ins mX10_counted 16 (.iload_n 1) 1 17 := ⟨by decide +kernel, rfl⟩
theorem dX10_counted_17 : Ins mX10_counted 17 (.iconst 0) 1 18 := ⟨by decide +kernel, rfl⟩
theorem dX10_counted_18 : Ins mX10_counted 18 (.bipush 8) 2 20 := ⟨by decide +kernel, rfl⟩
theorem dX10_counted_20 : CalS mX10_counted 20 23 mX10_isWithin := ⟨72, by decide +kernel, rfl, Or.inl (tb_2 (List.mem_of_getElem? (i := 89) (by decide +kernel)) rfl), meX10_isWithin⟩
theorem dX10_counted_23 : Ins mX10_counted 23 (.ifCond .eq 13) 3 26 := ⟨by decide +kernel, rfl⟩
theorem dX10_counted_26 : Ins mX10_counted 26 (.iload_n 2) 1 27 := ⟨by decide +kernel, rfl⟩
theorem dX10_counted_27 : Ins mX10_counted 27 (.iconst 0) 1 28 := ⟨by decide +kernel, rfl⟩
theorem dX10_counted_28 : Ins mX10_counted 28 (.bipush 99) 2 30 := ⟨by decide +kernel, rfl⟩
theorem dX10_counted_30 : CalS mX10_counted 30 33 mX10_isWithin := ⟨72, by decide +kernel, rfl, Or.inl (tb_2 (List.mem_of_getElem? (i := 89) (by decide +kernel)) rfl), meX10_isWithin⟩
theorem dX10_counted_33 : Ins mX10_counted 33 (.ifCond .ne 6) 3 36 := ⟨by decide +kernel, rfl⟩
theorem dX10_counted_36 : Ins mX10_counted 36 (.bipush (-2)) 2 38 := ⟨by decide +kernel, rfl⟩
theorem dX10_counted_38 : Ins mX10_counted 38 (.ireturn) 1 39 := ⟨by decide +kernel, rfl⟩
theorem dX10_counted_39 : Ins mX10_counted 39 (.aload_n 0) 1 40 := ⟨by decide +kernel, rfl⟩
theorem dX10_counted_40 : GgR mX10_counted 40 43 9 0 := ⟨0, rfl, ⟨10, _, by decide +kernel, rfl, rfl, by decide, tb_2 (List.mem_of_getElem? (i := 33) (by decide +kernel)) rfl⟩, by decide, rfl⟩
theorem dX10_counted_43 : GgR mX10_counted 43 46 8 5 := ⟨5, rfl, ⟨362, _, by decide +kernel, rfl, rfl, by decide, tb_1 (List.mem_of_getElem? (i := 115) (by decide +kernel)) rfl⟩, by decide, rfl⟩
theorem dX10_counted_46 : Ins mX10_counted 46 (.iload_n 1) 1 47 := ⟨by decide +kernel, rfl⟩
theorem dX10_counted_47 : Ins mX10_counted 47 (.iload_n 2) 1 48 := ⟨by decide +kernel, rfl⟩
theorem dX10_counted_48 : Ins mX10_counted 48 (.iconst 0) 1 49 := ⟨by decide +kernel, rfl⟩
theorem dX10_counted_49 : CalV mX10_counted 49 52 mX8_add := ⟨295, by decide +kernel, rfl, tb_4 (List.mem_of_getElem? (i := 231) (by decide +kernel)) rfl, meX8_add⟩
theorem dX10_counted_52 : Ins mX10_counted 52 (.ireturn) 1 53 := ⟨by decide +kernel, rfl⟩
theorem dX10_whose_0 : Ins mX10_whose 0 (.iconst 0) 1 1 := ⟨by decide +kernel, rfl⟩
theorem dX10_whose_1 : Ins mX10_whose 1 (.istore_n 1) 1 2 := ⟨by decide +kernel, rfl⟩
theorem dX10_whose_2 : Ins mX10_whose 2 (.iconst 0) 1 3 := ⟨by decide +kernel, rfl⟩
theorem dX10_whose_3 : Ins mX10_whose 3 (.istore_n 2) 1 4 := ⟨by decide +kernel, rfl⟩
theorem dX10_whose_4 : Ins mX10_whose 4 (.iload_n 2) 1 5 := ⟨by decide +kernel, rfl⟩
theorem dX10_whose_5 : Ins mX10_whose 5 (.aload_n 0) 1 6 := ⟨by decide +kernel, rfl⟩
theorem dX10_whose_6 : GgR mX10_whose 6 9 9 0 := ⟨0, rfl, ⟨10, _, by decide +kernel, rfl, rfl, by decide, tb_2 (List.mem_of_getElem? (i := 33) (by decide +kernel)) rfl⟩, by decide, rfl⟩
theorem dX10_whose_9 : GgI mX10_whose 9 12 8 6 := ⟨6, rfl, ⟨87, _, by decide +kernel, rfl, rfl, by decide, tb_1 (List.mem_of_getElem? (i := 117) (by decide +kernel)) rfl⟩, by decide, rfl⟩
theorem dX10_whose_12 : Ins mX10_whose 12 (.if_icmp .ge 27) 3 15 := ⟨by decide +kernel, rfl⟩
theorem dX10_whose_15 : Ins mX10_whose 15 (.aload_n 0) 1 16 := ⟨by decide +kernel, rfl⟩
theorem dX10_whose_16 : Ins mX10_whose 16 (.aload_n 0) 1 17 := ⟨by decide +kernel, rfl⟩
theorem dX10_whose_17 : Ins mX10_whose 17 (.iload_n 2) 1 18 := ⟨by decide +kernel, rfl⟩
theorem dX10_whose_18 : CalV mX10_whose 18 21 mX10_scriptAt := ⟨162, by decide +kernel, rfl, tb_3 (List.mem_of_getElem? (i := 198) (by decide +kernel)) rfl, meX10_scriptAt⟩
theorem dX10_whose_21 : CalV mX10_whose 21 24 mX10_saysAllCounted := ⟨365, by decide +kernel, rfl, tb_5 (List.mem_of_getElem? (i := 136) (by decide +kernel)) rfl, meX10_saysAllCounted⟩
theorem dX10_whose_24 : Ins mX10_whose 24 (.ifCond .eq 9) 3 27 := ⟨by decide +kernel, rfl⟩
theorem dX10_whose_27 : Ins mX10_whose 27 (.iload_n 1) 1 28 := ⟨by decide +kernel, rfl⟩
theorem dX10_whose_28 : Ins mX10_whose 28 (.iconst 1) 1 29 := ⟨by decide +kernel, rfl⟩
theorem dX10_whose_29 : Ins mX10_whose 29 (.iload_n 2) 1 30 := ⟨by decide +kernel, rfl⟩
theorem dX10_whose_30 : Ins mX10_whose 30 (.ishl) 1 31 := ⟨by decide +kernel, rfl⟩
theorem dX10_whose_31 : Ins mX10_whose 31 (.ior) 1 32 := ⟨by decide +kernel, rfl⟩
theorem dX10_whose_32 : Ins mX10_whose 32 (.istore_n 1) 1 33 := ⟨by decide +kernel, rfl⟩
theorem dX10_whose_33 : Ins mX10_whose 33 (.iinc 2 1) 3 36 := ⟨by decide +kernel, rfl⟩
theorem dX10_whose_36 : Ins mX10_whose 36 (.goto (-32)) 3 39 := ⟨by decide +kernel, rfl⟩
theorem dX10_whose_39 : Ins mX10_whose 39 (.iload_n 1) 1 40 := ⟨by decide +kernel, rfl⟩
theorem dX10_whose_40 : Ins mX10_whose 40 (.ireturn) 1 41 := ⟨by decide +kernel, rfl⟩
theorem dX10_slid_0 : Ins mX10_slid 0 (.iload_n 1) 1 1 := ⟨by decide +kernel, rfl⟩
theorem dX10_slid_1 : Ins mX10_slid 1 (.iconst (-1)) 1 2 := ⟨by decide +kernel, rfl⟩
theorem dX10_slid_2 : Ins mX10_slid 2 (.if_icmp .eq 20) 3 5 := ⟨by decide +kernel, rfl⟩
theorem dX10_slid_5 : Ins mX10_slid 5 (.aload_n 0) 1 6 := ⟨by decide +kernel, rfl⟩
theorem dX10_slid_6 : GgR mX10_slid 6 9 9 0 := ⟨0, rfl, ⟨10, _, by decide +kernel, rfl, rfl, by decide, tb_2 (List.mem_of_getElem? (i := 33) (by decide +kernel)) rfl⟩, by decide, rfl⟩
theorem dX10_slid_9 : GgR mX10_slid 9 12 8 0 := ⟨0, rfl, ⟨61, _, by decide +kernel, rfl, rfl, by decide, tb_1 (List.mem_of_getElem? (i := 105) (by decide +kernel)) rfl⟩, by decide, rfl⟩
theorem dX10_slid_12 : Ins mX10_slid 12 (.iload_n 1) 1 13 := ⟨by decide +kernel, rfl⟩
theorem dX10_slid_13 : CalV mX10_slid 13 16 mX7_isHorse := ⟨194, by decide +kernel, rfl, tb_4 (List.mem_of_getElem? (i := 137) (by decide +kernel)) rfl, meX7_isHorse⟩
theorem dX10_slid_16 : Ins mX10_slid 16 (.ifCond .ne 6) 3 19 := ⟨by decide +kernel, rfl⟩
theorem dX10_slid_19 : Ins mX10_slid 19 (.bipush (-2)) 2 21 := ⟨by decide +kernel, rfl⟩
theorem dX10_slid_21 : Ins mX10_slid 21 (.ireturn) 1 22 := ⟨by decide +kernel, rfl⟩
theorem dX10_slid_22 : Ins mX10_slid 22 (.iconst 0) 1 23 := ⟨by decide +kernel, rfl⟩
theorem dX10_slid_23 : Ins mX10_slid 23 (.istore_n 2) 1 24 := ⟨by decide +kernel, rfl⟩
theorem dX10_slid_24 : Ins mX10_slid 24 (.aload_n 0) 1 25 := ⟨by decide +kernel, rfl⟩
theorem dX10_slid_25 : GgR mX10_slid 25 28 9 0 := ⟨0, rfl, ⟨10, _, by decide +kernel, rfl, rfl, by decide, tb_2 (List.mem_of_getElem? (i := 33) (by decide +kernel)) rfl⟩, by decide, rfl⟩
theorem dX10_slid_28 : GgR mX10_slid 28 31 8 0 := ⟨0, rfl, ⟨61, _, by decide +kernel, rfl, rfl, by decide, tb_1 (List.mem_of_getElem? (i := 105) (by decide +kernel)) rfl⟩, by decide, rfl⟩
theorem dX10_slid_31 : CalV mX10_slid 31 34 mX7_slides := ⟨249, by decide +kernel, rfl, tb_4 (List.mem_of_getElem? (i := 172) (by decide +kernel)) rfl, meX7_slides⟩
theorem dX10_slid_34 : Ins mX10_slid 34 (.istore_n 3) 1 35 := ⟨by decide +kernel, rfl⟩
theorem dX10_slid_35 : Ins mX10_slid 35 (.iconst 0) 1 36 := ⟨by decide +kernel, rfl⟩
theorem dX10_slid_36 : Ins mX10_slid 36 (.istore 4) 2 38 := ⟨by decide +kernel, rfl⟩
theorem dX10_slid_38 : Ins mX10_slid 38 (.iload 4) 2 40 := ⟨by decide +kernel, rfl⟩
theorem dX10_slid_40 : Ins mX10_slid 40 (.iload_n 3) 1 41 := ⟨by decide +kernel, rfl⟩
theorem dX10_slid_41 : Ins mX10_slid 41 (.if_icmp .ge 53) 3 44 := ⟨by decide +kernel, rfl⟩
theorem dX10_slid_44 : Ins mX10_slid 44 (.iload_n 1) 1 45 := ⟨by decide +kernel, rfl⟩
theorem dX10_slid_45 : Ins mX10_slid 45 (.iconst (-1)) 1 46 := ⟨by decide +kernel, rfl⟩
theorem dX10_slid_46 : Ins mX10_slid 46 (.if_icmp .ne 22) 3 49 := ⟨by decide +kernel, rfl⟩
theorem dX10_slid_49 : Ins mX10_slid 49 (.iload_n 2) 1 50 := ⟨by decide +kernel, rfl⟩
theorem dX10_slid_50 : Ins mX10_slid 50 (.aload_n 0) 1 51 := ⟨by decide +kernel, rfl⟩
theorem dX10_slid_51 : GgR mX10_slid 51 54 9 0 := ⟨0, rfl, ⟨10, _, by decide +kernel, rfl, rfl, by decide, tb_2 (List.mem_of_getElem? (i := 33) (by decide +kernel)) rfl⟩, by decide, rfl⟩
theorem dX10_slid_54 : GgR mX10_slid 54 57 8 0 := ⟨0, rfl, ⟨61, _, by decide +kernel, rfl, rfl, by decide, tb_1 (List.mem_of_getElem? (i := 105) (by decide +kernel)) rfl⟩, by decide, rfl⟩
theorem dX10_slid_57 : Ins mX10_slid 57 (.iload 4) 2 59 := ⟨by decide +kernel, rfl⟩
theorem dX10_slid_59 : Ins mX10_slid 59 (.iconst 1) 1 60 := ⟨by decide +kernel, rfl⟩
theorem dX10_slid_60 : CalV mX10_slid 60 63 mX7_slideAt := ⟨252, by decide +kernel, rfl, tb_4 (List.mem_of_getElem? (i := 173) (by decide +kernel)) rfl, meX7_slideAt⟩
theorem dX10_slid_63 : Ins mX10_slid 63 (.iadd) 1 64 := ⟨by decide +kernel, rfl⟩
theorem dX10_slid_64 : Ins mX10_slid 64 (.istore_n 2) 1 65 := ⟨by decide +kernel, rfl⟩
theorem dX10_slid_65 : Ins mX10_slid 65 (.goto 23) 3 68 := ⟨by decide +kernel, rfl⟩
theorem dX10_slid_68 : Ins mX10_slid 68 (.iload_n 2) 1 69 := ⟨by decide +kernel, rfl⟩
theorem dX10_slid_69 : Ins mX10_slid 69 (.aload_n 0) 1 70 := ⟨by decide +kernel, rfl⟩
theorem dX10_slid_70 : GgR mX10_slid 70 73 9 0 := ⟨0, rfl, ⟨10, _, by decide +kernel, rfl, rfl, by decide, tb_2 (List.mem_of_getElem? (i := 33) (by decide +kernel)) rfl⟩, by decide, rfl⟩
theorem dX10_slid_73 : GgR mX10_slid 73 76 8 0 := ⟨0, rfl, ⟨61, _, by decide +kernel, rfl, rfl, by decide, tb_1 (List.mem_of_getElem? (i := 105) (by decide +kernel)) rfl⟩, by decide, rfl⟩
theorem dX10_slid_76 : Ins mX10_slid 76 (.iload 4) 2 78 := ⟨by decide +kernel, rfl⟩
theorem dX10_slid_78 : Ins mX10_slid 78 (.iconst 2) 1 79 := ⟨by decide +kernel, rfl⟩
theorem dX10_slid_79 : CalV mX10_slid 79 82 mX7_slideAt := ⟨252, by decide +kernel, rfl, tb_4 (List.mem_of_getElem? (i := 173) (by decide +kernel)) rfl, meX7_slideAt⟩
theorem dX10_slid_82 : Ins mX10_slid 82 (.iload_n 1) 1 83 := ⟨by decide +kernel, rfl⟩
theorem dX10_slid_83 : Ins mX10_slid 83 (.ishr) 1 84 := ⟨by decide +kernel, rfl⟩
theorem dX10_slid_84 : Ins mX10_slid 84 (.iconst 1) 1 85 := ⟨by decide +kernel, rfl⟩
theorem dX10_slid_85 : Ins mX10_slid 85 (.iand) 1 86 := ⟨by decide +kernel, rfl⟩
theorem dX10_slid_86 : Ins mX10_slid 86 (.iadd) 1 87 := ⟨by decide +kernel, rfl⟩
theorem dX10_slid_87 : Ins mX10_slid 87 (.istore_n 2) 1 88 := ⟨by decide +kernel, rfl⟩
theorem dX10_slid_88 : Ins mX10_slid 88 (.iinc 4 1) 3 91 := ⟨by decide +kernel, rfl⟩
theorem dX10_slid_91 : Ins mX10_slid 91 (.goto (-53)) 3 94 := ⟨by decide +kernel, rfl⟩
theorem dX10_slid_94 : Ins mX10_slid 94 (.iload_n 2) 1 95 := ⟨by decide +kernel, rfl⟩
theorem dX10_slid_95 : Ins mX10_slid 95 (.ireturn) 1 96 := ⟨by decide +kernel, rfl⟩
theorem dX10_inStep_0 : Ins mX10_inStep 0 (.aload_n 0) 1 1 := ⟨by decide +kernel, rfl⟩
theorem dX10_inStep_1 : GgR mX10_inStep 1 4 9 0 := ⟨0, rfl, ⟨10, _, by decide +kernel, rfl, rfl, by decide, tb_2 (List.mem_of_getElem? (i := 33) (by decide +kernel)) rfl⟩, by decide, rfl⟩
theorem dX10_inStep_4 : GgR mX10_inStep 4 7 8 0 := ⟨0, rfl, ⟨61, _, by decide +kernel, rfl, rfl, by decide, tb_1 (List.mem_of_getElem? (i := 105) (by decide +kernel)) rfl⟩, by decide, rfl⟩
theorem dX10_inStep_7 : Ins mX10_inStep 7 (.astore_n 1) 1 8 := ⟨by decide +kernel, rfl⟩
theorem dX10_inStep_8 : Ins mX10_inStep 8 (.iconst 0) 1 9 := ⟨by decide +kernel, rfl⟩
theorem dX10_inStep_9 : Ins mX10_inStep 9 (.istore_n 2) 1 10 := ⟨by decide +kernel, rfl⟩
theorem dX10_inStep_10 : Ins mX10_inStep 10 (.iconst 0) 1 11 := ⟨by decide +kernel, rfl⟩
theorem dX10_inStep_11 : Ins mX10_inStep 11 (.istore_n 3) 1 12 := ⟨by decide +kernel, rfl⟩
theorem dX10_inStep_12 : Ins mX10_inStep 12 (.iload_n 3) 1 13 := ⟨by decide +kernel, rfl⟩
theorem dX10_inStep_13 : Ins mX10_inStep 13 (.aload_n 1) 1 14 := ⟨by decide +kernel, rfl⟩
theorem dX10_inStep_14 : CalV mX10_inStep 14 17 mX7_horses := ⟨280, by decide +kernel, rfl, tb_4 (List.mem_of_getElem? (i := 122) (by decide +kernel)) rfl, meX7_horses⟩
theorem dX10_inStep_17 : Ins mX10_inStep 17 (.if_icmp .ge 63) 3 20 := ⟨by decide +kernel, rfl⟩
theorem dX10_inStep_20 : Ins mX10_inStep 20 (.iconst 0) 1 21 := ⟨by decide +kernel, rfl⟩
theorem dX10_inStep_21 : Ins mX10_inStep 21 (.istore 4) 2 23 := ⟨by decide +kernel, rfl⟩
theorem dX10_inStep_23 : Ins mX10_inStep 23 (.iload 4) 2 25 := ⟨by decide +kernel, rfl⟩
theorem dX10_inStep_25 : Ins mX10_inStep 25 (.iload_n 3) 1 26 := ⟨by decide +kernel, rfl⟩
theorem dX10_inStep_26 : Ins mX10_inStep 26 (.if_icmp .ge 48) 3 29 := ⟨by decide +kernel, rfl⟩
theorem dX10_inStep_29 : Ins mX10_inStep 29 (.aload_n 1) 1 30 := ⟨by decide +kernel, rfl⟩
theorem dX10_inStep_30 : Ins mX10_inStep 30 (.iload_n 3) 1 31 := ⟨by decide +kernel, rfl⟩
theorem dX10_inStep_31 : CalV mX10_inStep 31 34 mX7_beatOf := ⟨197, by decide +kernel, rfl, tb_4 (List.mem_of_getElem? (i := 138) (by decide +kernel)) rfl, meX7_beatOf⟩
theorem dX10_inStep_34 : Ins mX10_inStep 34 (.aload_n 1) 1 35 := ⟨by decide +kernel, rfl⟩
theorem dX10_inStep_35 : Ins mX10_inStep 35 (.iload 4) 2 37 := ⟨by decide +kernel, rfl⟩
theorem dX10_inStep_37 : CalV mX10_inStep 37 40 mX7_beatOf := ⟨197, by decide +kernel, rfl, tb_4 (List.mem_of_getElem? (i := 138) (by decide +kernel)) rfl, meX7_beatOf⟩
theorem dX10_inStep_40 : Ins mX10_inStep 40 (.if_icmp .ne 28) 3 43 := ⟨by decide +kernel, rfl⟩
theorem dX10_inStep_43 : Ins mX10_inStep 43 (.aload_n 1) 1 44 := ⟨by decide +kernel, rfl⟩
theorem dX10_inStep_44 : Ins mX10_inStep 44 (.iload_n 3) 1 45 := ⟨by decide +kernel, rfl⟩
theorem dX10_inStep_45 : CalV mX10_inStep 45 48 mX7_shiftOf := ⟨200, by decide +kernel, rfl, tb_4 (List.mem_of_getElem? (i := 139) (by decide +kernel)) rfl, meX7_shiftOf⟩
theorem dX10_inStep_48 : Ins mX10_inStep 48 (.aload_n 1) 1 49 := ⟨by decide +kernel, rfl⟩
theorem dX10_inStep_49 : Ins mX10_inStep 49 (.iload 4) 2 51 := ⟨by decide +kernel, rfl⟩
theorem dX10_inStep_51 : CalV mX10_inStep 51 54 mX7_shiftOf := ⟨200, by decide +kernel, rfl, tb_4 (List.mem_of_getElem? (i := 139) (by decide +kernel)) rfl, meX7_shiftOf⟩
theorem dX10_inStep_54 : Ins mX10_inStep 54 (.if_icmp .ne 14) 3 57 := ⟨by decide +kernel, rfl⟩
theorem dX10_inStep_57 : Ins mX10_inStep 57 (.iload_n 2) 1 58 := ⟨by decide +kernel, rfl⟩
theorem dX10_inStep_58 : Ins mX10_inStep 58 (.iconst 1) 1 59 := ⟨by decide +kernel, rfl⟩
theorem dX10_inStep_59 : Ins mX10_inStep 59 (.iload_n 3) 1 60 := ⟨by decide +kernel, rfl⟩
theorem dX10_inStep_60 : Ins mX10_inStep 60 (.ishl) 1 61 := ⟨by decide +kernel, rfl⟩
theorem dX10_inStep_61 : Ins mX10_inStep 61 (.iconst 1) 1 62 := ⟨by decide +kernel, rfl⟩
theorem dX10_inStep_62 : Ins mX10_inStep 62 (.iload 4) 2 64 := ⟨by decide +kernel, rfl⟩
theorem dX10_inStep_64 : Ins mX10_inStep 64 (.ishl) 1 65 := ⟨by decide +kernel, rfl⟩
theorem dX10_inStep_65 : Ins mX10_inStep 65 (.ior) 1 66 := ⟨by decide +kernel, rfl⟩
theorem dX10_inStep_66 : Ins mX10_inStep 66 (.ior) 1 67 := ⟨by decide +kernel, rfl⟩
theorem dX10_inStep_67 : Ins mX10_inStep 67 (.istore_n 2) 1 68 := ⟨by decide +kernel, rfl⟩
theorem dX10_inStep_68 : Ins mX10_inStep 68 (.iinc 4 1) 3 71 := ⟨by decide +kernel, rfl⟩
theorem dX10_inStep_71 : Ins mX10_inStep 71 (.goto (-48)) 3 74 := ⟨by decide +kernel, rfl⟩
theorem dX10_inStep_74 : Ins mX10_inStep 74 (.iinc 3 1) 3 77 := ⟨by decide +kernel, rfl⟩
theorem dX10_inStep_77 : Ins mX10_inStep 77 (.goto (-65)) 3 80 := ⟨by decide +kernel, rfl⟩
theorem dX10_inStep_80 : Ins mX10_inStep 80 (.iload_n 2) 1 81 := ⟨by decide +kernel, rfl⟩
theorem dX10_inStep_81 : Ins mX10_inStep 81 (.ireturn) 1 82 := ⟨by decide +kernel, rfl⟩
theorem dX10_tiredest_0 : Ins mX10_tiredest 0 (.aload_n 0) 1 1 := ⟨by decide +kernel, rfl⟩
theorem dX10_tiredest_1 : GgR mX10_tiredest 1 4 9 0 := ⟨0, rfl, ⟨10, _, by decide +kernel, rfl, rfl, by decide, tb_2 (List.mem_of_getElem? (i := 33) (by decide +kernel)) rfl⟩, by decide, rfl⟩
theorem dX10_tiredest_4 : GgR mX10_tiredest 4 7 8 0 := ⟨0, rfl, ⟨61, _, by decide +kernel, rfl, rfl, by decide, tb_1 (List.mem_of_getElem? (i := 105) (by decide +kernel)) rfl⟩, by decide, rfl⟩
theorem dX10_tiredest_7 : Ins mX10_tiredest 7 (.astore_n 1) 1 8 := ⟨by decide +kernel, rfl⟩
theorem dX10_tiredest_8 : Ins mX10_tiredest 8 (.iconst (-1)) 1 9 := ⟨by decide +kernel, rfl⟩
theorem dX10_tiredest_9 : Ins mX10_tiredest 9 (.istore_n 2) 1 10 := ⟨by decide +kernel, rfl⟩
theorem dX10_tiredest_10 : Ins mX10_tiredest 10 (.iconst (-1)) 1 11 := ⟨by decide +kernel, rfl⟩
theorem dX10_tiredest_11 : Ins mX10_tiredest 11 (.istore_n 3) 1 12 := ⟨by decide +kernel, rfl⟩
theorem dX10_tiredest_12 : Ins mX10_tiredest 12 (.iconst 0) 1 13 := ⟨by decide +kernel, rfl⟩
theorem dX10_tiredest_13 : Ins mX10_tiredest 13 (.istore 4) 2 15 := ⟨by decide +kernel, rfl⟩
theorem dX10_tiredest_15 : Ins mX10_tiredest 15 (.iload 4) 2 17 := ⟨by decide +kernel, rfl⟩
theorem dX10_tiredest_17 : Ins mX10_tiredest 17 (.aload_n 1) 1 18 := ⟨by decide +kernel, rfl⟩
theorem dX10_tiredest_18 : CalV mX10_tiredest 18 21 mX7_boys := ⟨369, by decide +kernel, rfl, tb_4 (List.mem_of_getElem? (i := 121) (by decide +kernel)) rfl, meX7_boys⟩
theorem dX10_tiredest_21 : Ins mX10_tiredest 21 (.if_icmp .ge 29) 3 24 := ⟨by decide +kernel, rfl⟩
theorem dX10_tiredest_24 : Ins mX10_tiredest 24 (.aload_n 1) 1 25 := ⟨by decide +kernel, rfl⟩
theorem dX10_tiredest_25 : Ins mX10_tiredest 25 (.iload 4) 2 27 := ⟨by decide +kernel, rfl⟩
theorem dX10_tiredest_27 : CalV mX10_tiredest 27 30 mX7_tiredOf := ⟨230, by decide +kernel, rfl, tb_4 (List.mem_of_getElem? (i := 155) (by decide +kernel)) rfl, meX7_tiredOf⟩
theorem dX10_tiredest_30 : Ins mX10_tiredest 30 (.iload_n 3) 1 31 := ⟨by decide +kernel, rfl⟩
theorem dX10_tiredest_31 : Ins mX10_tiredest 31 (.if_icmp .le 13) 3 34 := ⟨by decide +kernel, rfl⟩
theorem dX10_tiredest_34 : Ins mX10_tiredest 34 (.iload 4) 2 36 := ⟨by decide +kernel, rfl⟩
theorem dX10_tiredest_36 : Ins mX10_tiredest 36 (.istore_n 2) 1 37 := ⟨by decide +kernel, rfl⟩
theorem dX10_tiredest_37 : Ins mX10_tiredest 37 (.aload_n 1) 1 38 := ⟨by decide +kernel, rfl⟩
theorem dX10_tiredest_38 : Ins mX10_tiredest 38 (.iload 4) 2 40 := ⟨by decide +kernel, rfl⟩
theorem dX10_tiredest_40 : CalV mX10_tiredest 40 43 mX7_tiredOf := ⟨230, by decide +kernel, rfl, tb_4 (List.mem_of_getElem? (i := 155) (by decide +kernel)) rfl, meX7_tiredOf⟩
theorem dX10_tiredest_43 : Ins mX10_tiredest 43 (.istore_n 3) 1 44 := ⟨by decide +kernel, rfl⟩
theorem dX10_tiredest_44 : Ins mX10_tiredest 44 (.iinc 4 1) 3 47 := ⟨by decide +kernel, rfl⟩
theorem dX10_tiredest_47 : Ins mX10_tiredest 47 (.goto (-32)) 3 50 := ⟨by decide +kernel, rfl⟩
theorem dX10_tiredest_50 : Ins mX10_tiredest 50 (.iload_n 2) 1 51 := ⟨by decide +kernel, rfl⟩
theorem dX10_tiredest_51 : Ins mX10_tiredest 51 (.ireturn) 1 52 := ⟨by decide +kernel, rfl⟩
theorem dX10_veterans_0 : Ins mX10_veterans 0 (.iload_n 1) 1 1 := ⟨by decide +kernel, rfl⟩
theorem dX10_veterans_1 : Ins mX10_veterans 1 (.iconst 1) 1 2 := ⟨by decide +kernel, rfl⟩
theorem dX10_veterans_2 : Ins mX10_veterans 2 (.bipush 9) 2 4 := ⟨by decide +kernel, rfl⟩
theorem dX10_veterans_4 : CalS mX10_veterans 4 7 mX10_isWithin := ⟨72, by decide +kernel, rfl, Or.inl (tb_2 (List.mem_of_getElem? (i := 89) (by decide +kernel)) rfl), meX10_isWithin⟩
theorem dX10_veterans_7 : Ins mX10_veterans 7 (.ifCond .ne 5) 3 10 := ⟨by decide +kernel, rfl⟩
theorem dX10_veterans_10 : Ins mX10_veterans 10 (.iconst (-1)) 1 11 := ⟨by decide +kernel, rfl⟩
theorem dX10_veterans_11 : Ins mX10_veterans 11 (.ireturn) 1 12 := ⟨by decide +kernel, rfl⟩
theorem dX10_veterans_12 : Ins mX10_veterans 12 (.iconst 0) 1 13 := ⟨by decide +kernel, rfl⟩
theorem dX10_veterans_13 : Ins mX10_veterans 13 (.istore_n 2) 1 14 := ⟨by decide +kernel, rfl⟩
theorem dX10_veterans_14 : Ins mX10_veterans 14 (.iconst 0) 1 15 := ⟨by decide +kernel, rfl⟩
theorem dX10_veterans_15 : Ins mX10_veterans 15 (.istore_n 3) 1 16 := ⟨by decide +kernel, rfl⟩
theorem dX10_veterans_16 : Ins mX10_veterans 16 (.iload_n 3) 1 17 := ⟨by decide +kernel, rfl⟩
theorem dX10_veterans_17 : Ins mX10_veterans 17 (.aload_n 0) 1 18 := ⟨by decide +kernel, rfl⟩
theorem dX10_veterans_18 : GgR mX10_veterans 18 21 9 0 := ⟨0, rfl, ⟨10, _, by decide +kernel, rfl, rfl, by decide, tb_2 (List.mem_of_getElem? (i := 33) (by decide +kernel)) rfl⟩, by decide, rfl⟩
theorem dX10_veterans_21 : GgR mX10_veterans 21 24 8 0 := ⟨0, rfl, ⟨61, _, by decide +kernel, rfl, rfl, by decide, tb_1 (List.mem_of_getElem? (i := 105) (by decide +kernel)) rfl⟩, by decide, rfl⟩
theorem dX10_veterans_24 : CalV mX10_veterans 24 27 mX7_boys := ⟨369, by decide +kernel, rfl, tb_4 (List.mem_of_getElem? (i := 121) (by decide +kernel)) rfl, meX7_boys⟩
theorem dX10_veterans_27 : Ins mX10_veterans 27 (.if_icmp .ge 30) 3 30 := ⟨by decide +kernel, rfl⟩
theorem dX10_veterans_30 : Ins mX10_veterans 30 (.aload_n 0) 1 31 := ⟨by decide +kernel, rfl⟩
theorem dX10_veterans_31 : GgR mX10_veterans 31 34 9 0 := ⟨0, rfl, ⟨10, _, by decide +kernel, rfl, rfl, by decide, tb_2 (List.mem_of_getElem? (i := 33) (by decide +kernel)) rfl⟩, by decide, rfl⟩
theorem dX10_veterans_34 : GgR mX10_veterans 34 37 8 0 := ⟨0, rfl, ⟨61, _, by decide +kernel, rfl, rfl, by decide, tb_1 (List.mem_of_getElem? (i := 105) (by decide +kernel)) rfl⟩, by decide, rfl⟩
theorem dX10_veterans_37 : Ins mX10_veterans 37 (.iload_n 3) 1 38 := ⟨by decide +kernel, rfl⟩
theorem dX10_veterans_38 : CalV mX10_veterans 38 41 mX7_sizeOf := ⟨227, by decide +kernel, rfl, tb_4 (List.mem_of_getElem? (i := 154) (by decide +kernel)) rfl, meX7_sizeOf⟩
theorem dX10_veterans_41 : Ins mX10_veterans 41 (.iload_n 1) 1 42 := ⟨by decide +kernel, rfl⟩
theorem dX10_veterans_42 : Ins mX10_veterans 42 (.if_icmp .lt 9) 3 45 := ⟨by decide +kernel, rfl⟩
theorem dX10_veterans_45 : Ins mX10_veterans 45 (.iload_n 2) 1 46 := ⟨by decide +kernel, rfl⟩
theorem dX10_veterans_46 : Ins mX10_veterans 46 (.iconst 1) 1 47 := ⟨by decide +kernel, rfl⟩
theorem dX10_veterans_47 : Ins mX10_veterans 47 (.iload_n 3) 1 48 := ⟨by decide +kernel, rfl⟩
theorem dX10_veterans_48 : Ins mX10_veterans 48 (.ishl) 1 49 := ⟨by decide +kernel, rfl⟩
theorem dX10_veterans_49 : Ins mX10_veterans 49 (.ior) 1 50 := ⟨by decide +kernel, rfl⟩
theorem dX10_veterans_50 : Ins mX10_veterans 50 (.istore_n 2) 1 51 := ⟨by decide +kernel, rfl⟩
theorem dX10_veterans_51 : Ins mX10_veterans 51 (.iinc 3 1) 3 54 := ⟨by decide +kernel, rfl⟩
theorem dX10_veterans_54 : Ins mX10_veterans 54 (.goto (-38)) 3 57 := ⟨by decide +kernel, rfl⟩
theorem dX10_veterans_57 : Ins mX10_veterans 57 (.iload_n 2) 1 58 := ⟨by decide +kernel, rfl⟩
theorem dX10_veterans_58 : Ins mX10_veterans 58 (.ireturn) 1 59 := ⟨by decide +kernel, rfl⟩
theorem dX10_lonely_0 : Ins mX10_lonely 0 (.aload_n 0) 1 1 := ⟨by decide +kernel, rfl⟩
theorem dX10_lonely_1 : GgR mX10_lonely 1 4 9 0 := ⟨0, rfl, ⟨10, _, by decide +kernel, rfl, rfl, by decide, tb_2 (List.mem_of_getElem? (i := 33) (by decide +kernel)) rfl⟩, by decide, rfl⟩
theorem dX10_lonely_4 : GgR mX10_lonely 4 7 8 0 := ⟨0, rfl, ⟨61, _, by decide +kernel, rfl, rfl, by decide, tb_1 (List.mem_of_getElem? (i := 105) (by decide +kernel)) rfl⟩, by decide, rfl⟩
theorem dX10_lonely_7 : Ins mX10_lonely 7 (.astore_n 1) 1 8 := ⟨by decide +kernel, rfl⟩
theorem dX10_lonely_8 : Ins mX10_lonely 8 (.iconst 0) 1 9 := ⟨by decide +kernel, rfl⟩
theorem dX10_lonely_9 : Ins mX10_lonely 9 (.istore_n 2) 1 10 := ⟨by decide +kernel, rfl⟩
theorem dX10_lonely_10 : Ins mX10_lonely 10 (.iconst 0) 1 11 := ⟨by decide +kernel, rfl⟩
theorem dX10_lonely_11 : Ins mX10_lonely 11 (.istore_n 3) 1 12 := ⟨by decide +kernel, rfl⟩
theorem dX10_lonely_12 : Ins mX10_lonely 12 (.iload_n 3) 1 13 := ⟨by decide +kernel, rfl⟩
theorem dX10_lonely_13 : Ins mX10_lonely 13 (.bipush 60) 2 15 := ⟨by decide +kernel, rfl⟩
theorem dX10_lonely_15 : Ins mX10_lonely 15 (.if_icmp .ge 35) 3 18 := ⟨by decide +kernel, rfl⟩
theorem dX10_lonely_18 : Ins mX10_lonely 18 (.aload_n 1) 1 19 := ⟨by decide +kernel, rfl⟩
theorem dX10_lonely_19 : Ins mX10_lonely 19 (.aload_n 1) 1 20 := ⟨by decide +kernel, rfl⟩
theorem dX10_lonely_20 : CalV mX10_lonely 20 23 mX7_thisMinute := ⟨151, by decide +kernel, rfl, tb_3 (List.mem_of_getElem? (i := 190) (by decide +kernel)) rfl, meX7_thisMinute⟩
theorem dX10_lonely_23 : Ins mX10_lonely 23 (.iload_n 3) 1 24 := ⟨by decide +kernel, rfl⟩
theorem dX10_lonely_24 : Ins mX10_lonely 24 (.iadd) 1 25 := ⟨by decide +kernel, rfl⟩
theorem dX10_lonely_25 : CalV mX10_lonely 25 28 mX7_dueAt := ⟨263, by decide +kernel, rfl, tb_4 (List.mem_of_getElem? (i := 190) (by decide +kernel)) rfl, meX7_dueAt⟩
theorem dX10_lonely_28 : Ins mX10_lonely 28 (.istore 4) 2 30 := ⟨by decide +kernel, rfl⟩
theorem dX10_lonely_30 : Ins mX10_lonely 30 (.iload 4) 2 32 := ⟨by decide +kernel, rfl⟩
theorem dX10_lonely_32 : CalS mX10_lonely 32 35 mJ6_bitCount_0f7a4 := ⟨215, by decide +kernel, rfl, Or.inl (tb_4 (List.mem_of_getElem? (i := 147) (by decide +kernel)) rfl), meJ6_bitCount_0f7a4⟩
theorem dX10_lonely_35 : Ins mX10_lonely 35 (.iconst 1) 1 36 := ⟨by decide +kernel, rfl⟩
theorem dX10_lonely_36 : Ins mX10_lonely 36 (.if_icmp .le 8) 3 39 := ⟨by decide +kernel, rfl⟩
theorem dX10_lonely_39 : Ins mX10_lonely 39 (.iload_n 2) 1 40 := ⟨by decide +kernel, rfl⟩
theorem dX10_lonely_40 : Ins mX10_lonely 40 (.iload 4) 2 42 := ⟨by decide +kernel, rfl⟩
theorem dX10_lonely_42 : Ins mX10_lonely 42 (.ior) 1 43 := ⟨by decide +kernel, rfl⟩
theorem dX10_lonely_43 : Ins mX10_lonely 43 (.istore_n 2) 1 44 := ⟨by decide +kernel, rfl⟩
theorem dX10_lonely_44 : Ins mX10_lonely 44 (.iinc 3 1) 3 47 := ⟨by decide +kernel, rfl⟩
theorem dX10_lonely_47 : Ins mX10_lonely 47 (.goto (-35)) 3 50 := ⟨by decide +kernel, rfl⟩
theorem dX10_lonely_50 : Ins mX10_lonely 50 (.iconst 0) 1 51 := ⟨by decide +kernel, rfl⟩
theorem dX10_lonely_51 : Ins mX10_lonely 51 (.istore_n 3) 1 52 := ⟨by decide +kernel, rfl⟩
theorem dX10_lonely_52 : Ins mX10_lonely 52 (.iload_n 3) 1 53 := ⟨by decide +kernel, rfl⟩
theorem dX10_lonely_53 : Ins mX10_lonely 53 (.aload_n 1) 1 54 := ⟨by decide +kernel, rfl⟩
theorem dX10_lonely_54 : CalV mX10_lonely 54 57 mX7_horses := ⟨280, by decide +kernel, rfl, tb_4 (List.mem_of_getElem? (i := 122) (by decide +kernel)) rfl, meX7_horses⟩
theorem dX10_lonely_57 : Ins mX10_lonely 57 (.if_icmp .ge 19) 3 60 := ⟨by decide +kernel, rfl⟩
theorem dX10_lonely_60 : Ins mX10_lonely 60 (.iload_n 2) 1 61 := ⟨by decide +kernel, rfl⟩
theorem dX10_lonely_61 : Ins mX10_lonely 61 (.iload_n 3) 1 62 := ⟨by decide +kernel, rfl⟩
theorem dX10_lonely_62 : Ins mX10_lonely 62 (.ishr) 1 63 := ⟨by decide +kernel, rfl⟩
theorem dX10_lonely_63 : Ins mX10_lonely 63 (.iconst 1) 1 64 := ⟨by decide +kernel, rfl⟩
theorem dX10_lonely_64 : Ins mX10_lonely 64 (.iand) 1 65 := ⟨by decide +kernel, rfl⟩
theorem dX10_lonely_65 : Ins mX10_lonely 65 (.ifCond .ne 5) 3 68 := ⟨by decide +kernel, rfl⟩
theorem dX10_lonely_68 : Ins mX10_lonely 68 (.iload_n 3) 1 69 := ⟨by decide +kernel, rfl⟩
theorem dX10_lonely_69 : Ins mX10_lonely 69 (.ireturn) 1 70 := ⟨by decide +kernel, rfl⟩
theorem dX10_lonely_70 : Ins mX10_lonely 70 (.iinc 3 1) 3 73 := ⟨by decide +kernel, rfl⟩
theorem dX10_lonely_73 : Ins mX10_lonely 73 (.goto (-21)) 3 76 := ⟨by decide +kernel, rfl⟩
theorem dX10_lonely_76 : Ins mX10_lonely 76 (.iconst (-1)) 1 77 := ⟨by decide +kernel, rfl⟩
theorem dX10_lonely_77 : Ins mX10_lonely 77 (.ireturn) 1 78 := ⟨by decide +kernel, rfl⟩
theorem dX10_image_0 : Ins mX10_image 0 (.aload_n 0) 1 1 := ⟨by decide +kernel, rfl⟩
theorem dX10_image_1 : GgR mX10_image 1 4 9 1 := ⟨1, rfl, ⟨16, _, by decide +kernel, rfl, rfl, by decide, tb_2 (List.mem_of_getElem? (i := 34) (by decide +kernel)) rfl⟩, by decide, rfl⟩
theorem dX10_image_4 : Ins mX10_image 4 (.aload_n 0) 1 5 := ⟨by decide +kernel, rfl⟩
theorem dX10_image_5 : GgR mX10_image 5 8 9 0 := ⟨0, rfl, ⟨10, _, by decide +kernel, rfl, rfl, by decide, tb_2 (List.mem_of_getElem? (i := 33) (by decide +kernel)) rfl⟩, by decide, rfl⟩
theorem dX10_image_8 : CalV mX10_image 8 11 mX9_copyFrom := ⟨372, by decide +kernel, rfl, tb_5 (List.mem_of_getElem? (i := 165) (by decide +kernel)) rfl, meX9_copyFrom⟩
theorem dX10_image_11 : Ins mX10_image 11 (.aload_n 0) 1 12 := ⟨by decide +kernel, rfl⟩
theorem dX10_image_12 : GgR mX10_image 12 15 9 0 := ⟨0, rfl, ⟨10, _, by decide +kernel, rfl, rfl, by decide, tb_2 (List.mem_of_getElem? (i := 33) (by decide +kernel)) rfl⟩, by decide, rfl⟩
theorem dX10_image_15 : GgR mX10_image 15 18 8 0 := ⟨0, rfl, ⟨61, _, by decide +kernel, rfl, rfl, by decide, tb_1 (List.mem_of_getElem? (i := 105) (by decide +kernel)) rfl⟩, by decide, rfl⟩
theorem dX10_image_18 : CalV mX10_image 18 21 mX7_thisMinute := ⟨151, by decide +kernel, rfl, tb_3 (List.mem_of_getElem? (i := 190) (by decide +kernel)) rfl, meX7_thisMinute⟩
theorem dX10_image_21 : Ins mX10_image 21 (.ireturn) 1 22 := ⟨by decide +kernel, rfl⟩
theorem dX10_back_0 : Ins mX10_back 0 (.aload_n 0) 1 1 := ⟨by decide +kernel, rfl⟩
theorem dX10_back_1 : GgR mX10_back 1 4 9 0 := ⟨0, rfl, ⟨10, _, by decide +kernel, rfl, rfl, by decide, tb_2 (List.mem_of_getElem? (i := 33) (by decide +kernel)) rfl⟩, by decide, rfl⟩
theorem dX10_back_4 : Ins mX10_back 4 (.aload_n 0) 1 5 := ⟨by decide +kernel, rfl⟩
theorem dX10_back_5 : GgR mX10_back 5 8 9 1 := ⟨1, rfl, ⟨16, _, by decide +kernel, rfl, rfl, by decide, tb_2 (List.mem_of_getElem? (i := 34) (by decide +kernel)) rfl⟩, by decide, rfl⟩
theorem dX10_back_8 : CalV mX10_back 8 11 mX9_copyFrom := ⟨372, by decide +kernel, rfl, tb_5 (List.mem_of_getElem? (i := 165) (by decide +kernel)) rfl, meX9_copyFrom⟩
theorem dX10_back_11 : Ins mX10_back 11 (.aload_n 0) 1 12 := ⟨by decide +kernel, rfl⟩
theorem dX10_back_12 : GgR mX10_back 12 15 9 0 := ⟨0, rfl, ⟨10, _, by decide +kernel, rfl, rfl, by decide, tb_2 (List.mem_of_getElem? (i := 33) (by decide +kernel)) rfl⟩, by decide, rfl⟩
theorem dX10_back_15 : GgR mX10_back 15 18 8 0 := ⟨0, rfl, ⟨61, _, by decide +kernel, rfl, rfl, by decide, tb_1 (List.mem_of_getElem? (i := 105) (by decide +kernel)) rfl⟩, by decide, rfl⟩
theorem dX10_back_18 : CalV mX10_back 18 21 mX7_thisMinute := ⟨151, by decide +kernel, rfl, tb_3 (List.mem_of_getElem? (i := 190) (by decide +kernel)) rfl, meX7_thisMinute⟩
theorem dX10_back_21 : Ins mX10_back 21 (.ireturn) 1 22 := ⟨by decide +kernel, rfl⟩
theorem dX10_about_0 : Ins mX10_about 0 (.iload_n 1) 1 1 := ⟨by decide +kernel, rfl⟩
theorem dX10_about_1 : Ins mX10_about 1 (.tableswitch 156 0 9 #[55, 66, 77, 85, 93, 104, 115, 126, 137, 148]) 55 56 := ⟨by decide +kernel, rfl⟩
theorem dX10_about_56 : Ins mX10_about 56 (.aload_n 0) 1 57 := ⟨by decide +kernel, rfl⟩
theorem dX10_about_57 : GgR mX10_about 57 60 9 0 := ⟨0, rfl, ⟨10, _, by decide +kernel, rfl, rfl, by decide, tb_2 (List.mem_of_getElem? (i := 33) (by decide +kernel)) rfl⟩, by decide, rfl⟩
theorem dX10_about_60 : GgR mX10_about 60 63 8 0 := ⟨0, rfl, ⟨61, _, by decide +kernel, rfl, rfl, by decide, tb_1 (List.mem_of_getElem? (i := 105) (by decide +kernel)) rfl⟩, by decide, rfl⟩
theorem dX10_about_63 : CalV mX10_about 63 66 mX7_horses := ⟨280, by decide +kernel, rfl, tb_4 (List.mem_of_getElem? (i := 122) (by decide +kernel)) rfl, meX7_horses⟩
theorem dX10_about_66 : Ins mX10_about 66 (.ireturn) 1 67 := ⟨by decide +kernel, rfl⟩
theorem dX10_about_67 : Ins mX10_about 67 (.aload_n 0) 1 68 := ⟨by decide +kernel, rfl⟩
theorem dX10_about_68 : GgR mX10_about 68 71 9 0 := ⟨0, rfl, ⟨10, _, by decide +kernel, rfl, rfl, by decide, tb_2 (List.mem_of_getElem? (i := 33) (by decide +kernel)) rfl⟩, by decide, rfl⟩
theorem dX10_about_71 : GgR mX10_about 71 74 8 0 := ⟨0, rfl, ⟨61, _, by decide +kernel, rfl, rfl, by decide, tb_1 (List.mem_of_getElem? (i := 105) (by decide +kernel)) rfl⟩, by decide, rfl⟩
theorem dX10_about_74 : CalV mX10_about 74 77 mX7_boys := ⟨369, by decide +kernel, rfl, tb_4 (List.mem_of_getElem? (i := 121) (by decide +kernel)) rfl, meX7_boys⟩
theorem dX10_about_77 : Ins mX10_about 77 (.ireturn) 1 78 := ⟨by decide +kernel, rfl⟩
theorem dX10_about_78 : Ins mX10_about 78 (.aload_n 0) 1 79 := ⟨by decide +kernel, rfl⟩
theorem dX10_about_79 : GgR mX10_about 79 82 9 0 := ⟨0, rfl, ⟨10, _, by decide +kernel, rfl, rfl, by decide, tb_2 (List.mem_of_getElem? (i := 33) (by decide +kernel)) rfl⟩, by decide, rfl⟩
theorem dX10_about_82 : GgI mX10_about 82 85 8 6 := ⟨6, rfl, ⟨87, _, by decide +kernel, rfl, rfl, by decide, tb_1 (List.mem_of_getElem? (i := 117) (by decide +kernel)) rfl⟩, by decide, rfl⟩
theorem dX10_about_85 : Ins mX10_about 85 (.ireturn) 1 86 := ⟨by decide +kernel, rfl⟩
theorem dX10_about_86 : Ins mX10_about 86 (.aload_n 0) 1 87 := ⟨by decide +kernel, rfl⟩
theorem dX10_about_87 : GgR mX10_about 87 90 9 0 := ⟨0, rfl, ⟨10, _, by decide +kernel, rfl, rfl, by decide, tb_2 (List.mem_of_getElem? (i := 33) (by decide +kernel)) rfl⟩, by decide, rfl⟩
theorem dX10_about_90 : GgI mX10_about 90 93 8 7 := ⟨7, rfl, ⟨111, _, by decide +kernel, rfl, rfl, by decide, tb_1 (List.mem_of_getElem? (i := 119) (by decide +kernel)) rfl⟩, by decide, rfl⟩
theorem dX10_about_93 : Ins mX10_about 93 (.ireturn) 1 94 := ⟨by decide +kernel, rfl⟩
theorem dX10_about_94 : Ins mX10_about 94 (.aload_n 0) 1 95 := ⟨by decide +kernel, rfl⟩
theorem dX10_about_95 : GgR mX10_about 95 98 9 0 := ⟨0, rfl, ⟨10, _, by decide +kernel, rfl, rfl, by decide, tb_2 (List.mem_of_getElem? (i := 33) (by decide +kernel)) rfl⟩, by decide, rfl⟩
theorem dX10_about_98 : GgR mX10_about 98 101 8 1 := ⟨1, rfl, ⟨118, _, by decide +kernel, rfl, rfl, by decide, tb_1 (List.mem_of_getElem? (i := 107) (by decide +kernel)) rfl⟩, by decide, rfl⟩
theorem dX10_about_101 : GgI mX10_about 101 104 5 2 := ⟨2, rfl, ⟨375, _, by decide +kernel, rfl, rfl, by decide, tb_1 (List.mem_of_getElem? (i := 68) (by decide +kernel)) rfl⟩, by decide, rfl⟩
theorem dX10_about_104 : Ins mX10_about 104 (.ireturn) 1 105 := ⟨by decide +kernel, rfl⟩
theorem dX10_about_105 : Ins mX10_about 105 (.aload_n 0) 1 106 := ⟨by decide +kernel, rfl⟩
theorem dX10_about_106 : GgR mX10_about 106 109 9 0 := ⟨0, rfl, ⟨10, _, by decide +kernel, rfl, rfl, by decide, tb_2 (List.mem_of_getElem? (i := 33) (by decide +kernel)) rfl⟩, by decide, rfl⟩
theorem dX10_about_109 : GgR mX10_about 109 112 8 2 := ⟨2, rfl, ⟨286, _, by decide +kernel, rfl, rfl, by decide, tb_1 (List.mem_of_getElem? (i := 109) (by decide +kernel)) rfl⟩, by decide, rfl⟩
theorem dX10_about_112 : GgI mX10_about 112 115 7 4 := ⟨4, rfl, ⟨318, _, by decide +kernel, rfl, rfl, by decide, tb_1 (List.mem_of_getElem? (i := 92) (by decide +kernel)) rfl⟩, by decide, rfl⟩
theorem dX10_about_115 : Ins mX10_about 115 (.ireturn) 1 116 := ⟨by decide +kernel, rfl⟩
theorem dX10_about_116 : Ins mX10_about 116 (.aload_n 0) 1 117 := ⟨by decide +kernel, rfl⟩
theorem dX10_about_117 : GgR mX10_about 117 120 9 0 := ⟨0, rfl, ⟨10, _, by decide +kernel, rfl, rfl, by decide, tb_2 (List.mem_of_getElem? (i := 33) (by decide +kernel)) rfl⟩, by decide, rfl⟩
theorem dX10_about_120 : GgR mX10_about 120 123 8 3 := ⟨3, rfl, ⟨315, _, by decide +kernel, rfl, rfl, by decide, tb_1 (List.mem_of_getElem? (i := 111) (by decide +kernel)) rfl⟩, by decide, rfl⟩
theorem dX10_about_123 : GgI mX10_about 123 126 7 4 := ⟨4, rfl, ⟨318, _, by decide +kernel, rfl, rfl, by decide, tb_1 (List.mem_of_getElem? (i := 92) (by decide +kernel)) rfl⟩, by decide, rfl⟩
theorem dX10_about_126 : Ins mX10_about 126 (.ireturn) 1 127 := ⟨by decide +kernel, rfl⟩
theorem dX10_about_127 : Ins mX10_about 127 (.aload_n 0) 1 128 := ⟨by decide +kernel, rfl⟩
theorem dX10_about_128 : GgR mX10_about 128 131 9 0 := ⟨0, rfl, ⟨10, _, by decide +kernel, rfl, rfl, by decide, tb_2 (List.mem_of_getElem? (i := 33) (by decide +kernel)) rfl⟩, by decide, rfl⟩
theorem dX10_about_131 : GgR mX10_about 131 134 8 4 := ⟨4, rfl, ⟨350, _, by decide +kernel, rfl, rfl, by decide, tb_1 (List.mem_of_getElem? (i := 113) (by decide +kernel)) rfl⟩, by decide, rfl⟩
theorem dX10_about_134 : GgI mX10_about 134 137 7 4 := ⟨4, rfl, ⟨318, _, by decide +kernel, rfl, rfl, by decide, tb_1 (List.mem_of_getElem? (i := 92) (by decide +kernel)) rfl⟩, by decide, rfl⟩
theorem dX10_about_137 : Ins mX10_about 137 (.ireturn) 1 138 := ⟨by decide +kernel, rfl⟩
theorem dX10_about_138 : Ins mX10_about 138 (.aload_n 0) 1 139 := ⟨by decide +kernel, rfl⟩
theorem dX10_about_139 : GgR mX10_about 139 142 9 0 := ⟨0, rfl, ⟨10, _, by decide +kernel, rfl, rfl, by decide, tb_2 (List.mem_of_getElem? (i := 33) (by decide +kernel)) rfl⟩, by decide, rfl⟩
theorem dX10_about_142 : GgR mX10_about 142 145 8 5 := ⟨5, rfl, ⟨362, _, by decide +kernel, rfl, rfl, by decide, tb_1 (List.mem_of_getElem? (i := 115) (by decide +kernel)) rfl⟩, by decide, rfl⟩
theorem dX10_about_145 : GgI mX10_about 145 148 7 4 := ⟨4, rfl, ⟨318, _, by decide +kernel, rfl, rfl, by decide, tb_1 (List.mem_of_getElem? (i := 92) (by decide +kernel)) rfl⟩, by decide, rfl⟩
theorem dX10_about_148 : Ins mX10_about 148 (.ireturn) 1 149 := ⟨by decide +kernel, rfl⟩
theorem dX10_about_149 : Ins mX10_about 149 (.aload_n 0) 1 150 := ⟨by decide +kernel, rfl⟩
theorem dX10_about_150 : GgR mX10_about 150 153 9 3 := ⟨3, rfl, ⟨28, _, by decide +kernel, rfl, rfl, by decide, tb_2 (List.mem_of_getElem? (i := 36) (by decide +kernel)) rfl⟩, by decide, rfl⟩
theorem dX10_about_153 : GgI mX10_about 153 156 2 1 := ⟨1, rfl, ⟨376, _, by decide +kernel, rfl, rfl, by decide, tb_1 (List.mem_of_getElem? (i := 187) (by decide +kernel)) rfl⟩, by decide, rfl⟩
theorem dX10_about_156 : Ins mX10_about 156 (.ireturn) 1 157 := ⟨by decide +kernel, rfl⟩
theorem dX10_about_157 : Ins mX10_about 157 (.bipush (-2)) 2 159 := ⟨by decide +kernel, rfl⟩
theorem dX10_about_159 : Ins mX10_about 159 (.ireturn) 1 160 := ⟨by decide +kernel, rfl⟩
theorem dX10_isWithin_0 : Ins mX10_isWithin 0 (.iload_n 0) 1 1 := ⟨by decide +kernel, rfl⟩
theorem dX10_isWithin_1 : Ins mX10_isWithin 1 (.iload_n 1) 1 2 := ⟨by decide +kernel, rfl⟩
theorem dX10_isWithin_2 : Ins mX10_isWithin 2 (.if_icmp .lt 12) 3 5 := ⟨by decide +kernel, rfl⟩
theorem dX10_isWithin_5 : Ins mX10_isWithin 5 (.iload_n 0) 1 6 := ⟨by decide +kernel, rfl⟩
theorem dX10_isWithin_6 : Ins mX10_isWithin 6 (.iload_n 2) 1 7 := ⟨by decide +kernel, rfl⟩
theorem dX10_isWithin_7 : Ins mX10_isWithin 7 (.if_icmp .gt 7) 3 10 := ⟨by decide +kernel, rfl⟩
theorem dX10_isWithin_10 : Ins mX10_isWithin 10 (.iconst 1) 1 11 := ⟨by decide +kernel, rfl⟩
theorem dX10_isWithin_11 : Ins mX10_isWithin 11 (.goto 4) 3 14 := ⟨by decide +kernel, rfl⟩
theorem dX10_isWithin_14 : Ins mX10_isWithin 14 (.iconst 0) 1 15 := ⟨by decide +kernel, rfl⟩
theorem dX10_isWithin_15 : Ins mX10_isWithin 15 (.ireturn) 1 16 := ⟨by decide +kernel, rfl⟩
theorem dX10_isText_0 : Ins mX10_isText 0 (.iload_n 1) 1 1 := ⟨by decide +kernel, rfl⟩
theorem dX10_isText_1 : Ins mX10_isText 1 (.iconst 0) 1 2 := ⟨by decide +kernel, rfl⟩
theorem dX10_isText_2 : Ins mX10_isText 2 (.aload_n 0) 1 3 := ⟨by decide +kernel, rfl⟩
theorem dX10_isText_3 : GgR mX10_isText 3 6 9 0 := ⟨0, rfl, ⟨10, _, by decide +kernel, rfl, rfl, by decide, tb_2 (List.mem_of_getElem? (i := 33) (by decide +kernel)) rfl⟩, by decide, rfl⟩
theorem dX10_isText_6 : GgI mX10_isText 6 9 8 6 := ⟨6, rfl, ⟨87, _, by decide +kernel, rfl, rfl, by decide, tb_1 (List.mem_of_getElem? (i := 117) (by decide +kernel)) rfl⟩, by decide, rfl⟩
theorem dX10_isText_9 : Ins mX10_isText 9 (.iconst 1) 1 10 := ⟨by decide +kernel, rfl⟩
theorem dX10_isText_10 : Ins mX10_isText 10 (.isub) 1 11 := ⟨by decide +kernel, rfl⟩
theorem dX10_isText_11 : CalS mX10_isText 11 14 mX10_isWithin := ⟨72, by decide +kernel, rfl, Or.inl (tb_2 (List.mem_of_getElem? (i := 89) (by decide +kernel)) rfl), meX10_isWithin⟩
theorem dX10_isText_14 : Ins mX10_isText 14 (.ireturn) 1 15 := ⟨by decide +kernel, rfl⟩
theorem dX10_scriptAt_0 : Ins mX10_scriptAt 0 (.iload_n 1) 1 1 := ⟨by decide +kernel, rfl⟩
theorem dX10_scriptAt_1 : Ins mX10_scriptAt 1 (.iconst 0) 1 2 := ⟨by decide +kernel, rfl⟩
theorem dX10_scriptAt_2 : Ins mX10_scriptAt 2 (.iconst 3) 1 3 := ⟨by decide +kernel, rfl⟩
theorem dX10_scriptAt_3 : CalS mX10_scriptAt 3 6 mX10_isWithin := ⟨72, by decide +kernel, rfl, Or.inl (tb_2 (List.mem_of_getElem? (i := 89) (by decide +kernel)) rfl), meX10_isWithin⟩
theorem dX10_scriptAt_6 : Ins mX10_scriptAt 6 (.ifCond .eq 12) 3 9 := ⟨by decide +kernel, rfl⟩
theorem dX10_scriptAt_9 : Ins mX10_scriptAt 9 (.aload_n 0) 1 10 := ⟨by decide +kernel, rfl⟩
theorem dX10_scriptAt_10 : GgR mX10_scriptAt 10 13 9 2 := ⟨2, rfl, ⟨21, _, by decide +kernel, rfl, rfl, by decide, tb_2 (List.mem_of_getElem? (i := 35) (by decide +kernel)) rfl⟩, by decide, rfl⟩
theorem dX10_scriptAt_13 : Ins mX10_scriptAt 13 (.iload_n 1) 1 14 := ⟨by decide +kernel, rfl⟩
theorem dX10_scriptAt_14 : Ins mX10_scriptAt 14 (.aaload) 1 15 := ⟨by decide +kernel, rfl⟩
theorem dX10_scriptAt_15 : Ins mX10_scriptAt 15 (.goto 4) 3 18 := ⟨by decide +kernel, rfl⟩
theorem dX10_scriptAt_18 : Ins mX10_scriptAt 18 (.aconst_null) 1 19 := ⟨by decide +kernel, rfl⟩
theorem dX10_scriptAt_19 : Ins mX10_scriptAt 19 (.areturn) 1 20 := ⟨by decide +kernel, rfl⟩
theorem dX10_ruling_0 : Ins mX10_ruling 0 (.aload_n 0) 1 1 := ⟨by decide +kernel, rfl⟩
theorem dX10_ruling_1 : Ins mX10_ruling 1 (.aload_n 0) 1 2 := ⟨by decide +kernel, rfl⟩
theorem dX10_ruling_2 : GgR mX10_ruling 2 5 9 0 := ⟨0, rfl, ⟨10, _, by decide +kernel, rfl, rfl, by decide, tb_2 (List.mem_of_getElem? (i := 33) (by decide +kernel)) rfl⟩, by decide, rfl⟩
theorem dX10_ruling_5 : GgI mX10_ruling 5 8 8 7 := ⟨7, rfl, ⟨111, _, by decide +kernel, rfl, rfl, by decide, tb_1 (List.mem_of_getElem? (i := 119) (by decide +kernel)) rfl⟩, by decide, rfl⟩
theorem dX10_ruling_8 : CalV mX10_ruling 8 11 mX10_scriptAt := ⟨162, by decide +kernel, rfl, tb_3 (List.mem_of_getElem? (i := 198) (by decide +kernel)) rfl, meX10_scriptAt⟩
theorem dX10_ruling_11 : Ins mX10_ruling 11 (.areturn) 1 12 := ⟨by decide +kernel, rfl⟩
theorem dX10_isDone_0 : Ins mX10_isDone 0 (.iload_n 1) 1 1 := ⟨by decide +kernel, rfl⟩
theorem dX10_isDone_1 : Ins mX10_isDone 1 (.tableswitch 124 3 9 #[43, 59, 74, 80, 87, 102, 117]) 43 44 := ⟨by decide +kernel, rfl⟩
theorem dX10_isDone_44 : Ins mX10_isDone 44 (.aload_n 0) 1 45 := ⟨by decide +kernel, rfl⟩
theorem dX10_isDone_45 : Ins mX10_isDone 45 (.iload_n 2) 1 46 := ⟨by decide +kernel, rfl⟩
theorem dX10_isDone_46 : Ins mX10_isDone 46 (.iload_n 3) 1 47 := ⟨by decide +kernel, rfl⟩
theorem dX10_isDone_47 : CalV mX10_isDone 47 50 mX10_horse := ⟨379, by decide +kernel, rfl, tb_4 (List.mem_of_getElem? (i := 94) (by decide +kernel)) rfl, meX10_horse⟩
theorem dX10_isDone_50 : Ins mX10_isDone 50 (.iconst (-1)) 1 51 := ⟨by decide +kernel, rfl⟩
theorem dX10_isDone_51 : Ins mX10_isDone 51 (.if_icmp .eq 7) 3 54 := ⟨by decide +kernel, rfl⟩
theorem dX10_isDone_54 : Ins mX10_isDone 54 (.iconst 1) 1 55 := ⟨by decide +kernel, rfl⟩
theorem dX10_isDone_55 : Ins mX10_isDone 55 (.goto 4) 3 58 := ⟨by decide +kernel, rfl⟩
theorem dX10_isDone_58 : Ins mX10_isDone 58 (.iconst 0) 1 59 := ⟨by decide +kernel, rfl⟩
theorem dX10_isDone_59 : Ins mX10_isDone 59 (.ireturn) 1 60 := ⟨by decide +kernel, rfl⟩
theorem dX10_isDone_60 : Ins mX10_isDone 60 (.aload_n 0) 1 61 := ⟨by decide +kernel, rfl⟩
theorem dX10_isDone_61 : Ins mX10_isDone 61 (.iload_n 2) 1 62 := ⟨by decide +kernel, rfl⟩
theorem dX10_isDone_62 : CalV mX10_isDone 62 65 mX10_boy := ⟨382, by decide +kernel, rfl, tb_4 (List.mem_of_getElem? (i := 95) (by decide +kernel)) rfl, meX10_boy⟩
theorem dX10_isDone_65 : Ins mX10_isDone 65 (.iconst (-1)) 1 66 := ⟨by decide +kernel, rfl⟩
theorem dX10_isDone_66 : Ins mX10_isDone 66 (.if_icmp .eq 7) 3 69 := ⟨by decide +kernel, rfl⟩
theorem dX10_isDone_69 : Ins mX10_isDone 69 (.iconst 1) 1 70 := ⟨by decide +kernel, rfl⟩
theorem dX10_isDone_70 : Ins mX10_isDone 70 (.goto 4) 3 73 := ⟨by decide +kernel, rfl⟩
theorem dX10_isDone_73 : Ins mX10_isDone 73 (.iconst 0) 1 74 := ⟨by decide +kernel, rfl⟩
theorem dX10_isDone_74 : Ins mX10_isDone 74 (.ireturn) 1 75 := ⟨by decide +kernel, rfl⟩
theorem dX10_isDone_75 : Ins mX10_isDone 75 (.aload_n 0) 1 76 := ⟨by decide +kernel, rfl⟩
theorem dX10_isDone_76 : Ins mX10_isDone 76 (.iload_n 2) 1 77 := ⟨by decide +kernel, rfl⟩
theorem dX10_isDone_77 : CalV mX10_isDone 77 80 mX10_limit := ⟨385, by decide +kernel, rfl, tb_4 (List.mem_of_getElem? (i := 96) (by decide +kernel)) rfl, meX10_limit⟩
theorem dX10_isDone_80 : Ins mX10_isDone 80 (.ireturn) 1 81 := ⟨by decide +kernel, rfl⟩
theorem dX10_isDone_81 : Ins mX10_isDone 81 (.aload_n 0) 1 82 := ⟨by decide +kernel, rfl⟩
theorem dX10_isDone_82 : Ins mX10_isDone 82 (.iload_n 2) 1 83 := ⟨by decide +kernel, rfl⟩
theorem dX10_isDone_83 : Ins mX10_isDone 83 (.iload_n 3) 1 84 := ⟨by decide +kernel, rfl⟩
theorem dX10_isDone_84 : CalV mX10_isDone 84 87 mX10_mount := ⟨387, by decide +kernel, rfl, tb_4 (List.mem_of_getElem? (i := 97) (by decide +kernel)) rfl, meX10_mount⟩
theorem dX10_isDone_87 : Ins mX10_isDone 87 (.ireturn) 1 88 := ⟨by decide +kernel, rfl⟩
theorem dX10_isDone_88 : Ins mX10_isDone 88 (.aload_n 0) 1 89 := ⟨by decide +kernel, rfl⟩
theorem dX10_isDone_89 : Ins mX10_isDone 89 (.iload_n 2) 1 90 := ⟨by decide +kernel, rfl⟩
theorem dX10_isDone_90 : CalV mX10_isDone 90 93 mX10_off := ⟨390, by decide +kernel, rfl, tb_4 (List.mem_of_getElem? (i := 98) (by decide +kernel)) rfl, meX10_off⟩
theorem dX10_isDone_93 : Ins mX10_isDone 93 (.iconst (-1)) 1 94 := ⟨by decide +kernel, rfl⟩
theorem dX10_isDone_94 : Ins mX10_isDone 94 (.if_icmp .eq 7) 3 97 := ⟨by decide +kernel, rfl⟩
theorem dX10_isDone_97 : Ins mX10_isDone 97 (.iconst 1) 1 98 := ⟨by decide +kernel, rfl⟩
theorem dX10_isDone_98 : Ins mX10_isDone 98 (.goto 4) 3 101 := ⟨by decide +kernel, rfl⟩
theorem dX10_isDone_101 : Ins mX10_isDone 101 (.iconst 0) 1 102 := ⟨by decide +kernel, rfl⟩
theorem dX10_isDone_102 : Ins mX10_isDone 102 (.ireturn) 1 103 := ⟨by decide +kernel, rfl⟩
theorem dX10_isDone_103 : Ins mX10_isDone 103 (.aload_n 0) 1 104 := ⟨by decide +kernel, rfl⟩
theorem dX10_isDone_104 : Ins mX10_isDone 104 (.iload_n 2) 1 105 := ⟨by decide +kernel, rfl⟩
theorem dX10_isDone_105 : CalV mX10_isDone 105 108 mX10_oil := ⟨393, by decide +kernel, rfl, tb_4 (List.mem_of_getElem? (i := 99) (by decide +kernel)) rfl, meX10_oil⟩
theorem dX10_isDone_108 : Ins mX10_isDone 108 (.iconst (-1)) 1 109 := ⟨by decide +kernel, rfl⟩
theorem dX10_isDone_109 : Ins mX10_isDone 109 (.if_icmp .eq 7) 3 112 := ⟨by decide +kernel, rfl⟩
theorem dX10_isDone_112 : Ins mX10_isDone 112 (.iconst 1) 1 113 := ⟨by decide +kernel, rfl⟩
theorem dX10_isDone_113 : Ins mX10_isDone 113 (.goto 4) 3 116 := ⟨by decide +kernel, rfl⟩
theorem dX10_isDone_116 : Ins mX10_isDone 116 (.iconst 0) 1 117 := ⟨by decide +kernel, rfl⟩
theorem dX10_isDone_117 : Ins mX10_isDone 117 (.ireturn) 1 118 := ⟨by decide +kernel, rfl⟩
theorem dX10_isDone_118 : Ins mX10_isDone 118 (.aload_n 0) 1 119 := ⟨by decide +kernel, rfl⟩
theorem dX10_isDone_119 : Ins mX10_isDone 119 (.iload_n 2) 1 120 := ⟨by decide +kernel, rfl⟩
theorem dX10_isDone_120 : Ins mX10_isDone 120 (.iload_n 3) 1 121 := ⟨by decide +kernel, rfl⟩
theorem dX10_isDone_121 : CalV mX10_isDone 121 124 mX10_nail := ⟨396, by decide +kernel, rfl, tb_4 (List.mem_of_getElem? (i := 100) (by decide +kernel)) rfl, meX10_nail⟩
theorem dX10_isDone_124 : Ins mX10_isDone 124 (.ireturn) 1 125 := ⟨by decide +kernel, rfl⟩
theorem dX10_isDone_125 : Ins mX10_isDone 125 (.iconst 1) 1 126 := ⟨by decide +kernel, rfl⟩
theorem dX10_isDone_126 : Ins mX10_isDone 126 (.ireturn) 1 127 := ⟨by decide +kernel, rfl⟩
theorem dX10_passAllThatCan_0 : Ins mX10_passAllThatCan 0 (.iconst 0) 1 1 := ⟨by decide +kernel, rfl⟩
theorem dX10_passAllThatCan_1 : Ins mX10_passAllThatCan 1 (.istore_n 2) 1 2 := ⟨by decide +kernel, rfl⟩
theorem dX10_passAllThatCan_2 : Ins mX10_passAllThatCan 2 (.iload_n 2) 1 3 := ⟨by decide +kernel, rfl⟩
theorem dX10_passAllThatCan_3 : Ins mX10_passAllThatCan 3 (.iload_n 1) 1 4 := ⟨by decide +kernel, rfl⟩
theorem dX10_passAllThatCan_4 : Ins mX10_passAllThatCan 4 (.if_icmp .ge 60) 3 7 := ⟨by decide +kernel, rfl⟩
theorem dX10_passAllThatCan_7 : Ins mX10_passAllThatCan 7 (.aload_n 0) 1 8 := ⟨by decide +kernel, rfl⟩
theorem dX10_passAllThatCan_8 : GgR mX10_passAllThatCan 8 11 9 0 := ⟨0, rfl, ⟨10, _, by decide +kernel, rfl, rfl, by decide, tb_2 (List.mem_of_getElem? (i := 33) (by decide +kernel)) rfl⟩, by decide, rfl⟩
theorem dX10_passAllThatCan_11 : GgR mX10_passAllThatCan 11 14 8 0 := ⟨0, rfl, ⟨61, _, by decide +kernel, rfl, rfl, by decide, tb_1 (List.mem_of_getElem? (i := 105) (by decide +kernel)) rfl⟩, by decide, rfl⟩
theorem dX10_passAllThatCan_14 : CalV mX10_passAllThatCan 14 17 mX7_canPass := ⟨269, by decide +kernel, rfl, tb_4 (List.mem_of_getElem? (i := 85) (by decide +kernel)) rfl, meX7_canPass⟩
theorem dX10_passAllThatCan_17 : Ins mX10_passAllThatCan 17 (.ifCond .ne 5) 3 20 := ⟨by decide +kernel, rfl⟩
theorem dX10_passAllThatCan_20 : Ins mX10_passAllThatCan 20 (.iconst 0) 1 21 := ⟨by decide +kernel, rfl⟩
theorem dX10_passAllThatCan_21 : Ins mX10_passAllThatCan 21 (.ireturn) 1 22 := ⟨by decide +kernel, rfl⟩
theorem dX10_passAllThatCan_22 : Ins mX10_passAllThatCan 22 (.aload_n 0) 1 23 := ⟨by decide +kernel, rfl⟩
theorem dX10_passAllThatCan_23 : GgR mX10_passAllThatCan 23 26 9 0 := ⟨0, rfl, ⟨10, _, by decide +kernel, rfl, rfl, by decide, tb_2 (List.mem_of_getElem? (i := 33) (by decide +kernel)) rfl⟩, by decide, rfl⟩
theorem dX10_passAllThatCan_26 : GgR mX10_passAllThatCan 26 29 8 1 := ⟨1, rfl, ⟨118, _, by decide +kernel, rfl, rfl, by decide, tb_1 (List.mem_of_getElem? (i := 107) (by decide +kernel)) rfl⟩, by decide, rfl⟩
theorem dX10_passAllThatCan_29 : Ins mX10_passAllThatCan 29 (.aload_n 0) 1 30 := ⟨by decide +kernel, rfl⟩
theorem dX10_passAllThatCan_30 : GgR mX10_passAllThatCan 30 33 9 0 := ⟨0, rfl, ⟨10, _, by decide +kernel, rfl, rfl, by decide, tb_2 (List.mem_of_getElem? (i := 33) (by decide +kernel)) rfl⟩, by decide, rfl⟩
theorem dX10_passAllThatCan_33 : GgR mX10_passAllThatCan 33 36 8 0 := ⟨0, rfl, ⟨61, _, by decide +kernel, rfl, rfl, by decide, tb_1 (List.mem_of_getElem? (i := 105) (by decide +kernel)) rfl⟩, by decide, rfl⟩
theorem dX10_passAllThatCan_36 : CalV mX10_passAllThatCan 36 39 mX6_save := ⟨122, by decide +kernel, rfl, tb_3 (List.mem_of_getElem? (i := 127) (by decide +kernel)) rfl, meX6_save⟩
theorem dX10_passAllThatCan_39 : Ins mX10_passAllThatCan 39 (.aload_n 0) 1 40 := ⟨by decide +kernel, rfl⟩
theorem dX10_passAllThatCan_40 : GgR mX10_passAllThatCan 40 43 9 0 := ⟨0, rfl, ⟨10, _, by decide +kernel, rfl, rfl, by decide, tb_2 (List.mem_of_getElem? (i := 33) (by decide +kernel)) rfl⟩, by decide, rfl⟩
theorem dX10_passAllThatCan_43 : GgR mX10_passAllThatCan 43 46 8 0 := ⟨0, rfl, ⟨61, _, by decide +kernel, rfl, rfl, by decide, tb_1 (List.mem_of_getElem? (i := 105) (by decide +kernel)) rfl⟩, by decide, rfl⟩
theorem dX10_passAllThatCan_46 : Ins mX10_passAllThatCan 46 (.aload_n 0) 1 47 := ⟨by decide +kernel, rfl⟩
theorem dX10_passAllThatCan_47 : GgR mX10_passAllThatCan 47 50 9 4 := ⟨4, rfl, ⟨35, _, by decide +kernel, rfl, rfl, by decide, tb_2 (List.mem_of_getElem? (i := 37) (by decide +kernel)) rfl⟩, by decide, rfl⟩
theorem dX10_passAllThatCan_50 : Ins mX10_passAllThatCan 50 (.aload_n 0) 1 51 := ⟨by decide +kernel, rfl⟩
theorem dX10_passAllThatCan_51 : CalV mX10_passAllThatCan 51 54 mX10_ruling := ⟨155, by decide +kernel, rfl, tb_3 (List.mem_of_getElem? (i := 194) (by decide +kernel)) rfl, meX10_ruling⟩
theorem dX10_passAllThatCan_54 : CalV mX10_passAllThatCan 54 57 mX7_passMinute := ⟨158, by decide +kernel, rfl, tb_3 (List.mem_of_getElem? (i := 202) (by decide +kernel)) rfl, meX7_passMinute⟩
theorem dX10_passAllThatCan_57 : Ins mX10_passAllThatCan 57 (.pop) 1 58 := ⟨by decide +kernel, rfl⟩
theorem dX10_passAllThatCan_58 : Ins mX10_passAllThatCan 58 (.iinc 2 1) 3 61 := ⟨by decide +kernel, rfl⟩
theorem dX10_passAllThatCan_61 : Ins mX10_passAllThatCan 61 (.goto (-59)) 3 64 := ⟨by decide +kernel, rfl⟩
theorem dX10_passAllThatCan_64 : Ins mX10_passAllThatCan 64 (.iconst 1) 1 65 := ⟨by decide +kernel, rfl⟩
theorem dX10_passAllThatCan_65 : Ins mX10_passAllThatCan 65 (.ireturn) 1 66 := ⟨by decide +kernel, rfl⟩
theorem dX10_drawOne_0 : Ins mX10_drawOne 0 (.aload_n 0) 1 1 := ⟨by decide +kernel, rfl⟩
theorem dX10_drawOne_1 : GgR mX10_drawOne 1 4 9 0 := ⟨0, rfl, ⟨10, _, by decide +kernel, rfl, rfl, by decide, tb_2 (List.mem_of_getElem? (i := 33) (by decide +kernel)) rfl⟩, by decide, rfl⟩
theorem dX10_drawOne_4 : GgR mX10_drawOne 4 7 8 0 := ⟨0, rfl, ⟨61, _, by decide +kernel, rfl, rfl, by decide, tb_1 (List.mem_of_getElem? (i := 105) (by decide +kernel)) rfl⟩, by decide, rfl⟩
theorem dX10_drawOne_7 : Ins mX10_drawOne 7 (.astore_n 1) 1 8 := ⟨by decide +kernel, rfl⟩
theorem dX10_drawOne_8 : Ins mX10_drawOne 8 (.aload_n 1) 1 9 := ⟨by decide +kernel, rfl⟩
theorem dX10_drawOne_9 : CalV mX10_drawOne 9 12 mX7_drawX := ⟨399, by decide +kernel, rfl, tb_4 (List.mem_of_getElem? (i := 113) (by decide +kernel)) rfl, meX7_drawX⟩
theorem dX10_drawOne_12 : Ins mX10_drawOne 12 (.istore_n 2) 1 13 := ⟨by decide +kernel, rfl⟩
theorem dX10_drawOne_13 : Ins mX10_drawOne 13 (.aload_n 1) 1 14 := ⟨by decide +kernel, rfl⟩
theorem dX10_drawOne_14 : CalV mX10_drawOne 14 17 mX7_boys := ⟨369, by decide +kernel, rfl, tb_4 (List.mem_of_getElem? (i := 121) (by decide +kernel)) rfl, meX7_boys⟩
theorem dX10_drawOne_17 : Ins mX10_drawOne 17 (.istore_n 3) 1 18 := ⟨by decide +kernel, rfl⟩
theorem dX10_drawOne_18 : Ins mX10_drawOne 18 (.aload_n 1) 1 19 := ⟨by decide +kernel, rfl⟩
theorem dX10_drawOne_19 : CalV mX10_drawOne 19 22 mX7_horses := ⟨280, by decide +kernel, rfl, tb_4 (List.mem_of_getElem? (i := 122) (by decide +kernel)) rfl, meX7_horses⟩
theorem dX10_drawOne_22 : Ins mX10_drawOne 22 (.istore 4) 2 24 := ⟨by decide +kernel, rfl⟩
theorem dX10_drawOne_24 : Ins mX10_drawOne 24 (.iload_n 3) 1 25 := ⟨by decide +kernel, rfl⟩
theorem dX10_drawOne_25 : Ins mX10_drawOne 25 (.ifCond .le 9) 3 28 := ⟨by decide +kernel, rfl⟩
theorem dX10_drawOne_28 : Ins mX10_drawOne 28 (.iload_n 2) 1 29 := ⟨by decide +kernel, rfl⟩
theorem dX10_drawOne_29 : Ins mX10_drawOne 29 (.iload_n 3) 1 30 := ⟨by decide +kernel, rfl⟩
theorem dX10_drawOne_30 : Ins mX10_drawOne 30 (.irem) 1 31 := ⟨by decide +kernel, rfl⟩
theorem dX10_drawOne_31 : Ins mX10_drawOne 31 (.goto 4) 3 34 := ⟨by decide +kernel, rfl⟩
theorem dX10_drawOne_34 : Ins mX10_drawOne 34 (.iconst (-1)) 1 35 := ⟨by decide +kernel, rfl⟩
theorem dX10_drawOne_35 : Ins mX10_drawOne 35 (.istore 5) 2 37 := ⟨by decide +kernel, rfl⟩
theorem dX10_drawOne_37 : Ins mX10_drawOne 37 (.iload_n 2) 1 38 := ⟨by decide +kernel, rfl⟩
theorem dX10_drawOne_38 : Ins mX10_drawOne 38 (.bipush 6) 2 40 := ⟨by decide +kernel, rfl⟩
theorem dX10_drawOne_40 : Ins mX10_drawOne 40 (.irem) 1 41 := ⟨by decide +kernel, rfl⟩
theorem dX10_drawOne_41 : Ins mX10_drawOne 41 (.tableswitch 126 0 3 #[31, 31, 71, 86]) 31 72 := ⟨by decide +kernel, rfl⟩
theorem dX10_drawOne_72 : Ins mX10_drawOne 72 (.iload 4) 2 74 := ⟨by decide +kernel, rfl⟩
theorem dX10_drawOne_74 : Ins mX10_drawOne 74 (.ifCond .le 13) 3 77 := ⟨by decide +kernel, rfl⟩
theorem dX10_drawOne_77 : Ins mX10_drawOne 77 (.iload_n 2) 1 78 := ⟨by decide +kernel, rfl⟩
theorem dX10_drawOne_78 : Ins mX10_drawOne 78 (.bipush 6) 2 80 := ⟨by decide +kernel, rfl⟩
theorem dX10_drawOne_80 : Ins mX10_drawOne 80 (.idiv) 1 81 := ⟨by decide +kernel, rfl⟩
theorem dX10_drawOne_81 : Ins mX10_drawOne 81 (.iload 4) 2 83 := ⟨by decide +kernel, rfl⟩
theorem dX10_drawOne_83 : Ins mX10_drawOne 83 (.irem) 1 84 := ⟨by decide +kernel, rfl⟩
theorem dX10_drawOne_84 : Ins mX10_drawOne 84 (.goto 4) 3 87 := ⟨by decide +kernel, rfl⟩
theorem dX10_drawOne_87 : Ins mX10_drawOne 87 (.iconst (-1)) 1 88 := ⟨by decide +kernel, rfl⟩
theorem dX10_drawOne_88 : Ins mX10_drawOne 88 (.istore 6) 2 90 := ⟨by decide +kernel, rfl⟩
theorem dX10_drawOne_90 : Ins mX10_drawOne 90 (.aload_n 1) 1 91 := ⟨by decide +kernel, rfl⟩
theorem dX10_drawOne_91 : Ins mX10_drawOne 91 (.iload 5) 2 93 := ⟨by decide +kernel, rfl⟩
theorem dX10_drawOne_93 : Ins mX10_drawOne 93 (.iload 6) 2 95 := ⟨by decide +kernel, rfl⟩
theorem dX10_drawOne_95 : CalV mX10_drawOne 95 98 mX7_canMount := ⟨114, by decide +kernel, rfl, tb_3 (List.mem_of_getElem? (i := 103) (by decide +kernel)) rfl, meX7_canMount⟩
theorem dX10_drawOne_98 : Ins mX10_drawOne 98 (.ifCond .eq 89) 3 101 := ⟨by decide +kernel, rfl⟩
theorem dX10_drawOne_101 : Ins mX10_drawOne 101 (.aload_n 1) 1 102 := ⟨by decide +kernel, rfl⟩
theorem dX10_drawOne_102 : Ins mX10_drawOne 102 (.iload 5) 2 104 := ⟨by decide +kernel, rfl⟩
theorem dX10_drawOne_104 : Ins mX10_drawOne 104 (.iload 6) 2 106 := ⟨by decide +kernel, rfl⟩
theorem dX10_drawOne_106 : CalV mX10_drawOne 106 109 mX7_seat := ⟨128, by decide +kernel, rfl, tb_3 (List.mem_of_getElem? (i := 134) (by decide +kernel)) rfl, meX7_seat⟩
theorem dX10_drawOne_109 : Ins mX10_drawOne 109 (.goto 78) 3 112 := ⟨by decide +kernel, rfl⟩
theorem dX10_drawOne_112 : Ins mX10_drawOne 112 (.iload_n 2) 1 113 := ⟨by decide +kernel, rfl⟩
theorem dX10_drawOne_113 : Ins mX10_drawOne 113 (.iconst 4) 1 114 := ⟨by decide +kernel, rfl⟩
theorem dX10_drawOne_114 : Ins mX10_drawOne 114 (.irem) 1 115 := ⟨by decide +kernel, rfl⟩
theorem dX10_drawOne_115 : Ins mX10_drawOne 115 (.ifCond .ne 72) 3 118 := ⟨by decide +kernel, rfl⟩
theorem dX10_drawOne_118 : Ins mX10_drawOne 118 (.aload_n 1) 1 119 := ⟨by decide +kernel, rfl⟩
theorem dX10_drawOne_119 : Ins mX10_drawOne 119 (.iload 5) 2 121 := ⟨by decide +kernel, rfl⟩
theorem dX10_drawOne_121 : CalV mX10_drawOne 121 124 mX7_unseat := ⟨135, by decide +kernel, rfl, tb_3 (List.mem_of_getElem? (i := 144) (by decide +kernel)) rfl, meX7_unseat⟩
theorem dX10_drawOne_124 : Ins mX10_drawOne 124 (.goto 63) 3 127 := ⟨by decide +kernel, rfl⟩
theorem dX10_drawOne_127 : Ins mX10_drawOne 127 (.iload 4) 2 129 := ⟨by decide +kernel, rfl⟩
theorem dX10_drawOne_129 : Ins mX10_drawOne 129 (.ifCond .le 10) 3 132 := ⟨by decide +kernel, rfl⟩
theorem dX10_drawOne_132 : Ins mX10_drawOne 132 (.iload_n 2) 1 133 := ⟨by decide +kernel, rfl⟩
theorem dX10_drawOne_133 : Ins mX10_drawOne 133 (.iload 4) 2 135 := ⟨by decide +kernel, rfl⟩
theorem dX10_drawOne_135 : Ins mX10_drawOne 135 (.irem) 1 136 := ⟨by decide +kernel, rfl⟩
theorem dX10_drawOne_136 : Ins mX10_drawOne 136 (.goto 4) 3 139 := ⟨by decide +kernel, rfl⟩
theorem dX10_drawOne_139 : Ins mX10_drawOne 139 (.iconst (-1)) 1 140 := ⟨by decide +kernel, rfl⟩
theorem dX10_drawOne_140 : Ins mX10_drawOne 140 (.istore 7) 2 142 := ⟨by decide +kernel, rfl⟩
theorem dX10_drawOne_142 : Ins mX10_drawOne 142 (.iload_n 2) 1 143 := ⟨by decide +kernel, rfl⟩
theorem dX10_drawOne_143 : Ins mX10_drawOne 143 (.iconst 5) 1 144 := ⟨by decide +kernel, rfl⟩
theorem dX10_drawOne_144 : Ins mX10_drawOne 144 (.irem) 1 145 := ⟨by decide +kernel, rfl⟩
theorem dX10_drawOne_145 : Ins mX10_drawOne 145 (.ifCond .ne 42) 3 148 := ⟨by decide +kernel, rfl⟩
theorem dX10_drawOne_148 : Ins mX10_drawOne 148 (.aload_n 1) 1 149 := ⟨by decide +kernel, rfl⟩
theorem dX10_drawOne_149 : Ins mX10_drawOne 149 (.iload 7) 2 151 := ⟨by decide +kernel, rfl⟩
theorem dX10_drawOne_151 : CalV mX10_drawOne 151 154 mX7_canOil := ⟨139, by decide +kernel, rfl, tb_3 (List.mem_of_getElem? (i := 152) (by decide +kernel)) rfl, meX7_canOil⟩
theorem dX10_drawOne_154 : Ins mX10_drawOne 154 (.ifCond .eq 33) 3 157 := ⟨by decide +kernel, rfl⟩
theorem dX10_drawOne_157 : Ins mX10_drawOne 157 (.aload_n 1) 1 158 := ⟨by decide +kernel, rfl⟩
theorem dX10_drawOne_158 : Ins mX10_drawOne 158 (.iload 7) 2 160 := ⟨by decide +kernel, rfl⟩
theorem dX10_drawOne_160 : CalV mX10_drawOne 160 163 mX7_grease := ⟨142, by decide +kernel, rfl, tb_3 (List.mem_of_getElem? (i := 160) (by decide +kernel)) rfl, meX7_grease⟩
theorem dX10_drawOne_163 : Ins mX10_drawOne 163 (.pop) 1 164 := ⟨by decide +kernel, rfl⟩
theorem dX10_drawOne_164 : Ins mX10_drawOne 164 (.goto 23) 3 167 := ⟨by decide +kernel, rfl⟩
theorem dX10_drawOne_167 : Ins mX10_drawOne 167 (.aload_n 1) 1 168 := ⟨by decide +kernel, rfl⟩
theorem dX10_drawOne_168 : CalV mX10_drawOne 168 171 mX7_canPass := ⟨269, by decide +kernel, rfl, tb_4 (List.mem_of_getElem? (i := 85) (by decide +kernel)) rfl, meX7_canPass⟩
theorem dX10_drawOne_171 : Ins mX10_drawOne 171 (.ifCond .eq 16) 3 174 := ⟨by decide +kernel, rfl⟩
theorem dX10_drawOne_174 : Ins mX10_drawOne 174 (.aload_n 1) 1 175 := ⟨by decide +kernel, rfl⟩
theorem dX10_drawOne_175 : Ins mX10_drawOne 175 (.aload_n 0) 1 176 := ⟨by decide +kernel, rfl⟩
theorem dX10_drawOne_176 : GgR mX10_drawOne 176 179 9 4 := ⟨4, rfl, ⟨35, _, by decide +kernel, rfl, rfl, by decide, tb_2 (List.mem_of_getElem? (i := 37) (by decide +kernel)) rfl⟩, by decide, rfl⟩
theorem dX10_drawOne_179 : Ins mX10_drawOne 179 (.aload_n 0) 1 180 := ⟨by decide +kernel, rfl⟩
theorem dX10_drawOne_180 : CalV mX10_drawOne 180 183 mX10_ruling := ⟨155, by decide +kernel, rfl, tb_3 (List.mem_of_getElem? (i := 194) (by decide +kernel)) rfl, meX10_ruling⟩
theorem dX10_drawOne_183 : CalV mX10_drawOne 183 186 mX7_passMinute := ⟨158, by decide +kernel, rfl, tb_3 (List.mem_of_getElem? (i := 202) (by decide +kernel)) rfl, meX7_passMinute⟩
theorem dX10_drawOne_186 : Ins mX10_drawOne 186 (.pop) 1 187 := ⟨by decide +kernel, rfl⟩
theorem dX10_drawOne_187 : Ins mX10_drawOne 187 (.return_) 1 188 := ⟨by decide +kernel, rfl⟩
theorem dX10_lastsAllWinter_0 : Ins mX10_lastsAllWinter 0 (.iload_n 2) 1 1 := ⟨by decide +kernel, rfl⟩
theorem dX10_lastsAllWinter_1 : Ins mX10_lastsAllWinter 1 (.istore_n 3) 1 2 := ⟨by decide +kernel, rfl⟩
theorem dX10_lastsAllWinter_2 : Ins mX10_lastsAllWinter 2 (.iconst 0) 1 3 := ⟨by decide +kernel, rfl⟩
theorem dX10_lastsAllWinter_3 : Ins mX10_lastsAllWinter 3 (.istore 4) 2 5 := ⟨by decide +kernel, rfl⟩
theorem dX10_lastsAllWinter_5 : Ins mX10_lastsAllWinter 5 (.iload 4) 2 7 := ⟨by decide +kernel, rfl⟩
theorem dX10_lastsAllWinter_7 : Ins mX10_lastsAllWinter 7 (.aload_n 0) 1 8 := ⟨by decide +kernel, rfl⟩
theorem dX10_lastsAllWinter_8 : GgR mX10_lastsAllWinter 8 11 9 0 := ⟨0, rfl, ⟨10, _, by decide +kernel, rfl, rfl, by decide, tb_2 (List.mem_of_getElem? (i := 33) (by decide +kernel)) rfl⟩, by decide, rfl⟩
theorem dX10_lastsAllWinter_11 : GgR mX10_lastsAllWinter 11 14 8 4 := ⟨4, rfl, ⟨350, _, by decide +kernel, rfl, rfl, by decide, tb_1 (List.mem_of_getElem? (i := 113) (by decide +kernel)) rfl⟩, by decide, rfl⟩
theorem dX10_lastsAllWinter_14 : GgI mX10_lastsAllWinter 14 17 7 4 := ⟨4, rfl, ⟨318, _, by decide +kernel, rfl, rfl, by decide, tb_1 (List.mem_of_getElem? (i := 92) (by decide +kernel)) rfl⟩, by decide, rfl⟩
theorem dX10_lastsAllWinter_17 : Ins mX10_lastsAllWinter 17 (.if_icmp .ge 43) 3 20 := ⟨by decide +kernel, rfl⟩
theorem dX10_lastsAllWinter_20 : Ins mX10_lastsAllWinter 20 (.iload_n 1) 1 21 := ⟨by decide +kernel, rfl⟩
theorem dX10_lastsAllWinter_21 : Ins mX10_lastsAllWinter 21 (.iload 4) 2 23 := ⟨by decide +kernel, rfl⟩
theorem dX10_lastsAllWinter_23 : Ins mX10_lastsAllWinter 23 (.ishr) 1 24 := ⟨by decide +kernel, rfl⟩
theorem dX10_lastsAllWinter_24 : Ins mX10_lastsAllWinter 24 (.iconst 1) 1 25 := ⟨by decide +kernel, rfl⟩
theorem dX10_lastsAllWinter_25 : Ins mX10_lastsAllWinter 25 (.iand) 1 26 := ⟨by decide +kernel, rfl⟩
theorem dX10_lastsAllWinter_26 : Ins mX10_lastsAllWinter 26 (.ifCond .eq 5) 3 29 := ⟨by decide +kernel, rfl⟩
theorem dX10_lastsAllWinter_29 : Ins mX10_lastsAllWinter 29 (.iconst 0) 1 30 := ⟨by decide +kernel, rfl⟩
theorem dX10_lastsAllWinter_30 : Ins mX10_lastsAllWinter 30 (.istore_n 3) 1 31 := ⟨by decide +kernel, rfl⟩
theorem dX10_lastsAllWinter_31 : Ins mX10_lastsAllWinter 31 (.iload_n 3) 1 32 := ⟨by decide +kernel, rfl⟩
theorem dX10_lastsAllWinter_32 : Ins mX10_lastsAllWinter 32 (.aload_n 0) 1 33 := ⟨by decide +kernel, rfl⟩
theorem dX10_lastsAllWinter_33 : GgR mX10_lastsAllWinter 33 36 9 0 := ⟨0, rfl, ⟨10, _, by decide +kernel, rfl, rfl, by decide, tb_2 (List.mem_of_getElem? (i := 33) (by decide +kernel)) rfl⟩, by decide, rfl⟩
theorem dX10_lastsAllWinter_36 : GgR mX10_lastsAllWinter 36 39 8 4 := ⟨4, rfl, ⟨350, _, by decide +kernel, rfl, rfl, by decide, tb_1 (List.mem_of_getElem? (i := 113) (by decide +kernel)) rfl⟩, by decide, rfl⟩
theorem dX10_lastsAllWinter_39 : Ins mX10_lastsAllWinter 39 (.iload 4) 2 41 := ⟨by decide +kernel, rfl⟩
theorem dX10_lastsAllWinter_41 : CalV mX10_lastsAllWinter 41 44 mX8_firstOf := ⟨402, by decide +kernel, rfl, tb_5 (List.mem_of_getElem? (i := 119) (by decide +kernel)) rfl, meX8_firstOf⟩
theorem dX10_lastsAllWinter_44 : Ins mX10_lastsAllWinter 44 (.iadd) 1 45 := ⟨by decide +kernel, rfl⟩
theorem dX10_lastsAllWinter_45 : Ins mX10_lastsAllWinter 45 (.istore_n 3) 1 46 := ⟨by decide +kernel, rfl⟩
theorem dX10_lastsAllWinter_46 : Ins mX10_lastsAllWinter 46 (.iload_n 3) 1 47 := ⟨by decide +kernel, rfl⟩
theorem dX10_lastsAllWinter_47 : Ins mX10_lastsAllWinter 47 (.bipush 99) 2 49 := ⟨by decide +kernel, rfl⟩
theorem dX10_lastsAllWinter_49 : Ins mX10_lastsAllWinter 49 (.if_icmp .lt 5) 3 52 := ⟨by decide +kernel, rfl⟩
theorem dX10_lastsAllWinter_52 : Ins mX10_lastsAllWinter 52 (.iconst 0) 1 53 := ⟨by decide +kernel, rfl⟩
theorem dX10_lastsAllWinter_53 : Ins mX10_lastsAllWinter 53 (.ireturn) 1 54 := ⟨by decide +kernel, rfl⟩
theorem dX10_lastsAllWinter_54 : Ins mX10_lastsAllWinter 54 (.iinc 4 1) 3 57 := ⟨by decide +kernel, rfl⟩
theorem dX10_lastsAllWinter_57 : Ins mX10_lastsAllWinter 57 (.goto (-52)) 3 60 := ⟨by decide +kernel, rfl⟩
theorem dX10_lastsAllWinter_60 : Ins mX10_lastsAllWinter 60 (.iconst 1) 1 61 := ⟨by decide +kernel, rfl⟩
theorem dX10_lastsAllWinter_61 : Ins mX10_lastsAllWinter 61 (.ireturn) 1 62 := ⟨by decide +kernel, rfl⟩
theorem dX10_isLaterOrLess_0 : Ins mX10_isLaterOrLess 0 (.iload_n 0) 1 1 := ⟨by decide +kernel, rfl⟩
theorem dX10_isLaterOrLess_1 : CalS mX10_isLaterOrLess 1 4 mJ6_bitCount_0f7a4 := ⟨215, by decide +kernel, rfl, Or.inl (tb_4 (List.mem_of_getElem? (i := 147) (by decide +kernel)) rfl), meJ6_bitCount_0f7a4⟩
theorem dX10_isLaterOrLess_4 : Ins mX10_isLaterOrLess 4 (.istore_n 2) 1 5 := ⟨by decide +kernel, rfl⟩
theorem dX10_isLaterOrLess_5 : Ins mX10_isLaterOrLess 5 (.iload_n 1) 1 6 := ⟨by decide +kernel, rfl⟩
theorem dX10_isLaterOrLess_6 : CalS mX10_isLaterOrLess 6 9 mJ6_bitCount_0f7a4 := ⟨215, by decide +kernel, rfl, Or.inl (tb_4 (List.mem_of_getElem? (i := 147) (by decide +kernel)) rfl), meJ6_bitCount_0f7a4⟩
theorem dX10_isLaterOrLess_9 : Ins mX10_isLaterOrLess 9 (.istore_n 3) 1 10 := ⟨by decide +kernel, rfl⟩
theorem dX10_isLaterOrLess_10 : Ins mX10_isLaterOrLess 10 (.iload_n 2) 1 11 := ⟨by decide +kernel, rfl⟩
theorem dX10_isLaterOrLess_11 : Ins mX10_isLaterOrLess 11 (.iload_n 3) 1 12 := ⟨by decide +kernel, rfl⟩
theorem dX10_isLaterOrLess_12 : Ins mX10_isLaterOrLess 12 (.if_icmp .eq 14) 3 15 := ⟨by decide +kernel, rfl⟩
theorem dX10_isLaterOrLess_15 : Ins mX10_isLaterOrLess 15 (.iload_n 2) 1 16 := ⟨by decide +kernel, rfl⟩
theorem dX10_isLaterOrLess_16 : Ins mX10_isLaterOrLess 16 (.iload_n 3) 1 17 := ⟨by decide +kernel, rfl⟩
theorem dX10_isLaterOrLess_17 : Ins mX10_isLaterOrLess 17 (.if_icmp .ge 7) 3 20 := ⟨by decide +kernel, rfl⟩
theorem dX10_isLaterOrLess_20 : Ins mX10_isLaterOrLess 20 (.iconst 1) 1 21 := ⟨by decide +kernel, rfl⟩
theorem dX10_isLaterOrLess_21 : Ins mX10_isLaterOrLess 21 (.goto 4) 3 24 := ⟨by decide +kernel, rfl⟩
theorem dX10_isLaterOrLess_24 : Ins mX10_isLaterOrLess 24 (.iconst 0) 1 25 := ⟨by decide +kernel, rfl⟩
theorem dX10_isLaterOrLess_25 : Ins mX10_isLaterOrLess 25 (.ireturn) 1 26 := ⟨by decide +kernel, rfl⟩
theorem dX10_isLaterOrLess_26 : Ins mX10_isLaterOrLess 26 (.iload_n 0) 1 27 := ⟨by decide +kernel, rfl⟩
theorem dX10_isLaterOrLess_27 : Ins mX10_isLaterOrLess 27 (.iload_n 1) 1 28 := ⟨by decide +kernel, rfl⟩
theorem dX10_isLaterOrLess_28 : Ins mX10_isLaterOrLess 28 (.ixor) 1 29 := ⟨by decide +kernel, rfl⟩
theorem dX10_isLaterOrLess_29 : Ins mX10_isLaterOrLess 29 (.istore 4) 2 31 := ⟨by decide +kernel, rfl⟩
theorem dX10_isLaterOrLess_31 : Ins mX10_isLaterOrLess 31 (.iload_n 1) 1 32 := ⟨by decide +kernel, rfl⟩
theorem dX10_isLaterOrLess_32 : Ins mX10_isLaterOrLess 32 (.iload 4) 2 34 := ⟨by decide +kernel, rfl⟩
theorem dX10_isLaterOrLess_34 : Ins mX10_isLaterOrLess 34 (.iand) 1 35 := ⟨by decide +kernel, rfl⟩
theorem dX10_isLaterOrLess_35 : Ins mX10_isLaterOrLess 35 (.iload 4) 2 37 := ⟨by decide +kernel, rfl⟩
theorem dX10_isLaterOrLess_37 : Ins mX10_isLaterOrLess 37 (.ineg) 1 38 := ⟨by decide +kernel, rfl⟩
theorem dX10_isLaterOrLess_38 : Ins mX10_isLaterOrLess 38 (.iand) 1 39 := ⟨by decide +kernel, rfl⟩
theorem dX10_isLaterOrLess_39 : Ins mX10_isLaterOrLess 39 (.ifCond .eq 7) 3 42 := ⟨by decide +kernel, rfl⟩
theorem dX10_isLaterOrLess_42 : Ins mX10_isLaterOrLess 42 (.iconst 1) 1 43 := ⟨by decide +kernel, rfl⟩
theorem dX10_isLaterOrLess_43 : Ins mX10_isLaterOrLess 43 (.goto 4) 3 46 := ⟨by decide +kernel, rfl⟩
theorem dX10_isLaterOrLess_46 : Ins mX10_isLaterOrLess 46 (.iconst 0) 1 47 := ⟨by decide +kernel, rfl⟩
theorem dX10_isLaterOrLess_47 : Ins mX10_isLaterOrLess 47 (.ireturn) 1 48 := ⟨by decide +kernel, rfl⟩
theorem dX10_saysAllCounted_0 : Ins mX10_saysAllCounted 0 (.iconst 0) 1 1 := ⟨by decide +kernel, rfl⟩
theorem dX10_saysAllCounted_1 : Ins mX10_saysAllCounted 1 (.istore_n 2) 1 2 := ⟨by decide +kernel, rfl⟩
theorem dX10_saysAllCounted_2 : Ins mX10_saysAllCounted 2 (.iload_n 2) 1 3 := ⟨by decide +kernel, rfl⟩
theorem dX10_saysAllCounted_3 : Ins mX10_saysAllCounted 3 (.aload_n 0) 1 4 := ⟨by decide +kernel, rfl⟩
theorem dX10_saysAllCounted_4 : GgR mX10_saysAllCounted 4 7 9 0 := ⟨0, rfl, ⟨10, _, by decide +kernel, rfl, rfl, by decide, tb_2 (List.mem_of_getElem? (i := 33) (by decide +kernel)) rfl⟩, by decide, rfl⟩
theorem dX10_saysAllCounted_7 : GgR mX10_saysAllCounted 7 10 8 5 := ⟨5, rfl, ⟨362, _, by decide +kernel, rfl, rfl, by decide, tb_1 (List.mem_of_getElem? (i := 115) (by decide +kernel)) rfl⟩, by decide, rfl⟩
theorem dX10_saysAllCounted_10 : GgI mX10_saysAllCounted 10 13 7 4 := ⟨4, rfl, ⟨318, _, by decide +kernel, rfl, rfl, by decide, tb_1 (List.mem_of_getElem? (i := 92) (by decide +kernel)) rfl⟩, by decide, rfl⟩
theorem dX10_saysAllCounted_13 : Ins mX10_saysAllCounted 13 (.if_icmp .ge 51) 3 16 := ⟨by decide +kernel, rfl⟩
theorem dX10_saysAllCounted_16 : Ins mX10_saysAllCounted 16 (.aload_n 0) 1 17 := ⟨by decide +kernel, rfl⟩
theorem dX10_saysAllCounted_17 : GgR mX10_saysAllCounted 17 20 9 4 := ⟨4, rfl, ⟨35, _, by decide +kernel, rfl, rfl, by decide, tb_2 (List.mem_of_getElem? (i := 37) (by decide +kernel)) rfl⟩, by decide, rfl⟩
theorem dX10_saysAllCounted_20 : Ins mX10_saysAllCounted 20 (.aload_n 1) 1 21 := ⟨by decide +kernel, rfl⟩
theorem dX10_saysAllCounted_21 : Ins mX10_saysAllCounted 21 (.aload_n 0) 1 22 := ⟨by decide +kernel, rfl⟩
theorem dX10_saysAllCounted_22 : GgR mX10_saysAllCounted 22 25 9 0 := ⟨0, rfl, ⟨10, _, by decide +kernel, rfl, rfl, by decide, tb_2 (List.mem_of_getElem? (i := 33) (by decide +kernel)) rfl⟩, by decide, rfl⟩
theorem dX10_saysAllCounted_25 : GgR mX10_saysAllCounted 25 28 8 0 := ⟨0, rfl, ⟨61, _, by decide +kernel, rfl, rfl, by decide, tb_1 (List.mem_of_getElem? (i := 105) (by decide +kernel)) rfl⟩, by decide, rfl⟩
theorem dX10_saysAllCounted_28 : Ins mX10_saysAllCounted 28 (.aload_n 0) 1 29 := ⟨by decide +kernel, rfl⟩
theorem dX10_saysAllCounted_29 : GgR mX10_saysAllCounted 29 32 9 0 := ⟨0, rfl, ⟨10, _, by decide +kernel, rfl, rfl, by decide, tb_2 (List.mem_of_getElem? (i := 33) (by decide +kernel)) rfl⟩, by decide, rfl⟩
theorem dX10_saysAllCounted_32 : GgR mX10_saysAllCounted 32 35 8 5 := ⟨5, rfl, ⟨362, _, by decide +kernel, rfl, rfl, by decide, tb_1 (List.mem_of_getElem? (i := 115) (by decide +kernel)) rfl⟩, by decide, rfl⟩
theorem dX10_saysAllCounted_35 : Ins mX10_saysAllCounted 35 (.iload_n 2) 1 36 := ⟨by decide +kernel, rfl⟩
theorem dX10_saysAllCounted_36 : CalV mX10_saysAllCounted 36 39 mX8_firstOf := ⟨402, by decide +kernel, rfl, tb_5 (List.mem_of_getElem? (i := 119) (by decide +kernel)) rfl, meX8_firstOf⟩
theorem dX10_saysAllCounted_39 : CalV mX10_saysAllCounted 39 42 mX1_seen := ⟨245, by decide +kernel, rfl, tb_4 (List.mem_of_getElem? (i := 164) (by decide +kernel)) rfl, meX1_seen⟩
theorem dX10_saysAllCounted_42 : Ins mX10_saysAllCounted 42 (.aload_n 0) 1 43 := ⟨by decide +kernel, rfl⟩
theorem dX10_saysAllCounted_43 : GgR mX10_saysAllCounted 43 46 9 0 := ⟨0, rfl, ⟨10, _, by decide +kernel, rfl, rfl, by decide, tb_2 (List.mem_of_getElem? (i := 33) (by decide +kernel)) rfl⟩, by decide, rfl⟩
theorem dX10_saysAllCounted_46 : GgR mX10_saysAllCounted 46 49 8 5 := ⟨5, rfl, ⟨362, _, by decide +kernel, rfl, rfl, by decide, tb_1 (List.mem_of_getElem? (i := 115) (by decide +kernel)) rfl⟩, by decide, rfl⟩
theorem dX10_saysAllCounted_49 : Ins mX10_saysAllCounted 49 (.iload_n 2) 1 50 := ⟨by decide +kernel, rfl⟩
theorem dX10_saysAllCounted_50 : CalV mX10_saysAllCounted 50 53 mX8_secondOf := ⟨403, by decide +kernel, rfl, tb_5 (List.mem_of_getElem? (i := 140) (by decide +kernel)) rfl, meX8_secondOf⟩
theorem dX10_saysAllCounted_53 : Ins mX10_saysAllCounted 53 (.if_icmp .eq 5) 3 56 := ⟨by decide +kernel, rfl⟩
theorem dX10_saysAllCounted_56 : Ins mX10_saysAllCounted 56 (.iconst 0) 1 57 := ⟨by decide +kernel, rfl⟩
theorem dX10_saysAllCounted_57 : Ins mX10_saysAllCounted 57 (.ireturn) 1 58 := ⟨by decide +kernel, rfl⟩
theorem dX10_saysAllCounted_58 : Ins mX10_saysAllCounted 58 (.iinc 2 1) 3 61 := ⟨by decide +kernel, rfl⟩
theorem dX10_saysAllCounted_61 : Ins mX10_saysAllCounted 61 (.goto (-59)) 3 64 := ⟨by decide +kernel, rfl⟩
theorem dX10_saysAllCounted_64 : Ins mX10_saysAllCounted 64 (.iconst 1) 1 65 := ⟨by decide +kernel, rfl⟩
theorem dX10_saysAllCounted_65 : Ins mX10_saysAllCounted 65 (.ireturn) 1 66 := ⟨by decide +kernel, rfl⟩
theorem dX11_init_0 : Ins mX11_init 0 (.aload_n 0) 1 1 := ⟨by decide +kernel, rfl⟩
theorem dX11_init_1 : Ins mX11_init 1 (.invokespecial 1) 3 4 := ⟨by decide +kernel, rfl⟩
theorem dX11_init_4 : Ins mX11_init 4 (.aload_n 0) 1 5 := ⟨by decide +kernel, rfl⟩
theorem dX11_init_5 : Ins mX11_init 5 (.sipush 3640) 3 8 := ⟨by decide +kernel, rfl⟩
theorem dX11_init_8 : Ins mX11_init 8 (.newarray .int) 2 10 := ⟨by decide +kernel, rfl⟩
theorem dX11_init_10 : GpR mX11_init 10 13 10 0 := ⟨0, rfl, _, ⟨7, _, by decide +kernel, rfl, rfl, by decide, tb_5 (List.mem_of_getElem? (i := 196) (by decide +kernel)) rfl, tyX11_ok 0 (by decide), Or.inr ⟨rfl, rfl, rfl⟩⟩, by decide, rfl, Or.inr ⟨_, rfl⟩⟩
theorem dX11_init_13 : Ins mX11_init 13 (.aload_n 0) 1 14 := ⟨by decide +kernel, rfl⟩
theorem dX11_init_14 : Ins mX11_init 14 (.sipush 3640) 3 17 := ⟨by decide +kernel, rfl⟩
theorem dX11_init_17 : Ins mX11_init 17 (.newarray .int) 2 19 := ⟨by decide +kernel, rfl⟩
theorem dX11_init_19 : GpR mX11_init 19 22 10 1 := ⟨1, rfl, _, ⟨13, _, by decide +kernel, rfl, rfl, by decide, tb_5 (List.mem_of_getElem? (i := 197) (by decide +kernel)) rfl, tyX11_ok 1 (by decide), Or.inr ⟨rfl, rfl, rfl⟩⟩, by decide, rfl, Or.inr ⟨_, rfl⟩⟩
theorem dX11_init_22 : Ins mX11_init 22 (.aload_n 0) 1 23 := ⟨by decide +kernel, rfl⟩
theorem dX11_init_23 : Ins mX11_init 23 (.sipush 2820) 3 26 := ⟨by decide +kernel, rfl⟩
theorem dX11_init_26 : Ins mX11_init 26 (.newarray .int) 2 28 := ⟨by decide +kernel, rfl⟩
theorem dX11_init_28 : GpR mX11_init 28 31 10 2 := ⟨2, rfl, _, ⟨16, _, by decide +kernel, rfl, rfl, by decide, tb_5 (List.mem_of_getElem? (i := 198) (by decide +kernel)) rfl, tyX11_ok 2 (by decide), Or.inr ⟨rfl, rfl, rfl⟩⟩, by decide, rfl, Or.inr ⟨_, rfl⟩⟩
theorem dX11_init_31 : Ins mX11_init 31 (.aload_n 0) 1 32 := ⟨by decide +kernel, rfl⟩
theorem dX11_init_32 : Ins mX11_init 32 (.sipush 300) 3 35 := ⟨by decide +kernel, rfl⟩
theorem dX11_init_35 : Ins mX11_init 35 (.newarray .int) 2 37 := ⟨by decide +kernel, rfl⟩
theorem dX11_init_37 : GpR mX11_init 37 40 10 3 := ⟨3, rfl, _, ⟨19, _, by decide +kernel, rfl, rfl, by decide, tb_5 (List.mem_of_getElem? (i := 199) (by decide +kernel)) rfl, tyX11_ok 3 (by decide), Or.inr ⟨rfl, rfl, rfl⟩⟩, by decide, rfl, Or.inr ⟨_, rfl⟩⟩
theorem dX11_init_40 : Ins mX11_init 40 (.aload_n 0) 1 41 := ⟨by decide +kernel, rfl⟩
theorem dX11_init_41 : Ins mX11_init 41 (.iconst (-1)) 1 42 := ⟨by decide +kernel, rfl⟩
theorem dX11_init_42 : GpI mX11_init 42 45 10 5 := ⟨5, rfl, ⟨22, _, by decide +kernel, rfl, rfl, by decide, tb_5 (List.mem_of_getElem? (i := 201) (by decide +kernel)) rfl, by decide +kernel, Or.inl rfl⟩, by decide, rfl⟩
theorem dX11_init_45 : Ins mX11_init 45 (.aload_n 0) 1 46 := ⟨by decide +kernel, rfl⟩
theorem dX11_init_46 : Ins mX11_init 46 (.iconst (-1)) 1 47 := ⟨by decide +kernel, rfl⟩
theorem dX11_init_47 : GpI mX11_init 47 50 10 6 := ⟨6, rfl, ⟨26, _, by decide +kernel, rfl, rfl, by decide, tb_5 (List.mem_of_getElem? (i := 202) (by decide +kernel)) rfl, by decide +kernel, Or.inl rfl⟩, by decide, rfl⟩
theorem dX11_init_50 : Ins mX11_init 50 (.aload_n 0) 1 51 := ⟨by decide +kernel, rfl⟩
theorem dX11_init_51 : Ins mX11_init 51 (.sipush 160) 3 54 := ⟨by decide +kernel, rfl⟩
theorem dX11_init_54 : Ins mX11_init 54 (.newarray .int) 2 56 := ⟨by decide +kernel, rfl⟩
theorem dX11_init_56 : GpR mX11_init 56 59 10 15 := ⟨15, rfl, _, ⟨29, _, by decide +kernel, rfl, rfl, by decide, tb_5 (List.mem_of_getElem? (i := 211) (by decide +kernel)) rfl, tyX11_ok 15 (by decide), Or.inr ⟨rfl, rfl, rfl⟩⟩, by decide, rfl, Or.inr ⟨_, rfl⟩⟩
theorem dX11_init_59 : Ins mX11_init 59 (.aload_n 0) 1 60 := ⟨by decide +kernel, rfl⟩
theorem dX11_init_60 : Ins mX11_init 60 (.bipush 9) 2 62 := ⟨by decide +kernel, rfl⟩
theorem dX11_init_62 : Ins mX11_init 62 (.newarray .int) 2 64 := ⟨by decide +kernel, rfl⟩
theorem dX11_init_64 : GpR mX11_init 64 67 10 20 := ⟨20, rfl, _, ⟨32, _, by decide +kernel, rfl, rfl, by decide, tb_5 (List.mem_of_getElem? (i := 216) (by decide +kernel)) rfl, tyX11_ok 20 (by decide), Or.inr ⟨rfl, rfl, rfl⟩⟩, by decide, rfl, Or.inr ⟨_, rfl⟩⟩
theorem dX11_init_67 : Ins mX11_init 67 (.aload_n 0) 1 68 := ⟨by decide +kernel, rfl⟩
theorem dX11_init_68 : Ins mX11_init 68 (.sipush 330) 3 71 := ⟨by decide +kernel, rfl⟩
theorem dX11_init_71 : Ins mX11_init 71 (.newarray .long) 2 73 := ⟨by decide +kernel, rfl⟩
theorem dX11_init_73 : GpR mX11_init 73 76 10 21 := ⟨21, rfl, _, ⟨35, _, by decide +kernel, rfl, rfl, by decide, tb_5 (List.mem_of_getElem? (i := 217) (by decide +kernel)) rfl, tyX11_ok 21 (by decide), Or.inr ⟨rfl, rfl, rfl⟩⟩, by decide, rfl, Or.inr ⟨_, rfl⟩⟩
theorem dX11_init_76 : Ins mX11_init 76 (.aload_n 0) 1 77 := ⟨by decide +kernel, rfl⟩
theorem dX11_init_77 : Ins mX11_init 77 (.sipush 330) 3 80 := ⟨by decide +kernel, rfl⟩
theorem dX11_init_80 : Ins mX11_init 80 (.newarray .boolean) 2 82 := ⟨by decide +kernel, rfl⟩
theorem dX11_init_82 : GpR mX11_init 82 85 10 22 := ⟨22, rfl, _, ⟨39, _, by decide +kernel, rfl, rfl, by decide, tb_5 (List.mem_of_getElem? (i := 218) (by decide +kernel)) rfl, tyX11_ok 22 (by decide), Or.inr ⟨rfl, rfl, rfl⟩⟩, by decide, rfl, Or.inr ⟨_, rfl⟩⟩
theorem dX11_init_85 : Ins mX11_init 85 (.aload_n 0) 1 86 := ⟨by decide +kernel, rfl⟩
theorem dX11_init_86 : Ins mX11_init 86 (.iconst 1) 1 87 := ⟨by decide +kernel, rfl⟩
theorem dX11_init_87 : GpZ mX11_init 87 90 10 23 := ⟨23, rfl, ⟨43, _, by decide +kernel, rfl, rfl, by decide, tb_5 (List.mem_of_getElem? (i := 219) (by decide +kernel)) rfl, by decide +kernel, Or.inl rfl⟩, by decide, rfl⟩
theorem dX11_init_90 : Ins mX11_init 90 (.aload_n 0) 1 91 := ⟨by decide +kernel, rfl⟩
theorem dX11_init_91 : Ins mX11_init 91 (.bipush 8) 2 93 := ⟨by decide +kernel, rfl⟩
theorem dX11_init_93 : Ins mX11_init 93 (.newarray .int) 2 95 := ⟨by decide +kernel, rfl⟩
theorem dX11_init_95 : GpR mX11_init 95 98 10 25 := ⟨25, rfl, _, ⟨47, _, by decide +kernel, rfl, rfl, by decide, tb_5 (List.mem_of_getElem? (i := 221) (by decide +kernel)) rfl, tyX11_ok 25 (by decide), Or.inr ⟨rfl, rfl, rfl⟩⟩, by decide, rfl, Or.inr ⟨_, rfl⟩⟩
theorem dX11_init_98 : Ins mX11_init 98 (.aload_n 0) 1 99 := ⟨by decide +kernel, rfl⟩
theorem dX11_init_99 : Ins mX11_init 99 (.bipush 72) 2 101 := ⟨by decide +kernel, rfl⟩
theorem dX11_init_101 : Ins mX11_init 101 (.newarray .int) 2 103 := ⟨by decide +kernel, rfl⟩
theorem dX11_init_103 : GpR mX11_init 103 106 10 26 := ⟨26, rfl, _, ⟨50, _, by decide +kernel, rfl, rfl, by decide, tb_5 (List.mem_of_getElem? (i := 222) (by decide +kernel)) rfl, tyX11_ok 26 (by decide), Or.inr ⟨rfl, rfl, rfl⟩⟩, by decide, rfl, Or.inr ⟨_, rfl⟩⟩
theorem dX11_init_106 : Ins mX11_init 106 (.aload_n 0) 1 107 := ⟨by decide +kernel, rfl⟩
theorem dX11_init_107 : Ins mX11_init 107 (.sipush 256) 3 110 := ⟨by decide +kernel, rfl⟩
theorem dX11_init_110 : Ins mX11_init 110 (.newarray .boolean) 2 112 := ⟨by decide +kernel, rfl⟩
theorem dX11_init_112 : GpR mX11_init 112 115 10 27 := ⟨27, rfl, _, ⟨53, _, by decide +kernel, rfl, rfl, by decide, tb_5 (List.mem_of_getElem? (i := 223) (by decide +kernel)) rfl, tyX11_ok 27 (by decide), Or.inr ⟨rfl, rfl, rfl⟩⟩, by decide, rfl, Or.inr ⟨_, rfl⟩⟩
theorem dX11_init_115 : Ins mX11_init 115 (.aload_n 0) 1 116 := ⟨by decide +kernel, rfl⟩
theorem dX11_init_116 : Ins mX11_init 116 (.sipush 448) 3 119 := ⟨by decide +kernel, rfl⟩
theorem dX11_init_119 : Ins mX11_init 119 (.newarray .int) 2 121 := ⟨by decide +kernel, rfl⟩
theorem dX11_init_121 : GpR mX11_init 121 124 10 28 := ⟨28, rfl, _, ⟨56, _, by decide +kernel, rfl, rfl, by decide, tb_5 (List.mem_of_getElem? (i := 224) (by decide +kernel)) rfl, tyX11_ok 28 (by decide), Or.inr ⟨rfl, rfl, rfl⟩⟩, by decide, rfl, Or.inr ⟨_, rfl⟩⟩
theorem dX11_init_124 : Ins mX11_init 124 (.aload_n 0) 1 125 := ⟨by decide +kernel, rfl⟩
theorem dX11_init_125 : GgR mX11_init 125 128 10 0 := ⟨0, rfl, ⟨7, _, by decide +kernel, rfl, rfl, by decide, tb_5 (List.mem_of_getElem? (i := 196) (by decide +kernel)) rfl⟩, by decide, rfl⟩
theorem dX11_init_128 : Ins mX11_init 128 (.bipush 13) 2 130 := ⟨by decide +kernel, rfl⟩
theorem dX11_init_130 : Ins mX11_init 130 (.sipush 151) 3 133 := ⟨by decide +kernel, rfl⟩
theorem dX11_init_133 : Ins mX11_init 133 (.iastore) 1 134 := ⟨by decide +kernel, rfl⟩
theorem dX11_init_134 : Ins mX11_init 134 (.aload_n 0) 1 135 := ⟨by decide +kernel, rfl⟩
theorem dX11_init_135 : GgR mX11_init 135 138 10 0 := ⟨0, rfl, ⟨7, _, by decide +kernel, rfl, rfl, by decide, tb_5 (List.mem_of_getElem? (i := 196) (by decide +kernel)) rfl⟩, by decide, rfl⟩
theorem dX11_init_138 : Ins mX11_init 138 (.iconst 3) 1 139 := ⟨by decide +kernel, rfl⟩
theorem dX11_init_139 : Ins mX11_init 139 (.iconst (-1)) 1 140 := ⟨by decide +kernel, rfl⟩
theorem dX11_init_140 : Ins mX11_init 140 (.iastore) 1 141 := ⟨by decide +kernel, rfl⟩
theorem dX11_init_141 : Ins mX11_init 141 (.aload_n 0) 1 142 := ⟨by decide +kernel, rfl⟩
theorem dX11_init_142 : GgR mX11_init 142 145 10 0 := ⟨0, rfl, ⟨7, _, by decide +kernel, rfl, rfl, by decide, tb_5 (List.mem_of_getElem? (i := 196) (by decide +kernel)) rfl⟩, by decide, rfl⟩
theorem dX11_init_145 : Ins mX11_init 145 (.bipush 9) 2 147 := ⟨by decide +kernel, rfl⟩
theorem dX11_init_147 : Ins mX11_init 147 (.iconst 3) 1 148 := ⟨by decide +kernel, rfl⟩
theorem dX11_init_148 : Ins mX11_init 148 (.iastore) 1 149 := ⟨by decide +kernel, rfl⟩
theorem dX11_init_149 : Ins mX11_init 149 (.aload_n 0) 1 150 := ⟨by decide +kernel, rfl⟩
theorem dX11_init_150 : GgR mX11_init 150 153 10 0 := ⟨0, rfl, ⟨7, _, by decide +kernel, rfl, rfl, by decide, tb_5 (List.mem_of_getElem? (i := 196) (by decide +kernel)) rfl⟩, by decide, rfl⟩
theorem dX11_init_153 : Ins mX11_init 153 (.bipush 12) 2 155 := ⟨by decide +kernel, rfl⟩
theorem dX11_init_155 : Ins mX11_init 155 (.bipush 9) 2 157 := ⟨by decide +kernel, rfl⟩
theorem dX11_init_157 : Ins mX11_init 157 (.iastore) 1 158 := ⟨by decide +kernel, rfl⟩
theorem dX11_init_158 : Ins mX11_init 158 (.aload_n 0) 1 159 := ⟨by decide +kernel, rfl⟩
theorem dX11_init_159 : GgR mX11_init 159 162 10 0 := ⟨0, rfl, ⟨7, _, by decide +kernel, rfl, rfl, by decide, tb_5 (List.mem_of_getElem? (i := 196) (by decide +kernel)) rfl⟩, by decide, rfl⟩
theorem dX11_init_162 : Ins mX11_init 162 (.aload_n 0) 1 163 := ⟨by decide +kernel, rfl⟩
theorem dX11_init_163 : GgR mX11_init 163 166 10 1 := ⟨1, rfl, ⟨13, _, by decide +kernel, rfl, rfl, by decide, tb_5 (List.mem_of_getElem? (i := 197) (by decide +kernel)) rfl⟩, by decide, rfl⟩
theorem dX11_init_166 : CalS mX11_init 166 169 mX11_copy := ⟨59, by decide +kernel, rfl, Or.inl (tb_5 (List.mem_of_getElem? (i := 193) (by decide +kernel)) rfl), meX11_copy⟩
theorem dX11_init_169 : Ins mX11_init 169 (.return_) 1 170 := ⟨by decide +kernel, rfl⟩
theorem dX11_copy_0 : Ins mX11_copy 0 (.iconst 0) 1 1 := ⟨by decide +kernel, rfl⟩
theorem dX11_copy_1 : Ins mX11_copy 1 (.istore_n 2) 1 2 := ⟨by decide +kernel, rfl⟩
theorem dX11_copy_2 : Ins mX11_copy 2 (.iload_n 2) 1 3 := ⟨by decide +kernel, rfl⟩
theorem dX11_copy_3 : Ins mX11_copy 3 (.sipush 3640) 3 6 := ⟨by decide +kernel, rfl⟩
theorem dX11_copy_6 : Ins mX11_copy 6 (.if_icmp .ge 15) 3 9 := ⟨by decide +kernel, rfl⟩
theorem dX11_copy_9 : Ins mX11_copy 9 (.aload_n 1) 1 10 := ⟨by decide +kernel, rfl⟩
theorem dX11_copy_10 : Ins mX11_copy 10 (.iload_n 2) 1 11 := ⟨by decide +kernel, rfl⟩
theorem dX11_copy_11 : Ins mX11_copy 11 (.aload_n 0) 1 12 := ⟨by decide +kernel, rfl⟩
theorem dX11_copy_12 : Ins mX11_copy 12 (.iload_n 2) 1 13 := ⟨by decide +kernel, rfl⟩
theorem dX11_copy_13 : Ins mX11_copy 13 (.iaload) 1 14 := ⟨by decide +kernel, rfl⟩
theorem dX11_copy_14 : Ins mX11_copy 14 (.iastore) 1 15 := ⟨by decide +kernel, rfl⟩
theorem dX11_copy_15 : Ins mX11_copy 15 (.iinc 2 1) 3 18 := ⟨by decide +kernel, rfl⟩
theorem dX11_copy_18 : Ins mX11_copy 18 (.goto (-16)) 3 21 := ⟨by decide +kernel, rfl⟩
theorem dX11_copy_21 : Ins mX11_copy 21 (.return_) 1 22 := ⟨by decide +kernel, rfl⟩
theorem dX11_isIn_0 : Ins mX11_isIn 0 (.iload_n 0) 1 1 := ⟨by decide +kernel, rfl⟩
theorem dX11_isIn_1 : Ins mX11_isIn 1 (.iload_n 1) 1 2 := ⟨by decide +kernel, rfl⟩
theorem dX11_isIn_2 : Ins mX11_isIn 2 (.if_icmp .lt 12) 3 5 := ⟨by decide +kernel, rfl⟩
theorem dX11_isIn_5 : Ins mX11_isIn 5 (.iload_n 0) 1 6 := ⟨by decide +kernel, rfl⟩
theorem dX11_isIn_6 : Ins mX11_isIn 6 (.iload_n 2) 1 7 := ⟨by decide +kernel, rfl⟩
theorem dX11_isIn_7 : Ins mX11_isIn 7 (.if_icmp .gt 7) 3 10 := ⟨by decide +kernel, rfl⟩
theorem dX11_isIn_10 : Ins mX11_isIn 10 (.iconst 1) 1 11 := ⟨by decide +kernel, rfl⟩
theorem dX11_isIn_11 : Ins mX11_isIn 11 (.goto 4) 3 14 := ⟨by decide +kernel, rfl⟩
theorem dX11_isIn_14 : Ins mX11_isIn 14 (.iconst 0) 1 15 := ⟨by decide +kernel, rfl⟩
theorem dX11_isIn_15 : Ins mX11_isIn 15 (.ireturn) 1 16 := ⟨by decide +kernel, rfl⟩
theorem dX11_cut_0 : Ins mX11_cut 0 (.lload_n 0) 1 1 := ⟨by decide +kernel, rfl⟩
theorem dX11_cut_1 : Ins mX11_cut 1 (.iload_n 2) 1 2 := ⟨by decide +kernel, rfl⟩
theorem dX11_cut_2 : Ins mX11_cut 2 (.i2l) 1 3 := ⟨by decide +kernel, rfl⟩
theorem dX11_cut_3 : Ins mX11_cut 3 (.lcmp) 1 4 := ⟨by decide +kernel, rfl⟩
theorem dX11_cut_4 : Ins mX11_cut 4 (.ifCond .ge 7) 3 7 := ⟨by decide +kernel, rfl⟩
theorem dX11_cut_7 : Ins mX11_cut 7 (.iload_n 2) 1 8 := ⟨by decide +kernel, rfl⟩
theorem dX11_cut_8 : Ins mX11_cut 8 (.goto 16) 3 11 := ⟨by decide +kernel, rfl⟩
theorem dX11_cut_11 : Ins mX11_cut 11 (.lload_n 0) 1 12 := ⟨by decide +kernel, rfl⟩
theorem dX11_cut_12 : Ins mX11_cut 12 (.iload_n 3) 1 13 := ⟨by decide +kernel, rfl⟩
theorem dX11_cut_13 : Ins mX11_cut 13 (.i2l) 1 14 := ⟨by decide +kernel, rfl⟩
theorem dX11_cut_14 : Ins mX11_cut 14 (.lcmp) 1 15 := ⟨by decide +kernel, rfl⟩
theorem dX11_cut_15 : Ins mX11_cut 15 (.ifCond .le 7) 3 18 := ⟨by decide +kernel, rfl⟩
theorem dX11_cut_18 : Ins mX11_cut 18 (.iload_n 3) 1 19 := ⟨by decide +kernel, rfl⟩
theorem dX11_cut_19 : Ins mX11_cut 19 (.goto 5) 3 22 := ⟨by decide +kernel, rfl⟩
theorem dX11_cut_22 : Ins mX11_cut 22 (.lload_n 0) 1 23 := ⟨by decide +kernel, rfl⟩
theorem dX11_cut_23 : Ins mX11_cut 23 (.l2i) 1 24 := ⟨by decide +kernel, rfl⟩
theorem dX11_cut_24 : Ins mX11_cut 24 (.ireturn) 1 25 := ⟨by decide +kernel, rfl⟩
theorem dX11_has_0 : Ins mX11_has 0 (.iload_n 0) 1 1 := ⟨by decide +kernel, rfl⟩
theorem dX11_has_1 : Ins mX11_has 1 (.iload_n 1) 1 2 := ⟨by decide +kernel, rfl⟩
theorem dX11_has_2 : Ins mX11_has 2 (.ishr) 1 3 := ⟨by decide +kernel, rfl⟩
theorem dX11_has_3 : Ins mX11_has 3 (.iconst 1) 1 4 := ⟨by decide +kernel, rfl⟩
theorem dX11_has_4 : Ins mX11_has 4 (.iand) 1 5 := ⟨by decide +kernel, rfl⟩
theorem dX11_has_5 : Ins mX11_has 5 (.iconst 1) 1 6 := ⟨by decide +kernel, rfl⟩
theorem dX11_has_6 : Ins mX11_has 6 (.if_icmp .ne 7) 3 9 := ⟨by decide +kernel, rfl⟩
theorem dX11_has_9 : Ins mX11_has 9 (.iconst 1) 1 10 := ⟨by decide +kernel, rfl⟩
theorem dX11_has_10 : Ins mX11_has 10 (.goto 4) 3 13 := ⟨by decide +kernel, rfl⟩
theorem dX11_has_13 : Ins mX11_has 13 (.iconst 0) 1 14 := ⟨by decide +kernel, rfl⟩
theorem dX11_has_14 : Ins mX11_has 14 (.ireturn) 1 15 := ⟨by decide +kernel, rfl⟩
theorem dX11_bits_0 : Ins mX11_bits 0 (.iconst 0) 1 1 := ⟨by decide +kernel, rfl⟩
theorem dX11_bits_1 : Ins mX11_bits 1 (.istore_n 1) 1 2 := ⟨by decide +kernel, rfl⟩
theorem dX11_bits_2 : Ins mX11_bits 2 (.iload_n 0) 1 3 := ⟨by decide +kernel, rfl⟩
theorem dX11_bits_3 : Ins mX11_bits 3 (.istore_n 2) 1 4 := ⟨by decide +kernel, rfl⟩
theorem dX11_bits_4 : Ins mX11_bits 4 (.iload_n 2) 1 5 := ⟨by decide +kernel, rfl⟩
theorem dX11_bits_5 : Ins mX11_bits 5 (.ifCond .eq 15) 3 8 := ⟨by decide +kernel, rfl⟩
theorem dX11_bits_8 : Ins mX11_bits 8 (.iinc 1 1) 3 11 := ⟨by decide +kernel, rfl⟩
theorem dX11_bits_11 : Ins mX11_bits 11 (.iload_n 2) 1 12 := ⟨by decide +kernel, rfl⟩
theorem dX11_bits_12 : Ins mX11_bits 12 (.iload_n 2) 1 13 := ⟨by decide +kernel, rfl⟩
theorem dX11_bits_13 : Ins mX11_bits 13 (.iconst 1) 1 14 := ⟨by decide +kernel, rfl⟩
theorem dX11_bits_14 : Ins mX11_bits 14 (.isub) 1 15 := ⟨by decide +kernel, rfl⟩
theorem dX11_bits_15 : Ins mX11_bits 15 (.iand) 1 16 := ⟨by decide +kernel, rfl⟩
theorem dX11_bits_16 : Ins mX11_bits 16 (.istore_n 2) 1 17 := ⟨by decide +kernel, rfl⟩
theorem dX11_bits_17 : Ins mX11_bits 17 (.goto (-13)) 3 20 := ⟨by decide +kernel, rfl⟩
theorem dX11_bits_20 : Ins mX11_bits 20 (.iload_n 1) 1 21 := ⟨by decide +kernel, rfl⟩
theorem dX11_bits_21 : Ins mX11_bits 21 (.ireturn) 1 22 := ⟨by decide +kernel, rfl⟩
theorem dX11_isHorse_0 : Ins mX11_isHorse 0 (.iload_n 1) 1 1 := ⟨by decide +kernel, rfl⟩
theorem dX11_isHorse_1 : Ins mX11_isHorse 1 (.iconst 0) 1 2 := ⟨by decide +kernel, rfl⟩
theorem dX11_isHorse_2 : Ins mX11_isHorse 2 (.aload_n 0) 1 3 := ⟨by decide +kernel, rfl⟩
theorem dX11_isHorse_3 : GgR mX11_isHorse 3 6 10 0 := ⟨0, rfl, ⟨7, _, by decide +kernel, rfl, rfl, by decide, tb_5 (List.mem_of_getElem? (i := 196) (by decide +kernel)) rfl⟩, by decide, rfl⟩
theorem dX11_isHorse_6 : Ins mX11_isHorse 6 (.iconst 0) 1 7 := ⟨by decide +kernel, rfl⟩
theorem dX11_isHorse_7 : Ins mX11_isHorse 7 (.iaload) 1 8 := ⟨by decide +kernel, rfl⟩
theorem dX11_isHorse_8 : Ins mX11_isHorse 8 (.iconst 1) 1 9 := ⟨by decide +kernel, rfl⟩
theorem dX11_isHorse_9 : Ins mX11_isHorse 9 (.isub) 1 10 := ⟨by decide +kernel, rfl⟩
theorem dX11_isHorse_10 : CalS mX11_isHorse 10 13 mX11_isIn := ⟨63, by decide +kernel, rfl, Or.inl (tb_6 (List.mem_of_getElem? (i := 50) (by decide +kernel)) rfl), meX11_isIn⟩
theorem dX11_isHorse_13 : Ins mX11_isHorse 13 (.ireturn) 1 14 := ⟨by decide +kernel, rfl⟩
