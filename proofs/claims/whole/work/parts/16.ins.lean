-- a fact for each instruction, by wip/whole/gen/ins.py
theorem dX11_compareOf_0 : Ins mX11_compareOf 0 (.aload_n 0) 1 1 := ⟨by decide +kernel, rfl⟩
theorem dX11_compareOf_1 : GgI mX11_compareOf 1 4 10 9 := ⟨9, rfl, ⟨108, _, by decide +kernel, rfl, rfl, by decide, tb_5 (List.mem_of_getElem? (i := 205) (by decide +kernel)) rfl⟩, by decide, rfl⟩
theorem dX11_compareOf_4 : Ins mX11_compareOf 4 (.bipush 60) 2 6 := ⟨by decide +kernel, rfl⟩
theorem dX11_compareOf_6 : Ins mX11_compareOf 6 (.if_icmp .ne 8) 3 9 := ⟨by decide +kernel, rfl⟩
theorem dX11_compareOf_9 : Ins mX11_compareOf 9 (.bipush 10) 2 11 := ⟨by decide +kernel, rfl⟩
theorem dX11_compareOf_11 : Ins mX11_compareOf 11 (.goto 97) 3 14 := ⟨by decide +kernel, rfl⟩
theorem dX11_compareOf_14 : Ins mX11_compareOf 14 (.aload_n 0) 1 15 := ⟨by decide +kernel, rfl⟩
theorem dX11_compareOf_15 : GgI mX11_compareOf 15 18 10 9 := ⟨9, rfl, ⟨108, _, by decide +kernel, rfl, rfl, by decide, tb_5 (List.mem_of_getElem? (i := 205) (by decide +kernel)) rfl⟩, by decide, rfl⟩
theorem dX11_compareOf_18 : Ins mX11_compareOf 18 (.iconst 4) 1 19 := ⟨by decide +kernel, rfl⟩
theorem dX11_compareOf_19 : Ins mX11_compareOf 19 (.if_icmp .ne 8) 3 22 := ⟨by decide +kernel, rfl⟩
theorem dX11_compareOf_22 : Ins mX11_compareOf 22 (.bipush 11) 2 24 := ⟨by decide +kernel, rfl⟩
theorem dX11_compareOf_24 : Ins mX11_compareOf 24 (.goto 84) 3 27 := ⟨by decide +kernel, rfl⟩
theorem dX11_compareOf_27 : Ins mX11_compareOf 27 (.aload_n 0) 1 28 := ⟨by decide +kernel, rfl⟩
theorem dX11_compareOf_28 : GgI mX11_compareOf 28 31 10 9 := ⟨9, rfl, ⟨108, _, by decide +kernel, rfl, rfl, by decide, tb_5 (List.mem_of_getElem? (i := 205) (by decide +kernel)) rfl⟩, by decide, rfl⟩
theorem dX11_compareOf_31 : Ins mX11_compareOf 31 (.bipush 62) 2 33 := ⟨by decide +kernel, rfl⟩
theorem dX11_compareOf_33 : Ins mX11_compareOf 33 (.if_icmp .ne 8) 3 36 := ⟨by decide +kernel, rfl⟩
theorem dX11_compareOf_36 : Ins mX11_compareOf 36 (.bipush 12) 2 38 := ⟨by decide +kernel, rfl⟩
theorem dX11_compareOf_38 : Ins mX11_compareOf 38 (.goto 70) 3 41 := ⟨by decide +kernel, rfl⟩
theorem dX11_compareOf_41 : Ins mX11_compareOf 41 (.aload_n 0) 1 42 := ⟨by decide +kernel, rfl⟩
theorem dX11_compareOf_42 : GgI mX11_compareOf 42 45 10 9 := ⟨9, rfl, ⟨108, _, by decide +kernel, rfl, rfl, by decide, tb_5 (List.mem_of_getElem? (i := 205) (by decide +kernel)) rfl⟩, by decide, rfl⟩
theorem dX11_compareOf_45 : Ins mX11_compareOf 45 (.iconst 5) 1 46 := ⟨by decide +kernel, rfl⟩
theorem dX11_compareOf_46 : Ins mX11_compareOf 46 (.if_icmp .ne 8) 3 49 := ⟨by decide +kernel, rfl⟩
theorem dX11_compareOf_49 : Ins mX11_compareOf 49 (.bipush 13) 2 51 := ⟨by decide +kernel, rfl⟩
theorem dX11_compareOf_51 : Ins mX11_compareOf 51 (.goto 57) 3 54 := ⟨by decide +kernel, rfl⟩
theorem dX11_compareOf_54 : Ins mX11_compareOf 54 (.aload_n 0) 1 55 := ⟨by decide +kernel, rfl⟩
theorem dX11_compareOf_55 : GgI mX11_compareOf 55 58 10 9 := ⟨9, rfl, ⟨108, _, by decide +kernel, rfl, rfl, by decide, tb_5 (List.mem_of_getElem? (i := 205) (by decide +kernel)) rfl⟩, by decide, rfl⟩
theorem dX11_compareOf_58 : Ins mX11_compareOf 58 (.bipush 61) 2 60 := ⟨by decide +kernel, rfl⟩
theorem dX11_compareOf_60 : Ins mX11_compareOf 60 (.if_icmp .ne 8) 3 63 := ⟨by decide +kernel, rfl⟩
theorem dX11_compareOf_63 : Ins mX11_compareOf 63 (.bipush 14) 2 65 := ⟨by decide +kernel, rfl⟩
theorem dX11_compareOf_65 : Ins mX11_compareOf 65 (.goto 43) 3 68 := ⟨by decide +kernel, rfl⟩
theorem dX11_compareOf_68 : Ins mX11_compareOf 68 (.aload_n 0) 1 69 := ⟨by decide +kernel, rfl⟩
theorem dX11_compareOf_69 : GgI mX11_compareOf 69 72 10 9 := ⟨9, rfl, ⟨108, _, by decide +kernel, rfl, rfl, by decide, tb_5 (List.mem_of_getElem? (i := 205) (by decide +kernel)) rfl⟩, by decide, rfl⟩
theorem dX11_compareOf_72 : Ins mX11_compareOf 72 (.bipush 35) 2 74 := ⟨by decide +kernel, rfl⟩
theorem dX11_compareOf_74 : Ins mX11_compareOf 74 (.if_icmp .ne 8) 3 77 := ⟨by decide +kernel, rfl⟩
theorem dX11_compareOf_77 : Ins mX11_compareOf 77 (.bipush 15) 2 79 := ⟨by decide +kernel, rfl⟩
theorem dX11_compareOf_79 : Ins mX11_compareOf 79 (.goto 29) 3 82 := ⟨by decide +kernel, rfl⟩
theorem dX11_compareOf_82 : Ins mX11_compareOf 82 (.aload_n 0) 1 83 := ⟨by decide +kernel, rfl⟩
theorem dX11_compareOf_83 : Ins mX11_compareOf 83 (.bipush 109) 2 85 := ⟨by decide +kernel, rfl⟩
theorem dX11_compareOf_85 : Ins mX11_compareOf 85 (.bipush 101) 2 87 := ⟨by decide +kernel, rfl⟩
theorem dX11_compareOf_87 : Ins mX11_compareOf 87 (.bipush 101) 2 89 := ⟨by decide +kernel, rfl⟩
theorem dX11_compareOf_89 : Ins mX11_compareOf 89 (.bipush 116) 2 91 := ⟨by decide +kernel, rfl⟩
theorem dX11_compareOf_91 : Ins mX11_compareOf 91 (.bipush 115) 2 93 := ⟨by decide +kernel, rfl⟩
theorem dX11_compareOf_93 : CalS mX11_compareOf 93 96 mX11_w5 := ⟨143, by decide +kernel, rfl, Or.inl (tb_6 (List.mem_of_getElem? (i := 116) (by decide +kernel)) rfl), meX11_w5⟩
theorem dX11_compareOf_96 : CalV mX11_compareOf 96 99 mX11_isWord := ⟨202, by decide +kernel, rfl, tb_6 (List.mem_of_getElem? (i := 128) (by decide +kernel)) rfl, meX11_isWord⟩
theorem dX11_compareOf_99 : Ins mX11_compareOf 99 (.ifCond .eq 8) 3 102 := ⟨by decide +kernel, rfl⟩
theorem dX11_compareOf_102 : Ins mX11_compareOf 102 (.bipush 16) 2 104 := ⟨by decide +kernel, rfl⟩
theorem dX11_compareOf_104 : Ins mX11_compareOf 104 (.goto 4) 3 107 := ⟨by decide +kernel, rfl⟩
theorem dX11_compareOf_107 : Ins mX11_compareOf 107 (.iconst (-1)) 1 108 := ⟨by decide +kernel, rfl⟩
theorem dX11_compareOf_108 : Ins mX11_compareOf 108 (.ireturn) 1 109 := ⟨by decide +kernel, rfl⟩
theorem dX11_betweenOf_0 : Ins mX11_betweenOf 0 (.aload_n 0) 1 1 := ⟨by decide +kernel, rfl⟩
theorem dX11_betweenOf_1 : GgI mX11_betweenOf 1 4 10 9 := ⟨9, rfl, ⟨108, _, by decide +kernel, rfl, rfl, by decide, tb_5 (List.mem_of_getElem? (i := 205) (by decide +kernel)) rfl⟩, by decide, rfl⟩
theorem dX11_betweenOf_4 : Ins mX11_betweenOf 4 (.bipush 43) 2 6 := ⟨by decide +kernel, rfl⟩
theorem dX11_betweenOf_6 : Ins mX11_betweenOf 6 (.if_icmp .ne 6) 3 9 := ⟨by decide +kernel, rfl⟩
theorem dX11_betweenOf_9 : Ins mX11_betweenOf 9 (.bipush 6) 2 11 := ⟨by decide +kernel, rfl⟩
theorem dX11_betweenOf_11 : Ins mX11_betweenOf 11 (.ireturn) 1 12 := ⟨by decide +kernel, rfl⟩
theorem dX11_betweenOf_12 : Ins mX11_betweenOf 12 (.aload_n 0) 1 13 := ⟨by decide +kernel, rfl⟩
theorem dX11_betweenOf_13 : GgI mX11_betweenOf 13 16 10 9 := ⟨9, rfl, ⟨108, _, by decide +kernel, rfl, rfl, by decide, tb_5 (List.mem_of_getElem? (i := 205) (by decide +kernel)) rfl⟩, by decide, rfl⟩
theorem dX11_betweenOf_16 : Ins mX11_betweenOf 16 (.bipush 45) 2 18 := ⟨by decide +kernel, rfl⟩
theorem dX11_betweenOf_18 : Ins mX11_betweenOf 18 (.if_icmp .ne 6) 3 21 := ⟨by decide +kernel, rfl⟩
theorem dX11_betweenOf_21 : Ins mX11_betweenOf 21 (.bipush 7) 2 23 := ⟨by decide +kernel, rfl⟩
theorem dX11_betweenOf_23 : Ins mX11_betweenOf 23 (.ireturn) 1 24 := ⟨by decide +kernel, rfl⟩
theorem dX11_betweenOf_24 : Ins mX11_betweenOf 24 (.aload_n 0) 1 25 := ⟨by decide +kernel, rfl⟩
theorem dX11_betweenOf_25 : GgI mX11_betweenOf 25 28 10 9 := ⟨9, rfl, ⟨108, _, by decide +kernel, rfl, rfl, by decide, tb_5 (List.mem_of_getElem? (i := 205) (by decide +kernel)) rfl⟩, by decide, rfl⟩
theorem dX11_betweenOf_28 : Ins mX11_betweenOf 28 (.bipush 42) 2 30 := ⟨by decide +kernel, rfl⟩
theorem dX11_betweenOf_30 : Ins mX11_betweenOf 30 (.if_icmp .ne 6) 3 33 := ⟨by decide +kernel, rfl⟩
theorem dX11_betweenOf_33 : Ins mX11_betweenOf 33 (.bipush 8) 2 35 := ⟨by decide +kernel, rfl⟩
theorem dX11_betweenOf_35 : Ins mX11_betweenOf 35 (.ireturn) 1 36 := ⟨by decide +kernel, rfl⟩
theorem dX11_betweenOf_36 : Ins mX11_betweenOf 36 (.aload_n 0) 1 37 := ⟨by decide +kernel, rfl⟩
theorem dX11_betweenOf_37 : GgI mX11_betweenOf 37 40 10 9 := ⟨9, rfl, ⟨108, _, by decide +kernel, rfl, rfl, by decide, tb_5 (List.mem_of_getElem? (i := 205) (by decide +kernel)) rfl⟩, by decide, rfl⟩
theorem dX11_betweenOf_40 : Ins mX11_betweenOf 40 (.bipush 47) 2 42 := ⟨by decide +kernel, rfl⟩
theorem dX11_betweenOf_42 : Ins mX11_betweenOf 42 (.if_icmp .ne 6) 3 45 := ⟨by decide +kernel, rfl⟩
theorem dX11_betweenOf_45 : Ins mX11_betweenOf 45 (.bipush 9) 2 47 := ⟨by decide +kernel, rfl⟩
theorem dX11_betweenOf_47 : Ins mX11_betweenOf 47 (.ireturn) 1 48 := ⟨by decide +kernel, rfl⟩
theorem dX11_betweenOf_48 : Ins mX11_betweenOf 48 (.aload_n 0) 1 49 := ⟨by decide +kernel, rfl⟩
theorem dX11_betweenOf_49 : CalV mX11_betweenOf 49 52 mX11_openNow := ⟨181, by decide +kernel, rfl, tb_6 (List.mem_of_getElem? (i := 166) (by decide +kernel)) rfl, meX11_openNow⟩
theorem dX11_betweenOf_52 : Ins mX11_betweenOf 52 (.bipush 41) 2 54 := ⟨by decide +kernel, rfl⟩
theorem dX11_betweenOf_54 : Ins mX11_betweenOf 54 (.if_icmp .eq 5) 3 57 := ⟨by decide +kernel, rfl⟩
theorem dX11_betweenOf_57 : Ins mX11_betweenOf 57 (.iconst (-1)) 1 58 := ⟨by decide +kernel, rfl⟩
theorem dX11_betweenOf_58 : Ins mX11_betweenOf 58 (.ireturn) 1 59 := ⟨by decide +kernel, rfl⟩
theorem dX11_betweenOf_59 : Ins mX11_betweenOf 59 (.aload_n 0) 1 60 := ⟨by decide +kernel, rfl⟩
theorem dX11_betweenOf_60 : CalV mX11_betweenOf 60 63 mX11_isCompared := ⟨209, by decide +kernel, rfl, tb_6 (List.mem_of_getElem? (i := 174) (by decide +kernel)) rfl, meX11_isCompared⟩
theorem dX11_betweenOf_63 : Ins mX11_betweenOf 63 (.ifCond .ne 8) 3 66 := ⟨by decide +kernel, rfl⟩
theorem dX11_betweenOf_66 : Ins mX11_betweenOf 66 (.aload_n 0) 1 67 := ⟨by decide +kernel, rfl⟩
theorem dX11_betweenOf_67 : CalV mX11_betweenOf 67 70 mX11_compareOf := ⟨212, by decide +kernel, rfl, tb_6 (List.mem_of_getElem? (i := 181) (by decide +kernel)) rfl, meX11_compareOf⟩
theorem dX11_betweenOf_70 : Ins mX11_betweenOf 70 (.ireturn) 1 71 := ⟨by decide +kernel, rfl⟩
theorem dX11_betweenOf_71 : Ins mX11_betweenOf 71 (.aload_n 0) 1 72 := ⟨by decide +kernel, rfl⟩
theorem dX11_betweenOf_72 : Ins mX11_betweenOf 72 (.bipush 97) 2 74 := ⟨by decide +kernel, rfl⟩
theorem dX11_betweenOf_74 : Ins mX11_betweenOf 74 (.bipush 110) 2 76 := ⟨by decide +kernel, rfl⟩
theorem dX11_betweenOf_76 : Ins mX11_betweenOf 76 (.bipush 100) 2 78 := ⟨by decide +kernel, rfl⟩
theorem dX11_betweenOf_78 : CalS mX11_betweenOf 78 81 mX11_w3 := ⟨135, by decide +kernel, rfl, Or.inl (tb_6 (List.mem_of_getElem? (i := 122) (by decide +kernel)) rfl), meX11_w3⟩
theorem dX11_betweenOf_81 : CalV mX11_betweenOf 81 84 mX11_isWord := ⟨202, by decide +kernel, rfl, tb_6 (List.mem_of_getElem? (i := 128) (by decide +kernel)) rfl, meX11_isWord⟩
theorem dX11_betweenOf_84 : Ins mX11_betweenOf 84 (.ifCond .eq 8) 3 87 := ⟨by decide +kernel, rfl⟩
theorem dX11_betweenOf_87 : Ins mX11_betweenOf 87 (.bipush 21) 2 89 := ⟨by decide +kernel, rfl⟩
theorem dX11_betweenOf_89 : Ins mX11_betweenOf 89 (.goto 23) 3 92 := ⟨by decide +kernel, rfl⟩
theorem dX11_betweenOf_92 : Ins mX11_betweenOf 92 (.aload_n 0) 1 93 := ⟨by decide +kernel, rfl⟩
theorem dX11_betweenOf_93 : Ins mX11_betweenOf 93 (.bipush 111) 2 95 := ⟨by decide +kernel, rfl⟩
theorem dX11_betweenOf_95 : Ins mX11_betweenOf 95 (.bipush 114) 2 97 := ⟨by decide +kernel, rfl⟩
theorem dX11_betweenOf_97 : CalS mX11_betweenOf 97 100 mX11_w2 := ⟨131, by decide +kernel, rfl, Or.inl (tb_6 (List.mem_of_getElem? (i := 125) (by decide +kernel)) rfl), meX11_w2⟩
theorem dX11_betweenOf_100 : CalV mX11_betweenOf 100 103 mX11_isWord := ⟨202, by decide +kernel, rfl, tb_6 (List.mem_of_getElem? (i := 128) (by decide +kernel)) rfl, meX11_isWord⟩
theorem dX11_betweenOf_103 : Ins mX11_betweenOf 103 (.ifCond .eq 8) 3 106 := ⟨by decide +kernel, rfl⟩
theorem dX11_betweenOf_106 : Ins mX11_betweenOf 106 (.bipush 22) 2 108 := ⟨by decide +kernel, rfl⟩
theorem dX11_betweenOf_108 : Ins mX11_betweenOf 108 (.goto 4) 3 111 := ⟨by decide +kernel, rfl⟩
theorem dX11_betweenOf_111 : Ins mX11_betweenOf 111 (.iconst (-1)) 1 112 := ⟨by decide +kernel, rfl⟩
theorem dX11_betweenOf_112 : Ins mX11_betweenOf 112 (.ireturn) 1 113 := ⟨by decide +kernel, rfl⟩
theorem dX11_partOf_0 : Ins mX11_partOf 0 (.iload_n 1) 1 1 := ⟨by decide +kernel, rfl⟩
theorem dX11_partOf_1 : Ins mX11_partOf 1 (.tableswitch 125 40 43 #[31, 46, 78, 103]) 31 32 := ⟨by decide +kernel, rfl⟩
theorem dX11_partOf_32 : Ins mX11_partOf 32 (.aload_n 0) 1 33 := ⟨by decide +kernel, rfl⟩
theorem dX11_partOf_33 : GgI mX11_partOf 33 36 10 9 := ⟨9, rfl, ⟨108, _, by decide +kernel, rfl, rfl, by decide, tb_5 (List.mem_of_getElem? (i := 205) (by decide +kernel)) rfl⟩, by decide, rfl⟩
theorem dX11_partOf_36 : Ins mX11_partOf 36 (.bipush 41) 2 38 := ⟨by decide +kernel, rfl⟩
theorem dX11_partOf_38 : Ins mX11_partOf 38 (.if_icmp .ne 7) 3 41 := ⟨by decide +kernel, rfl⟩
theorem dX11_partOf_41 : Ins mX11_partOf 41 (.iconst 0) 1 42 := ⟨by decide +kernel, rfl⟩
theorem dX11_partOf_42 : Ins mX11_partOf 42 (.goto 4) 3 45 := ⟨by decide +kernel, rfl⟩
theorem dX11_partOf_45 : Ins mX11_partOf 45 (.iconst (-1)) 1 46 := ⟨by decide +kernel, rfl⟩
theorem dX11_partOf_46 : Ins mX11_partOf 46 (.ireturn) 1 47 := ⟨by decide +kernel, rfl⟩
theorem dX11_partOf_47 : Ins mX11_partOf 47 (.aload_n 0) 1 48 := ⟨by decide +kernel, rfl⟩
theorem dX11_partOf_48 : Ins mX11_partOf 48 (.bipush 116) 2 50 := ⟨by decide +kernel, rfl⟩
theorem dX11_partOf_50 : Ins mX11_partOf 50 (.bipush 104) 2 52 := ⟨by decide +kernel, rfl⟩
theorem dX11_partOf_52 : Ins mX11_partOf 52 (.bipush 101) 2 54 := ⟨by decide +kernel, rfl⟩
theorem dX11_partOf_54 : Ins mX11_partOf 54 (.bipush 110) 2 56 := ⟨by decide +kernel, rfl⟩
theorem dX11_partOf_56 : CalS mX11_partOf 56 59 mX11_w4 := ⟨139, by decide +kernel, rfl, Or.inl (tb_6 (List.mem_of_getElem? (i := 119) (by decide +kernel)) rfl), meX11_w4⟩
theorem dX11_partOf_59 : CalV mX11_partOf 59 62 mX11_isWord := ⟨202, by decide +kernel, rfl, tb_6 (List.mem_of_getElem? (i := 128) (by decide +kernel)) rfl, meX11_isWord⟩
theorem dX11_partOf_62 : Ins mX11_partOf 62 (.ifCond .eq 15) 3 65 := ⟨by decide +kernel, rfl⟩
theorem dX11_partOf_65 : Ins mX11_partOf 65 (.aload_n 0) 1 66 := ⟨by decide +kernel, rfl⟩
theorem dX11_partOf_66 : CalV mX11_partOf 66 69 mX11_isCompared := ⟨209, by decide +kernel, rfl, tb_6 (List.mem_of_getElem? (i := 174) (by decide +kernel)) rfl, meX11_isCompared⟩
theorem dX11_partOf_69 : Ins mX11_partOf 69 (.ifCond .eq 8) 3 72 := ⟨by decide +kernel, rfl⟩
theorem dX11_partOf_72 : Ins mX11_partOf 72 (.bipush 42) 2 74 := ⟨by decide +kernel, rfl⟩
theorem dX11_partOf_74 : Ins mX11_partOf 74 (.goto 4) 3 77 := ⟨by decide +kernel, rfl⟩
theorem dX11_partOf_77 : Ins mX11_partOf 77 (.iconst (-1)) 1 78 := ⟨by decide +kernel, rfl⟩
theorem dX11_partOf_78 : Ins mX11_partOf 78 (.ireturn) 1 79 := ⟨by decide +kernel, rfl⟩
theorem dX11_partOf_79 : Ins mX11_partOf 79 (.aload_n 0) 1 80 := ⟨by decide +kernel, rfl⟩
theorem dX11_partOf_80 : Ins mX11_partOf 80 (.bipush 101) 2 82 := ⟨by decide +kernel, rfl⟩
theorem dX11_partOf_82 : Ins mX11_partOf 82 (.bipush 108) 2 84 := ⟨by decide +kernel, rfl⟩
theorem dX11_partOf_84 : Ins mX11_partOf 84 (.bipush 115) 2 86 := ⟨by decide +kernel, rfl⟩
theorem dX11_partOf_86 : Ins mX11_partOf 86 (.bipush 101) 2 88 := ⟨by decide +kernel, rfl⟩
theorem dX11_partOf_88 : CalS mX11_partOf 88 91 mX11_w4 := ⟨139, by decide +kernel, rfl, Or.inl (tb_6 (List.mem_of_getElem? (i := 119) (by decide +kernel)) rfl), meX11_w4⟩
theorem dX11_partOf_91 : CalV mX11_partOf 91 94 mX11_isWord := ⟨202, by decide +kernel, rfl, tb_6 (List.mem_of_getElem? (i := 128) (by decide +kernel)) rfl, meX11_isWord⟩
theorem dX11_partOf_94 : Ins mX11_partOf 94 (.ifCond .eq 8) 3 97 := ⟨by decide +kernel, rfl⟩
theorem dX11_partOf_97 : Ins mX11_partOf 97 (.bipush 43) 2 99 := ⟨by decide +kernel, rfl⟩
theorem dX11_partOf_99 : Ins mX11_partOf 99 (.goto 4) 3 102 := ⟨by decide +kernel, rfl⟩
theorem dX11_partOf_102 : Ins mX11_partOf 102 (.iconst (-1)) 1 103 := ⟨by decide +kernel, rfl⟩
theorem dX11_partOf_103 : Ins mX11_partOf 103 (.ireturn) 1 104 := ⟨by decide +kernel, rfl⟩
theorem dX11_partOf_104 : Ins mX11_partOf 104 (.aload_n 0) 1 105 := ⟨by decide +kernel, rfl⟩
theorem dX11_partOf_105 : Ins mX11_partOf 105 (.bipush 101) 2 107 := ⟨by decide +kernel, rfl⟩
theorem dX11_partOf_107 : Ins mX11_partOf 107 (.bipush 110) 2 109 := ⟨by decide +kernel, rfl⟩
theorem dX11_partOf_109 : Ins mX11_partOf 109 (.bipush 100) 2 111 := ⟨by decide +kernel, rfl⟩
theorem dX11_partOf_111 : CalS mX11_partOf 111 114 mX11_w3 := ⟨135, by decide +kernel, rfl, Or.inl (tb_6 (List.mem_of_getElem? (i := 122) (by decide +kernel)) rfl), meX11_w3⟩
theorem dX11_partOf_114 : CalV mX11_partOf 114 117 mX11_isWord := ⟨202, by decide +kernel, rfl, tb_6 (List.mem_of_getElem? (i := 128) (by decide +kernel)) rfl, meX11_isWord⟩
theorem dX11_partOf_117 : Ins mX11_partOf 117 (.ifCond .eq 7) 3 120 := ⟨by decide +kernel, rfl⟩
theorem dX11_partOf_120 : Ins mX11_partOf 120 (.iconst 0) 1 121 := ⟨by decide +kernel, rfl⟩
theorem dX11_partOf_121 : Ins mX11_partOf 121 (.goto 4) 3 124 := ⟨by decide +kernel, rfl⟩
theorem dX11_partOf_124 : Ins mX11_partOf 124 (.iconst (-1)) 1 125 := ⟨by decide +kernel, rfl⟩
theorem dX11_partOf_125 : Ins mX11_partOf 125 (.ireturn) 1 126 := ⟨by decide +kernel, rfl⟩
theorem dX11_partOf_126 : Ins mX11_partOf 126 (.iconst (-1)) 1 127 := ⟨by decide +kernel, rfl⟩
theorem dX11_partOf_127 : Ins mX11_partOf 127 (.ireturn) 1 128 := ⟨by decide +kernel, rfl⟩
theorem dX11_behindOne_0 : Ins mX11_behindOne 0 (.aload_n 0) 1 1 := ⟨by decide +kernel, rfl⟩
theorem dX11_behindOne_1 : CalV mX11_behindOne 1 4 mX11_betweenOf := ⟨215, by decide +kernel, rfl, tb_6 (List.mem_of_getElem? (i := 162) (by decide +kernel)) rfl, meX11_betweenOf⟩
theorem dX11_behindOne_4 : Ins mX11_behindOne 4 (.istore_n 1) 1 5 := ⟨by decide +kernel, rfl⟩
theorem dX11_behindOne_5 : Ins mX11_behindOne 5 (.iload_n 1) 1 6 := ⟨by decide +kernel, rfl⟩
theorem dX11_behindOne_6 : Ins mX11_behindOne 6 (.ifCond .lt 54) 3 9 := ⟨by decide +kernel, rfl⟩
theorem dX11_behindOne_9 : Ins mX11_behindOne 9 (.aload_n 0) 1 10 := ⟨by decide +kernel, rfl⟩
theorem dX11_behindOne_10 : Ins mX11_behindOne 10 (.iload_n 1) 1 11 := ⟨by decide +kernel, rfl⟩
theorem dX11_behindOne_11 : CalS mX11_behindOne 11 14 mX11_rank := ⟨167, by decide +kernel, rfl, Or.inl (tb_6 (List.mem_of_getElem? (i := 178) (by decide +kernel)) rfl), meX11_rank⟩
theorem dX11_behindOne_14 : Ins mX11_behindOne 14 (.iconst 4) 1 15 := ⟨by decide +kernel, rfl⟩
theorem dX11_behindOne_15 : Ins mX11_behindOne 15 (.if_icmp .ne 7) 3 18 := ⟨by decide +kernel, rfl⟩
theorem dX11_behindOne_18 : Ins mX11_behindOne 18 (.iconst 5) 1 19 := ⟨by decide +kernel, rfl⟩
theorem dX11_behindOne_19 : Ins mX11_behindOne 19 (.goto 7) 3 22 := ⟨by decide +kernel, rfl⟩
theorem dX11_behindOne_22 : Ins mX11_behindOne 22 (.iload_n 1) 1 23 := ⟨by decide +kernel, rfl⟩
theorem dX11_behindOne_23 : CalS mX11_behindOne 23 26 mX11_rank := ⟨167, by decide +kernel, rfl, Or.inl (tb_6 (List.mem_of_getElem? (i := 178) (by decide +kernel)) rfl), meX11_rank⟩
theorem dX11_behindOne_26 : CalV mX11_behindOne 26 29 mX11_settle := ⟨196, by decide +kernel, rfl, tb_6 (List.mem_of_getElem? (i := 185) (by decide +kernel)) rfl, meX11_settle⟩
theorem dX11_behindOne_29 : Ins mX11_behindOne 29 (.aload_n 0) 1 30 := ⟨by decide +kernel, rfl⟩
theorem dX11_behindOne_30 : GgR mX11_behindOne 30 33 10 15 := ⟨15, rfl, ⟨29, _, by decide +kernel, rfl, rfl, by decide, tb_5 (List.mem_of_getElem? (i := 211) (by decide +kernel)) rfl⟩, by decide, rfl⟩
theorem dX11_behindOne_33 : Ins mX11_behindOne 33 (.aload_n 0) 1 34 := ⟨by decide +kernel, rfl⟩
theorem dX11_behindOne_34 : GgI mX11_behindOne 34 37 10 16 := ⟨16, rfl, ⟨164, _, by decide +kernel, rfl, rfl, by decide, tb_5 (List.mem_of_getElem? (i := 212) (by decide +kernel)) rfl⟩, by decide, rfl⟩
theorem dX11_behindOne_37 : Ins mX11_behindOne 37 (.iload_n 1) 1 38 := ⟨by decide +kernel, rfl⟩
theorem dX11_behindOne_38 : Ins mX11_behindOne 38 (.iastore) 1 39 := ⟨by decide +kernel, rfl⟩
theorem dX11_behindOne_39 : Ins mX11_behindOne 39 (.aload_n 0) 1 40 := ⟨by decide +kernel, rfl⟩
theorem dX11_behindOne_40 : Ins mX11_behindOne 40 (.dup) 1 41 := ⟨by decide +kernel, rfl⟩
theorem dX11_behindOne_41 : GgI mX11_behindOne 41 44 10 16 := ⟨16, rfl, ⟨164, _, by decide +kernel, rfl, rfl, by decide, tb_5 (List.mem_of_getElem? (i := 212) (by decide +kernel)) rfl⟩, by decide, rfl⟩
theorem dX11_behindOne_44 : Ins mX11_behindOne 44 (.iconst 1) 1 45 := ⟨by decide +kernel, rfl⟩
theorem dX11_behindOne_45 : Ins mX11_behindOne 45 (.iadd) 1 46 := ⟨by decide +kernel, rfl⟩
theorem dX11_behindOne_46 : GpI mX11_behindOne 46 49 10 16 := ⟨16, rfl, ⟨164, _, by decide +kernel, rfl, rfl, by decide, tb_5 (List.mem_of_getElem? (i := 212) (by decide +kernel)) rfl, by decide +kernel, Or.inl rfl⟩, by decide, rfl⟩
theorem dX11_behindOne_49 : Ins mX11_behindOne 49 (.aload_n 0) 1 50 := ⟨by decide +kernel, rfl⟩
theorem dX11_behindOne_50 : Ins mX11_behindOne 50 (.iconst 0) 1 51 := ⟨by decide +kernel, rfl⟩
theorem dX11_behindOne_51 : GpZ mX11_behindOne 51 54 10 18 := ⟨18, rfl, ⟨193, _, by decide +kernel, rfl, rfl, by decide, tb_5 (List.mem_of_getElem? (i := 214) (by decide +kernel)) rfl, by decide +kernel, Or.inl rfl⟩, by decide, rfl⟩
theorem dX11_behindOne_54 : Ins mX11_behindOne 54 (.aload_n 0) 1 55 := ⟨by decide +kernel, rfl⟩
theorem dX11_behindOne_55 : CalV mX11_behindOne 55 58 mX11_nextToken := ⟨184, by decide +kernel, rfl, tb_6 (List.mem_of_getElem? (i := 89) (by decide +kernel)) rfl, meX11_nextToken⟩
theorem dX11_behindOne_58 : Ins mX11_behindOne 58 (.iconst 1) 1 59 := ⟨by decide +kernel, rfl⟩
theorem dX11_behindOne_59 : Ins mX11_behindOne 59 (.ireturn) 1 60 := ⟨by decide +kernel, rfl⟩
theorem dX11_behindOne_60 : Ins mX11_behindOne 60 (.aload_n 0) 1 61 := ⟨by decide +kernel, rfl⟩
theorem dX11_behindOne_61 : CalV mX11_behindOne 61 64 mX11_openNow := ⟨181, by decide +kernel, rfl, tb_6 (List.mem_of_getElem? (i := 166) (by decide +kernel)) rfl, meX11_openNow⟩
theorem dX11_behindOne_64 : Ins mX11_behindOne 64 (.istore_n 2) 1 65 := ⟨by decide +kernel, rfl⟩
theorem dX11_behindOne_65 : Ins mX11_behindOne 65 (.aload_n 0) 1 66 := ⟨by decide +kernel, rfl⟩
theorem dX11_behindOne_66 : Ins mX11_behindOne 66 (.iload_n 2) 1 67 := ⟨by decide +kernel, rfl⟩
theorem dX11_behindOne_67 : CalV mX11_behindOne 67 70 mX11_partOf := ⟨218, by decide +kernel, rfl, tb_6 (List.mem_of_getElem? (i := 193) (by decide +kernel)) rfl, meX11_partOf⟩
theorem dX11_behindOne_70 : Ins mX11_behindOne 70 (.istore_n 3) 1 71 := ⟨by decide +kernel, rfl⟩
theorem dX11_behindOne_71 : Ins mX11_behindOne 71 (.iload_n 3) 1 72 := ⟨by decide +kernel, rfl⟩
theorem dX11_behindOne_72 : Ins mX11_behindOne 72 (.ifCond .ge 5) 3 75 := ⟨by decide +kernel, rfl⟩
theorem dX11_behindOne_75 : Ins mX11_behindOne 75 (.iconst 0) 1 76 := ⟨by decide +kernel, rfl⟩
theorem dX11_behindOne_76 : Ins mX11_behindOne 76 (.ireturn) 1 77 := ⟨by decide +kernel, rfl⟩
theorem dX11_behindOne_77 : Ins mX11_behindOne 77 (.aload_n 0) 1 78 := ⟨by decide +kernel, rfl⟩
theorem dX11_behindOne_78 : Ins mX11_behindOne 78 (.iconst 1) 1 79 := ⟨by decide +kernel, rfl⟩
theorem dX11_behindOne_79 : CalV mX11_behindOne 79 82 mX11_settle := ⟨196, by decide +kernel, rfl, tb_6 (List.mem_of_getElem? (i := 185) (by decide +kernel)) rfl, meX11_settle⟩
theorem dX11_behindOne_82 : Ins mX11_behindOne 82 (.aload_n 0) 1 83 := ⟨by decide +kernel, rfl⟩
theorem dX11_behindOne_83 : CalV mX11_behindOne 83 86 mX11_nextToken := ⟨184, by decide +kernel, rfl, tb_6 (List.mem_of_getElem? (i := 89) (by decide +kernel)) rfl, meX11_nextToken⟩
theorem dX11_behindOne_86 : Ins mX11_behindOne 86 (.iload_n 3) 1 87 := ⟨by decide +kernel, rfl⟩
theorem dX11_behindOne_87 : Ins mX11_behindOne 87 (.ifCond .le 20) 3 90 := ⟨by decide +kernel, rfl⟩
theorem dX11_behindOne_90 : Ins mX11_behindOne 90 (.aload_n 0) 1 91 := ⟨by decide +kernel, rfl⟩
theorem dX11_behindOne_91 : GgR mX11_behindOne 91 94 10 15 := ⟨15, rfl, ⟨29, _, by decide +kernel, rfl, rfl, by decide, tb_5 (List.mem_of_getElem? (i := 211) (by decide +kernel)) rfl⟩, by decide, rfl⟩
theorem dX11_behindOne_94 : Ins mX11_behindOne 94 (.aload_n 0) 1 95 := ⟨by decide +kernel, rfl⟩
theorem dX11_behindOne_95 : CalV mX11_behindOne 95 98 mX11_openAt := ⟨177, by decide +kernel, rfl, tb_6 (List.mem_of_getElem? (i := 170) (by decide +kernel)) rfl, meX11_openAt⟩
theorem dX11_behindOne_98 : Ins mX11_behindOne 98 (.iload_n 3) 1 99 := ⟨by decide +kernel, rfl⟩
theorem dX11_behindOne_99 : Ins mX11_behindOne 99 (.iastore) 1 100 := ⟨by decide +kernel, rfl⟩
theorem dX11_behindOne_100 : Ins mX11_behindOne 100 (.aload_n 0) 1 101 := ⟨by decide +kernel, rfl⟩
theorem dX11_behindOne_101 : Ins mX11_behindOne 101 (.iconst 0) 1 102 := ⟨by decide +kernel, rfl⟩
theorem dX11_behindOne_102 : GpZ mX11_behindOne 102 105 10 18 := ⟨18, rfl, ⟨193, _, by decide +kernel, rfl, rfl, by decide, tb_5 (List.mem_of_getElem? (i := 214) (by decide +kernel)) rfl, by decide +kernel, Or.inl rfl⟩, by decide, rfl⟩
theorem dX11_behindOne_105 : Ins mX11_behindOne 105 (.iconst 1) 1 106 := ⟨by decide +kernel, rfl⟩
theorem dX11_behindOne_106 : Ins mX11_behindOne 106 (.ireturn) 1 107 := ⟨by decide +kernel, rfl⟩
theorem dX11_behindOne_107 : Ins mX11_behindOne 107 (.aload_n 0) 1 108 := ⟨by decide +kernel, rfl⟩
theorem dX11_behindOne_108 : Ins mX11_behindOne 108 (.dup) 1 109 := ⟨by decide +kernel, rfl⟩
theorem dX11_behindOne_109 : GgI mX11_behindOne 109 112 10 17 := ⟨17, rfl, ⟨174, _, by decide +kernel, rfl, rfl, by decide, tb_5 (List.mem_of_getElem? (i := 213) (by decide +kernel)) rfl⟩, by decide, rfl⟩
theorem dX11_behindOne_112 : Ins mX11_behindOne 112 (.iconst 1) 1 113 := ⟨by decide +kernel, rfl⟩
theorem dX11_behindOne_113 : Ins mX11_behindOne 113 (.isub) 1 114 := ⟨by decide +kernel, rfl⟩
theorem dX11_behindOne_114 : GpI mX11_behindOne 114 117 10 17 := ⟨17, rfl, ⟨174, _, by decide +kernel, rfl, rfl, by decide, tb_5 (List.mem_of_getElem? (i := 213) (by decide +kernel)) rfl, by decide +kernel, Or.inl rfl⟩, by decide, rfl⟩
theorem dX11_behindOne_117 : Ins mX11_behindOne 117 (.aload_n 0) 1 118 := ⟨by decide +kernel, rfl⟩
theorem dX11_behindOne_118 : Ins mX11_behindOne 118 (.dup) 1 119 := ⟨by decide +kernel, rfl⟩
theorem dX11_behindOne_119 : GgI mX11_behindOne 119 122 10 16 := ⟨16, rfl, ⟨164, _, by decide +kernel, rfl, rfl, by decide, tb_5 (List.mem_of_getElem? (i := 212) (by decide +kernel)) rfl⟩, by decide, rfl⟩
theorem dX11_behindOne_122 : Ins mX11_behindOne 122 (.iconst 1) 1 123 := ⟨by decide +kernel, rfl⟩
theorem dX11_behindOne_123 : Ins mX11_behindOne 123 (.isub) 1 124 := ⟨by decide +kernel, rfl⟩
theorem dX11_behindOne_124 : GpI mX11_behindOne 124 127 10 16 := ⟨16, rfl, ⟨164, _, by decide +kernel, rfl, rfl, by decide, tb_5 (List.mem_of_getElem? (i := 212) (by decide +kernel)) rfl, by decide +kernel, Or.inl rfl⟩, by decide, rfl⟩
theorem dX11_behindOne_127 : Ins mX11_behindOne 127 (.iload_n 2) 1 128 := ⟨by decide +kernel, rfl⟩
theorem dX11_behindOne_128 : Ins mX11_behindOne 128 (.bipush 43) 2 130 := ⟨by decide +kernel, rfl⟩
theorem dX11_behindOne_130 : Ins mX11_behindOne 130 (.if_icmp .ne 9) 3 133 := ⟨by decide +kernel, rfl⟩
theorem dX11_behindOne_133 : Ins mX11_behindOne 133 (.aload_n 0) 1 134 := ⟨by decide +kernel, rfl⟩
theorem dX11_behindOne_134 : Ins mX11_behindOne 134 (.iconst 4) 1 135 := ⟨by decide +kernel, rfl⟩
theorem dX11_behindOne_135 : Ins mX11_behindOne 135 (.iconst 0) 1 136 := ⟨by decide +kernel, rfl⟩
theorem dX11_behindOne_136 : CalV mX11_behindOne 136 139 mX11_emit := ⟨170, by decide +kernel, rfl, tb_6 (List.mem_of_getElem? (i := 189) (by decide +kernel)) rfl, meX11_emit⟩
theorem dX11_behindOne_139 : Ins mX11_behindOne 139 (.aload_n 0) 1 140 := ⟨by decide +kernel, rfl⟩
theorem dX11_behindOne_140 : Ins mX11_behindOne 140 (.bipush 7) 2 142 := ⟨by decide +kernel, rfl⟩
theorem dX11_behindOne_142 : CalV mX11_behindOne 142 145 mX11_settle := ⟨196, by decide +kernel, rfl, tb_6 (List.mem_of_getElem? (i := 185) (by decide +kernel)) rfl, meX11_settle⟩
theorem dX11_behindOne_145 : Ins mX11_behindOne 145 (.iconst 1) 1 146 := ⟨by decide +kernel, rfl⟩
theorem dX11_behindOne_146 : Ins mX11_behindOne 146 (.ireturn) 1 147 := ⟨by decide +kernel, rfl⟩
theorem dX11_summed_0 : Ins mX11_summed 0 (.aload_n 0) 1 1 := ⟨by decide +kernel, rfl⟩
theorem dX11_summed_1 : Ins mX11_summed 1 (.iconst 0) 1 2 := ⟨by decide +kernel, rfl⟩
theorem dX11_summed_2 : GpI mX11_summed 2 5 10 16 := ⟨16, rfl, ⟨164, _, by decide +kernel, rfl, rfl, by decide, tb_5 (List.mem_of_getElem? (i := 212) (by decide +kernel)) rfl, by decide +kernel, Or.inl rfl⟩, by decide, rfl⟩
theorem dX11_summed_5 : Ins mX11_summed 5 (.aload_n 0) 1 6 := ⟨by decide +kernel, rfl⟩
theorem dX11_summed_6 : Ins mX11_summed 6 (.iconst 0) 1 7 := ⟨by decide +kernel, rfl⟩
theorem dX11_summed_7 : GpI mX11_summed 7 10 10 17 := ⟨17, rfl, ⟨174, _, by decide +kernel, rfl, rfl, by decide, tb_5 (List.mem_of_getElem? (i := 213) (by decide +kernel)) rfl, by decide +kernel, Or.inl rfl⟩, by decide, rfl⟩
theorem dX11_summed_10 : Ins mX11_summed 10 (.aload_n 0) 1 11 := ⟨by decide +kernel, rfl⟩
theorem dX11_summed_11 : Ins mX11_summed 11 (.iconst 0) 1 12 := ⟨by decide +kernel, rfl⟩
theorem dX11_summed_12 : GpZ mX11_summed 12 15 10 18 := ⟨18, rfl, ⟨193, _, by decide +kernel, rfl, rfl, by decide, tb_5 (List.mem_of_getElem? (i := 214) (by decide +kernel)) rfl, by decide +kernel, Or.inl rfl⟩, by decide, rfl⟩
theorem dX11_summed_15 : Ins mX11_summed 15 (.aload_n 0) 1 16 := ⟨by decide +kernel, rfl⟩
theorem dX11_summed_16 : GgI mX11_summed 16 19 10 18 := ⟨18, rfl, ⟨193, _, by decide +kernel, rfl, rfl, by decide, tb_5 (List.mem_of_getElem? (i := 214) (by decide +kernel)) rfl⟩, by decide, rfl⟩
theorem dX11_summed_19 : Ins mX11_summed 19 (.ifCond .eq 29) 3 22 := ⟨by decide +kernel, rfl⟩
theorem dX11_summed_22 : Ins mX11_summed 22 (.aload_n 0) 1 23 := ⟨by decide +kernel, rfl⟩
theorem dX11_summed_23 : CalV mX11_summed 23 26 mX11_behindOne := ⟨221, by decide +kernel, rfl, tb_6 (List.mem_of_getElem? (i := 158) (by decide +kernel)) rfl, meX11_behindOne⟩
theorem dX11_summed_26 : Ins mX11_summed 26 (.ifCond .eq 6) 3 29 := ⟨by decide +kernel, rfl⟩
theorem dX11_summed_29 : Ins mX11_summed 29 (.goto (-14)) 3 32 := ⟨by decide +kernel, rfl⟩
theorem dX11_summed_32 : Ins mX11_summed 32 (.aload_n 0) 1 33 := ⟨by decide +kernel, rfl⟩
theorem dX11_summed_33 : CalV mX11_summed 33 36 mX11_openNow := ⟨181, by decide +kernel, rfl, tb_6 (List.mem_of_getElem? (i := 166) (by decide +kernel)) rfl, meX11_openNow⟩
theorem dX11_summed_36 : Ins mX11_summed 36 (.ifCond .lt 5) 3 39 := ⟨by decide +kernel, rfl⟩
theorem dX11_summed_39 : Ins mX11_summed 39 (.iconst 1) 1 40 := ⟨by decide +kernel, rfl⟩
theorem dX11_summed_40 : Ins mX11_summed 40 (.ireturn) 1 41 := ⟨by decide +kernel, rfl⟩
theorem dX11_summed_41 : Ins mX11_summed 41 (.aload_n 0) 1 42 := ⟨by decide +kernel, rfl⟩
theorem dX11_summed_42 : Ins mX11_summed 42 (.iconst 1) 1 43 := ⟨by decide +kernel, rfl⟩
theorem dX11_summed_43 : CalV mX11_summed 43 46 mX11_settle := ⟨196, by decide +kernel, rfl, tb_6 (List.mem_of_getElem? (i := 185) (by decide +kernel)) rfl, meX11_settle⟩
theorem dX11_summed_46 : Ins mX11_summed 46 (.iconst 0) 1 47 := ⟨by decide +kernel, rfl⟩
theorem dX11_summed_47 : Ins mX11_summed 47 (.ireturn) 1 48 := ⟨by decide +kernel, rfl⟩
theorem dX11_summed_48 : Ins mX11_summed 48 (.aload_n 0) 1 49 := ⟨by decide +kernel, rfl⟩
theorem dX11_summed_49 : CalV mX11_summed 49 52 mX11_beginOne := ⟨224, by decide +kernel, rfl, tb_6 (List.mem_of_getElem? (i := 197) (by decide +kernel)) rfl, meX11_beginOne⟩
theorem dX11_summed_52 : Ins mX11_summed 52 (.istore_n 1) 1 53 := ⟨by decide +kernel, rfl⟩
theorem dX11_summed_53 : Ins mX11_summed 53 (.iload_n 1) 1 54 := ⟨by decide +kernel, rfl⟩
theorem dX11_summed_54 : Ins mX11_summed 54 (.ifCond .eq 5) 3 57 := ⟨by decide +kernel, rfl⟩
theorem dX11_summed_57 : Ins mX11_summed 57 (.iload_n 1) 1 58 := ⟨by decide +kernel, rfl⟩
theorem dX11_summed_58 : Ins mX11_summed 58 (.ireturn) 1 59 := ⟨by decide +kernel, rfl⟩
theorem dX11_summed_59 : Ins mX11_summed 59 (.goto (-44)) 3 62 := ⟨by decide +kernel, rfl⟩
theorem dX11_figure_0 : Ins mX11_figure 0 (.aload_n 0) 1 1 := ⟨by decide +kernel, rfl⟩
theorem dX11_figure_1 : GgI mX11_figure 1 4 10 9 := ⟨9, rfl, ⟨108, _, by decide +kernel, rfl, rfl, by decide, tb_5 (List.mem_of_getElem? (i := 205) (by decide +kernel)) rfl⟩, by decide, rfl⟩
theorem dX11_figure_4 : Ins mX11_figure 4 (.iconst 1) 1 5 := ⟨by decide +kernel, rfl⟩
theorem dX11_figure_5 : Ins mX11_figure 5 (.if_icmp .eq 5) 3 8 := ⟨by decide +kernel, rfl⟩
theorem dX11_figure_8 : Ins mX11_figure 8 (.iconst 1) 1 9 := ⟨by decide +kernel, rfl⟩
theorem dX11_figure_9 : Ins mX11_figure 9 (.ireturn) 1 10 := ⟨by decide +kernel, rfl⟩
theorem dX11_figure_10 : Ins mX11_figure 10 (.aload_n 0) 1 11 := ⟨by decide +kernel, rfl⟩
theorem dX11_figure_11 : GgI mX11_figure 11 14 10 10 := ⟨10, rfl, ⟨115, _, by decide +kernel, rfl, rfl, by decide, tb_5 (List.mem_of_getElem? (i := 206) (by decide +kernel)) rfl⟩, by decide, rfl⟩
theorem dX11_figure_14 : Ins mX11_figure 14 (.iload_n 2) 1 15 := ⟨by decide +kernel, rfl⟩
theorem dX11_figure_15 : Ins mX11_figure 15 (.iload_n 3) 1 16 := ⟨by decide +kernel, rfl⟩
theorem dX11_figure_16 : CalS mX11_figure 16 19 mX11_isIn := ⟨63, by decide +kernel, rfl, Or.inl (tb_6 (List.mem_of_getElem? (i := 50) (by decide +kernel)) rfl), meX11_isIn⟩
theorem dX11_figure_19 : Ins mX11_figure 19 (.ifCond .ne 5) 3 22 := ⟨by decide +kernel, rfl⟩
theorem dX11_figure_22 : Ins mX11_figure 22 (.iconst 2) 1 23 := ⟨by decide +kernel, rfl⟩
theorem dX11_figure_23 : Ins mX11_figure 23 (.ireturn) 1 24 := ⟨by decide +kernel, rfl⟩
theorem dX11_figure_24 : Ins mX11_figure 24 (.aload_n 0) 1 25 := ⟨by decide +kernel, rfl⟩
theorem dX11_figure_25 : GgR mX11_figure 25 28 10 2 := ⟨2, rfl, ⟨16, _, by decide +kernel, rfl, rfl, by decide, tb_5 (List.mem_of_getElem? (i := 198) (by decide +kernel)) rfl⟩, by decide, rfl⟩
theorem dX11_figure_28 : Ins mX11_figure 28 (.iload_n 1) 1 29 := ⟨by decide +kernel, rfl⟩
theorem dX11_figure_29 : Ins mX11_figure 29 (.aload_n 0) 1 30 := ⟨by decide +kernel, rfl⟩
theorem dX11_figure_30 : GgI mX11_figure 30 33 10 10 := ⟨10, rfl, ⟨115, _, by decide +kernel, rfl, rfl, by decide, tb_5 (List.mem_of_getElem? (i := 206) (by decide +kernel)) rfl⟩, by decide, rfl⟩
theorem dX11_figure_33 : Ins mX11_figure 33 (.iastore) 1 34 := ⟨by decide +kernel, rfl⟩
theorem dX11_figure_34 : Ins mX11_figure 34 (.aload_n 0) 1 35 := ⟨by decide +kernel, rfl⟩
theorem dX11_figure_35 : CalV mX11_figure 35 38 mX11_nextToken := ⟨184, by decide +kernel, rfl, tb_6 (List.mem_of_getElem? (i := 89) (by decide +kernel)) rfl, meX11_nextToken⟩
theorem dX11_figure_38 : Ins mX11_figure 38 (.iconst 0) 1 39 := ⟨by decide +kernel, rfl⟩
theorem dX11_figure_39 : Ins mX11_figure 39 (.ireturn) 1 40 := ⟨by decide +kernel, rfl⟩
theorem dX11_worded_0 : Ins mX11_worded 0 (.aload_n 0) 1 1 := ⟨by decide +kernel, rfl⟩
theorem dX11_worded_1 : Ins mX11_worded 1 (.lload_n 1) 1 2 := ⟨by decide +kernel, rfl⟩
theorem dX11_worded_2 : CalV mX11_worded 2 5 mX11_isWord := ⟨202, by decide +kernel, rfl, tb_6 (List.mem_of_getElem? (i := 128) (by decide +kernel)) rfl, meX11_isWord⟩
theorem dX11_worded_5 : Ins mX11_worded 5 (.ifCond .ne 5) 3 8 := ⟨by decide +kernel, rfl⟩
theorem dX11_worded_8 : Ins mX11_worded 8 (.iconst 1) 1 9 := ⟨by decide +kernel, rfl⟩
theorem dX11_worded_9 : Ins mX11_worded 9 (.ireturn) 1 10 := ⟨by decide +kernel, rfl⟩
theorem dX11_worded_10 : Ins mX11_worded 10 (.aload_n 0) 1 11 := ⟨by decide +kernel, rfl⟩
theorem dX11_worded_11 : CalV mX11_worded 11 14 mX11_nextToken := ⟨184, by decide +kernel, rfl, tb_6 (List.mem_of_getElem? (i := 89) (by decide +kernel)) rfl, meX11_nextToken⟩
theorem dX11_worded_14 : Ins mX11_worded 14 (.aload_n 0) 1 15 := ⟨by decide +kernel, rfl⟩
theorem dX11_worded_15 : Ins mX11_worded 15 (.iload_n 3) 1 16 := ⟨by decide +kernel, rfl⟩
theorem dX11_worded_16 : Ins mX11_worded 16 (.iconst 0) 1 17 := ⟨by decide +kernel, rfl⟩
theorem dX11_worded_17 : Ins mX11_worded 17 (.iload 4) 2 19 := ⟨by decide +kernel, rfl⟩
theorem dX11_worded_19 : CalV mX11_worded 19 22 mX11_figure := ⟨227, by decide +kernel, rfl, tb_6 (List.mem_of_getElem? (i := 142) (by decide +kernel)) rfl, meX11_figure⟩
theorem dX11_worded_22 : Ins mX11_worded 22 (.ireturn) 1 23 := ⟨by decide +kernel, rfl⟩
theorem dX11_lawClause_0 : Ins mX11_lawClause 0 (.aload_n 0) 1 1 := ⟨by decide +kernel, rfl⟩
theorem dX11_lawClause_1 : GgR mX11_lawClause 1 4 10 2 := ⟨2, rfl, ⟨16, _, by decide +kernel, rfl, rfl, by decide, tb_5 (List.mem_of_getElem? (i := 198) (by decide +kernel)) rfl⟩, by decide, rfl⟩
theorem dX11_lawClause_4 : Ins mX11_lawClause 4 (.iload_n 1) 1 5 := ⟨by decide +kernel, rfl⟩
theorem dX11_lawClause_5 : Ins mX11_lawClause 5 (.iconst 1) 1 6 := ⟨by decide +kernel, rfl⟩
theorem dX11_lawClause_6 : Ins mX11_lawClause 6 (.iadd) 1 7 := ⟨by decide +kernel, rfl⟩
theorem dX11_lawClause_7 : Ins mX11_lawClause 7 (.aload_n 0) 1 8 := ⟨by decide +kernel, rfl⟩
theorem dX11_lawClause_8 : GgI mX11_lawClause 8 11 10 13 := ⟨13, rfl, ⟨150, _, by decide +kernel, rfl, rfl, by decide, tb_5 (List.mem_of_getElem? (i := 209) (by decide +kernel)) rfl⟩, by decide, rfl⟩
theorem dX11_lawClause_11 : Ins mX11_lawClause 11 (.iastore) 1 12 := ⟨by decide +kernel, rfl⟩
theorem dX11_lawClause_12 : Ins mX11_lawClause 12 (.aload_n 0) 1 13 := ⟨by decide +kernel, rfl⟩
theorem dX11_lawClause_13 : CalV mX11_lawClause 13 16 mX11_summed := ⟨231, by decide +kernel, rfl, tb_6 (List.mem_of_getElem? (i := 154) (by decide +kernel)) rfl, meX11_summed⟩
theorem dX11_lawClause_16 : Ins mX11_lawClause 16 (.istore_n 2) 1 17 := ⟨by decide +kernel, rfl⟩
theorem dX11_lawClause_17 : Ins mX11_lawClause 17 (.aload_n 0) 1 18 := ⟨by decide +kernel, rfl⟩
theorem dX11_lawClause_18 : GgR mX11_lawClause 18 21 10 2 := ⟨2, rfl, ⟨16, _, by decide +kernel, rfl, rfl, by decide, tb_5 (List.mem_of_getElem? (i := 198) (by decide +kernel)) rfl⟩, by decide, rfl⟩
theorem dX11_lawClause_21 : Ins mX11_lawClause 21 (.iload_n 1) 1 22 := ⟨by decide +kernel, rfl⟩
theorem dX11_lawClause_22 : Ins mX11_lawClause 22 (.iconst 2) 1 23 := ⟨by decide +kernel, rfl⟩
theorem dX11_lawClause_23 : Ins mX11_lawClause 23 (.iadd) 1 24 := ⟨by decide +kernel, rfl⟩
theorem dX11_lawClause_24 : Ins mX11_lawClause 24 (.aload_n 0) 1 25 := ⟨by decide +kernel, rfl⟩
theorem dX11_lawClause_25 : GgI mX11_lawClause 25 28 10 13 := ⟨13, rfl, ⟨150, _, by decide +kernel, rfl, rfl, by decide, tb_5 (List.mem_of_getElem? (i := 209) (by decide +kernel)) rfl⟩, by decide, rfl⟩
theorem dX11_lawClause_28 : Ins mX11_lawClause 28 (.iastore) 1 29 := ⟨by decide +kernel, rfl⟩
theorem dX11_lawClause_29 : Ins mX11_lawClause 29 (.iload_n 2) 1 30 := ⟨by decide +kernel, rfl⟩
theorem dX11_lawClause_30 : Ins mX11_lawClause 30 (.ireturn) 1 31 := ⟨by decide +kernel, rfl⟩
theorem dX11_body_0 : Ins mX11_body 0 (.iload_n 1) 1 1 := ⟨by decide +kernel, rfl⟩
theorem dX11_body_1 : Ins mX11_body 1 (.tableswitch 222 3 10 #[47, 97, 108, 119, 154, 164, 175, 211]) 47 48 := ⟨by decide +kernel, rfl⟩
theorem dX11_body_48 : Ins mX11_body 48 (.aload_n 0) 1 49 := ⟨by decide +kernel, rfl⟩
theorem dX11_body_49 : Ins mX11_body 49 (.iload_n 2) 1 50 := ⟨by decide +kernel, rfl⟩
theorem dX11_body_50 : Ins mX11_body 50 (.iconst 1) 1 51 := ⟨by decide +kernel, rfl⟩
theorem dX11_body_51 : Ins mX11_body 51 (.iadd) 1 52 := ⟨by decide +kernel, rfl⟩
theorem dX11_body_52 : Ins mX11_body 52 (.iconst 1) 1 53 := ⟨by decide +kernel, rfl⟩
theorem dX11_body_53 : Ins mX11_body 53 (.bipush 9) 2 55 := ⟨by decide +kernel, rfl⟩
theorem dX11_body_55 : CalV mX11_body 55 58 mX11_figure := ⟨227, by decide +kernel, rfl, tb_6 (List.mem_of_getElem? (i := 142) (by decide +kernel)) rfl, meX11_figure⟩
theorem dX11_body_58 : Ins mX11_body 58 (.istore_n 3) 1 59 := ⟨by decide +kernel, rfl⟩
theorem dX11_body_59 : Ins mX11_body 59 (.iload_n 3) 1 60 := ⟨by decide +kernel, rfl⟩
theorem dX11_body_60 : Ins mX11_body 60 (.ifCond .eq 7) 3 63 := ⟨by decide +kernel, rfl⟩
theorem dX11_body_63 : Ins mX11_body 63 (.iload_n 3) 1 64 := ⟨by decide +kernel, rfl⟩
theorem dX11_body_64 : Ins mX11_body 64 (.goto 33) 3 67 := ⟨by decide +kernel, rfl⟩
theorem dX11_body_67 : Ins mX11_body 67 (.aload_n 0) 1 68 := ⟨by decide +kernel, rfl⟩
theorem dX11_body_68 : Ins mX11_body 68 (.bipush 115) 2 70 := ⟨by decide +kernel, rfl⟩
theorem dX11_body_70 : Ins mX11_body 70 (.bipush 104) 2 72 := ⟨by decide +kernel, rfl⟩
theorem dX11_body_72 : Ins mX11_body 72 (.bipush 105) 2 74 := ⟨by decide +kernel, rfl⟩
theorem dX11_body_74 : Ins mX11_body 74 (.bipush 102) 2 76 := ⟨by decide +kernel, rfl⟩
theorem dX11_body_76 : Ins mX11_body 76 (.bipush 116) 2 78 := ⟨by decide +kernel, rfl⟩
theorem dX11_body_78 : CalS mX11_body 78 81 mX11_w5 := ⟨143, by decide +kernel, rfl, Or.inl (tb_6 (List.mem_of_getElem? (i := 116) (by decide +kernel)) rfl), meX11_w5⟩
theorem dX11_body_81 : Ins mX11_body 81 (.iload_n 2) 1 82 := ⟨by decide +kernel, rfl⟩
theorem dX11_body_82 : Ins mX11_body 82 (.iconst 2) 1 83 := ⟨by decide +kernel, rfl⟩
theorem dX11_body_83 : Ins mX11_body 83 (.iadd) 1 84 := ⟨by decide +kernel, rfl⟩
theorem dX11_body_84 : Ins mX11_body 84 (.aload_n 0) 1 85 := ⟨by decide +kernel, rfl⟩
theorem dX11_body_85 : GgR mX11_body 85 88 10 2 := ⟨2, rfl, ⟨16, _, by decide +kernel, rfl, rfl, by decide, tb_5 (List.mem_of_getElem? (i := 198) (by decide +kernel)) rfl⟩, by decide, rfl⟩
theorem dX11_body_88 : Ins mX11_body 88 (.iload_n 2) 1 89 := ⟨by decide +kernel, rfl⟩
theorem dX11_body_89 : Ins mX11_body 89 (.iconst 1) 1 90 := ⟨by decide +kernel, rfl⟩
theorem dX11_body_90 : Ins mX11_body 90 (.iadd) 1 91 := ⟨by decide +kernel, rfl⟩
theorem dX11_body_91 : Ins mX11_body 91 (.iaload) 1 92 := ⟨by decide +kernel, rfl⟩
theorem dX11_body_92 : Ins mX11_body 92 (.iconst 1) 1 93 := ⟨by decide +kernel, rfl⟩
theorem dX11_body_93 : Ins mX11_body 93 (.isub) 1 94 := ⟨by decide +kernel, rfl⟩
theorem dX11_body_94 : CalV mX11_body 94 97 mX11_worded := ⟨234, by decide +kernel, rfl, tb_6 (List.mem_of_getElem? (i := 146) (by decide +kernel)) rfl, meX11_worded⟩
theorem dX11_body_97 : Ins mX11_body 97 (.ireturn) 1 98 := ⟨by decide +kernel, rfl⟩
theorem dX11_body_98 : Ins mX11_body 98 (.aload_n 0) 1 99 := ⟨by decide +kernel, rfl⟩
theorem dX11_body_99 : Ins mX11_body 99 (.iload_n 2) 1 100 := ⟨by decide +kernel, rfl⟩
theorem dX11_body_100 : Ins mX11_body 100 (.iconst 1) 1 101 := ⟨by decide +kernel, rfl⟩
theorem dX11_body_101 : Ins mX11_body 101 (.iadd) 1 102 := ⟨by decide +kernel, rfl⟩
theorem dX11_body_102 : Ins mX11_body 102 (.iconst 1) 1 103 := ⟨by decide +kernel, rfl⟩
theorem dX11_body_103 : Ins mX11_body 103 (.bipush 9) 2 105 := ⟨by decide +kernel, rfl⟩
theorem dX11_body_105 : CalV mX11_body 105 108 mX11_figure := ⟨227, by decide +kernel, rfl, tb_6 (List.mem_of_getElem? (i := 142) (by decide +kernel)) rfl, meX11_figure⟩
theorem dX11_body_108 : Ins mX11_body 108 (.ireturn) 1 109 := ⟨by decide +kernel, rfl⟩
theorem dX11_body_109 : Ins mX11_body 109 (.aload_n 0) 1 110 := ⟨by decide +kernel, rfl⟩
theorem dX11_body_110 : Ins mX11_body 110 (.iload_n 2) 1 111 := ⟨by decide +kernel, rfl⟩
theorem dX11_body_111 : Ins mX11_body 111 (.iconst 1) 1 112 := ⟨by decide +kernel, rfl⟩
theorem dX11_body_112 : Ins mX11_body 112 (.iadd) 1 113 := ⟨by decide +kernel, rfl⟩
theorem dX11_body_113 : Ins mX11_body 113 (.iconst 1) 1 114 := ⟨by decide +kernel, rfl⟩
theorem dX11_body_114 : Ins mX11_body 114 (.bipush 8) 2 116 := ⟨by decide +kernel, rfl⟩
theorem dX11_body_116 : CalV mX11_body 116 119 mX11_figure := ⟨227, by decide +kernel, rfl, tb_6 (List.mem_of_getElem? (i := 142) (by decide +kernel)) rfl, meX11_figure⟩
theorem dX11_body_119 : Ins mX11_body 119 (.ireturn) 1 120 := ⟨by decide +kernel, rfl⟩
theorem dX11_body_120 : Ins mX11_body 120 (.aload_n 0) 1 121 := ⟨by decide +kernel, rfl⟩
theorem dX11_body_121 : Ins mX11_body 121 (.iload_n 2) 1 122 := ⟨by decide +kernel, rfl⟩
theorem dX11_body_122 : Ins mX11_body 122 (.iconst 1) 1 123 := ⟨by decide +kernel, rfl⟩
theorem dX11_body_123 : Ins mX11_body 123 (.iadd) 1 124 := ⟨by decide +kernel, rfl⟩
theorem dX11_body_124 : Ins mX11_body 124 (.iconst 0) 1 125 := ⟨by decide +kernel, rfl⟩
theorem dX11_body_125 : Ins mX11_body 125 (.iconst 5) 1 126 := ⟨by decide +kernel, rfl⟩
theorem dX11_body_126 : CalV mX11_body 126 129 mX11_figure := ⟨227, by decide +kernel, rfl, tb_6 (List.mem_of_getElem? (i := 142) (by decide +kernel)) rfl, meX11_figure⟩
theorem dX11_body_129 : Ins mX11_body 129 (.istore_n 3) 1 130 := ⟨by decide +kernel, rfl⟩
theorem dX11_body_130 : Ins mX11_body 130 (.iload_n 3) 1 131 := ⟨by decide +kernel, rfl⟩
theorem dX11_body_131 : Ins mX11_body 131 (.ifCond .eq 7) 3 134 := ⟨by decide +kernel, rfl⟩
theorem dX11_body_134 : Ins mX11_body 134 (.iload_n 3) 1 135 := ⟨by decide +kernel, rfl⟩
theorem dX11_body_135 : Ins mX11_body 135 (.goto 19) 3 138 := ⟨by decide +kernel, rfl⟩
theorem dX11_body_138 : Ins mX11_body 138 (.aload_n 0) 1 139 := ⟨by decide +kernel, rfl⟩
theorem dX11_body_139 : Ins mX11_body 139 (.bipush 111) 2 141 := ⟨by decide +kernel, rfl⟩
theorem dX11_body_141 : Ins mX11_body 141 (.bipush 110) 2 143 := ⟨by decide +kernel, rfl⟩
theorem dX11_body_143 : CalS mX11_body 143 146 mX11_w2 := ⟨131, by decide +kernel, rfl, Or.inl (tb_6 (List.mem_of_getElem? (i := 125) (by decide +kernel)) rfl), meX11_w2⟩
theorem dX11_body_146 : Ins mX11_body 146 (.iload_n 2) 1 147 := ⟨by decide +kernel, rfl⟩
theorem dX11_body_147 : Ins mX11_body 147 (.iconst 2) 1 148 := ⟨by decide +kernel, rfl⟩
theorem dX11_body_148 : Ins mX11_body 148 (.iadd) 1 149 := ⟨by decide +kernel, rfl⟩
theorem dX11_body_149 : Ins mX11_body 149 (.bipush 7) 2 151 := ⟨by decide +kernel, rfl⟩
theorem dX11_body_151 : CalV mX11_body 151 154 mX11_worded := ⟨234, by decide +kernel, rfl, tb_6 (List.mem_of_getElem? (i := 146) (by decide +kernel)) rfl, meX11_worded⟩
theorem dX11_body_154 : Ins mX11_body 154 (.ireturn) 1 155 := ⟨by decide +kernel, rfl⟩
theorem dX11_body_155 : Ins mX11_body 155 (.aload_n 0) 1 156 := ⟨by decide +kernel, rfl⟩
theorem dX11_body_156 : Ins mX11_body 156 (.iload_n 2) 1 157 := ⟨by decide +kernel, rfl⟩
theorem dX11_body_157 : Ins mX11_body 157 (.iconst 1) 1 158 := ⟨by decide +kernel, rfl⟩
theorem dX11_body_158 : Ins mX11_body 158 (.iadd) 1 159 := ⟨by decide +kernel, rfl⟩
theorem dX11_body_159 : Ins mX11_body 159 (.iconst 0) 1 160 := ⟨by decide +kernel, rfl⟩
theorem dX11_body_160 : Ins mX11_body 160 (.iconst 5) 1 161 := ⟨by decide +kernel, rfl⟩
theorem dX11_body_161 : CalV mX11_body 161 164 mX11_figure := ⟨227, by decide +kernel, rfl, tb_6 (List.mem_of_getElem? (i := 142) (by decide +kernel)) rfl, meX11_figure⟩
theorem dX11_body_164 : Ins mX11_body 164 (.ireturn) 1 165 := ⟨by decide +kernel, rfl⟩
theorem dX11_body_165 : Ins mX11_body 165 (.aload_n 0) 1 166 := ⟨by decide +kernel, rfl⟩
theorem dX11_body_166 : Ins mX11_body 166 (.iload_n 2) 1 167 := ⟨by decide +kernel, rfl⟩
theorem dX11_body_167 : Ins mX11_body 167 (.iconst 1) 1 168 := ⟨by decide +kernel, rfl⟩
theorem dX11_body_168 : Ins mX11_body 168 (.iadd) 1 169 := ⟨by decide +kernel, rfl⟩
theorem dX11_body_169 : Ins mX11_body 169 (.iconst 0) 1 170 := ⟨by decide +kernel, rfl⟩
theorem dX11_body_170 : Ins mX11_body 170 (.bipush 7) 2 172 := ⟨by decide +kernel, rfl⟩
theorem dX11_body_172 : CalV mX11_body 172 175 mX11_figure := ⟨227, by decide +kernel, rfl, tb_6 (List.mem_of_getElem? (i := 142) (by decide +kernel)) rfl, meX11_figure⟩
theorem dX11_body_175 : Ins mX11_body 175 (.ireturn) 1 176 := ⟨by decide +kernel, rfl⟩
theorem dX11_body_176 : Ins mX11_body 176 (.aload_n 0) 1 177 := ⟨by decide +kernel, rfl⟩
theorem dX11_body_177 : Ins mX11_body 177 (.iload_n 2) 1 178 := ⟨by decide +kernel, rfl⟩
theorem dX11_body_178 : Ins mX11_body 178 (.iconst 1) 1 179 := ⟨by decide +kernel, rfl⟩
theorem dX11_body_179 : Ins mX11_body 179 (.iadd) 1 180 := ⟨by decide +kernel, rfl⟩
theorem dX11_body_180 : Ins mX11_body 180 (.iconst 0) 1 181 := ⟨by decide +kernel, rfl⟩
theorem dX11_body_181 : Ins mX11_body 181 (.bipush 7) 2 183 := ⟨by decide +kernel, rfl⟩
theorem dX11_body_183 : CalV mX11_body 183 186 mX11_figure := ⟨227, by decide +kernel, rfl, tb_6 (List.mem_of_getElem? (i := 142) (by decide +kernel)) rfl, meX11_figure⟩
theorem dX11_body_186 : Ins mX11_body 186 (.istore_n 3) 1 187 := ⟨by decide +kernel, rfl⟩
theorem dX11_body_187 : Ins mX11_body 187 (.iload_n 3) 1 188 := ⟨by decide +kernel, rfl⟩
theorem dX11_body_188 : Ins mX11_body 188 (.ifCond .eq 7) 3 191 := ⟨by decide +kernel, rfl⟩
theorem dX11_body_191 : Ins mX11_body 191 (.iload_n 3) 1 192 := ⟨by decide +kernel, rfl⟩
theorem dX11_body_192 : Ins mX11_body 192 (.goto 19) 3 195 := ⟨by decide +kernel, rfl⟩
theorem dX11_body_195 : Ins mX11_body 195 (.aload_n 0) 1 196 := ⟨by decide +kernel, rfl⟩
theorem dX11_body_196 : Ins mX11_body 196 (.bipush 116) 2 198 := ⟨by decide +kernel, rfl⟩
theorem dX11_body_198 : Ins mX11_body 198 (.bipush 111) 2 200 := ⟨by decide +kernel, rfl⟩
theorem dX11_body_200 : CalS mX11_body 200 203 mX11_w2 := ⟨131, by decide +kernel, rfl, Or.inl (tb_6 (List.mem_of_getElem? (i := 125) (by decide +kernel)) rfl), meX11_w2⟩
theorem dX11_body_203 : Ins mX11_body 203 (.iload_n 2) 1 204 := ⟨by decide +kernel, rfl⟩
theorem dX11_body_204 : Ins mX11_body 204 (.iconst 2) 1 205 := ⟨by decide +kernel, rfl⟩
theorem dX11_body_205 : Ins mX11_body 205 (.iadd) 1 206 := ⟨by decide +kernel, rfl⟩
theorem dX11_body_206 : Ins mX11_body 206 (.bipush 8) 2 208 := ⟨by decide +kernel, rfl⟩
theorem dX11_body_208 : CalV mX11_body 208 211 mX11_worded := ⟨234, by decide +kernel, rfl, tb_6 (List.mem_of_getElem? (i := 146) (by decide +kernel)) rfl, meX11_worded⟩
theorem dX11_body_211 : Ins mX11_body 211 (.ireturn) 1 212 := ⟨by decide +kernel, rfl⟩
theorem dX11_body_212 : Ins mX11_body 212 (.aload_n 0) 1 213 := ⟨by decide +kernel, rfl⟩
theorem dX11_body_213 : Ins mX11_body 213 (.iload_n 2) 1 214 := ⟨by decide +kernel, rfl⟩
theorem dX11_body_214 : Ins mX11_body 214 (.iconst 1) 1 215 := ⟨by decide +kernel, rfl⟩
theorem dX11_body_215 : Ins mX11_body 215 (.iadd) 1 216 := ⟨by decide +kernel, rfl⟩
theorem dX11_body_216 : Ins mX11_body 216 (.iconst 1) 1 217 := ⟨by decide +kernel, rfl⟩
theorem dX11_body_217 : Ins mX11_body 217 (.bipush 60) 2 219 := ⟨by decide +kernel, rfl⟩
theorem dX11_body_219 : CalV mX11_body 219 222 mX11_figure := ⟨227, by decide +kernel, rfl, tb_6 (List.mem_of_getElem? (i := 142) (by decide +kernel)) rfl, meX11_figure⟩
theorem dX11_body_222 : Ins mX11_body 222 (.ireturn) 1 223 := ⟨by decide +kernel, rfl⟩
theorem dX11_body_223 : Ins mX11_body 223 (.aload_n 0) 1 224 := ⟨by decide +kernel, rfl⟩
theorem dX11_body_224 : Ins mX11_body 224 (.iload_n 2) 1 225 := ⟨by decide +kernel, rfl⟩
theorem dX11_body_225 : CalV mX11_body 225 228 mX11_lawClause := ⟨238, by decide +kernel, rfl, tb_6 (List.mem_of_getElem? (i := 150) (by decide +kernel)) rfl, meX11_lawClause⟩
theorem dX11_body_228 : Ins mX11_body 228 (.ireturn) 1 229 := ⟨by decide +kernel, rfl⟩
theorem dX11_sortOf_0 : Ins mX11_sortOf 0 (.aload_n 0) 1 1 := ⟨by decide +kernel, rfl⟩
theorem dX11_sortOf_1 : Ins mX11_sortOf 1 (.bipush 119) 2 3 := ⟨by decide +kernel, rfl⟩
theorem dX11_sortOf_3 : Ins mX11_sortOf 3 (.bipush 101) 2 5 := ⟨by decide +kernel, rfl⟩
theorem dX11_sortOf_5 : Ins mX11_sortOf 5 (.bipush 97) 2 7 := ⟨by decide +kernel, rfl⟩
theorem dX11_sortOf_7 : Ins mX11_sortOf 7 (.bipush 114) 2 9 := ⟨by decide +kernel, rfl⟩
theorem dX11_sortOf_9 : Ins mX11_sortOf 9 (.bipush 115) 2 11 := ⟨by decide +kernel, rfl⟩
theorem dX11_sortOf_11 : CalS mX11_sortOf 11 14 mX11_w5 := ⟨143, by decide +kernel, rfl, Or.inl (tb_6 (List.mem_of_getElem? (i := 116) (by decide +kernel)) rfl), meX11_w5⟩
theorem dX11_sortOf_14 : CalV mX11_sortOf 14 17 mX11_isWord := ⟨202, by decide +kernel, rfl, tb_6 (List.mem_of_getElem? (i := 128) (by decide +kernel)) rfl, meX11_isWord⟩
theorem dX11_sortOf_17 : Ins mX11_sortOf 17 (.ifCond .eq 5) 3 20 := ⟨by decide +kernel, rfl⟩
theorem dX11_sortOf_20 : Ins mX11_sortOf 20 (.iconst 0) 1 21 := ⟨by decide +kernel, rfl⟩
theorem dX11_sortOf_21 : Ins mX11_sortOf 21 (.ireturn) 1 22 := ⟨by decide +kernel, rfl⟩
theorem dX11_sortOf_22 : Ins mX11_sortOf 22 (.aload_n 0) 1 23 := ⟨by decide +kernel, rfl⟩
theorem dX11_sortOf_23 : Ins mX11_sortOf 23 (.bipush 116) 2 25 := ⟨by decide +kernel, rfl⟩
theorem dX11_sortOf_25 : Ins mX11_sortOf 25 (.bipush 105) 2 27 := ⟨by decide +kernel, rfl⟩
theorem dX11_sortOf_27 : Ins mX11_sortOf 27 (.bipush 114) 2 29 := ⟨by decide +kernel, rfl⟩
theorem dX11_sortOf_29 : Ins mX11_sortOf 29 (.bipush 101) 2 31 := ⟨by decide +kernel, rfl⟩
theorem dX11_sortOf_31 : Ins mX11_sortOf 31 (.bipush 115) 2 33 := ⟨by decide +kernel, rfl⟩
theorem dX11_sortOf_33 : CalS mX11_sortOf 33 36 mX11_w5 := ⟨143, by decide +kernel, rfl, Or.inl (tb_6 (List.mem_of_getElem? (i := 116) (by decide +kernel)) rfl), meX11_w5⟩
theorem dX11_sortOf_36 : CalV mX11_sortOf 36 39 mX11_isWord := ⟨202, by decide +kernel, rfl, tb_6 (List.mem_of_getElem? (i := 128) (by decide +kernel)) rfl, meX11_isWord⟩
theorem dX11_sortOf_39 : Ins mX11_sortOf 39 (.ifCond .eq 5) 3 42 := ⟨by decide +kernel, rfl⟩
theorem dX11_sortOf_42 : Ins mX11_sortOf 42 (.iconst 1) 1 43 := ⟨by decide +kernel, rfl⟩
theorem dX11_sortOf_43 : Ins mX11_sortOf 43 (.ireturn) 1 44 := ⟨by decide +kernel, rfl⟩
theorem dX11_sortOf_44 : Ins mX11_sortOf 44 (.aload_n 0) 1 45 := ⟨by decide +kernel, rfl⟩
theorem dX11_sortOf_45 : Ins mX11_sortOf 45 (.bipush 115) 2 47 := ⟨by decide +kernel, rfl⟩
theorem dX11_sortOf_47 : Ins mX11_sortOf 47 (.bipush 101) 2 49 := ⟨by decide +kernel, rfl⟩
theorem dX11_sortOf_49 : Ins mX11_sortOf 49 (.bipush 101) 2 51 := ⟨by decide +kernel, rfl⟩
theorem dX11_sortOf_51 : Ins mX11_sortOf 51 (.bipush 110) 2 53 := ⟨by decide +kernel, rfl⟩
theorem dX11_sortOf_53 : CalS mX11_sortOf 53 56 mX11_w4 := ⟨139, by decide +kernel, rfl, Or.inl (tb_6 (List.mem_of_getElem? (i := 119) (by decide +kernel)) rfl), meX11_w4⟩
theorem dX11_sortOf_56 : CalV mX11_sortOf 56 59 mX11_isWord := ⟨202, by decide +kernel, rfl, tb_6 (List.mem_of_getElem? (i := 128) (by decide +kernel)) rfl, meX11_isWord⟩
theorem dX11_sortOf_59 : Ins mX11_sortOf 59 (.ifCond .eq 5) 3 62 := ⟨by decide +kernel, rfl⟩
theorem dX11_sortOf_62 : Ins mX11_sortOf 62 (.iconst 2) 1 63 := ⟨by decide +kernel, rfl⟩
theorem dX11_sortOf_63 : Ins mX11_sortOf 63 (.ireturn) 1 64 := ⟨by decide +kernel, rfl⟩
theorem dX11_sortOf_64 : Ins mX11_sortOf 64 (.aload_n 0) 1 65 := ⟨by decide +kernel, rfl⟩
theorem dX11_sortOf_65 : Ins mX11_sortOf 65 (.bipush 104) 2 67 := ⟨by decide +kernel, rfl⟩
theorem dX11_sortOf_67 : Ins mX11_sortOf 67 (.bipush 111) 2 69 := ⟨by decide +kernel, rfl⟩
theorem dX11_sortOf_69 : Ins mX11_sortOf 69 (.bipush 114) 2 71 := ⟨by decide +kernel, rfl⟩
theorem dX11_sortOf_71 : Ins mX11_sortOf 71 (.bipush 115) 2 73 := ⟨by decide +kernel, rfl⟩
theorem dX11_sortOf_73 : Ins mX11_sortOf 73 (.bipush 101) 2 75 := ⟨by decide +kernel, rfl⟩
theorem dX11_sortOf_75 : CalS mX11_sortOf 75 78 mX11_w5 := ⟨143, by decide +kernel, rfl, Or.inl (tb_6 (List.mem_of_getElem? (i := 116) (by decide +kernel)) rfl), meX11_w5⟩
theorem dX11_sortOf_78 : CalV mX11_sortOf 78 81 mX11_isWord := ⟨202, by decide +kernel, rfl, tb_6 (List.mem_of_getElem? (i := 128) (by decide +kernel)) rfl, meX11_isWord⟩
theorem dX11_sortOf_81 : Ins mX11_sortOf 81 (.ifCond .eq 5) 3 84 := ⟨by decide +kernel, rfl⟩
theorem dX11_sortOf_84 : Ins mX11_sortOf 84 (.iconst 3) 1 85 := ⟨by decide +kernel, rfl⟩
theorem dX11_sortOf_85 : Ins mX11_sortOf 85 (.ireturn) 1 86 := ⟨by decide +kernel, rfl⟩
theorem dX11_sortOf_86 : Ins mX11_sortOf 86 (.aload_n 0) 1 87 := ⟨by decide +kernel, rfl⟩
theorem dX11_sortOf_87 : Ins mX11_sortOf 87 (.bipush 98) 2 89 := ⟨by decide +kernel, rfl⟩
theorem dX11_sortOf_89 : Ins mX11_sortOf 89 (.bipush 111) 2 91 := ⟨by decide +kernel, rfl⟩
theorem dX11_sortOf_91 : Ins mX11_sortOf 91 (.bipush 121) 2 93 := ⟨by decide +kernel, rfl⟩
theorem dX11_sortOf_93 : CalS mX11_sortOf 93 96 mX11_w3 := ⟨135, by decide +kernel, rfl, Or.inl (tb_6 (List.mem_of_getElem? (i := 122) (by decide +kernel)) rfl), meX11_w3⟩
theorem dX11_sortOf_96 : CalV mX11_sortOf 96 99 mX11_isWord := ⟨202, by decide +kernel, rfl, tb_6 (List.mem_of_getElem? (i := 128) (by decide +kernel)) rfl, meX11_isWord⟩
theorem dX11_sortOf_99 : Ins mX11_sortOf 99 (.ifCond .eq 5) 3 102 := ⟨by decide +kernel, rfl⟩
theorem dX11_sortOf_102 : Ins mX11_sortOf 102 (.iconst 4) 1 103 := ⟨by decide +kernel, rfl⟩
theorem dX11_sortOf_103 : Ins mX11_sortOf 103 (.ireturn) 1 104 := ⟨by decide +kernel, rfl⟩
theorem dX11_sortOf_104 : Ins mX11_sortOf 104 (.aload_n 0) 1 105 := ⟨by decide +kernel, rfl⟩
theorem dX11_sortOf_105 : Ins mX11_sortOf 105 (.bipush 108) 2 107 := ⟨by decide +kernel, rfl⟩
theorem dX11_sortOf_107 : Ins mX11_sortOf 107 (.bipush 105) 2 109 := ⟨by decide +kernel, rfl⟩
theorem dX11_sortOf_109 : Ins mX11_sortOf 109 (.bipush 109) 2 111 := ⟨by decide +kernel, rfl⟩
theorem dX11_sortOf_111 : Ins mX11_sortOf 111 (.bipush 105) 2 113 := ⟨by decide +kernel, rfl⟩
theorem dX11_sortOf_113 : Ins mX11_sortOf 113 (.bipush 116) 2 115 := ⟨by decide +kernel, rfl⟩
theorem dX11_sortOf_115 : CalS mX11_sortOf 115 118 mX11_w5 := ⟨143, by decide +kernel, rfl, Or.inl (tb_6 (List.mem_of_getElem? (i := 116) (by decide +kernel)) rfl), meX11_w5⟩
theorem dX11_sortOf_118 : CalV mX11_sortOf 118 121 mX11_isWord := ⟨202, by decide +kernel, rfl, tb_6 (List.mem_of_getElem? (i := 128) (by decide +kernel)) rfl, meX11_isWord⟩
theorem dX11_sortOf_121 : Ins mX11_sortOf 121 (.ifCond .eq 5) 3 124 := ⟨by decide +kernel, rfl⟩
theorem dX11_sortOf_124 : Ins mX11_sortOf 124 (.iconst 5) 1 125 := ⟨by decide +kernel, rfl⟩
theorem dX11_sortOf_125 : Ins mX11_sortOf 125 (.ireturn) 1 126 := ⟨by decide +kernel, rfl⟩
theorem dX11_sortOf_126 : Ins mX11_sortOf 126 (.aload_n 0) 1 127 := ⟨by decide +kernel, rfl⟩
theorem dX11_sortOf_127 : Ins mX11_sortOf 127 (.bipush 109) 2 129 := ⟨by decide +kernel, rfl⟩
theorem dX11_sortOf_129 : Ins mX11_sortOf 129 (.bipush 111) 2 131 := ⟨by decide +kernel, rfl⟩
theorem dX11_sortOf_131 : Ins mX11_sortOf 131 (.bipush 117) 2 133 := ⟨by decide +kernel, rfl⟩
theorem dX11_sortOf_133 : Ins mX11_sortOf 133 (.bipush 110) 2 135 := ⟨by decide +kernel, rfl⟩
theorem dX11_sortOf_135 : Ins mX11_sortOf 135 (.bipush 116) 2 137 := ⟨by decide +kernel, rfl⟩
theorem dX11_sortOf_137 : CalS mX11_sortOf 137 140 mX11_w5 := ⟨143, by decide +kernel, rfl, Or.inl (tb_6 (List.mem_of_getElem? (i := 116) (by decide +kernel)) rfl), meX11_w5⟩
theorem dX11_sortOf_140 : CalV mX11_sortOf 140 143 mX11_isWord := ⟨202, by decide +kernel, rfl, tb_6 (List.mem_of_getElem? (i := 128) (by decide +kernel)) rfl, meX11_isWord⟩
theorem dX11_sortOf_143 : Ins mX11_sortOf 143 (.ifCond .eq 6) 3 146 := ⟨by decide +kernel, rfl⟩
theorem dX11_sortOf_146 : Ins mX11_sortOf 146 (.bipush 6) 2 148 := ⟨by decide +kernel, rfl⟩
theorem dX11_sortOf_148 : Ins mX11_sortOf 148 (.ireturn) 1 149 := ⟨by decide +kernel, rfl⟩
theorem dX11_sortOf_149 : Ins mX11_sortOf 149 (.aload_n 0) 1 150 := ⟨by decide +kernel, rfl⟩
theorem dX11_sortOf_150 : Ins mX11_sortOf 150 (.bipush 111) 2 152 := ⟨by decide +kernel, rfl⟩
theorem dX11_sortOf_152 : Ins mX11_sortOf 152 (.bipush 102) 2 154 := ⟨by decide +kernel, rfl⟩
theorem dX11_sortOf_154 : Ins mX11_sortOf 154 (.bipush 102) 2 156 := ⟨by decide +kernel, rfl⟩
theorem dX11_sortOf_156 : CalS mX11_sortOf 156 159 mX11_w3 := ⟨135, by decide +kernel, rfl, Or.inl (tb_6 (List.mem_of_getElem? (i := 122) (by decide +kernel)) rfl), meX11_w3⟩
theorem dX11_sortOf_159 : CalV mX11_sortOf 159 162 mX11_isWord := ⟨202, by decide +kernel, rfl, tb_6 (List.mem_of_getElem? (i := 128) (by decide +kernel)) rfl, meX11_isWord⟩
theorem dX11_sortOf_162 : Ins mX11_sortOf 162 (.ifCond .eq 6) 3 165 := ⟨by decide +kernel, rfl⟩
theorem dX11_sortOf_165 : Ins mX11_sortOf 165 (.bipush 7) 2 167 := ⟨by decide +kernel, rfl⟩
theorem dX11_sortOf_167 : Ins mX11_sortOf 167 (.ireturn) 1 168 := ⟨by decide +kernel, rfl⟩
theorem dX11_sortOf_168 : Ins mX11_sortOf 168 (.aload_n 0) 1 169 := ⟨by decide +kernel, rfl⟩
theorem dX11_sortOf_169 : Ins mX11_sortOf 169 (.bipush 111) 2 171 := ⟨by decide +kernel, rfl⟩
theorem dX11_sortOf_171 : Ins mX11_sortOf 171 (.bipush 105) 2 173 := ⟨by decide +kernel, rfl⟩
theorem dX11_sortOf_173 : Ins mX11_sortOf 173 (.bipush 108) 2 175 := ⟨by decide +kernel, rfl⟩
theorem dX11_sortOf_175 : CalS mX11_sortOf 175 178 mX11_w3 := ⟨135, by decide +kernel, rfl, Or.inl (tb_6 (List.mem_of_getElem? (i := 122) (by decide +kernel)) rfl), meX11_w3⟩
theorem dX11_sortOf_178 : CalV mX11_sortOf 178 181 mX11_isWord := ⟨202, by decide +kernel, rfl, tb_6 (List.mem_of_getElem? (i := 128) (by decide +kernel)) rfl, meX11_isWord⟩
theorem dX11_sortOf_181 : Ins mX11_sortOf 181 (.ifCond .eq 6) 3 184 := ⟨by decide +kernel, rfl⟩
theorem dX11_sortOf_184 : Ins mX11_sortOf 184 (.bipush 8) 2 186 := ⟨by decide +kernel, rfl⟩
theorem dX11_sortOf_186 : Ins mX11_sortOf 186 (.ireturn) 1 187 := ⟨by decide +kernel, rfl⟩
theorem dX11_sortOf_187 : Ins mX11_sortOf 187 (.aload_n 0) 1 188 := ⟨by decide +kernel, rfl⟩
theorem dX11_sortOf_188 : Ins mX11_sortOf 188 (.bipush 110) 2 190 := ⟨by decide +kernel, rfl⟩
theorem dX11_sortOf_190 : Ins mX11_sortOf 190 (.bipush 97) 2 192 := ⟨by decide +kernel, rfl⟩
theorem dX11_sortOf_192 : Ins mX11_sortOf 192 (.bipush 105) 2 194 := ⟨by decide +kernel, rfl⟩
theorem dX11_sortOf_194 : Ins mX11_sortOf 194 (.bipush 108) 2 196 := ⟨by decide +kernel, rfl⟩
theorem dX11_sortOf_196 : CalS mX11_sortOf 196 199 mX11_w4 := ⟨139, by decide +kernel, rfl, Or.inl (tb_6 (List.mem_of_getElem? (i := 119) (by decide +kernel)) rfl), meX11_w4⟩
theorem dX11_sortOf_199 : CalV mX11_sortOf 199 202 mX11_isWord := ⟨202, by decide +kernel, rfl, tb_6 (List.mem_of_getElem? (i := 128) (by decide +kernel)) rfl, meX11_isWord⟩
theorem dX11_sortOf_202 : Ins mX11_sortOf 202 (.ifCond .eq 8) 3 205 := ⟨by decide +kernel, rfl⟩
theorem dX11_sortOf_205 : Ins mX11_sortOf 205 (.bipush 9) 2 207 := ⟨by decide +kernel, rfl⟩
theorem dX11_sortOf_207 : Ins mX11_sortOf 207 (.goto 31) 3 210 := ⟨by decide +kernel, rfl⟩
theorem dX11_sortOf_210 : Ins mX11_sortOf 210 (.aload_n 0) 1 211 := ⟨by decide +kernel, rfl⟩
theorem dX11_sortOf_211 : Ins mX11_sortOf 211 (.bipush 109) 2 213 := ⟨by decide +kernel, rfl⟩
theorem dX11_sortOf_213 : Ins mX11_sortOf 213 (.bipush 105) 2 215 := ⟨by decide +kernel, rfl⟩
theorem dX11_sortOf_215 : Ins mX11_sortOf 215 (.bipush 110) 2 217 := ⟨by decide +kernel, rfl⟩
theorem dX11_sortOf_217 : Ins mX11_sortOf 217 (.bipush 117) 2 219 := ⟨by decide +kernel, rfl⟩
theorem dX11_sortOf_219 : Ins mX11_sortOf 219 (.bipush 116) 2 221 := ⟨by decide +kernel, rfl⟩
theorem dX11_sortOf_221 : Ins mX11_sortOf 221 (.bipush 101) 2 223 := ⟨by decide +kernel, rfl⟩
theorem dX11_sortOf_223 : CalS mX11_sortOf 223 226 mX11_w6 := ⟨153, by decide +kernel, rfl, Or.inl (tb_6 (List.mem_of_getElem? (i := 132) (by decide +kernel)) rfl), meX11_w6⟩
theorem dX11_sortOf_226 : CalV mX11_sortOf 226 229 mX11_isWord := ⟨202, by decide +kernel, rfl, tb_6 (List.mem_of_getElem? (i := 128) (by decide +kernel)) rfl, meX11_isWord⟩
theorem dX11_sortOf_229 : Ins mX11_sortOf 229 (.ifCond .eq 8) 3 232 := ⟨by decide +kernel, rfl⟩
theorem dX11_sortOf_232 : Ins mX11_sortOf 232 (.bipush 10) 2 234 := ⟨by decide +kernel, rfl⟩
theorem dX11_sortOf_234 : Ins mX11_sortOf 234 (.goto 4) 3 237 := ⟨by decide +kernel, rfl⟩
theorem dX11_sortOf_237 : Ins mX11_sortOf 237 (.iconst (-1)) 1 238 := ⟨by decide +kernel, rfl⟩
theorem dX11_sortOf_238 : Ins mX11_sortOf 238 (.ireturn) 1 239 := ⟨by decide +kernel, rfl⟩
theorem dX11_clause_0 : Ins mX11_clause 0 (.aload_n 0) 1 1 := ⟨by decide +kernel, rfl⟩
theorem dX11_clause_1 : CalV mX11_clause 1 4 mX11_sortOf := ⟨241, by decide +kernel, rfl, tb_6 (List.mem_of_getElem? (i := 112) (by decide +kernel)) rfl, meX11_sortOf⟩
theorem dX11_clause_4 : Ins mX11_clause 4 (.istore_n 1) 1 5 := ⟨by decide +kernel, rfl⟩
theorem dX11_clause_5 : Ins mX11_clause 5 (.iload_n 1) 1 6 := ⟨by decide +kernel, rfl⟩
theorem dX11_clause_6 : Ins mX11_clause 6 (.ifCond .ge 5) 3 9 := ⟨by decide +kernel, rfl⟩
theorem dX11_clause_9 : Ins mX11_clause 9 (.iconst 1) 1 10 := ⟨by decide +kernel, rfl⟩
theorem dX11_clause_10 : Ins mX11_clause 10 (.ireturn) 1 11 := ⟨by decide +kernel, rfl⟩
theorem dX11_clause_11 : Ins mX11_clause 11 (.iload_n 1) 1 12 := ⟨by decide +kernel, rfl⟩
theorem dX11_clause_12 : Ins mX11_clause 12 (.iconst 2) 1 13 := ⟨by decide +kernel, rfl⟩
theorem dX11_clause_13 : Ins mX11_clause 13 (.if_icmp .gt 16) 3 16 := ⟨by decide +kernel, rfl⟩
theorem dX11_clause_16 : Ins mX11_clause 16 (.aload_n 0) 1 17 := ⟨by decide +kernel, rfl⟩
theorem dX11_clause_17 : GgI mX11_clause 17 20 10 19 := ⟨19, rfl, ⟨244, _, by decide +kernel, rfl, rfl, by decide, tb_5 (List.mem_of_getElem? (i := 215) (by decide +kernel)) rfl⟩, by decide, rfl⟩
theorem dX11_clause_20 : Ins mX11_clause 20 (.iload_n 1) 1 21 := ⟨by decide +kernel, rfl⟩
theorem dX11_clause_21 : CalS mX11_clause 21 24 mX11_has := ⟨74, by decide +kernel, rfl, Or.inl (tb_6 (List.mem_of_getElem? (i := 135) (by decide +kernel)) rfl), meX11_has⟩
theorem dX11_clause_24 : Ins mX11_clause 24 (.ifCond .eq 5) 3 27 := ⟨by decide +kernel, rfl⟩
theorem dX11_clause_27 : Ins mX11_clause 27 (.iconst 4) 1 28 := ⟨by decide +kernel, rfl⟩
theorem dX11_clause_28 : Ins mX11_clause 28 (.ireturn) 1 29 := ⟨by decide +kernel, rfl⟩
theorem dX11_clause_29 : Ins mX11_clause 29 (.aload_n 0) 1 30 := ⟨by decide +kernel, rfl⟩
theorem dX11_clause_30 : GgR mX11_clause 30 33 10 2 := ⟨2, rfl, ⟨16, _, by decide +kernel, rfl, rfl, by decide, tb_5 (List.mem_of_getElem? (i := 198) (by decide +kernel)) rfl⟩, by decide, rfl⟩
theorem dX11_clause_33 : Ins mX11_clause 33 (.aload_n 0) 1 34 := ⟨by decide +kernel, rfl⟩
theorem dX11_clause_34 : GgI mX11_clause 34 37 10 12 := ⟨12, rfl, ⟨147, _, by decide +kernel, rfl, rfl, by decide, tb_5 (List.mem_of_getElem? (i := 208) (by decide +kernel)) rfl⟩, by decide, rfl⟩
theorem dX11_clause_37 : Ins mX11_clause 37 (.iaload) 1 38 := ⟨by decide +kernel, rfl⟩
theorem dX11_clause_38 : Ins mX11_clause 38 (.istore_n 2) 1 39 := ⟨by decide +kernel, rfl⟩
theorem dX11_clause_39 : Ins mX11_clause 39 (.iload_n 2) 1 40 := ⟨by decide +kernel, rfl⟩
theorem dX11_clause_40 : Ins mX11_clause 40 (.bipush 24) 2 42 := ⟨by decide +kernel, rfl⟩
theorem dX11_clause_42 : Ins mX11_clause 42 (.if_icmp .ne 6) 3 45 := ⟨by decide +kernel, rfl⟩
theorem dX11_clause_45 : Ins mX11_clause 45 (.bipush 6) 2 47 := ⟨by decide +kernel, rfl⟩
theorem dX11_clause_47 : Ins mX11_clause 47 (.ireturn) 1 48 := ⟨by decide +kernel, rfl⟩
theorem dX11_clause_48 : Ins mX11_clause 48 (.iload_n 1) 1 49 := ⟨by decide +kernel, rfl⟩
theorem dX11_clause_49 : Ins mX11_clause 49 (.iconst 2) 1 50 := ⟨by decide +kernel, rfl⟩
theorem dX11_clause_50 : Ins mX11_clause 50 (.if_icmp .gt 15) 3 53 := ⟨by decide +kernel, rfl⟩
theorem dX11_clause_53 : Ins mX11_clause 53 (.aload_n 0) 1 54 := ⟨by decide +kernel, rfl⟩
theorem dX11_clause_54 : Ins mX11_clause 54 (.dup) 1 55 := ⟨by decide +kernel, rfl⟩
theorem dX11_clause_55 : GgI mX11_clause 55 58 10 19 := ⟨19, rfl, ⟨244, _, by decide +kernel, rfl, rfl, by decide, tb_5 (List.mem_of_getElem? (i := 215) (by decide +kernel)) rfl⟩, by decide, rfl⟩
theorem dX11_clause_58 : Ins mX11_clause 58 (.iconst 1) 1 59 := ⟨by decide +kernel, rfl⟩
theorem dX11_clause_59 : Ins mX11_clause 59 (.iload_n 1) 1 60 := ⟨by decide +kernel, rfl⟩
theorem dX11_clause_60 : Ins mX11_clause 60 (.ishl) 1 61 := ⟨by decide +kernel, rfl⟩
theorem dX11_clause_61 : Ins mX11_clause 61 (.ior) 1 62 := ⟨by decide +kernel, rfl⟩
theorem dX11_clause_62 : GpI mX11_clause 62 65 10 19 := ⟨19, rfl, ⟨244, _, by decide +kernel, rfl, rfl, by decide, tb_5 (List.mem_of_getElem? (i := 215) (by decide +kernel)) rfl, by decide +kernel, Or.inl rfl⟩, by decide, rfl⟩
theorem dX11_clause_65 : Ins mX11_clause 65 (.aload_n 0) 1 66 := ⟨by decide +kernel, rfl⟩
theorem dX11_clause_66 : Ins mX11_clause 66 (.iload_n 1) 1 67 := ⟨by decide +kernel, rfl⟩
theorem dX11_clause_67 : GpI mX11_clause 67 70 10 14 := ⟨14, rfl, ⟨161, _, by decide +kernel, rfl, rfl, by decide, tb_5 (List.mem_of_getElem? (i := 210) (by decide +kernel)) rfl, by decide +kernel, Or.inl rfl⟩, by decide, rfl⟩
theorem dX11_clause_70 : Ins mX11_clause 70 (.aload_n 0) 1 71 := ⟨by decide +kernel, rfl⟩
theorem dX11_clause_71 : CalV mX11_clause 71 74 mX11_nextToken := ⟨184, by decide +kernel, rfl, tb_6 (List.mem_of_getElem? (i := 89) (by decide +kernel)) rfl, meX11_nextToken⟩
theorem dX11_clause_74 : Ins mX11_clause 74 (.aload_n 0) 1 75 := ⟨by decide +kernel, rfl⟩
theorem dX11_clause_75 : GgI mX11_clause 75 78 10 12 := ⟨12, rfl, ⟨147, _, by decide +kernel, rfl, rfl, by decide, tb_5 (List.mem_of_getElem? (i := 208) (by decide +kernel)) rfl⟩, by decide, rfl⟩
theorem dX11_clause_78 : Ins mX11_clause 78 (.iconst 1) 1 79 := ⟨by decide +kernel, rfl⟩
theorem dX11_clause_79 : Ins mX11_clause 79 (.iadd) 1 80 := ⟨by decide +kernel, rfl⟩
theorem dX11_clause_80 : Ins mX11_clause 80 (.iconst 4) 1 81 := ⟨by decide +kernel, rfl⟩
theorem dX11_clause_81 : Ins mX11_clause 81 (.iload_n 2) 1 82 := ⟨by decide +kernel, rfl⟩
theorem dX11_clause_82 : Ins mX11_clause 82 (.imul) 1 83 := ⟨by decide +kernel, rfl⟩
theorem dX11_clause_83 : Ins mX11_clause 83 (.iadd) 1 84 := ⟨by decide +kernel, rfl⟩
theorem dX11_clause_84 : Ins mX11_clause 84 (.istore_n 3) 1 85 := ⟨by decide +kernel, rfl⟩
theorem dX11_clause_85 : Ins mX11_clause 85 (.aload_n 0) 1 86 := ⟨by decide +kernel, rfl⟩
theorem dX11_clause_86 : GgR mX11_clause 86 89 10 2 := ⟨2, rfl, ⟨16, _, by decide +kernel, rfl, rfl, by decide, tb_5 (List.mem_of_getElem? (i := 198) (by decide +kernel)) rfl⟩, by decide, rfl⟩
theorem dX11_clause_89 : Ins mX11_clause 89 (.iload_n 3) 1 90 := ⟨by decide +kernel, rfl⟩
theorem dX11_clause_90 : Ins mX11_clause 90 (.iload_n 1) 1 91 := ⟨by decide +kernel, rfl⟩
theorem dX11_clause_91 : Ins mX11_clause 91 (.iastore) 1 92 := ⟨by decide +kernel, rfl⟩
theorem dX11_clause_92 : Ins mX11_clause 92 (.aload_n 0) 1 93 := ⟨by decide +kernel, rfl⟩
theorem dX11_clause_93 : Ins mX11_clause 93 (.iload_n 1) 1 94 := ⟨by decide +kernel, rfl⟩
theorem dX11_clause_94 : Ins mX11_clause 94 (.iload_n 3) 1 95 := ⟨by decide +kernel, rfl⟩
theorem dX11_clause_95 : CalV mX11_clause 95 98 mX11_body := ⟨247, by decide +kernel, rfl, tb_6 (List.mem_of_getElem? (i := 138) (by decide +kernel)) rfl, meX11_body⟩
theorem dX11_clause_98 : Ins mX11_clause 98 (.istore 4) 2 100 := ⟨by decide +kernel, rfl⟩
theorem dX11_clause_100 : Ins mX11_clause 100 (.iload 4) 2 102 := ⟨by decide +kernel, rfl⟩
theorem dX11_clause_102 : Ins mX11_clause 102 (.ifCond .eq 6) 3 105 := ⟨by decide +kernel, rfl⟩
theorem dX11_clause_105 : Ins mX11_clause 105 (.iload 4) 2 107 := ⟨by decide +kernel, rfl⟩
theorem dX11_clause_107 : Ins mX11_clause 107 (.ireturn) 1 108 := ⟨by decide +kernel, rfl⟩
theorem dX11_clause_108 : Ins mX11_clause 108 (.aload_n 0) 1 109 := ⟨by decide +kernel, rfl⟩
theorem dX11_clause_109 : GgR mX11_clause 109 112 10 2 := ⟨2, rfl, ⟨16, _, by decide +kernel, rfl, rfl, by decide, tb_5 (List.mem_of_getElem? (i := 198) (by decide +kernel)) rfl⟩, by decide, rfl⟩
theorem dX11_clause_112 : Ins mX11_clause 112 (.aload_n 0) 1 113 := ⟨by decide +kernel, rfl⟩
theorem dX11_clause_113 : GgI mX11_clause 113 116 10 12 := ⟨12, rfl, ⟨147, _, by decide +kernel, rfl, rfl, by decide, tb_5 (List.mem_of_getElem? (i := 208) (by decide +kernel)) rfl⟩, by decide, rfl⟩
theorem dX11_clause_116 : Ins mX11_clause 116 (.dup2) 1 117 := ⟨by decide +kernel, rfl⟩
theorem dX11_clause_117 : Ins mX11_clause 117 (.iaload) 1 118 := ⟨by decide +kernel, rfl⟩
theorem dX11_clause_118 : Ins mX11_clause 118 (.iconst 1) 1 119 := ⟨by decide +kernel, rfl⟩
theorem dX11_clause_119 : Ins mX11_clause 119 (.iadd) 1 120 := ⟨by decide +kernel, rfl⟩
theorem dX11_clause_120 : Ins mX11_clause 120 (.iastore) 1 121 := ⟨by decide +kernel, rfl⟩
theorem dX11_clause_121 : Ins mX11_clause 121 (.aload_n 0) 1 122 := ⟨by decide +kernel, rfl⟩
theorem dX11_clause_122 : GgI mX11_clause 122 125 10 9 := ⟨9, rfl, ⟨108, _, by decide +kernel, rfl, rfl, by decide, tb_5 (List.mem_of_getElem? (i := 205) (by decide +kernel)) rfl⟩, by decide, rfl⟩
theorem dX11_clause_125 : Ins mX11_clause 125 (.bipush 59) 2 127 := ⟨by decide +kernel, rfl⟩
theorem dX11_clause_127 : Ins mX11_clause 127 (.if_icmp .eq 5) 3 130 := ⟨by decide +kernel, rfl⟩
theorem dX11_clause_130 : Ins mX11_clause 130 (.iconst 1) 1 131 := ⟨by decide +kernel, rfl⟩
theorem dX11_clause_131 : Ins mX11_clause 131 (.ireturn) 1 132 := ⟨by decide +kernel, rfl⟩
theorem dX11_clause_132 : Ins mX11_clause 132 (.aload_n 0) 1 133 := ⟨by decide +kernel, rfl⟩
theorem dX11_clause_133 : CalV mX11_clause 133 136 mX11_nextToken := ⟨184, by decide +kernel, rfl, tb_6 (List.mem_of_getElem? (i := 89) (by decide +kernel)) rfl, meX11_nextToken⟩
theorem dX11_clause_136 : Ins mX11_clause 136 (.iconst 0) 1 137 := ⟨by decide +kernel, rfl⟩
theorem dX11_clause_137 : Ins mX11_clause 137 (.ireturn) 1 138 := ⟨by decide +kernel, rfl⟩
theorem dX11_readText_0 : Ins mX11_readText 0 (.aload_n 0) 1 1 := ⟨by decide +kernel, rfl⟩
theorem dX11_readText_1 : Ins mX11_readText 1 (.sipush 705) 3 4 := ⟨by decide +kernel, rfl⟩
theorem dX11_readText_4 : Ins mX11_readText 4 (.aload_n 0) 1 5 := ⟨by decide +kernel, rfl⟩
theorem dX11_readText_5 : GgR mX11_readText 5 8 10 0 := ⟨0, rfl, ⟨7, _, by decide +kernel, rfl, rfl, by decide, tb_5 (List.mem_of_getElem? (i := 196) (by decide +kernel)) rfl⟩, by decide, rfl⟩
theorem dX11_readText_8 : Ins mX11_readText 8 (.iconst 2) 1 9 := ⟨by decide +kernel, rfl⟩
theorem dX11_readText_9 : Ins mX11_readText 9 (.iaload) 1 10 := ⟨by decide +kernel, rfl⟩
theorem dX11_readText_10 : Ins mX11_readText 10 (.imul) 1 11 := ⟨by decide +kernel, rfl⟩
theorem dX11_readText_11 : GpI mX11_readText 11 14 10 12 := ⟨12, rfl, ⟨147, _, by decide +kernel, rfl, rfl, by decide, tb_5 (List.mem_of_getElem? (i := 208) (by decide +kernel)) rfl, by decide +kernel, Or.inl rfl⟩, by decide, rfl⟩
theorem dX11_readText_14 : Ins mX11_readText 14 (.aload_n 0) 1 15 := ⟨by decide +kernel, rfl⟩
theorem dX11_readText_15 : GgR mX11_readText 15 18 10 2 := ⟨2, rfl, ⟨16, _, by decide +kernel, rfl, rfl, by decide, tb_5 (List.mem_of_getElem? (i := 198) (by decide +kernel)) rfl⟩, by decide, rfl⟩
theorem dX11_readText_18 : Ins mX11_readText 18 (.aload_n 0) 1 19 := ⟨by decide +kernel, rfl⟩
theorem dX11_readText_19 : GgI mX11_readText 19 22 10 12 := ⟨12, rfl, ⟨147, _, by decide +kernel, rfl, rfl, by decide, tb_5 (List.mem_of_getElem? (i := 208) (by decide +kernel)) rfl⟩, by decide, rfl⟩
theorem dX11_readText_22 : Ins mX11_readText 22 (.iconst 0) 1 23 := ⟨by decide +kernel, rfl⟩
theorem dX11_readText_23 : Ins mX11_readText 23 (.iastore) 1 24 := ⟨by decide +kernel, rfl⟩
theorem dX11_readText_24 : Ins mX11_readText 24 (.aload_n 0) 1 25 := ⟨by decide +kernel, rfl⟩
theorem dX11_readText_25 : Ins mX11_readText 25 (.iconst 0) 1 26 := ⟨by decide +kernel, rfl⟩
theorem dX11_readText_26 : GpI mX11_readText 26 29 10 13 := ⟨13, rfl, ⟨150, _, by decide +kernel, rfl, rfl, by decide, tb_5 (List.mem_of_getElem? (i := 209) (by decide +kernel)) rfl, by decide +kernel, Or.inl rfl⟩, by decide, rfl⟩
theorem dX11_readText_29 : Ins mX11_readText 29 (.aload_n 0) 1 30 := ⟨by decide +kernel, rfl⟩
theorem dX11_readText_30 : Ins mX11_readText 30 (.iconst 0) 1 31 := ⟨by decide +kernel, rfl⟩
theorem dX11_readText_31 : GpI mX11_readText 31 34 10 19 := ⟨19, rfl, ⟨244, _, by decide +kernel, rfl, rfl, by decide, tb_5 (List.mem_of_getElem? (i := 215) (by decide +kernel)) rfl, by decide +kernel, Or.inl rfl⟩, by decide, rfl⟩
theorem dX11_readText_34 : Ins mX11_readText 34 (.aload_n 0) 1 35 := ⟨by decide +kernel, rfl⟩
theorem dX11_readText_35 : Ins mX11_readText 35 (.iconst 0) 1 36 := ⟨by decide +kernel, rfl⟩
theorem dX11_readText_36 : GpI mX11_readText 36 39 10 7 := ⟨7, rfl, ⟨99, _, by decide +kernel, rfl, rfl, by decide, tb_5 (List.mem_of_getElem? (i := 203) (by decide +kernel)) rfl, by decide +kernel, Or.inl rfl⟩, by decide, rfl⟩
theorem dX11_readText_39 : Ins mX11_readText 39 (.aload_n 0) 1 40 := ⟨by decide +kernel, rfl⟩
theorem dX11_readText_40 : CalV mX11_readText 40 43 mX11_nextToken := ⟨184, by decide +kernel, rfl, tb_6 (List.mem_of_getElem? (i := 89) (by decide +kernel)) rfl, meX11_nextToken⟩
theorem dX11_readText_43 : Ins mX11_readText 43 (.aload_n 0) 1 44 := ⟨by decide +kernel, rfl⟩
theorem dX11_readText_44 : GgI mX11_readText 44 47 10 9 := ⟨9, rfl, ⟨108, _, by decide +kernel, rfl, rfl, by decide, tb_5 (List.mem_of_getElem? (i := 205) (by decide +kernel)) rfl⟩, by decide, rfl⟩
theorem dX11_readText_47 : Ins mX11_readText 47 (.ifCond .eq 17) 3 50 := ⟨by decide +kernel, rfl⟩
theorem dX11_readText_50 : Ins mX11_readText 50 (.aload_n 0) 1 51 := ⟨by decide +kernel, rfl⟩
theorem dX11_readText_51 : CalV mX11_readText 51 54 mX11_clause := ⟨250, by decide +kernel, rfl, tb_6 (List.mem_of_getElem? (i := 108) (by decide +kernel)) rfl, meX11_clause⟩
theorem dX11_readText_54 : Ins mX11_readText 54 (.istore_n 1) 1 55 := ⟨by decide +kernel, rfl⟩
theorem dX11_readText_55 : Ins mX11_readText 55 (.iload_n 1) 1 56 := ⟨by decide +kernel, rfl⟩
theorem dX11_readText_56 : Ins mX11_readText 56 (.ifCond .eq 5) 3 59 := ⟨by decide +kernel, rfl⟩
theorem dX11_readText_59 : Ins mX11_readText 59 (.iload_n 1) 1 60 := ⟨by decide +kernel, rfl⟩
theorem dX11_readText_60 : Ins mX11_readText 60 (.ireturn) 1 61 := ⟨by decide +kernel, rfl⟩
theorem dX11_readText_61 : Ins mX11_readText 61 (.goto (-18)) 3 64 := ⟨by decide +kernel, rfl⟩
theorem dX11_readText_64 : Ins mX11_readText 64 (.iconst 0) 1 65 := ⟨by decide +kernel, rfl⟩
theorem dX11_readText_65 : Ins mX11_readText 65 (.ireturn) 1 66 := ⟨by decide +kernel, rfl⟩
theorem dX11_text_0 : Ins mX11_text 0 (.aload_n 0) 1 1 := ⟨by decide +kernel, rfl⟩
theorem dX11_text_1 : GgR mX11_text 1 4 10 0 := ⟨0, rfl, ⟨7, _, by decide +kernel, rfl, rfl, by decide, tb_5 (List.mem_of_getElem? (i := 196) (by decide +kernel)) rfl⟩, by decide, rfl⟩
theorem dX11_text_4 : Ins mX11_text 4 (.iconst 2) 1 5 := ⟨by decide +kernel, rfl⟩
theorem dX11_text_5 : Ins mX11_text 5 (.iaload) 1 6 := ⟨by decide +kernel, rfl⟩
theorem dX11_text_6 : Ins mX11_text 6 (.iconst 4) 1 7 := ⟨by decide +kernel, rfl⟩
theorem dX11_text_7 : Ins mX11_text 7 (.if_icmp .ne 5) 3 10 := ⟨by decide +kernel, rfl⟩
theorem dX11_text_10 : Ins mX11_text 10 (.iconst (-1)) 1 11 := ⟨by decide +kernel, rfl⟩
theorem dX11_text_11 : Ins mX11_text 11 (.ireturn) 1 12 := ⟨by decide +kernel, rfl⟩
theorem dX11_text_12 : Ins mX11_text 12 (.aload_n 0) 1 13 := ⟨by decide +kernel, rfl⟩
theorem dX11_text_13 : Ins mX11_text 13 (.aload_n 0) 1 14 := ⟨by decide +kernel, rfl⟩
theorem dX11_text_14 : CalV mX11_text 14 17 mX11_readText := ⟨253, by decide +kernel, rfl, tb_6 (List.mem_of_getElem? (i := 85) (by decide +kernel)) rfl, meX11_readText⟩
theorem dX11_text_17 : GpI mX11_text 17 20 10 5 := ⟨5, rfl, ⟨22, _, by decide +kernel, rfl, rfl, by decide, tb_5 (List.mem_of_getElem? (i := 201) (by decide +kernel)) rfl, by decide +kernel, Or.inl rfl⟩, by decide, rfl⟩
theorem dX11_text_20 : Ins mX11_text 20 (.aload_n 0) 1 21 := ⟨by decide +kernel, rfl⟩
theorem dX11_text_21 : Ins mX11_text 21 (.aload_n 0) 1 22 := ⟨by decide +kernel, rfl⟩
theorem dX11_text_22 : GgI mX11_text 22 25 10 5 := ⟨5, rfl, ⟨22, _, by decide +kernel, rfl, rfl, by decide, tb_5 (List.mem_of_getElem? (i := 201) (by decide +kernel)) rfl⟩, by decide, rfl⟩
theorem dX11_text_25 : Ins mX11_text 25 (.ifCond .ne 7) 3 28 := ⟨by decide +kernel, rfl⟩
theorem dX11_text_28 : Ins mX11_text 28 (.iconst (-1)) 1 29 := ⟨by decide +kernel, rfl⟩
theorem dX11_text_29 : Ins mX11_text 29 (.goto 7) 3 32 := ⟨by decide +kernel, rfl⟩
theorem dX11_text_32 : Ins mX11_text 32 (.aload_n 0) 1 33 := ⟨by decide +kernel, rfl⟩
theorem dX11_text_33 : GgI mX11_text 33 36 10 8 := ⟨8, rfl, ⟨105, _, by decide +kernel, rfl, rfl, by decide, tb_5 (List.mem_of_getElem? (i := 204) (by decide +kernel)) rfl⟩, by decide, rfl⟩
theorem dX11_text_36 : GpI mX11_text 36 39 10 6 := ⟨6, rfl, ⟨26, _, by decide +kernel, rfl, rfl, by decide, tb_5 (List.mem_of_getElem? (i := 202) (by decide +kernel)) rfl, by decide +kernel, Or.inl rfl⟩, by decide, rfl⟩
theorem dX11_text_39 : Ins mX11_text 39 (.aload_n 0) 1 40 := ⟨by decide +kernel, rfl⟩
theorem dX11_text_40 : Ins mX11_text 40 (.iconst 0) 1 41 := ⟨by decide +kernel, rfl⟩
theorem dX11_text_41 : GpI mX11_text 41 44 10 4 := ⟨4, rfl, ⟨92, _, by decide +kernel, rfl, rfl, by decide, tb_5 (List.mem_of_getElem? (i := 200) (by decide +kernel)) rfl, by decide +kernel, Or.inl rfl⟩, by decide, rfl⟩
theorem dX11_text_44 : Ins mX11_text 44 (.aload_n 0) 1 45 := ⟨by decide +kernel, rfl⟩
theorem dX11_text_45 : GgI mX11_text 45 48 10 5 := ⟨5, rfl, ⟨22, _, by decide +kernel, rfl, rfl, by decide, tb_5 (List.mem_of_getElem? (i := 201) (by decide +kernel)) rfl⟩, by decide, rfl⟩
theorem dX11_text_48 : Ins mX11_text 48 (.ifCond .eq 5) 3 51 := ⟨by decide +kernel, rfl⟩
theorem dX11_text_51 : Ins mX11_text 51 (.iconst (-1)) 1 52 := ⟨by decide +kernel, rfl⟩
theorem dX11_text_52 : Ins mX11_text 52 (.ireturn) 1 53 := ⟨by decide +kernel, rfl⟩
theorem dX11_text_53 : Ins mX11_text 53 (.aload_n 0) 1 54 := ⟨by decide +kernel, rfl⟩
theorem dX11_text_54 : GgR mX11_text 54 57 10 0 := ⟨0, rfl, ⟨7, _, by decide +kernel, rfl, rfl, by decide, tb_5 (List.mem_of_getElem? (i := 196) (by decide +kernel)) rfl⟩, by decide, rfl⟩
theorem dX11_text_57 : Ins mX11_text 57 (.iconst 2) 1 58 := ⟨by decide +kernel, rfl⟩
theorem dX11_text_58 : Ins mX11_text 58 (.dup2) 1 59 := ⟨by decide +kernel, rfl⟩
theorem dX11_text_59 : Ins mX11_text 59 (.iaload) 1 60 := ⟨by decide +kernel, rfl⟩
theorem dX11_text_60 : Ins mX11_text 60 (.iconst 1) 1 61 := ⟨by decide +kernel, rfl⟩
theorem dX11_text_61 : Ins mX11_text 61 (.iadd) 1 62 := ⟨by decide +kernel, rfl⟩
theorem dX11_text_62 : Ins mX11_text 62 (.iastore) 1 63 := ⟨by decide +kernel, rfl⟩
theorem dX11_text_63 : Ins mX11_text 63 (.aload_n 0) 1 64 := ⟨by decide +kernel, rfl⟩
theorem dX11_text_64 : GgR mX11_text 64 67 10 0 := ⟨0, rfl, ⟨7, _, by decide +kernel, rfl, rfl, by decide, tb_5 (List.mem_of_getElem? (i := 196) (by decide +kernel)) rfl⟩, by decide, rfl⟩
theorem dX11_text_67 : Ins mX11_text 67 (.iconst 2) 1 68 := ⟨by decide +kernel, rfl⟩
theorem dX11_text_68 : Ins mX11_text 68 (.iaload) 1 69 := ⟨by decide +kernel, rfl⟩
theorem dX11_text_69 : Ins mX11_text 69 (.iconst 1) 1 70 := ⟨by decide +kernel, rfl⟩
theorem dX11_text_70 : Ins mX11_text 70 (.isub) 1 71 := ⟨by decide +kernel, rfl⟩
theorem dX11_text_71 : Ins mX11_text 71 (.ireturn) 1 72 := ⟨by decide +kernel, rfl⟩
theorem dX11_fault_0 : Ins mX11_fault 0 (.iload_n 1) 1 1 := ⟨by decide +kernel, rfl⟩
theorem dX11_fault_1 : Ins mX11_fault 1 (.ifCond .ne 10) 3 4 := ⟨by decide +kernel, rfl⟩
theorem dX11_fault_4 : Ins mX11_fault 4 (.aload_n 0) 1 5 := ⟨by decide +kernel, rfl⟩
theorem dX11_fault_5 : GgI mX11_fault 5 8 10 5 := ⟨5, rfl, ⟨22, _, by decide +kernel, rfl, rfl, by decide, tb_5 (List.mem_of_getElem? (i := 201) (by decide +kernel)) rfl⟩, by decide, rfl⟩
theorem dX11_fault_8 : Ins mX11_fault 8 (.goto 16) 3 11 := ⟨by decide +kernel, rfl⟩
theorem dX11_fault_11 : Ins mX11_fault 11 (.iload_n 1) 1 12 := ⟨by decide +kernel, rfl⟩
theorem dX11_fault_12 : Ins mX11_fault 12 (.iconst 1) 1 13 := ⟨by decide +kernel, rfl⟩
theorem dX11_fault_13 : Ins mX11_fault 13 (.if_icmp .ne 10) 3 16 := ⟨by decide +kernel, rfl⟩
theorem dX11_fault_16 : Ins mX11_fault 16 (.aload_n 0) 1 17 := ⟨by decide +kernel, rfl⟩
theorem dX11_fault_17 : GgI mX11_fault 17 20 10 6 := ⟨6, rfl, ⟨26, _, by decide +kernel, rfl, rfl, by decide, tb_5 (List.mem_of_getElem? (i := 202) (by decide +kernel)) rfl⟩, by decide, rfl⟩
theorem dX11_fault_20 : Ins mX11_fault 20 (.goto 4) 3 23 := ⟨by decide +kernel, rfl⟩
theorem dX11_fault_23 : Ins mX11_fault 23 (.iconst (-1)) 1 24 := ⟨by decide +kernel, rfl⟩
theorem dX11_fault_24 : Ins mX11_fault 24 (.ireturn) 1 25 := ⟨by decide +kernel, rfl⟩
theorem dX11_by_0 : Ins mX11_by 0 (.iload_n 1) 1 1 := ⟨by decide +kernel, rfl⟩
theorem dX11_by_1 : Ins mX11_by 1 (.iconst (-1)) 1 2 := ⟨by decide +kernel, rfl⟩
theorem dX11_by_2 : Ins mX11_by 2 (.aload_n 0) 1 3 := ⟨by decide +kernel, rfl⟩
theorem dX11_by_3 : GgR mX11_by 3 6 10 0 := ⟨0, rfl, ⟨7, _, by decide +kernel, rfl, rfl, by decide, tb_5 (List.mem_of_getElem? (i := 196) (by decide +kernel)) rfl⟩, by decide, rfl⟩
theorem dX11_by_6 : Ins mX11_by 6 (.iconst 2) 1 7 := ⟨by decide +kernel, rfl⟩
theorem dX11_by_7 : Ins mX11_by 7 (.iaload) 1 8 := ⟨by decide +kernel, rfl⟩
theorem dX11_by_8 : Ins mX11_by 8 (.iconst 1) 1 9 := ⟨by decide +kernel, rfl⟩
theorem dX11_by_9 : Ins mX11_by 9 (.isub) 1 10 := ⟨by decide +kernel, rfl⟩
theorem dX11_by_10 : CalS mX11_by 10 13 mX11_isIn := ⟨63, by decide +kernel, rfl, Or.inl (tb_6 (List.mem_of_getElem? (i := 50) (by decide +kernel)) rfl), meX11_isIn⟩
theorem dX11_by_13 : Ins mX11_by 13 (.ifCond .ne 5) 3 16 := ⟨by decide +kernel, rfl⟩
theorem dX11_by_16 : Ins mX11_by 16 (.iconst 0) 1 17 := ⟨by decide +kernel, rfl⟩
theorem dX11_by_17 : Ins mX11_by 17 (.ireturn) 1 18 := ⟨by decide +kernel, rfl⟩
theorem dX11_by_18 : Ins mX11_by 18 (.aload_n 0) 1 19 := ⟨by decide +kernel, rfl⟩
theorem dX11_by_19 : GgR mX11_by 19 22 10 0 := ⟨0, rfl, ⟨7, _, by decide +kernel, rfl, rfl, by decide, tb_5 (List.mem_of_getElem? (i := 196) (by decide +kernel)) rfl⟩, by decide, rfl⟩
theorem dX11_by_22 : Ins mX11_by 22 (.iconst 3) 1 23 := ⟨by decide +kernel, rfl⟩
theorem dX11_by_23 : Ins mX11_by 23 (.iload_n 1) 1 24 := ⟨by decide +kernel, rfl⟩
theorem dX11_by_24 : Ins mX11_by 24 (.iastore) 1 25 := ⟨by decide +kernel, rfl⟩
theorem dX11_by_25 : Ins mX11_by 25 (.iconst 1) 1 26 := ⟨by decide +kernel, rfl⟩
theorem dX11_by_26 : Ins mX11_by 26 (.ireturn) 1 27 := ⟨by decide +kernel, rfl⟩
theorem dX11_clip_0 : Ins mX11_clip 0 (.lload_n 0) 1 1 := ⟨by decide +kernel, rfl⟩
theorem dX11_clip_1 : LdcL mX11_clip 1 4 (1000000) := ⟨256, _, by decide +kernel, rfl, tb_7 (List.mem_of_getElem? (i := 111) (by decide +kernel)) rfl, rfl⟩
theorem dX11_clip_4 : Ins mX11_clip 4 (.lcmp) 1 5 := ⟨by decide +kernel, rfl⟩
theorem dX11_clip_5 : Ins mX11_clip 5 (.ifCond .le 9) 3 8 := ⟨by decide +kernel, rfl⟩
theorem dX11_clip_8 : LdcL mX11_clip 8 11 (1000000) := ⟨256, _, by decide +kernel, rfl, tb_7 (List.mem_of_getElem? (i := 111) (by decide +kernel)) rfl, rfl⟩
theorem dX11_clip_11 : Ins mX11_clip 11 (.goto 18) 3 14 := ⟨by decide +kernel, rfl⟩
theorem dX11_clip_14 : Ins mX11_clip 14 (.lload_n 0) 1 15 := ⟨by decide +kernel, rfl⟩
theorem dX11_clip_15 : LdcL mX11_clip 15 18 (-1000000) := ⟨258, _, by decide +kernel, rfl, tb_7 (List.mem_of_getElem? (i := 112) (by decide +kernel)) rfl, rfl⟩
theorem dX11_clip_18 : Ins mX11_clip 18 (.lcmp) 1 19 := ⟨by decide +kernel, rfl⟩
theorem dX11_clip_19 : Ins mX11_clip 19 (.ifCond .ge 9) 3 22 := ⟨by decide +kernel, rfl⟩
theorem dX11_clip_22 : LdcL mX11_clip 22 25 (-1000000) := ⟨258, _, by decide +kernel, rfl, tb_7 (List.mem_of_getElem? (i := 112) (by decide +kernel)) rfl, rfl⟩
theorem dX11_clip_25 : Ins mX11_clip 25 (.goto 4) 3 28 := ⟨by decide +kernel, rfl⟩
theorem dX11_clip_28 : Ins mX11_clip 28 (.lload_n 0) 1 29 := ⟨by decide +kernel, rfl⟩
theorem dX11_clip_29 : Ins mX11_clip 29 (.lreturn) 1 30 := ⟨by decide +kernel, rfl⟩
theorem dX11_two_0 : Ins mX11_two 0 (.iload_n 0) 1 1 := ⟨by decide +kernel, rfl⟩
theorem dX11_two_1 : Ins mX11_two 1 (.tableswitch 48 6 8 #[27, 34, 41]) 27 28 := ⟨by decide +kernel, rfl⟩
theorem dX11_two_28 : Ins mX11_two 28 (.lload_n 1) 1 29 := ⟨by decide +kernel, rfl⟩
theorem dX11_two_29 : Ins mX11_two 29 (.lload_n 3) 1 30 := ⟨by decide +kernel, rfl⟩
theorem dX11_two_30 : Ins mX11_two 30 (.ladd) 1 31 := ⟨by decide +kernel, rfl⟩
theorem dX11_two_31 : CalS mX11_two 31 34 mX11_clip := ⟨260, by decide +kernel, rfl, Or.inl (tb_7 (List.mem_of_getElem? (i := 108) (by decide +kernel)) rfl), meX11_clip⟩
theorem dX11_two_34 : Ins mX11_two 34 (.lreturn) 1 35 := ⟨by decide +kernel, rfl⟩
theorem dX11_two_35 : Ins mX11_two 35 (.lload_n 1) 1 36 := ⟨by decide +kernel, rfl⟩
theorem dX11_two_36 : Ins mX11_two 36 (.lload_n 3) 1 37 := ⟨by decide +kernel, rfl⟩
theorem dX11_two_37 : Ins mX11_two 37 (.lsub) 1 38 := ⟨by decide +kernel, rfl⟩
theorem dX11_two_38 : CalS mX11_two 38 41 mX11_clip := ⟨260, by decide +kernel, rfl, Or.inl (tb_7 (List.mem_of_getElem? (i := 108) (by decide +kernel)) rfl), meX11_clip⟩
theorem dX11_two_41 : Ins mX11_two 41 (.lreturn) 1 42 := ⟨by decide +kernel, rfl⟩
theorem dX11_two_42 : Ins mX11_two 42 (.lload_n 1) 1 43 := ⟨by decide +kernel, rfl⟩
theorem dX11_two_43 : Ins mX11_two 43 (.lload_n 3) 1 44 := ⟨by decide +kernel, rfl⟩
theorem dX11_two_44 : Ins mX11_two 44 (.lmul) 1 45 := ⟨by decide +kernel, rfl⟩
theorem dX11_two_45 : CalS mX11_two 45 48 mX11_clip := ⟨260, by decide +kernel, rfl, Or.inl (tb_7 (List.mem_of_getElem? (i := 108) (by decide +kernel)) rfl), meX11_clip⟩
theorem dX11_two_48 : Ins mX11_two 48 (.lreturn) 1 49 := ⟨by decide +kernel, rfl⟩
theorem dX11_two_49 : Ins mX11_two 49 (.lload_n 3) 1 50 := ⟨by decide +kernel, rfl⟩
theorem dX11_two_50 : Ins mX11_two 50 (.lconst 0) 1 51 := ⟨by decide +kernel, rfl⟩
theorem dX11_two_51 : Ins mX11_two 51 (.lcmp) 1 52 := ⟨by decide +kernel, rfl⟩
theorem dX11_two_52 : Ins mX11_two 52 (.ifCond .ne 7) 3 55 := ⟨by decide +kernel, rfl⟩
theorem dX11_two_55 : Ins mX11_two 55 (.lconst 0) 1 56 := ⟨by decide +kernel, rfl⟩
theorem dX11_two_56 : Ins mX11_two 56 (.goto 9) 3 59 := ⟨by decide +kernel, rfl⟩
theorem dX11_two_59 : Ins mX11_two 59 (.lload_n 1) 1 60 := ⟨by decide +kernel, rfl⟩
theorem dX11_two_60 : Ins mX11_two 60 (.lload_n 3) 1 61 := ⟨by decide +kernel, rfl⟩
theorem dX11_two_61 : Ins mX11_two 61 (.ldiv) 1 62 := ⟨by decide +kernel, rfl⟩
theorem dX11_two_62 : CalS mX11_two 62 65 mX11_clip := ⟨260, by decide +kernel, rfl, Or.inl (tb_7 (List.mem_of_getElem? (i := 108) (by decide +kernel)) rfl), meX11_clip⟩
theorem dX11_two_65 : Ins mX11_two 65 (.lreturn) 1 66 := ⟨by decide +kernel, rfl⟩
theorem dX11_isAsked_0 : Ins mX11_isAsked 0 (.iload_n 0) 1 1 := ⟨by decide +kernel, rfl⟩
theorem dX11_isAsked_1 : Ins mX11_isAsked 1 (.bipush 10) 2 3 := ⟨by decide +kernel, rfl⟩
theorem dX11_isAsked_3 : Ins mX11_isAsked 3 (.if_icmp .ne 17) 3 6 := ⟨by decide +kernel, rfl⟩
theorem dX11_isAsked_6 : Ins mX11_isAsked 6 (.lload_n 1) 1 7 := ⟨by decide +kernel, rfl⟩
theorem dX11_isAsked_7 : Ins mX11_isAsked 7 (.lload_n 3) 1 8 := ⟨by decide +kernel, rfl⟩
theorem dX11_isAsked_8 : Ins mX11_isAsked 8 (.lcmp) 1 9 := ⟨by decide +kernel, rfl⟩
theorem dX11_isAsked_9 : Ins mX11_isAsked 9 (.ifCond .ge 7) 3 12 := ⟨by decide +kernel, rfl⟩
theorem dX11_isAsked_12 : Ins mX11_isAsked 12 (.iconst 1) 1 13 := ⟨by decide +kernel, rfl⟩
theorem dX11_isAsked_13 : Ins mX11_isAsked 13 (.goto 98) 3 16 := ⟨by decide +kernel, rfl⟩
theorem dX11_isAsked_16 : Ins mX11_isAsked 16 (.iconst 0) 1 17 := ⟨by decide +kernel, rfl⟩
theorem dX11_isAsked_17 : Ins mX11_isAsked 17 (.goto 94) 3 20 := ⟨by decide +kernel, rfl⟩
theorem dX11_isAsked_20 : Ins mX11_isAsked 20 (.iload_n 0) 1 21 := ⟨by decide +kernel, rfl⟩
theorem dX11_isAsked_21 : Ins mX11_isAsked 21 (.bipush 11) 2 23 := ⟨by decide +kernel, rfl⟩
theorem dX11_isAsked_23 : Ins mX11_isAsked 23 (.if_icmp .ne 17) 3 26 := ⟨by decide +kernel, rfl⟩
theorem dX11_isAsked_26 : Ins mX11_isAsked 26 (.lload_n 1) 1 27 := ⟨by decide +kernel, rfl⟩
theorem dX11_isAsked_27 : Ins mX11_isAsked 27 (.lload_n 3) 1 28 := ⟨by decide +kernel, rfl⟩
theorem dX11_isAsked_28 : Ins mX11_isAsked 28 (.lcmp) 1 29 := ⟨by decide +kernel, rfl⟩
theorem dX11_isAsked_29 : Ins mX11_isAsked 29 (.ifCond .gt 7) 3 32 := ⟨by decide +kernel, rfl⟩
theorem dX11_isAsked_32 : Ins mX11_isAsked 32 (.iconst 1) 1 33 := ⟨by decide +kernel, rfl⟩
theorem dX11_isAsked_33 : Ins mX11_isAsked 33 (.goto 78) 3 36 := ⟨by decide +kernel, rfl⟩
theorem dX11_isAsked_36 : Ins mX11_isAsked 36 (.iconst 0) 1 37 := ⟨by decide +kernel, rfl⟩
theorem dX11_isAsked_37 : Ins mX11_isAsked 37 (.goto 74) 3 40 := ⟨by decide +kernel, rfl⟩
theorem dX11_isAsked_40 : Ins mX11_isAsked 40 (.iload_n 0) 1 41 := ⟨by decide +kernel, rfl⟩
theorem dX11_isAsked_41 : Ins mX11_isAsked 41 (.bipush 12) 2 43 := ⟨by decide +kernel, rfl⟩
theorem dX11_isAsked_43 : Ins mX11_isAsked 43 (.if_icmp .ne 17) 3 46 := ⟨by decide +kernel, rfl⟩
theorem dX11_isAsked_46 : Ins mX11_isAsked 46 (.lload_n 1) 1 47 := ⟨by decide +kernel, rfl⟩
theorem dX11_isAsked_47 : Ins mX11_isAsked 47 (.lload_n 3) 1 48 := ⟨by decide +kernel, rfl⟩
theorem dX11_isAsked_48 : Ins mX11_isAsked 48 (.lcmp) 1 49 := ⟨by decide +kernel, rfl⟩
theorem dX11_isAsked_49 : Ins mX11_isAsked 49 (.ifCond .le 7) 3 52 := ⟨by decide +kernel, rfl⟩
theorem dX11_isAsked_52 : Ins mX11_isAsked 52 (.iconst 1) 1 53 := ⟨by decide +kernel, rfl⟩
theorem dX11_isAsked_53 : Ins mX11_isAsked 53 (.goto 58) 3 56 := ⟨by decide +kernel, rfl⟩
theorem dX11_isAsked_56 : Ins mX11_isAsked 56 (.iconst 0) 1 57 := ⟨by decide +kernel, rfl⟩
theorem dX11_isAsked_57 : Ins mX11_isAsked 57 (.goto 54) 3 60 := ⟨by decide +kernel, rfl⟩
theorem dX11_isAsked_60 : Ins mX11_isAsked 60 (.iload_n 0) 1 61 := ⟨by decide +kernel, rfl⟩
theorem dX11_isAsked_61 : Ins mX11_isAsked 61 (.bipush 13) 2 63 := ⟨by decide +kernel, rfl⟩
theorem dX11_isAsked_63 : Ins mX11_isAsked 63 (.if_icmp .ne 17) 3 66 := ⟨by decide +kernel, rfl⟩
theorem dX11_isAsked_66 : Ins mX11_isAsked 66 (.lload_n 1) 1 67 := ⟨by decide +kernel, rfl⟩
theorem dX11_isAsked_67 : Ins mX11_isAsked 67 (.lload_n 3) 1 68 := ⟨by decide +kernel, rfl⟩
theorem dX11_isAsked_68 : Ins mX11_isAsked 68 (.lcmp) 1 69 := ⟨by decide +kernel, rfl⟩
theorem dX11_isAsked_69 : Ins mX11_isAsked 69 (.ifCond .lt 7) 3 72 := ⟨by decide +kernel, rfl⟩
theorem dX11_isAsked_72 : Ins mX11_isAsked 72 (.iconst 1) 1 73 := ⟨by decide +kernel, rfl⟩
theorem dX11_isAsked_73 : Ins mX11_isAsked 73 (.goto 38) 3 76 := ⟨by decide +kernel, rfl⟩
theorem dX11_isAsked_76 : Ins mX11_isAsked 76 (.iconst 0) 1 77 := ⟨by decide +kernel, rfl⟩
theorem dX11_isAsked_77 : Ins mX11_isAsked 77 (.goto 34) 3 80 := ⟨by decide +kernel, rfl⟩
theorem dX11_isAsked_80 : Ins mX11_isAsked 80 (.iload_n 0) 1 81 := ⟨by decide +kernel, rfl⟩
theorem dX11_isAsked_81 : Ins mX11_isAsked 81 (.bipush 14) 2 83 := ⟨by decide +kernel, rfl⟩
theorem dX11_isAsked_83 : Ins mX11_isAsked 83 (.if_icmp .ne 17) 3 86 := ⟨by decide +kernel, rfl⟩
theorem dX11_isAsked_86 : Ins mX11_isAsked 86 (.lload_n 1) 1 87 := ⟨by decide +kernel, rfl⟩
theorem dX11_isAsked_87 : Ins mX11_isAsked 87 (.lload_n 3) 1 88 := ⟨by decide +kernel, rfl⟩
theorem dX11_isAsked_88 : Ins mX11_isAsked 88 (.lcmp) 1 89 := ⟨by decide +kernel, rfl⟩
theorem dX11_isAsked_89 : Ins mX11_isAsked 89 (.ifCond .ne 7) 3 92 := ⟨by decide +kernel, rfl⟩
theorem dX11_isAsked_92 : Ins mX11_isAsked 92 (.iconst 1) 1 93 := ⟨by decide +kernel, rfl⟩
theorem dX11_isAsked_93 : Ins mX11_isAsked 93 (.goto 18) 3 96 := ⟨by decide +kernel, rfl⟩
theorem dX11_isAsked_96 : Ins mX11_isAsked 96 (.iconst 0) 1 97 := ⟨by decide +kernel, rfl⟩
theorem dX11_isAsked_97 : Ins mX11_isAsked 97 (.goto 14) 3 100 := ⟨by decide +kernel, rfl⟩
theorem dX11_isAsked_100 : Ins mX11_isAsked 100 (.lload_n 1) 1 101 := ⟨by decide +kernel, rfl⟩
theorem dX11_isAsked_101 : Ins mX11_isAsked 101 (.lload_n 3) 1 102 := ⟨by decide +kernel, rfl⟩
theorem dX11_isAsked_102 : Ins mX11_isAsked 102 (.lcmp) 1 103 := ⟨by decide +kernel, rfl⟩
theorem dX11_isAsked_103 : Ins mX11_isAsked 103 (.ifCond .eq 7) 3 106 := ⟨by decide +kernel, rfl⟩
theorem dX11_isAsked_106 : Ins mX11_isAsked 106 (.iconst 1) 1 107 := ⟨by decide +kernel, rfl⟩
theorem dX11_isAsked_107 : Ins mX11_isAsked 107 (.goto 4) 3 110 := ⟨by decide +kernel, rfl⟩
theorem dX11_isAsked_110 : Ins mX11_isAsked 110 (.iconst 0) 1 111 := ⟨by decide +kernel, rfl⟩
theorem dX11_isAsked_111 : Ins mX11_isAsked 111 (.ireturn) 1 112 := ⟨by decide +kernel, rfl⟩
theorem dX11_common_0 : Ins mX11_common 0 (.lload_n 0) 1 1 := ⟨by decide +kernel, rfl⟩
theorem dX11_common_1 : Ins mX11_common 1 (.lconst 0) 1 2 := ⟨by decide +kernel, rfl⟩
theorem dX11_common_2 : Ins mX11_common 2 (.lcmp) 1 3 := ⟨by decide +kernel, rfl⟩
theorem dX11_common_3 : Ins mX11_common 3 (.ifCond .ge 8) 3 6 := ⟨by decide +kernel, rfl⟩
theorem dX11_common_6 : Ins mX11_common 6 (.lload_n 0) 1 7 := ⟨by decide +kernel, rfl⟩
theorem dX11_common_7 : Ins mX11_common 7 (.lneg) 1 8 := ⟨by decide +kernel, rfl⟩
theorem dX11_common_8 : Ins mX11_common 8 (.goto 4) 3 11 := ⟨by decide +kernel, rfl⟩
theorem dX11_common_11 : Ins mX11_common 11 (.lload_n 0) 1 12 := ⟨by decide +kernel, rfl⟩
theorem dX11_common_12 : Ins mX11_common 12 (.lstore 4) 2 14 := ⟨by decide +kernel, rfl⟩
theorem dX11_common_14 : Ins mX11_common 14 (.lload_n 2) 1 15 := ⟨by decide +kernel, rfl⟩
theorem dX11_common_15 : Ins mX11_common 15 (.lconst 0) 1 16 := ⟨by decide +kernel, rfl⟩
theorem dX11_common_16 : Ins mX11_common 16 (.lcmp) 1 17 := ⟨by decide +kernel, rfl⟩
theorem dX11_common_17 : Ins mX11_common 17 (.ifCond .ge 8) 3 20 := ⟨by decide +kernel, rfl⟩
theorem dX11_common_20 : Ins mX11_common 20 (.lload_n 2) 1 21 := ⟨by decide +kernel, rfl⟩
theorem dX11_common_21 : Ins mX11_common 21 (.lneg) 1 22 := ⟨by decide +kernel, rfl⟩
theorem dX11_common_22 : Ins mX11_common 22 (.goto 4) 3 25 := ⟨by decide +kernel, rfl⟩
theorem dX11_common_25 : Ins mX11_common 25 (.lload_n 2) 1 26 := ⟨by decide +kernel, rfl⟩
theorem dX11_common_26 : Ins mX11_common 26 (.lstore 6) 2 28 := ⟨by decide +kernel, rfl⟩
theorem dX11_common_28 : Ins mX11_common 28 (.lload 6) 2 30 := ⟨by decide +kernel, rfl⟩
theorem dX11_common_30 : Ins mX11_common 30 (.lconst 0) 1 31 := ⟨by decide +kernel, rfl⟩
theorem dX11_common_31 : Ins mX11_common 31 (.lcmp) 1 32 := ⟨by decide +kernel, rfl⟩
theorem dX11_common_32 : Ins mX11_common 32 (.ifCond .eq 21) 3 35 := ⟨by decide +kernel, rfl⟩
theorem dX11_common_35 : Ins mX11_common 35 (.lload 4) 2 37 := ⟨by decide +kernel, rfl⟩
theorem dX11_common_37 : Ins mX11_common 37 (.lload 6) 2 39 := ⟨by decide +kernel, rfl⟩
theorem dX11_common_39 : Ins mX11_common 39 (.lrem) 1 40 := ⟨by decide +kernel, rfl⟩
theorem dX11_common_40 : Ins mX11_common 40 (.lstore 8) 2 42 := ⟨by decide +kernel, rfl⟩
theorem dX11_common_42 : Ins mX11_common 42 (.lload 6) 2 44 := ⟨by decide +kernel, rfl⟩
theorem dX11_common_44 : Ins mX11_common 44 (.lstore 4) 2 46 := ⟨by decide +kernel, rfl⟩
theorem dX11_common_46 : Ins mX11_common 46 (.lload 8) 2 48 := ⟨by decide +kernel, rfl⟩
theorem dX11_common_48 : Ins mX11_common 48 (.lstore 6) 2 50 := ⟨by decide +kernel, rfl⟩
theorem dX11_common_50 : Ins mX11_common 50 (.goto (-22)) 3 53 := ⟨by decide +kernel, rfl⟩
theorem dX11_common_53 : Ins mX11_common 53 (.lload 4) 2 55 := ⟨by decide +kernel, rfl⟩
theorem dX11_common_55 : Ins mX11_common 55 (.lreturn) 1 56 := ⟨by decide +kernel, rfl⟩
theorem dX11_prefixed_0 : Ins mX11_prefixed 0 (.iload_n 1) 1 1 := ⟨by decide +kernel, rfl⟩
theorem dX11_prefixed_1 : Ins mX11_prefixed 1 (.iconst 5) 1 2 := ⟨by decide +kernel, rfl⟩
theorem dX11_prefixed_2 : Ins mX11_prefixed 2 (.if_icmp .ne 6) 3 5 := ⟨by decide +kernel, rfl⟩
theorem dX11_prefixed_5 : Ins mX11_prefixed 5 (.lload_n 2) 1 6 := ⟨by decide +kernel, rfl⟩
theorem dX11_prefixed_6 : Ins mX11_prefixed 6 (.lneg) 1 7 := ⟨by decide +kernel, rfl⟩
theorem dX11_prefixed_7 : Ins mX11_prefixed 7 (.lreturn) 1 8 := ⟨by decide +kernel, rfl⟩
theorem dX11_prefixed_8 : Ins mX11_prefixed 8 (.iload_n 1) 1 9 := ⟨by decide +kernel, rfl⟩
theorem dX11_prefixed_9 : Ins mX11_prefixed 9 (.iconst 2) 1 10 := ⟨by decide +kernel, rfl⟩
theorem dX11_prefixed_10 : Ins mX11_prefixed 10 (.if_icmp .ne 27) 3 13 := ⟨by decide +kernel, rfl⟩
theorem dX11_prefixed_13 : Ins mX11_prefixed 13 (.lload_n 2) 1 14 := ⟨by decide +kernel, rfl⟩
theorem dX11_prefixed_14 : Ins mX11_prefixed 14 (.lconst 0) 1 15 := ⟨by decide +kernel, rfl⟩
theorem dX11_prefixed_15 : Ins mX11_prefixed 15 (.lcmp) 1 16 := ⟨by decide +kernel, rfl⟩
theorem dX11_prefixed_16 : Ins mX11_prefixed 16 (.ifCond .le 7) 3 19 := ⟨by decide +kernel, rfl⟩
theorem dX11_prefixed_19 : Ins mX11_prefixed 19 (.lconst 1) 1 20 := ⟨by decide +kernel, rfl⟩
theorem dX11_prefixed_20 : Ins mX11_prefixed 20 (.goto 16) 3 23 := ⟨by decide +kernel, rfl⟩
theorem dX11_prefixed_23 : Ins mX11_prefixed 23 (.lload_n 2) 1 24 := ⟨by decide +kernel, rfl⟩
theorem dX11_prefixed_24 : Ins mX11_prefixed 24 (.lconst 0) 1 25 := ⟨by decide +kernel, rfl⟩
theorem dX11_prefixed_25 : Ins mX11_prefixed 25 (.lcmp) 1 26 := ⟨by decide +kernel, rfl⟩
theorem dX11_prefixed_26 : Ins mX11_prefixed 26 (.ifCond .ge 9) 3 29 := ⟨by decide +kernel, rfl⟩
theorem dX11_prefixed_29 : LdcL mX11_prefixed 29 32 (-1) := ⟨264, _, by decide +kernel, rfl, tb_7 (List.mem_of_getElem? (i := 104) (by decide +kernel)) rfl, rfl⟩
theorem dX11_prefixed_32 : Ins mX11_prefixed 32 (.goto 4) 3 35 := ⟨by decide +kernel, rfl⟩
theorem dX11_prefixed_35 : Ins mX11_prefixed 35 (.lconst 0) 1 36 := ⟨by decide +kernel, rfl⟩
theorem dX11_prefixed_36 : Ins mX11_prefixed 36 (.lreturn) 1 37 := ⟨by decide +kernel, rfl⟩
theorem dX11_prefixed_37 : Ins mX11_prefixed 37 (.lload_n 2) 1 38 := ⟨by decide +kernel, rfl⟩
theorem dX11_prefixed_38 : Ins mX11_prefixed 38 (.lconst 0) 1 39 := ⟨by decide +kernel, rfl⟩
theorem dX11_prefixed_39 : Ins mX11_prefixed 39 (.lcmp) 1 40 := ⟨by decide +kernel, rfl⟩
theorem dX11_prefixed_40 : Ins mX11_prefixed 40 (.ifCond .lt 26) 3 43 := ⟨by decide +kernel, rfl⟩
theorem dX11_prefixed_43 : Ins mX11_prefixed 43 (.lload_n 2) 1 44 := ⟨by decide +kernel, rfl⟩
theorem dX11_prefixed_44 : Ins mX11_prefixed 44 (.aload_n 0) 1 45 := ⟨by decide +kernel, rfl⟩
theorem dX11_prefixed_45 : GgR mX11_prefixed 45 48 10 0 := ⟨0, rfl, ⟨7, _, by decide +kernel, rfl, rfl, by decide, tb_5 (List.mem_of_getElem? (i := 196) (by decide +kernel)) rfl⟩, by decide, rfl⟩
theorem dX11_prefixed_48 : Ins mX11_prefixed 48 (.iconst 0) 1 49 := ⟨by decide +kernel, rfl⟩
theorem dX11_prefixed_49 : Ins mX11_prefixed 49 (.iaload) 1 50 := ⟨by decide +kernel, rfl⟩
theorem dX11_prefixed_50 : Ins mX11_prefixed 50 (.i2l) 1 51 := ⟨by decide +kernel, rfl⟩
theorem dX11_prefixed_51 : Ins mX11_prefixed 51 (.lcmp) 1 52 := ⟨by decide +kernel, rfl⟩
theorem dX11_prefixed_52 : Ins mX11_prefixed 52 (.ifCond .ge 14) 3 55 := ⟨by decide +kernel, rfl⟩
theorem dX11_prefixed_55 : Ins mX11_prefixed 55 (.aload_n 0) 1 56 := ⟨by decide +kernel, rfl⟩
theorem dX11_prefixed_56 : Ins mX11_prefixed 56 (.lload_n 2) 1 57 := ⟨by decide +kernel, rfl⟩
theorem dX11_prefixed_57 : Ins mX11_prefixed 57 (.l2i) 1 58 := ⟨by decide +kernel, rfl⟩
theorem dX11_prefixed_58 : Ins mX11_prefixed 58 (.iconst 2) 1 59 := ⟨by decide +kernel, rfl⟩
theorem dX11_prefixed_59 : CalV mX11_prefixed 59 62 mX11_get := ⟨71, by decide +kernel, rfl, tb_6 (List.mem_of_getElem? (i := 233) (by decide +kernel)) rfl, meX11_get⟩
theorem dX11_prefixed_62 : Ins mX11_prefixed 62 (.i2l) 1 63 := ⟨by decide +kernel, rfl⟩
theorem dX11_prefixed_63 : Ins mX11_prefixed 63 (.goto 4) 3 66 := ⟨by decide +kernel, rfl⟩
theorem dX11_prefixed_66 : Ins mX11_prefixed 66 (.lconst 0) 1 67 := ⟨by decide +kernel, rfl⟩
theorem dX11_prefixed_67 : Ins mX11_prefixed 67 (.lreturn) 1 68 := ⟨by decide +kernel, rfl⟩
theorem dX11_joined_0 : Ins mX11_joined 0 (.iload_n 0) 1 1 := ⟨by decide +kernel, rfl⟩
theorem dX11_joined_1 : Ins mX11_joined 1 (.bipush 21) 2 3 := ⟨by decide +kernel, rfl⟩
theorem dX11_joined_3 : Ins mX11_joined 3 (.if_icmp .ne 19) 3 6 := ⟨by decide +kernel, rfl⟩
theorem dX11_joined_6 : Ins mX11_joined 6 (.iload_n 1) 1 7 := ⟨by decide +kernel, rfl⟩
theorem dX11_joined_7 : Ins mX11_joined 7 (.ifCond .eq 11) 3 10 := ⟨by decide +kernel, rfl⟩
theorem dX11_joined_10 : Ins mX11_joined 10 (.iload_n 2) 1 11 := ⟨by decide +kernel, rfl⟩
theorem dX11_joined_11 : Ins mX11_joined 11 (.ifCond .eq 7) 3 14 := ⟨by decide +kernel, rfl⟩
theorem dX11_joined_14 : Ins mX11_joined 14 (.iconst 1) 1 15 := ⟨by decide +kernel, rfl⟩
theorem dX11_joined_15 : Ins mX11_joined 15 (.goto 20) 3 18 := ⟨by decide +kernel, rfl⟩
theorem dX11_joined_18 : Ins mX11_joined 18 (.iconst 0) 1 19 := ⟨by decide +kernel, rfl⟩
theorem dX11_joined_19 : Ins mX11_joined 19 (.goto 16) 3 22 := ⟨by decide +kernel, rfl⟩
theorem dX11_joined_22 : Ins mX11_joined 22 (.iload_n 1) 1 23 := ⟨by decide +kernel, rfl⟩
theorem dX11_joined_23 : Ins mX11_joined 23 (.ifCond .ne 7) 3 26 := ⟨by decide +kernel, rfl⟩
theorem dX11_joined_26 : Ins mX11_joined 26 (.iload_n 2) 1 27 := ⟨by decide +kernel, rfl⟩
theorem dX11_joined_27 : Ins mX11_joined 27 (.ifCond .eq 7) 3 30 := ⟨by decide +kernel, rfl⟩
theorem dX11_joined_30 : Ins mX11_joined 30 (.iconst 1) 1 31 := ⟨by decide +kernel, rfl⟩
theorem dX11_joined_31 : Ins mX11_joined 31 (.goto 4) 3 34 := ⟨by decide +kernel, rfl⟩
theorem dX11_joined_34 : Ins mX11_joined 34 (.iconst 0) 1 35 := ⟨by decide +kernel, rfl⟩
theorem dX11_joined_35 : Ins mX11_joined 35 (.ireturn) 1 36 := ⟨by decide +kernel, rfl⟩
theorem dX11_summedUp_0 : Ins mX11_summedUp 0 (.sipush 705) 3 3 := ⟨by decide +kernel, rfl⟩
theorem dX11_summedUp_3 : Ins mX11_summedUp 3 (.iload_n 1) 1 4 := ⟨by decide +kernel, rfl⟩
theorem dX11_summedUp_4 : Ins mX11_summedUp 4 (.imul) 1 5 := ⟨by decide +kernel, rfl⟩
theorem dX11_summedUp_5 : Ins mX11_summedUp 5 (.iconst 1) 1 6 := ⟨by decide +kernel, rfl⟩
theorem dX11_summedUp_6 : Ins mX11_summedUp 6 (.iadd) 1 7 := ⟨by decide +kernel, rfl⟩
theorem dX11_summedUp_7 : Ins mX11_summedUp 7 (.iconst 4) 1 8 := ⟨by decide +kernel, rfl⟩
theorem dX11_summedUp_8 : Ins mX11_summedUp 8 (.iload_n 2) 1 9 := ⟨by decide +kernel, rfl⟩
theorem dX11_summedUp_9 : Ins mX11_summedUp 9 (.imul) 1 10 := ⟨by decide +kernel, rfl⟩
theorem dX11_summedUp_10 : Ins mX11_summedUp 10 (.iadd) 1 11 := ⟨by decide +kernel, rfl⟩
theorem dX11_summedUp_11 : Ins mX11_summedUp 11 (.istore_n 3) 1 12 := ⟨by decide +kernel, rfl⟩
theorem dX11_summedUp_12 : Ins mX11_summedUp 12 (.sipush 705) 3 15 := ⟨by decide +kernel, rfl⟩
theorem dX11_summedUp_15 : Ins mX11_summedUp 15 (.iload_n 1) 1 16 := ⟨by decide +kernel, rfl⟩
theorem dX11_summedUp_16 : Ins mX11_summedUp 16 (.imul) 1 17 := ⟨by decide +kernel, rfl⟩
theorem dX11_summedUp_17 : Ins mX11_summedUp 17 (.bipush 97) 2 19 := ⟨by decide +kernel, rfl⟩
theorem dX11_summedUp_19 : Ins mX11_summedUp 19 (.iadd) 1 20 := ⟨by decide +kernel, rfl⟩
theorem dX11_summedUp_20 : Ins mX11_summedUp 20 (.istore 4) 2 22 := ⟨by decide +kernel, rfl⟩
theorem dX11_summedUp_22 : Ins mX11_summedUp 22 (.iconst 0) 1 23 := ⟨by decide +kernel, rfl⟩
theorem dX11_summedUp_23 : Ins mX11_summedUp 23 (.istore 5) 2 25 := ⟨by decide +kernel, rfl⟩
theorem dX11_summedUp_25 : Ins mX11_summedUp 25 (.iconst 0) 1 26 := ⟨by decide +kernel, rfl⟩
theorem dX11_summedUp_26 : Ins mX11_summedUp 26 (.istore 6) 2 28 := ⟨by decide +kernel, rfl⟩
theorem dX11_summedUp_28 : Ins mX11_summedUp 28 (.aload_n 0) 1 29 := ⟨by decide +kernel, rfl⟩
theorem dX11_summedUp_29 : GgR mX11_summedUp 29 32 10 2 := ⟨2, rfl, ⟨16, _, by decide +kernel, rfl, rfl, by decide, tb_5 (List.mem_of_getElem? (i := 198) (by decide +kernel)) rfl⟩, by decide, rfl⟩
theorem dX11_summedUp_32 : Ins mX11_summedUp 32 (.iload_n 3) 1 33 := ⟨by decide +kernel, rfl⟩
theorem dX11_summedUp_33 : Ins mX11_summedUp 33 (.iconst 1) 1 34 := ⟨by decide +kernel, rfl⟩
theorem dX11_summedUp_34 : Ins mX11_summedUp 34 (.iadd) 1 35 := ⟨by decide +kernel, rfl⟩
theorem dX11_summedUp_35 : Ins mX11_summedUp 35 (.iaload) 1 36 := ⟨by decide +kernel, rfl⟩
theorem dX11_summedUp_36 : Ins mX11_summedUp 36 (.istore 7) 2 38 := ⟨by decide +kernel, rfl⟩
theorem dX11_summedUp_38 : Ins mX11_summedUp 38 (.iload 7) 2 40 := ⟨by decide +kernel, rfl⟩
theorem dX11_summedUp_40 : Ins mX11_summedUp 40 (.aload_n 0) 1 41 := ⟨by decide +kernel, rfl⟩
theorem dX11_summedUp_41 : GgR mX11_summedUp 41 44 10 2 := ⟨2, rfl, ⟨16, _, by decide +kernel, rfl, rfl, by decide, tb_5 (List.mem_of_getElem? (i := 198) (by decide +kernel)) rfl⟩, by decide, rfl⟩
theorem dX11_summedUp_44 : Ins mX11_summedUp 44 (.iload_n 3) 1 45 := ⟨by decide +kernel, rfl⟩
theorem dX11_summedUp_45 : Ins mX11_summedUp 45 (.iconst 2) 1 46 := ⟨by decide +kernel, rfl⟩
theorem dX11_summedUp_46 : Ins mX11_summedUp 46 (.iadd) 1 47 := ⟨by decide +kernel, rfl⟩
theorem dX11_summedUp_47 : Ins mX11_summedUp 47 (.iaload) 1 48 := ⟨by decide +kernel, rfl⟩
theorem dX11_summedUp_48 : Ins mX11_summedUp 48 (.if_icmp .ge 346) 3 51 := ⟨by decide +kernel, rfl⟩
theorem dX11_summedUp_51 : Ins mX11_summedUp 51 (.aload_n 0) 1 52 := ⟨by decide +kernel, rfl⟩
theorem dX11_summedUp_52 : GgR mX11_summedUp 52 55 10 2 := ⟨2, rfl, ⟨16, _, by decide +kernel, rfl, rfl, by decide, tb_5 (List.mem_of_getElem? (i := 198) (by decide +kernel)) rfl⟩, by decide, rfl⟩
theorem dX11_summedUp_55 : Ins mX11_summedUp 55 (.iload 4) 2 57 := ⟨by decide +kernel, rfl⟩
theorem dX11_summedUp_57 : Ins mX11_summedUp 57 (.iconst 2) 1 58 := ⟨by decide +kernel, rfl⟩
theorem dX11_summedUp_58 : Ins mX11_summedUp 58 (.iload 7) 2 60 := ⟨by decide +kernel, rfl⟩
theorem dX11_summedUp_60 : Ins mX11_summedUp 60 (.imul) 1 61 := ⟨by decide +kernel, rfl⟩
theorem dX11_summedUp_61 : Ins mX11_summedUp 61 (.iadd) 1 62 := ⟨by decide +kernel, rfl⟩
theorem dX11_summedUp_62 : Ins mX11_summedUp 62 (.iaload) 1 63 := ⟨by decide +kernel, rfl⟩
theorem dX11_summedUp_63 : Ins mX11_summedUp 63 (.istore 8) 2 65 := ⟨by decide +kernel, rfl⟩
theorem dX11_summedUp_65 : Ins mX11_summedUp 65 (.aload_n 0) 1 66 := ⟨by decide +kernel, rfl⟩
theorem dX11_summedUp_66 : GgR mX11_summedUp 66 69 10 2 := ⟨2, rfl, ⟨16, _, by decide +kernel, rfl, rfl, by decide, tb_5 (List.mem_of_getElem? (i := 198) (by decide +kernel)) rfl⟩, by decide, rfl⟩
theorem dX11_summedUp_69 : Ins mX11_summedUp 69 (.iload 4) 2 71 := ⟨by decide +kernel, rfl⟩
theorem dX11_summedUp_71 : Ins mX11_summedUp 71 (.iconst 2) 1 72 := ⟨by decide +kernel, rfl⟩
theorem dX11_summedUp_72 : Ins mX11_summedUp 72 (.iload 7) 2 74 := ⟨by decide +kernel, rfl⟩
theorem dX11_summedUp_74 : Ins mX11_summedUp 74 (.imul) 1 75 := ⟨by decide +kernel, rfl⟩
theorem dX11_summedUp_75 : Ins mX11_summedUp 75 (.iadd) 1 76 := ⟨by decide +kernel, rfl⟩
theorem dX11_summedUp_76 : Ins mX11_summedUp 76 (.iconst 1) 1 77 := ⟨by decide +kernel, rfl⟩
theorem dX11_summedUp_77 : Ins mX11_summedUp 77 (.iadd) 1 78 := ⟨by decide +kernel, rfl⟩
theorem dX11_summedUp_78 : Ins mX11_summedUp 78 (.iaload) 1 79 := ⟨by decide +kernel, rfl⟩
theorem dX11_summedUp_79 : Ins mX11_summedUp 79 (.istore 9) 2 81 := ⟨by decide +kernel, rfl⟩
theorem dX11_summedUp_81 : Ins mX11_summedUp 81 (.iload 8) 2 83 := ⟨by decide +kernel, rfl⟩
theorem dX11_summedUp_83 : Ins mX11_summedUp 83 (.iconst 1) 1 84 := ⟨by decide +kernel, rfl⟩
theorem dX11_summedUp_84 : Ins mX11_summedUp 84 (.if_icmp .gt 35) 3 87 := ⟨by decide +kernel, rfl⟩
theorem dX11_summedUp_87 : Ins mX11_summedUp 87 (.aload_n 0) 1 88 := ⟨by decide +kernel, rfl⟩
theorem dX11_summedUp_88 : GgR mX11_summedUp 88 91 10 21 := ⟨21, rfl, ⟨35, _, by decide +kernel, rfl, rfl, by decide, tb_5 (List.mem_of_getElem? (i := 217) (by decide +kernel)) rfl⟩, by decide, rfl⟩
theorem dX11_summedUp_91 : Ins mX11_summedUp 91 (.iload 5) 2 93 := ⟨by decide +kernel, rfl⟩
theorem dX11_summedUp_93 : Ins mX11_summedUp 93 (.iload 8) 2 95 := ⟨by decide +kernel, rfl⟩
theorem dX11_summedUp_95 : Ins mX11_summedUp 95 (.ifCond .ne 9) 3 98 := ⟨by decide +kernel, rfl⟩
theorem dX11_summedUp_98 : Ins mX11_summedUp 98 (.iload 9) 2 100 := ⟨by decide +kernel, rfl⟩
theorem dX11_summedUp_100 : Ins mX11_summedUp 100 (.i2l) 1 101 := ⟨by decide +kernel, rfl⟩
theorem dX11_summedUp_101 : Ins mX11_summedUp 101 (.goto 11) 3 104 := ⟨by decide +kernel, rfl⟩
theorem dX11_summedUp_104 : Ins mX11_summedUp 104 (.aload_n 0) 1 105 := ⟨by decide +kernel, rfl⟩
theorem dX11_summedUp_105 : GgR mX11_summedUp 105 108 10 20 := ⟨20, rfl, ⟨32, _, by decide +kernel, rfl, rfl, by decide, tb_5 (List.mem_of_getElem? (i := 216) (by decide +kernel)) rfl⟩, by decide, rfl⟩
theorem dX11_summedUp_108 : Ins mX11_summedUp 108 (.iload 9) 2 110 := ⟨by decide +kernel, rfl⟩
theorem dX11_summedUp_110 : Ins mX11_summedUp 110 (.iaload) 1 111 := ⟨by decide +kernel, rfl⟩
theorem dX11_summedUp_111 : Ins mX11_summedUp 111 (.i2l) 1 112 := ⟨by decide +kernel, rfl⟩
theorem dX11_summedUp_112 : Ins mX11_summedUp 112 (.lastore) 1 113 := ⟨by decide +kernel, rfl⟩
theorem dX11_summedUp_113 : Ins mX11_summedUp 113 (.iinc 5 1) 3 116 := ⟨by decide +kernel, rfl⟩
theorem dX11_summedUp_116 : Ins mX11_summedUp 116 (.goto 272) 3 119 := ⟨by decide +kernel, rfl⟩
theorem dX11_summedUp_119 : Ins mX11_summedUp 119 (.iload 8) 2 121 := ⟨by decide +kernel, rfl⟩
theorem dX11_summedUp_121 : Ins mX11_summedUp 121 (.iconst 4) 1 122 := ⟨by decide +kernel, rfl⟩
theorem dX11_summedUp_122 : Ins mX11_summedUp 122 (.if_icmp .ne 38) 3 125 := ⟨by decide +kernel, rfl⟩
theorem dX11_summedUp_125 : Ins mX11_summedUp 125 (.iinc 5 (-1)) 3 128 := ⟨by decide +kernel, rfl⟩
theorem dX11_summedUp_128 : Ins mX11_summedUp 128 (.iinc 6 (-1)) 3 131 := ⟨by decide +kernel, rfl⟩
theorem dX11_summedUp_131 : Ins mX11_summedUp 131 (.aload_n 0) 1 132 := ⟨by decide +kernel, rfl⟩
theorem dX11_summedUp_132 : GgR mX11_summedUp 132 135 10 22 := ⟨22, rfl, ⟨39, _, by decide +kernel, rfl, rfl, by decide, tb_5 (List.mem_of_getElem? (i := 218) (by decide +kernel)) rfl⟩, by decide, rfl⟩
theorem dX11_summedUp_135 : Ins mX11_summedUp 135 (.iload 6) 2 137 := ⟨by decide +kernel, rfl⟩
theorem dX11_summedUp_137 : Ins mX11_summedUp 137 (.baload) 1 138 := ⟨by decide +kernel, rfl⟩
theorem dX11_summedUp_138 : Ins mX11_summedUp 138 (.ifCond .ne 250) 3 141 := ⟨by decide +kernel, rfl⟩
theorem dX11_summedUp_141 : Ins mX11_summedUp 141 (.aload_n 0) 1 142 := ⟨by decide +kernel, rfl⟩
theorem dX11_summedUp_142 : GgR mX11_summedUp 142 145 10 21 := ⟨21, rfl, ⟨35, _, by decide +kernel, rfl, rfl, by decide, tb_5 (List.mem_of_getElem? (i := 217) (by decide +kernel)) rfl⟩, by decide, rfl⟩
theorem dX11_summedUp_145 : Ins mX11_summedUp 145 (.iload 5) 2 147 := ⟨by decide +kernel, rfl⟩
theorem dX11_summedUp_147 : Ins mX11_summedUp 147 (.iconst 1) 1 148 := ⟨by decide +kernel, rfl⟩
theorem dX11_summedUp_148 : Ins mX11_summedUp 148 (.isub) 1 149 := ⟨by decide +kernel, rfl⟩
theorem dX11_summedUp_149 : Ins mX11_summedUp 149 (.aload_n 0) 1 150 := ⟨by decide +kernel, rfl⟩
theorem dX11_summedUp_150 : GgR mX11_summedUp 150 153 10 21 := ⟨21, rfl, ⟨35, _, by decide +kernel, rfl, rfl, by decide, tb_5 (List.mem_of_getElem? (i := 217) (by decide +kernel)) rfl⟩, by decide, rfl⟩
theorem dX11_summedUp_153 : Ins mX11_summedUp 153 (.iload 5) 2 155 := ⟨by decide +kernel, rfl⟩
theorem dX11_summedUp_155 : Ins mX11_summedUp 155 (.laload) 1 156 := ⟨by decide +kernel, rfl⟩
theorem dX11_summedUp_156 : Ins mX11_summedUp 156 (.lastore) 1 157 := ⟨by decide +kernel, rfl⟩
theorem dX11_summedUp_157 : Ins mX11_summedUp 157 (.goto 231) 3 160 := ⟨by decide +kernel, rfl⟩
theorem dX11_summedUp_160 : Ins mX11_summedUp 160 (.iload 8) 2 162 := ⟨by decide +kernel, rfl⟩
theorem dX11_summedUp_162 : Ins mX11_summedUp 162 (.iconst 5) 1 163 := ⟨by decide +kernel, rfl⟩
theorem dX11_summedUp_163 : Ins mX11_summedUp 163 (.if_icmp .gt 30) 3 166 := ⟨by decide +kernel, rfl⟩
theorem dX11_summedUp_166 : Ins mX11_summedUp 166 (.aload_n 0) 1 167 := ⟨by decide +kernel, rfl⟩
theorem dX11_summedUp_167 : GgR mX11_summedUp 167 170 10 21 := ⟨21, rfl, ⟨35, _, by decide +kernel, rfl, rfl, by decide, tb_5 (List.mem_of_getElem? (i := 217) (by decide +kernel)) rfl⟩, by decide, rfl⟩
theorem dX11_summedUp_170 : Ins mX11_summedUp 170 (.iload 5) 2 172 := ⟨by decide +kernel, rfl⟩
theorem dX11_summedUp_172 : Ins mX11_summedUp 172 (.iconst 1) 1 173 := ⟨by decide +kernel, rfl⟩
theorem dX11_summedUp_173 : Ins mX11_summedUp 173 (.isub) 1 174 := ⟨by decide +kernel, rfl⟩
theorem dX11_summedUp_174 : Ins mX11_summedUp 174 (.aload_n 0) 1 175 := ⟨by decide +kernel, rfl⟩
theorem dX11_summedUp_175 : Ins mX11_summedUp 175 (.iload 8) 2 177 := ⟨by decide +kernel, rfl⟩
theorem dX11_summedUp_177 : Ins mX11_summedUp 177 (.aload_n 0) 1 178 := ⟨by decide +kernel, rfl⟩
theorem dX11_summedUp_178 : GgR mX11_summedUp 178 181 10 21 := ⟨21, rfl, ⟨35, _, by decide +kernel, rfl, rfl, by decide, tb_5 (List.mem_of_getElem? (i := 217) (by decide +kernel)) rfl⟩, by decide, rfl⟩
theorem dX11_summedUp_181 : Ins mX11_summedUp 181 (.iload 5) 2 183 := ⟨by decide +kernel, rfl⟩
theorem dX11_summedUp_183 : Ins mX11_summedUp 183 (.iconst 1) 1 184 := ⟨by decide +kernel, rfl⟩
theorem dX11_summedUp_184 : Ins mX11_summedUp 184 (.isub) 1 185 := ⟨by decide +kernel, rfl⟩
theorem dX11_summedUp_185 : Ins mX11_summedUp 185 (.laload) 1 186 := ⟨by decide +kernel, rfl⟩
theorem dX11_summedUp_186 : CalV mX11_summedUp 186 189 mX11_prefixed := ⟨266, by decide +kernel, rfl, tb_7 (List.mem_of_getElem? (i := 100) (by decide +kernel)) rfl, meX11_prefixed⟩
theorem dX11_summedUp_189 : Ins mX11_summedUp 189 (.lastore) 1 190 := ⟨by decide +kernel, rfl⟩
theorem dX11_summedUp_190 : Ins mX11_summedUp 190 (.goto 198) 3 193 := ⟨by decide +kernel, rfl⟩
theorem dX11_summedUp_193 : Ins mX11_summedUp 193 (.iload 8) 2 195 := ⟨by decide +kernel, rfl⟩
theorem dX11_summedUp_195 : Ins mX11_summedUp 195 (.bipush 10) 2 197 := ⟨by decide +kernel, rfl⟩
theorem dX11_summedUp_197 : Ins mX11_summedUp 197 (.if_icmp .ge 39) 3 200 := ⟨by decide +kernel, rfl⟩
theorem dX11_summedUp_200 : Ins mX11_summedUp 200 (.iinc 5 (-1)) 3 203 := ⟨by decide +kernel, rfl⟩
theorem dX11_summedUp_203 : Ins mX11_summedUp 203 (.aload_n 0) 1 204 := ⟨by decide +kernel, rfl⟩
theorem dX11_summedUp_204 : GgR mX11_summedUp 204 207 10 21 := ⟨21, rfl, ⟨35, _, by decide +kernel, rfl, rfl, by decide, tb_5 (List.mem_of_getElem? (i := 217) (by decide +kernel)) rfl⟩, by decide, rfl⟩
theorem dX11_summedUp_207 : Ins mX11_summedUp 207 (.iload 5) 2 209 := ⟨by decide +kernel, rfl⟩
theorem dX11_summedUp_209 : Ins mX11_summedUp 209 (.iconst 1) 1 210 := ⟨by decide +kernel, rfl⟩
theorem dX11_summedUp_210 : Ins mX11_summedUp 210 (.isub) 1 211 := ⟨by decide +kernel, rfl⟩
theorem dX11_summedUp_211 : Ins mX11_summedUp 211 (.iload 8) 2 213 := ⟨by decide +kernel, rfl⟩
theorem dX11_summedUp_213 : Ins mX11_summedUp 213 (.aload_n 0) 1 214 := ⟨by decide +kernel, rfl⟩
theorem dX11_summedUp_214 : GgR mX11_summedUp 214 217 10 21 := ⟨21, rfl, ⟨35, _, by decide +kernel, rfl, rfl, by decide, tb_5 (List.mem_of_getElem? (i := 217) (by decide +kernel)) rfl⟩, by decide, rfl⟩
theorem dX11_summedUp_217 : Ins mX11_summedUp 217 (.iload 5) 2 219 := ⟨by decide +kernel, rfl⟩
theorem dX11_summedUp_219 : Ins mX11_summedUp 219 (.iconst 1) 1 220 := ⟨by decide +kernel, rfl⟩
theorem dX11_summedUp_220 : Ins mX11_summedUp 220 (.isub) 1 221 := ⟨by decide +kernel, rfl⟩
theorem dX11_summedUp_221 : Ins mX11_summedUp 221 (.laload) 1 222 := ⟨by decide +kernel, rfl⟩
theorem dX11_summedUp_222 : Ins mX11_summedUp 222 (.aload_n 0) 1 223 := ⟨by decide +kernel, rfl⟩
theorem dX11_summedUp_223 : GgR mX11_summedUp 223 226 10 21 := ⟨21, rfl, ⟨35, _, by decide +kernel, rfl, rfl, by decide, tb_5 (List.mem_of_getElem? (i := 217) (by decide +kernel)) rfl⟩, by decide, rfl⟩
theorem dX11_summedUp_226 : Ins mX11_summedUp 226 (.iload 5) 2 228 := ⟨by decide +kernel, rfl⟩
theorem dX11_summedUp_228 : Ins mX11_summedUp 228 (.laload) 1 229 := ⟨by decide +kernel, rfl⟩
theorem dX11_summedUp_229 : CalS mX11_summedUp 229 232 mX11_two := ⟨270, by decide +kernel, rfl, Or.inl (tb_7 (List.mem_of_getElem? (i := 105) (by decide +kernel)) rfl), meX11_two⟩
theorem dX11_summedUp_232 : Ins mX11_summedUp 232 (.lastore) 1 233 := ⟨by decide +kernel, rfl⟩
theorem dX11_summedUp_233 : Ins mX11_summedUp 233 (.goto 155) 3 236 := ⟨by decide +kernel, rfl⟩
theorem dX11_summedUp_236 : Ins mX11_summedUp 236 (.iload 8) 2 238 := ⟨by decide +kernel, rfl⟩
theorem dX11_summedUp_238 : Ins mX11_summedUp 238 (.bipush 20) 2 240 := ⟨by decide +kernel, rfl⟩
theorem dX11_summedUp_240 : Ins mX11_summedUp 240 (.if_icmp .ge 79) 3 243 := ⟨by decide +kernel, rfl⟩
theorem dX11_summedUp_243 : Ins mX11_summedUp 243 (.iinc 5 (-2)) 3 246 := ⟨by decide +kernel, rfl⟩
theorem dX11_summedUp_246 : Ins mX11_summedUp 246 (.aload_n 0) 1 247 := ⟨by decide +kernel, rfl⟩
theorem dX11_summedUp_247 : GgR mX11_summedUp 247 250 10 22 := ⟨22, rfl, ⟨39, _, by decide +kernel, rfl, rfl, by decide, tb_5 (List.mem_of_getElem? (i := 218) (by decide +kernel)) rfl⟩, by decide, rfl⟩
theorem dX11_summedUp_250 : Ins mX11_summedUp 250 (.iload 6) 2 252 := ⟨by decide +kernel, rfl⟩
theorem dX11_summedUp_252 : Ins mX11_summedUp 252 (.iload 8) 2 254 := ⟨by decide +kernel, rfl⟩
theorem dX11_summedUp_254 : Ins mX11_summedUp 254 (.bipush 16) 2 256 := ⟨by decide +kernel, rfl⟩
theorem dX11_summedUp_256 : Ins mX11_summedUp 256 (.if_icmp .ne 35) 3 259 := ⟨by decide +kernel, rfl⟩
theorem dX11_summedUp_259 : Ins mX11_summedUp 259 (.aload_n 0) 1 260 := ⟨by decide +kernel, rfl⟩
theorem dX11_summedUp_260 : GgR mX11_summedUp 260 263 10 21 := ⟨21, rfl, ⟨35, _, by decide +kernel, rfl, rfl, by decide, tb_5 (List.mem_of_getElem? (i := 217) (by decide +kernel)) rfl⟩, by decide, rfl⟩
theorem dX11_summedUp_263 : Ins mX11_summedUp 263 (.iload 5) 2 265 := ⟨by decide +kernel, rfl⟩
theorem dX11_summedUp_265 : Ins mX11_summedUp 265 (.laload) 1 266 := ⟨by decide +kernel, rfl⟩
theorem dX11_summedUp_266 : Ins mX11_summedUp 266 (.aload_n 0) 1 267 := ⟨by decide +kernel, rfl⟩
theorem dX11_summedUp_267 : GgR mX11_summedUp 267 270 10 21 := ⟨21, rfl, ⟨35, _, by decide +kernel, rfl, rfl, by decide, tb_5 (List.mem_of_getElem? (i := 217) (by decide +kernel)) rfl⟩, by decide, rfl⟩
theorem dX11_summedUp_270 : Ins mX11_summedUp 270 (.iload 5) 2 272 := ⟨by decide +kernel, rfl⟩
theorem dX11_summedUp_272 : Ins mX11_summedUp 272 (.iconst 1) 1 273 := ⟨by decide +kernel, rfl⟩
theorem dX11_summedUp_273 : Ins mX11_summedUp 273 (.iadd) 1 274 := ⟨by decide +kernel, rfl⟩
theorem dX11_summedUp_274 : Ins mX11_summedUp 274 (.laload) 1 275 := ⟨by decide +kernel, rfl⟩
theorem dX11_summedUp_275 : CalS mX11_summedUp 275 278 mX11_common := ⟨274, by decide +kernel, rfl, Or.inl (tb_7 (List.mem_of_getElem? (i := 113) (by decide +kernel)) rfl), meX11_common⟩
theorem dX11_summedUp_278 : Ins mX11_summedUp 278 (.lconst 1) 1 279 := ⟨by decide +kernel, rfl⟩
theorem dX11_summedUp_279 : Ins mX11_summedUp 279 (.lcmp) 1 280 := ⟨by decide +kernel, rfl⟩
theorem dX11_summedUp_280 : Ins mX11_summedUp 280 (.ifCond .eq 7) 3 283 := ⟨by decide +kernel, rfl⟩
theorem dX11_summedUp_283 : Ins mX11_summedUp 283 (.iconst 1) 1 284 := ⟨by decide +kernel, rfl⟩
theorem dX11_summedUp_284 : Ins mX11_summedUp 284 (.goto 28) 3 287 := ⟨by decide +kernel, rfl⟩
theorem dX11_summedUp_287 : Ins mX11_summedUp 287 (.iconst 0) 1 288 := ⟨by decide +kernel, rfl⟩
theorem dX11_summedUp_288 : Ins mX11_summedUp 288 (.goto 24) 3 291 := ⟨by decide +kernel, rfl⟩
theorem dX11_summedUp_291 : Ins mX11_summedUp 291 (.iload 8) 2 293 := ⟨by decide +kernel, rfl⟩
theorem dX11_summedUp_293 : Ins mX11_summedUp 293 (.aload_n 0) 1 294 := ⟨by decide +kernel, rfl⟩
theorem dX11_summedUp_294 : GgR mX11_summedUp 294 297 10 21 := ⟨21, rfl, ⟨35, _, by decide +kernel, rfl, rfl, by decide, tb_5 (List.mem_of_getElem? (i := 217) (by decide +kernel)) rfl⟩, by decide, rfl⟩
theorem dX11_summedUp_297 : Ins mX11_summedUp 297 (.iload 5) 2 299 := ⟨by decide +kernel, rfl⟩
theorem dX11_summedUp_299 : Ins mX11_summedUp 299 (.laload) 1 300 := ⟨by decide +kernel, rfl⟩
theorem dX11_summedUp_300 : Ins mX11_summedUp 300 (.aload_n 0) 1 301 := ⟨by decide +kernel, rfl⟩
theorem dX11_summedUp_301 : GgR mX11_summedUp 301 304 10 21 := ⟨21, rfl, ⟨35, _, by decide +kernel, rfl, rfl, by decide, tb_5 (List.mem_of_getElem? (i := 217) (by decide +kernel)) rfl⟩, by decide, rfl⟩
theorem dX11_summedUp_304 : Ins mX11_summedUp 304 (.iload 5) 2 306 := ⟨by decide +kernel, rfl⟩
theorem dX11_summedUp_306 : Ins mX11_summedUp 306 (.iconst 1) 1 307 := ⟨by decide +kernel, rfl⟩
theorem dX11_summedUp_307 : Ins mX11_summedUp 307 (.iadd) 1 308 := ⟨by decide +kernel, rfl⟩
theorem dX11_summedUp_308 : Ins mX11_summedUp 308 (.laload) 1 309 := ⟨by decide +kernel, rfl⟩
theorem dX11_summedUp_309 : CalS mX11_summedUp 309 312 mX11_isAsked := ⟨278, by decide +kernel, rfl, Or.inl (tb_7 (List.mem_of_getElem? (i := 116) (by decide +kernel)) rfl), meX11_isAsked⟩
theorem dX11_summedUp_312 : Ins mX11_summedUp 312 (.bastore) 1 313 := ⟨by decide +kernel, rfl⟩
theorem dX11_summedUp_313 : Ins mX11_summedUp 313 (.iinc 6 1) 3 316 := ⟨by decide +kernel, rfl⟩
theorem dX11_summedUp_316 : Ins mX11_summedUp 316 (.goto 72) 3 319 := ⟨by decide +kernel, rfl⟩
theorem dX11_summedUp_319 : Ins mX11_summedUp 319 (.iload 8) 2 321 := ⟨by decide +kernel, rfl⟩
theorem dX11_summedUp_321 : Ins mX11_summedUp 321 (.bipush 20) 2 323 := ⟨by decide +kernel, rfl⟩
theorem dX11_summedUp_323 : Ins mX11_summedUp 323 (.if_icmp .ne 32) 3 326 := ⟨by decide +kernel, rfl⟩
theorem dX11_summedUp_326 : Ins mX11_summedUp 326 (.aload_n 0) 1 327 := ⟨by decide +kernel, rfl⟩
theorem dX11_summedUp_327 : GgR mX11_summedUp 327 330 10 22 := ⟨22, rfl, ⟨39, _, by decide +kernel, rfl, rfl, by decide, tb_5 (List.mem_of_getElem? (i := 218) (by decide +kernel)) rfl⟩, by decide, rfl⟩
theorem dX11_summedUp_330 : Ins mX11_summedUp 330 (.iload 6) 2 332 := ⟨by decide +kernel, rfl⟩
theorem dX11_summedUp_332 : Ins mX11_summedUp 332 (.iconst 1) 1 333 := ⟨by decide +kernel, rfl⟩
theorem dX11_summedUp_333 : Ins mX11_summedUp 333 (.isub) 1 334 := ⟨by decide +kernel, rfl⟩
theorem dX11_summedUp_334 : Ins mX11_summedUp 334 (.aload_n 0) 1 335 := ⟨by decide +kernel, rfl⟩
theorem dX11_summedUp_335 : GgR mX11_summedUp 335 338 10 22 := ⟨22, rfl, ⟨39, _, by decide +kernel, rfl, rfl, by decide, tb_5 (List.mem_of_getElem? (i := 218) (by decide +kernel)) rfl⟩, by decide, rfl⟩
theorem dX11_summedUp_338 : Ins mX11_summedUp 338 (.iload 6) 2 340 := ⟨by decide +kernel, rfl⟩
theorem dX11_summedUp_340 : Ins mX11_summedUp 340 (.iconst 1) 1 341 := ⟨by decide +kernel, rfl⟩
theorem dX11_summedUp_341 : Ins mX11_summedUp 341 (.isub) 1 342 := ⟨by decide +kernel, rfl⟩
theorem dX11_summedUp_342 : Ins mX11_summedUp 342 (.baload) 1 343 := ⟨by decide +kernel, rfl⟩
theorem dX11_summedUp_343 : Ins mX11_summedUp 343 (.ifCond .ne 7) 3 346 := ⟨by decide +kernel, rfl⟩
theorem dX11_summedUp_346 : Ins mX11_summedUp 346 (.iconst 1) 1 347 := ⟨by decide +kernel, rfl⟩
theorem dX11_summedUp_347 : Ins mX11_summedUp 347 (.goto 4) 3 350 := ⟨by decide +kernel, rfl⟩
theorem dX11_summedUp_350 : Ins mX11_summedUp 350 (.iconst 0) 1 351 := ⟨by decide +kernel, rfl⟩
theorem dX11_summedUp_351 : Ins mX11_summedUp 351 (.bastore) 1 352 := ⟨by decide +kernel, rfl⟩
theorem dX11_summedUp_352 : Ins mX11_summedUp 352 (.goto 36) 3 355 := ⟨by decide +kernel, rfl⟩
theorem dX11_summedUp_355 : Ins mX11_summedUp 355 (.iinc 6 (-1)) 3 358 := ⟨by decide +kernel, rfl⟩
theorem dX11_summedUp_358 : Ins mX11_summedUp 358 (.aload_n 0) 1 359 := ⟨by decide +kernel, rfl⟩
theorem dX11_summedUp_359 : GgR mX11_summedUp 359 362 10 22 := ⟨22, rfl, ⟨39, _, by decide +kernel, rfl, rfl, by decide, tb_5 (List.mem_of_getElem? (i := 218) (by decide +kernel)) rfl⟩, by decide, rfl⟩
theorem dX11_summedUp_362 : Ins mX11_summedUp 362 (.iload 6) 2 364 := ⟨by decide +kernel, rfl⟩
theorem dX11_summedUp_364 : Ins mX11_summedUp 364 (.iconst 1) 1 365 := ⟨by decide +kernel, rfl⟩
theorem dX11_summedUp_365 : Ins mX11_summedUp 365 (.isub) 1 366 := ⟨by decide +kernel, rfl⟩
theorem dX11_summedUp_366 : Ins mX11_summedUp 366 (.iload 8) 2 368 := ⟨by decide +kernel, rfl⟩
theorem dX11_summedUp_368 : Ins mX11_summedUp 368 (.aload_n 0) 1 369 := ⟨by decide +kernel, rfl⟩
theorem dX11_summedUp_369 : GgR mX11_summedUp 369 372 10 22 := ⟨22, rfl, ⟨39, _, by decide +kernel, rfl, rfl, by decide, tb_5 (List.mem_of_getElem? (i := 218) (by decide +kernel)) rfl⟩, by decide, rfl⟩
theorem dX11_summedUp_372 : Ins mX11_summedUp 372 (.iload 6) 2 374 := ⟨by decide +kernel, rfl⟩
theorem dX11_summedUp_374 : Ins mX11_summedUp 374 (.iconst 1) 1 375 := ⟨by decide +kernel, rfl⟩
theorem dX11_summedUp_375 : Ins mX11_summedUp 375 (.isub) 1 376 := ⟨by decide +kernel, rfl⟩
theorem dX11_summedUp_376 : Ins mX11_summedUp 376 (.baload) 1 377 := ⟨by decide +kernel, rfl⟩
theorem dX11_summedUp_377 : Ins mX11_summedUp 377 (.aload_n 0) 1 378 := ⟨by decide +kernel, rfl⟩
theorem dX11_summedUp_378 : GgR mX11_summedUp 378 381 10 22 := ⟨22, rfl, ⟨39, _, by decide +kernel, rfl, rfl, by decide, tb_5 (List.mem_of_getElem? (i := 218) (by decide +kernel)) rfl⟩, by decide, rfl⟩
theorem dX11_summedUp_381 : Ins mX11_summedUp 381 (.iload 6) 2 383 := ⟨by decide +kernel, rfl⟩
theorem dX11_summedUp_383 : Ins mX11_summedUp 383 (.baload) 1 384 := ⟨by decide +kernel, rfl⟩
theorem dX11_summedUp_384 : CalS mX11_summedUp 384 387 mX11_joined := ⟨282, by decide +kernel, rfl, Or.inl (tb_7 (List.mem_of_getElem? (i := 119) (by decide +kernel)) rfl), meX11_joined⟩
theorem dX11_summedUp_387 : Ins mX11_summedUp 387 (.bastore) 1 388 := ⟨by decide +kernel, rfl⟩
theorem dX11_summedUp_388 : Ins mX11_summedUp 388 (.iinc 7 1) 3 391 := ⟨by decide +kernel, rfl⟩
theorem dX11_summedUp_391 : Ins mX11_summedUp 391 (.goto (-353)) 3 394 := ⟨by decide +kernel, rfl⟩
theorem dX11_summedUp_394 : Ins mX11_summedUp 394 (.aload_n 0) 1 395 := ⟨by decide +kernel, rfl⟩
theorem dX11_summedUp_395 : GgR mX11_summedUp 395 398 10 21 := ⟨21, rfl, ⟨35, _, by decide +kernel, rfl, rfl, by decide, tb_5 (List.mem_of_getElem? (i := 217) (by decide +kernel)) rfl⟩, by decide, rfl⟩
theorem dX11_summedUp_398 : Ins mX11_summedUp 398 (.iconst 0) 1 399 := ⟨by decide +kernel, rfl⟩
theorem dX11_summedUp_399 : Ins mX11_summedUp 399 (.laload) 1 400 := ⟨by decide +kernel, rfl⟩
theorem dX11_summedUp_400 : Ins mX11_summedUp 400 (.lreturn) 1 401 := ⟨by decide +kernel, rfl⟩
