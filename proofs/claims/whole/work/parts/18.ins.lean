-- a fact for each instruction, by wip/whole/gen/ins.py
theorem dX11_winters_0 : Ins mX11_winters 0 (.iload_n 1) 1 1 := ⟨by decide +kernel, rfl⟩
theorem dX11_winters_1 : Ins mX11_winters 1 (.iconst 0) 1 2 := ⟨by decide +kernel, rfl⟩
theorem dX11_winters_2 : Ins mX11_winters 2 (.sipush 9999) 3 5 := ⟨by decide +kernel, rfl⟩
theorem dX11_winters_5 : CalS mX11_winters 5 8 mX11_isIn := ⟨63, by decide +kernel, rfl, Or.inl (tb_6 (List.mem_of_getElem? (i := 50) (by decide +kernel)) rfl), meX11_isIn⟩
theorem dX11_winters_8 : Ins mX11_winters 8 (.ifCond .eq 13) 3 11 := ⟨by decide +kernel, rfl⟩
theorem dX11_winters_11 : Ins mX11_winters 11 (.iload_n 2) 1 12 := ⟨by decide +kernel, rfl⟩
theorem dX11_winters_12 : Ins mX11_winters 12 (.iconst 1) 1 13 := ⟨by decide +kernel, rfl⟩
theorem dX11_winters_13 : Ins mX11_winters 13 (.bipush 40) 2 15 := ⟨by decide +kernel, rfl⟩
theorem dX11_winters_15 : CalS mX11_winters 15 18 mX11_isIn := ⟨63, by decide +kernel, rfl, Or.inl (tb_6 (List.mem_of_getElem? (i := 50) (by decide +kernel)) rfl), meX11_isIn⟩
theorem dX11_winters_18 : Ins mX11_winters 18 (.ifCond .ne 5) 3 21 := ⟨by decide +kernel, rfl⟩
theorem dX11_winters_21 : Ins mX11_winters 21 (.iconst (-1)) 1 22 := ⟨by decide +kernel, rfl⟩
theorem dX11_winters_22 : Ins mX11_winters 22 (.ireturn) 1 23 := ⟨by decide +kernel, rfl⟩
theorem dX11_winters_23 : Ins mX11_winters 23 (.aload_n 0) 1 24 := ⟨by decide +kernel, rfl⟩
theorem dX11_winters_24 : CalV mX11_winters 24 27 mX11_keep := ⟨341, by decide +kernel, rfl, tb_7 (List.mem_of_getElem? (i := 21) (by decide +kernel)) rfl, meX11_keep⟩
theorem dX11_winters_27 : Ins mX11_winters 27 (.aload_n 0) 1 28 := ⟨by decide +kernel, rfl⟩
theorem dX11_winters_28 : GgR mX11_winters 28 31 10 0 := ⟨0, rfl, ⟨7, _, by decide +kernel, rfl, rfl, by decide, tb_5 (List.mem_of_getElem? (i := 196) (by decide +kernel)) rfl⟩, by decide, rfl⟩
theorem dX11_winters_31 : Ins mX11_winters 31 (.bipush 13) 2 33 := ⟨by decide +kernel, rfl⟩
theorem dX11_winters_33 : Ins mX11_winters 33 (.iload_n 1) 1 34 := ⟨by decide +kernel, rfl⟩
theorem dX11_winters_34 : Ins mX11_winters 34 (.iconst 2) 1 35 := ⟨by decide +kernel, rfl⟩
theorem dX11_winters_35 : Ins mX11_winters 35 (.imul) 1 36 := ⟨by decide +kernel, rfl⟩
theorem dX11_winters_36 : Ins mX11_winters 36 (.sipush 151) 3 39 := ⟨by decide +kernel, rfl⟩
theorem dX11_winters_39 : Ins mX11_winters 39 (.iadd) 1 40 := ⟨by decide +kernel, rfl⟩
theorem dX11_winters_40 : Ins mX11_winters 40 (.iastore) 1 41 := ⟨by decide +kernel, rfl⟩
theorem dX11_winters_41 : Ins mX11_winters 41 (.iconst 0) 1 42 := ⟨by decide +kernel, rfl⟩
theorem dX11_winters_42 : Ins mX11_winters 42 (.istore_n 3) 1 43 := ⟨by decide +kernel, rfl⟩
theorem dX11_winters_43 : Ins mX11_winters 43 (.iload_n 3) 1 44 := ⟨by decide +kernel, rfl⟩
theorem dX11_winters_44 : Ins mX11_winters 44 (.iload_n 2) 1 45 := ⟨by decide +kernel, rfl⟩
theorem dX11_winters_45 : Ins mX11_winters 45 (.if_icmp .ge 47) 3 48 := ⟨by decide +kernel, rfl⟩
theorem dX11_winters_48 : Ins mX11_winters 48 (.aload_n 0) 1 49 := ⟨by decide +kernel, rfl⟩
theorem dX11_winters_49 : GgR mX11_winters 49 52 10 0 := ⟨0, rfl, ⟨7, _, by decide +kernel, rfl, rfl, by decide, tb_5 (List.mem_of_getElem? (i := 196) (by decide +kernel)) rfl⟩, by decide, rfl⟩
theorem dX11_winters_52 : Ins mX11_winters 52 (.bipush 13) 2 54 := ⟨by decide +kernel, rfl⟩
theorem dX11_winters_54 : Ins mX11_winters 54 (.iaload) 1 55 := ⟨by decide +kernel, rfl⟩
theorem dX11_winters_55 : Ins mX11_winters 55 (.istore 4) 2 57 := ⟨by decide +kernel, rfl⟩
theorem dX11_winters_57 : Ins mX11_winters 57 (.aload_n 0) 1 58 := ⟨by decide +kernel, rfl⟩
theorem dX11_winters_58 : GgR mX11_winters 58 61 10 0 := ⟨0, rfl, ⟨7, _, by decide +kernel, rfl, rfl, by decide, tb_5 (List.mem_of_getElem? (i := 196) (by decide +kernel)) rfl⟩, by decide, rfl⟩
theorem dX11_winters_61 : Ins mX11_winters 61 (.bipush 13) 2 63 := ⟨by decide +kernel, rfl⟩
theorem dX11_winters_63 : Ins mX11_winters 63 (.iload 4) 2 65 := ⟨by decide +kernel, rfl⟩
theorem dX11_winters_65 : Ins mX11_winters 65 (.i2l) 1 66 := ⟨by decide +kernel, rfl⟩
theorem dX11_winters_66 : LdcL mX11_winters 66 69 (383) := ⟨383, _, by decide +kernel, rfl, tb_7 (List.mem_of_getElem? (i := 160) (by decide +kernel)) rfl, rfl⟩
theorem dX11_winters_69 : Ins mX11_winters 69 (.lmul) 1 70 := ⟨by decide +kernel, rfl⟩
theorem dX11_winters_70 : LdcL mX11_winters 70 73 (263) := ⟨385, _, by decide +kernel, rfl, tb_7 (List.mem_of_getElem? (i := 161) (by decide +kernel)) rfl, rfl⟩
theorem dX11_winters_73 : Ins mX11_winters 73 (.ladd) 1 74 := ⟨by decide +kernel, rfl⟩
theorem dX11_winters_74 : LdcL mX11_winters 74 77 (30491) := ⟨387, _, by decide +kernel, rfl, tb_7 (List.mem_of_getElem? (i := 162) (by decide +kernel)) rfl, rfl⟩
theorem dX11_winters_77 : Ins mX11_winters 77 (.lrem) 1 78 := ⟨by decide +kernel, rfl⟩
theorem dX11_winters_78 : Ins mX11_winters 78 (.l2i) 1 79 := ⟨by decide +kernel, rfl⟩
theorem dX11_winters_79 : Ins mX11_winters 79 (.iastore) 1 80 := ⟨by decide +kernel, rfl⟩
theorem dX11_winters_80 : Ins mX11_winters 80 (.aload_n 0) 1 81 := ⟨by decide +kernel, rfl⟩
theorem dX11_winters_81 : Ins mX11_winters 81 (.iload 4) 2 83 := ⟨by decide +kernel, rfl⟩
theorem dX11_winters_83 : CalV mX11_winters 83 86 mX11_happens := ⟨389, by decide +kernel, rfl, tb_7 (List.mem_of_getElem? (i := 163) (by decide +kernel)) rfl, meX11_happens⟩
theorem dX11_winters_86 : Ins mX11_winters 86 (.iinc 3 1) 3 89 := ⟨by decide +kernel, rfl⟩
theorem dX11_winters_89 : Ins mX11_winters 89 (.goto (-46)) 3 92 := ⟨by decide +kernel, rfl⟩
theorem dX11_winters_92 : Ins mX11_winters 92 (.aload_n 0) 1 93 := ⟨by decide +kernel, rfl⟩
theorem dX11_winters_93 : GgR mX11_winters 93 96 10 0 := ⟨0, rfl, ⟨7, _, by decide +kernel, rfl, rfl, by decide, tb_5 (List.mem_of_getElem? (i := 196) (by decide +kernel)) rfl⟩, by decide, rfl⟩
theorem dX11_winters_96 : Ins mX11_winters 96 (.bipush 10) 2 98 := ⟨by decide +kernel, rfl⟩
theorem dX11_winters_98 : Ins mX11_winters 98 (.iaload) 1 99 := ⟨by decide +kernel, rfl⟩
theorem dX11_winters_99 : Ins mX11_winters 99 (.ireturn) 1 100 := ⟨by decide +kernel, rfl⟩
theorem dX11_ofHorse_0 : Ins mX11_ofHorse 0 (.aload_n 0) 1 1 := ⟨by decide +kernel, rfl⟩
theorem dX11_ofHorse_1 : Ins mX11_ofHorse 1 (.iload_n 1) 1 2 := ⟨by decide +kernel, rfl⟩
theorem dX11_ofHorse_2 : CalV mX11_ofHorse 2 5 mX11_isHorse := ⟨335, by decide +kernel, rfl, tb_7 (List.mem_of_getElem? (i := 9) (by decide +kernel)) rfl, meX11_isHorse⟩
theorem dX11_ofHorse_5 : Ins mX11_ofHorse 5 (.ifCond .ne 6) 3 8 := ⟨by decide +kernel, rfl⟩
theorem dX11_ofHorse_8 : Ins mX11_ofHorse 8 (.bipush (-2)) 2 10 := ⟨by decide +kernel, rfl⟩
theorem dX11_ofHorse_10 : Ins mX11_ofHorse 10 (.ireturn) 1 11 := ⟨by decide +kernel, rfl⟩
theorem dX11_ofHorse_11 : Ins mX11_ofHorse 11 (.iload_n 2) 1 12 := ⟨by decide +kernel, rfl⟩
theorem dX11_ofHorse_12 : Ins mX11_ofHorse 12 (.tableswitch 111 0 5 #[40, 47, 54, 61, 67, 91]) 40 52 := ⟨by decide +kernel, rfl⟩
theorem dX11_ofHorse_52 : Ins mX11_ofHorse 52 (.aload_n 0) 1 53 := ⟨by decide +kernel, rfl⟩
theorem dX11_ofHorse_53 : Ins mX11_ofHorse 53 (.iload_n 1) 1 54 := ⟨by decide +kernel, rfl⟩
theorem dX11_ofHorse_54 : Ins mX11_ofHorse 54 (.iconst 2) 1 55 := ⟨by decide +kernel, rfl⟩
theorem dX11_ofHorse_55 : CalV mX11_ofHorse 55 58 mX11_get := ⟨71, by decide +kernel, rfl, tb_6 (List.mem_of_getElem? (i := 233) (by decide +kernel)) rfl, meX11_get⟩
theorem dX11_ofHorse_58 : Ins mX11_ofHorse 58 (.ireturn) 1 59 := ⟨by decide +kernel, rfl⟩
theorem dX11_ofHorse_59 : Ins mX11_ofHorse 59 (.aload_n 0) 1 60 := ⟨by decide +kernel, rfl⟩
theorem dX11_ofHorse_60 : Ins mX11_ofHorse 60 (.iload_n 1) 1 61 := ⟨by decide +kernel, rfl⟩
theorem dX11_ofHorse_61 : Ins mX11_ofHorse 61 (.iconst 0) 1 62 := ⟨by decide +kernel, rfl⟩
theorem dX11_ofHorse_62 : CalV mX11_ofHorse 62 65 mX11_get := ⟨71, by decide +kernel, rfl, tb_6 (List.mem_of_getElem? (i := 233) (by decide +kernel)) rfl, meX11_get⟩
theorem dX11_ofHorse_65 : Ins mX11_ofHorse 65 (.ireturn) 1 66 := ⟨by decide +kernel, rfl⟩
theorem dX11_ofHorse_66 : Ins mX11_ofHorse 66 (.aload_n 0) 1 67 := ⟨by decide +kernel, rfl⟩
theorem dX11_ofHorse_67 : Ins mX11_ofHorse 67 (.iload_n 1) 1 68 := ⟨by decide +kernel, rfl⟩
theorem dX11_ofHorse_68 : Ins mX11_ofHorse 68 (.iconst 1) 1 69 := ⟨by decide +kernel, rfl⟩
theorem dX11_ofHorse_69 : CalV mX11_ofHorse 69 72 mX11_get := ⟨71, by decide +kernel, rfl, tb_6 (List.mem_of_getElem? (i := 233) (by decide +kernel)) rfl, meX11_get⟩
theorem dX11_ofHorse_72 : Ins mX11_ofHorse 72 (.ireturn) 1 73 := ⟨by decide +kernel, rfl⟩
theorem dX11_ofHorse_73 : Ins mX11_ofHorse 73 (.aload_n 0) 1 74 := ⟨by decide +kernel, rfl⟩
theorem dX11_ofHorse_74 : Ins mX11_ofHorse 74 (.iload_n 1) 1 75 := ⟨by decide +kernel, rfl⟩
theorem dX11_ofHorse_75 : CalV mX11_ofHorse 75 78 mX11_riderOf := ⟨81, by decide +kernel, rfl, tb_7 (List.mem_of_getElem? (i := 17) (by decide +kernel)) rfl, meX11_riderOf⟩
theorem dX11_ofHorse_78 : Ins mX11_ofHorse 78 (.ireturn) 1 79 := ⟨by decide +kernel, rfl⟩
theorem dX11_ofHorse_79 : Ins mX11_ofHorse 79 (.aload_n 0) 1 80 := ⟨by decide +kernel, rfl⟩
theorem dX11_ofHorse_80 : Ins mX11_ofHorse 80 (.aload_n 0) 1 81 := ⟨by decide +kernel, rfl⟩
theorem dX11_ofHorse_81 : GgR mX11_ofHorse 81 84 10 0 := ⟨0, rfl, ⟨7, _, by decide +kernel, rfl, rfl, by decide, tb_5 (List.mem_of_getElem? (i := 196) (by decide +kernel)) rfl⟩, by decide, rfl⟩
theorem dX11_ofHorse_84 : Ins mX11_ofHorse 84 (.bipush 10) 2 86 := ⟨by decide +kernel, rfl⟩
theorem dX11_ofHorse_86 : Ins mX11_ofHorse 86 (.iaload) 1 87 := ⟨by decide +kernel, rfl⟩
theorem dX11_ofHorse_87 : CalV mX11_ofHorse 87 90 mX11_rockingAt := ⟨317, by decide +kernel, rfl, tb_7 (List.mem_of_getElem? (i := 61) (by decide +kernel)) rfl, meX11_rockingAt⟩
theorem dX11_ofHorse_90 : Ins mX11_ofHorse 90 (.iload_n 1) 1 91 := ⟨by decide +kernel, rfl⟩
theorem dX11_ofHorse_91 : CalS mX11_ofHorse 91 94 mX11_has := ⟨74, by decide +kernel, rfl, Or.inl (tb_6 (List.mem_of_getElem? (i := 135) (by decide +kernel)) rfl), meX11_has⟩
theorem dX11_ofHorse_94 : Ins mX11_ofHorse 94 (.ifCond .eq 7) 3 97 := ⟨by decide +kernel, rfl⟩
theorem dX11_ofHorse_97 : Ins mX11_ofHorse 97 (.iconst 1) 1 98 := ⟨by decide +kernel, rfl⟩
theorem dX11_ofHorse_98 : Ins mX11_ofHorse 98 (.goto 4) 3 101 := ⟨by decide +kernel, rfl⟩
theorem dX11_ofHorse_101 : Ins mX11_ofHorse 101 (.iconst 0) 1 102 := ⟨by decide +kernel, rfl⟩
theorem dX11_ofHorse_102 : Ins mX11_ofHorse 102 (.ireturn) 1 103 := ⟨by decide +kernel, rfl⟩
theorem dX11_ofHorse_103 : Ins mX11_ofHorse 103 (.aload_n 0) 1 104 := ⟨by decide +kernel, rfl⟩
theorem dX11_ofHorse_104 : Ins mX11_ofHorse 104 (.iload_n 1) 1 105 := ⟨by decide +kernel, rfl⟩
theorem dX11_ofHorse_105 : Ins mX11_ofHorse 105 (.aload_n 0) 1 106 := ⟨by decide +kernel, rfl⟩
theorem dX11_ofHorse_106 : Ins mX11_ofHorse 106 (.aload_n 0) 1 107 := ⟨by decide +kernel, rfl⟩
theorem dX11_ofHorse_107 : GgR mX11_ofHorse 107 110 10 0 := ⟨0, rfl, ⟨7, _, by decide +kernel, rfl, rfl, by decide, tb_5 (List.mem_of_getElem? (i := 196) (by decide +kernel)) rfl⟩, by decide, rfl⟩
theorem dX11_ofHorse_110 : Ins mX11_ofHorse 110 (.bipush 10) 2 112 := ⟨by decide +kernel, rfl⟩
theorem dX11_ofHorse_112 : Ins mX11_ofHorse 112 (.iaload) 1 113 := ⟨by decide +kernel, rfl⟩
theorem dX11_ofHorse_113 : CalV mX11_ofHorse 113 116 mX11_rockingAt := ⟨317, by decide +kernel, rfl, tb_7 (List.mem_of_getElem? (i := 61) (by decide +kernel)) rfl, meX11_rockingAt⟩
theorem dX11_ofHorse_116 : CalS mX11_ofHorse 116 119 mX11_bits := ⟨302, by decide +kernel, rfl, Or.inl (tb_7 (List.mem_of_getElem? (i := 77) (by decide +kernel)) rfl), meX11_bits⟩
theorem dX11_ofHorse_119 : CalV mX11_ofHorse 119 122 mX11_wearsOf := ⟨320, by decide +kernel, rfl, tb_7 (List.mem_of_getElem? (i := 80) (by decide +kernel)) rfl, meX11_wearsOf⟩
theorem dX11_ofHorse_122 : Ins mX11_ofHorse 122 (.ireturn) 1 123 := ⟨by decide +kernel, rfl⟩
theorem dX11_ofHorse_123 : Ins mX11_ofHorse 123 (.bipush (-2)) 2 125 := ⟨by decide +kernel, rfl⟩
theorem dX11_ofHorse_125 : Ins mX11_ofHorse 125 (.ireturn) 1 126 := ⟨by decide +kernel, rfl⟩
theorem dX11_ofBoy_0 : Ins mX11_ofBoy 0 (.aload_n 0) 1 1 := ⟨by decide +kernel, rfl⟩
theorem dX11_ofBoy_1 : Ins mX11_ofBoy 1 (.iload_n 1) 1 2 := ⟨by decide +kernel, rfl⟩
theorem dX11_ofBoy_2 : CalV mX11_ofBoy 2 5 mX11_isBoy := ⟨332, by decide +kernel, rfl, tb_7 (List.mem_of_getElem? (i := 5) (by decide +kernel)) rfl, meX11_isBoy⟩
theorem dX11_ofBoy_5 : Ins mX11_ofBoy 5 (.ifCond .ne 6) 3 8 := ⟨by decide +kernel, rfl⟩
theorem dX11_ofBoy_8 : Ins mX11_ofBoy 8 (.bipush (-2)) 2 10 := ⟨by decide +kernel, rfl⟩
theorem dX11_ofBoy_10 : Ins mX11_ofBoy 10 (.ireturn) 1 11 := ⟨by decide +kernel, rfl⟩
theorem dX11_ofBoy_11 : Ins mX11_ofBoy 11 (.iload_n 2) 1 12 := ⟨by decide +kernel, rfl⟩
theorem dX11_ofBoy_12 : Ins mX11_ofBoy 12 (.tableswitch 84 0 3 #[32, 39, 46, 53]) 32 44 := ⟨by decide +kernel, rfl⟩
theorem dX11_ofBoy_44 : Ins mX11_ofBoy 44 (.aload_n 0) 1 45 := ⟨by decide +kernel, rfl⟩
theorem dX11_ofBoy_45 : Ins mX11_ofBoy 45 (.iload_n 1) 1 46 := ⟨by decide +kernel, rfl⟩
theorem dX11_ofBoy_46 : Ins mX11_ofBoy 46 (.iconst 2) 1 47 := ⟨by decide +kernel, rfl⟩
theorem dX11_ofBoy_47 : CalV mX11_ofBoy 47 50 mX11_of := ⟨67, by decide +kernel, rfl, tb_7 (List.mem_of_getElem? (i := 13) (by decide +kernel)) rfl, meX11_of⟩
theorem dX11_ofBoy_50 : Ins mX11_ofBoy 50 (.ireturn) 1 51 := ⟨by decide +kernel, rfl⟩
theorem dX11_ofBoy_51 : Ins mX11_ofBoy 51 (.aload_n 0) 1 52 := ⟨by decide +kernel, rfl⟩
theorem dX11_ofBoy_52 : Ins mX11_ofBoy 52 (.iload_n 1) 1 53 := ⟨by decide +kernel, rfl⟩
theorem dX11_ofBoy_53 : Ins mX11_ofBoy 53 (.iconst 0) 1 54 := ⟨by decide +kernel, rfl⟩
theorem dX11_ofBoy_54 : CalV mX11_ofBoy 54 57 mX11_of := ⟨67, by decide +kernel, rfl, tb_7 (List.mem_of_getElem? (i := 13) (by decide +kernel)) rfl, meX11_of⟩
theorem dX11_ofBoy_57 : Ins mX11_ofBoy 57 (.ireturn) 1 58 := ⟨by decide +kernel, rfl⟩
theorem dX11_ofBoy_58 : Ins mX11_ofBoy 58 (.aload_n 0) 1 59 := ⟨by decide +kernel, rfl⟩
theorem dX11_ofBoy_59 : Ins mX11_ofBoy 59 (.iload_n 1) 1 60 := ⟨by decide +kernel, rfl⟩
theorem dX11_ofBoy_60 : Ins mX11_ofBoy 60 (.iconst 1) 1 61 := ⟨by decide +kernel, rfl⟩
theorem dX11_ofBoy_61 : CalV mX11_ofBoy 61 64 mX11_of := ⟨67, by decide +kernel, rfl, tb_7 (List.mem_of_getElem? (i := 13) (by decide +kernel)) rfl, meX11_of⟩
theorem dX11_ofBoy_64 : Ins mX11_ofBoy 64 (.ireturn) 1 65 := ⟨by decide +kernel, rfl⟩
theorem dX11_ofBoy_65 : Ins mX11_ofBoy 65 (.aload_n 0) 1 66 := ⟨by decide +kernel, rfl⟩
theorem dX11_ofBoy_66 : Ins mX11_ofBoy 66 (.iload_n 1) 1 67 := ⟨by decide +kernel, rfl⟩
theorem dX11_ofBoy_67 : Ins mX11_ofBoy 67 (.iconst 1) 1 68 := ⟨by decide +kernel, rfl⟩
theorem dX11_ofBoy_68 : CalV mX11_ofBoy 68 71 mX11_of := ⟨67, by decide +kernel, rfl, tb_7 (List.mem_of_getElem? (i := 13) (by decide +kernel)) rfl, meX11_of⟩
theorem dX11_ofBoy_71 : Ins mX11_ofBoy 71 (.iconst (-1)) 1 72 := ⟨by decide +kernel, rfl⟩
theorem dX11_ofBoy_72 : Ins mX11_ofBoy 72 (.if_icmp .ne 7) 3 75 := ⟨by decide +kernel, rfl⟩
theorem dX11_ofBoy_75 : Ins mX11_ofBoy 75 (.iconst 0) 1 76 := ⟨by decide +kernel, rfl⟩
theorem dX11_ofBoy_76 : Ins mX11_ofBoy 76 (.goto 19) 3 79 := ⟨by decide +kernel, rfl⟩
theorem dX11_ofBoy_79 : Ins mX11_ofBoy 79 (.aload_n 0) 1 80 := ⟨by decide +kernel, rfl⟩
theorem dX11_ofBoy_80 : Ins mX11_ofBoy 80 (.iload_n 1) 1 81 := ⟨by decide +kernel, rfl⟩
theorem dX11_ofBoy_81 : Ins mX11_ofBoy 81 (.aload_n 0) 1 82 := ⟨by decide +kernel, rfl⟩
theorem dX11_ofBoy_82 : Ins mX11_ofBoy 82 (.aload_n 0) 1 83 := ⟨by decide +kernel, rfl⟩
theorem dX11_ofBoy_83 : GgR mX11_ofBoy 83 86 10 0 := ⟨0, rfl, ⟨7, _, by decide +kernel, rfl, rfl, by decide, tb_5 (List.mem_of_getElem? (i := 196) (by decide +kernel)) rfl⟩, by decide, rfl⟩
theorem dX11_ofBoy_86 : Ins mX11_ofBoy 86 (.bipush 10) 2 88 := ⟨by decide +kernel, rfl⟩
theorem dX11_ofBoy_88 : Ins mX11_ofBoy 88 (.iaload) 1 89 := ⟨by decide +kernel, rfl⟩
theorem dX11_ofBoy_89 : CalV mX11_ofBoy 89 92 mX11_rockingAt := ⟨317, by decide +kernel, rfl, tb_7 (List.mem_of_getElem? (i := 61) (by decide +kernel)) rfl, meX11_rockingAt⟩
theorem dX11_ofBoy_92 : CalV mX11_ofBoy 92 95 mX11_tiresOf := ⟨314, by decide +kernel, rfl, tb_7 (List.mem_of_getElem? (i := 133) (by decide +kernel)) rfl, meX11_tiresOf⟩
theorem dX11_ofBoy_95 : Ins mX11_ofBoy 95 (.ireturn) 1 96 := ⟨by decide +kernel, rfl⟩
theorem dX11_ofBoy_96 : Ins mX11_ofBoy 96 (.bipush (-2)) 2 98 := ⟨by decide +kernel, rfl⟩
theorem dX11_ofBoy_98 : Ins mX11_ofBoy 98 (.ireturn) 1 99 := ⟨by decide +kernel, rfl⟩
theorem dX11_is_0 : Ins mX11_is 0 (.iload_n 1) 1 1 := ⟨by decide +kernel, rfl⟩
theorem dX11_is_1 : Ins mX11_is 1 (.tableswitch 123 0 6 #[43, 51, 59, 67, 75, 83, 108]) 43 44 := ⟨by decide +kernel, rfl⟩
theorem dX11_is_44 : Ins mX11_is 44 (.aload_n 0) 1 45 := ⟨by decide +kernel, rfl⟩
theorem dX11_is_45 : GgR mX11_is 45 48 10 0 := ⟨0, rfl, ⟨7, _, by decide +kernel, rfl, rfl, by decide, tb_5 (List.mem_of_getElem? (i := 196) (by decide +kernel)) rfl⟩, by decide, rfl⟩
theorem dX11_is_48 : Ins mX11_is 48 (.bipush 10) 2 50 := ⟨by decide +kernel, rfl⟩
theorem dX11_is_50 : Ins mX11_is 50 (.iaload) 1 51 := ⟨by decide +kernel, rfl⟩
theorem dX11_is_51 : Ins mX11_is 51 (.ireturn) 1 52 := ⟨by decide +kernel, rfl⟩
theorem dX11_is_52 : Ins mX11_is 52 (.aload_n 0) 1 53 := ⟨by decide +kernel, rfl⟩
theorem dX11_is_53 : GgR mX11_is 53 56 10 0 := ⟨0, rfl, ⟨7, _, by decide +kernel, rfl, rfl, by decide, tb_5 (List.mem_of_getElem? (i := 196) (by decide +kernel)) rfl⟩, by decide, rfl⟩
theorem dX11_is_56 : Ins mX11_is 56 (.bipush 11) 2 58 := ⟨by decide +kernel, rfl⟩
theorem dX11_is_58 : Ins mX11_is 58 (.iaload) 1 59 := ⟨by decide +kernel, rfl⟩
theorem dX11_is_59 : Ins mX11_is 59 (.ireturn) 1 60 := ⟨by decide +kernel, rfl⟩
theorem dX11_is_60 : Ins mX11_is 60 (.aload_n 0) 1 61 := ⟨by decide +kernel, rfl⟩
theorem dX11_is_61 : GgR mX11_is 61 64 10 0 := ⟨0, rfl, ⟨7, _, by decide +kernel, rfl, rfl, by decide, tb_5 (List.mem_of_getElem? (i := 196) (by decide +kernel)) rfl⟩, by decide, rfl⟩
theorem dX11_is_64 : Ins mX11_is 64 (.bipush 9) 2 66 := ⟨by decide +kernel, rfl⟩
theorem dX11_is_66 : Ins mX11_is 66 (.iaload) 1 67 := ⟨by decide +kernel, rfl⟩
theorem dX11_is_67 : Ins mX11_is 67 (.ireturn) 1 68 := ⟨by decide +kernel, rfl⟩
theorem dX11_is_68 : Ins mX11_is 68 (.aload_n 0) 1 69 := ⟨by decide +kernel, rfl⟩
theorem dX11_is_69 : GgR mX11_is 69 72 10 0 := ⟨0, rfl, ⟨7, _, by decide +kernel, rfl, rfl, by decide, tb_5 (List.mem_of_getElem? (i := 196) (by decide +kernel)) rfl⟩, by decide, rfl⟩
theorem dX11_is_72 : Ins mX11_is 72 (.bipush 12) 2 74 := ⟨by decide +kernel, rfl⟩
theorem dX11_is_74 : Ins mX11_is 74 (.iaload) 1 75 := ⟨by decide +kernel, rfl⟩
theorem dX11_is_75 : Ins mX11_is 75 (.ireturn) 1 76 := ⟨by decide +kernel, rfl⟩
theorem dX11_is_76 : Ins mX11_is 76 (.aload_n 0) 1 77 := ⟨by decide +kernel, rfl⟩
theorem dX11_is_77 : GgR mX11_is 77 80 10 0 := ⟨0, rfl, ⟨7, _, by decide +kernel, rfl, rfl, by decide, tb_5 (List.mem_of_getElem? (i := 196) (by decide +kernel)) rfl⟩, by decide, rfl⟩
theorem dX11_is_80 : Ins mX11_is 80 (.bipush 13) 2 82 := ⟨by decide +kernel, rfl⟩
theorem dX11_is_82 : Ins mX11_is 82 (.iaload) 1 83 := ⟨by decide +kernel, rfl⟩
theorem dX11_is_83 : Ins mX11_is 83 (.ireturn) 1 84 := ⟨by decide +kernel, rfl⟩
theorem dX11_is_84 : Ins mX11_is 84 (.aload_n 0) 1 85 := ⟨by decide +kernel, rfl⟩
theorem dX11_is_85 : Ins mX11_is 85 (.aload_n 0) 1 86 := ⟨by decide +kernel, rfl⟩
theorem dX11_is_86 : GgR mX11_is 86 89 10 0 := ⟨0, rfl, ⟨7, _, by decide +kernel, rfl, rfl, by decide, tb_5 (List.mem_of_getElem? (i := 196) (by decide +kernel)) rfl⟩, by decide, rfl⟩
theorem dX11_is_89 : Ins mX11_is 89 (.iconst 3) 1 90 := ⟨by decide +kernel, rfl⟩
theorem dX11_is_90 : Ins mX11_is 90 (.iaload) 1 91 := ⟨by decide +kernel, rfl⟩
theorem dX11_is_91 : Ins mX11_is 91 (.aload_n 0) 1 92 := ⟨by decide +kernel, rfl⟩
theorem dX11_is_92 : Ins mX11_is 92 (.aload_n 0) 1 93 := ⟨by decide +kernel, rfl⟩
theorem dX11_is_93 : GgR mX11_is 93 96 10 0 := ⟨0, rfl, ⟨7, _, by decide +kernel, rfl, rfl, by decide, tb_5 (List.mem_of_getElem? (i := 196) (by decide +kernel)) rfl⟩, by decide, rfl⟩
theorem dX11_is_96 : Ins mX11_is 96 (.bipush 10) 2 98 := ⟨by decide +kernel, rfl⟩
theorem dX11_is_98 : Ins mX11_is 98 (.iaload) 1 99 := ⟨by decide +kernel, rfl⟩
theorem dX11_is_99 : CalV mX11_is 99 102 mX11_rockingAt := ⟨317, by decide +kernel, rfl, tb_7 (List.mem_of_getElem? (i := 61) (by decide +kernel)) rfl, meX11_rockingAt⟩
theorem dX11_is_102 : CalS mX11_is 102 105 mX11_bits := ⟨302, by decide +kernel, rfl, Or.inl (tb_7 (List.mem_of_getElem? (i := 77) (by decide +kernel)) rfl), meX11_bits⟩
theorem dX11_is_105 : CalV mX11_is 105 108 mX11_seenBy := ⟨392, by decide +kernel, rfl, tb_7 (List.mem_of_getElem? (i := 179) (by decide +kernel)) rfl, meX11_seenBy⟩
theorem dX11_is_108 : Ins mX11_is 108 (.ireturn) 1 109 := ⟨by decide +kernel, rfl⟩
theorem dX11_is_109 : Ins mX11_is 109 (.aload_n 0) 1 110 := ⟨by decide +kernel, rfl⟩
theorem dX11_is_110 : Ins mX11_is 110 (.aload_n 0) 1 111 := ⟨by decide +kernel, rfl⟩
theorem dX11_is_111 : GgR mX11_is 111 114 10 0 := ⟨0, rfl, ⟨7, _, by decide +kernel, rfl, rfl, by decide, tb_5 (List.mem_of_getElem? (i := 196) (by decide +kernel)) rfl⟩, by decide, rfl⟩
theorem dX11_is_114 : Ins mX11_is 114 (.bipush 10) 2 116 := ⟨by decide +kernel, rfl⟩
theorem dX11_is_116 : Ins mX11_is 116 (.iaload) 1 117 := ⟨by decide +kernel, rfl⟩
theorem dX11_is_117 : CalV mX11_is 117 120 mX11_rockingAt := ⟨317, by decide +kernel, rfl, tb_7 (List.mem_of_getElem? (i := 61) (by decide +kernel)) rfl, meX11_rockingAt⟩
theorem dX11_is_120 : CalS mX11_is 120 123 mX11_bits := ⟨302, by decide +kernel, rfl, Or.inl (tb_7 (List.mem_of_getElem? (i := 77) (by decide +kernel)) rfl), meX11_bits⟩
theorem dX11_is_123 : Ins mX11_is 123 (.ireturn) 1 124 := ⟨by decide +kernel, rfl⟩
theorem dX11_is_124 : Ins mX11_is 124 (.bipush (-2)) 2 126 := ⟨by decide +kernel, rfl⟩
theorem dX11_is_126 : Ins mX11_is 126 (.ireturn) 1 127 := ⟨by decide +kernel, rfl⟩
theorem dX11_shown_0 : Ins mX11_shown 0 (.aload_n 0) 1 1 := ⟨by decide +kernel, rfl⟩
theorem dX11_shown_1 : GgR mX11_shown 1 4 10 0 := ⟨0, rfl, ⟨7, _, by decide +kernel, rfl, rfl, by decide, tb_5 (List.mem_of_getElem? (i := 196) (by decide +kernel)) rfl⟩, by decide, rfl⟩
theorem dX11_shown_4 : Ins mX11_shown 4 (.bipush 14) 2 6 := ⟨by decide +kernel, rfl⟩
theorem dX11_shown_6 : Ins mX11_shown 6 (.iaload) 1 7 := ⟨by decide +kernel, rfl⟩
theorem dX11_shown_7 : Ins mX11_shown 7 (.bipush 30) 2 9 := ⟨by decide +kernel, rfl⟩
theorem dX11_shown_9 : Ins mX11_shown 9 (.if_icmp .ge 13) 3 12 := ⟨by decide +kernel, rfl⟩
theorem dX11_shown_12 : Ins mX11_shown 12 (.aload_n 0) 1 13 := ⟨by decide +kernel, rfl⟩
theorem dX11_shown_13 : GgR mX11_shown 13 16 10 0 := ⟨0, rfl, ⟨7, _, by decide +kernel, rfl, rfl, by decide, tb_5 (List.mem_of_getElem? (i := 196) (by decide +kernel)) rfl⟩, by decide, rfl⟩
theorem dX11_shown_16 : Ins mX11_shown 16 (.bipush 14) 2 18 := ⟨by decide +kernel, rfl⟩
theorem dX11_shown_18 : Ins mX11_shown 18 (.iaload) 1 19 := ⟨by decide +kernel, rfl⟩
theorem dX11_shown_19 : Ins mX11_shown 19 (.goto 5) 3 22 := ⟨by decide +kernel, rfl⟩
theorem dX11_shown_22 : Ins mX11_shown 22 (.bipush 30) 2 24 := ⟨by decide +kernel, rfl⟩
theorem dX11_shown_24 : Ins mX11_shown 24 (.ireturn) 1 25 := ⟨by decide +kernel, rfl⟩
theorem dX11_entry_0 : Ins mX11_entry 0 (.sipush 1180) 3 3 := ⟨by decide +kernel, rfl⟩
theorem dX11_entry_3 : Ins mX11_entry 3 (.iconst 2) 1 4 := ⟨by decide +kernel, rfl⟩
theorem dX11_entry_4 : Ins mX11_entry 4 (.aload_n 0) 1 5 := ⟨by decide +kernel, rfl⟩
theorem dX11_entry_5 : GgR mX11_entry 5 8 10 0 := ⟨0, rfl, ⟨7, _, by decide +kernel, rfl, rfl, by decide, tb_5 (List.mem_of_getElem? (i := 196) (by decide +kernel)) rfl⟩, by decide, rfl⟩
theorem dX11_entry_8 : Ins mX11_entry 8 (.bipush 14) 2 10 := ⟨by decide +kernel, rfl⟩
theorem dX11_entry_10 : Ins mX11_entry 10 (.iaload) 1 11 := ⟨by decide +kernel, rfl⟩
theorem dX11_entry_11 : Ins mX11_entry 11 (.aload_n 0) 1 12 := ⟨by decide +kernel, rfl⟩
theorem dX11_entry_12 : CalV mX11_entry 12 15 mX11_shown := ⟨395, by decide +kernel, rfl, tb_7 (List.mem_of_getElem? (i := 187) (by decide +kernel)) rfl, meX11_shown⟩
theorem dX11_entry_15 : Ins mX11_entry 15 (.isub) 1 16 := ⟨by decide +kernel, rfl⟩
theorem dX11_entry_16 : Ins mX11_entry 16 (.iload_n 1) 1 17 := ⟨by decide +kernel, rfl⟩
theorem dX11_entry_17 : Ins mX11_entry 17 (.iadd) 1 18 := ⟨by decide +kernel, rfl⟩
theorem dX11_entry_18 : Ins mX11_entry 18 (.sipush 1230) 3 21 := ⟨by decide +kernel, rfl⟩
theorem dX11_entry_21 : Ins mX11_entry 21 (.irem) 1 22 := ⟨by decide +kernel, rfl⟩
theorem dX11_entry_22 : Ins mX11_entry 22 (.imul) 1 23 := ⟨by decide +kernel, rfl⟩
theorem dX11_entry_23 : Ins mX11_entry 23 (.iadd) 1 24 := ⟨by decide +kernel, rfl⟩
theorem dX11_entry_24 : Ins mX11_entry 24 (.istore_n 3) 1 25 := ⟨by decide +kernel, rfl⟩
theorem dX11_entry_25 : Ins mX11_entry 25 (.iload_n 2) 1 26 := ⟨by decide +kernel, rfl⟩
theorem dX11_entry_26 : Ins mX11_entry 26 (.ifCond .ne 12) 3 29 := ⟨by decide +kernel, rfl⟩
theorem dX11_entry_29 : Ins mX11_entry 29 (.aload_n 0) 1 30 := ⟨by decide +kernel, rfl⟩
theorem dX11_entry_30 : GgR mX11_entry 30 33 10 0 := ⟨0, rfl, ⟨7, _, by decide +kernel, rfl, rfl, by decide, tb_5 (List.mem_of_getElem? (i := 196) (by decide +kernel)) rfl⟩, by decide, rfl⟩
theorem dX11_entry_33 : Ins mX11_entry 33 (.iload_n 3) 1 34 := ⟨by decide +kernel, rfl⟩
theorem dX11_entry_34 : Ins mX11_entry 34 (.iaload) 1 35 := ⟨by decide +kernel, rfl⟩
theorem dX11_entry_35 : Ins mX11_entry 35 (.goto 35) 3 38 := ⟨by decide +kernel, rfl⟩
theorem dX11_entry_38 : Ins mX11_entry 38 (.iload_n 2) 1 39 := ⟨by decide +kernel, rfl⟩
theorem dX11_entry_39 : Ins mX11_entry 39 (.iconst 1) 1 40 := ⟨by decide +kernel, rfl⟩
theorem dX11_entry_40 : Ins mX11_entry 40 (.if_icmp .ne 18) 3 43 := ⟨by decide +kernel, rfl⟩
theorem dX11_entry_43 : Ins mX11_entry 43 (.aload_n 0) 1 44 := ⟨by decide +kernel, rfl⟩
theorem dX11_entry_44 : GgR mX11_entry 44 47 10 0 := ⟨0, rfl, ⟨7, _, by decide +kernel, rfl, rfl, by decide, tb_5 (List.mem_of_getElem? (i := 196) (by decide +kernel)) rfl⟩, by decide, rfl⟩
theorem dX11_entry_47 : Ins mX11_entry 47 (.iload_n 3) 1 48 := ⟨by decide +kernel, rfl⟩
theorem dX11_entry_48 : Ins mX11_entry 48 (.iconst 1) 1 49 := ⟨by decide +kernel, rfl⟩
theorem dX11_entry_49 : Ins mX11_entry 49 (.iadd) 1 50 := ⟨by decide +kernel, rfl⟩
theorem dX11_entry_50 : Ins mX11_entry 50 (.iaload) 1 51 := ⟨by decide +kernel, rfl⟩
theorem dX11_entry_51 : Ins mX11_entry 51 (.sipush 256) 3 54 := ⟨by decide +kernel, rfl⟩
theorem dX11_entry_54 : Ins mX11_entry 54 (.idiv) 1 55 := ⟨by decide +kernel, rfl⟩
theorem dX11_entry_55 : Ins mX11_entry 55 (.goto 15) 3 58 := ⟨by decide +kernel, rfl⟩
theorem dX11_entry_58 : Ins mX11_entry 58 (.aload_n 0) 1 59 := ⟨by decide +kernel, rfl⟩
theorem dX11_entry_59 : GgR mX11_entry 59 62 10 0 := ⟨0, rfl, ⟨7, _, by decide +kernel, rfl, rfl, by decide, tb_5 (List.mem_of_getElem? (i := 196) (by decide +kernel)) rfl⟩, by decide, rfl⟩
theorem dX11_entry_62 : Ins mX11_entry 62 (.iload_n 3) 1 63 := ⟨by decide +kernel, rfl⟩
theorem dX11_entry_63 : Ins mX11_entry 63 (.iconst 1) 1 64 := ⟨by decide +kernel, rfl⟩
theorem dX11_entry_64 : Ins mX11_entry 64 (.iadd) 1 65 := ⟨by decide +kernel, rfl⟩
theorem dX11_entry_65 : Ins mX11_entry 65 (.iaload) 1 66 := ⟨by decide +kernel, rfl⟩
theorem dX11_entry_66 : Ins mX11_entry 66 (.sipush 256) 3 69 := ⟨by decide +kernel, rfl⟩
theorem dX11_entry_69 : Ins mX11_entry 69 (.irem) 1 70 := ⟨by decide +kernel, rfl⟩
theorem dX11_entry_70 : Ins mX11_entry 70 (.ireturn) 1 71 := ⟨by decide +kernel, rfl⟩
theorem dX11_book_0 : Ins mX11_book 0 (.iload_n 1) 1 1 := ⟨by decide +kernel, rfl⟩
theorem dX11_book_1 : Ins mX11_book 1 (.iconst (-1)) 1 2 := ⟨by decide +kernel, rfl⟩
theorem dX11_book_2 : Ins mX11_book 2 (.if_icmp .ne 8) 3 5 := ⟨by decide +kernel, rfl⟩
theorem dX11_book_5 : Ins mX11_book 5 (.aload_n 0) 1 6 := ⟨by decide +kernel, rfl⟩
theorem dX11_book_6 : CalV mX11_book 6 9 mX11_shown := ⟨395, by decide +kernel, rfl, tb_7 (List.mem_of_getElem? (i := 187) (by decide +kernel)) rfl, meX11_shown⟩
theorem dX11_book_9 : Ins mX11_book 9 (.ireturn) 1 10 := ⟨by decide +kernel, rfl⟩
theorem dX11_book_10 : Ins mX11_book 10 (.iload_n 1) 1 11 := ⟨by decide +kernel, rfl⟩
theorem dX11_book_11 : Ins mX11_book 11 (.iconst 0) 1 12 := ⟨by decide +kernel, rfl⟩
theorem dX11_book_12 : Ins mX11_book 12 (.aload_n 0) 1 13 := ⟨by decide +kernel, rfl⟩
theorem dX11_book_13 : CalV mX11_book 13 16 mX11_shown := ⟨395, by decide +kernel, rfl, tb_7 (List.mem_of_getElem? (i := 187) (by decide +kernel)) rfl, meX11_shown⟩
theorem dX11_book_16 : Ins mX11_book 16 (.iconst 1) 1 17 := ⟨by decide +kernel, rfl⟩
theorem dX11_book_17 : Ins mX11_book 17 (.isub) 1 18 := ⟨by decide +kernel, rfl⟩
theorem dX11_book_18 : CalS mX11_book 18 21 mX11_isIn := ⟨63, by decide +kernel, rfl, Or.inl (tb_6 (List.mem_of_getElem? (i := 50) (by decide +kernel)) rfl), meX11_isIn⟩
theorem dX11_book_21 : Ins mX11_book 21 (.ifCond .eq 21) 3 24 := ⟨by decide +kernel, rfl⟩
theorem dX11_book_24 : Ins mX11_book 24 (.iload_n 2) 1 25 := ⟨by decide +kernel, rfl⟩
theorem dX11_book_25 : Ins mX11_book 25 (.iconst 0) 1 26 := ⟨by decide +kernel, rfl⟩
theorem dX11_book_26 : Ins mX11_book 26 (.iconst 2) 1 27 := ⟨by decide +kernel, rfl⟩
theorem dX11_book_27 : CalS mX11_book 27 30 mX11_isIn := ⟨63, by decide +kernel, rfl, Or.inl (tb_6 (List.mem_of_getElem? (i := 50) (by decide +kernel)) rfl), meX11_isIn⟩
theorem dX11_book_30 : Ins mX11_book 30 (.ifCond .eq 12) 3 33 := ⟨by decide +kernel, rfl⟩
theorem dX11_book_33 : Ins mX11_book 33 (.aload_n 0) 1 34 := ⟨by decide +kernel, rfl⟩
theorem dX11_book_34 : Ins mX11_book 34 (.iload_n 1) 1 35 := ⟨by decide +kernel, rfl⟩
theorem dX11_book_35 : Ins mX11_book 35 (.iload_n 2) 1 36 := ⟨by decide +kernel, rfl⟩
theorem dX11_book_36 : CalV mX11_book 36 39 mX11_entry := ⟨398, by decide +kernel, rfl, tb_7 (List.mem_of_getElem? (i := 191) (by decide +kernel)) rfl, meX11_entry⟩
theorem dX11_book_39 : Ins mX11_book 39 (.goto 5) 3 42 := ⟨by decide +kernel, rfl⟩
theorem dX11_book_42 : Ins mX11_book 42 (.bipush (-2)) 2 44 := ⟨by decide +kernel, rfl⟩
theorem dX11_book_44 : Ins mX11_book 44 (.ireturn) 1 45 := ⟨by decide +kernel, rfl⟩
theorem dX11_slid_0 : Ins mX11_slid 0 (.iload_n 1) 1 1 := ⟨by decide +kernel, rfl⟩
theorem dX11_slid_1 : Ins mX11_slid 1 (.iconst (-1)) 1 2 := ⟨by decide +kernel, rfl⟩
theorem dX11_slid_2 : Ins mX11_slid 2 (.if_icmp .eq 14) 3 5 := ⟨by decide +kernel, rfl⟩
theorem dX11_slid_5 : Ins mX11_slid 5 (.aload_n 0) 1 6 := ⟨by decide +kernel, rfl⟩
theorem dX11_slid_6 : Ins mX11_slid 6 (.iload_n 1) 1 7 := ⟨by decide +kernel, rfl⟩
theorem dX11_slid_7 : CalV mX11_slid 7 10 mX11_isHorse := ⟨335, by decide +kernel, rfl, tb_7 (List.mem_of_getElem? (i := 9) (by decide +kernel)) rfl, meX11_isHorse⟩
theorem dX11_slid_10 : Ins mX11_slid 10 (.ifCond .ne 6) 3 13 := ⟨by decide +kernel, rfl⟩
theorem dX11_slid_13 : Ins mX11_slid 13 (.bipush (-2)) 2 15 := ⟨by decide +kernel, rfl⟩
theorem dX11_slid_15 : Ins mX11_slid 15 (.ireturn) 1 16 := ⟨by decide +kernel, rfl⟩
theorem dX11_slid_16 : Ins mX11_slid 16 (.iconst 0) 1 17 := ⟨by decide +kernel, rfl⟩
theorem dX11_slid_17 : Ins mX11_slid 17 (.istore_n 2) 1 18 := ⟨by decide +kernel, rfl⟩
theorem dX11_slid_18 : Ins mX11_slid 18 (.iconst 0) 1 19 := ⟨by decide +kernel, rfl⟩
theorem dX11_slid_19 : Ins mX11_slid 19 (.istore_n 3) 1 20 := ⟨by decide +kernel, rfl⟩
theorem dX11_slid_20 : Ins mX11_slid 20 (.iload_n 3) 1 21 := ⟨by decide +kernel, rfl⟩
theorem dX11_slid_21 : Ins mX11_slid 21 (.aload_n 0) 1 22 := ⟨by decide +kernel, rfl⟩
theorem dX11_slid_22 : CalV mX11_slid 22 25 mX11_shown := ⟨395, by decide +kernel, rfl, tb_7 (List.mem_of_getElem? (i := 187) (by decide +kernel)) rfl, meX11_shown⟩
theorem dX11_slid_25 : Ins mX11_slid 25 (.if_icmp .ge 36) 3 28 := ⟨by decide +kernel, rfl⟩
theorem dX11_slid_28 : Ins mX11_slid 28 (.iload_n 2) 1 29 := ⟨by decide +kernel, rfl⟩
theorem dX11_slid_29 : Ins mX11_slid 29 (.iload_n 1) 1 30 := ⟨by decide +kernel, rfl⟩
theorem dX11_slid_30 : Ins mX11_slid 30 (.iconst (-1)) 1 31 := ⟨by decide +kernel, rfl⟩
theorem dX11_slid_31 : Ins mX11_slid 31 (.if_icmp .ne 12) 3 34 := ⟨by decide +kernel, rfl⟩
theorem dX11_slid_34 : Ins mX11_slid 34 (.aload_n 0) 1 35 := ⟨by decide +kernel, rfl⟩
theorem dX11_slid_35 : Ins mX11_slid 35 (.iload_n 3) 1 36 := ⟨by decide +kernel, rfl⟩
theorem dX11_slid_36 : Ins mX11_slid 36 (.iconst 1) 1 37 := ⟨by decide +kernel, rfl⟩
theorem dX11_slid_37 : CalV mX11_slid 37 40 mX11_entry := ⟨398, by decide +kernel, rfl, tb_7 (List.mem_of_getElem? (i := 191) (by decide +kernel)) rfl, meX11_entry⟩
theorem dX11_slid_40 : Ins mX11_slid 40 (.goto 13) 3 43 := ⟨by decide +kernel, rfl⟩
theorem dX11_slid_43 : Ins mX11_slid 43 (.aload_n 0) 1 44 := ⟨by decide +kernel, rfl⟩
theorem dX11_slid_44 : Ins mX11_slid 44 (.iload_n 3) 1 45 := ⟨by decide +kernel, rfl⟩
theorem dX11_slid_45 : Ins mX11_slid 45 (.iconst 2) 1 46 := ⟨by decide +kernel, rfl⟩
theorem dX11_slid_46 : CalV mX11_slid 46 49 mX11_entry := ⟨398, by decide +kernel, rfl, tb_7 (List.mem_of_getElem? (i := 191) (by decide +kernel)) rfl, meX11_entry⟩
theorem dX11_slid_49 : Ins mX11_slid 49 (.iload_n 1) 1 50 := ⟨by decide +kernel, rfl⟩
theorem dX11_slid_50 : Ins mX11_slid 50 (.ishr) 1 51 := ⟨by decide +kernel, rfl⟩
theorem dX11_slid_51 : Ins mX11_slid 51 (.iconst 1) 1 52 := ⟨by decide +kernel, rfl⟩
theorem dX11_slid_52 : Ins mX11_slid 52 (.iand) 1 53 := ⟨by decide +kernel, rfl⟩
theorem dX11_slid_53 : Ins mX11_slid 53 (.iadd) 1 54 := ⟨by decide +kernel, rfl⟩
theorem dX11_slid_54 : Ins mX11_slid 54 (.istore_n 2) 1 55 := ⟨by decide +kernel, rfl⟩
theorem dX11_slid_55 : Ins mX11_slid 55 (.iinc 3 1) 3 58 := ⟨by decide +kernel, rfl⟩
theorem dX11_slid_58 : Ins mX11_slid 58 (.goto (-38)) 3 61 := ⟨by decide +kernel, rfl⟩
theorem dX11_slid_61 : Ins mX11_slid 61 (.iload_n 2) 1 62 := ⟨by decide +kernel, rfl⟩
theorem dX11_slid_62 : Ins mX11_slid 62 (.ireturn) 1 63 := ⟨by decide +kernel, rfl⟩
theorem dX11_inStep_0 : Ins mX11_inStep 0 (.iconst 0) 1 1 := ⟨by decide +kernel, rfl⟩
theorem dX11_inStep_1 : Ins mX11_inStep 1 (.istore_n 1) 1 2 := ⟨by decide +kernel, rfl⟩
theorem dX11_inStep_2 : Ins mX11_inStep 2 (.iconst 0) 1 3 := ⟨by decide +kernel, rfl⟩
theorem dX11_inStep_3 : Ins mX11_inStep 3 (.istore_n 2) 1 4 := ⟨by decide +kernel, rfl⟩
theorem dX11_inStep_4 : Ins mX11_inStep 4 (.iload_n 2) 1 5 := ⟨by decide +kernel, rfl⟩
theorem dX11_inStep_5 : Ins mX11_inStep 5 (.aload_n 0) 1 6 := ⟨by decide +kernel, rfl⟩
theorem dX11_inStep_6 : GgR mX11_inStep 6 9 10 0 := ⟨0, rfl, ⟨7, _, by decide +kernel, rfl, rfl, by decide, tb_5 (List.mem_of_getElem? (i := 196) (by decide +kernel)) rfl⟩, by decide, rfl⟩
theorem dX11_inStep_9 : Ins mX11_inStep 9 (.iconst 0) 1 10 := ⟨by decide +kernel, rfl⟩
theorem dX11_inStep_10 : Ins mX11_inStep 10 (.iaload) 1 11 := ⟨by decide +kernel, rfl⟩
theorem dX11_inStep_11 : Ins mX11_inStep 11 (.if_icmp .ge 72) 3 14 := ⟨by decide +kernel, rfl⟩
theorem dX11_inStep_14 : Ins mX11_inStep 14 (.iconst 0) 1 15 := ⟨by decide +kernel, rfl⟩
theorem dX11_inStep_15 : Ins mX11_inStep 15 (.istore_n 3) 1 16 := ⟨by decide +kernel, rfl⟩
theorem dX11_inStep_16 : Ins mX11_inStep 16 (.iload_n 3) 1 17 := ⟨by decide +kernel, rfl⟩
theorem dX11_inStep_17 : Ins mX11_inStep 17 (.aload_n 0) 1 18 := ⟨by decide +kernel, rfl⟩
theorem dX11_inStep_18 : GgR mX11_inStep 18 21 10 0 := ⟨0, rfl, ⟨7, _, by decide +kernel, rfl, rfl, by decide, tb_5 (List.mem_of_getElem? (i := 196) (by decide +kernel)) rfl⟩, by decide, rfl⟩
theorem dX11_inStep_21 : Ins mX11_inStep 21 (.iconst 0) 1 22 := ⟨by decide +kernel, rfl⟩
theorem dX11_inStep_22 : Ins mX11_inStep 22 (.iaload) 1 23 := ⟨by decide +kernel, rfl⟩
theorem dX11_inStep_23 : Ins mX11_inStep 23 (.if_icmp .ge 54) 3 26 := ⟨by decide +kernel, rfl⟩
theorem dX11_inStep_26 : Ins mX11_inStep 26 (.iload_n 1) 1 27 := ⟨by decide +kernel, rfl⟩
theorem dX11_inStep_27 : Ins mX11_inStep 27 (.iload_n 3) 1 28 := ⟨by decide +kernel, rfl⟩
theorem dX11_inStep_28 : Ins mX11_inStep 28 (.iload_n 2) 1 29 := ⟨by decide +kernel, rfl⟩
theorem dX11_inStep_29 : Ins mX11_inStep 29 (.if_icmp .eq 39) 3 32 := ⟨by decide +kernel, rfl⟩
theorem dX11_inStep_32 : Ins mX11_inStep 32 (.aload_n 0) 1 33 := ⟨by decide +kernel, rfl⟩
theorem dX11_inStep_33 : Ins mX11_inStep 33 (.iload_n 2) 1 34 := ⟨by decide +kernel, rfl⟩
theorem dX11_inStep_34 : Ins mX11_inStep 34 (.iconst 2) 1 35 := ⟨by decide +kernel, rfl⟩
theorem dX11_inStep_35 : CalV mX11_inStep 35 38 mX11_get := ⟨71, by decide +kernel, rfl, tb_6 (List.mem_of_getElem? (i := 233) (by decide +kernel)) rfl, meX11_get⟩
theorem dX11_inStep_38 : Ins mX11_inStep 38 (.aload_n 0) 1 39 := ⟨by decide +kernel, rfl⟩
theorem dX11_inStep_39 : Ins mX11_inStep 39 (.iload_n 3) 1 40 := ⟨by decide +kernel, rfl⟩
theorem dX11_inStep_40 : Ins mX11_inStep 40 (.iconst 2) 1 41 := ⟨by decide +kernel, rfl⟩
theorem dX11_inStep_41 : CalV mX11_inStep 41 44 mX11_get := ⟨71, by decide +kernel, rfl, tb_6 (List.mem_of_getElem? (i := 233) (by decide +kernel)) rfl, meX11_get⟩
theorem dX11_inStep_44 : Ins mX11_inStep 44 (.if_icmp .ne 24) 3 47 := ⟨by decide +kernel, rfl⟩
theorem dX11_inStep_47 : Ins mX11_inStep 47 (.aload_n 0) 1 48 := ⟨by decide +kernel, rfl⟩
theorem dX11_inStep_48 : Ins mX11_inStep 48 (.iload_n 2) 1 49 := ⟨by decide +kernel, rfl⟩
theorem dX11_inStep_49 : Ins mX11_inStep 49 (.iconst 0) 1 50 := ⟨by decide +kernel, rfl⟩
theorem dX11_inStep_50 : CalV mX11_inStep 50 53 mX11_get := ⟨71, by decide +kernel, rfl, tb_6 (List.mem_of_getElem? (i := 233) (by decide +kernel)) rfl, meX11_get⟩
theorem dX11_inStep_53 : Ins mX11_inStep 53 (.aload_n 0) 1 54 := ⟨by decide +kernel, rfl⟩
theorem dX11_inStep_54 : Ins mX11_inStep 54 (.iload_n 3) 1 55 := ⟨by decide +kernel, rfl⟩
theorem dX11_inStep_55 : Ins mX11_inStep 55 (.iconst 0) 1 56 := ⟨by decide +kernel, rfl⟩
theorem dX11_inStep_56 : CalV mX11_inStep 56 59 mX11_get := ⟨71, by decide +kernel, rfl, tb_6 (List.mem_of_getElem? (i := 233) (by decide +kernel)) rfl, meX11_get⟩
theorem dX11_inStep_59 : Ins mX11_inStep 59 (.if_icmp .ne 9) 3 62 := ⟨by decide +kernel, rfl⟩
theorem dX11_inStep_62 : Ins mX11_inStep 62 (.iconst 1) 1 63 := ⟨by decide +kernel, rfl⟩
theorem dX11_inStep_63 : Ins mX11_inStep 63 (.iload_n 2) 1 64 := ⟨by decide +kernel, rfl⟩
theorem dX11_inStep_64 : Ins mX11_inStep 64 (.ishl) 1 65 := ⟨by decide +kernel, rfl⟩
theorem dX11_inStep_65 : Ins mX11_inStep 65 (.goto 4) 3 68 := ⟨by decide +kernel, rfl⟩
theorem dX11_inStep_68 : Ins mX11_inStep 68 (.iconst 0) 1 69 := ⟨by decide +kernel, rfl⟩
theorem dX11_inStep_69 : Ins mX11_inStep 69 (.ior) 1 70 := ⟨by decide +kernel, rfl⟩
theorem dX11_inStep_70 : Ins mX11_inStep 70 (.istore_n 1) 1 71 := ⟨by decide +kernel, rfl⟩
theorem dX11_inStep_71 : Ins mX11_inStep 71 (.iinc 3 1) 3 74 := ⟨by decide +kernel, rfl⟩
theorem dX11_inStep_74 : Ins mX11_inStep 74 (.goto (-58)) 3 77 := ⟨by decide +kernel, rfl⟩
theorem dX11_inStep_77 : Ins mX11_inStep 77 (.iinc 2 1) 3 80 := ⟨by decide +kernel, rfl⟩
theorem dX11_inStep_80 : Ins mX11_inStep 80 (.goto (-76)) 3 83 := ⟨by decide +kernel, rfl⟩
theorem dX11_inStep_83 : Ins mX11_inStep 83 (.iload_n 1) 1 84 := ⟨by decide +kernel, rfl⟩
theorem dX11_inStep_84 : Ins mX11_inStep 84 (.ireturn) 1 85 := ⟨by decide +kernel, rfl⟩
theorem dX11_tiredest_0 : Ins mX11_tiredest 0 (.iconst (-1)) 1 1 := ⟨by decide +kernel, rfl⟩
theorem dX11_tiredest_1 : Ins mX11_tiredest 1 (.istore_n 1) 1 2 := ⟨by decide +kernel, rfl⟩
theorem dX11_tiredest_2 : Ins mX11_tiredest 2 (.iconst 0) 1 3 := ⟨by decide +kernel, rfl⟩
theorem dX11_tiredest_3 : Ins mX11_tiredest 3 (.istore_n 2) 1 4 := ⟨by decide +kernel, rfl⟩
theorem dX11_tiredest_4 : Ins mX11_tiredest 4 (.iload_n 2) 1 5 := ⟨by decide +kernel, rfl⟩
theorem dX11_tiredest_5 : Ins mX11_tiredest 5 (.aload_n 0) 1 6 := ⟨by decide +kernel, rfl⟩
theorem dX11_tiredest_6 : GgR mX11_tiredest 6 9 10 0 := ⟨0, rfl, ⟨7, _, by decide +kernel, rfl, rfl, by decide, tb_5 (List.mem_of_getElem? (i := 196) (by decide +kernel)) rfl⟩, by decide, rfl⟩
theorem dX11_tiredest_9 : Ins mX11_tiredest 9 (.iconst 1) 1 10 := ⟨by decide +kernel, rfl⟩
theorem dX11_tiredest_10 : Ins mX11_tiredest 10 (.iaload) 1 11 := ⟨by decide +kernel, rfl⟩
theorem dX11_tiredest_11 : Ins mX11_tiredest 11 (.if_icmp .ge 31) 3 14 := ⟨by decide +kernel, rfl⟩
theorem dX11_tiredest_14 : Ins mX11_tiredest 14 (.iload_n 1) 1 15 := ⟨by decide +kernel, rfl⟩
theorem dX11_tiredest_15 : Ins mX11_tiredest 15 (.iconst (-1)) 1 16 := ⟨by decide +kernel, rfl⟩
theorem dX11_tiredest_16 : Ins mX11_tiredest 16 (.if_icmp .eq 18) 3 19 := ⟨by decide +kernel, rfl⟩
theorem dX11_tiredest_19 : Ins mX11_tiredest 19 (.aload_n 0) 1 20 := ⟨by decide +kernel, rfl⟩
theorem dX11_tiredest_20 : Ins mX11_tiredest 20 (.iload_n 2) 1 21 := ⟨by decide +kernel, rfl⟩
theorem dX11_tiredest_21 : Ins mX11_tiredest 21 (.iconst 0) 1 22 := ⟨by decide +kernel, rfl⟩
theorem dX11_tiredest_22 : CalV mX11_tiredest 22 25 mX11_of := ⟨67, by decide +kernel, rfl, tb_7 (List.mem_of_getElem? (i := 13) (by decide +kernel)) rfl, meX11_of⟩
theorem dX11_tiredest_25 : Ins mX11_tiredest 25 (.aload_n 0) 1 26 := ⟨by decide +kernel, rfl⟩
theorem dX11_tiredest_26 : Ins mX11_tiredest 26 (.iload_n 1) 1 27 := ⟨by decide +kernel, rfl⟩
theorem dX11_tiredest_27 : Ins mX11_tiredest 27 (.iconst 0) 1 28 := ⟨by decide +kernel, rfl⟩
theorem dX11_tiredest_28 : CalV mX11_tiredest 28 31 mX11_of := ⟨67, by decide +kernel, rfl, tb_7 (List.mem_of_getElem? (i := 13) (by decide +kernel)) rfl, meX11_of⟩
theorem dX11_tiredest_31 : Ins mX11_tiredest 31 (.if_icmp .le 5) 3 34 := ⟨by decide +kernel, rfl⟩
theorem dX11_tiredest_34 : Ins mX11_tiredest 34 (.iload_n 2) 1 35 := ⟨by decide +kernel, rfl⟩
theorem dX11_tiredest_35 : Ins mX11_tiredest 35 (.istore_n 1) 1 36 := ⟨by decide +kernel, rfl⟩
theorem dX11_tiredest_36 : Ins mX11_tiredest 36 (.iinc 2 1) 3 39 := ⟨by decide +kernel, rfl⟩
theorem dX11_tiredest_39 : Ins mX11_tiredest 39 (.goto (-35)) 3 42 := ⟨by decide +kernel, rfl⟩
theorem dX11_tiredest_42 : Ins mX11_tiredest 42 (.iload_n 1) 1 43 := ⟨by decide +kernel, rfl⟩
theorem dX11_tiredest_43 : Ins mX11_tiredest 43 (.ireturn) 1 44 := ⟨by decide +kernel, rfl⟩
theorem dX11_veterans_0 : Ins mX11_veterans 0 (.iload_n 1) 1 1 := ⟨by decide +kernel, rfl⟩
theorem dX11_veterans_1 : Ins mX11_veterans 1 (.iconst 1) 1 2 := ⟨by decide +kernel, rfl⟩
theorem dX11_veterans_2 : Ins mX11_veterans 2 (.bipush 9) 2 4 := ⟨by decide +kernel, rfl⟩
theorem dX11_veterans_4 : CalS mX11_veterans 4 7 mX11_isIn := ⟨63, by decide +kernel, rfl, Or.inl (tb_6 (List.mem_of_getElem? (i := 50) (by decide +kernel)) rfl), meX11_isIn⟩
theorem dX11_veterans_7 : Ins mX11_veterans 7 (.ifCond .ne 5) 3 10 := ⟨by decide +kernel, rfl⟩
theorem dX11_veterans_10 : Ins mX11_veterans 10 (.iconst (-1)) 1 11 := ⟨by decide +kernel, rfl⟩
theorem dX11_veterans_11 : Ins mX11_veterans 11 (.ireturn) 1 12 := ⟨by decide +kernel, rfl⟩
theorem dX11_veterans_12 : Ins mX11_veterans 12 (.iconst 0) 1 13 := ⟨by decide +kernel, rfl⟩
theorem dX11_veterans_13 : Ins mX11_veterans 13 (.istore_n 2) 1 14 := ⟨by decide +kernel, rfl⟩
theorem dX11_veterans_14 : Ins mX11_veterans 14 (.iconst 0) 1 15 := ⟨by decide +kernel, rfl⟩
theorem dX11_veterans_15 : Ins mX11_veterans 15 (.istore_n 3) 1 16 := ⟨by decide +kernel, rfl⟩
theorem dX11_veterans_16 : Ins mX11_veterans 16 (.iload_n 3) 1 17 := ⟨by decide +kernel, rfl⟩
theorem dX11_veterans_17 : Ins mX11_veterans 17 (.aload_n 0) 1 18 := ⟨by decide +kernel, rfl⟩
theorem dX11_veterans_18 : GgR mX11_veterans 18 21 10 0 := ⟨0, rfl, ⟨7, _, by decide +kernel, rfl, rfl, by decide, tb_5 (List.mem_of_getElem? (i := 196) (by decide +kernel)) rfl⟩, by decide, rfl⟩
theorem dX11_veterans_21 : Ins mX11_veterans 21 (.iconst 1) 1 22 := ⟨by decide +kernel, rfl⟩
theorem dX11_veterans_22 : Ins mX11_veterans 22 (.iaload) 1 23 := ⟨by decide +kernel, rfl⟩
theorem dX11_veterans_23 : Ins mX11_veterans 23 (.if_icmp .ge 29) 3 26 := ⟨by decide +kernel, rfl⟩
theorem dX11_veterans_26 : Ins mX11_veterans 26 (.iload_n 2) 1 27 := ⟨by decide +kernel, rfl⟩
theorem dX11_veterans_27 : Ins mX11_veterans 27 (.aload_n 0) 1 28 := ⟨by decide +kernel, rfl⟩
theorem dX11_veterans_28 : Ins mX11_veterans 28 (.iload_n 3) 1 29 := ⟨by decide +kernel, rfl⟩
theorem dX11_veterans_29 : Ins mX11_veterans 29 (.iconst 2) 1 30 := ⟨by decide +kernel, rfl⟩
theorem dX11_veterans_30 : CalV mX11_veterans 30 33 mX11_of := ⟨67, by decide +kernel, rfl, tb_7 (List.mem_of_getElem? (i := 13) (by decide +kernel)) rfl, meX11_of⟩
theorem dX11_veterans_33 : Ins mX11_veterans 33 (.iload_n 1) 1 34 := ⟨by decide +kernel, rfl⟩
theorem dX11_veterans_34 : Ins mX11_veterans 34 (.if_icmp .lt 9) 3 37 := ⟨by decide +kernel, rfl⟩
theorem dX11_veterans_37 : Ins mX11_veterans 37 (.iconst 1) 1 38 := ⟨by decide +kernel, rfl⟩
theorem dX11_veterans_38 : Ins mX11_veterans 38 (.iload_n 3) 1 39 := ⟨by decide +kernel, rfl⟩
theorem dX11_veterans_39 : Ins mX11_veterans 39 (.ishl) 1 40 := ⟨by decide +kernel, rfl⟩
theorem dX11_veterans_40 : Ins mX11_veterans 40 (.goto 4) 3 43 := ⟨by decide +kernel, rfl⟩
theorem dX11_veterans_43 : Ins mX11_veterans 43 (.iconst 0) 1 44 := ⟨by decide +kernel, rfl⟩
theorem dX11_veterans_44 : Ins mX11_veterans 44 (.ior) 1 45 := ⟨by decide +kernel, rfl⟩
theorem dX11_veterans_45 : Ins mX11_veterans 45 (.istore_n 2) 1 46 := ⟨by decide +kernel, rfl⟩
theorem dX11_veterans_46 : Ins mX11_veterans 46 (.iinc 3 1) 3 49 := ⟨by decide +kernel, rfl⟩
theorem dX11_veterans_49 : Ins mX11_veterans 49 (.goto (-33)) 3 52 := ⟨by decide +kernel, rfl⟩
theorem dX11_veterans_52 : Ins mX11_veterans 52 (.iload_n 2) 1 53 := ⟨by decide +kernel, rfl⟩
theorem dX11_veterans_53 : Ins mX11_veterans 53 (.ireturn) 1 54 := ⟨by decide +kernel, rfl⟩
theorem dX11_all_0 : Ins mX11_all 0 (.iconst 1) 1 1 := ⟨by decide +kernel, rfl⟩
theorem dX11_all_1 : Ins mX11_all 1 (.aload_n 0) 1 2 := ⟨by decide +kernel, rfl⟩
theorem dX11_all_2 : GgR mX11_all 2 5 10 0 := ⟨0, rfl, ⟨7, _, by decide +kernel, rfl, rfl, by decide, tb_5 (List.mem_of_getElem? (i := 196) (by decide +kernel)) rfl⟩, by decide, rfl⟩
theorem dX11_all_5 : Ins mX11_all 5 (.iconst 0) 1 6 := ⟨by decide +kernel, rfl⟩
theorem dX11_all_6 : Ins mX11_all 6 (.iaload) 1 7 := ⟨by decide +kernel, rfl⟩
theorem dX11_all_7 : Ins mX11_all 7 (.ishl) 1 8 := ⟨by decide +kernel, rfl⟩
theorem dX11_all_8 : Ins mX11_all 8 (.iconst 1) 1 9 := ⟨by decide +kernel, rfl⟩
theorem dX11_all_9 : Ins mX11_all 9 (.isub) 1 10 := ⟨by decide +kernel, rfl⟩
theorem dX11_all_10 : Ins mX11_all 10 (.ireturn) 1 11 := ⟨by decide +kernel, rfl⟩
theorem dX11_lonely_0 : Ins mX11_lonely 0 (.iconst 0) 1 1 := ⟨by decide +kernel, rfl⟩
theorem dX11_lonely_1 : Ins mX11_lonely 1 (.istore_n 1) 1 2 := ⟨by decide +kernel, rfl⟩
theorem dX11_lonely_2 : Ins mX11_lonely 2 (.iconst 0) 1 3 := ⟨by decide +kernel, rfl⟩
theorem dX11_lonely_3 : Ins mX11_lonely 3 (.istore_n 2) 1 4 := ⟨by decide +kernel, rfl⟩
theorem dX11_lonely_4 : Ins mX11_lonely 4 (.iload_n 2) 1 5 := ⟨by decide +kernel, rfl⟩
theorem dX11_lonely_5 : Ins mX11_lonely 5 (.bipush 60) 2 7 := ⟨by decide +kernel, rfl⟩
theorem dX11_lonely_7 : Ins mX11_lonely 7 (.if_icmp .ge 43) 3 10 := ⟨by decide +kernel, rfl⟩
theorem dX11_lonely_10 : Ins mX11_lonely 10 (.aload_n 0) 1 11 := ⟨by decide +kernel, rfl⟩
theorem dX11_lonely_11 : Ins mX11_lonely 11 (.aload_n 0) 1 12 := ⟨by decide +kernel, rfl⟩
theorem dX11_lonely_12 : CalV mX11_lonely 12 15 mX11_all := ⟨401, by decide +kernel, rfl, tb_7 (List.mem_of_getElem? (i := 215) (by decide +kernel)) rfl, meX11_all⟩
theorem dX11_lonely_15 : Ins mX11_lonely 15 (.aload_n 0) 1 16 := ⟨by decide +kernel, rfl⟩
theorem dX11_lonely_16 : GgR mX11_lonely 16 19 10 0 := ⟨0, rfl, ⟨7, _, by decide +kernel, rfl, rfl, by decide, tb_5 (List.mem_of_getElem? (i := 196) (by decide +kernel)) rfl⟩, by decide, rfl⟩
theorem dX11_lonely_19 : Ins mX11_lonely 19 (.bipush 10) 2 21 := ⟨by decide +kernel, rfl⟩
theorem dX11_lonely_21 : Ins mX11_lonely 21 (.iaload) 1 22 := ⟨by decide +kernel, rfl⟩
theorem dX11_lonely_22 : Ins mX11_lonely 22 (.iload_n 2) 1 23 := ⟨by decide +kernel, rfl⟩
theorem dX11_lonely_23 : Ins mX11_lonely 23 (.iadd) 1 24 := ⟨by decide +kernel, rfl⟩
theorem dX11_lonely_24 : CalV mX11_lonely 24 27 mX11_dueOf := ⟨308, by decide +kernel, rfl, tb_7 (List.mem_of_getElem? (i := 69) (by decide +kernel)) rfl, meX11_dueOf⟩
theorem dX11_lonely_27 : Ins mX11_lonely 27 (.istore_n 3) 1 28 := ⟨by decide +kernel, rfl⟩
theorem dX11_lonely_28 : Ins mX11_lonely 28 (.iload_n 1) 1 29 := ⟨by decide +kernel, rfl⟩
theorem dX11_lonely_29 : Ins mX11_lonely 29 (.iload_n 3) 1 30 := ⟨by decide +kernel, rfl⟩
theorem dX11_lonely_30 : CalS mX11_lonely 30 33 mX11_bits := ⟨302, by decide +kernel, rfl, Or.inl (tb_7 (List.mem_of_getElem? (i := 77) (by decide +kernel)) rfl), meX11_bits⟩
theorem dX11_lonely_33 : Ins mX11_lonely 33 (.iconst 1) 1 34 := ⟨by decide +kernel, rfl⟩
theorem dX11_lonely_34 : Ins mX11_lonely 34 (.if_icmp .le 7) 3 37 := ⟨by decide +kernel, rfl⟩
theorem dX11_lonely_37 : Ins mX11_lonely 37 (.iload_n 3) 1 38 := ⟨by decide +kernel, rfl⟩
theorem dX11_lonely_38 : Ins mX11_lonely 38 (.goto 4) 3 41 := ⟨by decide +kernel, rfl⟩
theorem dX11_lonely_41 : Ins mX11_lonely 41 (.iconst 0) 1 42 := ⟨by decide +kernel, rfl⟩
theorem dX11_lonely_42 : Ins mX11_lonely 42 (.ior) 1 43 := ⟨by decide +kernel, rfl⟩
theorem dX11_lonely_43 : Ins mX11_lonely 43 (.istore_n 1) 1 44 := ⟨by decide +kernel, rfl⟩
theorem dX11_lonely_44 : Ins mX11_lonely 44 (.iinc 2 1) 3 47 := ⟨by decide +kernel, rfl⟩
theorem dX11_lonely_47 : Ins mX11_lonely 47 (.goto (-43)) 3 50 := ⟨by decide +kernel, rfl⟩
theorem dX11_lonely_50 : Ins mX11_lonely 50 (.iconst 0) 1 51 := ⟨by decide +kernel, rfl⟩
theorem dX11_lonely_51 : Ins mX11_lonely 51 (.istore_n 2) 1 52 := ⟨by decide +kernel, rfl⟩
theorem dX11_lonely_52 : Ins mX11_lonely 52 (.iload_n 2) 1 53 := ⟨by decide +kernel, rfl⟩
theorem dX11_lonely_53 : Ins mX11_lonely 53 (.aload_n 0) 1 54 := ⟨by decide +kernel, rfl⟩
theorem dX11_lonely_54 : GgR mX11_lonely 54 57 10 0 := ⟨0, rfl, ⟨7, _, by decide +kernel, rfl, rfl, by decide, tb_5 (List.mem_of_getElem? (i := 196) (by decide +kernel)) rfl⟩, by decide, rfl⟩
theorem dX11_lonely_57 : Ins mX11_lonely 57 (.iconst 0) 1 58 := ⟨by decide +kernel, rfl⟩
theorem dX11_lonely_58 : Ins mX11_lonely 58 (.iaload) 1 59 := ⟨by decide +kernel, rfl⟩
theorem dX11_lonely_59 : Ins mX11_lonely 59 (.if_icmp .ge 19) 3 62 := ⟨by decide +kernel, rfl⟩
theorem dX11_lonely_62 : Ins mX11_lonely 62 (.iload_n 1) 1 63 := ⟨by decide +kernel, rfl⟩
theorem dX11_lonely_63 : Ins mX11_lonely 63 (.iload_n 2) 1 64 := ⟨by decide +kernel, rfl⟩
theorem dX11_lonely_64 : CalS mX11_lonely 64 67 mX11_has := ⟨74, by decide +kernel, rfl, Or.inl (tb_6 (List.mem_of_getElem? (i := 135) (by decide +kernel)) rfl), meX11_has⟩
theorem dX11_lonely_67 : Ins mX11_lonely 67 (.ifCond .ne 5) 3 70 := ⟨by decide +kernel, rfl⟩
theorem dX11_lonely_70 : Ins mX11_lonely 70 (.iload_n 2) 1 71 := ⟨by decide +kernel, rfl⟩
theorem dX11_lonely_71 : Ins mX11_lonely 71 (.ireturn) 1 72 := ⟨by decide +kernel, rfl⟩
theorem dX11_lonely_72 : Ins mX11_lonely 72 (.iinc 2 1) 3 75 := ⟨by decide +kernel, rfl⟩
theorem dX11_lonely_75 : Ins mX11_lonely 75 (.goto (-23)) 3 78 := ⟨by decide +kernel, rfl⟩
theorem dX11_lonely_78 : Ins mX11_lonely 78 (.iconst (-1)) 1 79 := ⟨by decide +kernel, rfl⟩
theorem dX11_lonely_79 : Ins mX11_lonely 79 (.ireturn) 1 80 := ⟨by decide +kernel, rfl⟩
theorem dX11_setAside_0 : Ins mX11_setAside 0 (.bipush 10) 2 2 := ⟨by decide +kernel, rfl⟩
theorem dX11_setAside_2 : Ins mX11_setAside 2 (.istore_n 1) 1 3 := ⟨by decide +kernel, rfl⟩
theorem dX11_setAside_3 : Ins mX11_setAside 3 (.iload_n 1) 1 4 := ⟨by decide +kernel, rfl⟩
theorem dX11_setAside_4 : Ins mX11_setAside 4 (.bipush 72) 2 6 := ⟨by decide +kernel, rfl⟩
theorem dX11_setAside_6 : Ins mX11_setAside 6 (.if_icmp .ge 21) 3 9 := ⟨by decide +kernel, rfl⟩
theorem dX11_setAside_9 : Ins mX11_setAside 9 (.aload_n 0) 1 10 := ⟨by decide +kernel, rfl⟩
theorem dX11_setAside_10 : GgR mX11_setAside 10 13 10 26 := ⟨26, rfl, ⟨50, _, by decide +kernel, rfl, rfl, by decide, tb_5 (List.mem_of_getElem? (i := 222) (by decide +kernel)) rfl⟩, by decide, rfl⟩
theorem dX11_setAside_13 : Ins mX11_setAside 13 (.iload_n 1) 1 14 := ⟨by decide +kernel, rfl⟩
theorem dX11_setAside_14 : Ins mX11_setAside 14 (.aload_n 0) 1 15 := ⟨by decide +kernel, rfl⟩
theorem dX11_setAside_15 : GgR mX11_setAside 15 18 10 0 := ⟨0, rfl, ⟨7, _, by decide +kernel, rfl, rfl, by decide, tb_5 (List.mem_of_getElem? (i := 196) (by decide +kernel)) rfl⟩, by decide, rfl⟩
theorem dX11_setAside_18 : Ins mX11_setAside 18 (.iload_n 1) 1 19 := ⟨by decide +kernel, rfl⟩
theorem dX11_setAside_19 : Ins mX11_setAside 19 (.iaload) 1 20 := ⟨by decide +kernel, rfl⟩
theorem dX11_setAside_20 : Ins mX11_setAside 20 (.iastore) 1 21 := ⟨by decide +kernel, rfl⟩
theorem dX11_setAside_21 : Ins mX11_setAside 21 (.iinc 1 1) 3 24 := ⟨by decide +kernel, rfl⟩
theorem dX11_setAside_24 : Ins mX11_setAside 24 (.goto (-21)) 3 27 := ⟨by decide +kernel, rfl⟩
theorem dX11_setAside_27 : Ins mX11_setAside 27 (.aload_n 0) 1 28 := ⟨by decide +kernel, rfl⟩
theorem dX11_setAside_28 : Ins mX11_setAside 28 (.iconst 0) 1 29 := ⟨by decide +kernel, rfl⟩
theorem dX11_setAside_29 : GpZ mX11_setAside 29 32 10 23 := ⟨23, rfl, ⟨43, _, by decide +kernel, rfl, rfl, by decide, tb_5 (List.mem_of_getElem? (i := 219) (by decide +kernel)) rfl, by decide +kernel, Or.inl rfl⟩, by decide, rfl⟩
theorem dX11_setAside_32 : Ins mX11_setAside 32 (.aload_n 0) 1 33 := ⟨by decide +kernel, rfl⟩
theorem dX11_setAside_33 : Ins mX11_setAside 33 (.iconst 0) 1 34 := ⟨by decide +kernel, rfl⟩
theorem dX11_setAside_34 : GpI mX11_setAside 34 37 10 24 := ⟨24, rfl, ⟨311, _, by decide +kernel, rfl, rfl, by decide, tb_5 (List.mem_of_getElem? (i := 220) (by decide +kernel)) rfl, by decide +kernel, Or.inl rfl⟩, by decide, rfl⟩
theorem dX11_setAside_37 : Ins mX11_setAside 37 (.return_) 1 38 := ⟨by decide +kernel, rfl⟩
theorem dX11_putBack_0 : Ins mX11_putBack 0 (.bipush 10) 2 2 := ⟨by decide +kernel, rfl⟩
theorem dX11_putBack_2 : Ins mX11_putBack 2 (.istore_n 1) 1 3 := ⟨by decide +kernel, rfl⟩
theorem dX11_putBack_3 : Ins mX11_putBack 3 (.iload_n 1) 1 4 := ⟨by decide +kernel, rfl⟩
theorem dX11_putBack_4 : Ins mX11_putBack 4 (.bipush 72) 2 6 := ⟨by decide +kernel, rfl⟩
theorem dX11_putBack_6 : Ins mX11_putBack 6 (.if_icmp .ge 21) 3 9 := ⟨by decide +kernel, rfl⟩
theorem dX11_putBack_9 : Ins mX11_putBack 9 (.aload_n 0) 1 10 := ⟨by decide +kernel, rfl⟩
theorem dX11_putBack_10 : GgR mX11_putBack 10 13 10 0 := ⟨0, rfl, ⟨7, _, by decide +kernel, rfl, rfl, by decide, tb_5 (List.mem_of_getElem? (i := 196) (by decide +kernel)) rfl⟩, by decide, rfl⟩
theorem dX11_putBack_13 : Ins mX11_putBack 13 (.iload_n 1) 1 14 := ⟨by decide +kernel, rfl⟩
theorem dX11_putBack_14 : Ins mX11_putBack 14 (.aload_n 0) 1 15 := ⟨by decide +kernel, rfl⟩
theorem dX11_putBack_15 : GgR mX11_putBack 15 18 10 26 := ⟨26, rfl, ⟨50, _, by decide +kernel, rfl, rfl, by decide, tb_5 (List.mem_of_getElem? (i := 222) (by decide +kernel)) rfl⟩, by decide, rfl⟩
theorem dX11_putBack_18 : Ins mX11_putBack 18 (.iload_n 1) 1 19 := ⟨by decide +kernel, rfl⟩
theorem dX11_putBack_19 : Ins mX11_putBack 19 (.iaload) 1 20 := ⟨by decide +kernel, rfl⟩
theorem dX11_putBack_20 : Ins mX11_putBack 20 (.iastore) 1 21 := ⟨by decide +kernel, rfl⟩
theorem dX11_putBack_21 : Ins mX11_putBack 21 (.iinc 1 1) 3 24 := ⟨by decide +kernel, rfl⟩
theorem dX11_putBack_24 : Ins mX11_putBack 24 (.goto (-21)) 3 27 := ⟨by decide +kernel, rfl⟩
theorem dX11_putBack_27 : Ins mX11_putBack 27 (.aload_n 0) 1 28 := ⟨by decide +kernel, rfl⟩
theorem dX11_putBack_28 : Ins mX11_putBack 28 (.iconst 1) 1 29 := ⟨by decide +kernel, rfl⟩
theorem dX11_putBack_29 : GpZ mX11_putBack 29 32 10 23 := ⟨23, rfl, ⟨43, _, by decide +kernel, rfl, rfl, by decide, tb_5 (List.mem_of_getElem? (i := 219) (by decide +kernel)) rfl, by decide +kernel, Or.inl rfl⟩, by decide, rfl⟩
theorem dX11_putBack_32 : Ins mX11_putBack 32 (.return_) 1 33 := ⟨by decide +kernel, rfl⟩
theorem dX11_foretold_0 : Ins mX11_foretold 0 (.iload_n 1) 1 1 := ⟨by decide +kernel, rfl⟩
theorem dX11_foretold_1 : Ins mX11_foretold 1 (.iconst 1) 1 2 := ⟨by decide +kernel, rfl⟩
theorem dX11_foretold_2 : Ins mX11_foretold 2 (.bipush 60) 2 4 := ⟨by decide +kernel, rfl⟩
theorem dX11_foretold_4 : CalS mX11_foretold 4 7 mX11_isIn := ⟨63, by decide +kernel, rfl, Or.inl (tb_6 (List.mem_of_getElem? (i := 50) (by decide +kernel)) rfl), meX11_isIn⟩
theorem dX11_foretold_7 : Ins mX11_foretold 7 (.ifCond .eq 38) 3 10 := ⟨by decide +kernel, rfl⟩
theorem dX11_foretold_10 : Ins mX11_foretold 10 (.iload_n 2) 1 11 := ⟨by decide +kernel, rfl⟩
theorem dX11_foretold_11 : Ins mX11_foretold 11 (.iconst 0) 1 12 := ⟨by decide +kernel, rfl⟩
theorem dX11_foretold_12 : Ins mX11_foretold 12 (.iconst 2) 1 13 := ⟨by decide +kernel, rfl⟩
theorem dX11_foretold_13 : CalS mX11_foretold 13 16 mX11_isIn := ⟨63, by decide +kernel, rfl, Or.inl (tb_6 (List.mem_of_getElem? (i := 50) (by decide +kernel)) rfl), meX11_isIn⟩
theorem dX11_foretold_16 : Ins mX11_foretold 16 (.ifCond .eq 29) 3 19 := ⟨by decide +kernel, rfl⟩
theorem dX11_foretold_19 : Ins mX11_foretold 19 (.iload_n 2) 1 20 := ⟨by decide +kernel, rfl⟩
theorem dX11_foretold_20 : Ins mX11_foretold 20 (.iconst 1) 1 21 := ⟨by decide +kernel, rfl⟩
theorem dX11_foretold_21 : Ins mX11_foretold 21 (.if_icmp .ne 11) 3 24 := ⟨by decide +kernel, rfl⟩
theorem dX11_foretold_24 : Ins mX11_foretold 24 (.aload_n 0) 1 25 := ⟨by decide +kernel, rfl⟩
theorem dX11_foretold_25 : Ins mX11_foretold 25 (.iload_n 3) 1 26 := ⟨by decide +kernel, rfl⟩
theorem dX11_foretold_26 : CalV mX11_foretold 26 29 mX11_isHorse := ⟨335, by decide +kernel, rfl, tb_7 (List.mem_of_getElem? (i := 9) (by decide +kernel)) rfl, meX11_isHorse⟩
theorem dX11_foretold_29 : Ins mX11_foretold 29 (.ifCond .eq 16) 3 32 := ⟨by decide +kernel, rfl⟩
theorem dX11_foretold_32 : Ins mX11_foretold 32 (.iload_n 2) 1 33 := ⟨by decide +kernel, rfl⟩
theorem dX11_foretold_33 : Ins mX11_foretold 33 (.iconst 2) 1 34 := ⟨by decide +kernel, rfl⟩
theorem dX11_foretold_34 : Ins mX11_foretold 34 (.if_icmp .ne 13) 3 37 := ⟨by decide +kernel, rfl⟩
theorem dX11_foretold_37 : Ins mX11_foretold 37 (.aload_n 0) 1 38 := ⟨by decide +kernel, rfl⟩
theorem dX11_foretold_38 : Ins mX11_foretold 38 (.iload_n 3) 1 39 := ⟨by decide +kernel, rfl⟩
theorem dX11_foretold_39 : CalV mX11_foretold 39 42 mX11_isBoy := ⟨332, by decide +kernel, rfl, tb_7 (List.mem_of_getElem? (i := 5) (by decide +kernel)) rfl, meX11_isBoy⟩
theorem dX11_foretold_42 : Ins mX11_foretold 42 (.ifCond .ne 5) 3 45 := ⟨by decide +kernel, rfl⟩
theorem dX11_foretold_45 : Ins mX11_foretold 45 (.iconst (-1)) 1 46 := ⟨by decide +kernel, rfl⟩
theorem dX11_foretold_46 : Ins mX11_foretold 46 (.ireturn) 1 47 := ⟨by decide +kernel, rfl⟩
theorem dX11_foretold_47 : Ins mX11_foretold 47 (.aload_n 0) 1 48 := ⟨by decide +kernel, rfl⟩
theorem dX11_foretold_48 : CalV mX11_foretold 48 51 mX11_setAside := ⟨404, by decide +kernel, rfl, tb_7 (List.mem_of_getElem? (i := 223) (by decide +kernel)) rfl, meX11_setAside⟩
theorem dX11_foretold_51 : Ins mX11_foretold 51 (.iconst 0) 1 52 := ⟨by decide +kernel, rfl⟩
theorem dX11_foretold_52 : Ins mX11_foretold 52 (.istore 4) 2 54 := ⟨by decide +kernel, rfl⟩
theorem dX11_foretold_54 : Ins mX11_foretold 54 (.iload 4) 2 56 := ⟨by decide +kernel, rfl⟩
theorem dX11_foretold_56 : Ins mX11_foretold 56 (.iload_n 1) 1 57 := ⟨by decide +kernel, rfl⟩
theorem dX11_foretold_57 : Ins mX11_foretold 57 (.if_icmp .ge 26) 3 60 := ⟨by decide +kernel, rfl⟩
theorem dX11_foretold_60 : Ins mX11_foretold 60 (.aload_n 0) 1 61 := ⟨by decide +kernel, rfl⟩
theorem dX11_foretold_61 : GgR mX11_foretold 61 64 10 0 := ⟨0, rfl, ⟨7, _, by decide +kernel, rfl, rfl, by decide, tb_5 (List.mem_of_getElem? (i := 196) (by decide +kernel)) rfl⟩, by decide, rfl⟩
theorem dX11_foretold_64 : Ins mX11_foretold 64 (.bipush 10) 2 66 := ⟨by decide +kernel, rfl⟩
theorem dX11_foretold_66 : Ins mX11_foretold 66 (.iaload) 1 67 := ⟨by decide +kernel, rfl⟩
theorem dX11_foretold_67 : Ins mX11_foretold 67 (.sipush 9999) 3 70 := ⟨by decide +kernel, rfl⟩
theorem dX11_foretold_70 : Ins mX11_foretold 70 (.if_icmp .ge 7) 3 73 := ⟨by decide +kernel, rfl⟩
theorem dX11_foretold_73 : Ins mX11_foretold 73 (.aload_n 0) 1 74 := ⟨by decide +kernel, rfl⟩
theorem dX11_foretold_74 : CalV mX11_foretold 74 77 mX11_pass := ⟨353, by decide +kernel, rfl, tb_7 (List.mem_of_getElem? (i := 57) (by decide +kernel)) rfl, meX11_pass⟩
theorem dX11_foretold_77 : Ins mX11_foretold 77 (.iinc 4 1) 3 80 := ⟨by decide +kernel, rfl⟩
theorem dX11_foretold_80 : Ins mX11_foretold 80 (.goto (-26)) 3 83 := ⟨by decide +kernel, rfl⟩
theorem dX11_foretold_83 : Ins mX11_foretold 83 (.iload_n 2) 1 84 := ⟨by decide +kernel, rfl⟩
theorem dX11_foretold_84 : Ins mX11_foretold 84 (.ifCond .ne 13) 3 87 := ⟨by decide +kernel, rfl⟩
theorem dX11_foretold_87 : Ins mX11_foretold 87 (.aload_n 0) 1 88 := ⟨by decide +kernel, rfl⟩
theorem dX11_foretold_88 : GgR mX11_foretold 88 91 10 0 := ⟨0, rfl, ⟨7, _, by decide +kernel, rfl, rfl, by decide, tb_5 (List.mem_of_getElem? (i := 196) (by decide +kernel)) rfl⟩, by decide, rfl⟩
theorem dX11_foretold_91 : Ins mX11_foretold 91 (.bipush 11) 2 93 := ⟨by decide +kernel, rfl⟩
theorem dX11_foretold_93 : Ins mX11_foretold 93 (.iaload) 1 94 := ⟨by decide +kernel, rfl⟩
theorem dX11_foretold_94 : Ins mX11_foretold 94 (.goto 23) 3 97 := ⟨by decide +kernel, rfl⟩
theorem dX11_foretold_97 : Ins mX11_foretold 97 (.iload_n 2) 1 98 := ⟨by decide +kernel, rfl⟩
theorem dX11_foretold_98 : Ins mX11_foretold 98 (.iconst 1) 1 99 := ⟨by decide +kernel, rfl⟩
theorem dX11_foretold_99 : Ins mX11_foretold 99 (.if_icmp .ne 12) 3 102 := ⟨by decide +kernel, rfl⟩
theorem dX11_foretold_102 : Ins mX11_foretold 102 (.aload_n 0) 1 103 := ⟨by decide +kernel, rfl⟩
theorem dX11_foretold_103 : Ins mX11_foretold 103 (.iload_n 3) 1 104 := ⟨by decide +kernel, rfl⟩
theorem dX11_foretold_104 : Ins mX11_foretold 104 (.iconst 1) 1 105 := ⟨by decide +kernel, rfl⟩
theorem dX11_foretold_105 : CalV mX11_foretold 105 108 mX11_get := ⟨71, by decide +kernel, rfl, tb_6 (List.mem_of_getElem? (i := 233) (by decide +kernel)) rfl, meX11_get⟩
theorem dX11_foretold_108 : Ins mX11_foretold 108 (.goto 9) 3 111 := ⟨by decide +kernel, rfl⟩
theorem dX11_foretold_111 : Ins mX11_foretold 111 (.aload_n 0) 1 112 := ⟨by decide +kernel, rfl⟩
theorem dX11_foretold_112 : Ins mX11_foretold 112 (.iload_n 3) 1 113 := ⟨by decide +kernel, rfl⟩
theorem dX11_foretold_113 : Ins mX11_foretold 113 (.iconst 0) 1 114 := ⟨by decide +kernel, rfl⟩
theorem dX11_foretold_114 : CalV mX11_foretold 114 117 mX11_of := ⟨67, by decide +kernel, rfl, tb_7 (List.mem_of_getElem? (i := 13) (by decide +kernel)) rfl, meX11_of⟩
theorem dX11_foretold_117 : Ins mX11_foretold 117 (.istore 4) 2 119 := ⟨by decide +kernel, rfl⟩
theorem dX11_foretold_119 : Ins mX11_foretold 119 (.aload_n 0) 1 120 := ⟨by decide +kernel, rfl⟩
theorem dX11_foretold_120 : CalV mX11_foretold 120 123 mX11_putBack := ⟨407, by decide +kernel, rfl, tb_7 (List.mem_of_getElem? (i := 227) (by decide +kernel)) rfl, meX11_putBack⟩
theorem dX11_foretold_123 : Ins mX11_foretold 123 (.iload 4) 2 125 := ⟨by decide +kernel, rfl⟩
theorem dX11_foretold_125 : Ins mX11_foretold 125 (.ireturn) 1 126 := ⟨by decide +kernel, rfl⟩
theorem dX11_firstSlide_0 : Ins mX11_firstSlide 0 (.aload_n 0) 1 1 := ⟨by decide +kernel, rfl⟩
theorem dX11_firstSlide_1 : CalV mX11_firstSlide 1 4 mX11_setAside := ⟨404, by decide +kernel, rfl, tb_7 (List.mem_of_getElem? (i := 223) (by decide +kernel)) rfl, meX11_setAside⟩
theorem dX11_firstSlide_4 : Ins mX11_firstSlide 4 (.iconst (-1)) 1 5 := ⟨by decide +kernel, rfl⟩
theorem dX11_firstSlide_5 : Ins mX11_firstSlide 5 (.istore_n 1) 1 6 := ⟨by decide +kernel, rfl⟩
theorem dX11_firstSlide_6 : Ins mX11_firstSlide 6 (.iconst 1) 1 7 := ⟨by decide +kernel, rfl⟩
theorem dX11_firstSlide_7 : Ins mX11_firstSlide 7 (.istore_n 2) 1 8 := ⟨by decide +kernel, rfl⟩
theorem dX11_firstSlide_8 : Ins mX11_firstSlide 8 (.iload_n 2) 1 9 := ⟨by decide +kernel, rfl⟩
theorem dX11_firstSlide_9 : Ins mX11_firstSlide 9 (.bipush 60) 2 11 := ⟨by decide +kernel, rfl⟩
theorem dX11_firstSlide_11 : Ins mX11_firstSlide 11 (.if_icmp .gt 40) 3 14 := ⟨by decide +kernel, rfl⟩
theorem dX11_firstSlide_14 : Ins mX11_firstSlide 14 (.iload_n 1) 1 15 := ⟨by decide +kernel, rfl⟩
theorem dX11_firstSlide_15 : Ins mX11_firstSlide 15 (.iconst (-1)) 1 16 := ⟨by decide +kernel, rfl⟩
theorem dX11_firstSlide_16 : Ins mX11_firstSlide 16 (.if_icmp .ne 35) 3 19 := ⟨by decide +kernel, rfl⟩
theorem dX11_firstSlide_19 : Ins mX11_firstSlide 19 (.aload_n 0) 1 20 := ⟨by decide +kernel, rfl⟩
theorem dX11_firstSlide_20 : GgR mX11_firstSlide 20 23 10 0 := ⟨0, rfl, ⟨7, _, by decide +kernel, rfl, rfl, by decide, tb_5 (List.mem_of_getElem? (i := 196) (by decide +kernel)) rfl⟩, by decide, rfl⟩
theorem dX11_firstSlide_23 : Ins mX11_firstSlide 23 (.bipush 10) 2 25 := ⟨by decide +kernel, rfl⟩
theorem dX11_firstSlide_25 : Ins mX11_firstSlide 25 (.iaload) 1 26 := ⟨by decide +kernel, rfl⟩
theorem dX11_firstSlide_26 : Ins mX11_firstSlide 26 (.sipush 9999) 3 29 := ⟨by decide +kernel, rfl⟩
theorem dX11_firstSlide_29 : Ins mX11_firstSlide 29 (.if_icmp .ge 22) 3 32 := ⟨by decide +kernel, rfl⟩
theorem dX11_firstSlide_32 : Ins mX11_firstSlide 32 (.aload_n 0) 1 33 := ⟨by decide +kernel, rfl⟩
theorem dX11_firstSlide_33 : CalV mX11_firstSlide 33 36 mX11_pass := ⟨353, by decide +kernel, rfl, tb_7 (List.mem_of_getElem? (i := 57) (by decide +kernel)) rfl, meX11_pass⟩
theorem dX11_firstSlide_36 : Ins mX11_firstSlide 36 (.aload_n 0) 1 37 := ⟨by decide +kernel, rfl⟩
theorem dX11_firstSlide_37 : GgI mX11_firstSlide 37 40 10 24 := ⟨24, rfl, ⟨311, _, by decide +kernel, rfl, rfl, by decide, tb_5 (List.mem_of_getElem? (i := 220) (by decide +kernel)) rfl⟩, by decide, rfl⟩
theorem dX11_firstSlide_40 : Ins mX11_firstSlide 40 (.ifCond .le 5) 3 43 := ⟨by decide +kernel, rfl⟩
theorem dX11_firstSlide_43 : Ins mX11_firstSlide 43 (.iload_n 2) 1 44 := ⟨by decide +kernel, rfl⟩
theorem dX11_firstSlide_44 : Ins mX11_firstSlide 44 (.istore_n 1) 1 45 := ⟨by decide +kernel, rfl⟩
theorem dX11_firstSlide_45 : Ins mX11_firstSlide 45 (.iinc 2 1) 3 48 := ⟨by decide +kernel, rfl⟩
theorem dX11_firstSlide_48 : Ins mX11_firstSlide 48 (.goto (-40)) 3 51 := ⟨by decide +kernel, rfl⟩
theorem dX11_firstSlide_51 : Ins mX11_firstSlide 51 (.aload_n 0) 1 52 := ⟨by decide +kernel, rfl⟩
theorem dX11_firstSlide_52 : CalV mX11_firstSlide 52 55 mX11_putBack := ⟨407, by decide +kernel, rfl, tb_7 (List.mem_of_getElem? (i := 227) (by decide +kernel)) rfl, meX11_putBack⟩
theorem dX11_firstSlide_55 : Ins mX11_firstSlide 55 (.iload_n 1) 1 56 := ⟨by decide +kernel, rfl⟩
theorem dX11_firstSlide_56 : Ins mX11_firstSlide 56 (.ireturn) 1 57 := ⟨by decide +kernel, rfl⟩
theorem dX11_isManned_0 : Ins mX11_isManned 0 (.iconst 0) 1 1 := ⟨by decide +kernel, rfl⟩
theorem dX11_isManned_1 : Ins mX11_isManned 1 (.istore_n 1) 1 2 := ⟨by decide +kernel, rfl⟩
theorem dX11_isManned_2 : Ins mX11_isManned 2 (.iload_n 1) 1 3 := ⟨by decide +kernel, rfl⟩
theorem dX11_isManned_3 : Ins mX11_isManned 3 (.aload_n 0) 1 4 := ⟨by decide +kernel, rfl⟩
theorem dX11_isManned_4 : GgR mX11_isManned 4 7 10 0 := ⟨0, rfl, ⟨7, _, by decide +kernel, rfl, rfl, by decide, tb_5 (List.mem_of_getElem? (i := 196) (by decide +kernel)) rfl⟩, by decide, rfl⟩
theorem dX11_isManned_7 : Ins mX11_isManned 7 (.iconst 1) 1 8 := ⟨by decide +kernel, rfl⟩
theorem dX11_isManned_8 : Ins mX11_isManned 8 (.iaload) 1 9 := ⟨by decide +kernel, rfl⟩
theorem dX11_isManned_9 : Ins mX11_isManned 9 (.if_icmp .ge 21) 3 12 := ⟨by decide +kernel, rfl⟩
theorem dX11_isManned_12 : Ins mX11_isManned 12 (.aload_n 0) 1 13 := ⟨by decide +kernel, rfl⟩
theorem dX11_isManned_13 : Ins mX11_isManned 13 (.iload_n 1) 1 14 := ⟨by decide +kernel, rfl⟩
theorem dX11_isManned_14 : Ins mX11_isManned 14 (.iconst 1) 1 15 := ⟨by decide +kernel, rfl⟩
theorem dX11_isManned_15 : CalV mX11_isManned 15 18 mX11_of := ⟨67, by decide +kernel, rfl, tb_7 (List.mem_of_getElem? (i := 13) (by decide +kernel)) rfl, meX11_of⟩
theorem dX11_isManned_18 : Ins mX11_isManned 18 (.iconst (-1)) 1 19 := ⟨by decide +kernel, rfl⟩
theorem dX11_isManned_19 : Ins mX11_isManned 19 (.if_icmp .eq 5) 3 22 := ⟨by decide +kernel, rfl⟩
theorem dX11_isManned_22 : Ins mX11_isManned 22 (.iconst 1) 1 23 := ⟨by decide +kernel, rfl⟩
theorem dX11_isManned_23 : Ins mX11_isManned 23 (.ireturn) 1 24 := ⟨by decide +kernel, rfl⟩
theorem dX11_isManned_24 : Ins mX11_isManned 24 (.iinc 1 1) 3 27 := ⟨by decide +kernel, rfl⟩
theorem dX11_isManned_27 : Ins mX11_isManned 27 (.goto (-25)) 3 30 := ⟨by decide +kernel, rfl⟩
theorem dX11_isManned_30 : Ins mX11_isManned 30 (.iconst 0) 1 31 := ⟨by decide +kernel, rfl⟩
theorem dX11_isManned_31 : Ins mX11_isManned 31 (.ireturn) 1 32 := ⟨by decide +kernel, rfl⟩
theorem dX11_unmanned_0 : Ins mX11_unmanned 0 (.aload_n 0) 1 1 := ⟨by decide +kernel, rfl⟩
theorem dX11_unmanned_1 : CalV mX11_unmanned 1 4 mX11_setAside := ⟨404, by decide +kernel, rfl, tb_7 (List.mem_of_getElem? (i := 223) (by decide +kernel)) rfl, meX11_setAside⟩
theorem dX11_unmanned_4 : Ins mX11_unmanned 4 (.iconst 0) 1 5 := ⟨by decide +kernel, rfl⟩
theorem dX11_unmanned_5 : Ins mX11_unmanned 5 (.istore_n 1) 1 6 := ⟨by decide +kernel, rfl⟩
theorem dX11_unmanned_6 : Ins mX11_unmanned 6 (.iload_n 1) 1 7 := ⟨by decide +kernel, rfl⟩
theorem dX11_unmanned_7 : Ins mX11_unmanned 7 (.bipush 60) 2 9 := ⟨by decide +kernel, rfl⟩
theorem dX11_unmanned_9 : Ins mX11_unmanned 9 (.if_icmp .ge 33) 3 12 := ⟨by decide +kernel, rfl⟩
theorem dX11_unmanned_12 : Ins mX11_unmanned 12 (.aload_n 0) 1 13 := ⟨by decide +kernel, rfl⟩
theorem dX11_unmanned_13 : GgR mX11_unmanned 13 16 10 0 := ⟨0, rfl, ⟨7, _, by decide +kernel, rfl, rfl, by decide, tb_5 (List.mem_of_getElem? (i := 196) (by decide +kernel)) rfl⟩, by decide, rfl⟩
theorem dX11_unmanned_16 : Ins mX11_unmanned 16 (.bipush 10) 2 18 := ⟨by decide +kernel, rfl⟩
theorem dX11_unmanned_18 : Ins mX11_unmanned 18 (.iaload) 1 19 := ⟨by decide +kernel, rfl⟩
theorem dX11_unmanned_19 : Ins mX11_unmanned 19 (.sipush 9999) 3 22 := ⟨by decide +kernel, rfl⟩
theorem dX11_unmanned_22 : Ins mX11_unmanned 22 (.if_icmp .ge 20) 3 25 := ⟨by decide +kernel, rfl⟩
theorem dX11_unmanned_25 : Ins mX11_unmanned 25 (.aload_n 0) 1 26 := ⟨by decide +kernel, rfl⟩
theorem dX11_unmanned_26 : CalV mX11_unmanned 26 29 mX11_isManned := ⟨410, by decide +kernel, rfl, tb_7 (List.mem_of_getElem? (i := 239) (by decide +kernel)) rfl, meX11_isManned⟩
theorem dX11_unmanned_29 : Ins mX11_unmanned 29 (.ifCond .eq 13) 3 32 := ⟨by decide +kernel, rfl⟩
theorem dX11_unmanned_32 : Ins mX11_unmanned 32 (.aload_n 0) 1 33 := ⟨by decide +kernel, rfl⟩
theorem dX11_unmanned_33 : CalV mX11_unmanned 33 36 mX11_pass := ⟨353, by decide +kernel, rfl, tb_7 (List.mem_of_getElem? (i := 57) (by decide +kernel)) rfl, meX11_pass⟩
theorem dX11_unmanned_36 : Ins mX11_unmanned 36 (.iinc 1 1) 3 39 := ⟨by decide +kernel, rfl⟩
theorem dX11_unmanned_39 : Ins mX11_unmanned 39 (.goto (-33)) 3 42 := ⟨by decide +kernel, rfl⟩
theorem dX11_unmanned_42 : Ins mX11_unmanned 42 (.aload_n 0) 1 43 := ⟨by decide +kernel, rfl⟩
theorem dX11_unmanned_43 : CalV mX11_unmanned 43 46 mX11_isManned := ⟨410, by decide +kernel, rfl, tb_7 (List.mem_of_getElem? (i := 239) (by decide +kernel)) rfl, meX11_isManned⟩
theorem dX11_unmanned_46 : Ins mX11_unmanned 46 (.ifCond .eq 7) 3 49 := ⟨by decide +kernel, rfl⟩
theorem dX11_unmanned_49 : Ins mX11_unmanned 49 (.iconst (-1)) 1 50 := ⟨by decide +kernel, rfl⟩
theorem dX11_unmanned_50 : Ins mX11_unmanned 50 (.goto 4) 3 53 := ⟨by decide +kernel, rfl⟩
theorem dX11_unmanned_53 : Ins mX11_unmanned 53 (.iload_n 1) 1 54 := ⟨by decide +kernel, rfl⟩
theorem dX11_unmanned_54 : Ins mX11_unmanned 54 (.istore_n 2) 1 55 := ⟨by decide +kernel, rfl⟩
theorem dX11_unmanned_55 : Ins mX11_unmanned 55 (.aload_n 0) 1 56 := ⟨by decide +kernel, rfl⟩
theorem dX11_unmanned_56 : CalV mX11_unmanned 56 59 mX11_putBack := ⟨407, by decide +kernel, rfl, tb_7 (List.mem_of_getElem? (i := 227) (by decide +kernel)) rfl, meX11_putBack⟩
theorem dX11_unmanned_59 : Ins mX11_unmanned 59 (.iload_n 2) 1 60 := ⟨by decide +kernel, rfl⟩
theorem dX11_unmanned_60 : Ins mX11_unmanned 60 (.ireturn) 1 61 := ⟨by decide +kernel, rfl⟩
theorem dX11_rocking_0 : Ins mX11_rocking 0 (.iload_n 1) 1 1 := ⟨by decide +kernel, rfl⟩
theorem dX11_rocking_1 : Ins mX11_rocking 1 (.iconst 0) 1 2 := ⟨by decide +kernel, rfl⟩
theorem dX11_rocking_2 : Ins mX11_rocking 2 (.sipush 9999) 3 5 := ⟨by decide +kernel, rfl⟩
theorem dX11_rocking_5 : CalS mX11_rocking 5 8 mX11_isIn := ⟨63, by decide +kernel, rfl, Or.inl (tb_6 (List.mem_of_getElem? (i := 50) (by decide +kernel)) rfl), meX11_isIn⟩
theorem dX11_rocking_8 : Ins mX11_rocking 8 (.ifCond .eq 11) 3 11 := ⟨by decide +kernel, rfl⟩
theorem dX11_rocking_11 : Ins mX11_rocking 11 (.aload_n 0) 1 12 := ⟨by decide +kernel, rfl⟩
theorem dX11_rocking_12 : Ins mX11_rocking 12 (.iload_n 1) 1 13 := ⟨by decide +kernel, rfl⟩
theorem dX11_rocking_13 : CalV mX11_rocking 13 16 mX11_rockingAt := ⟨317, by decide +kernel, rfl, tb_7 (List.mem_of_getElem? (i := 61) (by decide +kernel)) rfl, meX11_rockingAt⟩
theorem dX11_rocking_16 : Ins mX11_rocking 16 (.goto 4) 3 19 := ⟨by decide +kernel, rfl⟩
theorem dX11_rocking_19 : Ins mX11_rocking 19 (.iconst (-1)) 1 20 := ⟨by decide +kernel, rfl⟩
theorem dX11_rocking_20 : Ins mX11_rocking 20 (.ireturn) 1 21 := ⟨by decide +kernel, rfl⟩
theorem dX11_together_0 : Ins mX11_together 0 (.iload_n 1) 1 1 := ⟨by decide +kernel, rfl⟩
theorem dX11_together_1 : Ins mX11_together 1 (.iconst 1) 1 2 := ⟨by decide +kernel, rfl⟩
theorem dX11_together_2 : Ins mX11_together 2 (.aload_n 0) 1 3 := ⟨by decide +kernel, rfl⟩
theorem dX11_together_3 : CalV mX11_together 3 6 mX11_all := ⟨401, by decide +kernel, rfl, tb_7 (List.mem_of_getElem? (i := 215) (by decide +kernel)) rfl, meX11_all⟩
theorem dX11_together_6 : CalS mX11_together 6 9 mX11_isIn := ⟨63, by decide +kernel, rfl, Or.inl (tb_6 (List.mem_of_getElem? (i := 50) (by decide +kernel)) rfl), meX11_isIn⟩
theorem dX11_together_9 : Ins mX11_together 9 (.ifCond .ne 5) 3 12 := ⟨by decide +kernel, rfl⟩
theorem dX11_together_12 : Ins mX11_together 12 (.iconst (-1)) 1 13 := ⟨by decide +kernel, rfl⟩
theorem dX11_together_13 : Ins mX11_together 13 (.ireturn) 1 14 := ⟨by decide +kernel, rfl⟩
theorem dX11_together_14 : Ins mX11_together 14 (.aload_n 0) 1 15 := ⟨by decide +kernel, rfl⟩
theorem dX11_together_15 : GgR mX11_together 15 18 10 0 := ⟨0, rfl, ⟨7, _, by decide +kernel, rfl, rfl, by decide, tb_5 (List.mem_of_getElem? (i := 196) (by decide +kernel)) rfl⟩, by decide, rfl⟩
theorem dX11_together_18 : Ins mX11_together 18 (.bipush 10) 2 20 := ⟨by decide +kernel, rfl⟩
theorem dX11_together_20 : Ins mX11_together 20 (.iaload) 1 21 := ⟨by decide +kernel, rfl⟩
theorem dX11_together_21 : Ins mX11_together 21 (.istore_n 2) 1 22 := ⟨by decide +kernel, rfl⟩
theorem dX11_together_22 : Ins mX11_together 22 (.iload_n 2) 1 23 := ⟨by decide +kernel, rfl⟩
theorem dX11_together_23 : Ins mX11_together 23 (.sipush 9999) 3 26 := ⟨by decide +kernel, rfl⟩
theorem dX11_together_26 : Ins mX11_together 26 (.if_icmp .gt 21) 3 29 := ⟨by decide +kernel, rfl⟩
theorem dX11_together_29 : Ins mX11_together 29 (.aload_n 0) 1 30 := ⟨by decide +kernel, rfl⟩
theorem dX11_together_30 : Ins mX11_together 30 (.iload_n 1) 1 31 := ⟨by decide +kernel, rfl⟩
theorem dX11_together_31 : Ins mX11_together 31 (.iload_n 2) 1 32 := ⟨by decide +kernel, rfl⟩
theorem dX11_together_32 : CalV mX11_together 32 35 mX11_dueOf := ⟨308, by decide +kernel, rfl, tb_7 (List.mem_of_getElem? (i := 69) (by decide +kernel)) rfl, meX11_dueOf⟩
theorem dX11_together_35 : Ins mX11_together 35 (.iload_n 1) 1 36 := ⟨by decide +kernel, rfl⟩
theorem dX11_together_36 : Ins mX11_together 36 (.if_icmp .ne 5) 3 39 := ⟨by decide +kernel, rfl⟩
theorem dX11_together_39 : Ins mX11_together 39 (.iload_n 2) 1 40 := ⟨by decide +kernel, rfl⟩
theorem dX11_together_40 : Ins mX11_together 40 (.ireturn) 1 41 := ⟨by decide +kernel, rfl⟩
theorem dX11_together_41 : Ins mX11_together 41 (.iinc 2 1) 3 44 := ⟨by decide +kernel, rfl⟩
theorem dX11_together_44 : Ins mX11_together 44 (.goto (-22)) 3 47 := ⟨by decide +kernel, rfl⟩
theorem dX11_together_47 : Ins mX11_together 47 (.iconst (-1)) 1 48 := ⟨by decide +kernel, rfl⟩
theorem dX11_together_48 : Ins mX11_together 48 (.ireturn) 1 49 := ⟨by decide +kernel, rfl⟩
theorem dX11_isSafe_0 : Ins mX11_isSafe 0 (.iconst 0) 1 1 := ⟨by decide +kernel, rfl⟩
theorem dX11_isSafe_1 : Ins mX11_isSafe 1 (.istore 4) 2 3 := ⟨by decide +kernel, rfl⟩
theorem dX11_isSafe_3 : Ins mX11_isSafe 3 (.iload 4) 2 5 := ⟨by decide +kernel, rfl⟩
theorem dX11_isSafe_5 : Ins mX11_isSafe 5 (.iload_n 2) 1 6 := ⟨by decide +kernel, rfl⟩
theorem dX11_isSafe_6 : Ins mX11_isSafe 6 (.if_icmp .ge 33) 3 9 := ⟨by decide +kernel, rfl⟩
theorem dX11_isSafe_9 : Ins mX11_isSafe 9 (.aload_n 0) 1 10 := ⟨by decide +kernel, rfl⟩
theorem dX11_isSafe_10 : Ins mX11_isSafe 10 (.iload_n 1) 1 11 := ⟨by decide +kernel, rfl⟩
theorem dX11_isSafe_11 : Ins mX11_isSafe 11 (.aload_n 0) 1 12 := ⟨by decide +kernel, rfl⟩
theorem dX11_isSafe_12 : GgR mX11_isSafe 12 15 10 0 := ⟨0, rfl, ⟨7, _, by decide +kernel, rfl, rfl, by decide, tb_5 (List.mem_of_getElem? (i := 196) (by decide +kernel)) rfl⟩, by decide, rfl⟩
theorem dX11_isSafe_15 : Ins mX11_isSafe 15 (.bipush 10) 2 17 := ⟨by decide +kernel, rfl⟩
theorem dX11_isSafe_17 : Ins mX11_isSafe 17 (.iaload) 1 18 := ⟨by decide +kernel, rfl⟩
theorem dX11_isSafe_18 : Ins mX11_isSafe 18 (.iload 4) 2 20 := ⟨by decide +kernel, rfl⟩
theorem dX11_isSafe_20 : Ins mX11_isSafe 20 (.iadd) 1 21 := ⟨by decide +kernel, rfl⟩
theorem dX11_isSafe_21 : CalV mX11_isSafe 21 24 mX11_dueOf := ⟨308, by decide +kernel, rfl, tb_7 (List.mem_of_getElem? (i := 69) (by decide +kernel)) rfl, meX11_dueOf⟩
theorem dX11_isSafe_24 : CalS mX11_isSafe 24 27 mX11_bits := ⟨302, by decide +kernel, rfl, Or.inl (tb_7 (List.mem_of_getElem? (i := 77) (by decide +kernel)) rfl), meX11_bits⟩
theorem dX11_isSafe_27 : Ins mX11_isSafe 27 (.iload_n 3) 1 28 := ⟨by decide +kernel, rfl⟩
theorem dX11_isSafe_28 : Ins mX11_isSafe 28 (.if_icmp .lt 5) 3 31 := ⟨by decide +kernel, rfl⟩
theorem dX11_isSafe_31 : Ins mX11_isSafe 31 (.iconst 0) 1 32 := ⟨by decide +kernel, rfl⟩
theorem dX11_isSafe_32 : Ins mX11_isSafe 32 (.ireturn) 1 33 := ⟨by decide +kernel, rfl⟩
theorem dX11_isSafe_33 : Ins mX11_isSafe 33 (.iinc 4 1) 3 36 := ⟨by decide +kernel, rfl⟩
theorem dX11_isSafe_36 : Ins mX11_isSafe 36 (.goto (-33)) 3 39 := ⟨by decide +kernel, rfl⟩
theorem dX11_isSafe_39 : Ins mX11_isSafe 39 (.iconst 1) 1 40 := ⟨by decide +kernel, rfl⟩
theorem dX11_isSafe_40 : Ins mX11_isSafe 40 (.ireturn) 1 41 := ⟨by decide +kernel, rfl⟩
theorem dX11_safe_0 : Ins mX11_safe 0 (.iload_n 1) 1 1 := ⟨by decide +kernel, rfl⟩
theorem dX11_safe_1 : Ins mX11_safe 1 (.iconst 1) 1 2 := ⟨by decide +kernel, rfl⟩
theorem dX11_safe_2 : Ins mX11_safe 2 (.bipush 99) 2 4 := ⟨by decide +kernel, rfl⟩
theorem dX11_safe_4 : CalS mX11_safe 4 7 mX11_isIn := ⟨63, by decide +kernel, rfl, Or.inl (tb_6 (List.mem_of_getElem? (i := 50) (by decide +kernel)) rfl), meX11_isIn⟩
theorem dX11_safe_7 : Ins mX11_safe 7 (.ifCond .eq 13) 3 10 := ⟨by decide +kernel, rfl⟩
theorem dX11_safe_10 : Ins mX11_safe 10 (.iload_n 2) 1 11 := ⟨by decide +kernel, rfl⟩
theorem dX11_safe_11 : Ins mX11_safe 11 (.iconst 1) 1 12 := ⟨by decide +kernel, rfl⟩
theorem dX11_safe_12 : Ins mX11_safe 12 (.bipush 8) 2 14 := ⟨by decide +kernel, rfl⟩
theorem dX11_safe_14 : CalS mX11_safe 14 17 mX11_isIn := ⟨63, by decide +kernel, rfl, Or.inl (tb_6 (List.mem_of_getElem? (i := 50) (by decide +kernel)) rfl), meX11_isIn⟩
theorem dX11_safe_17 : Ins mX11_safe 17 (.ifCond .ne 5) 3 20 := ⟨by decide +kernel, rfl⟩
theorem dX11_safe_20 : Ins mX11_safe 20 (.iconst (-1)) 1 21 := ⟨by decide +kernel, rfl⟩
theorem dX11_safe_21 : Ins mX11_safe 21 (.ireturn) 1 22 := ⟨by decide +kernel, rfl⟩
theorem dX11_safe_22 : Ins mX11_safe 22 (.iconst 0) 1 23 := ⟨by decide +kernel, rfl⟩
theorem dX11_safe_23 : Ins mX11_safe 23 (.istore_n 3) 1 24 := ⟨by decide +kernel, rfl⟩
theorem dX11_safe_24 : Ins mX11_safe 24 (.iconst 1) 1 25 := ⟨by decide +kernel, rfl⟩
theorem dX11_safe_25 : Ins mX11_safe 25 (.istore 4) 2 27 := ⟨by decide +kernel, rfl⟩
theorem dX11_safe_27 : Ins mX11_safe 27 (.iload 4) 2 29 := ⟨by decide +kernel, rfl⟩
theorem dX11_safe_29 : Ins mX11_safe 29 (.aload_n 0) 1 30 := ⟨by decide +kernel, rfl⟩
theorem dX11_safe_30 : CalV mX11_safe 30 33 mX11_all := ⟨401, by decide +kernel, rfl, tb_7 (List.mem_of_getElem? (i := 215) (by decide +kernel)) rfl, meX11_all⟩
theorem dX11_safe_33 : Ins mX11_safe 33 (.if_icmp .gt 35) 3 36 := ⟨by decide +kernel, rfl⟩
theorem dX11_safe_36 : Ins mX11_safe 36 (.iload 4) 2 38 := ⟨by decide +kernel, rfl⟩
theorem dX11_safe_38 : CalS mX11_safe 38 41 mX11_bits := ⟨302, by decide +kernel, rfl, Or.inl (tb_7 (List.mem_of_getElem? (i := 77) (by decide +kernel)) rfl), meX11_bits⟩
theorem dX11_safe_41 : Ins mX11_safe 41 (.iload_n 3) 1 42 := ⟨by decide +kernel, rfl⟩
theorem dX11_safe_42 : CalS mX11_safe 42 45 mX11_bits := ⟨302, by decide +kernel, rfl, Or.inl (tb_7 (List.mem_of_getElem? (i := 77) (by decide +kernel)) rfl), meX11_bits⟩
theorem dX11_safe_45 : Ins mX11_safe 45 (.if_icmp .le 17) 3 48 := ⟨by decide +kernel, rfl⟩
theorem dX11_safe_48 : Ins mX11_safe 48 (.aload_n 0) 1 49 := ⟨by decide +kernel, rfl⟩
theorem dX11_safe_49 : Ins mX11_safe 49 (.iload 4) 2 51 := ⟨by decide +kernel, rfl⟩
theorem dX11_safe_51 : Ins mX11_safe 51 (.iload_n 1) 1 52 := ⟨by decide +kernel, rfl⟩
theorem dX11_safe_52 : Ins mX11_safe 52 (.iload_n 2) 1 53 := ⟨by decide +kernel, rfl⟩
theorem dX11_safe_53 : CalV mX11_safe 53 56 mX11_isSafe := ⟨413, by decide +kernel, rfl, tb_8 (List.mem_of_getElem? (i := 15) (by decide +kernel)) rfl, meX11_isSafe⟩
theorem dX11_safe_56 : Ins mX11_safe 56 (.ifCond .eq 6) 3 59 := ⟨by decide +kernel, rfl⟩
theorem dX11_safe_59 : Ins mX11_safe 59 (.iload 4) 2 61 := ⟨by decide +kernel, rfl⟩
theorem dX11_safe_61 : Ins mX11_safe 61 (.istore_n 3) 1 62 := ⟨by decide +kernel, rfl⟩
theorem dX11_safe_62 : Ins mX11_safe 62 (.iinc 4 1) 3 65 := ⟨by decide +kernel, rfl⟩
theorem dX11_safe_65 : Ins mX11_safe 65 (.goto (-38)) 3 68 := ⟨by decide +kernel, rfl⟩
theorem dX11_safe_68 : Ins mX11_safe 68 (.iload_n 3) 1 69 := ⟨by decide +kernel, rfl⟩
theorem dX11_safe_69 : Ins mX11_safe 69 (.ireturn) 1 70 := ⟨by decide +kernel, rfl⟩
theorem dX11_heard_0 : Ins mX11_heard 0 (.iload_n 1) 1 1 := ⟨by decide +kernel, rfl⟩
theorem dX11_heard_1 : Ins mX11_heard 1 (.iconst (-1)) 1 2 := ⟨by decide +kernel, rfl⟩
theorem dX11_heard_2 : Ins mX11_heard 2 (.if_icmp .ne 12) 3 5 := ⟨by decide +kernel, rfl⟩
theorem dX11_heard_5 : Ins mX11_heard 5 (.aload_n 0) 1 6 := ⟨by decide +kernel, rfl⟩
theorem dX11_heard_6 : GgR mX11_heard 6 9 10 0 := ⟨0, rfl, ⟨7, _, by decide +kernel, rfl, rfl, by decide, tb_5 (List.mem_of_getElem? (i := 196) (by decide +kernel)) rfl⟩, by decide, rfl⟩
theorem dX11_heard_9 : Ins mX11_heard 9 (.iconst 5) 1 10 := ⟨by decide +kernel, rfl⟩
theorem dX11_heard_10 : Ins mX11_heard 10 (.iconst 0) 1 11 := ⟨by decide +kernel, rfl⟩
theorem dX11_heard_11 : Ins mX11_heard 11 (.iastore) 1 12 := ⟨by decide +kernel, rfl⟩
theorem dX11_heard_12 : Ins mX11_heard 12 (.iconst 0) 1 13 := ⟨by decide +kernel, rfl⟩
theorem dX11_heard_13 : Ins mX11_heard 13 (.ireturn) 1 14 := ⟨by decide +kernel, rfl⟩
theorem dX11_heard_14 : Ins mX11_heard 14 (.iload_n 1) 1 15 := ⟨by decide +kernel, rfl⟩
theorem dX11_heard_15 : Ins mX11_heard 15 (.iconst 0) 1 16 := ⟨by decide +kernel, rfl⟩
theorem dX11_heard_16 : Ins mX11_heard 16 (.sipush 9999) 3 19 := ⟨by decide +kernel, rfl⟩
theorem dX11_heard_19 : CalS mX11_heard 19 22 mX11_isIn := ⟨63, by decide +kernel, rfl, Or.inl (tb_6 (List.mem_of_getElem? (i := 50) (by decide +kernel)) rfl), meX11_isIn⟩
theorem dX11_heard_22 : Ins mX11_heard 22 (.ifCond .eq 24) 3 25 := ⟨by decide +kernel, rfl⟩
theorem dX11_heard_25 : Ins mX11_heard 25 (.iload_n 2) 1 26 := ⟨by decide +kernel, rfl⟩
theorem dX11_heard_26 : Ins mX11_heard 26 (.iconst 0) 1 27 := ⟨by decide +kernel, rfl⟩
theorem dX11_heard_27 : Ins mX11_heard 27 (.bipush 8) 2 29 := ⟨by decide +kernel, rfl⟩
theorem dX11_heard_29 : CalS mX11_heard 29 32 mX11_isIn := ⟨63, by decide +kernel, rfl, Or.inl (tb_6 (List.mem_of_getElem? (i := 50) (by decide +kernel)) rfl), meX11_isIn⟩
theorem dX11_heard_32 : Ins mX11_heard 32 (.ifCond .eq 14) 3 35 := ⟨by decide +kernel, rfl⟩
theorem dX11_heard_35 : Ins mX11_heard 35 (.aload_n 0) 1 36 := ⟨by decide +kernel, rfl⟩
theorem dX11_heard_36 : GgR mX11_heard 36 39 10 0 := ⟨0, rfl, ⟨7, _, by decide +kernel, rfl, rfl, by decide, tb_5 (List.mem_of_getElem? (i := 196) (by decide +kernel)) rfl⟩, by decide, rfl⟩
theorem dX11_heard_39 : Ins mX11_heard 39 (.iconst 5) 1 40 := ⟨by decide +kernel, rfl⟩
theorem dX11_heard_40 : Ins mX11_heard 40 (.iaload) 1 41 := ⟨by decide +kernel, rfl⟩
theorem dX11_heard_41 : Ins mX11_heard 41 (.bipush 8) 2 43 := ⟨by decide +kernel, rfl⟩
theorem dX11_heard_43 : Ins mX11_heard 43 (.if_icmp .ne 6) 3 46 := ⟨by decide +kernel, rfl⟩
theorem dX11_heard_46 : Ins mX11_heard 46 (.bipush (-2)) 2 48 := ⟨by decide +kernel, rfl⟩
theorem dX11_heard_48 : Ins mX11_heard 48 (.ireturn) 1 49 := ⟨by decide +kernel, rfl⟩
theorem dX11_heard_49 : Ins mX11_heard 49 (.aload_n 0) 1 50 := ⟨by decide +kernel, rfl⟩
theorem dX11_heard_50 : GgR mX11_heard 50 53 10 0 := ⟨0, rfl, ⟨7, _, by decide +kernel, rfl, rfl, by decide, tb_5 (List.mem_of_getElem? (i := 196) (by decide +kernel)) rfl⟩, by decide, rfl⟩
theorem dX11_heard_53 : Ins mX11_heard 53 (.bipush 72) 2 55 := ⟨by decide +kernel, rfl⟩
theorem dX11_heard_55 : Ins mX11_heard 55 (.iconst 2) 1 56 := ⟨by decide +kernel, rfl⟩
theorem dX11_heard_56 : Ins mX11_heard 56 (.aload_n 0) 1 57 := ⟨by decide +kernel, rfl⟩
theorem dX11_heard_57 : GgR mX11_heard 57 60 10 0 := ⟨0, rfl, ⟨7, _, by decide +kernel, rfl, rfl, by decide, tb_5 (List.mem_of_getElem? (i := 196) (by decide +kernel)) rfl⟩, by decide, rfl⟩
theorem dX11_heard_60 : Ins mX11_heard 60 (.iconst 5) 1 61 := ⟨by decide +kernel, rfl⟩
theorem dX11_heard_61 : Ins mX11_heard 61 (.iaload) 1 62 := ⟨by decide +kernel, rfl⟩
theorem dX11_heard_62 : Ins mX11_heard 62 (.imul) 1 63 := ⟨by decide +kernel, rfl⟩
theorem dX11_heard_63 : Ins mX11_heard 63 (.iadd) 1 64 := ⟨by decide +kernel, rfl⟩
theorem dX11_heard_64 : Ins mX11_heard 64 (.iload_n 1) 1 65 := ⟨by decide +kernel, rfl⟩
theorem dX11_heard_65 : Ins mX11_heard 65 (.iastore) 1 66 := ⟨by decide +kernel, rfl⟩
theorem dX11_heard_66 : Ins mX11_heard 66 (.aload_n 0) 1 67 := ⟨by decide +kernel, rfl⟩
theorem dX11_heard_67 : GgR mX11_heard 67 70 10 0 := ⟨0, rfl, ⟨7, _, by decide +kernel, rfl, rfl, by decide, tb_5 (List.mem_of_getElem? (i := 196) (by decide +kernel)) rfl⟩, by decide, rfl⟩
theorem dX11_heard_70 : Ins mX11_heard 70 (.bipush 72) 2 72 := ⟨by decide +kernel, rfl⟩
theorem dX11_heard_72 : Ins mX11_heard 72 (.iconst 2) 1 73 := ⟨by decide +kernel, rfl⟩
theorem dX11_heard_73 : Ins mX11_heard 73 (.aload_n 0) 1 74 := ⟨by decide +kernel, rfl⟩
theorem dX11_heard_74 : GgR mX11_heard 74 77 10 0 := ⟨0, rfl, ⟨7, _, by decide +kernel, rfl, rfl, by decide, tb_5 (List.mem_of_getElem? (i := 196) (by decide +kernel)) rfl⟩, by decide, rfl⟩
theorem dX11_heard_77 : Ins mX11_heard 77 (.iconst 5) 1 78 := ⟨by decide +kernel, rfl⟩
theorem dX11_heard_78 : Ins mX11_heard 78 (.iaload) 1 79 := ⟨by decide +kernel, rfl⟩
theorem dX11_heard_79 : Ins mX11_heard 79 (.imul) 1 80 := ⟨by decide +kernel, rfl⟩
theorem dX11_heard_80 : Ins mX11_heard 80 (.iadd) 1 81 := ⟨by decide +kernel, rfl⟩
theorem dX11_heard_81 : Ins mX11_heard 81 (.iconst 1) 1 82 := ⟨by decide +kernel, rfl⟩
theorem dX11_heard_82 : Ins mX11_heard 82 (.iadd) 1 83 := ⟨by decide +kernel, rfl⟩
theorem dX11_heard_83 : Ins mX11_heard 83 (.iload_n 2) 1 84 := ⟨by decide +kernel, rfl⟩
theorem dX11_heard_84 : Ins mX11_heard 84 (.iastore) 1 85 := ⟨by decide +kernel, rfl⟩
theorem dX11_heard_85 : Ins mX11_heard 85 (.aload_n 0) 1 86 := ⟨by decide +kernel, rfl⟩
theorem dX11_heard_86 : GgR mX11_heard 86 89 10 0 := ⟨0, rfl, ⟨7, _, by decide +kernel, rfl, rfl, by decide, tb_5 (List.mem_of_getElem? (i := 196) (by decide +kernel)) rfl⟩, by decide, rfl⟩
theorem dX11_heard_89 : Ins mX11_heard 89 (.iconst 5) 1 90 := ⟨by decide +kernel, rfl⟩
theorem dX11_heard_90 : Ins mX11_heard 90 (.dup2) 1 91 := ⟨by decide +kernel, rfl⟩
theorem dX11_heard_91 : Ins mX11_heard 91 (.iaload) 1 92 := ⟨by decide +kernel, rfl⟩
theorem dX11_heard_92 : Ins mX11_heard 92 (.iconst 1) 1 93 := ⟨by decide +kernel, rfl⟩
theorem dX11_heard_93 : Ins mX11_heard 93 (.iadd) 1 94 := ⟨by decide +kernel, rfl⟩
theorem dX11_heard_94 : Ins mX11_heard 94 (.iastore) 1 95 := ⟨by decide +kernel, rfl⟩
theorem dX11_heard_95 : Ins mX11_heard 95 (.aload_n 0) 1 96 := ⟨by decide +kernel, rfl⟩
theorem dX11_heard_96 : GgR mX11_heard 96 99 10 0 := ⟨0, rfl, ⟨7, _, by decide +kernel, rfl, rfl, by decide, tb_5 (List.mem_of_getElem? (i := 196) (by decide +kernel)) rfl⟩, by decide, rfl⟩
theorem dX11_heard_99 : Ins mX11_heard 99 (.iconst 5) 1 100 := ⟨by decide +kernel, rfl⟩
theorem dX11_heard_100 : Ins mX11_heard 100 (.iaload) 1 101 := ⟨by decide +kernel, rfl⟩
theorem dX11_heard_101 : Ins mX11_heard 101 (.ireturn) 1 102 := ⟨by decide +kernel, rfl⟩
theorem dX11_layFits_0 : Ins mX11_layFits 0 (.iconst 0) 1 1 := ⟨by decide +kernel, rfl⟩
theorem dX11_layFits_1 : Ins mX11_layFits 1 (.istore_n 1) 1 2 := ⟨by decide +kernel, rfl⟩
theorem dX11_layFits_2 : Ins mX11_layFits 2 (.iconst 0) 1 3 := ⟨by decide +kernel, rfl⟩
theorem dX11_layFits_3 : Ins mX11_layFits 3 (.istore_n 2) 1 4 := ⟨by decide +kernel, rfl⟩
theorem dX11_layFits_4 : Ins mX11_layFits 4 (.iload_n 2) 1 5 := ⟨by decide +kernel, rfl⟩
theorem dX11_layFits_5 : Ins mX11_layFits 5 (.aload_n 0) 1 6 := ⟨by decide +kernel, rfl⟩
theorem dX11_layFits_6 : CalV mX11_layFits 6 9 mX11_all := ⟨401, by decide +kernel, rfl, tb_7 (List.mem_of_getElem? (i := 215) (by decide +kernel)) rfl, meX11_all⟩
theorem dX11_layFits_9 : Ins mX11_layFits 9 (.if_icmp .gt 93) 3 12 := ⟨by decide +kernel, rfl⟩
theorem dX11_layFits_12 : Ins mX11_layFits 12 (.aload_n 0) 1 13 := ⟨by decide +kernel, rfl⟩
theorem dX11_layFits_13 : GgR mX11_layFits 13 16 10 27 := ⟨27, rfl, ⟨53, _, by decide +kernel, rfl, rfl, by decide, tb_5 (List.mem_of_getElem? (i := 223) (by decide +kernel)) rfl⟩, by decide, rfl⟩
theorem dX11_layFits_16 : Ins mX11_layFits 16 (.iload_n 2) 1 17 := ⟨by decide +kernel, rfl⟩
theorem dX11_layFits_17 : Ins mX11_layFits 17 (.iconst 1) 1 18 := ⟨by decide +kernel, rfl⟩
theorem dX11_layFits_18 : Ins mX11_layFits 18 (.bastore) 1 19 := ⟨by decide +kernel, rfl⟩
theorem dX11_layFits_19 : Ins mX11_layFits 19 (.iconst 0) 1 20 := ⟨by decide +kernel, rfl⟩
theorem dX11_layFits_20 : Ins mX11_layFits 20 (.istore_n 3) 1 21 := ⟨by decide +kernel, rfl⟩
theorem dX11_layFits_21 : Ins mX11_layFits 21 (.iload_n 3) 1 22 := ⟨by decide +kernel, rfl⟩
theorem dX11_layFits_22 : Ins mX11_layFits 22 (.aload_n 0) 1 23 := ⟨by decide +kernel, rfl⟩
theorem dX11_layFits_23 : GgR mX11_layFits 23 26 10 0 := ⟨0, rfl, ⟨7, _, by decide +kernel, rfl, rfl, by decide, tb_5 (List.mem_of_getElem? (i := 196) (by decide +kernel)) rfl⟩, by decide, rfl⟩
theorem dX11_layFits_26 : Ins mX11_layFits 26 (.iconst 5) 1 27 := ⟨by decide +kernel, rfl⟩
theorem dX11_layFits_27 : Ins mX11_layFits 27 (.iaload) 1 28 := ⟨by decide +kernel, rfl⟩
theorem dX11_layFits_28 : Ins mX11_layFits 28 (.if_icmp .ge 51) 3 31 := ⟨by decide +kernel, rfl⟩
theorem dX11_layFits_31 : Ins mX11_layFits 31 (.aload_n 0) 1 32 := ⟨by decide +kernel, rfl⟩
theorem dX11_layFits_32 : Ins mX11_layFits 32 (.iload_n 2) 1 33 := ⟨by decide +kernel, rfl⟩
theorem dX11_layFits_33 : Ins mX11_layFits 33 (.aload_n 0) 1 34 := ⟨by decide +kernel, rfl⟩
theorem dX11_layFits_34 : GgR mX11_layFits 34 37 10 0 := ⟨0, rfl, ⟨7, _, by decide +kernel, rfl, rfl, by decide, tb_5 (List.mem_of_getElem? (i := 196) (by decide +kernel)) rfl⟩, by decide, rfl⟩
theorem dX11_layFits_37 : Ins mX11_layFits 37 (.bipush 72) 2 39 := ⟨by decide +kernel, rfl⟩
theorem dX11_layFits_39 : Ins mX11_layFits 39 (.iconst 2) 1 40 := ⟨by decide +kernel, rfl⟩
theorem dX11_layFits_40 : Ins mX11_layFits 40 (.iload_n 3) 1 41 := ⟨by decide +kernel, rfl⟩
theorem dX11_layFits_41 : Ins mX11_layFits 41 (.imul) 1 42 := ⟨by decide +kernel, rfl⟩
theorem dX11_layFits_42 : Ins mX11_layFits 42 (.iadd) 1 43 := ⟨by decide +kernel, rfl⟩
theorem dX11_layFits_43 : Ins mX11_layFits 43 (.iaload) 1 44 := ⟨by decide +kernel, rfl⟩
theorem dX11_layFits_44 : CalV mX11_layFits 44 47 mX11_dueOf := ⟨308, by decide +kernel, rfl, tb_7 (List.mem_of_getElem? (i := 69) (by decide +kernel)) rfl, meX11_dueOf⟩
theorem dX11_layFits_47 : CalS mX11_layFits 47 50 mX11_bits := ⟨302, by decide +kernel, rfl, Or.inl (tb_7 (List.mem_of_getElem? (i := 77) (by decide +kernel)) rfl), meX11_bits⟩
theorem dX11_layFits_50 : Ins mX11_layFits 50 (.aload_n 0) 1 51 := ⟨by decide +kernel, rfl⟩
theorem dX11_layFits_51 : GgR mX11_layFits 51 54 10 0 := ⟨0, rfl, ⟨7, _, by decide +kernel, rfl, rfl, by decide, tb_5 (List.mem_of_getElem? (i := 196) (by decide +kernel)) rfl⟩, by decide, rfl⟩
theorem dX11_layFits_54 : Ins mX11_layFits 54 (.bipush 72) 2 56 := ⟨by decide +kernel, rfl⟩
theorem dX11_layFits_56 : Ins mX11_layFits 56 (.iconst 2) 1 57 := ⟨by decide +kernel, rfl⟩
theorem dX11_layFits_57 : Ins mX11_layFits 57 (.iload_n 3) 1 58 := ⟨by decide +kernel, rfl⟩
theorem dX11_layFits_58 : Ins mX11_layFits 58 (.imul) 1 59 := ⟨by decide +kernel, rfl⟩
theorem dX11_layFits_59 : Ins mX11_layFits 59 (.iadd) 1 60 := ⟨by decide +kernel, rfl⟩
theorem dX11_layFits_60 : Ins mX11_layFits 60 (.iconst 1) 1 61 := ⟨by decide +kernel, rfl⟩
theorem dX11_layFits_61 : Ins mX11_layFits 61 (.iadd) 1 62 := ⟨by decide +kernel, rfl⟩
theorem dX11_layFits_62 : Ins mX11_layFits 62 (.iaload) 1 63 := ⟨by decide +kernel, rfl⟩
theorem dX11_layFits_63 : Ins mX11_layFits 63 (.if_icmp .eq 10) 3 66 := ⟨by decide +kernel, rfl⟩
theorem dX11_layFits_66 : Ins mX11_layFits 66 (.aload_n 0) 1 67 := ⟨by decide +kernel, rfl⟩
theorem dX11_layFits_67 : GgR mX11_layFits 67 70 10 27 := ⟨27, rfl, ⟨53, _, by decide +kernel, rfl, rfl, by decide, tb_5 (List.mem_of_getElem? (i := 223) (by decide +kernel)) rfl⟩, by decide, rfl⟩
theorem dX11_layFits_70 : Ins mX11_layFits 70 (.iload_n 2) 1 71 := ⟨by decide +kernel, rfl⟩
theorem dX11_layFits_71 : Ins mX11_layFits 71 (.iconst 0) 1 72 := ⟨by decide +kernel, rfl⟩
theorem dX11_layFits_72 : Ins mX11_layFits 72 (.bastore) 1 73 := ⟨by decide +kernel, rfl⟩
theorem dX11_layFits_73 : Ins mX11_layFits 73 (.iinc 3 1) 3 76 := ⟨by decide +kernel, rfl⟩
theorem dX11_layFits_76 : Ins mX11_layFits 76 (.goto (-55)) 3 79 := ⟨by decide +kernel, rfl⟩
theorem dX11_layFits_79 : Ins mX11_layFits 79 (.iload_n 1) 1 80 := ⟨by decide +kernel, rfl⟩
theorem dX11_layFits_80 : Ins mX11_layFits 80 (.aload_n 0) 1 81 := ⟨by decide +kernel, rfl⟩
theorem dX11_layFits_81 : GgR mX11_layFits 81 84 10 27 := ⟨27, rfl, ⟨53, _, by decide +kernel, rfl, rfl, by decide, tb_5 (List.mem_of_getElem? (i := 223) (by decide +kernel)) rfl⟩, by decide, rfl⟩
theorem dX11_layFits_84 : Ins mX11_layFits 84 (.iload_n 2) 1 85 := ⟨by decide +kernel, rfl⟩
theorem dX11_layFits_85 : Ins mX11_layFits 85 (.baload) 1 86 := ⟨by decide +kernel, rfl⟩
theorem dX11_layFits_86 : Ins mX11_layFits 86 (.ifCond .eq 7) 3 89 := ⟨by decide +kernel, rfl⟩
theorem dX11_layFits_89 : Ins mX11_layFits 89 (.iconst 1) 1 90 := ⟨by decide +kernel, rfl⟩
theorem dX11_layFits_90 : Ins mX11_layFits 90 (.goto 4) 3 93 := ⟨by decide +kernel, rfl⟩
theorem dX11_layFits_93 : Ins mX11_layFits 93 (.iconst 0) 1 94 := ⟨by decide +kernel, rfl⟩
theorem dX11_layFits_94 : Ins mX11_layFits 94 (.iadd) 1 95 := ⟨by decide +kernel, rfl⟩
theorem dX11_layFits_95 : Ins mX11_layFits 95 (.istore_n 1) 1 96 := ⟨by decide +kernel, rfl⟩
theorem dX11_layFits_96 : Ins mX11_layFits 96 (.iinc 2 1) 3 99 := ⟨by decide +kernel, rfl⟩
theorem dX11_layFits_99 : Ins mX11_layFits 99 (.goto (-95)) 3 102 := ⟨by decide +kernel, rfl⟩
theorem dX11_layFits_102 : Ins mX11_layFits 102 (.iload_n 1) 1 103 := ⟨by decide +kernel, rfl⟩
theorem dX11_layFits_103 : Ins mX11_layFits 103 (.ireturn) 1 104 := ⟨by decide +kernel, rfl⟩
theorem dX11_rode_0 : Ins mX11_rode 0 (.iload_n 1) 1 1 := ⟨by decide +kernel, rfl⟩
theorem dX11_rode_1 : Ins mX11_rode 1 (.iconst 0) 1 2 := ⟨by decide +kernel, rfl⟩
theorem dX11_rode_2 : Ins mX11_rode 2 (.iconst 2) 1 3 := ⟨by decide +kernel, rfl⟩
theorem dX11_rode_3 : CalS mX11_rode 3 6 mX11_isIn := ⟨63, by decide +kernel, rfl, Or.inl (tb_6 (List.mem_of_getElem? (i := 50) (by decide +kernel)) rfl), meX11_isIn⟩
theorem dX11_rode_6 : Ins mX11_rode 6 (.ifCond .ne 5) 3 9 := ⟨by decide +kernel, rfl⟩
theorem dX11_rode_9 : Ins mX11_rode 9 (.iconst (-1)) 1 10 := ⟨by decide +kernel, rfl⟩
theorem dX11_rode_10 : Ins mX11_rode 10 (.ireturn) 1 11 := ⟨by decide +kernel, rfl⟩
theorem dX11_rode_11 : Ins mX11_rode 11 (.aload_n 0) 1 12 := ⟨by decide +kernel, rfl⟩
theorem dX11_rode_12 : CalV mX11_rode 12 15 mX11_layFits := ⟨416, by decide +kernel, rfl, tb_8 (List.mem_of_getElem? (i := 27) (by decide +kernel)) rfl, meX11_layFits⟩
theorem dX11_rode_15 : Ins mX11_rode 15 (.istore_n 2) 1 16 := ⟨by decide +kernel, rfl⟩
theorem dX11_rode_16 : Ins mX11_rode 16 (.aload_n 0) 1 17 := ⟨by decide +kernel, rfl⟩
theorem dX11_rode_17 : CalV mX11_rode 17 20 mX11_all := ⟨401, by decide +kernel, rfl, tb_7 (List.mem_of_getElem? (i := 215) (by decide +kernel)) rfl, meX11_all⟩
theorem dX11_rode_20 : Ins mX11_rode 20 (.istore_n 3) 1 21 := ⟨by decide +kernel, rfl⟩
theorem dX11_rode_21 : Ins mX11_rode 21 (.iconst 0) 1 22 := ⟨by decide +kernel, rfl⟩
theorem dX11_rode_22 : Ins mX11_rode 22 (.istore 4) 2 24 := ⟨by decide +kernel, rfl⟩
theorem dX11_rode_24 : Ins mX11_rode 24 (.iconst 0) 1 25 := ⟨by decide +kernel, rfl⟩
theorem dX11_rode_25 : Ins mX11_rode 25 (.istore 5) 2 27 := ⟨by decide +kernel, rfl⟩
theorem dX11_rode_27 : Ins mX11_rode 27 (.iload 5) 2 29 := ⟨by decide +kernel, rfl⟩
theorem dX11_rode_29 : Ins mX11_rode 29 (.aload_n 0) 1 30 := ⟨by decide +kernel, rfl⟩
theorem dX11_rode_30 : CalV mX11_rode 30 33 mX11_all := ⟨401, by decide +kernel, rfl, tb_7 (List.mem_of_getElem? (i := 215) (by decide +kernel)) rfl, meX11_all⟩
theorem dX11_rode_33 : Ins mX11_rode 33 (.if_icmp .gt 52) 3 36 := ⟨by decide +kernel, rfl⟩
theorem dX11_rode_36 : Ins mX11_rode 36 (.iload_n 3) 1 37 := ⟨by decide +kernel, rfl⟩
theorem dX11_rode_37 : Ins mX11_rode 37 (.aload_n 0) 1 38 := ⟨by decide +kernel, rfl⟩
theorem dX11_rode_38 : GgR mX11_rode 38 41 10 27 := ⟨27, rfl, ⟨53, _, by decide +kernel, rfl, rfl, by decide, tb_5 (List.mem_of_getElem? (i := 223) (by decide +kernel)) rfl⟩, by decide, rfl⟩
theorem dX11_rode_41 : Ins mX11_rode 41 (.iload 5) 2 43 := ⟨by decide +kernel, rfl⟩
theorem dX11_rode_43 : Ins mX11_rode 43 (.baload) 1 44 := ⟨by decide +kernel, rfl⟩
theorem dX11_rode_44 : Ins mX11_rode 44 (.ifCond .eq 8) 3 47 := ⟨by decide +kernel, rfl⟩
theorem dX11_rode_47 : Ins mX11_rode 47 (.iload 5) 2 49 := ⟨by decide +kernel, rfl⟩
theorem dX11_rode_49 : Ins mX11_rode 49 (.goto 7) 3 52 := ⟨by decide +kernel, rfl⟩
theorem dX11_rode_52 : Ins mX11_rode 52 (.aload_n 0) 1 53 := ⟨by decide +kernel, rfl⟩
theorem dX11_rode_53 : CalV mX11_rode 53 56 mX11_all := ⟨401, by decide +kernel, rfl, tb_7 (List.mem_of_getElem? (i := 215) (by decide +kernel)) rfl, meX11_all⟩
theorem dX11_rode_56 : Ins mX11_rode 56 (.iand) 1 57 := ⟨by decide +kernel, rfl⟩
theorem dX11_rode_57 : Ins mX11_rode 57 (.istore_n 3) 1 58 := ⟨by decide +kernel, rfl⟩
theorem dX11_rode_58 : Ins mX11_rode 58 (.iload 4) 2 60 := ⟨by decide +kernel, rfl⟩
theorem dX11_rode_60 : Ins mX11_rode 60 (.aload_n 0) 1 61 := ⟨by decide +kernel, rfl⟩
theorem dX11_rode_61 : GgR mX11_rode 61 64 10 27 := ⟨27, rfl, ⟨53, _, by decide +kernel, rfl, rfl, by decide, tb_5 (List.mem_of_getElem? (i := 223) (by decide +kernel)) rfl⟩, by decide, rfl⟩
theorem dX11_rode_64 : Ins mX11_rode 64 (.iload 5) 2 66 := ⟨by decide +kernel, rfl⟩
theorem dX11_rode_66 : Ins mX11_rode 66 (.baload) 1 67 := ⟨by decide +kernel, rfl⟩
theorem dX11_rode_67 : Ins mX11_rode 67 (.ifCond .eq 8) 3 70 := ⟨by decide +kernel, rfl⟩
theorem dX11_rode_70 : Ins mX11_rode 70 (.iload 5) 2 72 := ⟨by decide +kernel, rfl⟩
theorem dX11_rode_72 : Ins mX11_rode 72 (.goto 4) 3 75 := ⟨by decide +kernel, rfl⟩
theorem dX11_rode_75 : Ins mX11_rode 75 (.iconst 0) 1 76 := ⟨by decide +kernel, rfl⟩
theorem dX11_rode_76 : Ins mX11_rode 76 (.ior) 1 77 := ⟨by decide +kernel, rfl⟩
theorem dX11_rode_77 : Ins mX11_rode 77 (.istore 4) 2 79 := ⟨by decide +kernel, rfl⟩
theorem dX11_rode_79 : Ins mX11_rode 79 (.iinc 5 1) 3 82 := ⟨by decide +kernel, rfl⟩
theorem dX11_rode_82 : Ins mX11_rode 82 (.goto (-55)) 3 85 := ⟨by decide +kernel, rfl⟩
theorem dX11_rode_85 : Ins mX11_rode 85 (.iload_n 1) 1 86 := ⟨by decide +kernel, rfl⟩
theorem dX11_rode_86 : Ins mX11_rode 86 (.ifCond .ne 7) 3 89 := ⟨by decide +kernel, rfl⟩
theorem dX11_rode_89 : Ins mX11_rode 89 (.iload_n 2) 1 90 := ⟨by decide +kernel, rfl⟩
theorem dX11_rode_90 : Ins mX11_rode 90 (.goto 29) 3 93 := ⟨by decide +kernel, rfl⟩
theorem dX11_rode_93 : Ins mX11_rode 93 (.iload_n 2) 1 94 := ⟨by decide +kernel, rfl⟩
theorem dX11_rode_94 : Ins mX11_rode 94 (.ifCond .ne 7) 3 97 := ⟨by decide +kernel, rfl⟩
theorem dX11_rode_97 : Ins mX11_rode 97 (.iconst 0) 1 98 := ⟨by decide +kernel, rfl⟩
theorem dX11_rode_98 : Ins mX11_rode 98 (.goto 21) 3 101 := ⟨by decide +kernel, rfl⟩
theorem dX11_rode_101 : Ins mX11_rode 101 (.iload_n 1) 1 102 := ⟨by decide +kernel, rfl⟩
theorem dX11_rode_102 : Ins mX11_rode 102 (.iconst 1) 1 103 := ⟨by decide +kernel, rfl⟩
theorem dX11_rode_103 : Ins mX11_rode 103 (.if_icmp .ne 7) 3 106 := ⟨by decide +kernel, rfl⟩
theorem dX11_rode_106 : Ins mX11_rode 106 (.iload_n 3) 1 107 := ⟨by decide +kernel, rfl⟩
theorem dX11_rode_107 : Ins mX11_rode 107 (.goto 12) 3 110 := ⟨by decide +kernel, rfl⟩
theorem dX11_rode_110 : Ins mX11_rode 110 (.aload_n 0) 1 111 := ⟨by decide +kernel, rfl⟩
theorem dX11_rode_111 : CalV mX11_rode 111 114 mX11_all := ⟨401, by decide +kernel, rfl, tb_7 (List.mem_of_getElem? (i := 215) (by decide +kernel)) rfl, meX11_all⟩
theorem dX11_rode_114 : Ins mX11_rode 114 (.iload 4) 2 116 := ⟨by decide +kernel, rfl⟩
theorem dX11_rode_116 : Ins mX11_rode 116 (.iconst (-1)) 1 117 := ⟨by decide +kernel, rfl⟩
theorem dX11_rode_117 : Ins mX11_rode 117 (.ixor) 1 118 := ⟨by decide +kernel, rfl⟩
theorem dX11_rode_118 : Ins mX11_rode 118 (.iand) 1 119 := ⟨by decide +kernel, rfl⟩
theorem dX11_rode_119 : Ins mX11_rode 119 (.ireturn) 1 120 := ⟨by decide +kernel, rfl⟩
theorem dX11_countsAt_0 : Ins mX11_countsAt 0 (.iconst 0) 1 1 := ⟨by decide +kernel, rfl⟩
theorem dX11_countsAt_1 : Ins mX11_countsAt 1 (.istore_n 2) 1 2 := ⟨by decide +kernel, rfl⟩
theorem dX11_countsAt_2 : Ins mX11_countsAt 2 (.iconst 0) 1 3 := ⟨by decide +kernel, rfl⟩
theorem dX11_countsAt_3 : Ins mX11_countsAt 3 (.istore_n 3) 1 4 := ⟨by decide +kernel, rfl⟩
theorem dX11_countsAt_4 : Ins mX11_countsAt 4 (.iload_n 3) 1 5 := ⟨by decide +kernel, rfl⟩
theorem dX11_countsAt_5 : Ins mX11_countsAt 5 (.aload_n 0) 1 6 := ⟨by decide +kernel, rfl⟩
theorem dX11_countsAt_6 : CalV mX11_countsAt 6 9 mX11_all := ⟨401, by decide +kernel, rfl, tb_7 (List.mem_of_getElem? (i := 215) (by decide +kernel)) rfl, meX11_all⟩
theorem dX11_countsAt_9 : Ins mX11_countsAt 9 (.if_icmp .gt 36) 3 12 := ⟨by decide +kernel, rfl⟩
theorem dX11_countsAt_12 : Ins mX11_countsAt 12 (.iload_n 2) 1 13 := ⟨by decide +kernel, rfl⟩
theorem dX11_countsAt_13 : Ins mX11_countsAt 13 (.aload_n 0) 1 14 := ⟨by decide +kernel, rfl⟩
theorem dX11_countsAt_14 : GgR mX11_countsAt 14 17 10 27 := ⟨27, rfl, ⟨53, _, by decide +kernel, rfl, rfl, by decide, tb_5 (List.mem_of_getElem? (i := 223) (by decide +kernel)) rfl⟩, by decide, rfl⟩
theorem dX11_countsAt_17 : Ins mX11_countsAt 17 (.iload_n 3) 1 18 := ⟨by decide +kernel, rfl⟩
theorem dX11_countsAt_18 : Ins mX11_countsAt 18 (.baload) 1 19 := ⟨by decide +kernel, rfl⟩
theorem dX11_countsAt_19 : Ins mX11_countsAt 19 (.ifCond .eq 17) 3 22 := ⟨by decide +kernel, rfl⟩
theorem dX11_countsAt_22 : Ins mX11_countsAt 22 (.iconst 1) 1 23 := ⟨by decide +kernel, rfl⟩
theorem dX11_countsAt_23 : Ins mX11_countsAt 23 (.aload_n 0) 1 24 := ⟨by decide +kernel, rfl⟩
theorem dX11_countsAt_24 : Ins mX11_countsAt 24 (.iload_n 3) 1 25 := ⟨by decide +kernel, rfl⟩
theorem dX11_countsAt_25 : Ins mX11_countsAt 25 (.iload_n 1) 1 26 := ⟨by decide +kernel, rfl⟩
theorem dX11_countsAt_26 : CalV mX11_countsAt 26 29 mX11_dueOf := ⟨308, by decide +kernel, rfl, tb_7 (List.mem_of_getElem? (i := 69) (by decide +kernel)) rfl, meX11_dueOf⟩
theorem dX11_countsAt_29 : CalS mX11_countsAt 29 32 mX11_bits := ⟨302, by decide +kernel, rfl, Or.inl (tb_7 (List.mem_of_getElem? (i := 77) (by decide +kernel)) rfl), meX11_bits⟩
theorem dX11_countsAt_32 : Ins mX11_countsAt 32 (.ishl) 1 33 := ⟨by decide +kernel, rfl⟩
theorem dX11_countsAt_33 : Ins mX11_countsAt 33 (.goto 4) 3 36 := ⟨by decide +kernel, rfl⟩
theorem dX11_countsAt_36 : Ins mX11_countsAt 36 (.iconst 0) 1 37 := ⟨by decide +kernel, rfl⟩
theorem dX11_countsAt_37 : Ins mX11_countsAt 37 (.ior) 1 38 := ⟨by decide +kernel, rfl⟩
theorem dX11_countsAt_38 : Ins mX11_countsAt 38 (.istore_n 2) 1 39 := ⟨by decide +kernel, rfl⟩
theorem dX11_countsAt_39 : Ins mX11_countsAt 39 (.iinc 3 1) 3 42 := ⟨by decide +kernel, rfl⟩
theorem dX11_countsAt_42 : Ins mX11_countsAt 42 (.goto (-38)) 3 45 := ⟨by decide +kernel, rfl⟩
theorem dX11_countsAt_45 : Ins mX11_countsAt 45 (.iload_n 2) 1 46 := ⟨by decide +kernel, rfl⟩
theorem dX11_countsAt_46 : CalS mX11_countsAt 46 49 mX11_bits := ⟨302, by decide +kernel, rfl, Or.inl (tb_7 (List.mem_of_getElem? (i := 77) (by decide +kernel)) rfl), meX11_bits⟩
theorem dX11_countsAt_49 : Ins mX11_countsAt 49 (.ireturn) 1 50 := ⟨by decide +kernel, rfl⟩
theorem dX11_listen_0 : Ins mX11_listen 0 (.iload_n 1) 1 1 := ⟨by decide +kernel, rfl⟩
theorem dX11_listen_1 : Ins mX11_listen 1 (.iconst 1) 1 2 := ⟨by decide +kernel, rfl⟩
theorem dX11_listen_2 : Ins mX11_listen 2 (.bipush 60) 2 4 := ⟨by decide +kernel, rfl⟩
theorem dX11_listen_4 : CalS mX11_listen 4 7 mX11_isIn := ⟨63, by decide +kernel, rfl, Or.inl (tb_6 (List.mem_of_getElem? (i := 50) (by decide +kernel)) rfl), meX11_isIn⟩
theorem dX11_listen_7 : Ins mX11_listen 7 (.ifCond .eq 10) 3 10 := ⟨by decide +kernel, rfl⟩
theorem dX11_listen_10 : Ins mX11_listen 10 (.aload_n 0) 1 11 := ⟨by decide +kernel, rfl⟩
theorem dX11_listen_11 : CalV mX11_listen 11 14 mX11_layFits := ⟨416, by decide +kernel, rfl, tb_8 (List.mem_of_getElem? (i := 27) (by decide +kernel)) rfl, meX11_layFits⟩
theorem dX11_listen_14 : Ins mX11_listen 14 (.ifCond .ne 5) 3 17 := ⟨by decide +kernel, rfl⟩
theorem dX11_listen_17 : Ins mX11_listen 17 (.iconst (-1)) 1 18 := ⟨by decide +kernel, rfl⟩
theorem dX11_listen_18 : Ins mX11_listen 18 (.ireturn) 1 19 := ⟨by decide +kernel, rfl⟩
theorem dX11_listen_19 : Ins mX11_listen 19 (.iconst 0) 1 20 := ⟨by decide +kernel, rfl⟩
theorem dX11_listen_20 : Ins mX11_listen 20 (.istore_n 2) 1 21 := ⟨by decide +kernel, rfl⟩
theorem dX11_listen_21 : Ins mX11_listen 21 (.iconst 0) 1 22 := ⟨by decide +kernel, rfl⟩
theorem dX11_listen_22 : Ins mX11_listen 22 (.istore_n 3) 1 23 := ⟨by decide +kernel, rfl⟩
theorem dX11_listen_23 : Ins mX11_listen 23 (.iconst 0) 1 24 := ⟨by decide +kernel, rfl⟩
theorem dX11_listen_24 : Ins mX11_listen 24 (.istore 4) 2 26 := ⟨by decide +kernel, rfl⟩
theorem dX11_listen_26 : Ins mX11_listen 26 (.iload 4) 2 28 := ⟨by decide +kernel, rfl⟩
theorem dX11_listen_28 : Ins mX11_listen 28 (.iload_n 1) 1 29 := ⟨by decide +kernel, rfl⟩
theorem dX11_listen_29 : Ins mX11_listen 29 (.if_icmp .ge 40) 3 32 := ⟨by decide +kernel, rfl⟩
theorem dX11_listen_32 : Ins mX11_listen 32 (.aload_n 0) 1 33 := ⟨by decide +kernel, rfl⟩
theorem dX11_listen_33 : Ins mX11_listen 33 (.aload_n 0) 1 34 := ⟨by decide +kernel, rfl⟩
theorem dX11_listen_34 : GgR mX11_listen 34 37 10 0 := ⟨0, rfl, ⟨7, _, by decide +kernel, rfl, rfl, by decide, tb_5 (List.mem_of_getElem? (i := 196) (by decide +kernel)) rfl⟩, by decide, rfl⟩
theorem dX11_listen_37 : Ins mX11_listen 37 (.bipush 10) 2 39 := ⟨by decide +kernel, rfl⟩
theorem dX11_listen_39 : Ins mX11_listen 39 (.iaload) 1 40 := ⟨by decide +kernel, rfl⟩
theorem dX11_listen_40 : Ins mX11_listen 40 (.iload 4) 2 42 := ⟨by decide +kernel, rfl⟩
theorem dX11_listen_42 : Ins mX11_listen 42 (.iadd) 1 43 := ⟨by decide +kernel, rfl⟩
theorem dX11_listen_43 : CalV mX11_listen 43 46 mX11_countsAt := ⟨419, by decide +kernel, rfl, tb_8 (List.mem_of_getElem? (i := 35) (by decide +kernel)) rfl, meX11_countsAt⟩
theorem dX11_listen_46 : Ins mX11_listen 46 (.istore 5) 2 48 := ⟨by decide +kernel, rfl⟩
theorem dX11_listen_48 : Ins mX11_listen 48 (.iload 5) 2 50 := ⟨by decide +kernel, rfl⟩
theorem dX11_listen_50 : Ins mX11_listen 50 (.iload_n 3) 1 51 := ⟨by decide +kernel, rfl⟩
theorem dX11_listen_51 : Ins mX11_listen 51 (.if_icmp .gt 6) 3 54 := ⟨by decide +kernel, rfl⟩
theorem dX11_listen_54 : Ins mX11_listen 54 (.goto 9) 3 57 := ⟨by decide +kernel, rfl⟩
theorem dX11_listen_57 : Ins mX11_listen 57 (.iload 5) 2 59 := ⟨by decide +kernel, rfl⟩
theorem dX11_listen_59 : Ins mX11_listen 59 (.istore_n 3) 1 60 := ⟨by decide +kernel, rfl⟩
theorem dX11_listen_60 : Ins mX11_listen 60 (.iload 4) 2 62 := ⟨by decide +kernel, rfl⟩
theorem dX11_listen_62 : Ins mX11_listen 62 (.istore_n 2) 1 63 := ⟨by decide +kernel, rfl⟩
theorem dX11_listen_63 : Ins mX11_listen 63 (.iinc 4 1) 3 66 := ⟨by decide +kernel, rfl⟩
theorem dX11_listen_66 : Ins mX11_listen 66 (.goto (-40)) 3 69 := ⟨by decide +kernel, rfl⟩
theorem dX11_listen_69 : Ins mX11_listen 69 (.iload_n 2) 1 70 := ⟨by decide +kernel, rfl⟩
theorem dX11_listen_70 : Ins mX11_listen 70 (.ireturn) 1 71 := ⟨by decide +kernel, rfl⟩
theorem dX11_watch_0 : Ins mX11_watch 0 (.iload_n 1) 1 1 := ⟨by decide +kernel, rfl⟩
theorem dX11_watch_1 : Ins mX11_watch 1 (.iconst (-1)) 1 2 := ⟨by decide +kernel, rfl⟩
theorem dX11_watch_2 : Ins mX11_watch 2 (.if_icmp .ne 13) 3 5 := ⟨by decide +kernel, rfl⟩
theorem dX11_watch_5 : Ins mX11_watch 5 (.aload_n 0) 1 6 := ⟨by decide +kernel, rfl⟩
theorem dX11_watch_6 : GgR mX11_watch 6 9 10 0 := ⟨0, rfl, ⟨7, _, by decide +kernel, rfl, rfl, by decide, tb_5 (List.mem_of_getElem? (i := 196) (by decide +kernel)) rfl⟩, by decide, rfl⟩
theorem dX11_watch_9 : Ins mX11_watch 9 (.bipush 6) 2 11 := ⟨by decide +kernel, rfl⟩
theorem dX11_watch_11 : Ins mX11_watch 11 (.iconst 0) 1 12 := ⟨by decide +kernel, rfl⟩
theorem dX11_watch_12 : Ins mX11_watch 12 (.iastore) 1 13 := ⟨by decide +kernel, rfl⟩
theorem dX11_watch_13 : Ins mX11_watch 13 (.iconst 0) 1 14 := ⟨by decide +kernel, rfl⟩
theorem dX11_watch_14 : Ins mX11_watch 14 (.ireturn) 1 15 := ⟨by decide +kernel, rfl⟩
theorem dX11_watch_15 : Ins mX11_watch 15 (.aload_n 0) 1 16 := ⟨by decide +kernel, rfl⟩
theorem dX11_watch_16 : Ins mX11_watch 16 (.iload_n 1) 1 17 := ⟨by decide +kernel, rfl⟩
theorem dX11_watch_17 : CalV mX11_watch 17 20 mX11_isHorse := ⟨335, by decide +kernel, rfl, tb_7 (List.mem_of_getElem? (i := 9) (by decide +kernel)) rfl, meX11_isHorse⟩
theorem dX11_watch_20 : Ins mX11_watch 20 (.ifCond .eq 35) 3 23 := ⟨by decide +kernel, rfl⟩
theorem dX11_watch_23 : Ins mX11_watch 23 (.iload_n 2) 1 24 := ⟨by decide +kernel, rfl⟩
theorem dX11_watch_24 : Ins mX11_watch 24 (.iconst 1) 1 25 := ⟨by decide +kernel, rfl⟩
theorem dX11_watch_25 : Ins mX11_watch 25 (.bipush 9) 2 27 := ⟨by decide +kernel, rfl⟩
theorem dX11_watch_27 : CalS mX11_watch 27 30 mX11_isIn := ⟨63, by decide +kernel, rfl, Or.inl (tb_6 (List.mem_of_getElem? (i := 50) (by decide +kernel)) rfl), meX11_isIn⟩
theorem dX11_watch_30 : Ins mX11_watch 30 (.ifCond .eq 25) 3 33 := ⟨by decide +kernel, rfl⟩
theorem dX11_watch_33 : Ins mX11_watch 33 (.iload_n 3) 1 34 := ⟨by decide +kernel, rfl⟩
theorem dX11_watch_34 : Ins mX11_watch 34 (.iload_n 2) 1 35 := ⟨by decide +kernel, rfl⟩
theorem dX11_watch_35 : Ins mX11_watch 35 (.bipush 9) 2 37 := ⟨by decide +kernel, rfl⟩
theorem dX11_watch_37 : CalS mX11_watch 37 40 mX11_isIn := ⟨63, by decide +kernel, rfl, Or.inl (tb_6 (List.mem_of_getElem? (i := 50) (by decide +kernel)) rfl), meX11_isIn⟩
theorem dX11_watch_40 : Ins mX11_watch 40 (.ifCond .eq 15) 3 43 := ⟨by decide +kernel, rfl⟩
theorem dX11_watch_43 : Ins mX11_watch 43 (.aload_n 0) 1 44 := ⟨by decide +kernel, rfl⟩
theorem dX11_watch_44 : GgR mX11_watch 44 47 10 0 := ⟨0, rfl, ⟨7, _, by decide +kernel, rfl, rfl, by decide, tb_5 (List.mem_of_getElem? (i := 196) (by decide +kernel)) rfl⟩, by decide, rfl⟩
theorem dX11_watch_47 : Ins mX11_watch 47 (.bipush 6) 2 49 := ⟨by decide +kernel, rfl⟩
theorem dX11_watch_49 : Ins mX11_watch 49 (.iaload) 1 50 := ⟨by decide +kernel, rfl⟩
theorem dX11_watch_50 : Ins mX11_watch 50 (.bipush 6) 2 52 := ⟨by decide +kernel, rfl⟩
theorem dX11_watch_52 : Ins mX11_watch 52 (.if_icmp .ne 6) 3 55 := ⟨by decide +kernel, rfl⟩
theorem dX11_watch_55 : Ins mX11_watch 55 (.bipush (-2)) 2 57 := ⟨by decide +kernel, rfl⟩
theorem dX11_watch_57 : Ins mX11_watch 57 (.ireturn) 1 58 := ⟨by decide +kernel, rfl⟩
theorem dX11_watch_58 : Ins mX11_watch 58 (.bipush 88) 2 60 := ⟨by decide +kernel, rfl⟩
theorem dX11_watch_60 : Ins mX11_watch 60 (.iconst 3) 1 61 := ⟨by decide +kernel, rfl⟩
theorem dX11_watch_61 : Ins mX11_watch 61 (.aload_n 0) 1 62 := ⟨by decide +kernel, rfl⟩
theorem dX11_watch_62 : GgR mX11_watch 62 65 10 0 := ⟨0, rfl, ⟨7, _, by decide +kernel, rfl, rfl, by decide, tb_5 (List.mem_of_getElem? (i := 196) (by decide +kernel)) rfl⟩, by decide, rfl⟩
theorem dX11_watch_65 : Ins mX11_watch 65 (.bipush 6) 2 67 := ⟨by decide +kernel, rfl⟩
theorem dX11_watch_67 : Ins mX11_watch 67 (.iaload) 1 68 := ⟨by decide +kernel, rfl⟩
theorem dX11_watch_68 : Ins mX11_watch 68 (.imul) 1 69 := ⟨by decide +kernel, rfl⟩
theorem dX11_watch_69 : Ins mX11_watch 69 (.iadd) 1 70 := ⟨by decide +kernel, rfl⟩
theorem dX11_watch_70 : Ins mX11_watch 70 (.istore 4) 2 72 := ⟨by decide +kernel, rfl⟩
theorem dX11_watch_72 : Ins mX11_watch 72 (.aload_n 0) 1 73 := ⟨by decide +kernel, rfl⟩
theorem dX11_watch_73 : GgR mX11_watch 73 76 10 0 := ⟨0, rfl, ⟨7, _, by decide +kernel, rfl, rfl, by decide, tb_5 (List.mem_of_getElem? (i := 196) (by decide +kernel)) rfl⟩, by decide, rfl⟩
theorem dX11_watch_76 : Ins mX11_watch 76 (.iload 4) 2 78 := ⟨by decide +kernel, rfl⟩
theorem dX11_watch_78 : Ins mX11_watch 78 (.iload_n 1) 1 79 := ⟨by decide +kernel, rfl⟩
theorem dX11_watch_79 : Ins mX11_watch 79 (.iastore) 1 80 := ⟨by decide +kernel, rfl⟩
theorem dX11_watch_80 : Ins mX11_watch 80 (.aload_n 0) 1 81 := ⟨by decide +kernel, rfl⟩
theorem dX11_watch_81 : GgR mX11_watch 81 84 10 0 := ⟨0, rfl, ⟨7, _, by decide +kernel, rfl, rfl, by decide, tb_5 (List.mem_of_getElem? (i := 196) (by decide +kernel)) rfl⟩, by decide, rfl⟩
theorem dX11_watch_84 : Ins mX11_watch 84 (.iload 4) 2 86 := ⟨by decide +kernel, rfl⟩
theorem dX11_watch_86 : Ins mX11_watch 86 (.iconst 1) 1 87 := ⟨by decide +kernel, rfl⟩
theorem dX11_watch_87 : Ins mX11_watch 87 (.iadd) 1 88 := ⟨by decide +kernel, rfl⟩
theorem dX11_watch_88 : Ins mX11_watch 88 (.iload_n 2) 1 89 := ⟨by decide +kernel, rfl⟩
theorem dX11_watch_89 : Ins mX11_watch 89 (.iastore) 1 90 := ⟨by decide +kernel, rfl⟩
theorem dX11_watch_90 : Ins mX11_watch 90 (.aload_n 0) 1 91 := ⟨by decide +kernel, rfl⟩
theorem dX11_watch_91 : GgR mX11_watch 91 94 10 0 := ⟨0, rfl, ⟨7, _, by decide +kernel, rfl, rfl, by decide, tb_5 (List.mem_of_getElem? (i := 196) (by decide +kernel)) rfl⟩, by decide, rfl⟩
theorem dX11_watch_94 : Ins mX11_watch 94 (.iload 4) 2 96 := ⟨by decide +kernel, rfl⟩
theorem dX11_watch_96 : Ins mX11_watch 96 (.iconst 2) 1 97 := ⟨by decide +kernel, rfl⟩
theorem dX11_watch_97 : Ins mX11_watch 97 (.iadd) 1 98 := ⟨by decide +kernel, rfl⟩
theorem dX11_watch_98 : Ins mX11_watch 98 (.iload_n 3) 1 99 := ⟨by decide +kernel, rfl⟩
theorem dX11_watch_99 : Ins mX11_watch 99 (.iastore) 1 100 := ⟨by decide +kernel, rfl⟩
theorem dX11_watch_100 : Ins mX11_watch 100 (.aload_n 0) 1 101 := ⟨by decide +kernel, rfl⟩
theorem dX11_watch_101 : GgR mX11_watch 101 104 10 0 := ⟨0, rfl, ⟨7, _, by decide +kernel, rfl, rfl, by decide, tb_5 (List.mem_of_getElem? (i := 196) (by decide +kernel)) rfl⟩, by decide, rfl⟩
theorem dX11_watch_104 : Ins mX11_watch 104 (.bipush 6) 2 106 := ⟨by decide +kernel, rfl⟩
theorem dX11_watch_106 : Ins mX11_watch 106 (.dup2) 1 107 := ⟨by decide +kernel, rfl⟩
theorem dX11_watch_107 : Ins mX11_watch 107 (.iaload) 1 108 := ⟨by decide +kernel, rfl⟩
theorem dX11_watch_108 : Ins mX11_watch 108 (.iconst 1) 1 109 := ⟨by decide +kernel, rfl⟩
theorem dX11_watch_109 : Ins mX11_watch 109 (.iadd) 1 110 := ⟨by decide +kernel, rfl⟩
theorem dX11_watch_110 : Ins mX11_watch 110 (.iastore) 1 111 := ⟨by decide +kernel, rfl⟩
theorem dX11_watch_111 : Ins mX11_watch 111 (.aload_n 0) 1 112 := ⟨by decide +kernel, rfl⟩
theorem dX11_watch_112 : GgR mX11_watch 112 115 10 0 := ⟨0, rfl, ⟨7, _, by decide +kernel, rfl, rfl, by decide, tb_5 (List.mem_of_getElem? (i := 196) (by decide +kernel)) rfl⟩, by decide, rfl⟩
theorem dX11_watch_115 : Ins mX11_watch 115 (.bipush 6) 2 117 := ⟨by decide +kernel, rfl⟩
theorem dX11_watch_117 : Ins mX11_watch 117 (.iaload) 1 118 := ⟨by decide +kernel, rfl⟩
theorem dX11_watch_118 : Ins mX11_watch 118 (.ireturn) 1 119 := ⟨by decide +kernel, rfl⟩
