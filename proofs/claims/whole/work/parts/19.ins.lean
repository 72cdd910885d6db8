-- a fact for each instruction, by wip/whole/gen/ins.py
theorem dX11_isAble_0 : Ins mX11_isAble 0 (.aload_n 0) 1 1 := ⟨by decide +kernel, rfl⟩
theorem dX11_isAble_1 : Ins mX11_isAble 1 (.iload_n 2) 1 2 := ⟨by decide +kernel, rfl⟩
theorem dX11_isAble_2 : Ins mX11_isAble 2 (.iconst 2) 1 3 := ⟨by decide +kernel, rfl⟩
theorem dX11_isAble_3 : CalV mX11_isAble 3 6 mX11_of := ⟨67, by decide +kernel, rfl, tb_7 (List.mem_of_getElem? (i := 13) (by decide +kernel)) rfl, meX11_of⟩
theorem dX11_isAble_6 : Ins mX11_isAble 6 (.aload_n 0) 1 7 := ⟨by decide +kernel, rfl⟩
theorem dX11_isAble_7 : GgR mX11_isAble 7 10 10 0 := ⟨0, rfl, ⟨7, _, by decide +kernel, rfl, rfl, by decide, tb_5 (List.mem_of_getElem? (i := 196) (by decide +kernel)) rfl⟩, by decide, rfl⟩
theorem dX11_isAble_10 : Ins mX11_isAble 10 (.bipush 88) 2 12 := ⟨by decide +kernel, rfl⟩
theorem dX11_isAble_12 : Ins mX11_isAble 12 (.iconst 3) 1 13 := ⟨by decide +kernel, rfl⟩
theorem dX11_isAble_13 : Ins mX11_isAble 13 (.iload_n 1) 1 14 := ⟨by decide +kernel, rfl⟩
theorem dX11_isAble_14 : Ins mX11_isAble 14 (.imul) 1 15 := ⟨by decide +kernel, rfl⟩
theorem dX11_isAble_15 : Ins mX11_isAble 15 (.iadd) 1 16 := ⟨by decide +kernel, rfl⟩
theorem dX11_isAble_16 : Ins mX11_isAble 16 (.iconst 1) 1 17 := ⟨by decide +kernel, rfl⟩
theorem dX11_isAble_17 : Ins mX11_isAble 17 (.iadd) 1 18 := ⟨by decide +kernel, rfl⟩
theorem dX11_isAble_18 : Ins mX11_isAble 18 (.iaload) 1 19 := ⟨by decide +kernel, rfl⟩
theorem dX11_isAble_19 : Ins mX11_isAble 19 (.aload_n 0) 1 20 := ⟨by decide +kernel, rfl⟩
theorem dX11_isAble_20 : GgR mX11_isAble 20 23 10 0 := ⟨0, rfl, ⟨7, _, by decide +kernel, rfl, rfl, by decide, tb_5 (List.mem_of_getElem? (i := 196) (by decide +kernel)) rfl⟩, by decide, rfl⟩
theorem dX11_isAble_23 : Ins mX11_isAble 23 (.bipush 88) 2 25 := ⟨by decide +kernel, rfl⟩
theorem dX11_isAble_25 : Ins mX11_isAble 25 (.iconst 3) 1 26 := ⟨by decide +kernel, rfl⟩
theorem dX11_isAble_26 : Ins mX11_isAble 26 (.iload_n 1) 1 27 := ⟨by decide +kernel, rfl⟩
theorem dX11_isAble_27 : Ins mX11_isAble 27 (.imul) 1 28 := ⟨by decide +kernel, rfl⟩
theorem dX11_isAble_28 : Ins mX11_isAble 28 (.iadd) 1 29 := ⟨by decide +kernel, rfl⟩
theorem dX11_isAble_29 : Ins mX11_isAble 29 (.iconst 2) 1 30 := ⟨by decide +kernel, rfl⟩
theorem dX11_isAble_30 : Ins mX11_isAble 30 (.iadd) 1 31 := ⟨by decide +kernel, rfl⟩
theorem dX11_isAble_31 : Ins mX11_isAble 31 (.iaload) 1 32 := ⟨by decide +kernel, rfl⟩
theorem dX11_isAble_32 : CalS mX11_isAble 32 35 mX11_isIn := ⟨63, by decide +kernel, rfl, Or.inl (tb_6 (List.mem_of_getElem? (i := 50) (by decide +kernel)) rfl), meX11_isIn⟩
theorem dX11_isAble_35 : Ins mX11_isAble 35 (.ireturn) 1 36 := ⟨by decide +kernel, rfl⟩
theorem dX11_layWatches_0 : Ins mX11_layWatches 0 (.iconst 0) 1 1 := ⟨by decide +kernel, rfl⟩
theorem dX11_layWatches_1 : Ins mX11_layWatches 1 (.istore_n 1) 1 2 := ⟨by decide +kernel, rfl⟩
theorem dX11_layWatches_2 : Ins mX11_layWatches 2 (.iload_n 1) 1 3 := ⟨by decide +kernel, rfl⟩
theorem dX11_layWatches_3 : Ins mX11_layWatches 3 (.bipush 64) 2 5 := ⟨by decide +kernel, rfl⟩
theorem dX11_layWatches_5 : Ins mX11_layWatches 5 (.if_icmp .ge 27) 3 8 := ⟨by decide +kernel, rfl⟩
theorem dX11_layWatches_8 : Ins mX11_layWatches 8 (.aload_n 0) 1 9 := ⟨by decide +kernel, rfl⟩
theorem dX11_layWatches_9 : GgR mX11_layWatches 9 12 10 28 := ⟨28, rfl, ⟨56, _, by decide +kernel, rfl, rfl, by decide, tb_5 (List.mem_of_getElem? (i := 224) (by decide +kernel)) rfl⟩, by decide, rfl⟩
theorem dX11_layWatches_12 : Ins mX11_layWatches 12 (.bipush 64) 2 14 := ⟨by decide +kernel, rfl⟩
theorem dX11_layWatches_14 : Ins mX11_layWatches 14 (.aload_n 0) 1 15 := ⟨by decide +kernel, rfl⟩
theorem dX11_layWatches_15 : GgR mX11_layWatches 15 18 10 0 := ⟨0, rfl, ⟨7, _, by decide +kernel, rfl, rfl, by decide, tb_5 (List.mem_of_getElem? (i := 196) (by decide +kernel)) rfl⟩, by decide, rfl⟩
theorem dX11_layWatches_18 : Ins mX11_layWatches 18 (.bipush 6) 2 20 := ⟨by decide +kernel, rfl⟩
theorem dX11_layWatches_20 : Ins mX11_layWatches 20 (.iaload) 1 21 := ⟨by decide +kernel, rfl⟩
theorem dX11_layWatches_21 : Ins mX11_layWatches 21 (.imul) 1 22 := ⟨by decide +kernel, rfl⟩
theorem dX11_layWatches_22 : Ins mX11_layWatches 22 (.iload_n 1) 1 23 := ⟨by decide +kernel, rfl⟩
theorem dX11_layWatches_23 : Ins mX11_layWatches 23 (.iadd) 1 24 := ⟨by decide +kernel, rfl⟩
theorem dX11_layWatches_24 : Ins mX11_layWatches 24 (.iconst 0) 1 25 := ⟨by decide +kernel, rfl⟩
theorem dX11_layWatches_25 : Ins mX11_layWatches 25 (.iastore) 1 26 := ⟨by decide +kernel, rfl⟩
theorem dX11_layWatches_26 : Ins mX11_layWatches 26 (.iinc 1 1) 3 29 := ⟨by decide +kernel, rfl⟩
theorem dX11_layWatches_29 : Ins mX11_layWatches 29 (.goto (-27)) 3 32 := ⟨by decide +kernel, rfl⟩
theorem dX11_layWatches_32 : Ins mX11_layWatches 32 (.aload_n 0) 1 33 := ⟨by decide +kernel, rfl⟩
theorem dX11_layWatches_33 : GgR mX11_layWatches 33 36 10 0 := ⟨0, rfl, ⟨7, _, by decide +kernel, rfl, rfl, by decide, tb_5 (List.mem_of_getElem? (i := 196) (by decide +kernel)) rfl⟩, by decide, rfl⟩
theorem dX11_layWatches_36 : Ins mX11_layWatches 36 (.bipush 6) 2 38 := ⟨by decide +kernel, rfl⟩
theorem dX11_layWatches_38 : Ins mX11_layWatches 38 (.iaload) 1 39 := ⟨by decide +kernel, rfl⟩
theorem dX11_layWatches_39 : Ins mX11_layWatches 39 (.iconst 1) 1 40 := ⟨by decide +kernel, rfl⟩
theorem dX11_layWatches_40 : Ins mX11_layWatches 40 (.isub) 1 41 := ⟨by decide +kernel, rfl⟩
theorem dX11_layWatches_41 : Ins mX11_layWatches 41 (.istore_n 1) 1 42 := ⟨by decide +kernel, rfl⟩
theorem dX11_layWatches_42 : Ins mX11_layWatches 42 (.iload_n 1) 1 43 := ⟨by decide +kernel, rfl⟩
theorem dX11_layWatches_43 : Ins mX11_layWatches 43 (.ifCond .lt 126) 3 46 := ⟨by decide +kernel, rfl⟩
theorem dX11_layWatches_46 : Ins mX11_layWatches 46 (.iconst 0) 1 47 := ⟨by decide +kernel, rfl⟩
theorem dX11_layWatches_47 : Ins mX11_layWatches 47 (.istore_n 2) 1 48 := ⟨by decide +kernel, rfl⟩
theorem dX11_layWatches_48 : Ins mX11_layWatches 48 (.iload_n 2) 1 49 := ⟨by decide +kernel, rfl⟩
theorem dX11_layWatches_49 : Ins mX11_layWatches 49 (.bipush 64) 2 51 := ⟨by decide +kernel, rfl⟩
theorem dX11_layWatches_51 : Ins mX11_layWatches 51 (.if_icmp .ge 112) 3 54 := ⟨by decide +kernel, rfl⟩
theorem dX11_layWatches_54 : Ins mX11_layWatches 54 (.aload_n 0) 1 55 := ⟨by decide +kernel, rfl⟩
theorem dX11_layWatches_55 : GgR mX11_layWatches 55 58 10 28 := ⟨28, rfl, ⟨56, _, by decide +kernel, rfl, rfl, by decide, tb_5 (List.mem_of_getElem? (i := 224) (by decide +kernel)) rfl⟩, by decide, rfl⟩
theorem dX11_layWatches_58 : Ins mX11_layWatches 58 (.bipush 64) 2 60 := ⟨by decide +kernel, rfl⟩
theorem dX11_layWatches_60 : Ins mX11_layWatches 60 (.iload_n 1) 1 61 := ⟨by decide +kernel, rfl⟩
theorem dX11_layWatches_61 : Ins mX11_layWatches 61 (.iconst 1) 1 62 := ⟨by decide +kernel, rfl⟩
theorem dX11_layWatches_62 : Ins mX11_layWatches 62 (.iadd) 1 63 := ⟨by decide +kernel, rfl⟩
theorem dX11_layWatches_63 : Ins mX11_layWatches 63 (.imul) 1 64 := ⟨by decide +kernel, rfl⟩
theorem dX11_layWatches_64 : Ins mX11_layWatches 64 (.iload_n 2) 1 65 := ⟨by decide +kernel, rfl⟩
theorem dX11_layWatches_65 : Ins mX11_layWatches 65 (.iadd) 1 66 := ⟨by decide +kernel, rfl⟩
theorem dX11_layWatches_66 : Ins mX11_layWatches 66 (.iaload) 1 67 := ⟨by decide +kernel, rfl⟩
theorem dX11_layWatches_67 : Ins mX11_layWatches 67 (.istore_n 3) 1 68 := ⟨by decide +kernel, rfl⟩
theorem dX11_layWatches_68 : Ins mX11_layWatches 68 (.iconst 0) 1 69 := ⟨by decide +kernel, rfl⟩
theorem dX11_layWatches_69 : Ins mX11_layWatches 69 (.istore 4) 2 71 := ⟨by decide +kernel, rfl⟩
theorem dX11_layWatches_71 : Ins mX11_layWatches 71 (.iload 4) 2 73 := ⟨by decide +kernel, rfl⟩
theorem dX11_layWatches_73 : Ins mX11_layWatches 73 (.aload_n 0) 1 74 := ⟨by decide +kernel, rfl⟩
theorem dX11_layWatches_74 : GgR mX11_layWatches 74 77 10 0 := ⟨0, rfl, ⟨7, _, by decide +kernel, rfl, rfl, by decide, tb_5 (List.mem_of_getElem? (i := 196) (by decide +kernel)) rfl⟩, by decide, rfl⟩
theorem dX11_layWatches_77 : Ins mX11_layWatches 77 (.iconst 1) 1 78 := ⟨by decide +kernel, rfl⟩
theorem dX11_layWatches_78 : Ins mX11_layWatches 78 (.iaload) 1 79 := ⟨by decide +kernel, rfl⟩
theorem dX11_layWatches_79 : Ins mX11_layWatches 79 (.if_icmp .ge 66) 3 82 := ⟨by decide +kernel, rfl⟩
theorem dX11_layWatches_82 : Ins mX11_layWatches 82 (.iload_n 2) 1 83 := ⟨by decide +kernel, rfl⟩
theorem dX11_layWatches_83 : Ins mX11_layWatches 83 (.iload 4) 2 85 := ⟨by decide +kernel, rfl⟩
theorem dX11_layWatches_85 : CalS mX11_layWatches 85 88 mX11_has := ⟨74, by decide +kernel, rfl, Or.inl (tb_6 (List.mem_of_getElem? (i := 135) (by decide +kernel)) rfl), meX11_has⟩
theorem dX11_layWatches_88 : Ins mX11_layWatches 88 (.ifCond .ne 51) 3 91 := ⟨by decide +kernel, rfl⟩
theorem dX11_layWatches_91 : Ins mX11_layWatches 91 (.aload_n 0) 1 92 := ⟨by decide +kernel, rfl⟩
theorem dX11_layWatches_92 : Ins mX11_layWatches 92 (.iload_n 1) 1 93 := ⟨by decide +kernel, rfl⟩
theorem dX11_layWatches_93 : Ins mX11_layWatches 93 (.iload 4) 2 95 := ⟨by decide +kernel, rfl⟩
theorem dX11_layWatches_95 : CalV mX11_layWatches 95 98 mX11_isAble := ⟨422, by decide +kernel, rfl, tb_8 (List.mem_of_getElem? (i := 51) (by decide +kernel)) rfl, meX11_isAble⟩
theorem dX11_layWatches_98 : Ins mX11_layWatches 98 (.ifCond .ne 6) 3 101 := ⟨by decide +kernel, rfl⟩
theorem dX11_layWatches_101 : Ins mX11_layWatches 101 (.goto 38) 3 104 := ⟨by decide +kernel, rfl⟩
theorem dX11_layWatches_104 : Ins mX11_layWatches 104 (.iconst 1) 1 105 := ⟨by decide +kernel, rfl⟩
theorem dX11_layWatches_105 : Ins mX11_layWatches 105 (.aload_n 0) 1 106 := ⟨by decide +kernel, rfl⟩
theorem dX11_layWatches_106 : GgR mX11_layWatches 106 109 10 28 := ⟨28, rfl, ⟨56, _, by decide +kernel, rfl, rfl, by decide, tb_5 (List.mem_of_getElem? (i := 224) (by decide +kernel)) rfl⟩, by decide, rfl⟩
theorem dX11_layWatches_109 : Ins mX11_layWatches 109 (.bipush 64) 2 111 := ⟨by decide +kernel, rfl⟩
theorem dX11_layWatches_111 : Ins mX11_layWatches 111 (.iload_n 1) 1 112 := ⟨by decide +kernel, rfl⟩
theorem dX11_layWatches_112 : Ins mX11_layWatches 112 (.iconst 1) 1 113 := ⟨by decide +kernel, rfl⟩
theorem dX11_layWatches_113 : Ins mX11_layWatches 113 (.iadd) 1 114 := ⟨by decide +kernel, rfl⟩
theorem dX11_layWatches_114 : Ins mX11_layWatches 114 (.imul) 1 115 := ⟨by decide +kernel, rfl⟩
theorem dX11_layWatches_115 : Ins mX11_layWatches 115 (.iload_n 2) 1 116 := ⟨by decide +kernel, rfl⟩
theorem dX11_layWatches_116 : Ins mX11_layWatches 116 (.iconst 1) 1 117 := ⟨by decide +kernel, rfl⟩
theorem dX11_layWatches_117 : Ins mX11_layWatches 117 (.iload 4) 2 119 := ⟨by decide +kernel, rfl⟩
theorem dX11_layWatches_119 : Ins mX11_layWatches 119 (.ishl) 1 120 := ⟨by decide +kernel, rfl⟩
theorem dX11_layWatches_120 : Ins mX11_layWatches 120 (.ior) 1 121 := ⟨by decide +kernel, rfl⟩
theorem dX11_layWatches_121 : Ins mX11_layWatches 121 (.iadd) 1 122 := ⟨by decide +kernel, rfl⟩
theorem dX11_layWatches_122 : Ins mX11_layWatches 122 (.iaload) 1 123 := ⟨by decide +kernel, rfl⟩
theorem dX11_layWatches_123 : Ins mX11_layWatches 123 (.iadd) 1 124 := ⟨by decide +kernel, rfl⟩
theorem dX11_layWatches_124 : Ins mX11_layWatches 124 (.istore 5) 2 126 := ⟨by decide +kernel, rfl⟩
theorem dX11_layWatches_126 : Ins mX11_layWatches 126 (.iload 5) 2 128 := ⟨by decide +kernel, rfl⟩
theorem dX11_layWatches_128 : Ins mX11_layWatches 128 (.iload_n 3) 1 129 := ⟨by decide +kernel, rfl⟩
theorem dX11_layWatches_129 : Ins mX11_layWatches 129 (.if_icmp .le 8) 3 132 := ⟨by decide +kernel, rfl⟩
theorem dX11_layWatches_132 : Ins mX11_layWatches 132 (.iload 5) 2 134 := ⟨by decide +kernel, rfl⟩
theorem dX11_layWatches_134 : Ins mX11_layWatches 134 (.goto 4) 3 137 := ⟨by decide +kernel, rfl⟩
theorem dX11_layWatches_137 : Ins mX11_layWatches 137 (.iload_n 3) 1 138 := ⟨by decide +kernel, rfl⟩
theorem dX11_layWatches_138 : Ins mX11_layWatches 138 (.istore_n 3) 1 139 := ⟨by decide +kernel, rfl⟩
theorem dX11_layWatches_139 : Ins mX11_layWatches 139 (.iinc 4 1) 3 142 := ⟨by decide +kernel, rfl⟩
theorem dX11_layWatches_142 : Ins mX11_layWatches 142 (.goto (-71)) 3 145 := ⟨by decide +kernel, rfl⟩
theorem dX11_layWatches_145 : Ins mX11_layWatches 145 (.aload_n 0) 1 146 := ⟨by decide +kernel, rfl⟩
theorem dX11_layWatches_146 : GgR mX11_layWatches 146 149 10 28 := ⟨28, rfl, ⟨56, _, by decide +kernel, rfl, rfl, by decide, tb_5 (List.mem_of_getElem? (i := 224) (by decide +kernel)) rfl⟩, by decide, rfl⟩
theorem dX11_layWatches_149 : Ins mX11_layWatches 149 (.bipush 64) 2 151 := ⟨by decide +kernel, rfl⟩
theorem dX11_layWatches_151 : Ins mX11_layWatches 151 (.iload_n 1) 1 152 := ⟨by decide +kernel, rfl⟩
theorem dX11_layWatches_152 : Ins mX11_layWatches 152 (.imul) 1 153 := ⟨by decide +kernel, rfl⟩
theorem dX11_layWatches_153 : Ins mX11_layWatches 153 (.iload_n 2) 1 154 := ⟨by decide +kernel, rfl⟩
theorem dX11_layWatches_154 : Ins mX11_layWatches 154 (.iadd) 1 155 := ⟨by decide +kernel, rfl⟩
theorem dX11_layWatches_155 : Ins mX11_layWatches 155 (.iload_n 3) 1 156 := ⟨by decide +kernel, rfl⟩
theorem dX11_layWatches_156 : Ins mX11_layWatches 156 (.iastore) 1 157 := ⟨by decide +kernel, rfl⟩
theorem dX11_layWatches_157 : Ins mX11_layWatches 157 (.iinc 2 1) 3 160 := ⟨by decide +kernel, rfl⟩
theorem dX11_layWatches_160 : Ins mX11_layWatches 160 (.goto (-112)) 3 163 := ⟨by decide +kernel, rfl⟩
theorem dX11_layWatches_163 : Ins mX11_layWatches 163 (.iinc 1 (-1)) 3 166 := ⟨by decide +kernel, rfl⟩
theorem dX11_layWatches_166 : Ins mX11_layWatches 166 (.goto (-124)) 3 169 := ⟨by decide +kernel, rfl⟩
theorem dX11_layWatches_169 : Ins mX11_layWatches 169 (.return_) 1 170 := ⟨by decide +kernel, rfl⟩
theorem dX11_whoOf_0 : Ins mX11_whoOf 0 (.iconst 0) 1 1 := ⟨by decide +kernel, rfl⟩
theorem dX11_whoOf_1 : Ins mX11_whoOf 1 (.istore_n 3) 1 2 := ⟨by decide +kernel, rfl⟩
theorem dX11_whoOf_2 : Ins mX11_whoOf 2 (.iload_n 3) 1 3 := ⟨by decide +kernel, rfl⟩
theorem dX11_whoOf_3 : Ins mX11_whoOf 3 (.aload_n 0) 1 4 := ⟨by decide +kernel, rfl⟩
theorem dX11_whoOf_4 : GgR mX11_whoOf 4 7 10 0 := ⟨0, rfl, ⟨7, _, by decide +kernel, rfl, rfl, by decide, tb_5 (List.mem_of_getElem? (i := 196) (by decide +kernel)) rfl⟩, by decide, rfl⟩
theorem dX11_whoOf_7 : Ins mX11_whoOf 7 (.iconst 1) 1 8 := ⟨by decide +kernel, rfl⟩
theorem dX11_whoOf_8 : Ins mX11_whoOf 8 (.iaload) 1 9 := ⟨by decide +kernel, rfl⟩
theorem dX11_whoOf_9 : Ins mX11_whoOf 9 (.if_icmp .ge 61) 3 12 := ⟨by decide +kernel, rfl⟩
theorem dX11_whoOf_12 : Ins mX11_whoOf 12 (.iload_n 2) 1 13 := ⟨by decide +kernel, rfl⟩
theorem dX11_whoOf_13 : Ins mX11_whoOf 13 (.iload_n 3) 1 14 := ⟨by decide +kernel, rfl⟩
theorem dX11_whoOf_14 : CalS mX11_whoOf 14 17 mX11_has := ⟨74, by decide +kernel, rfl, Or.inl (tb_6 (List.mem_of_getElem? (i := 135) (by decide +kernel)) rfl), meX11_has⟩
theorem dX11_whoOf_17 : Ins mX11_whoOf 17 (.ifCond .ne 47) 3 20 := ⟨by decide +kernel, rfl⟩
theorem dX11_whoOf_20 : Ins mX11_whoOf 20 (.aload_n 0) 1 21 := ⟨by decide +kernel, rfl⟩
theorem dX11_whoOf_21 : Ins mX11_whoOf 21 (.iload_n 1) 1 22 := ⟨by decide +kernel, rfl⟩
theorem dX11_whoOf_22 : Ins mX11_whoOf 22 (.iload_n 3) 1 23 := ⟨by decide +kernel, rfl⟩
theorem dX11_whoOf_23 : CalV mX11_whoOf 23 26 mX11_isAble := ⟨422, by decide +kernel, rfl, tb_8 (List.mem_of_getElem? (i := 51) (by decide +kernel)) rfl, meX11_isAble⟩
theorem dX11_whoOf_26 : Ins mX11_whoOf 26 (.ifCond .eq 38) 3 29 := ⟨by decide +kernel, rfl⟩
theorem dX11_whoOf_29 : Ins mX11_whoOf 29 (.iconst 1) 1 30 := ⟨by decide +kernel, rfl⟩
theorem dX11_whoOf_30 : Ins mX11_whoOf 30 (.aload_n 0) 1 31 := ⟨by decide +kernel, rfl⟩
theorem dX11_whoOf_31 : GgR mX11_whoOf 31 34 10 28 := ⟨28, rfl, ⟨56, _, by decide +kernel, rfl, rfl, by decide, tb_5 (List.mem_of_getElem? (i := 224) (by decide +kernel)) rfl⟩, by decide, rfl⟩
theorem dX11_whoOf_34 : Ins mX11_whoOf 34 (.bipush 64) 2 36 := ⟨by decide +kernel, rfl⟩
theorem dX11_whoOf_36 : Ins mX11_whoOf 36 (.iload_n 1) 1 37 := ⟨by decide +kernel, rfl⟩
theorem dX11_whoOf_37 : Ins mX11_whoOf 37 (.iconst 1) 1 38 := ⟨by decide +kernel, rfl⟩
theorem dX11_whoOf_38 : Ins mX11_whoOf 38 (.iadd) 1 39 := ⟨by decide +kernel, rfl⟩
theorem dX11_whoOf_39 : Ins mX11_whoOf 39 (.imul) 1 40 := ⟨by decide +kernel, rfl⟩
theorem dX11_whoOf_40 : Ins mX11_whoOf 40 (.iload_n 2) 1 41 := ⟨by decide +kernel, rfl⟩
theorem dX11_whoOf_41 : Ins mX11_whoOf 41 (.iconst 1) 1 42 := ⟨by decide +kernel, rfl⟩
theorem dX11_whoOf_42 : Ins mX11_whoOf 42 (.iload_n 3) 1 43 := ⟨by decide +kernel, rfl⟩
theorem dX11_whoOf_43 : Ins mX11_whoOf 43 (.ishl) 1 44 := ⟨by decide +kernel, rfl⟩
theorem dX11_whoOf_44 : Ins mX11_whoOf 44 (.ior) 1 45 := ⟨by decide +kernel, rfl⟩
theorem dX11_whoOf_45 : Ins mX11_whoOf 45 (.iadd) 1 46 := ⟨by decide +kernel, rfl⟩
theorem dX11_whoOf_46 : Ins mX11_whoOf 46 (.iaload) 1 47 := ⟨by decide +kernel, rfl⟩
theorem dX11_whoOf_47 : Ins mX11_whoOf 47 (.iadd) 1 48 := ⟨by decide +kernel, rfl⟩
theorem dX11_whoOf_48 : Ins mX11_whoOf 48 (.aload_n 0) 1 49 := ⟨by decide +kernel, rfl⟩
theorem dX11_whoOf_49 : GgR mX11_whoOf 49 52 10 28 := ⟨28, rfl, ⟨56, _, by decide +kernel, rfl, rfl, by decide, tb_5 (List.mem_of_getElem? (i := 224) (by decide +kernel)) rfl⟩, by decide, rfl⟩
theorem dX11_whoOf_52 : Ins mX11_whoOf 52 (.bipush 64) 2 54 := ⟨by decide +kernel, rfl⟩
theorem dX11_whoOf_54 : Ins mX11_whoOf 54 (.iload_n 1) 1 55 := ⟨by decide +kernel, rfl⟩
theorem dX11_whoOf_55 : Ins mX11_whoOf 55 (.imul) 1 56 := ⟨by decide +kernel, rfl⟩
theorem dX11_whoOf_56 : Ins mX11_whoOf 56 (.iload_n 2) 1 57 := ⟨by decide +kernel, rfl⟩
theorem dX11_whoOf_57 : Ins mX11_whoOf 57 (.iadd) 1 58 := ⟨by decide +kernel, rfl⟩
theorem dX11_whoOf_58 : Ins mX11_whoOf 58 (.iaload) 1 59 := ⟨by decide +kernel, rfl⟩
theorem dX11_whoOf_59 : Ins mX11_whoOf 59 (.if_icmp .ne 5) 3 62 := ⟨by decide +kernel, rfl⟩
theorem dX11_whoOf_62 : Ins mX11_whoOf 62 (.iload_n 3) 1 63 := ⟨by decide +kernel, rfl⟩
theorem dX11_whoOf_63 : Ins mX11_whoOf 63 (.ireturn) 1 64 := ⟨by decide +kernel, rfl⟩
theorem dX11_whoOf_64 : Ins mX11_whoOf 64 (.iinc 3 1) 3 67 := ⟨by decide +kernel, rfl⟩
theorem dX11_whoOf_67 : Ins mX11_whoOf 67 (.goto (-65)) 3 70 := ⟨by decide +kernel, rfl⟩
theorem dX11_whoOf_70 : Ins mX11_whoOf 70 (.iconst (-1)) 1 71 := ⟨by decide +kernel, rfl⟩
theorem dX11_whoOf_71 : Ins mX11_whoOf 71 (.ireturn) 1 72 := ⟨by decide +kernel, rfl⟩
theorem dX11_manned_0 : Ins mX11_manned 0 (.iload_n 1) 1 1 := ⟨by decide +kernel, rfl⟩
theorem dX11_manned_1 : Ins mX11_manned 1 (.iconst (-1)) 1 2 := ⟨by decide +kernel, rfl⟩
theorem dX11_manned_2 : Ins mX11_manned 2 (.aload_n 0) 1 3 := ⟨by decide +kernel, rfl⟩
theorem dX11_manned_3 : GgR mX11_manned 3 6 10 0 := ⟨0, rfl, ⟨7, _, by decide +kernel, rfl, rfl, by decide, tb_5 (List.mem_of_getElem? (i := 196) (by decide +kernel)) rfl⟩, by decide, rfl⟩
theorem dX11_manned_6 : Ins mX11_manned 6 (.bipush 6) 2 8 := ⟨by decide +kernel, rfl⟩
theorem dX11_manned_8 : Ins mX11_manned 8 (.iaload) 1 9 := ⟨by decide +kernel, rfl⟩
theorem dX11_manned_9 : Ins mX11_manned 9 (.iconst 1) 1 10 := ⟨by decide +kernel, rfl⟩
theorem dX11_manned_10 : Ins mX11_manned 10 (.isub) 1 11 := ⟨by decide +kernel, rfl⟩
theorem dX11_manned_11 : CalS mX11_manned 11 14 mX11_isIn := ⟨63, by decide +kernel, rfl, Or.inl (tb_6 (List.mem_of_getElem? (i := 50) (by decide +kernel)) rfl), meX11_isIn⟩
theorem dX11_manned_14 : Ins mX11_manned 14 (.ifCond .ne 6) 3 17 := ⟨by decide +kernel, rfl⟩
theorem dX11_manned_17 : Ins mX11_manned 17 (.bipush (-2)) 2 19 := ⟨by decide +kernel, rfl⟩
theorem dX11_manned_19 : Ins mX11_manned 19 (.ireturn) 1 20 := ⟨by decide +kernel, rfl⟩
theorem dX11_manned_20 : Ins mX11_manned 20 (.aload_n 0) 1 21 := ⟨by decide +kernel, rfl⟩
theorem dX11_manned_21 : CalV mX11_manned 21 24 mX11_layWatches := ⟨425, by decide +kernel, rfl, tb_8 (List.mem_of_getElem? (i := 47) (by decide +kernel)) rfl, meX11_layWatches⟩
theorem dX11_manned_24 : Ins mX11_manned 24 (.iload_n 1) 1 25 := ⟨by decide +kernel, rfl⟩
theorem dX11_manned_25 : Ins mX11_manned 25 (.iconst (-1)) 1 26 := ⟨by decide +kernel, rfl⟩
theorem dX11_manned_26 : Ins mX11_manned 26 (.if_icmp .ne 10) 3 29 := ⟨by decide +kernel, rfl⟩
theorem dX11_manned_29 : Ins mX11_manned 29 (.aload_n 0) 1 30 := ⟨by decide +kernel, rfl⟩
theorem dX11_manned_30 : GgR mX11_manned 30 33 10 28 := ⟨28, rfl, ⟨56, _, by decide +kernel, rfl, rfl, by decide, tb_5 (List.mem_of_getElem? (i := 224) (by decide +kernel)) rfl⟩, by decide, rfl⟩
theorem dX11_manned_33 : Ins mX11_manned 33 (.iconst 0) 1 34 := ⟨by decide +kernel, rfl⟩
theorem dX11_manned_34 : Ins mX11_manned 34 (.iaload) 1 35 := ⟨by decide +kernel, rfl⟩
theorem dX11_manned_35 : Ins mX11_manned 35 (.ireturn) 1 36 := ⟨by decide +kernel, rfl⟩
theorem dX11_manned_36 : Ins mX11_manned 36 (.iconst 0) 1 37 := ⟨by decide +kernel, rfl⟩
theorem dX11_manned_37 : Ins mX11_manned 37 (.istore_n 2) 1 38 := ⟨by decide +kernel, rfl⟩
theorem dX11_manned_38 : Ins mX11_manned 38 (.iconst (-1)) 1 39 := ⟨by decide +kernel, rfl⟩
theorem dX11_manned_39 : Ins mX11_manned 39 (.istore_n 3) 1 40 := ⟨by decide +kernel, rfl⟩
theorem dX11_manned_40 : Ins mX11_manned 40 (.iconst 0) 1 41 := ⟨by decide +kernel, rfl⟩
theorem dX11_manned_41 : Ins mX11_manned 41 (.istore 4) 2 43 := ⟨by decide +kernel, rfl⟩
theorem dX11_manned_43 : Ins mX11_manned 43 (.iload 4) 2 45 := ⟨by decide +kernel, rfl⟩
theorem dX11_manned_45 : Ins mX11_manned 45 (.iload_n 1) 1 46 := ⟨by decide +kernel, rfl⟩
theorem dX11_manned_46 : Ins mX11_manned 46 (.if_icmp .gt 28) 3 49 := ⟨by decide +kernel, rfl⟩
theorem dX11_manned_49 : Ins mX11_manned 49 (.aload_n 0) 1 50 := ⟨by decide +kernel, rfl⟩
theorem dX11_manned_50 : Ins mX11_manned 50 (.iload 4) 2 52 := ⟨by decide +kernel, rfl⟩
theorem dX11_manned_52 : Ins mX11_manned 52 (.iload_n 2) 1 53 := ⟨by decide +kernel, rfl⟩
theorem dX11_manned_53 : CalV mX11_manned 53 56 mX11_whoOf := ⟨428, by decide +kernel, rfl, tb_8 (List.mem_of_getElem? (i := 55) (by decide +kernel)) rfl, meX11_whoOf⟩
theorem dX11_manned_56 : Ins mX11_manned 56 (.istore_n 3) 1 57 := ⟨by decide +kernel, rfl⟩
theorem dX11_manned_57 : Ins mX11_manned 57 (.iload_n 3) 1 58 := ⟨by decide +kernel, rfl⟩
theorem dX11_manned_58 : Ins mX11_manned 58 (.iconst (-1)) 1 59 := ⟨by decide +kernel, rfl⟩
theorem dX11_manned_59 : Ins mX11_manned 59 (.if_icmp .eq 9) 3 62 := ⟨by decide +kernel, rfl⟩
theorem dX11_manned_62 : Ins mX11_manned 62 (.iload_n 2) 1 63 := ⟨by decide +kernel, rfl⟩
theorem dX11_manned_63 : Ins mX11_manned 63 (.iconst 1) 1 64 := ⟨by decide +kernel, rfl⟩
theorem dX11_manned_64 : Ins mX11_manned 64 (.iload_n 3) 1 65 := ⟨by decide +kernel, rfl⟩
theorem dX11_manned_65 : Ins mX11_manned 65 (.ishl) 1 66 := ⟨by decide +kernel, rfl⟩
theorem dX11_manned_66 : Ins mX11_manned 66 (.ior) 1 67 := ⟨by decide +kernel, rfl⟩
theorem dX11_manned_67 : Ins mX11_manned 67 (.istore_n 2) 1 68 := ⟨by decide +kernel, rfl⟩
theorem dX11_manned_68 : Ins mX11_manned 68 (.iinc 4 1) 3 71 := ⟨by decide +kernel, rfl⟩
theorem dX11_manned_71 : Ins mX11_manned 71 (.goto (-28)) 3 74 := ⟨by decide +kernel, rfl⟩
theorem dX11_manned_74 : Ins mX11_manned 74 (.iload_n 3) 1 75 := ⟨by decide +kernel, rfl⟩
theorem dX11_manned_75 : Ins mX11_manned 75 (.ireturn) 1 76 := ⟨by decide +kernel, rfl⟩
theorem dX11_part_0 : Ins mX11_part 0 (.iload 4) 2 2 := ⟨by decide +kernel, rfl⟩
theorem dX11_part_2 : Ins mX11_part 2 (.ifCond .eq 7) 3 5 := ⟨by decide +kernel, rfl⟩
theorem dX11_part_5 : Ins mX11_part 5 (.lload_n 2) 1 6 := ⟨by decide +kernel, rfl⟩
theorem dX11_part_6 : Ins mX11_part 6 (.goto 4) 3 9 := ⟨by decide +kernel, rfl⟩
theorem dX11_part_9 : Ins mX11_part 9 (.lload_n 0) 1 10 := ⟨by decide +kernel, rfl⟩
theorem dX11_part_10 : Ins mX11_part 10 (.lload_n 0) 1 11 := ⟨by decide +kernel, rfl⟩
theorem dX11_part_11 : Ins mX11_part 11 (.lload_n 2) 1 12 := ⟨by decide +kernel, rfl⟩
theorem dX11_part_12 : CalS mX11_part 12 15 mX11_common := ⟨274, by decide +kernel, rfl, Or.inl (tb_7 (List.mem_of_getElem? (i := 113) (by decide +kernel)) rfl), meX11_common⟩
theorem dX11_part_15 : Ins mX11_part 15 (.ldiv) 1 16 := ⟨by decide +kernel, rfl⟩
theorem dX11_part_16 : Ins mX11_part 16 (.lreturn) 1 17 := ⟨by decide +kernel, rfl⟩
theorem dX11_power_0 : Ins mX11_power 0 (.lconst 1) 1 1 := ⟨by decide +kernel, rfl⟩
theorem dX11_power_1 : Ins mX11_power 1 (.lstore_n 2) 1 2 := ⟨by decide +kernel, rfl⟩
theorem dX11_power_2 : Ins mX11_power 2 (.iconst 0) 1 3 := ⟨by decide +kernel, rfl⟩
theorem dX11_power_3 : Ins mX11_power 3 (.istore 4) 2 5 := ⟨by decide +kernel, rfl⟩
theorem dX11_power_5 : Ins mX11_power 5 (.iload 4) 2 7 := ⟨by decide +kernel, rfl⟩
theorem dX11_power_7 : Ins mX11_power 7 (.iload_n 1) 1 8 := ⟨by decide +kernel, rfl⟩
theorem dX11_power_8 : Ins mX11_power 8 (.if_icmp .ge 14) 3 11 := ⟨by decide +kernel, rfl⟩
theorem dX11_power_11 : Ins mX11_power 11 (.lload_n 2) 1 12 := ⟨by decide +kernel, rfl⟩
theorem dX11_power_12 : Ins mX11_power 12 (.iload_n 0) 1 13 := ⟨by decide +kernel, rfl⟩
theorem dX11_power_13 : Ins mX11_power 13 (.i2l) 1 14 := ⟨by decide +kernel, rfl⟩
theorem dX11_power_14 : Ins mX11_power 14 (.lmul) 1 15 := ⟨by decide +kernel, rfl⟩
theorem dX11_power_15 : Ins mX11_power 15 (.lstore_n 2) 1 16 := ⟨by decide +kernel, rfl⟩
theorem dX11_power_16 : Ins mX11_power 16 (.iinc 4 1) 3 19 := ⟨by decide +kernel, rfl⟩
theorem dX11_power_19 : Ins mX11_power 19 (.goto (-14)) 3 22 := ⟨by decide +kernel, rfl⟩
theorem dX11_power_22 : Ins mX11_power 22 (.lload_n 2) 1 23 := ⟨by decide +kernel, rfl⟩
theorem dX11_power_23 : Ins mX11_power 23 (.lreturn) 1 24 := ⟨by decide +kernel, rfl⟩
theorem dX11_ways_0 : Ins mX11_ways 0 (.iload_n 1) 1 1 := ⟨by decide +kernel, rfl⟩
theorem dX11_ways_1 : Ins mX11_ways 1 (.iload_n 0) 1 2 := ⟨by decide +kernel, rfl⟩
theorem dX11_ways_2 : Ins mX11_ways 2 (.if_icmp .le 7) 3 5 := ⟨by decide +kernel, rfl⟩
theorem dX11_ways_5 : Ins mX11_ways 5 (.lconst 0) 1 6 := ⟨by decide +kernel, rfl⟩
theorem dX11_ways_6 : Ins mX11_ways 6 (.goto 4) 3 9 := ⟨by decide +kernel, rfl⟩
theorem dX11_ways_9 : Ins mX11_ways 9 (.lconst 1) 1 10 := ⟨by decide +kernel, rfl⟩
theorem dX11_ways_10 : Ins mX11_ways 10 (.lstore_n 2) 1 11 := ⟨by decide +kernel, rfl⟩
theorem dX11_ways_11 : Ins mX11_ways 11 (.iconst 0) 1 12 := ⟨by decide +kernel, rfl⟩
theorem dX11_ways_12 : Ins mX11_ways 12 (.istore 4) 2 14 := ⟨by decide +kernel, rfl⟩
theorem dX11_ways_14 : Ins mX11_ways 14 (.iload 4) 2 16 := ⟨by decide +kernel, rfl⟩
theorem dX11_ways_16 : Ins mX11_ways 16 (.iload_n 1) 1 17 := ⟨by decide +kernel, rfl⟩
theorem dX11_ways_17 : Ins mX11_ways 17 (.if_icmp .ge 28) 3 20 := ⟨by decide +kernel, rfl⟩
theorem dX11_ways_20 : Ins mX11_ways 20 (.iload_n 1) 1 21 := ⟨by decide +kernel, rfl⟩
theorem dX11_ways_21 : Ins mX11_ways 21 (.iload_n 0) 1 22 := ⟨by decide +kernel, rfl⟩
theorem dX11_ways_22 : Ins mX11_ways 22 (.if_icmp .gt 23) 3 25 := ⟨by decide +kernel, rfl⟩
theorem dX11_ways_25 : Ins mX11_ways 25 (.lload_n 2) 1 26 := ⟨by decide +kernel, rfl⟩
theorem dX11_ways_26 : Ins mX11_ways 26 (.iload_n 0) 1 27 := ⟨by decide +kernel, rfl⟩
theorem dX11_ways_27 : Ins mX11_ways 27 (.iload 4) 2 29 := ⟨by decide +kernel, rfl⟩
theorem dX11_ways_29 : Ins mX11_ways 29 (.isub) 1 30 := ⟨by decide +kernel, rfl⟩
theorem dX11_ways_30 : Ins mX11_ways 30 (.i2l) 1 31 := ⟨by decide +kernel, rfl⟩
theorem dX11_ways_31 : Ins mX11_ways 31 (.lmul) 1 32 := ⟨by decide +kernel, rfl⟩
theorem dX11_ways_32 : Ins mX11_ways 32 (.iload 4) 2 34 := ⟨by decide +kernel, rfl⟩
theorem dX11_ways_34 : Ins mX11_ways 34 (.iconst 1) 1 35 := ⟨by decide +kernel, rfl⟩
theorem dX11_ways_35 : Ins mX11_ways 35 (.iadd) 1 36 := ⟨by decide +kernel, rfl⟩
theorem dX11_ways_36 : Ins mX11_ways 36 (.i2l) 1 37 := ⟨by decide +kernel, rfl⟩
theorem dX11_ways_37 : Ins mX11_ways 37 (.ldiv) 1 38 := ⟨by decide +kernel, rfl⟩
theorem dX11_ways_38 : Ins mX11_ways 38 (.lstore_n 2) 1 39 := ⟨by decide +kernel, rfl⟩
theorem dX11_ways_39 : Ins mX11_ways 39 (.iinc 4 1) 3 42 := ⟨by decide +kernel, rfl⟩
theorem dX11_ways_42 : Ins mX11_ways 42 (.goto (-28)) 3 45 := ⟨by decide +kernel, rfl⟩
theorem dX11_ways_45 : Ins mX11_ways 45 (.lload_n 2) 1 46 := ⟨by decide +kernel, rfl⟩
theorem dX11_ways_46 : Ins mX11_ways 46 (.lreturn) 1 47 := ⟨by decide +kernel, rfl⟩
theorem dX11_below_0 : Ins mX11_below 0 (.iload_n 1) 1 1 := ⟨by decide +kernel, rfl⟩
theorem dX11_below_1 : Ins mX11_below 1 (.iconst 1) 1 2 := ⟨by decide +kernel, rfl⟩
theorem dX11_below_2 : Ins mX11_below 2 (.bipush 9) 2 4 := ⟨by decide +kernel, rfl⟩
theorem dX11_below_4 : CalS mX11_below 4 7 mX11_isIn := ⟨63, by decide +kernel, rfl, Or.inl (tb_6 (List.mem_of_getElem? (i := 50) (by decide +kernel)) rfl), meX11_isIn⟩
theorem dX11_below_7 : Ins mX11_below 7 (.ifCond .eq 23) 3 10 := ⟨by decide +kernel, rfl⟩
theorem dX11_below_10 : Ins mX11_below 10 (.iload_n 2) 1 11 := ⟨by decide +kernel, rfl⟩
theorem dX11_below_11 : Ins mX11_below 11 (.iconst 0) 1 12 := ⟨by decide +kernel, rfl⟩
theorem dX11_below_12 : Ins mX11_below 12 (.bipush 9) 2 14 := ⟨by decide +kernel, rfl⟩
theorem dX11_below_14 : CalS mX11_below 14 17 mX11_isIn := ⟨63, by decide +kernel, rfl, Or.inl (tb_6 (List.mem_of_getElem? (i := 50) (by decide +kernel)) rfl), meX11_isIn⟩
theorem dX11_below_17 : Ins mX11_below 17 (.ifCond .eq 13) 3 20 := ⟨by decide +kernel, rfl⟩
theorem dX11_below_20 : Ins mX11_below 20 (.iload_n 3) 1 21 := ⟨by decide +kernel, rfl⟩
theorem dX11_below_21 : Ins mX11_below 21 (.iconst 0) 1 22 := ⟨by decide +kernel, rfl⟩
theorem dX11_below_22 : Ins mX11_below 22 (.bipush 9) 2 24 := ⟨by decide +kernel, rfl⟩
theorem dX11_below_24 : CalS mX11_below 24 27 mX11_isIn := ⟨63, by decide +kernel, rfl, Or.inl (tb_6 (List.mem_of_getElem? (i := 50) (by decide +kernel)) rfl), meX11_isIn⟩
theorem dX11_below_27 : Ins mX11_below 27 (.ifCond .ne 7) 3 30 := ⟨by decide +kernel, rfl⟩
theorem dX11_below_30 : LdcL mX11_below 30 33 (-1) := ⟨264, _, by decide +kernel, rfl, tb_7 (List.mem_of_getElem? (i := 104) (by decide +kernel)) rfl, rfl⟩
theorem dX11_below_33 : Ins mX11_below 33 (.lreturn) 1 34 := ⟨by decide +kernel, rfl⟩
theorem dX11_below_34 : Ins mX11_below 34 (.lconst 0) 1 35 := ⟨by decide +kernel, rfl⟩
theorem dX11_below_35 : Ins mX11_below 35 (.lstore 5) 2 37 := ⟨by decide +kernel, rfl⟩
theorem dX11_below_37 : Ins mX11_below 37 (.lconst 0) 1 38 := ⟨by decide +kernel, rfl⟩
theorem dX11_below_38 : Ins mX11_below 38 (.lstore 7) 2 40 := ⟨by decide +kernel, rfl⟩
theorem dX11_below_40 : Ins mX11_below 40 (.iload_n 2) 1 41 := ⟨by decide +kernel, rfl⟩
theorem dX11_below_41 : Ins mX11_below 41 (.istore 9) 2 43 := ⟨by decide +kernel, rfl⟩
theorem dX11_below_43 : Ins mX11_below 43 (.iload 9) 2 45 := ⟨by decide +kernel, rfl⟩
theorem dX11_below_45 : Ins mX11_below 45 (.bipush 10) 2 47 := ⟨by decide +kernel, rfl⟩
theorem dX11_below_47 : Ins mX11_below 47 (.if_icmp .ge 70) 3 50 := ⟨by decide +kernel, rfl⟩
theorem dX11_below_50 : Ins mX11_below 50 (.iload 9) 2 52 := ⟨by decide +kernel, rfl⟩
theorem dX11_below_52 : Ins mX11_below 52 (.iload_n 2) 1 53 := ⟨by decide +kernel, rfl⟩
theorem dX11_below_53 : CalS mX11_below 53 56 mX11_ways := ⟨431, by decide +kernel, rfl, Or.inl (tb_8 (List.mem_of_getElem? (i := 63) (by decide +kernel)) rfl), meX11_ways⟩
theorem dX11_below_56 : Ins mX11_below 56 (.iload_n 1) 1 57 := ⟨by decide +kernel, rfl⟩
theorem dX11_below_57 : Ins mX11_below 57 (.iload_n 2) 1 58 := ⟨by decide +kernel, rfl⟩
theorem dX11_below_58 : CalS mX11_below 58 61 mX11_power := ⟨434, by decide +kernel, rfl, Or.inl (tb_8 (List.mem_of_getElem? (i := 66) (by decide +kernel)) rfl), meX11_power⟩
theorem dX11_below_61 : Ins mX11_below 61 (.lmul) 1 62 := ⟨by decide +kernel, rfl⟩
theorem dX11_below_62 : Ins mX11_below 62 (.bipush 10) 2 64 := ⟨by decide +kernel, rfl⟩
theorem dX11_below_64 : Ins mX11_below 64 (.iload_n 1) 1 65 := ⟨by decide +kernel, rfl⟩
theorem dX11_below_65 : Ins mX11_below 65 (.isub) 1 66 := ⟨by decide +kernel, rfl⟩
theorem dX11_below_66 : Ins mX11_below 66 (.iload 9) 2 68 := ⟨by decide +kernel, rfl⟩
theorem dX11_below_68 : Ins mX11_below 68 (.iload_n 2) 1 69 := ⟨by decide +kernel, rfl⟩
theorem dX11_below_69 : Ins mX11_below 69 (.isub) 1 70 := ⟨by decide +kernel, rfl⟩
theorem dX11_below_70 : CalS mX11_below 70 73 mX11_power := ⟨434, by decide +kernel, rfl, Or.inl (tb_8 (List.mem_of_getElem? (i := 66) (by decide +kernel)) rfl), meX11_power⟩
theorem dX11_below_73 : Ins mX11_below 73 (.lmul) 1 74 := ⟨by decide +kernel, rfl⟩
theorem dX11_below_74 : Ins mX11_below 74 (.bipush 10) 2 76 := ⟨by decide +kernel, rfl⟩
theorem dX11_below_76 : Ins mX11_below 76 (.bipush 9) 2 78 := ⟨by decide +kernel, rfl⟩
theorem dX11_below_78 : Ins mX11_below 78 (.iload 9) 2 80 := ⟨by decide +kernel, rfl⟩
theorem dX11_below_80 : Ins mX11_below 80 (.isub) 1 81 := ⟨by decide +kernel, rfl⟩
theorem dX11_below_81 : CalS mX11_below 81 84 mX11_power := ⟨434, by decide +kernel, rfl, Or.inl (tb_8 (List.mem_of_getElem? (i := 66) (by decide +kernel)) rfl), meX11_power⟩
theorem dX11_below_84 : Ins mX11_below 84 (.lmul) 1 85 := ⟨by decide +kernel, rfl⟩
theorem dX11_below_85 : Ins mX11_below 85 (.lstore 10) 2 87 := ⟨by decide +kernel, rfl⟩
theorem dX11_below_87 : Ins mX11_below 87 (.lload 5) 2 89 := ⟨by decide +kernel, rfl⟩
theorem dX11_below_89 : Ins mX11_below 89 (.lload 10) 2 91 := ⟨by decide +kernel, rfl⟩
theorem dX11_below_91 : Ins mX11_below 91 (.ladd) 1 92 := ⟨by decide +kernel, rfl⟩
theorem dX11_below_92 : Ins mX11_below 92 (.lstore 5) 2 94 := ⟨by decide +kernel, rfl⟩
theorem dX11_below_94 : Ins mX11_below 94 (.lload 7) 2 96 := ⟨by decide +kernel, rfl⟩
theorem dX11_below_96 : Ins mX11_below 96 (.iload 9) 2 98 := ⟨by decide +kernel, rfl⟩
theorem dX11_below_98 : Ins mX11_below 98 (.iload_n 3) 1 99 := ⟨by decide +kernel, rfl⟩
theorem dX11_below_99 : Ins mX11_below 99 (.if_icmp .ne 8) 3 102 := ⟨by decide +kernel, rfl⟩
theorem dX11_below_102 : Ins mX11_below 102 (.lload 10) 2 104 := ⟨by decide +kernel, rfl⟩
theorem dX11_below_104 : Ins mX11_below 104 (.goto 4) 3 107 := ⟨by decide +kernel, rfl⟩
theorem dX11_below_107 : Ins mX11_below 107 (.lconst 0) 1 108 := ⟨by decide +kernel, rfl⟩
theorem dX11_below_108 : Ins mX11_below 108 (.ladd) 1 109 := ⟨by decide +kernel, rfl⟩
theorem dX11_below_109 : Ins mX11_below 109 (.lstore 7) 2 111 := ⟨by decide +kernel, rfl⟩
theorem dX11_below_111 : Ins mX11_below 111 (.iinc 9 1) 3 114 := ⟨by decide +kernel, rfl⟩
theorem dX11_below_114 : Ins mX11_below 114 (.goto (-71)) 3 117 := ⟨by decide +kernel, rfl⟩
theorem dX11_below_117 : Ins mX11_below 117 (.lload 7) 2 119 := ⟨by decide +kernel, rfl⟩
theorem dX11_below_119 : Ins mX11_below 119 (.lload 5) 2 121 := ⟨by decide +kernel, rfl⟩
theorem dX11_below_121 : Ins mX11_below 121 (.iload 4) 2 123 := ⟨by decide +kernel, rfl⟩
theorem dX11_below_123 : CalS mX11_below 123 126 mX11_part := ⟨437, by decide +kernel, rfl, Or.inl (tb_8 (List.mem_of_getElem? (i := 69) (by decide +kernel)) rfl), meX11_part⟩
theorem dX11_below_126 : Ins mX11_below 126 (.lreturn) 1 127 := ⟨by decide +kernel, rfl⟩
theorem dX11_gale_0 : Ins mX11_gale 0 (.iload_n 1) 1 1 := ⟨by decide +kernel, rfl⟩
theorem dX11_gale_1 : Ins mX11_gale 1 (.iconst 0) 1 2 := ⟨by decide +kernel, rfl⟩
theorem dX11_gale_2 : Ins mX11_gale 2 (.aload_n 0) 1 3 := ⟨by decide +kernel, rfl⟩
theorem dX11_gale_3 : CalV mX11_gale 3 6 mX11_all := ⟨401, by decide +kernel, rfl, tb_7 (List.mem_of_getElem? (i := 215) (by decide +kernel)) rfl, meX11_all⟩
theorem dX11_gale_6 : CalS mX11_gale 6 9 mX11_isIn := ⟨63, by decide +kernel, rfl, Or.inl (tb_6 (List.mem_of_getElem? (i := 50) (by decide +kernel)) rfl), meX11_isIn⟩
theorem dX11_gale_9 : Ins mX11_gale 9 (.ifCond .eq 23) 3 12 := ⟨by decide +kernel, rfl⟩
theorem dX11_gale_12 : Ins mX11_gale 12 (.iload_n 2) 1 13 := ⟨by decide +kernel, rfl⟩
theorem dX11_gale_13 : Ins mX11_gale 13 (.iconst 0) 1 14 := ⟨by decide +kernel, rfl⟩
theorem dX11_gale_14 : Ins mX11_gale 14 (.bipush 10) 2 16 := ⟨by decide +kernel, rfl⟩
theorem dX11_gale_16 : CalS mX11_gale 16 19 mX11_isIn := ⟨63, by decide +kernel, rfl, Or.inl (tb_6 (List.mem_of_getElem? (i := 50) (by decide +kernel)) rfl), meX11_isIn⟩
theorem dX11_gale_19 : Ins mX11_gale 19 (.ifCond .eq 13) 3 22 := ⟨by decide +kernel, rfl⟩
theorem dX11_gale_22 : Ins mX11_gale 22 (.iload_n 3) 1 23 := ⟨by decide +kernel, rfl⟩
theorem dX11_gale_23 : Ins mX11_gale 23 (.iconst 0) 1 24 := ⟨by decide +kernel, rfl⟩
theorem dX11_gale_24 : Ins mX11_gale 24 (.bipush 8) 2 26 := ⟨by decide +kernel, rfl⟩
theorem dX11_gale_26 : CalS mX11_gale 26 29 mX11_isIn := ⟨63, by decide +kernel, rfl, Or.inl (tb_6 (List.mem_of_getElem? (i := 50) (by decide +kernel)) rfl), meX11_isIn⟩
theorem dX11_gale_29 : Ins mX11_gale 29 (.ifCond .ne 7) 3 32 := ⟨by decide +kernel, rfl⟩
theorem dX11_gale_32 : LdcL mX11_gale 32 35 (-1) := ⟨264, _, by decide +kernel, rfl, tb_7 (List.mem_of_getElem? (i := 104) (by decide +kernel)) rfl, rfl⟩
theorem dX11_gale_35 : Ins mX11_gale 35 (.lreturn) 1 36 := ⟨by decide +kernel, rfl⟩
theorem dX11_gale_36 : Ins mX11_gale 36 (.iload_n 1) 1 37 := ⟨by decide +kernel, rfl⟩
theorem dX11_gale_37 : CalS mX11_gale 37 40 mX11_bits := ⟨302, by decide +kernel, rfl, Or.inl (tb_7 (List.mem_of_getElem? (i := 77) (by decide +kernel)) rfl), meX11_bits⟩
theorem dX11_gale_40 : Ins mX11_gale 40 (.istore 5) 2 42 := ⟨by decide +kernel, rfl⟩
theorem dX11_gale_42 : Ins mX11_gale 42 (.lconst 0) 1 43 := ⟨by decide +kernel, rfl⟩
theorem dX11_gale_43 : Ins mX11_gale 43 (.lstore 6) 2 45 := ⟨by decide +kernel, rfl⟩
theorem dX11_gale_45 : Ins mX11_gale 45 (.iload_n 3) 1 46 := ⟨by decide +kernel, rfl⟩
theorem dX11_gale_46 : Ins mX11_gale 46 (.istore 8) 2 48 := ⟨by decide +kernel, rfl⟩
theorem dX11_gale_48 : Ins mX11_gale 48 (.iload 8) 2 50 := ⟨by decide +kernel, rfl⟩
theorem dX11_gale_50 : Ins mX11_gale 50 (.iload 5) 2 52 := ⟨by decide +kernel, rfl⟩
theorem dX11_gale_52 : Ins mX11_gale 52 (.if_icmp .gt 41) 3 55 := ⟨by decide +kernel, rfl⟩
theorem dX11_gale_55 : Ins mX11_gale 55 (.lload 6) 2 57 := ⟨by decide +kernel, rfl⟩
theorem dX11_gale_57 : Ins mX11_gale 57 (.iload 5) 2 59 := ⟨by decide +kernel, rfl⟩
theorem dX11_gale_59 : Ins mX11_gale 59 (.iload 8) 2 61 := ⟨by decide +kernel, rfl⟩
theorem dX11_gale_61 : CalS mX11_gale 61 64 mX11_ways := ⟨431, by decide +kernel, rfl, Or.inl (tb_8 (List.mem_of_getElem? (i := 63) (by decide +kernel)) rfl), meX11_ways⟩
theorem dX11_gale_64 : Ins mX11_gale 64 (.bipush 10) 2 66 := ⟨by decide +kernel, rfl⟩
theorem dX11_gale_66 : Ins mX11_gale 66 (.iload_n 2) 1 67 := ⟨by decide +kernel, rfl⟩
theorem dX11_gale_67 : Ins mX11_gale 67 (.isub) 1 68 := ⟨by decide +kernel, rfl⟩
theorem dX11_gale_68 : Ins mX11_gale 68 (.iload 8) 2 70 := ⟨by decide +kernel, rfl⟩
theorem dX11_gale_70 : CalS mX11_gale 70 73 mX11_power := ⟨434, by decide +kernel, rfl, Or.inl (tb_8 (List.mem_of_getElem? (i := 66) (by decide +kernel)) rfl), meX11_power⟩
theorem dX11_gale_73 : Ins mX11_gale 73 (.lmul) 1 74 := ⟨by decide +kernel, rfl⟩
theorem dX11_gale_74 : Ins mX11_gale 74 (.iload_n 2) 1 75 := ⟨by decide +kernel, rfl⟩
theorem dX11_gale_75 : Ins mX11_gale 75 (.iload 5) 2 77 := ⟨by decide +kernel, rfl⟩
theorem dX11_gale_77 : Ins mX11_gale 77 (.iload 8) 2 79 := ⟨by decide +kernel, rfl⟩
theorem dX11_gale_79 : Ins mX11_gale 79 (.isub) 1 80 := ⟨by decide +kernel, rfl⟩
theorem dX11_gale_80 : CalS mX11_gale 80 83 mX11_power := ⟨434, by decide +kernel, rfl, Or.inl (tb_8 (List.mem_of_getElem? (i := 66) (by decide +kernel)) rfl), meX11_power⟩
theorem dX11_gale_83 : Ins mX11_gale 83 (.lmul) 1 84 := ⟨by decide +kernel, rfl⟩
theorem dX11_gale_84 : Ins mX11_gale 84 (.ladd) 1 85 := ⟨by decide +kernel, rfl⟩
theorem dX11_gale_85 : Ins mX11_gale 85 (.lstore 6) 2 87 := ⟨by decide +kernel, rfl⟩
theorem dX11_gale_87 : Ins mX11_gale 87 (.iinc 8 1) 3 90 := ⟨by decide +kernel, rfl⟩
theorem dX11_gale_90 : Ins mX11_gale 90 (.goto (-42)) 3 93 := ⟨by decide +kernel, rfl⟩
theorem dX11_gale_93 : Ins mX11_gale 93 (.lload 6) 2 95 := ⟨by decide +kernel, rfl⟩
theorem dX11_gale_95 : Ins mX11_gale 95 (.bipush 10) 2 97 := ⟨by decide +kernel, rfl⟩
theorem dX11_gale_97 : Ins mX11_gale 97 (.iload 5) 2 99 := ⟨by decide +kernel, rfl⟩
theorem dX11_gale_99 : CalS mX11_gale 99 102 mX11_power := ⟨434, by decide +kernel, rfl, Or.inl (tb_8 (List.mem_of_getElem? (i := 66) (by decide +kernel)) rfl), meX11_power⟩
theorem dX11_gale_102 : Ins mX11_gale 102 (.iload 4) 2 104 := ⟨by decide +kernel, rfl⟩
theorem dX11_gale_104 : CalS mX11_gale 104 107 mX11_part := ⟨437, by decide +kernel, rfl, Or.inl (tb_8 (List.mem_of_getElem? (i := 69) (by decide +kernel)) rfl), meX11_part⟩
theorem dX11_gale_107 : Ins mX11_gale 107 (.lreturn) 1 108 := ⟨by decide +kernel, rfl⟩
theorem dX11_ropes_0 : Ins mX11_ropes 0 (.iload_n 1) 1 1 := ⟨by decide +kernel, rfl⟩
theorem dX11_ropes_1 : Ins mX11_ropes 1 (.iconst 0) 1 2 := ⟨by decide +kernel, rfl⟩
theorem dX11_ropes_2 : Ins mX11_ropes 2 (.bipush 8) 2 4 := ⟨by decide +kernel, rfl⟩
theorem dX11_ropes_4 : CalS mX11_ropes 4 7 mX11_isIn := ⟨63, by decide +kernel, rfl, Or.inl (tb_6 (List.mem_of_getElem? (i := 50) (by decide +kernel)) rfl), meX11_isIn⟩
theorem dX11_ropes_7 : Ins mX11_ropes 7 (.ifCond .ne 5) 3 10 := ⟨by decide +kernel, rfl⟩
theorem dX11_ropes_10 : Ins mX11_ropes 10 (.iconst (-1)) 1 11 := ⟨by decide +kernel, rfl⟩
theorem dX11_ropes_11 : Ins mX11_ropes 11 (.ireturn) 1 12 := ⟨by decide +kernel, rfl⟩
theorem dX11_ropes_12 : Ins mX11_ropes 12 (.iconst 0) 1 13 := ⟨by decide +kernel, rfl⟩
theorem dX11_ropes_13 : Ins mX11_ropes 13 (.istore_n 2) 1 14 := ⟨by decide +kernel, rfl⟩
theorem dX11_ropes_14 : Ins mX11_ropes 14 (.iconst 0) 1 15 := ⟨by decide +kernel, rfl⟩
theorem dX11_ropes_15 : Ins mX11_ropes 15 (.istore_n 3) 1 16 := ⟨by decide +kernel, rfl⟩
theorem dX11_ropes_16 : Ins mX11_ropes 16 (.iload_n 3) 1 17 := ⟨by decide +kernel, rfl⟩
theorem dX11_ropes_17 : Ins mX11_ropes 17 (.aload_n 0) 1 18 := ⟨by decide +kernel, rfl⟩
theorem dX11_ropes_18 : GgR mX11_ropes 18 21 10 0 := ⟨0, rfl, ⟨7, _, by decide +kernel, rfl, rfl, by decide, tb_5 (List.mem_of_getElem? (i := 196) (by decide +kernel)) rfl⟩, by decide, rfl⟩
theorem dX11_ropes_21 : Ins mX11_ropes 21 (.iconst 0) 1 22 := ⟨by decide +kernel, rfl⟩
theorem dX11_ropes_22 : Ins mX11_ropes 22 (.iaload) 1 23 := ⟨by decide +kernel, rfl⟩
theorem dX11_ropes_23 : Ins mX11_ropes 23 (.if_icmp .ge 28) 3 26 := ⟨by decide +kernel, rfl⟩
theorem dX11_ropes_26 : Ins mX11_ropes 26 (.iload_n 2) 1 27 := ⟨by decide +kernel, rfl⟩
theorem dX11_ropes_27 : Ins mX11_ropes 27 (.aload_n 0) 1 28 := ⟨by decide +kernel, rfl⟩
theorem dX11_ropes_28 : Ins mX11_ropes 28 (.iload_n 3) 1 29 := ⟨by decide +kernel, rfl⟩
theorem dX11_ropes_29 : CalV mX11_ropes 29 32 mX11_riderOf := ⟨81, by decide +kernel, rfl, tb_7 (List.mem_of_getElem? (i := 17) (by decide +kernel)) rfl, meX11_riderOf⟩
theorem dX11_ropes_32 : Ins mX11_ropes 32 (.iconst (-1)) 1 33 := ⟨by decide +kernel, rfl⟩
theorem dX11_ropes_33 : Ins mX11_ropes 33 (.if_icmp .eq 9) 3 36 := ⟨by decide +kernel, rfl⟩
theorem dX11_ropes_36 : Ins mX11_ropes 36 (.iconst 1) 1 37 := ⟨by decide +kernel, rfl⟩
theorem dX11_ropes_37 : Ins mX11_ropes 37 (.iload_n 3) 1 38 := ⟨by decide +kernel, rfl⟩
theorem dX11_ropes_38 : Ins mX11_ropes 38 (.ishl) 1 39 := ⟨by decide +kernel, rfl⟩
theorem dX11_ropes_39 : Ins mX11_ropes 39 (.goto 4) 3 42 := ⟨by decide +kernel, rfl⟩
theorem dX11_ropes_42 : Ins mX11_ropes 42 (.iconst 0) 1 43 := ⟨by decide +kernel, rfl⟩
theorem dX11_ropes_43 : Ins mX11_ropes 43 (.ior) 1 44 := ⟨by decide +kernel, rfl⟩
theorem dX11_ropes_44 : Ins mX11_ropes 44 (.istore_n 2) 1 45 := ⟨by decide +kernel, rfl⟩
theorem dX11_ropes_45 : Ins mX11_ropes 45 (.iinc 3 1) 3 48 := ⟨by decide +kernel, rfl⟩
theorem dX11_ropes_48 : Ins mX11_ropes 48 (.goto (-32)) 3 51 := ⟨by decide +kernel, rfl⟩
theorem dX11_ropes_51 : Ins mX11_ropes 51 (.iconst 0) 1 52 := ⟨by decide +kernel, rfl⟩
theorem dX11_ropes_52 : Ins mX11_ropes 52 (.istore_n 3) 1 53 := ⟨by decide +kernel, rfl⟩
theorem dX11_ropes_53 : Ins mX11_ropes 53 (.iconst 0) 1 54 := ⟨by decide +kernel, rfl⟩
theorem dX11_ropes_54 : Ins mX11_ropes 54 (.istore 4) 2 56 := ⟨by decide +kernel, rfl⟩
theorem dX11_ropes_56 : Ins mX11_ropes 56 (.iconst 1) 1 57 := ⟨by decide +kernel, rfl⟩
theorem dX11_ropes_57 : Ins mX11_ropes 57 (.istore 5) 2 59 := ⟨by decide +kernel, rfl⟩
theorem dX11_ropes_59 : Ins mX11_ropes 59 (.iload 5) 2 61 := ⟨by decide +kernel, rfl⟩
theorem dX11_ropes_61 : Ins mX11_ropes 61 (.iload_n 2) 1 62 := ⟨by decide +kernel, rfl⟩
theorem dX11_ropes_62 : Ins mX11_ropes 62 (.if_icmp .gt 115) 3 65 := ⟨by decide +kernel, rfl⟩
theorem dX11_ropes_65 : Ins mX11_ropes 65 (.iload 5) 2 67 := ⟨by decide +kernel, rfl⟩
theorem dX11_ropes_67 : Ins mX11_ropes 67 (.iload_n 2) 1 68 := ⟨by decide +kernel, rfl⟩
theorem dX11_ropes_68 : Ins mX11_ropes 68 (.iconst (-1)) 1 69 := ⟨by decide +kernel, rfl⟩
theorem dX11_ropes_69 : Ins mX11_ropes 69 (.ixor) 1 70 := ⟨by decide +kernel, rfl⟩
theorem dX11_ropes_70 : Ins mX11_ropes 70 (.iand) 1 71 := ⟨by decide +kernel, rfl⟩
theorem dX11_ropes_71 : Ins mX11_ropes 71 (.ifCond .ne 100) 3 74 := ⟨by decide +kernel, rfl⟩
theorem dX11_ropes_74 : Ins mX11_ropes 74 (.iload 5) 2 76 := ⟨by decide +kernel, rfl⟩
theorem dX11_ropes_76 : CalS mX11_ropes 76 79 mX11_bits := ⟨302, by decide +kernel, rfl, Or.inl (tb_7 (List.mem_of_getElem? (i := 77) (by decide +kernel)) rfl), meX11_bits⟩
theorem dX11_ropes_79 : Ins mX11_ropes 79 (.iload_n 1) 1 80 := ⟨by decide +kernel, rfl⟩
theorem dX11_ropes_80 : Ins mX11_ropes 80 (.if_icmp .le 6) 3 83 := ⟨by decide +kernel, rfl⟩
theorem dX11_ropes_83 : Ins mX11_ropes 83 (.goto 88) 3 86 := ⟨by decide +kernel, rfl⟩
theorem dX11_ropes_86 : Ins mX11_ropes 86 (.iconst 0) 1 87 := ⟨by decide +kernel, rfl⟩
theorem dX11_ropes_87 : Ins mX11_ropes 87 (.istore 6) 2 89 := ⟨by decide +kernel, rfl⟩
theorem dX11_ropes_89 : Ins mX11_ropes 89 (.iconst 0) 1 90 := ⟨by decide +kernel, rfl⟩
theorem dX11_ropes_90 : Ins mX11_ropes 90 (.istore 7) 2 92 := ⟨by decide +kernel, rfl⟩
theorem dX11_ropes_92 : Ins mX11_ropes 92 (.iload 7) 2 94 := ⟨by decide +kernel, rfl⟩
theorem dX11_ropes_94 : Ins mX11_ropes 94 (.aload_n 0) 1 95 := ⟨by decide +kernel, rfl⟩
theorem dX11_ropes_95 : GgR mX11_ropes 95 98 10 0 := ⟨0, rfl, ⟨7, _, by decide +kernel, rfl, rfl, by decide, tb_5 (List.mem_of_getElem? (i := 196) (by decide +kernel)) rfl⟩, by decide, rfl⟩
theorem dX11_ropes_98 : Ins mX11_ropes 98 (.iconst 0) 1 99 := ⟨by decide +kernel, rfl⟩
theorem dX11_ropes_99 : Ins mX11_ropes 99 (.iaload) 1 100 := ⟨by decide +kernel, rfl⟩
theorem dX11_ropes_100 : Ins mX11_ropes 100 (.if_icmp .ge 35) 3 103 := ⟨by decide +kernel, rfl⟩
theorem dX11_ropes_103 : Ins mX11_ropes 103 (.iload 6) 2 105 := ⟨by decide +kernel, rfl⟩
theorem dX11_ropes_105 : Ins mX11_ropes 105 (.iload 5) 2 107 := ⟨by decide +kernel, rfl⟩
theorem dX11_ropes_107 : Ins mX11_ropes 107 (.iload 7) 2 109 := ⟨by decide +kernel, rfl⟩
theorem dX11_ropes_109 : CalS mX11_ropes 109 112 mX11_has := ⟨74, by decide +kernel, rfl, Or.inl (tb_6 (List.mem_of_getElem? (i := 135) (by decide +kernel)) rfl), meX11_has⟩
theorem dX11_ropes_112 : Ins mX11_ropes 112 (.ifCond .eq 13) 3 115 := ⟨by decide +kernel, rfl⟩
theorem dX11_ropes_115 : Ins mX11_ropes 115 (.aload_n 0) 1 116 := ⟨by decide +kernel, rfl⟩
theorem dX11_ropes_116 : Ins mX11_ropes 116 (.iload 7) 2 118 := ⟨by decide +kernel, rfl⟩
theorem dX11_ropes_118 : Ins mX11_ropes 118 (.iconst 1) 1 119 := ⟨by decide +kernel, rfl⟩
theorem dX11_ropes_119 : CalV mX11_ropes 119 122 mX11_get := ⟨71, by decide +kernel, rfl, tb_6 (List.mem_of_getElem? (i := 233) (by decide +kernel)) rfl, meX11_get⟩
theorem dX11_ropes_122 : Ins mX11_ropes 122 (.goto 4) 3 125 := ⟨by decide +kernel, rfl⟩
theorem dX11_ropes_125 : Ins mX11_ropes 125 (.iconst 0) 1 126 := ⟨by decide +kernel, rfl⟩
theorem dX11_ropes_126 : Ins mX11_ropes 126 (.iadd) 1 127 := ⟨by decide +kernel, rfl⟩
theorem dX11_ropes_127 : Ins mX11_ropes 127 (.istore 6) 2 129 := ⟨by decide +kernel, rfl⟩
theorem dX11_ropes_129 : Ins mX11_ropes 129 (.iinc 7 1) 3 132 := ⟨by decide +kernel, rfl⟩
theorem dX11_ropes_132 : Ins mX11_ropes 132 (.goto (-40)) 3 135 := ⟨by decide +kernel, rfl⟩
theorem dX11_ropes_135 : Ins mX11_ropes 135 (.iload 6) 2 137 := ⟨by decide +kernel, rfl⟩
theorem dX11_ropes_137 : Ins mX11_ropes 137 (.iload 4) 2 139 := ⟨by decide +kernel, rfl⟩
theorem dX11_ropes_139 : Ins mX11_ropes 139 (.if_icmp .lt 32) 3 142 := ⟨by decide +kernel, rfl⟩
theorem dX11_ropes_142 : Ins mX11_ropes 142 (.iload 6) 2 144 := ⟨by decide +kernel, rfl⟩
theorem dX11_ropes_144 : Ins mX11_ropes 144 (.iload 4) 2 146 := ⟨by decide +kernel, rfl⟩
theorem dX11_ropes_146 : Ins mX11_ropes 146 (.if_icmp .ne 18) 3 149 := ⟨by decide +kernel, rfl⟩
theorem dX11_ropes_149 : Ins mX11_ropes 149 (.iload 5) 2 151 := ⟨by decide +kernel, rfl⟩
theorem dX11_ropes_151 : CalS mX11_ropes 151 154 mX11_bits := ⟨302, by decide +kernel, rfl, Or.inl (tb_7 (List.mem_of_getElem? (i := 77) (by decide +kernel)) rfl), meX11_bits⟩
theorem dX11_ropes_154 : Ins mX11_ropes 154 (.iload_n 3) 1 155 := ⟨by decide +kernel, rfl⟩
theorem dX11_ropes_155 : CalS mX11_ropes 155 158 mX11_bits := ⟨302, by decide +kernel, rfl, Or.inl (tb_7 (List.mem_of_getElem? (i := 77) (by decide +kernel)) rfl), meX11_bits⟩
theorem dX11_ropes_158 : Ins mX11_ropes 158 (.if_icmp .lt 6) 3 161 := ⟨by decide +kernel, rfl⟩
theorem dX11_ropes_161 : Ins mX11_ropes 161 (.goto 10) 3 164 := ⟨by decide +kernel, rfl⟩
theorem dX11_ropes_164 : Ins mX11_ropes 164 (.iload 6) 2 166 := ⟨by decide +kernel, rfl⟩
theorem dX11_ropes_166 : Ins mX11_ropes 166 (.istore 4) 2 168 := ⟨by decide +kernel, rfl⟩
theorem dX11_ropes_168 : Ins mX11_ropes 168 (.iload 5) 2 170 := ⟨by decide +kernel, rfl⟩
theorem dX11_ropes_170 : Ins mX11_ropes 170 (.istore_n 3) 1 171 := ⟨by decide +kernel, rfl⟩
theorem dX11_ropes_171 : Ins mX11_ropes 171 (.iinc 5 1) 3 174 := ⟨by decide +kernel, rfl⟩
theorem dX11_ropes_174 : Ins mX11_ropes 174 (.goto (-115)) 3 177 := ⟨by decide +kernel, rfl⟩
theorem dX11_ropes_177 : Ins mX11_ropes 177 (.iload_n 3) 1 178 := ⟨by decide +kernel, rfl⟩
theorem dX11_ropes_178 : Ins mX11_ropes 178 (.ireturn) 1 179 := ⟨by decide +kernel, rfl⟩
theorem dX11_haul_0 : Ins mX11_haul 0 (.iload_n 1) 1 1 := ⟨by decide +kernel, rfl⟩
theorem dX11_haul_1 : Ins mX11_haul 1 (.iconst (-1)) 1 2 := ⟨by decide +kernel, rfl⟩
theorem dX11_haul_2 : Ins mX11_haul 2 (.if_icmp .ne 13) 3 5 := ⟨by decide +kernel, rfl⟩
theorem dX11_haul_5 : Ins mX11_haul 5 (.aload_n 0) 1 6 := ⟨by decide +kernel, rfl⟩
theorem dX11_haul_6 : GgR mX11_haul 6 9 10 0 := ⟨0, rfl, ⟨7, _, by decide +kernel, rfl, rfl, by decide, tb_5 (List.mem_of_getElem? (i := 196) (by decide +kernel)) rfl⟩, by decide, rfl⟩
theorem dX11_haul_9 : Ins mX11_haul 9 (.bipush 7) 2 11 := ⟨by decide +kernel, rfl⟩
theorem dX11_haul_11 : Ins mX11_haul 11 (.iconst 0) 1 12 := ⟨by decide +kernel, rfl⟩
theorem dX11_haul_12 : Ins mX11_haul 12 (.iastore) 1 13 := ⟨by decide +kernel, rfl⟩
theorem dX11_haul_13 : Ins mX11_haul 13 (.iconst 0) 1 14 := ⟨by decide +kernel, rfl⟩
theorem dX11_haul_14 : Ins mX11_haul 14 (.ireturn) 1 15 := ⟨by decide +kernel, rfl⟩
theorem dX11_haul_15 : Ins mX11_haul 15 (.iload_n 1) 1 16 := ⟨by decide +kernel, rfl⟩
theorem dX11_haul_16 : Ins mX11_haul 16 (.iconst 0) 1 17 := ⟨by decide +kernel, rfl⟩
theorem dX11_haul_17 : Ins mX11_haul 17 (.bipush 98) 2 19 := ⟨by decide +kernel, rfl⟩
theorem dX11_haul_19 : CalS mX11_haul 19 22 mX11_isIn := ⟨63, by decide +kernel, rfl, Or.inl (tb_6 (List.mem_of_getElem? (i := 50) (by decide +kernel)) rfl), meX11_isIn⟩
theorem dX11_haul_22 : Ins mX11_haul 22 (.ifCond .eq 15) 3 25 := ⟨by decide +kernel, rfl⟩
theorem dX11_haul_25 : Ins mX11_haul 25 (.aload_n 0) 1 26 := ⟨by decide +kernel, rfl⟩
theorem dX11_haul_26 : GgR mX11_haul 26 29 10 0 := ⟨0, rfl, ⟨7, _, by decide +kernel, rfl, rfl, by decide, tb_5 (List.mem_of_getElem? (i := 196) (by decide +kernel)) rfl⟩, by decide, rfl⟩
theorem dX11_haul_29 : Ins mX11_haul 29 (.bipush 7) 2 31 := ⟨by decide +kernel, rfl⟩
theorem dX11_haul_31 : Ins mX11_haul 31 (.iaload) 1 32 := ⟨by decide +kernel, rfl⟩
theorem dX11_haul_32 : Ins mX11_haul 32 (.bipush 8) 2 34 := ⟨by decide +kernel, rfl⟩
theorem dX11_haul_34 : Ins mX11_haul 34 (.if_icmp .ne 6) 3 37 := ⟨by decide +kernel, rfl⟩
theorem dX11_haul_37 : Ins mX11_haul 37 (.bipush (-2)) 2 39 := ⟨by decide +kernel, rfl⟩
theorem dX11_haul_39 : Ins mX11_haul 39 (.ireturn) 1 40 := ⟨by decide +kernel, rfl⟩
theorem dX11_haul_40 : Ins mX11_haul 40 (.aload_n 0) 1 41 := ⟨by decide +kernel, rfl⟩
theorem dX11_haul_41 : GgR mX11_haul 41 44 10 0 := ⟨0, rfl, ⟨7, _, by decide +kernel, rfl, rfl, by decide, tb_5 (List.mem_of_getElem? (i := 196) (by decide +kernel)) rfl⟩, by decide, rfl⟩
theorem dX11_haul_44 : Ins mX11_haul 44 (.bipush 106) 2 46 := ⟨by decide +kernel, rfl⟩
theorem dX11_haul_46 : Ins mX11_haul 46 (.aload_n 0) 1 47 := ⟨by decide +kernel, rfl⟩
theorem dX11_haul_47 : GgR mX11_haul 47 50 10 0 := ⟨0, rfl, ⟨7, _, by decide +kernel, rfl, rfl, by decide, tb_5 (List.mem_of_getElem? (i := 196) (by decide +kernel)) rfl⟩, by decide, rfl⟩
theorem dX11_haul_50 : Ins mX11_haul 50 (.bipush 7) 2 52 := ⟨by decide +kernel, rfl⟩
theorem dX11_haul_52 : Ins mX11_haul 52 (.iaload) 1 53 := ⟨by decide +kernel, rfl⟩
theorem dX11_haul_53 : Ins mX11_haul 53 (.iadd) 1 54 := ⟨by decide +kernel, rfl⟩
theorem dX11_haul_54 : Ins mX11_haul 54 (.iload_n 1) 1 55 := ⟨by decide +kernel, rfl⟩
theorem dX11_haul_55 : Ins mX11_haul 55 (.iastore) 1 56 := ⟨by decide +kernel, rfl⟩
theorem dX11_haul_56 : Ins mX11_haul 56 (.aload_n 0) 1 57 := ⟨by decide +kernel, rfl⟩
theorem dX11_haul_57 : GgR mX11_haul 57 60 10 0 := ⟨0, rfl, ⟨7, _, by decide +kernel, rfl, rfl, by decide, tb_5 (List.mem_of_getElem? (i := 196) (by decide +kernel)) rfl⟩, by decide, rfl⟩
theorem dX11_haul_60 : Ins mX11_haul 60 (.bipush 7) 2 62 := ⟨by decide +kernel, rfl⟩
theorem dX11_haul_62 : Ins mX11_haul 62 (.dup2) 1 63 := ⟨by decide +kernel, rfl⟩
theorem dX11_haul_63 : Ins mX11_haul 63 (.iaload) 1 64 := ⟨by decide +kernel, rfl⟩
theorem dX11_haul_64 : Ins mX11_haul 64 (.iconst 1) 1 65 := ⟨by decide +kernel, rfl⟩
theorem dX11_haul_65 : Ins mX11_haul 65 (.iadd) 1 66 := ⟨by decide +kernel, rfl⟩
theorem dX11_haul_66 : Ins mX11_haul 66 (.iastore) 1 67 := ⟨by decide +kernel, rfl⟩
theorem dX11_haul_67 : Ins mX11_haul 67 (.aload_n 0) 1 68 := ⟨by decide +kernel, rfl⟩
theorem dX11_haul_68 : GgR mX11_haul 68 71 10 0 := ⟨0, rfl, ⟨7, _, by decide +kernel, rfl, rfl, by decide, tb_5 (List.mem_of_getElem? (i := 196) (by decide +kernel)) rfl⟩, by decide, rfl⟩
theorem dX11_haul_71 : Ins mX11_haul 71 (.bipush 7) 2 73 := ⟨by decide +kernel, rfl⟩
theorem dX11_haul_73 : Ins mX11_haul 73 (.iaload) 1 74 := ⟨by decide +kernel, rfl⟩
theorem dX11_haul_74 : Ins mX11_haul 74 (.ireturn) 1 75 := ⟨by decide +kernel, rfl⟩
theorem dX11_oilings_0 : Ins mX11_oilings 0 (.iload_n 1) 1 1 := ⟨by decide +kernel, rfl⟩
theorem dX11_oilings_1 : Ins mX11_oilings 1 (.iconst 0) 1 2 := ⟨by decide +kernel, rfl⟩
theorem dX11_oilings_2 : Ins mX11_oilings 2 (.bipush 98) 2 4 := ⟨by decide +kernel, rfl⟩
theorem dX11_oilings_4 : CalS mX11_oilings 4 7 mX11_isIn := ⟨63, by decide +kernel, rfl, Or.inl (tb_6 (List.mem_of_getElem? (i := 50) (by decide +kernel)) rfl), meX11_isIn⟩
theorem dX11_oilings_7 : Ins mX11_oilings 7 (.ifCond .ne 5) 3 10 := ⟨by decide +kernel, rfl⟩
theorem dX11_oilings_10 : Ins mX11_oilings 10 (.iconst (-1)) 1 11 := ⟨by decide +kernel, rfl⟩
theorem dX11_oilings_11 : Ins mX11_oilings 11 (.ireturn) 1 12 := ⟨by decide +kernel, rfl⟩
theorem dX11_oilings_12 : Ins mX11_oilings 12 (.iconst 0) 1 13 := ⟨by decide +kernel, rfl⟩
theorem dX11_oilings_13 : Ins mX11_oilings 13 (.istore_n 3) 1 14 := ⟨by decide +kernel, rfl⟩
theorem dX11_oilings_14 : Ins mX11_oilings 14 (.iload_n 1) 1 15 := ⟨by decide +kernel, rfl⟩
theorem dX11_oilings_15 : Ins mX11_oilings 15 (.istore 4) 2 17 := ⟨by decide +kernel, rfl⟩
theorem dX11_oilings_17 : Ins mX11_oilings 17 (.iconst 0) 1 18 := ⟨by decide +kernel, rfl⟩
theorem dX11_oilings_18 : Ins mX11_oilings 18 (.istore 5) 2 20 := ⟨by decide +kernel, rfl⟩
theorem dX11_oilings_20 : Ins mX11_oilings 20 (.iload 5) 2 22 := ⟨by decide +kernel, rfl⟩
theorem dX11_oilings_22 : Ins mX11_oilings 22 (.aload_n 0) 1 23 := ⟨by decide +kernel, rfl⟩
theorem dX11_oilings_23 : GgR mX11_oilings 23 26 10 0 := ⟨0, rfl, ⟨7, _, by decide +kernel, rfl, rfl, by decide, tb_5 (List.mem_of_getElem? (i := 196) (by decide +kernel)) rfl⟩, by decide, rfl⟩
theorem dX11_oilings_26 : Ins mX11_oilings 26 (.bipush 7) 2 28 := ⟨by decide +kernel, rfl⟩
theorem dX11_oilings_28 : Ins mX11_oilings 28 (.iaload) 1 29 := ⟨by decide +kernel, rfl⟩
theorem dX11_oilings_29 : Ins mX11_oilings 29 (.if_icmp .ge 52) 3 32 := ⟨by decide +kernel, rfl⟩
theorem dX11_oilings_32 : Ins mX11_oilings 32 (.iload 4) 2 34 := ⟨by decide +kernel, rfl⟩
theorem dX11_oilings_34 : Ins mX11_oilings 34 (.aload_n 0) 1 35 := ⟨by decide +kernel, rfl⟩
theorem dX11_oilings_35 : GgR mX11_oilings 35 38 10 0 := ⟨0, rfl, ⟨7, _, by decide +kernel, rfl, rfl, by decide, tb_5 (List.mem_of_getElem? (i := 196) (by decide +kernel)) rfl⟩, by decide, rfl⟩
theorem dX11_oilings_38 : Ins mX11_oilings 38 (.bipush 106) 2 40 := ⟨by decide +kernel, rfl⟩
theorem dX11_oilings_40 : Ins mX11_oilings 40 (.iload 5) 2 42 := ⟨by decide +kernel, rfl⟩
theorem dX11_oilings_42 : Ins mX11_oilings 42 (.iadd) 1 43 := ⟨by decide +kernel, rfl⟩
theorem dX11_oilings_43 : Ins mX11_oilings 43 (.iaload) 1 44 := ⟨by decide +kernel, rfl⟩
theorem dX11_oilings_44 : Ins mX11_oilings 44 (.iadd) 1 45 := ⟨by decide +kernel, rfl⟩
theorem dX11_oilings_45 : Ins mX11_oilings 45 (.bipush 99) 2 47 := ⟨by decide +kernel, rfl⟩
theorem dX11_oilings_47 : Ins mX11_oilings 47 (.if_icmp .lt 13) 3 50 := ⟨by decide +kernel, rfl⟩
theorem dX11_oilings_50 : Ins mX11_oilings 50 (.iload_n 3) 1 51 := ⟨by decide +kernel, rfl⟩
theorem dX11_oilings_51 : Ins mX11_oilings 51 (.iconst 1) 1 52 := ⟨by decide +kernel, rfl⟩
theorem dX11_oilings_52 : Ins mX11_oilings 52 (.iload 5) 2 54 := ⟨by decide +kernel, rfl⟩
theorem dX11_oilings_54 : Ins mX11_oilings 54 (.ishl) 1 55 := ⟨by decide +kernel, rfl⟩
theorem dX11_oilings_55 : Ins mX11_oilings 55 (.ior) 1 56 := ⟨by decide +kernel, rfl⟩
theorem dX11_oilings_56 : Ins mX11_oilings 56 (.istore_n 3) 1 57 := ⟨by decide +kernel, rfl⟩
theorem dX11_oilings_57 : Ins mX11_oilings 57 (.iconst 0) 1 58 := ⟨by decide +kernel, rfl⟩
theorem dX11_oilings_58 : Ins mX11_oilings 58 (.istore 4) 2 60 := ⟨by decide +kernel, rfl⟩
theorem dX11_oilings_60 : Ins mX11_oilings 60 (.iload 4) 2 62 := ⟨by decide +kernel, rfl⟩
theorem dX11_oilings_62 : Ins mX11_oilings 62 (.aload_n 0) 1 63 := ⟨by decide +kernel, rfl⟩
theorem dX11_oilings_63 : GgR mX11_oilings 63 66 10 0 := ⟨0, rfl, ⟨7, _, by decide +kernel, rfl, rfl, by decide, tb_5 (List.mem_of_getElem? (i := 196) (by decide +kernel)) rfl⟩, by decide, rfl⟩
theorem dX11_oilings_66 : Ins mX11_oilings 66 (.bipush 106) 2 68 := ⟨by decide +kernel, rfl⟩
theorem dX11_oilings_68 : Ins mX11_oilings 68 (.iload 5) 2 70 := ⟨by decide +kernel, rfl⟩
theorem dX11_oilings_70 : Ins mX11_oilings 70 (.iadd) 1 71 := ⟨by decide +kernel, rfl⟩
theorem dX11_oilings_71 : Ins mX11_oilings 71 (.iaload) 1 72 := ⟨by decide +kernel, rfl⟩
theorem dX11_oilings_72 : Ins mX11_oilings 72 (.iadd) 1 73 := ⟨by decide +kernel, rfl⟩
theorem dX11_oilings_73 : Ins mX11_oilings 73 (.istore 4) 2 75 := ⟨by decide +kernel, rfl⟩
theorem dX11_oilings_75 : Ins mX11_oilings 75 (.iinc 5 1) 3 78 := ⟨by decide +kernel, rfl⟩
theorem dX11_oilings_78 : Ins mX11_oilings 78 (.goto (-58)) 3 81 := ⟨by decide +kernel, rfl⟩
theorem dX11_oilings_81 : Ins mX11_oilings 81 (.iload_n 2) 1 82 := ⟨by decide +kernel, rfl⟩
theorem dX11_oilings_82 : Ins mX11_oilings 82 (.ifCond .eq 7) 3 85 := ⟨by decide +kernel, rfl⟩
theorem dX11_oilings_85 : Ins mX11_oilings 85 (.iload_n 3) 1 86 := ⟨by decide +kernel, rfl⟩
theorem dX11_oilings_86 : Ins mX11_oilings 86 (.goto 7) 3 89 := ⟨by decide +kernel, rfl⟩
theorem dX11_oilings_89 : Ins mX11_oilings 89 (.iload_n 3) 1 90 := ⟨by decide +kernel, rfl⟩
theorem dX11_oilings_90 : CalS mX11_oilings 90 93 mX11_bits := ⟨302, by decide +kernel, rfl, Or.inl (tb_7 (List.mem_of_getElem? (i := 77) (by decide +kernel)) rfl), meX11_bits⟩
theorem dX11_oilings_93 : Ins mX11_oilings 93 (.ireturn) 1 94 := ⟨by decide +kernel, rfl⟩
theorem dX11_show_0 : Ins mX11_show 0 (.iload_n 1) 1 1 := ⟨by decide +kernel, rfl⟩
theorem dX11_show_1 : Ins mX11_show 1 (.iconst 0) 1 2 := ⟨by decide +kernel, rfl⟩
theorem dX11_show_2 : Ins mX11_show 2 (.bipush 99) 2 4 := ⟨by decide +kernel, rfl⟩
theorem dX11_show_4 : CalS mX11_show 4 7 mX11_isIn := ⟨63, by decide +kernel, rfl, Or.inl (tb_6 (List.mem_of_getElem? (i := 50) (by decide +kernel)) rfl), meX11_isIn⟩
theorem dX11_show_7 : Ins mX11_show 7 (.ifCond .ne 5) 3 10 := ⟨by decide +kernel, rfl⟩
theorem dX11_show_10 : Ins mX11_show 10 (.iconst (-1)) 1 11 := ⟨by decide +kernel, rfl⟩
theorem dX11_show_11 : Ins mX11_show 11 (.ireturn) 1 12 := ⟨by decide +kernel, rfl⟩
theorem dX11_show_12 : Ins mX11_show 12 (.iconst 0) 1 13 := ⟨by decide +kernel, rfl⟩
theorem dX11_show_13 : Ins mX11_show 13 (.istore_n 2) 1 14 := ⟨by decide +kernel, rfl⟩
theorem dX11_show_14 : Ins mX11_show 14 (.aload_n 0) 1 15 := ⟨by decide +kernel, rfl⟩
theorem dX11_show_15 : Ins mX11_show 15 (.aload_n 0) 1 16 := ⟨by decide +kernel, rfl⟩
theorem dX11_show_16 : GgR mX11_show 16 19 10 0 := ⟨0, rfl, ⟨7, _, by decide +kernel, rfl, rfl, by decide, tb_5 (List.mem_of_getElem? (i := 196) (by decide +kernel)) rfl⟩, by decide, rfl⟩
theorem dX11_show_19 : Ins mX11_show 19 (.iconst 3) 1 20 := ⟨by decide +kernel, rfl⟩
theorem dX11_show_20 : Ins mX11_show 20 (.iaload) 1 21 := ⟨by decide +kernel, rfl⟩
theorem dX11_show_21 : Ins mX11_show 21 (.iconst 0) 1 22 := ⟨by decide +kernel, rfl⟩
theorem dX11_show_22 : CalV mX11_show 22 25 mX11_seenBy := ⟨392, by decide +kernel, rfl, tb_7 (List.mem_of_getElem? (i := 179) (by decide +kernel)) rfl, meX11_seenBy⟩
theorem dX11_show_25 : Ins mX11_show 25 (.iload_n 1) 1 26 := ⟨by decide +kernel, rfl⟩
theorem dX11_show_26 : Ins mX11_show 26 (.if_icmp .ne 5) 3 29 := ⟨by decide +kernel, rfl⟩
theorem dX11_show_29 : Ins mX11_show 29 (.iconst 0) 1 30 := ⟨by decide +kernel, rfl⟩
theorem dX11_show_30 : Ins mX11_show 30 (.ireturn) 1 31 := ⟨by decide +kernel, rfl⟩
theorem dX11_show_31 : Ins mX11_show 31 (.iconst 0) 1 32 := ⟨by decide +kernel, rfl⟩
theorem dX11_show_32 : Ins mX11_show 32 (.istore_n 3) 1 33 := ⟨by decide +kernel, rfl⟩
theorem dX11_show_33 : Ins mX11_show 33 (.iload_n 3) 1 34 := ⟨by decide +kernel, rfl⟩
theorem dX11_show_34 : Ins mX11_show 34 (.aload_n 0) 1 35 := ⟨by decide +kernel, rfl⟩
theorem dX11_show_35 : GgR mX11_show 35 38 10 0 := ⟨0, rfl, ⟨7, _, by decide +kernel, rfl, rfl, by decide, tb_5 (List.mem_of_getElem? (i := 196) (by decide +kernel)) rfl⟩, by decide, rfl⟩
theorem dX11_show_38 : Ins mX11_show 38 (.iconst 0) 1 39 := ⟨by decide +kernel, rfl⟩
theorem dX11_show_39 : Ins mX11_show 39 (.iaload) 1 40 := ⟨by decide +kernel, rfl⟩
theorem dX11_show_40 : Ins mX11_show 40 (.if_icmp .ge 49) 3 43 := ⟨by decide +kernel, rfl⟩
theorem dX11_show_43 : Ins mX11_show 43 (.aload_n 0) 1 44 := ⟨by decide +kernel, rfl⟩
theorem dX11_show_44 : CalV mX11_show 44 47 mX11_fit := ⟨305, by decide +kernel, rfl, tb_7 (List.mem_of_getElem? (i := 65) (by decide +kernel)) rfl, meX11_fit⟩
theorem dX11_show_47 : Ins mX11_show 47 (.iload_n 3) 1 48 := ⟨by decide +kernel, rfl⟩
theorem dX11_show_48 : CalS mX11_show 48 51 mX11_has := ⟨74, by decide +kernel, rfl, Or.inl (tb_6 (List.mem_of_getElem? (i := 135) (by decide +kernel)) rfl), meX11_has⟩
theorem dX11_show_51 : Ins mX11_show 51 (.ifCond .ne 6) 3 54 := ⟨by decide +kernel, rfl⟩
theorem dX11_show_54 : Ins mX11_show 54 (.goto 29) 3 57 := ⟨by decide +kernel, rfl⟩
theorem dX11_show_57 : Ins mX11_show 57 (.iload_n 2) 1 58 := ⟨by decide +kernel, rfl⟩
theorem dX11_show_58 : Ins mX11_show 58 (.iconst 1) 1 59 := ⟨by decide +kernel, rfl⟩
theorem dX11_show_59 : Ins mX11_show 59 (.iload_n 3) 1 60 := ⟨by decide +kernel, rfl⟩
theorem dX11_show_60 : Ins mX11_show 60 (.ishl) 1 61 := ⟨by decide +kernel, rfl⟩
theorem dX11_show_61 : Ins mX11_show 61 (.ior) 1 62 := ⟨by decide +kernel, rfl⟩
theorem dX11_show_62 : Ins mX11_show 62 (.istore_n 2) 1 63 := ⟨by decide +kernel, rfl⟩
theorem dX11_show_63 : Ins mX11_show 63 (.aload_n 0) 1 64 := ⟨by decide +kernel, rfl⟩
theorem dX11_show_64 : Ins mX11_show 64 (.aload_n 0) 1 65 := ⟨by decide +kernel, rfl⟩
theorem dX11_show_65 : GgR mX11_show 65 68 10 0 := ⟨0, rfl, ⟨7, _, by decide +kernel, rfl, rfl, by decide, tb_5 (List.mem_of_getElem? (i := 196) (by decide +kernel)) rfl⟩, by decide, rfl⟩
theorem dX11_show_68 : Ins mX11_show 68 (.iconst 3) 1 69 := ⟨by decide +kernel, rfl⟩
theorem dX11_show_69 : Ins mX11_show 69 (.iaload) 1 70 := ⟨by decide +kernel, rfl⟩
theorem dX11_show_70 : Ins mX11_show 70 (.iload_n 2) 1 71 := ⟨by decide +kernel, rfl⟩
theorem dX11_show_71 : CalS mX11_show 71 74 mX11_bits := ⟨302, by decide +kernel, rfl, Or.inl (tb_7 (List.mem_of_getElem? (i := 77) (by decide +kernel)) rfl), meX11_bits⟩
theorem dX11_show_74 : CalV mX11_show 74 77 mX11_seenBy := ⟨392, by decide +kernel, rfl, tb_7 (List.mem_of_getElem? (i := 179) (by decide +kernel)) rfl, meX11_seenBy⟩
theorem dX11_show_77 : Ins mX11_show 77 (.iload_n 1) 1 78 := ⟨by decide +kernel, rfl⟩
theorem dX11_show_78 : Ins mX11_show 78 (.if_icmp .ne 5) 3 81 := ⟨by decide +kernel, rfl⟩
theorem dX11_show_81 : Ins mX11_show 81 (.iload_n 2) 1 82 := ⟨by decide +kernel, rfl⟩
theorem dX11_show_82 : Ins mX11_show 82 (.ireturn) 1 83 := ⟨by decide +kernel, rfl⟩
theorem dX11_show_83 : Ins mX11_show 83 (.iinc 3 1) 3 86 := ⟨by decide +kernel, rfl⟩
theorem dX11_show_86 : Ins mX11_show 86 (.goto (-53)) 3 89 := ⟨by decide +kernel, rfl⟩
theorem dX11_show_89 : Ins mX11_show 89 (.iconst (-1)) 1 90 := ⟨by decide +kernel, rfl⟩
theorem dX11_show_90 : Ins mX11_show 90 (.ireturn) 1 91 := ⟨by decide +kernel, rfl⟩
theorem dX11_counted_0 : Ins mX11_counted 0 (.iload_n 1) 1 1 := ⟨by decide +kernel, rfl⟩
theorem dX11_counted_1 : Ins mX11_counted 1 (.iconst (-1)) 1 2 := ⟨by decide +kernel, rfl⟩
theorem dX11_counted_2 : Ins mX11_counted 2 (.if_icmp .ne 13) 3 5 := ⟨by decide +kernel, rfl⟩
theorem dX11_counted_5 : Ins mX11_counted 5 (.aload_n 0) 1 6 := ⟨by decide +kernel, rfl⟩
theorem dX11_counted_6 : GgR mX11_counted 6 9 10 0 := ⟨0, rfl, ⟨7, _, by decide +kernel, rfl, rfl, by decide, tb_5 (List.mem_of_getElem? (i := 196) (by decide +kernel)) rfl⟩, by decide, rfl⟩
theorem dX11_counted_9 : Ins mX11_counted 9 (.bipush 8) 2 11 := ⟨by decide +kernel, rfl⟩
theorem dX11_counted_11 : Ins mX11_counted 11 (.iconst 0) 1 12 := ⟨by decide +kernel, rfl⟩
theorem dX11_counted_12 : Ins mX11_counted 12 (.iastore) 1 13 := ⟨by decide +kernel, rfl⟩
theorem dX11_counted_13 : Ins mX11_counted 13 (.iconst 0) 1 14 := ⟨by decide +kernel, rfl⟩
theorem dX11_counted_14 : Ins mX11_counted 14 (.ireturn) 1 15 := ⟨by decide +kernel, rfl⟩
theorem dX11_counted_15 : Ins mX11_counted 15 (.iload_n 1) 1 16 := ⟨by decide +kernel, rfl⟩
theorem dX11_counted_16 : Ins mX11_counted 16 (.iconst 0) 1 17 := ⟨by decide +kernel, rfl⟩
theorem dX11_counted_17 : Ins mX11_counted 17 (.bipush 8) 2 19 := ⟨by decide +kernel, rfl⟩
theorem dX11_counted_19 : CalS mX11_counted 19 22 mX11_isIn := ⟨63, by decide +kernel, rfl, Or.inl (tb_6 (List.mem_of_getElem? (i := 50) (by decide +kernel)) rfl), meX11_isIn⟩
theorem dX11_counted_22 : Ins mX11_counted 22 (.ifCond .eq 25) 3 25 := ⟨by decide +kernel, rfl⟩
theorem dX11_counted_25 : Ins mX11_counted 25 (.iload_n 2) 1 26 := ⟨by decide +kernel, rfl⟩
theorem dX11_counted_26 : Ins mX11_counted 26 (.iconst 0) 1 27 := ⟨by decide +kernel, rfl⟩
theorem dX11_counted_27 : Ins mX11_counted 27 (.bipush 99) 2 29 := ⟨by decide +kernel, rfl⟩
theorem dX11_counted_29 : CalS mX11_counted 29 32 mX11_isIn := ⟨63, by decide +kernel, rfl, Or.inl (tb_6 (List.mem_of_getElem? (i := 50) (by decide +kernel)) rfl), meX11_isIn⟩
theorem dX11_counted_32 : Ins mX11_counted 32 (.ifCond .eq 15) 3 35 := ⟨by decide +kernel, rfl⟩
theorem dX11_counted_35 : Ins mX11_counted 35 (.aload_n 0) 1 36 := ⟨by decide +kernel, rfl⟩
theorem dX11_counted_36 : GgR mX11_counted 36 39 10 0 := ⟨0, rfl, ⟨7, _, by decide +kernel, rfl, rfl, by decide, tb_5 (List.mem_of_getElem? (i := 196) (by decide +kernel)) rfl⟩, by decide, rfl⟩
theorem dX11_counted_39 : Ins mX11_counted 39 (.bipush 8) 2 41 := ⟨by decide +kernel, rfl⟩
theorem dX11_counted_41 : Ins mX11_counted 41 (.iaload) 1 42 := ⟨by decide +kernel, rfl⟩
theorem dX11_counted_42 : Ins mX11_counted 42 (.bipush 8) 2 44 := ⟨by decide +kernel, rfl⟩
theorem dX11_counted_44 : Ins mX11_counted 44 (.if_icmp .ne 6) 3 47 := ⟨by decide +kernel, rfl⟩
theorem dX11_counted_47 : Ins mX11_counted 47 (.bipush (-2)) 2 49 := ⟨by decide +kernel, rfl⟩
theorem dX11_counted_49 : Ins mX11_counted 49 (.ireturn) 1 50 := ⟨by decide +kernel, rfl⟩
theorem dX11_counted_50 : Ins mX11_counted 50 (.aload_n 0) 1 51 := ⟨by decide +kernel, rfl⟩
theorem dX11_counted_51 : GgR mX11_counted 51 54 10 0 := ⟨0, rfl, ⟨7, _, by decide +kernel, rfl, rfl, by decide, tb_5 (List.mem_of_getElem? (i := 196) (by decide +kernel)) rfl⟩, by decide, rfl⟩
theorem dX11_counted_54 : Ins mX11_counted 54 (.bipush 114) 2 56 := ⟨by decide +kernel, rfl⟩
theorem dX11_counted_56 : Ins mX11_counted 56 (.iconst 2) 1 57 := ⟨by decide +kernel, rfl⟩
theorem dX11_counted_57 : Ins mX11_counted 57 (.aload_n 0) 1 58 := ⟨by decide +kernel, rfl⟩
theorem dX11_counted_58 : GgR mX11_counted 58 61 10 0 := ⟨0, rfl, ⟨7, _, by decide +kernel, rfl, rfl, by decide, tb_5 (List.mem_of_getElem? (i := 196) (by decide +kernel)) rfl⟩, by decide, rfl⟩
theorem dX11_counted_61 : Ins mX11_counted 61 (.bipush 8) 2 63 := ⟨by decide +kernel, rfl⟩
theorem dX11_counted_63 : Ins mX11_counted 63 (.iaload) 1 64 := ⟨by decide +kernel, rfl⟩
theorem dX11_counted_64 : Ins mX11_counted 64 (.imul) 1 65 := ⟨by decide +kernel, rfl⟩
theorem dX11_counted_65 : Ins mX11_counted 65 (.iadd) 1 66 := ⟨by decide +kernel, rfl⟩
theorem dX11_counted_66 : Ins mX11_counted 66 (.iload_n 1) 1 67 := ⟨by decide +kernel, rfl⟩
theorem dX11_counted_67 : Ins mX11_counted 67 (.iastore) 1 68 := ⟨by decide +kernel, rfl⟩
theorem dX11_counted_68 : Ins mX11_counted 68 (.aload_n 0) 1 69 := ⟨by decide +kernel, rfl⟩
theorem dX11_counted_69 : GgR mX11_counted 69 72 10 0 := ⟨0, rfl, ⟨7, _, by decide +kernel, rfl, rfl, by decide, tb_5 (List.mem_of_getElem? (i := 196) (by decide +kernel)) rfl⟩, by decide, rfl⟩
theorem dX11_counted_72 : Ins mX11_counted 72 (.bipush 114) 2 74 := ⟨by decide +kernel, rfl⟩
theorem dX11_counted_74 : Ins mX11_counted 74 (.iconst 2) 1 75 := ⟨by decide +kernel, rfl⟩
theorem dX11_counted_75 : Ins mX11_counted 75 (.aload_n 0) 1 76 := ⟨by decide +kernel, rfl⟩
theorem dX11_counted_76 : GgR mX11_counted 76 79 10 0 := ⟨0, rfl, ⟨7, _, by decide +kernel, rfl, rfl, by decide, tb_5 (List.mem_of_getElem? (i := 196) (by decide +kernel)) rfl⟩, by decide, rfl⟩
theorem dX11_counted_79 : Ins mX11_counted 79 (.bipush 8) 2 81 := ⟨by decide +kernel, rfl⟩
theorem dX11_counted_81 : Ins mX11_counted 81 (.iaload) 1 82 := ⟨by decide +kernel, rfl⟩
theorem dX11_counted_82 : Ins mX11_counted 82 (.imul) 1 83 := ⟨by decide +kernel, rfl⟩
theorem dX11_counted_83 : Ins mX11_counted 83 (.iadd) 1 84 := ⟨by decide +kernel, rfl⟩
theorem dX11_counted_84 : Ins mX11_counted 84 (.iconst 1) 1 85 := ⟨by decide +kernel, rfl⟩
theorem dX11_counted_85 : Ins mX11_counted 85 (.iadd) 1 86 := ⟨by decide +kernel, rfl⟩
theorem dX11_counted_86 : Ins mX11_counted 86 (.iload_n 2) 1 87 := ⟨by decide +kernel, rfl⟩
theorem dX11_counted_87 : Ins mX11_counted 87 (.iastore) 1 88 := ⟨by decide +kernel, rfl⟩
theorem dX11_counted_88 : Ins mX11_counted 88 (.aload_n 0) 1 89 := ⟨by decide +kernel, rfl⟩
theorem dX11_counted_89 : GgR mX11_counted 89 92 10 0 := ⟨0, rfl, ⟨7, _, by decide +kernel, rfl, rfl, by decide, tb_5 (List.mem_of_getElem? (i := 196) (by decide +kernel)) rfl⟩, by decide, rfl⟩
theorem dX11_counted_92 : Ins mX11_counted 92 (.bipush 8) 2 94 := ⟨by decide +kernel, rfl⟩
theorem dX11_counted_94 : Ins mX11_counted 94 (.dup2) 1 95 := ⟨by decide +kernel, rfl⟩
theorem dX11_counted_95 : Ins mX11_counted 95 (.iaload) 1 96 := ⟨by decide +kernel, rfl⟩
theorem dX11_counted_96 : Ins mX11_counted 96 (.iconst 1) 1 97 := ⟨by decide +kernel, rfl⟩
theorem dX11_counted_97 : Ins mX11_counted 97 (.iadd) 1 98 := ⟨by decide +kernel, rfl⟩
theorem dX11_counted_98 : Ins mX11_counted 98 (.iastore) 1 99 := ⟨by decide +kernel, rfl⟩
theorem dX11_counted_99 : Ins mX11_counted 99 (.aload_n 0) 1 100 := ⟨by decide +kernel, rfl⟩
theorem dX11_counted_100 : GgR mX11_counted 100 103 10 0 := ⟨0, rfl, ⟨7, _, by decide +kernel, rfl, rfl, by decide, tb_5 (List.mem_of_getElem? (i := 196) (by decide +kernel)) rfl⟩, by decide, rfl⟩
theorem dX11_counted_103 : Ins mX11_counted 103 (.bipush 8) 2 105 := ⟨by decide +kernel, rfl⟩
theorem dX11_counted_105 : Ins mX11_counted 105 (.iaload) 1 106 := ⟨by decide +kernel, rfl⟩
theorem dX11_counted_106 : Ins mX11_counted 106 (.ireturn) 1 107 := ⟨by decide +kernel, rfl⟩
theorem dX11_whose_0 : Ins mX11_whose 0 (.iconst 0) 1 1 := ⟨by decide +kernel, rfl⟩
theorem dX11_whose_1 : Ins mX11_whose 1 (.istore_n 1) 1 2 := ⟨by decide +kernel, rfl⟩
theorem dX11_whose_2 : Ins mX11_whose 2 (.iconst 0) 1 3 := ⟨by decide +kernel, rfl⟩
theorem dX11_whose_3 : Ins mX11_whose 3 (.istore_n 2) 1 4 := ⟨by decide +kernel, rfl⟩
theorem dX11_whose_4 : Ins mX11_whose 4 (.iload_n 2) 1 5 := ⟨by decide +kernel, rfl⟩
theorem dX11_whose_5 : Ins mX11_whose 5 (.aload_n 0) 1 6 := ⟨by decide +kernel, rfl⟩
theorem dX11_whose_6 : GgR mX11_whose 6 9 10 0 := ⟨0, rfl, ⟨7, _, by decide +kernel, rfl, rfl, by decide, tb_5 (List.mem_of_getElem? (i := 196) (by decide +kernel)) rfl⟩, by decide, rfl⟩
theorem dX11_whose_9 : Ins mX11_whose 9 (.iconst 2) 1 10 := ⟨by decide +kernel, rfl⟩
theorem dX11_whose_10 : Ins mX11_whose 10 (.iaload) 1 11 := ⟨by decide +kernel, rfl⟩
theorem dX11_whose_11 : Ins mX11_whose 11 (.if_icmp .ge 90) 3 14 := ⟨by decide +kernel, rfl⟩
theorem dX11_whose_14 : Ins mX11_whose 14 (.iconst 1) 1 15 := ⟨by decide +kernel, rfl⟩
theorem dX11_whose_15 : Ins mX11_whose 15 (.istore_n 3) 1 16 := ⟨by decide +kernel, rfl⟩
theorem dX11_whose_16 : Ins mX11_whose 16 (.iconst 0) 1 17 := ⟨by decide +kernel, rfl⟩
theorem dX11_whose_17 : Ins mX11_whose 17 (.istore 4) 2 19 := ⟨by decide +kernel, rfl⟩
theorem dX11_whose_19 : Ins mX11_whose 19 (.iload 4) 2 21 := ⟨by decide +kernel, rfl⟩
theorem dX11_whose_21 : Ins mX11_whose 21 (.aload_n 0) 1 22 := ⟨by decide +kernel, rfl⟩
theorem dX11_whose_22 : GgR mX11_whose 22 25 10 0 := ⟨0, rfl, ⟨7, _, by decide +kernel, rfl, rfl, by decide, tb_5 (List.mem_of_getElem? (i := 196) (by decide +kernel)) rfl⟩, by decide, rfl⟩
theorem dX11_whose_25 : Ins mX11_whose 25 (.bipush 8) 2 27 := ⟨by decide +kernel, rfl⟩
theorem dX11_whose_27 : Ins mX11_whose 27 (.iaload) 1 28 := ⟨by decide +kernel, rfl⟩
theorem dX11_whose_28 : Ins mX11_whose 28 (.if_icmp .ge 53) 3 31 := ⟨by decide +kernel, rfl⟩
theorem dX11_whose_31 : Ins mX11_whose 31 (.iload_n 3) 1 32 := ⟨by decide +kernel, rfl⟩
theorem dX11_whose_32 : Ins mX11_whose 32 (.ifCond .eq 41) 3 35 := ⟨by decide +kernel, rfl⟩
theorem dX11_whose_35 : Ins mX11_whose 35 (.aload_n 0) 1 36 := ⟨by decide +kernel, rfl⟩
theorem dX11_whose_36 : Ins mX11_whose 36 (.iload_n 2) 1 37 := ⟨by decide +kernel, rfl⟩
theorem dX11_whose_37 : Ins mX11_whose 37 (.aload_n 0) 1 38 := ⟨by decide +kernel, rfl⟩
theorem dX11_whose_38 : GgR mX11_whose 38 41 10 0 := ⟨0, rfl, ⟨7, _, by decide +kernel, rfl, rfl, by decide, tb_5 (List.mem_of_getElem? (i := 196) (by decide +kernel)) rfl⟩, by decide, rfl⟩
theorem dX11_whose_41 : Ins mX11_whose 41 (.bipush 114) 2 43 := ⟨by decide +kernel, rfl⟩
theorem dX11_whose_43 : Ins mX11_whose 43 (.iconst 2) 1 44 := ⟨by decide +kernel, rfl⟩
theorem dX11_whose_44 : Ins mX11_whose 44 (.iload 4) 2 46 := ⟨by decide +kernel, rfl⟩
theorem dX11_whose_46 : Ins mX11_whose 46 (.imul) 1 47 := ⟨by decide +kernel, rfl⟩
theorem dX11_whose_47 : Ins mX11_whose 47 (.iadd) 1 48 := ⟨by decide +kernel, rfl⟩
theorem dX11_whose_48 : Ins mX11_whose 48 (.iaload) 1 49 := ⟨by decide +kernel, rfl⟩
theorem dX11_whose_49 : CalV mX11_whose 49 52 mX11_seenBy := ⟨392, by decide +kernel, rfl, tb_7 (List.mem_of_getElem? (i := 179) (by decide +kernel)) rfl, meX11_seenBy⟩
theorem dX11_whose_52 : Ins mX11_whose 52 (.aload_n 0) 1 53 := ⟨by decide +kernel, rfl⟩
theorem dX11_whose_53 : GgR mX11_whose 53 56 10 0 := ⟨0, rfl, ⟨7, _, by decide +kernel, rfl, rfl, by decide, tb_5 (List.mem_of_getElem? (i := 196) (by decide +kernel)) rfl⟩, by decide, rfl⟩
theorem dX11_whose_56 : Ins mX11_whose 56 (.bipush 114) 2 58 := ⟨by decide +kernel, rfl⟩
theorem dX11_whose_58 : Ins mX11_whose 58 (.iconst 2) 1 59 := ⟨by decide +kernel, rfl⟩
theorem dX11_whose_59 : Ins mX11_whose 59 (.iload 4) 2 61 := ⟨by decide +kernel, rfl⟩
theorem dX11_whose_61 : Ins mX11_whose 61 (.imul) 1 62 := ⟨by decide +kernel, rfl⟩
theorem dX11_whose_62 : Ins mX11_whose 62 (.iadd) 1 63 := ⟨by decide +kernel, rfl⟩
theorem dX11_whose_63 : Ins mX11_whose 63 (.iconst 1) 1 64 := ⟨by decide +kernel, rfl⟩
theorem dX11_whose_64 : Ins mX11_whose 64 (.iadd) 1 65 := ⟨by decide +kernel, rfl⟩
theorem dX11_whose_65 : Ins mX11_whose 65 (.iaload) 1 66 := ⟨by decide +kernel, rfl⟩
theorem dX11_whose_66 : Ins mX11_whose 66 (.if_icmp .ne 7) 3 69 := ⟨by decide +kernel, rfl⟩
theorem dX11_whose_69 : Ins mX11_whose 69 (.iconst 1) 1 70 := ⟨by decide +kernel, rfl⟩
theorem dX11_whose_70 : Ins mX11_whose 70 (.goto 4) 3 73 := ⟨by decide +kernel, rfl⟩
theorem dX11_whose_73 : Ins mX11_whose 73 (.iconst 0) 1 74 := ⟨by decide +kernel, rfl⟩
theorem dX11_whose_74 : Ins mX11_whose 74 (.istore_n 3) 1 75 := ⟨by decide +kernel, rfl⟩
theorem dX11_whose_75 : Ins mX11_whose 75 (.iinc 4 1) 3 78 := ⟨by decide +kernel, rfl⟩
theorem dX11_whose_78 : Ins mX11_whose 78 (.goto (-59)) 3 81 := ⟨by decide +kernel, rfl⟩
theorem dX11_whose_81 : Ins mX11_whose 81 (.iload_n 1) 1 82 := ⟨by decide +kernel, rfl⟩
theorem dX11_whose_82 : Ins mX11_whose 82 (.iload_n 3) 1 83 := ⟨by decide +kernel, rfl⟩
theorem dX11_whose_83 : Ins mX11_whose 83 (.ifCond .eq 9) 3 86 := ⟨by decide +kernel, rfl⟩
theorem dX11_whose_86 : Ins mX11_whose 86 (.iconst 1) 1 87 := ⟨by decide +kernel, rfl⟩
theorem dX11_whose_87 : Ins mX11_whose 87 (.iload_n 2) 1 88 := ⟨by decide +kernel, rfl⟩
theorem dX11_whose_88 : Ins mX11_whose 88 (.ishl) 1 89 := ⟨by decide +kernel, rfl⟩
theorem dX11_whose_89 : Ins mX11_whose 89 (.goto 4) 3 92 := ⟨by decide +kernel, rfl⟩
theorem dX11_whose_92 : Ins mX11_whose 92 (.iconst 0) 1 93 := ⟨by decide +kernel, rfl⟩
theorem dX11_whose_93 : Ins mX11_whose 93 (.ior) 1 94 := ⟨by decide +kernel, rfl⟩
theorem dX11_whose_94 : Ins mX11_whose 94 (.istore_n 1) 1 95 := ⟨by decide +kernel, rfl⟩
theorem dX11_whose_95 : Ins mX11_whose 95 (.iinc 2 1) 3 98 := ⟨by decide +kernel, rfl⟩
theorem dX11_whose_98 : Ins mX11_whose 98 (.goto (-94)) 3 101 := ⟨by decide +kernel, rfl⟩
theorem dX11_whose_101 : Ins mX11_whose 101 (.iload_n 1) 1 102 := ⟨by decide +kernel, rfl⟩
theorem dX11_whose_102 : Ins mX11_whose 102 (.ireturn) 1 103 := ⟨by decide +kernel, rfl⟩
theorem dX11_image_0 : Ins mX11_image 0 (.aload_n 0) 1 1 := ⟨by decide +kernel, rfl⟩
theorem dX11_image_1 : GgR mX11_image 1 4 10 0 := ⟨0, rfl, ⟨7, _, by decide +kernel, rfl, rfl, by decide, tb_5 (List.mem_of_getElem? (i := 196) (by decide +kernel)) rfl⟩, by decide, rfl⟩
theorem dX11_image_4 : Ins mX11_image 4 (.aload_n 0) 1 5 := ⟨by decide +kernel, rfl⟩
theorem dX11_image_5 : GgR mX11_image 5 8 10 1 := ⟨1, rfl, ⟨13, _, by decide +kernel, rfl, rfl, by decide, tb_5 (List.mem_of_getElem? (i := 197) (by decide +kernel)) rfl⟩, by decide, rfl⟩
theorem dX11_image_8 : CalS mX11_image 8 11 mX11_copy := ⟨59, by decide +kernel, rfl, Or.inl (tb_5 (List.mem_of_getElem? (i := 193) (by decide +kernel)) rfl), meX11_copy⟩
theorem dX11_image_11 : Ins mX11_image 11 (.aload_n 0) 1 12 := ⟨by decide +kernel, rfl⟩
theorem dX11_image_12 : GgR mX11_image 12 15 10 0 := ⟨0, rfl, ⟨7, _, by decide +kernel, rfl, rfl, by decide, tb_5 (List.mem_of_getElem? (i := 196) (by decide +kernel)) rfl⟩, by decide, rfl⟩
theorem dX11_image_15 : Ins mX11_image 15 (.bipush 10) 2 17 := ⟨by decide +kernel, rfl⟩
theorem dX11_image_17 : Ins mX11_image 17 (.iaload) 1 18 := ⟨by decide +kernel, rfl⟩
theorem dX11_image_18 : Ins mX11_image 18 (.ireturn) 1 19 := ⟨by decide +kernel, rfl⟩
theorem dX11_back_0 : Ins mX11_back 0 (.aload_n 0) 1 1 := ⟨by decide +kernel, rfl⟩
theorem dX11_back_1 : GgR mX11_back 1 4 10 1 := ⟨1, rfl, ⟨13, _, by decide +kernel, rfl, rfl, by decide, tb_5 (List.mem_of_getElem? (i := 197) (by decide +kernel)) rfl⟩, by decide, rfl⟩
theorem dX11_back_4 : Ins mX11_back 4 (.aload_n 0) 1 5 := ⟨by decide +kernel, rfl⟩
theorem dX11_back_5 : GgR mX11_back 5 8 10 0 := ⟨0, rfl, ⟨7, _, by decide +kernel, rfl, rfl, by decide, tb_5 (List.mem_of_getElem? (i := 196) (by decide +kernel)) rfl⟩, by decide, rfl⟩
theorem dX11_back_8 : CalS mX11_back 8 11 mX11_copy := ⟨59, by decide +kernel, rfl, Or.inl (tb_5 (List.mem_of_getElem? (i := 193) (by decide +kernel)) rfl), meX11_copy⟩
theorem dX11_back_11 : Ins mX11_back 11 (.aload_n 0) 1 12 := ⟨by decide +kernel, rfl⟩
theorem dX11_back_12 : GgR mX11_back 12 15 10 0 := ⟨0, rfl, ⟨7, _, by decide +kernel, rfl, rfl, by decide, tb_5 (List.mem_of_getElem? (i := 196) (by decide +kernel)) rfl⟩, by decide, rfl⟩
theorem dX11_back_15 : Ins mX11_back 15 (.bipush 10) 2 17 := ⟨by decide +kernel, rfl⟩
theorem dX11_back_17 : Ins mX11_back 17 (.iaload) 1 18 := ⟨by decide +kernel, rfl⟩
theorem dX11_back_18 : Ins mX11_back 18 (.ireturn) 1 19 := ⟨by decide +kernel, rfl⟩
theorem dX11_about_0 : Ins mX11_about 0 (.iload_n 1) 1 1 := ⟨by decide +kernel, rfl⟩
theorem dX11_about_1 : Ins mX11_about 1 (.iconst 0) 1 2 := ⟨by decide +kernel, rfl⟩
theorem dX11_about_2 : Ins mX11_about 2 (.bipush 8) 2 4 := ⟨by decide +kernel, rfl⟩
theorem dX11_about_4 : CalS mX11_about 4 7 mX11_isIn := ⟨63, by decide +kernel, rfl, Or.inl (tb_6 (List.mem_of_getElem? (i := 50) (by decide +kernel)) rfl), meX11_isIn⟩
theorem dX11_about_7 : Ins mX11_about 7 (.ifCond .eq 12) 3 10 := ⟨by decide +kernel, rfl⟩
theorem dX11_about_10 : Ins mX11_about 10 (.aload_n 0) 1 11 := ⟨by decide +kernel, rfl⟩
theorem dX11_about_11 : GgR mX11_about 11 14 10 0 := ⟨0, rfl, ⟨7, _, by decide +kernel, rfl, rfl, by decide, tb_5 (List.mem_of_getElem? (i := 196) (by decide +kernel)) rfl⟩, by decide, rfl⟩
theorem dX11_about_14 : Ins mX11_about 14 (.iload_n 1) 1 15 := ⟨by decide +kernel, rfl⟩
theorem dX11_about_15 : Ins mX11_about 15 (.iaload) 1 16 := ⟨by decide +kernel, rfl⟩
theorem dX11_about_16 : Ins mX11_about 16 (.goto 18) 3 19 := ⟨by decide +kernel, rfl⟩
theorem dX11_about_19 : Ins mX11_about 19 (.iload_n 1) 1 20 := ⟨by decide +kernel, rfl⟩
theorem dX11_about_20 : Ins mX11_about 20 (.bipush 9) 2 22 := ⟨by decide +kernel, rfl⟩
theorem dX11_about_22 : Ins mX11_about 22 (.if_icmp .ne 10) 3 25 := ⟨by decide +kernel, rfl⟩
theorem dX11_about_25 : Ins mX11_about 25 (.aload_n 0) 1 26 := ⟨by decide +kernel, rfl⟩
theorem dX11_about_26 : GgI mX11_about 26 29 10 4 := ⟨4, rfl, ⟨92, _, by decide +kernel, rfl, rfl, by decide, tb_5 (List.mem_of_getElem? (i := 200) (by decide +kernel)) rfl⟩, by decide, rfl⟩
theorem dX11_about_29 : Ins mX11_about 29 (.goto 5) 3 32 := ⟨by decide +kernel, rfl⟩
theorem dX11_about_32 : Ins mX11_about 32 (.bipush (-2)) 2 34 := ⟨by decide +kernel, rfl⟩
theorem dX11_about_34 : Ins mX11_about 34 (.ireturn) 1 35 := ⟨by decide +kernel, rfl⟩
theorem dJ6_bitCount_0f7a4_0 : Ins mJ6_bitCount_0f7a4 0 (.iload_n 0) 1 1 := ⟨by decide +kernel, rfl⟩
theorem dJ6_bitCount_0f7a4_1 : Ins mJ6_bitCount_0f7a4 1 (.iload_n 0) 1 2 := ⟨by decide +kernel, rfl⟩
theorem dJ6_bitCount_0f7a4_2 : Ins mJ6_bitCount_0f7a4 2 (.iconst 1) 1 3 := ⟨by decide +kernel, rfl⟩
theorem dJ6_bitCount_0f7a4_3 : Ins mJ6_bitCount_0f7a4 3 (.iushr) 1 4 := ⟨by decide +kernel, rfl⟩
theorem dJ6_bitCount_0f7a4_4 : LdcI mJ6_bitCount_0f7a4 4 7 (1431655765) := ⟨265, _, Or.inr ⟨by decide +kernel, rfl⟩, tb_3 (List.mem_of_getElem? (i := 230) (by decide +kernel)) rfl, rfl⟩
theorem dJ6_bitCount_0f7a4_7 : Ins mJ6_bitCount_0f7a4 7 (.iand) 1 8 := ⟨by decide +kernel, rfl⟩
theorem dJ6_bitCount_0f7a4_8 : Ins mJ6_bitCount_0f7a4 8 (.isub) 1 9 := ⟨by decide +kernel, rfl⟩
theorem dJ6_bitCount_0f7a4_9 : Ins mJ6_bitCount_0f7a4 9 (.istore_n 0) 1 10 := ⟨by decide +kernel, rfl⟩
theorem dJ6_bitCount_0f7a4_10 : Ins mJ6_bitCount_0f7a4 10 (.iload_n 0) 1 11 := ⟨by decide +kernel, rfl⟩
theorem dJ6_bitCount_0f7a4_11 : LdcI mJ6_bitCount_0f7a4 11 14 (858993459) := ⟨266, _, Or.inr ⟨by decide +kernel, rfl⟩, tb_3 (List.mem_of_getElem? (i := 231) (by decide +kernel)) rfl, rfl⟩
theorem dJ6_bitCount_0f7a4_14 : Ins mJ6_bitCount_0f7a4 14 (.iand) 1 15 := ⟨by decide +kernel, rfl⟩
theorem dJ6_bitCount_0f7a4_15 : Ins mJ6_bitCount_0f7a4 15 (.iload_n 0) 1 16 := ⟨by decide +kernel, rfl⟩
theorem dJ6_bitCount_0f7a4_16 : Ins mJ6_bitCount_0f7a4 16 (.iconst 2) 1 17 := ⟨by decide +kernel, rfl⟩
theorem dJ6_bitCount_0f7a4_17 : Ins mJ6_bitCount_0f7a4 17 (.iushr) 1 18 := ⟨by decide +kernel, rfl⟩
theorem dJ6_bitCount_0f7a4_18 : LdcI mJ6_bitCount_0f7a4 18 21 (858993459) := ⟨266, _, Or.inr ⟨by decide +kernel, rfl⟩, tb_3 (List.mem_of_getElem? (i := 231) (by decide +kernel)) rfl, rfl⟩
theorem dJ6_bitCount_0f7a4_21 : Ins mJ6_bitCount_0f7a4 21 (.iand) 1 22 := ⟨by decide +kernel, rfl⟩
theorem dJ6_bitCount_0f7a4_22 : Ins mJ6_bitCount_0f7a4 22 (.iadd) 1 23 := ⟨by decide +kernel, rfl⟩
theorem dJ6_bitCount_0f7a4_23 : Ins mJ6_bitCount_0f7a4 23 (.istore_n 0) 1 24 := ⟨by decide +kernel, rfl⟩
theorem dJ6_bitCount_0f7a4_24 : Ins mJ6_bitCount_0f7a4 24 (.iload_n 0) 1 25 := ⟨by decide +kernel, rfl⟩
theorem dJ6_bitCount_0f7a4_25 : Ins mJ6_bitCount_0f7a4 25 (.iload_n 0) 1 26 := ⟨by decide +kernel, rfl⟩
theorem dJ6_bitCount_0f7a4_26 : Ins mJ6_bitCount_0f7a4 26 (.iconst 4) 1 27 := ⟨by decide +kernel, rfl⟩
theorem dJ6_bitCount_0f7a4_27 : Ins mJ6_bitCount_0f7a4 27 (.iushr) 1 28 := ⟨by decide +kernel, rfl⟩
theorem dJ6_bitCount_0f7a4_28 : Ins mJ6_bitCount_0f7a4 28 (.iadd) 1 29 := ⟨by decide +kernel, rfl⟩
theorem dJ6_bitCount_0f7a4_29 : LdcI mJ6_bitCount_0f7a4 29 32 (252645135) := ⟨267, _, Or.inr ⟨by decide +kernel, rfl⟩, tb_3 (List.mem_of_getElem? (i := 232) (by decide +kernel)) rfl, rfl⟩
theorem dJ6_bitCount_0f7a4_32 : Ins mJ6_bitCount_0f7a4 32 (.iand) 1 33 := ⟨by decide +kernel, rfl⟩
theorem dJ6_bitCount_0f7a4_33 : Ins mJ6_bitCount_0f7a4 33 (.istore_n 0) 1 34 := ⟨by decide +kernel, rfl⟩
theorem dJ6_bitCount_0f7a4_34 : Ins mJ6_bitCount_0f7a4 34 (.iload_n 0) 1 35 := ⟨by decide +kernel, rfl⟩
theorem dJ6_bitCount_0f7a4_35 : Ins mJ6_bitCount_0f7a4 35 (.iload_n 0) 1 36 := ⟨by decide +kernel, rfl⟩
theorem dJ6_bitCount_0f7a4_36 : Ins mJ6_bitCount_0f7a4 36 (.bipush 8) 2 38 := ⟨by decide +kernel, rfl⟩
theorem dJ6_bitCount_0f7a4_38 : Ins mJ6_bitCount_0f7a4 38 (.iushr) 1 39 := ⟨by decide +kernel, rfl⟩
theorem dJ6_bitCount_0f7a4_39 : Ins mJ6_bitCount_0f7a4 39 (.iadd) 1 40 := ⟨by decide +kernel, rfl⟩
theorem dJ6_bitCount_0f7a4_40 : Ins mJ6_bitCount_0f7a4 40 (.istore_n 0) 1 41 := ⟨by decide +kernel, rfl⟩
theorem dJ6_bitCount_0f7a4_41 : Ins mJ6_bitCount_0f7a4 41 (.iload_n 0) 1 42 := ⟨by decide +kernel, rfl⟩
theorem dJ6_bitCount_0f7a4_42 : Ins mJ6_bitCount_0f7a4 42 (.iload_n 0) 1 43 := ⟨by decide +kernel, rfl⟩
theorem dJ6_bitCount_0f7a4_43 : Ins mJ6_bitCount_0f7a4 43 (.bipush 16) 2 45 := ⟨by decide +kernel, rfl⟩
theorem dJ6_bitCount_0f7a4_45 : Ins mJ6_bitCount_0f7a4 45 (.iushr) 1 46 := ⟨by decide +kernel, rfl⟩
theorem dJ6_bitCount_0f7a4_46 : Ins mJ6_bitCount_0f7a4 46 (.iadd) 1 47 := ⟨by decide +kernel, rfl⟩
theorem dJ6_bitCount_0f7a4_47 : Ins mJ6_bitCount_0f7a4 47 (.istore_n 0) 1 48 := ⟨by decide +kernel, rfl⟩
theorem dJ6_bitCount_0f7a4_48 : Ins mJ6_bitCount_0f7a4 48 (.iload_n 0) 1 49 := ⟨by decide +kernel, rfl⟩
theorem dJ6_bitCount_0f7a4_49 : Ins mJ6_bitCount_0f7a4 49 (.bipush 63) 2 51 := ⟨by decide +kernel, rfl⟩
theorem dJ6_bitCount_0f7a4_51 : Ins mJ6_bitCount_0f7a4 51 (.iand) 1 52 := ⟨by decide +kernel, rfl⟩
theorem dJ6_bitCount_0f7a4_52 : Ins mJ6_bitCount_0f7a4 52 (.ireturn) 1 53 := ⟨by decide +kernel, rfl⟩
theorem dJ9_abs_067f4_0 : Ins mJ9_abs_067f4 0 (.lload_n 0) 1 1 := ⟨by decide +kernel, rfl⟩
theorem dJ9_abs_067f4_1 : Ins mJ9_abs_067f4 1 (.lconst 0) 1 2 := ⟨by decide +kernel, rfl⟩
theorem dJ9_abs_067f4_2 : Ins mJ9_abs_067f4 2 (.lcmp) 1 3 := ⟨by decide +kernel, rfl⟩
theorem dJ9_abs_067f4_3 : Ins mJ9_abs_067f4 3 (.ifCond .ge 8) 3 6 := ⟨by decide +kernel, rfl⟩
theorem dJ9_abs_067f4_6 : Ins mJ9_abs_067f4 6 (.lload_n 0) 1 7 := ⟨by decide +kernel, rfl⟩
theorem dJ9_abs_067f4_7 : Ins mJ9_abs_067f4 7 (.lneg) 1 8 := ⟨by decide +kernel, rfl⟩
theorem dJ9_abs_067f4_8 : Ins mJ9_abs_067f4 8 (.goto 4) 3 11 := ⟨by decide +kernel, rfl⟩
theorem dJ9_abs_067f4_11 : Ins mJ9_abs_067f4 11 (.lload_n 0) 1 12 := ⟨by decide +kernel, rfl⟩
theorem dJ9_abs_067f4_12 : Ins mJ9_abs_067f4 12 (.lreturn) 1 13 := ⟨by decide +kernel, rfl⟩
theorem dJ9_max_7cf53_0 : Ins mJ9_max_7cf53 0 (.iload_n 0) 1 1 := ⟨by decide +kernel, rfl⟩
theorem dJ9_max_7cf53_1 : Ins mJ9_max_7cf53 1 (.iload_n 1) 1 2 := ⟨by decide +kernel, rfl⟩
theorem dJ9_max_7cf53_2 : Ins mJ9_max_7cf53 2 (.if_icmp .lt 7) 3 5 := ⟨by decide +kernel, rfl⟩
theorem dJ9_max_7cf53_5 : Ins mJ9_max_7cf53 5 (.iload_n 0) 1 6 := ⟨by decide +kernel, rfl⟩
theorem dJ9_max_7cf53_6 : Ins mJ9_max_7cf53 6 (.goto 4) 3 9 := ⟨by decide +kernel, rfl⟩
theorem dJ9_max_7cf53_9 : Ins mJ9_max_7cf53 9 (.iload_n 1) 1 10 := ⟨by decide +kernel, rfl⟩
theorem dJ9_max_7cf53_10 : Ins mJ9_max_7cf53 10 (.ireturn) 1 11 := ⟨by decide +kernel, rfl⟩
theorem dJ9_max_f86c9_0 : Ins mJ9_max_f86c9 0 (.lload_n 0) 1 1 := ⟨by decide +kernel, rfl⟩
theorem dJ9_max_f86c9_1 : Ins mJ9_max_f86c9 1 (.lload_n 2) 1 2 := ⟨by decide +kernel, rfl⟩
theorem dJ9_max_f86c9_2 : Ins mJ9_max_f86c9 2 (.lcmp) 1 3 := ⟨by decide +kernel, rfl⟩
theorem dJ9_max_f86c9_3 : Ins mJ9_max_f86c9 3 (.ifCond .lt 7) 3 6 := ⟨by decide +kernel, rfl⟩
theorem dJ9_max_f86c9_6 : Ins mJ9_max_f86c9 6 (.lload_n 0) 1 7 := ⟨by decide +kernel, rfl⟩
theorem dJ9_max_f86c9_7 : Ins mJ9_max_f86c9 7 (.goto 4) 3 10 := ⟨by decide +kernel, rfl⟩
theorem dJ9_max_f86c9_10 : Ins mJ9_max_f86c9 10 (.lload_n 2) 1 11 := ⟨by decide +kernel, rfl⟩
theorem dJ9_max_f86c9_11 : Ins mJ9_max_f86c9 11 (.lreturn) 1 12 := ⟨by decide +kernel, rfl⟩
theorem dJ9_min_7cf53_0 : Ins mJ9_min_7cf53 0 (.iload_n 0) 1 1 := ⟨by decide +kernel, rfl⟩
theorem dJ9_min_7cf53_1 : Ins mJ9_min_7cf53 1 (.iload_n 1) 1 2 := ⟨by decide +kernel, rfl⟩
theorem dJ9_min_7cf53_2 : Ins mJ9_min_7cf53 2 (.if_icmp .gt 7) 3 5 := ⟨by decide +kernel, rfl⟩
theorem dJ9_min_7cf53_5 : Ins mJ9_min_7cf53 5 (.iload_n 0) 1 6 := ⟨by decide +kernel, rfl⟩
theorem dJ9_min_7cf53_6 : Ins mJ9_min_7cf53 6 (.goto 4) 3 9 := ⟨by decide +kernel, rfl⟩
theorem dJ9_min_7cf53_9 : Ins mJ9_min_7cf53 9 (.iload_n 1) 1 10 := ⟨by decide +kernel, rfl⟩
theorem dJ9_min_7cf53_10 : Ins mJ9_min_7cf53 10 (.ireturn) 1 11 := ⟨by decide +kernel, rfl⟩
theorem dJ9_min_f86c9_0 : Ins mJ9_min_f86c9 0 (.lload_n 0) 1 1 := ⟨by decide +kernel, rfl⟩
theorem dJ9_min_f86c9_1 : Ins mJ9_min_f86c9 1 (.lload_n 2) 1 2 := ⟨by decide +kernel, rfl⟩
theorem dJ9_min_f86c9_2 : Ins mJ9_min_f86c9 2 (.lcmp) 1 3 := ⟨by decide +kernel, rfl⟩
theorem dJ9_min_f86c9_3 : Ins mJ9_min_f86c9 3 (.ifCond .gt 7) 3 6 := ⟨by decide +kernel, rfl⟩
theorem dJ9_min_f86c9_6 : Ins mJ9_min_f86c9 6 (.lload_n 0) 1 7 := ⟨by decide +kernel, rfl⟩
theorem dJ9_min_f86c9_7 : Ins mJ9_min_f86c9 7 (.goto 4) 3 10 := ⟨by decide +kernel, rfl⟩
theorem dJ9_min_f86c9_10 : Ins mJ9_min_f86c9 10 (.lload_n 2) 1 11 := ⟨by decide +kernel, rfl⟩
theorem dJ9_min_f86c9_11 : Ins mJ9_min_f86c9 11 (.lreturn) 1 12 := ⟨by decide +kernel, rfl⟩
theorem dJ0_length_8abf5_0 : Ins mJ0_length_8abf5 0 (.aload_n 0) 1 1 := ⟨by decide +kernel, rfl⟩
theorem dJ0_length_8abf5_1 : Ins mJ0_length_8abf5 1 (.getfield 9) 3 4 := ⟨by decide +kernel, rfl⟩
theorem dJ0_length_8abf5_4 : Ins mJ0_length_8abf5 4 (.arraylength) 1 5 := ⟨by decide +kernel, rfl⟩
theorem dJ0_length_8abf5_5 : Ins mJ0_length_8abf5 5 (.aload_n 0) 1 6 := ⟨by decide +kernel, rfl⟩
theorem dJ0_length_8abf5_6 : Ins mJ0_length_8abf5 6 (.invokevirtual 335) 3 9 := ⟨by decide +kernel, rfl⟩
theorem dJ0_length_8abf5_9 : Ins mJ0_length_8abf5 9 (.ishr) 1 10 := ⟨by decide +kernel, rfl⟩
theorem dJ0_length_8abf5_10 : Ins mJ0_length_8abf5 10 (.ireturn) 1 11 := ⟨by decide +kernel, rfl⟩
theorem dJ0_charAt_5068e_0 : Ins mJ0_charAt_5068e 0 (.aload_n 0) 1 1 := ⟨by decide +kernel, rfl⟩
theorem dJ0_charAt_5068e_1 : Ins mJ0_charAt_5068e 1 (.invokevirtual 492) 3 4 := ⟨by decide +kernel, rfl⟩
theorem dJ0_charAt_5068e_4 : Ins mJ0_charAt_5068e 4 (.ifCond .eq 12) 3 7 := ⟨by decide +kernel, rfl⟩
theorem dJ0_charAt_5068e_7 : Ins mJ0_charAt_5068e 7 (.aload_n 0) 1 8 := ⟨by decide +kernel, rfl⟩
theorem dJ0_charAt_5068e_8 : Ins mJ0_charAt_5068e 8 (.getfield 9) 3 11 := ⟨by decide +kernel, rfl⟩
theorem dJ0_charAt_5068e_11 : Ins mJ0_charAt_5068e 11 (.iload_n 1) 1 12 := ⟨by decide +kernel, rfl⟩
theorem dJ0_charAt_5068e_12 : CalS mJ0_charAt_5068e 12 15 mJ1_charAt_3b067 := ⟨495, by decide +kernel, rfl, Or.inl (tb_2 (List.mem_of_getElem? (i := 171) (by decide +kernel)) rfl), meJ1_charAt_3b067⟩
theorem dJ0_charAt_5068e_15 : Ins mJ0_charAt_5068e 15 (.ireturn) 1 16 := ⟨by decide +kernel, rfl⟩
theorem dJ0_charAt_5068e_16 : Ins mJ0_charAt_5068e 16 (.aload_n 0) 1 17 := ⟨by decide +kernel, rfl⟩
theorem dJ0_charAt_5068e_17 : Ins mJ0_charAt_5068e 17 (.getfield 9) 3 20 := ⟨by decide +kernel, rfl⟩
theorem dJ0_charAt_5068e_20 : Ins mJ0_charAt_5068e 20 (.iload_n 1) 1 21 := ⟨by decide +kernel, rfl⟩
theorem dJ0_charAt_5068e_21 : CalS mJ0_charAt_5068e 21 24 mJ2_charAt_3b067 := ⟨498, by decide +kernel, rfl, Or.inl (tb_2 (List.mem_of_getElem? (i := 182) (by decide +kernel)) rfl), meJ2_charAt_3b067⟩
theorem dJ0_charAt_5068e_24 : Ins mJ0_charAt_5068e 24 (.ireturn) 1 25 := ⟨by decide +kernel, rfl⟩
theorem dJ0_coder_7d493_0 : Ins mJ0_coder_7d493 0 (.getstatic 38) 3 3 := ⟨by decide +kernel, rfl⟩
theorem dJ0_coder_7d493_3 : Ins mJ0_coder_7d493 3 (.ifCond .eq 10) 3 6 := ⟨by decide +kernel, rfl⟩
theorem dJ0_coder_7d493_6 : Ins mJ0_coder_7d493 6 (.aload_n 0) 1 7 := ⟨by decide +kernel, rfl⟩
theorem dJ0_coder_7d493_7 : Ins mJ0_coder_7d493 7 (.getfield 15) 3 10 := ⟨by decide +kernel, rfl⟩
theorem dJ0_coder_7d493_10 : Ins mJ0_coder_7d493 10 (.goto 4) 3 13 := ⟨by decide +kernel, rfl⟩
theorem dJ0_coder_7d493_13 : Ins mJ0_coder_7d493 13 (.iconst 1) 1 14 := ⟨by decide +kernel, rfl⟩
theorem dJ0_coder_7d493_14 : Ins mJ0_coder_7d493 14 (.ireturn) 1 15 := ⟨by decide +kernel, rfl⟩
theorem dJ0_isLatin1_aae02_0 : Ins mJ0_isLatin1_aae02 0 (.getstatic 38) 3 3 := ⟨by decide +kernel, rfl⟩
theorem dJ0_isLatin1_aae02_3 : Ins mJ0_isLatin1_aae02 3 (.ifCond .eq 14) 3 6 := ⟨by decide +kernel, rfl⟩
theorem dJ0_isLatin1_aae02_6 : Ins mJ0_isLatin1_aae02 6 (.aload_n 0) 1 7 := ⟨by decide +kernel, rfl⟩
theorem dJ0_isLatin1_aae02_7 : Ins mJ0_isLatin1_aae02 7 (.getfield 15) 3 10 := ⟨by decide +kernel, rfl⟩
theorem dJ0_isLatin1_aae02_10 : Ins mJ0_isLatin1_aae02 10 (.ifCond .ne 7) 3 13 := ⟨by decide +kernel, rfl⟩
theorem dJ0_isLatin1_aae02_13 : Ins mJ0_isLatin1_aae02 13 (.iconst 1) 1 14 := ⟨by decide +kernel, rfl⟩
theorem dJ0_isLatin1_aae02_14 : Ins mJ0_isLatin1_aae02 14 (.goto 4) 3 17 := ⟨by decide +kernel, rfl⟩
theorem dJ0_isLatin1_aae02_17 : Ins mJ0_isLatin1_aae02 17 (.iconst 0) 1 18 := ⟨by decide +kernel, rfl⟩
theorem dJ0_isLatin1_aae02_18 : Ins mJ0_isLatin1_aae02 18 (.ireturn) 1 19 := ⟨by decide +kernel, rfl⟩
theorem dJ0_checkIndex_df160_0 : Ins mJ0_checkIndex_df160 0 (.iload_n 0) 1 1 := ⟨by decide +kernel, rfl⟩
theorem dJ0_checkIndex_df160_1 : Ins mJ0_checkIndex_df160 1 (.iload_n 1) 1 2 := ⟨by decide +kernel, rfl⟩
theorem dJ0_checkIndex_df160_2 : Ins mJ0_checkIndex_df160 2 (.getstatic 1053) 3 5 := ⟨by decide +kernel, rfl⟩
theorem dJ0_checkIndex_df160_5 : CalS mJ0_checkIndex_df160 5 8 mJ3_checkIndex_8e157 := ⟨1059, by decide +kernel, rfl, Or.inl (tb_2 (List.mem_of_getElem? (i := 179) (by decide +kernel)) rfl), meJ3_checkIndex_8e157⟩
theorem dJ0_checkIndex_df160_8 : Ins mJ0_checkIndex_df160 8 (.pop) 1 9 := ⟨by decide +kernel, rfl⟩
theorem dJ0_checkIndex_df160_9 : Ins mJ0_checkIndex_df160 9 (.return_) 1 10 := ⟨by decide +kernel, rfl⟩
theorem dJ1_charAt_3b067_0 : Ins mJ1_charAt_3b067 0 (.iload_n 1) 1 1 := ⟨by decide +kernel, rfl⟩
theorem dJ1_charAt_3b067_1 : Ins mJ1_charAt_3b067 1 (.aload_n 0) 1 2 := ⟨by decide +kernel, rfl⟩
theorem dJ1_charAt_3b067_2 : Ins mJ1_charAt_3b067 2 (.arraylength) 1 3 := ⟨by decide +kernel, rfl⟩
theorem dJ1_charAt_3b067_3 : CalS mJ1_charAt_3b067 3 6 mJ0_checkIndex_df160 := ⟨9, by decide +kernel, rfl, Or.inl (tb_2 (List.mem_of_getElem? (i := 174) (by decide +kernel)) rfl), meJ0_checkIndex_df160⟩
theorem dJ1_charAt_3b067_6 : Ins mJ1_charAt_3b067 6 (.aload_n 0) 1 7 := ⟨by decide +kernel, rfl⟩
theorem dJ1_charAt_3b067_7 : Ins mJ1_charAt_3b067 7 (.iload_n 1) 1 8 := ⟨by decide +kernel, rfl⟩
theorem dJ1_charAt_3b067_8 : Ins mJ1_charAt_3b067 8 (.baload) 1 9 := ⟨by decide +kernel, rfl⟩
theorem dJ1_charAt_3b067_9 : Ins mJ1_charAt_3b067 9 (.sipush 255) 3 12 := ⟨by decide +kernel, rfl⟩
theorem dJ1_charAt_3b067_12 : Ins mJ1_charAt_3b067 12 (.iand) 1 13 := ⟨by decide +kernel, rfl⟩
theorem dJ1_charAt_3b067_13 : Ins mJ1_charAt_3b067 13 (.i2c) 1 14 := ⟨by decide +kernel, rfl⟩
theorem dJ1_charAt_3b067_14 : Ins mJ1_charAt_3b067 14 (.ireturn) 1 15 := ⟨by decide +kernel, rfl⟩
theorem dJ2_getChar_3b067_0 : Ins mJ2_getChar_3b067 0 (.getstatic 44) 3 3 := ⟨by decide +kernel, rfl⟩
theorem dJ2_getChar_3b067_3 : Ins mJ2_getChar_3b067 3 (.ifCond .ne 25) 3 6 := ⟨by decide +kernel, rfl⟩
theorem dJ2_getChar_3b067_6 : Ins mJ2_getChar_3b067 6 (.iload_n 1) 1 7 := ⟨by decide +kernel, rfl⟩
theorem dJ2_getChar_3b067_7 : Ins mJ2_getChar_3b067 7 (.ifCond .lt 11) 3 10 := ⟨by decide +kernel, rfl⟩
theorem dJ2_getChar_3b067_10 : Ins mJ2_getChar_3b067 10 (.iload_n 1) 1 11 := ⟨by decide +kernel, rfl⟩
theorem dJ2_getChar_3b067_11 : Ins mJ2_getChar_3b067 11 (.aload_n 0) 1 12 := ⟨by decide +kernel, rfl⟩
theorem dJ2_getChar_3b067_12 : CalS mJ2_getChar_3b067 12 15 mJ2_length_9d52b := ⟨48, by decide +kernel, rfl, Or.inl (tb_2 (List.mem_of_getElem? (i := 188) (by decide +kernel)) rfl), meJ2_length_9d52b⟩
theorem dJ2_getChar_3b067_15 : Ins mJ2_getChar_3b067 15 (.if_icmp .lt 13) 3 18 := ⟨by decide +kernel, rfl⟩
theorem dJ2_getChar_3b067_18 : Ins mJ2_getChar_3b067 18 (.new 52) 3 21 := ⟨by decide +kernel, rfl⟩
theorem dJ2_getChar_3b067_21 : Ins mJ2_getChar_3b067 21 (.dup) 1 22 := ⟨by decide +kernel, rfl⟩
theorem dJ2_getChar_3b067_22 : Ins mJ2_getChar_3b067 22 (.ldc 54) 2 24 := ⟨by decide +kernel, rfl⟩
theorem dJ2_getChar_3b067_24 : Ins mJ2_getChar_3b067 24 (.invokespecial 56) 3 27 := ⟨by decide +kernel, rfl⟩
theorem dJ2_getChar_3b067_27 : Ins mJ2_getChar_3b067 27 (.athrow) 1 28 := ⟨by decide +kernel, rfl⟩
theorem dJ2_getChar_3b067_28 : Ins mJ2_getChar_3b067 28 (.iload_n 1) 1 29 := ⟨by decide +kernel, rfl⟩
theorem dJ2_getChar_3b067_29 : Ins mJ2_getChar_3b067 29 (.iconst 1) 1 30 := ⟨by decide +kernel, rfl⟩
theorem dJ2_getChar_3b067_30 : Ins mJ2_getChar_3b067 30 (.ishl) 1 31 := ⟨by decide +kernel, rfl⟩
theorem dJ2_getChar_3b067_31 : Ins mJ2_getChar_3b067 31 (.istore_n 1) 1 32 := ⟨by decide +kernel, rfl⟩
theorem dJ2_getChar_3b067_32 : Ins mJ2_getChar_3b067 32 (.aload_n 0) 1 33 := ⟨by decide +kernel, rfl⟩
theorem dJ2_getChar_3b067_33 : Ins mJ2_getChar_3b067 33 (.iload_n 1) 1 34 := ⟨by decide +kernel, rfl⟩
theorem dJ2_getChar_3b067_34 : Ins mJ2_getChar_3b067 34 (.iinc 1 1) 3 37 := ⟨by decide +kernel, rfl⟩
theorem dJ2_getChar_3b067_37 : Ins mJ2_getChar_3b067 37 (.baload) 1 38 := ⟨by decide +kernel, rfl⟩
theorem dJ2_getChar_3b067_38 : Ins mJ2_getChar_3b067 38 (.sipush 255) 3 41 := ⟨by decide +kernel, rfl⟩
theorem dJ2_getChar_3b067_41 : Ins mJ2_getChar_3b067 41 (.iand) 1 42 := ⟨by decide +kernel, rfl⟩
theorem dJ2_getChar_3b067_42 : Ins mJ2_getChar_3b067 42 (.getstatic 59) 3 45 := ⟨by decide +kernel, rfl⟩
theorem dJ2_getChar_3b067_45 : Ins mJ2_getChar_3b067 45 (.ishl) 1 46 := ⟨by decide +kernel, rfl⟩
theorem dJ2_getChar_3b067_46 : Ins mJ2_getChar_3b067 46 (.aload_n 0) 1 47 := ⟨by decide +kernel, rfl⟩
theorem dJ2_getChar_3b067_47 : Ins mJ2_getChar_3b067 47 (.iload_n 1) 1 48 := ⟨by decide +kernel, rfl⟩
theorem dJ2_getChar_3b067_48 : Ins mJ2_getChar_3b067 48 (.baload) 1 49 := ⟨by decide +kernel, rfl⟩
theorem dJ2_getChar_3b067_49 : Ins mJ2_getChar_3b067 49 (.sipush 255) 3 52 := ⟨by decide +kernel, rfl⟩
theorem dJ2_getChar_3b067_52 : Ins mJ2_getChar_3b067 52 (.iand) 1 53 := ⟨by decide +kernel, rfl⟩
theorem dJ2_getChar_3b067_53 : Ins mJ2_getChar_3b067 53 (.getstatic 63) 3 56 := ⟨by decide +kernel, rfl⟩
theorem dJ2_getChar_3b067_56 : Ins mJ2_getChar_3b067 56 (.ishl) 1 57 := ⟨by decide +kernel, rfl⟩
theorem dJ2_getChar_3b067_57 : Ins mJ2_getChar_3b067 57 (.ior) 1 58 := ⟨by decide +kernel, rfl⟩
theorem dJ2_getChar_3b067_58 : Ins mJ2_getChar_3b067 58 (.i2c) 1 59 := ⟨by decide +kernel, rfl⟩
theorem dJ2_getChar_3b067_59 : Ins mJ2_getChar_3b067 59 (.ireturn) 1 60 := ⟨by decide +kernel, rfl⟩
theorem dJ2_length_9d52b_0 : Ins mJ2_length_9d52b 0 (.aload_n 0) 1 1 := ⟨by decide +kernel, rfl⟩
theorem dJ2_length_9d52b_1 : Ins mJ2_length_9d52b 1 (.arraylength) 1 2 := ⟨by decide +kernel, rfl⟩
theorem dJ2_length_9d52b_2 : Ins mJ2_length_9d52b 2 (.iconst 1) 1 3 := ⟨by decide +kernel, rfl⟩
theorem dJ2_length_9d52b_3 : Ins mJ2_length_9d52b 3 (.ishr) 1 4 := ⟨by decide +kernel, rfl⟩
theorem dJ2_length_9d52b_4 : Ins mJ2_length_9d52b 4 (.ireturn) 1 5 := ⟨by decide +kernel, rfl⟩
theorem dJ2_charAt_3b067_0 : Ins mJ2_charAt_3b067 0 (.iload_n 1) 1 1 := ⟨by decide +kernel, rfl⟩
theorem dJ2_charAt_3b067_1 : Ins mJ2_charAt_3b067 1 (.aload_n 0) 1 2 := ⟨by decide +kernel, rfl⟩
theorem dJ2_charAt_3b067_2 : CalS mJ2_charAt_3b067 2 5 mJ2_checkIndex_2214a := ⟨67, by decide +kernel, rfl, Or.inl (tb_2 (List.mem_of_getElem? (i := 185) (by decide +kernel)) rfl), meJ2_checkIndex_2214a⟩
theorem dJ2_charAt_3b067_5 : Ins mJ2_charAt_3b067 5 (.aload_n 0) 1 6 := ⟨by decide +kernel, rfl⟩
theorem dJ2_charAt_3b067_6 : Ins mJ2_charAt_3b067 6 (.iload_n 1) 1 7 := ⟨by decide +kernel, rfl⟩
theorem dJ2_charAt_3b067_7 : CalS mJ2_charAt_3b067 7 10 mJ2_getChar_3b067 := ⟨71, by decide +kernel, rfl, Or.inl (tb_2 (List.mem_of_getElem? (i := 192) (by decide +kernel)) rfl), meJ2_getChar_3b067⟩
theorem dJ2_charAt_3b067_10 : Ins mJ2_charAt_3b067 10 (.ireturn) 1 11 := ⟨by decide +kernel, rfl⟩
theorem dJ2_checkIndex_2214a_0 : Ins mJ2_checkIndex_2214a 0 (.iload_n 0) 1 1 := ⟨by decide +kernel, rfl⟩
theorem dJ2_checkIndex_2214a_1 : Ins mJ2_checkIndex_2214a 1 (.aload_n 1) 1 2 := ⟨by decide +kernel, rfl⟩
theorem dJ2_checkIndex_2214a_2 : CalS mJ2_checkIndex_2214a 2 5 mJ2_length_9d52b := ⟨48, by decide +kernel, rfl, Or.inl (tb_2 (List.mem_of_getElem? (i := 188) (by decide +kernel)) rfl), meJ2_length_9d52b⟩
theorem dJ2_checkIndex_2214a_5 : CalS mJ2_checkIndex_2214a 5 8 mJ0_checkIndex_df160 := ⟨414, by decide +kernel, rfl, Or.inl (tb_2 (List.mem_of_getElem? (i := 191) (by decide +kernel)) rfl), meJ0_checkIndex_df160⟩
theorem dJ2_checkIndex_2214a_8 : Ins mJ2_checkIndex_2214a 8 (.return_) 1 9 := ⟨by decide +kernel, rfl⟩
theorem dJ7_fill_53178_0 : Ins mJ7_fill_53178 0 (.iconst 0) 1 1 := ⟨by decide +kernel, rfl⟩
theorem dJ7_fill_53178_1 : Ins mJ7_fill_53178 1 (.istore_n 2) 1 2 := ⟨by decide +kernel, rfl⟩
theorem dJ7_fill_53178_2 : Ins mJ7_fill_53178 2 (.aload_n 0) 1 3 := ⟨by decide +kernel, rfl⟩
theorem dJ7_fill_53178_3 : Ins mJ7_fill_53178 3 (.arraylength) 1 4 := ⟨by decide +kernel, rfl⟩
theorem dJ7_fill_53178_4 : Ins mJ7_fill_53178 4 (.istore_n 3) 1 5 := ⟨by decide +kernel, rfl⟩
theorem dJ7_fill_53178_5 : Ins mJ7_fill_53178 5 (.iload_n 2) 1 6 := ⟨by decide +kernel, rfl⟩
theorem dJ7_fill_53178_6 : Ins mJ7_fill_53178 6 (.iload_n 3) 1 7 := ⟨by decide +kernel, rfl⟩
theorem dJ7_fill_53178_7 : Ins mJ7_fill_53178 7 (.if_icmp .ge 13) 3 10 := ⟨by decide +kernel, rfl⟩
theorem dJ7_fill_53178_10 : Ins mJ7_fill_53178 10 (.aload_n 0) 1 11 := ⟨by decide +kernel, rfl⟩
theorem dJ7_fill_53178_11 : Ins mJ7_fill_53178 11 (.iload_n 2) 1 12 := ⟨by decide +kernel, rfl⟩
theorem dJ7_fill_53178_12 : Ins mJ7_fill_53178 12 (.iload_n 1) 1 13 := ⟨by decide +kernel, rfl⟩
theorem dJ7_fill_53178_13 : Ins mJ7_fill_53178 13 (.iastore) 1 14 := ⟨by decide +kernel, rfl⟩
theorem dJ7_fill_53178_14 : Ins mJ7_fill_53178 14 (.iinc 2 1) 3 17 := ⟨by decide +kernel, rfl⟩
theorem dJ7_fill_53178_17 : Ins mJ7_fill_53178 17 (.goto (-12)) 3 20 := ⟨by decide +kernel, rfl⟩
theorem dJ7_fill_53178_20 : Ins mJ7_fill_53178 20 (.return_) 1 21 := ⟨by decide +kernel, rfl⟩
theorem dJ3_checkIndex_8e157_0 : Ins mJ3_checkIndex_8e157 0 (.iload_n 0) 1 1 := ⟨by decide +kernel, rfl⟩
theorem dJ3_checkIndex_8e157_1 : Ins mJ3_checkIndex_8e157 1 (.ifCond .lt 8) 3 4 := ⟨by decide +kernel, rfl⟩
theorem dJ3_checkIndex_8e157_4 : Ins mJ3_checkIndex_8e157 4 (.iload_n 0) 1 5 := ⟨by decide +kernel, rfl⟩
theorem dJ3_checkIndex_8e157_5 : Ins mJ3_checkIndex_8e157 5 (.iload_n 1) 1 6 := ⟨by decide +kernel, rfl⟩
theorem dJ3_checkIndex_8e157_6 : Ins mJ3_checkIndex_8e157 6 (.if_icmp .lt 10) 3 9 := ⟨by decide +kernel, rfl⟩
theorem dJ3_checkIndex_8e157_9 : Ins mJ3_checkIndex_8e157 9 (.aload_n 2) 1 10 := ⟨by decide +kernel, rfl⟩
theorem dJ3_checkIndex_8e157_10 : Ins mJ3_checkIndex_8e157 10 (.iload_n 0) 1 11 := ⟨by decide +kernel, rfl⟩
theorem dJ3_checkIndex_8e157_11 : Ins mJ3_checkIndex_8e157 11 (.iload_n 1) 1 12 := ⟨by decide +kernel, rfl⟩
theorem dJ3_checkIndex_8e157_12 : Ins mJ3_checkIndex_8e157 12 (.invokestatic 95) 3 15 := ⟨by decide +kernel, rfl⟩
theorem dJ3_checkIndex_8e157_15 : Ins mJ3_checkIndex_8e157 15 (.athrow) 1 16 := ⟨by decide +kernel, rfl⟩
theorem dJ3_checkIndex_8e157_16 : Ins mJ3_checkIndex_8e157 16 (.iload_n 0) 1 17 := ⟨by decide +kernel, rfl⟩
theorem dJ3_checkIndex_8e157_17 : Ins mJ3_checkIndex_8e157 17 (.ireturn) 1 18 := ⟨by decide +kernel, rfl⟩
