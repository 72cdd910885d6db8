-- a fact for each instruction, by wip/whole/gen/ins.py
theorem dX3_kindOf_0 : Ins mX3_kindOf 0 (.aload_n 0) 1 1 := ⟨by decide +kernel, rfl⟩
theorem dX3_kindOf_1 : Ins mX3_kindOf 1 (.iload_n 1) 1 2 := ⟨by decide +kernel, rfl⟩
theorem dX3_kindOf_2 : CalV mX3_kindOf 2 5 mX3_byteAt := ⟨71, by decide +kernel, rfl, tb_2 (List.mem_of_getElem? (i := 129) (by decide +kernel)) rfl, meX3_byteAt⟩
theorem dX3_kindOf_5 : Ins mX3_kindOf 5 (.istore_n 3) 1 6 := ⟨by decide +kernel, rfl⟩
theorem dX3_kindOf_6 : Ins mX3_kindOf 6 (.iload_n 3) 1 7 := ⟨by decide +kernel, rfl⟩
theorem dX3_kindOf_7 : CalS mX3_kindOf 7 10 mX3_isLetter := ⟨98, by decide +kernel, rfl, Or.inl (tb_2 (List.mem_of_getElem? (i := 137) (by decide +kernel)) rfl), meX3_isLetter⟩
theorem dX3_kindOf_10 : Ins mX3_kindOf 10 (.ifCond .eq 10) 3 13 := ⟨by decide +kernel, rfl⟩
theorem dX3_kindOf_13 : Ins mX3_kindOf 13 (.aload_n 0) 1 14 := ⟨by decide +kernel, rfl⟩
theorem dX3_kindOf_14 : Ins mX3_kindOf 14 (.iload_n 1) 1 15 := ⟨by decide +kernel, rfl⟩
theorem dX3_kindOf_15 : Ins mX3_kindOf 15 (.iload_n 2) 1 16 := ⟨by decide +kernel, rfl⟩
theorem dX3_kindOf_16 : CalV mX3_kindOf 16 19 mX3_wordAt := ⟨105, by decide +kernel, rfl, tb_2 (List.mem_of_getElem? (i := 148) (by decide +kernel)) rfl, meX3_wordAt⟩
theorem dX3_kindOf_19 : Ins mX3_kindOf 19 (.ireturn) 1 20 := ⟨by decide +kernel, rfl⟩
theorem dX3_kindOf_20 : Ins mX3_kindOf 20 (.iload_n 3) 1 21 := ⟨by decide +kernel, rfl⟩
theorem dX3_kindOf_21 : CalS mX3_kindOf 21 24 mX3_isDigit := ⟨102, by decide +kernel, rfl, Or.inl (tb_2 (List.mem_of_getElem? (i := 141) (by decide +kernel)) rfl), meX3_isDigit⟩
theorem dX3_kindOf_24 : Ins mX3_kindOf 24 (.ifCond .eq 6) 3 27 := ⟨by decide +kernel, rfl⟩
theorem dX3_kindOf_27 : Ins mX3_kindOf 27 (.bipush 31) 2 29 := ⟨by decide +kernel, rfl⟩
theorem dX3_kindOf_29 : Ins mX3_kindOf 29 (.ireturn) 1 30 := ⟨by decide +kernel, rfl⟩
theorem dX3_kindOf_30 : Ins mX3_kindOf 30 (.iload_n 2) 1 31 := ⟨by decide +kernel, rfl⟩
theorem dX3_kindOf_31 : Ins mX3_kindOf 31 (.iload_n 1) 1 32 := ⟨by decide +kernel, rfl⟩
theorem dX3_kindOf_32 : Ins mX3_kindOf 32 (.isub) 1 33 := ⟨by decide +kernel, rfl⟩
theorem dX3_kindOf_33 : Ins mX3_kindOf 33 (.iconst 2) 1 34 := ⟨by decide +kernel, rfl⟩
theorem dX3_kindOf_34 : Ins mX3_kindOf 34 (.if_icmp .ne 7) 3 37 := ⟨by decide +kernel, rfl⟩
theorem dX3_kindOf_37 : Ins mX3_kindOf 37 (.iconst 1) 1 38 := ⟨by decide +kernel, rfl⟩
theorem dX3_kindOf_38 : Ins mX3_kindOf 38 (.goto 4) 3 41 := ⟨by decide +kernel, rfl⟩
theorem dX3_kindOf_41 : Ins mX3_kindOf 41 (.iconst 0) 1 42 := ⟨by decide +kernel, rfl⟩
theorem dX3_kindOf_42 : Ins mX3_kindOf 42 (.istore 4) 2 44 := ⟨by decide +kernel, rfl⟩
theorem dX3_kindOf_44 : Ins mX3_kindOf 44 (.iload_n 3) 1 45 := ⟨by decide +kernel, rfl⟩
theorem dX3_kindOf_45 : Ins mX3_kindOf 45 (.tableswitch 180 35 62 #[156, 180, 180, 180, 180, 171, 174, 165, 159, 180, 162, 180, 168, 180, 180, 180, 180, 180, 180, 180, 180, 180, 180, 180, 177, 127, 153, 140]) 127 172 := ⟨by decide +kernel, rfl⟩
theorem dX3_kindOf_172 : Ins mX3_kindOf 172 (.iload 4) 2 174 := ⟨by decide +kernel, rfl⟩
theorem dX3_kindOf_174 : Ins mX3_kindOf 174 (.ifCond .eq 8) 3 177 := ⟨by decide +kernel, rfl⟩
theorem dX3_kindOf_177 : Ins mX3_kindOf 177 (.bipush 33) 2 179 := ⟨by decide +kernel, rfl⟩
theorem dX3_kindOf_179 : Ins mX3_kindOf 179 (.goto 5) 3 182 := ⟨by decide +kernel, rfl⟩
theorem dX3_kindOf_182 : Ins mX3_kindOf 182 (.bipush 32) 2 184 := ⟨by decide +kernel, rfl⟩
theorem dX3_kindOf_184 : Ins mX3_kindOf 184 (.ireturn) 1 185 := ⟨by decide +kernel, rfl⟩
theorem dX3_kindOf_185 : Ins mX3_kindOf 185 (.iload 4) 2 187 := ⟨by decide +kernel, rfl⟩
theorem dX3_kindOf_187 : Ins mX3_kindOf 187 (.ifCond .eq 8) 3 190 := ⟨by decide +kernel, rfl⟩
theorem dX3_kindOf_190 : Ins mX3_kindOf 190 (.bipush 35) 2 192 := ⟨by decide +kernel, rfl⟩
theorem dX3_kindOf_192 : Ins mX3_kindOf 192 (.goto 5) 3 195 := ⟨by decide +kernel, rfl⟩
theorem dX3_kindOf_195 : Ins mX3_kindOf 195 (.bipush 34) 2 197 := ⟨by decide +kernel, rfl⟩
theorem dX3_kindOf_197 : Ins mX3_kindOf 197 (.ireturn) 1 198 := ⟨by decide +kernel, rfl⟩
theorem dX3_kindOf_198 : Ins mX3_kindOf 198 (.bipush 36) 2 200 := ⟨by decide +kernel, rfl⟩
theorem dX3_kindOf_200 : Ins mX3_kindOf 200 (.ireturn) 1 201 := ⟨by decide +kernel, rfl⟩
theorem dX3_kindOf_201 : Ins mX3_kindOf 201 (.bipush 37) 2 203 := ⟨by decide +kernel, rfl⟩
theorem dX3_kindOf_203 : Ins mX3_kindOf 203 (.ireturn) 1 204 := ⟨by decide +kernel, rfl⟩
theorem dX3_kindOf_204 : Ins mX3_kindOf 204 (.bipush 38) 2 206 := ⟨by decide +kernel, rfl⟩
theorem dX3_kindOf_206 : Ins mX3_kindOf 206 (.ireturn) 1 207 := ⟨by decide +kernel, rfl⟩
theorem dX3_kindOf_207 : Ins mX3_kindOf 207 (.bipush 39) 2 209 := ⟨by decide +kernel, rfl⟩
theorem dX3_kindOf_209 : Ins mX3_kindOf 209 (.ireturn) 1 210 := ⟨by decide +kernel, rfl⟩
theorem dX3_kindOf_210 : Ins mX3_kindOf 210 (.bipush 40) 2 212 := ⟨by decide +kernel, rfl⟩
theorem dX3_kindOf_212 : Ins mX3_kindOf 212 (.ireturn) 1 213 := ⟨by decide +kernel, rfl⟩
theorem dX3_kindOf_213 : Ins mX3_kindOf 213 (.bipush 41) 2 215 := ⟨by decide +kernel, rfl⟩
theorem dX3_kindOf_215 : Ins mX3_kindOf 215 (.ireturn) 1 216 := ⟨by decide +kernel, rfl⟩
theorem dX3_kindOf_216 : Ins mX3_kindOf 216 (.bipush 42) 2 218 := ⟨by decide +kernel, rfl⟩
theorem dX3_kindOf_218 : Ins mX3_kindOf 218 (.ireturn) 1 219 := ⟨by decide +kernel, rfl⟩
theorem dX3_kindOf_219 : Ins mX3_kindOf 219 (.bipush 43) 2 221 := ⟨by decide +kernel, rfl⟩
theorem dX3_kindOf_221 : Ins mX3_kindOf 221 (.ireturn) 1 222 := ⟨by decide +kernel, rfl⟩
theorem dX3_kindOf_222 : Ins mX3_kindOf 222 (.bipush 44) 2 224 := ⟨by decide +kernel, rfl⟩
theorem dX3_kindOf_224 : Ins mX3_kindOf 224 (.ireturn) 1 225 := ⟨by decide +kernel, rfl⟩
theorem dX3_kindOf_225 : Ins mX3_kindOf 225 (.bipush 46) 2 227 := ⟨by decide +kernel, rfl⟩
theorem dX3_kindOf_227 : Ins mX3_kindOf 227 (.ireturn) 1 228 := ⟨by decide +kernel, rfl⟩
theorem dX3_wordAt_0 : Ins mX3_wordAt 0 (.iconst 0) 1 1 := ⟨by decide +kernel, rfl⟩
theorem dX3_wordAt_1 : Ins mX3_wordAt 1 (.istore_n 3) 1 2 := ⟨by decide +kernel, rfl⟩
theorem dX3_wordAt_2 : Ins mX3_wordAt 2 (.iconst 0) 1 3 := ⟨by decide +kernel, rfl⟩
theorem dX3_wordAt_3 : Ins mX3_wordAt 3 (.istore 4) 2 5 := ⟨by decide +kernel, rfl⟩
theorem dX3_wordAt_5 : Ins mX3_wordAt 5 (.iconst 1) 1 6 := ⟨by decide +kernel, rfl⟩
theorem dX3_wordAt_6 : Ins mX3_wordAt 6 (.istore 5) 2 8 := ⟨by decide +kernel, rfl⟩
theorem dX3_wordAt_8 : Ins mX3_wordAt 8 (.iconst 0) 1 9 := ⟨by decide +kernel, rfl⟩
theorem dX3_wordAt_9 : Ins mX3_wordAt 9 (.istore 6) 2 11 := ⟨by decide +kernel, rfl⟩
theorem dX3_wordAt_11 : Ins mX3_wordAt 11 (.iload 6) 2 13 := ⟨by decide +kernel, rfl⟩
theorem dX3_wordAt_13 : Ins mX3_wordAt 13 (.ldc 108) 2 15 := ⟨by decide +kernel, rfl⟩
theorem dX3_wordAt_15 : Ins mX3_wordAt 15 (.invokevirtual 110) 3 18 := ⟨by decide +kernel, rfl⟩
theorem dX3_wordAt_18 : Ins mX3_wordAt 18 (.if_icmp .ge 88) 3 21 := ⟨by decide +kernel, rfl⟩
theorem dX3_wordAt_21 : Ins mX3_wordAt 21 (.ldc 108) 2 23 := ⟨by decide +kernel, rfl⟩
theorem dX3_wordAt_23 : Ins mX3_wordAt 23 (.iload 6) 2 25 := ⟨by decide +kernel, rfl⟩
theorem dX3_wordAt_25 : Ins mX3_wordAt 25 (.invokevirtual 115) 3 28 := ⟨by decide +kernel, rfl⟩
theorem dX3_wordAt_28 : Ins mX3_wordAt 28 (.istore 7) 2 30 := ⟨by decide +kernel, rfl⟩
theorem dX3_wordAt_30 : Ins mX3_wordAt 30 (.iload 7) 2 32 := ⟨by decide +kernel, rfl⟩
theorem dX3_wordAt_32 : Ins mX3_wordAt 32 (.bipush 32) 2 34 := ⟨by decide +kernel, rfl⟩
theorem dX3_wordAt_34 : Ins mX3_wordAt 34 (.if_icmp .eq 42) 3 37 := ⟨by decide +kernel, rfl⟩
theorem dX3_wordAt_37 : Ins mX3_wordAt 37 (.iload 5) 2 39 := ⟨by decide +kernel, rfl⟩
theorem dX3_wordAt_39 : Ins mX3_wordAt 39 (.ifCond .eq 28) 3 42 := ⟨by decide +kernel, rfl⟩
theorem dX3_wordAt_42 : Ins mX3_wordAt 42 (.iload_n 1) 1 43 := ⟨by decide +kernel, rfl⟩
theorem dX3_wordAt_43 : Ins mX3_wordAt 43 (.iload 4) 2 45 := ⟨by decide +kernel, rfl⟩
theorem dX3_wordAt_45 : Ins mX3_wordAt 45 (.iadd) 1 46 := ⟨by decide +kernel, rfl⟩
theorem dX3_wordAt_46 : Ins mX3_wordAt 46 (.iload_n 2) 1 47 := ⟨by decide +kernel, rfl⟩
theorem dX3_wordAt_47 : Ins mX3_wordAt 47 (.if_icmp .ge 20) 3 50 := ⟨by decide +kernel, rfl⟩
theorem dX3_wordAt_50 : Ins mX3_wordAt 50 (.aload_n 0) 1 51 := ⟨by decide +kernel, rfl⟩
theorem dX3_wordAt_51 : Ins mX3_wordAt 51 (.iload_n 1) 1 52 := ⟨by decide +kernel, rfl⟩
theorem dX3_wordAt_52 : Ins mX3_wordAt 52 (.iload 4) 2 54 := ⟨by decide +kernel, rfl⟩
theorem dX3_wordAt_54 : Ins mX3_wordAt 54 (.iadd) 1 55 := ⟨by decide +kernel, rfl⟩
theorem dX3_wordAt_55 : CalV mX3_wordAt 55 58 mX3_byteAt := ⟨71, by decide +kernel, rfl, tb_2 (List.mem_of_getElem? (i := 129) (by decide +kernel)) rfl, meX3_byteAt⟩
theorem dX3_wordAt_58 : Ins mX3_wordAt 58 (.iload 7) 2 60 := ⟨by decide +kernel, rfl⟩
theorem dX3_wordAt_60 : Ins mX3_wordAt 60 (.if_icmp .ne 7) 3 63 := ⟨by decide +kernel, rfl⟩
theorem dX3_wordAt_63 : Ins mX3_wordAt 63 (.iconst 1) 1 64 := ⟨by decide +kernel, rfl⟩
theorem dX3_wordAt_64 : Ins mX3_wordAt 64 (.goto 4) 3 67 := ⟨by decide +kernel, rfl⟩
theorem dX3_wordAt_67 : Ins mX3_wordAt 67 (.iconst 0) 1 68 := ⟨by decide +kernel, rfl⟩
theorem dX3_wordAt_68 : Ins mX3_wordAt 68 (.istore 5) 2 70 := ⟨by decide +kernel, rfl⟩
theorem dX3_wordAt_70 : Ins mX3_wordAt 70 (.iinc 4 1) 3 73 := ⟨by decide +kernel, rfl⟩
theorem dX3_wordAt_73 : Ins mX3_wordAt 73 (.goto 27) 3 76 := ⟨by decide +kernel, rfl⟩
theorem dX3_wordAt_76 : Ins mX3_wordAt 76 (.iload 5) 2 78 := ⟨by decide +kernel, rfl⟩
theorem dX3_wordAt_78 : Ins mX3_wordAt 78 (.ifCond .eq 13) 3 81 := ⟨by decide +kernel, rfl⟩
theorem dX3_wordAt_81 : Ins mX3_wordAt 81 (.iload_n 1) 1 82 := ⟨by decide +kernel, rfl⟩
theorem dX3_wordAt_82 : Ins mX3_wordAt 82 (.iload 4) 2 84 := ⟨by decide +kernel, rfl⟩
theorem dX3_wordAt_84 : Ins mX3_wordAt 84 (.iadd) 1 85 := ⟨by decide +kernel, rfl⟩
theorem dX3_wordAt_85 : Ins mX3_wordAt 85 (.iload_n 2) 1 86 := ⟨by decide +kernel, rfl⟩
theorem dX3_wordAt_86 : Ins mX3_wordAt 86 (.if_icmp .ne 5) 3 89 := ⟨by decide +kernel, rfl⟩
theorem dX3_wordAt_89 : Ins mX3_wordAt 89 (.iload_n 3) 1 90 := ⟨by decide +kernel, rfl⟩
theorem dX3_wordAt_90 : Ins mX3_wordAt 90 (.ireturn) 1 91 := ⟨by decide +kernel, rfl⟩
theorem dX3_wordAt_91 : Ins mX3_wordAt 91 (.iinc 3 1) 3 94 := ⟨by decide +kernel, rfl⟩
theorem dX3_wordAt_94 : Ins mX3_wordAt 94 (.iconst 0) 1 95 := ⟨by decide +kernel, rfl⟩
theorem dX3_wordAt_95 : Ins mX3_wordAt 95 (.istore 4) 2 97 := ⟨by decide +kernel, rfl⟩
theorem dX3_wordAt_97 : Ins mX3_wordAt 97 (.iconst 1) 1 98 := ⟨by decide +kernel, rfl⟩
theorem dX3_wordAt_98 : Ins mX3_wordAt 98 (.istore 5) 2 100 := ⟨by decide +kernel, rfl⟩
theorem dX3_wordAt_100 : Ins mX3_wordAt 100 (.iinc 6 1) 3 103 := ⟨by decide +kernel, rfl⟩
theorem dX3_wordAt_103 : Ins mX3_wordAt 103 (.goto (-92)) 3 106 := ⟨by decide +kernel, rfl⟩
theorem dX3_wordAt_106 : Ins mX3_wordAt 106 (.bipush 46) 2 108 := ⟨by decide +kernel, rfl⟩
theorem dX3_wordAt_108 : Ins mX3_wordAt 108 (.ireturn) 1 109 := ⟨by decide +kernel, rfl⟩
theorem dX3_valueOf_0 : Ins mX3_valueOf 0 (.iconst 0) 1 1 := ⟨by decide +kernel, rfl⟩
theorem dX3_valueOf_1 : Ins mX3_valueOf 1 (.istore_n 3) 1 2 := ⟨by decide +kernel, rfl⟩
theorem dX3_valueOf_2 : Ins mX3_valueOf 2 (.iload_n 1) 1 3 := ⟨by decide +kernel, rfl⟩
theorem dX3_valueOf_3 : Ins mX3_valueOf 3 (.istore 4) 2 5 := ⟨by decide +kernel, rfl⟩
theorem dX3_valueOf_5 : Ins mX3_valueOf 5 (.iload 4) 2 7 := ⟨by decide +kernel, rfl⟩
theorem dX3_valueOf_7 : Ins mX3_valueOf 7 (.iload_n 2) 1 8 := ⟨by decide +kernel, rfl⟩
theorem dX3_valueOf_8 : Ins mX3_valueOf 8 (.if_icmp .ge 34) 3 11 := ⟨by decide +kernel, rfl⟩
theorem dX3_valueOf_11 : Ins mX3_valueOf 11 (.sipush 10000) 3 14 := ⟨by decide +kernel, rfl⟩
theorem dX3_valueOf_14 : Ins mX3_valueOf 14 (.iload_n 3) 1 15 := ⟨by decide +kernel, rfl⟩
theorem dX3_valueOf_15 : Ins mX3_valueOf 15 (.bipush 10) 2 17 := ⟨by decide +kernel, rfl⟩
theorem dX3_valueOf_17 : Ins mX3_valueOf 17 (.imul) 1 18 := ⟨by decide +kernel, rfl⟩
theorem dX3_valueOf_18 : Ins mX3_valueOf 18 (.iconst 0) 1 19 := ⟨by decide +kernel, rfl⟩
theorem dX3_valueOf_19 : Ins mX3_valueOf 19 (.aload_n 0) 1 20 := ⟨by decide +kernel, rfl⟩
theorem dX3_valueOf_20 : Ins mX3_valueOf 20 (.iload 4) 2 22 := ⟨by decide +kernel, rfl⟩
theorem dX3_valueOf_22 : CalV mX3_valueOf 22 25 mX3_byteAt := ⟨71, by decide +kernel, rfl, tb_2 (List.mem_of_getElem? (i := 129) (by decide +kernel)) rfl, meX3_byteAt⟩
theorem dX3_valueOf_25 : Ins mX3_valueOf 25 (.bipush 48) 2 27 := ⟨by decide +kernel, rfl⟩
theorem dX3_valueOf_27 : Ins mX3_valueOf 27 (.isub) 1 28 := ⟨by decide +kernel, rfl⟩
theorem dX3_valueOf_28 : CalM mX3_valueOf 28 31 Lib.Math.max.name Lib.Math.max.code 2 (some .int) := ⟨89, by decide +kernel, rfl, tb_2 (List.mem_of_getElem? (i := 205) (by decide +kernel)) rfl, tb_2 (List.mem_of_getElem? (i := 206) (by decide +kernel)) rfl, tb_1 (List.mem_of_getElem? (i := 6) (by decide +kernel)) rfl, tb_2 (List.mem_of_getElem? (i := 207) rfl) rfl⟩
theorem dX3_valueOf_31 : Ins mX3_valueOf 31 (.iadd) 1 32 := ⟨by decide +kernel, rfl⟩
theorem dX3_valueOf_32 : CalM mX3_valueOf 32 35 Lib.Math.min.name Lib.Math.min.code 2 (some .int) := ⟨119, by decide +kernel, rfl, tb_2 (List.mem_of_getElem? (i := 208) (by decide +kernel)) rfl, tb_1 (List.mem_of_getElem? (i := 83) (by decide +kernel)) rfl, tb_1 (List.mem_of_getElem? (i := 6) (by decide +kernel)) rfl, tb_1 (List.mem_of_getElem? (i := 84) rfl) rfl⟩
theorem dX3_valueOf_35 : Ins mX3_valueOf 35 (.istore_n 3) 1 36 := ⟨by decide +kernel, rfl⟩
theorem dX3_valueOf_36 : Ins mX3_valueOf 36 (.iinc 4 1) 3 39 := ⟨by decide +kernel, rfl⟩
theorem dX3_valueOf_39 : Ins mX3_valueOf 39 (.goto (-34)) 3 42 := ⟨by decide +kernel, rfl⟩
theorem dX3_valueOf_42 : Ins mX3_valueOf 42 (.iload_n 3) 1 43 := ⟨by decide +kernel, rfl⟩
theorem dX3_valueOf_43 : Ins mX3_valueOf 43 (.ireturn) 1 44 := ⟨by decide +kernel, rfl⟩
theorem dX3_kind_0 : Ins mX3_kind 0 (.aload_n 0) 1 1 := ⟨by decide +kernel, rfl⟩
theorem dX3_kind_1 : GgI mX3_kind 1 4 2 6 := ⟨6, rfl, ⟨31, _, by decide +kernel, rfl, rfl, by decide, tb_1 (List.mem_of_getElem? (i := 192) (by decide +kernel)) rfl⟩, by decide, rfl⟩
theorem dX3_kind_4 : Ins mX3_kind 4 (.ifCond .lt 26) 3 7 := ⟨by decide +kernel, rfl⟩
theorem dX3_kind_7 : Ins mX3_kind 7 (.aload_n 0) 1 8 := ⟨by decide +kernel, rfl⟩
theorem dX3_kind_8 : GgI mX3_kind 8 11 2 6 := ⟨6, rfl, ⟨31, _, by decide +kernel, rfl, rfl, by decide, tb_1 (List.mem_of_getElem? (i := 192) (by decide +kernel)) rfl⟩, by decide, rfl⟩
theorem dX3_kind_11 : Ins mX3_kind 11 (.aload_n 0) 1 12 := ⟨by decide +kernel, rfl⟩
theorem dX3_kind_12 : GgI mX3_kind 12 15 2 5 := ⟨5, rfl, ⟨28, _, by decide +kernel, rfl, rfl, by decide, tb_1 (List.mem_of_getElem? (i := 191) (by decide +kernel)) rfl⟩, by decide, rfl⟩
theorem dX3_kind_15 : Ins mX3_kind 15 (.if_icmp .ge 15) 3 18 := ⟨by decide +kernel, rfl⟩
theorem dX3_kind_18 : Ins mX3_kind 18 (.aload_n 0) 1 19 := ⟨by decide +kernel, rfl⟩
theorem dX3_kind_19 : GgR mX3_kind 19 22 2 2 := ⟨2, rfl, ⟨19, _, by decide +kernel, rfl, rfl, by decide, tb_1 (List.mem_of_getElem? (i := 188) (by decide +kernel)) rfl⟩, by decide, rfl⟩
theorem dX3_kind_22 : Ins mX3_kind 22 (.aload_n 0) 1 23 := ⟨by decide +kernel, rfl⟩
theorem dX3_kind_23 : GgI mX3_kind 23 26 2 6 := ⟨6, rfl, ⟨31, _, by decide +kernel, rfl, rfl, by decide, tb_1 (List.mem_of_getElem? (i := 192) (by decide +kernel)) rfl⟩, by decide, rfl⟩
theorem dX3_kind_26 : Ins mX3_kind 26 (.iaload) 1 27 := ⟨by decide +kernel, rfl⟩
theorem dX3_kind_27 : Ins mX3_kind 27 (.goto 5) 3 30 := ⟨by decide +kernel, rfl⟩
theorem dX3_kind_30 : Ins mX3_kind 30 (.bipush 45) 2 32 := ⟨by decide +kernel, rfl⟩
theorem dX3_kind_32 : Ins mX3_kind 32 (.ireturn) 1 33 := ⟨by decide +kernel, rfl⟩
theorem dX3_value_0 : Ins mX3_value 0 (.aload_n 0) 1 1 := ⟨by decide +kernel, rfl⟩
theorem dX3_value_1 : GgI mX3_value 1 4 2 6 := ⟨6, rfl, ⟨31, _, by decide +kernel, rfl, rfl, by decide, tb_1 (List.mem_of_getElem? (i := 192) (by decide +kernel)) rfl⟩, by decide, rfl⟩
theorem dX3_value_4 : Ins mX3_value 4 (.ifCond .lt 26) 3 7 := ⟨by decide +kernel, rfl⟩
theorem dX3_value_7 : Ins mX3_value 7 (.aload_n 0) 1 8 := ⟨by decide +kernel, rfl⟩
theorem dX3_value_8 : GgI mX3_value 8 11 2 6 := ⟨6, rfl, ⟨31, _, by decide +kernel, rfl, rfl, by decide, tb_1 (List.mem_of_getElem? (i := 192) (by decide +kernel)) rfl⟩, by decide, rfl⟩
theorem dX3_value_11 : Ins mX3_value 11 (.aload_n 0) 1 12 := ⟨by decide +kernel, rfl⟩
theorem dX3_value_12 : GgI mX3_value 12 15 2 5 := ⟨5, rfl, ⟨28, _, by decide +kernel, rfl, rfl, by decide, tb_1 (List.mem_of_getElem? (i := 191) (by decide +kernel)) rfl⟩, by decide, rfl⟩
theorem dX3_value_15 : Ins mX3_value 15 (.if_icmp .ge 15) 3 18 := ⟨by decide +kernel, rfl⟩
theorem dX3_value_18 : Ins mX3_value 18 (.aload_n 0) 1 19 := ⟨by decide +kernel, rfl⟩
theorem dX3_value_19 : GgR mX3_value 19 22 2 4 := ⟨4, rfl, ⟨25, _, by decide +kernel, rfl, rfl, by decide, tb_1 (List.mem_of_getElem? (i := 190) (by decide +kernel)) rfl⟩, by decide, rfl⟩
theorem dX3_value_22 : Ins mX3_value 22 (.aload_n 0) 1 23 := ⟨by decide +kernel, rfl⟩
theorem dX3_value_23 : GgI mX3_value 23 26 2 6 := ⟨6, rfl, ⟨31, _, by decide +kernel, rfl, rfl, by decide, tb_1 (List.mem_of_getElem? (i := 192) (by decide +kernel)) rfl⟩, by decide, rfl⟩
theorem dX3_value_26 : Ins mX3_value 26 (.iaload) 1 27 := ⟨by decide +kernel, rfl⟩
theorem dX3_value_27 : Ins mX3_value 27 (.goto 4) 3 30 := ⟨by decide +kernel, rfl⟩
theorem dX3_value_30 : Ins mX3_value 30 (.iconst 0) 1 31 := ⟨by decide +kernel, rfl⟩
theorem dX3_value_31 : Ins mX3_value 31 (.ireturn) 1 32 := ⟨by decide +kernel, rfl⟩
theorem dX3_refuse_0 : Ins mX3_refuse 0 (.aload_n 0) 1 1 := ⟨by decide +kernel, rfl⟩
theorem dX3_refuse_1 : GgI mX3_refuse 1 4 2 10 := ⟨10, rfl, ⟨48, _, by decide +kernel, rfl, rfl, by decide, tb_1 (List.mem_of_getElem? (i := 198) (by decide +kernel)) rfl⟩, by decide, rfl⟩
theorem dX3_refuse_4 : Ins mX3_refuse 4 (.ifCond .ne 43) 3 7 := ⟨by decide +kernel, rfl⟩
theorem dX3_refuse_7 : Ins mX3_refuse 7 (.aload_n 0) 1 8 := ⟨by decide +kernel, rfl⟩
theorem dX3_refuse_8 : Ins mX3_refuse 8 (.iload_n 1) 1 9 := ⟨by decide +kernel, rfl⟩
theorem dX3_refuse_9 : GpI mX3_refuse 9 12 2 10 := ⟨10, rfl, ⟨48, _, by decide +kernel, rfl, rfl, by decide, tb_1 (List.mem_of_getElem? (i := 198) (by decide +kernel)) rfl, by decide +kernel, Or.inl rfl⟩, by decide, rfl⟩
theorem dX3_refuse_12 : Ins mX3_refuse 12 (.aload_n 0) 1 13 := ⟨by decide +kernel, rfl⟩
theorem dX3_refuse_13 : Ins mX3_refuse 13 (.aload_n 0) 1 14 := ⟨by decide +kernel, rfl⟩
theorem dX3_refuse_14 : GgI mX3_refuse 14 17 2 6 := ⟨6, rfl, ⟨31, _, by decide +kernel, rfl, rfl, by decide, tb_1 (List.mem_of_getElem? (i := 192) (by decide +kernel)) rfl⟩, by decide, rfl⟩
theorem dX3_refuse_17 : Ins mX3_refuse 17 (.ifCond .lt 26) 3 20 := ⟨by decide +kernel, rfl⟩
theorem dX3_refuse_20 : Ins mX3_refuse 20 (.aload_n 0) 1 21 := ⟨by decide +kernel, rfl⟩
theorem dX3_refuse_21 : GgI mX3_refuse 21 24 2 6 := ⟨6, rfl, ⟨31, _, by decide +kernel, rfl, rfl, by decide, tb_1 (List.mem_of_getElem? (i := 192) (by decide +kernel)) rfl⟩, by decide, rfl⟩
theorem dX3_refuse_24 : Ins mX3_refuse 24 (.aload_n 0) 1 25 := ⟨by decide +kernel, rfl⟩
theorem dX3_refuse_25 : GgI mX3_refuse 25 28 2 5 := ⟨5, rfl, ⟨28, _, by decide +kernel, rfl, rfl, by decide, tb_1 (List.mem_of_getElem? (i := 191) (by decide +kernel)) rfl⟩, by decide, rfl⟩
theorem dX3_refuse_28 : Ins mX3_refuse 28 (.if_icmp .ge 15) 3 31 := ⟨by decide +kernel, rfl⟩
theorem dX3_refuse_31 : Ins mX3_refuse 31 (.aload_n 0) 1 32 := ⟨by decide +kernel, rfl⟩
theorem dX3_refuse_32 : GgR mX3_refuse 32 35 2 3 := ⟨3, rfl, ⟨22, _, by decide +kernel, rfl, rfl, by decide, tb_1 (List.mem_of_getElem? (i := 189) (by decide +kernel)) rfl⟩, by decide, rfl⟩
theorem dX3_refuse_35 : Ins mX3_refuse 35 (.aload_n 0) 1 36 := ⟨by decide +kernel, rfl⟩
theorem dX3_refuse_36 : GgI mX3_refuse 36 39 2 6 := ⟨6, rfl, ⟨31, _, by decide +kernel, rfl, rfl, by decide, tb_1 (List.mem_of_getElem? (i := 192) (by decide +kernel)) rfl⟩, by decide, rfl⟩
theorem dX3_refuse_39 : Ins mX3_refuse 39 (.iaload) 1 40 := ⟨by decide +kernel, rfl⟩
theorem dX3_refuse_40 : Ins mX3_refuse 40 (.goto 4) 3 43 := ⟨by decide +kernel, rfl⟩
theorem dX3_refuse_43 : Ins mX3_refuse 43 (.iconst 0) 1 44 := ⟨by decide +kernel, rfl⟩
theorem dX3_refuse_44 : GpI mX3_refuse 44 47 2 11 := ⟨11, rfl, ⟨51, _, by decide +kernel, rfl, rfl, by decide, tb_1 (List.mem_of_getElem? (i := 200) (by decide +kernel)) rfl, by decide +kernel, Or.inl rfl⟩, by decide, rfl⟩
theorem dX3_refuse_47 : Ins mX3_refuse 47 (.return_) 1 48 := ⟨by decide +kernel, rfl⟩
theorem dX3_expect_0 : Ins mX3_expect 0 (.aload_n 0) 1 1 := ⟨by decide +kernel, rfl⟩
theorem dX3_expect_1 : CalV mX3_expect 1 4 mX3_kind := ⟨64, by decide +kernel, rfl, tb_2 (List.mem_of_getElem? (i := 213) (by decide +kernel)) rfl, meX3_kind⟩
theorem dX3_expect_4 : Ins mX3_expect 4 (.iload_n 1) 1 5 := ⟨by decide +kernel, rfl⟩
theorem dX3_expect_5 : Ins mX3_expect 5 (.if_icmp .eq 11) 3 8 := ⟨by decide +kernel, rfl⟩
theorem dX3_expect_8 : Ins mX3_expect 8 (.aload_n 0) 1 9 := ⟨by decide +kernel, rfl⟩
theorem dX3_expect_9 : Ins mX3_expect 9 (.iconst 1) 1 10 := ⟨by decide +kernel, rfl⟩
theorem dX3_expect_10 : CalV mX3_expect 10 13 mX3_refuse := ⟨122, by decide +kernel, rfl, tb_2 (List.mem_of_getElem? (i := 221) (by decide +kernel)) rfl, meX3_refuse⟩
theorem dX3_expect_13 : Ins mX3_expect 13 (.goto 20) 3 16 := ⟨by decide +kernel, rfl⟩
theorem dX3_expect_16 : Ins mX3_expect 16 (.aload_n 0) 1 17 := ⟨by decide +kernel, rfl⟩
theorem dX3_expect_17 : GgI mX3_expect 17 20 2 10 := ⟨10, rfl, ⟨48, _, by decide +kernel, rfl, rfl, by decide, tb_1 (List.mem_of_getElem? (i := 198) (by decide +kernel)) rfl⟩, by decide, rfl⟩
theorem dX3_expect_20 : Ins mX3_expect 20 (.ifCond .ne 13) 3 23 := ⟨by decide +kernel, rfl⟩
theorem dX3_expect_23 : Ins mX3_expect 23 (.aload_n 0) 1 24 := ⟨by decide +kernel, rfl⟩
theorem dX3_expect_24 : Ins mX3_expect 24 (.dup) 1 25 := ⟨by decide +kernel, rfl⟩
theorem dX3_expect_25 : GgI mX3_expect 25 28 2 6 := ⟨6, rfl, ⟨31, _, by decide +kernel, rfl, rfl, by decide, tb_1 (List.mem_of_getElem? (i := 192) (by decide +kernel)) rfl⟩, by decide, rfl⟩
theorem dX3_expect_28 : Ins mX3_expect 28 (.iconst 1) 1 29 := ⟨by decide +kernel, rfl⟩
theorem dX3_expect_29 : Ins mX3_expect 29 (.iadd) 1 30 := ⟨by decide +kernel, rfl⟩
theorem dX3_expect_30 : GpI mX3_expect 30 33 2 6 := ⟨6, rfl, ⟨31, _, by decide +kernel, rfl, rfl, by decide, tb_1 (List.mem_of_getElem? (i := 192) (by decide +kernel)) rfl, by decide +kernel, Or.inl rfl⟩, by decide, rfl⟩
theorem dX3_expect_33 : Ins mX3_expect 33 (.return_) 1 34 := ⟨by decide +kernel, rfl⟩
theorem dX3_readNumber_0 : Ins mX3_readNumber 0 (.aload_n 0) 1 1 := ⟨by decide +kernel, rfl⟩
theorem dX3_readNumber_1 : CalV mX3_readNumber 1 4 mX3_value := ⟨125, by decide +kernel, rfl, tb_3 (List.mem_of_getElem? (i := 17) (by decide +kernel)) rfl, meX3_value⟩
theorem dX3_readNumber_4 : Ins mX3_readNumber 4 (.istore_n 3) 1 5 := ⟨by decide +kernel, rfl⟩
theorem dX3_readNumber_5 : Ins mX3_readNumber 5 (.aload_n 0) 1 6 := ⟨by decide +kernel, rfl⟩
theorem dX3_readNumber_6 : CalV mX3_readNumber 6 9 mX3_kind := ⟨64, by decide +kernel, rfl, tb_2 (List.mem_of_getElem? (i := 213) (by decide +kernel)) rfl, meX3_kind⟩
theorem dX3_readNumber_9 : Ins mX3_readNumber 9 (.bipush 31) 2 11 := ⟨by decide +kernel, rfl⟩
theorem dX3_readNumber_11 : Ins mX3_readNumber 11 (.if_icmp .eq 11) 3 14 := ⟨by decide +kernel, rfl⟩
theorem dX3_readNumber_14 : Ins mX3_readNumber 14 (.aload_n 0) 1 15 := ⟨by decide +kernel, rfl⟩
theorem dX3_readNumber_15 : Ins mX3_readNumber 15 (.iconst 1) 1 16 := ⟨by decide +kernel, rfl⟩
theorem dX3_readNumber_16 : CalV mX3_readNumber 16 19 mX3_refuse := ⟨122, by decide +kernel, rfl, tb_2 (List.mem_of_getElem? (i := 221) (by decide +kernel)) rfl, meX3_refuse⟩
theorem dX3_readNumber_19 : Ins mX3_readNumber 19 (.goto 38) 3 22 := ⟨by decide +kernel, rfl⟩
theorem dX3_readNumber_22 : Ins mX3_readNumber 22 (.iload_n 3) 1 23 := ⟨by decide +kernel, rfl⟩
theorem dX3_readNumber_23 : Ins mX3_readNumber 23 (.iload_n 1) 1 24 := ⟨by decide +kernel, rfl⟩
theorem dX3_readNumber_24 : Ins mX3_readNumber 24 (.if_icmp .lt 8) 3 27 := ⟨by decide +kernel, rfl⟩
theorem dX3_readNumber_27 : Ins mX3_readNumber 27 (.iload_n 3) 1 28 := ⟨by decide +kernel, rfl⟩
theorem dX3_readNumber_28 : Ins mX3_readNumber 28 (.iload_n 2) 1 29 := ⟨by decide +kernel, rfl⟩
theorem dX3_readNumber_29 : Ins mX3_readNumber 29 (.if_icmp .le 11) 3 32 := ⟨by decide +kernel, rfl⟩
theorem dX3_readNumber_32 : Ins mX3_readNumber 32 (.aload_n 0) 1 33 := ⟨by decide +kernel, rfl⟩
theorem dX3_readNumber_33 : Ins mX3_readNumber 33 (.iconst 2) 1 34 := ⟨by decide +kernel, rfl⟩
theorem dX3_readNumber_34 : CalV mX3_readNumber 34 37 mX3_refuse := ⟨122, by decide +kernel, rfl, tb_2 (List.mem_of_getElem? (i := 221) (by decide +kernel)) rfl, meX3_refuse⟩
theorem dX3_readNumber_37 : Ins mX3_readNumber 37 (.goto 20) 3 40 := ⟨by decide +kernel, rfl⟩
theorem dX3_readNumber_40 : Ins mX3_readNumber 40 (.aload_n 0) 1 41 := ⟨by decide +kernel, rfl⟩
theorem dX3_readNumber_41 : GgI mX3_readNumber 41 44 2 10 := ⟨10, rfl, ⟨48, _, by decide +kernel, rfl, rfl, by decide, tb_1 (List.mem_of_getElem? (i := 198) (by decide +kernel)) rfl⟩, by decide, rfl⟩
theorem dX3_readNumber_44 : Ins mX3_readNumber 44 (.ifCond .ne 13) 3 47 := ⟨by decide +kernel, rfl⟩
theorem dX3_readNumber_47 : Ins mX3_readNumber 47 (.aload_n 0) 1 48 := ⟨by decide +kernel, rfl⟩
theorem dX3_readNumber_48 : Ins mX3_readNumber 48 (.dup) 1 49 := ⟨by decide +kernel, rfl⟩
theorem dX3_readNumber_49 : GgI mX3_readNumber 49 52 2 6 := ⟨6, rfl, ⟨31, _, by decide +kernel, rfl, rfl, by decide, tb_1 (List.mem_of_getElem? (i := 192) (by decide +kernel)) rfl⟩, by decide, rfl⟩
theorem dX3_readNumber_52 : Ins mX3_readNumber 52 (.iconst 1) 1 53 := ⟨by decide +kernel, rfl⟩
theorem dX3_readNumber_53 : Ins mX3_readNumber 53 (.iadd) 1 54 := ⟨by decide +kernel, rfl⟩
theorem dX3_readNumber_54 : GpI mX3_readNumber 54 57 2 6 := ⟨6, rfl, ⟨31, _, by decide +kernel, rfl, rfl, by decide, tb_1 (List.mem_of_getElem? (i := 192) (by decide +kernel)) rfl, by decide +kernel, Or.inl rfl⟩, by decide, rfl⟩
theorem dX3_readNumber_57 : Ins mX3_readNumber 57 (.iload_n 3) 1 58 := ⟨by decide +kernel, rfl⟩
theorem dX3_readNumber_58 : Ins mX3_readNumber 58 (.ireturn) 1 59 := ⟨by decide +kernel, rfl⟩
theorem dX3_readClause_0 : Ins mX3_readClause 0 (.aload_n 0) 1 1 := ⟨by decide +kernel, rfl⟩
theorem dX3_readClause_1 : CalV mX3_readClause 1 4 mX3_kind := ⟨64, by decide +kernel, rfl, tb_2 (List.mem_of_getElem? (i := 213) (by decide +kernel)) rfl, meX3_kind⟩
theorem dX3_readClause_4 : Ins mX3_readClause 4 (.istore_n 1) 1 5 := ⟨by decide +kernel, rfl⟩
theorem dX3_readClause_5 : Ins mX3_readClause 5 (.iload_n 1) 1 6 := ⟨by decide +kernel, rfl⟩
theorem dX3_readClause_6 : Ins mX3_readClause 6 (.iconst 0) 1 7 := ⟨by decide +kernel, rfl⟩
theorem dX3_readClause_7 : Ins mX3_readClause 7 (.bipush 10) 2 9 := ⟨by decide +kernel, rfl⟩
theorem dX3_readClause_9 : CalS mX3_readClause 9 12 mX10_isWithin := ⟨94, by decide +kernel, rfl, Or.inr ⟨"RockingGuard", List.mem_of_getElem? (i := 7) (by decide +kernel)⟩, meX10_isWithin⟩
theorem dX3_readClause_12 : Ins mX3_readClause 12 (.ifCond .ne 11) 3 15 := ⟨by decide +kernel, rfl⟩
theorem dX3_readClause_15 : Ins mX3_readClause 15 (.aload_n 0) 1 16 := ⟨by decide +kernel, rfl⟩
theorem dX3_readClause_16 : Ins mX3_readClause 16 (.iconst 1) 1 17 := ⟨by decide +kernel, rfl⟩
theorem dX3_readClause_17 : CalV mX3_readClause 17 20 mX3_refuse := ⟨122, by decide +kernel, rfl, tb_2 (List.mem_of_getElem? (i := 221) (by decide +kernel)) rfl, meX3_refuse⟩
theorem dX3_readClause_20 : Ins mX3_readClause 20 (.goto 77) 3 23 := ⟨by decide +kernel, rfl⟩
theorem dX3_readClause_23 : Ins mX3_readClause 23 (.aload_n 0) 1 24 := ⟨by decide +kernel, rfl⟩
theorem dX3_readClause_24 : GgR mX3_readClause 24 27 2 8 := ⟨8, rfl, ⟨40, _, by decide +kernel, rfl, rfl, by decide, tb_1 (List.mem_of_getElem? (i := 194) (by decide +kernel)) rfl⟩, by decide, rfl⟩
theorem dX3_readClause_27 : Ins mX3_readClause 27 (.iload_n 1) 1 28 := ⟨by decide +kernel, rfl⟩
theorem dX3_readClause_28 : CalV mX3_readClause 28 31 mX5_has := ⟨128, by decide +kernel, rfl, tb_2 (List.mem_of_getElem? (i := 225) (by decide +kernel)) rfl, meX5_has⟩
theorem dX3_readClause_31 : Ins mX3_readClause 31 (.ifCond .eq 11) 3 34 := ⟨by decide +kernel, rfl⟩
theorem dX3_readClause_34 : Ins mX3_readClause 34 (.aload_n 0) 1 35 := ⟨by decide +kernel, rfl⟩
theorem dX3_readClause_35 : Ins mX3_readClause 35 (.iconst 4) 1 36 := ⟨by decide +kernel, rfl⟩
theorem dX3_readClause_36 : CalV mX3_readClause 36 39 mX3_refuse := ⟨122, by decide +kernel, rfl, tb_2 (List.mem_of_getElem? (i := 221) (by decide +kernel)) rfl, meX3_refuse⟩
theorem dX3_readClause_39 : Ins mX3_readClause 39 (.goto 58) 3 42 := ⟨by decide +kernel, rfl⟩
theorem dX3_readClause_42 : Ins mX3_readClause 42 (.aload_n 0) 1 43 := ⟨by decide +kernel, rfl⟩
theorem dX3_readClause_43 : GgR mX3_readClause 43 46 2 8 := ⟨8, rfl, ⟨40, _, by decide +kernel, rfl, rfl, by decide, tb_1 (List.mem_of_getElem? (i := 194) (by decide +kernel)) rfl⟩, by decide, rfl⟩
theorem dX3_readClause_46 : GgI mX3_readClause 46 49 4 8 := ⟨8, rfl, ⟨131, _, by decide +kernel, rfl, rfl, by decide, tb_1 (List.mem_of_getElem? (i := 165) (by decide +kernel)) rfl⟩, by decide, rfl⟩
theorem dX3_readClause_49 : Ins mX3_readClause 49 (.bipush 24) 2 51 := ⟨by decide +kernel, rfl⟩
theorem dX3_readClause_51 : Ins mX3_readClause 51 (.if_icmp .lt 12) 3 54 := ⟨by decide +kernel, rfl⟩
theorem dX3_readClause_54 : Ins mX3_readClause 54 (.aload_n 0) 1 55 := ⟨by decide +kernel, rfl⟩
theorem dX3_readClause_55 : Ins mX3_readClause 55 (.bipush 6) 2 57 := ⟨by decide +kernel, rfl⟩
theorem dX3_readClause_57 : CalV mX3_readClause 57 60 mX3_refuse := ⟨122, by decide +kernel, rfl, tb_2 (List.mem_of_getElem? (i := 221) (by decide +kernel)) rfl, meX3_refuse⟩
theorem dX3_readClause_60 : Ins mX3_readClause 60 (.goto 37) 3 63 := ⟨by decide +kernel, rfl⟩
theorem dX3_readClause_63 : Ins mX3_readClause 63 (.aload_n 0) 1 64 := ⟨by decide +kernel, rfl⟩
theorem dX3_readClause_64 : Ins mX3_readClause 64 (.dup) 1 65 := ⟨by decide +kernel, rfl⟩
theorem dX3_readClause_65 : GgI mX3_readClause 65 68 2 6 := ⟨6, rfl, ⟨31, _, by decide +kernel, rfl, rfl, by decide, tb_1 (List.mem_of_getElem? (i := 192) (by decide +kernel)) rfl⟩, by decide, rfl⟩
theorem dX3_readClause_68 : Ins mX3_readClause 68 (.iconst 1) 1 69 := ⟨by decide +kernel, rfl⟩
theorem dX3_readClause_69 : Ins mX3_readClause 69 (.iadd) 1 70 := ⟨by decide +kernel, rfl⟩
theorem dX3_readClause_70 : GpI mX3_readClause 70 73 2 6 := ⟨6, rfl, ⟨31, _, by decide +kernel, rfl, rfl, by decide, tb_1 (List.mem_of_getElem? (i := 192) (by decide +kernel)) rfl, by decide +kernel, Or.inl rfl⟩, by decide, rfl⟩
theorem dX3_readClause_73 : Ins mX3_readClause 73 (.iload_n 1) 1 74 := ⟨by decide +kernel, rfl⟩
theorem dX3_readClause_74 : Ins mX3_readClause 74 (.iconst 3) 1 75 := ⟨by decide +kernel, rfl⟩
theorem dX3_readClause_75 : Ins mX3_readClause 75 (.if_icmp .ge 11) 3 78 := ⟨by decide +kernel, rfl⟩
theorem dX3_readClause_78 : Ins mX3_readClause 78 (.aload_n 0) 1 79 := ⟨by decide +kernel, rfl⟩
theorem dX3_readClause_79 : Ins mX3_readClause 79 (.iload_n 1) 1 80 := ⟨by decide +kernel, rfl⟩
theorem dX3_readClause_80 : CalV mX3_readClause 80 83 mX3_readLaw := ⟨134, by decide +kernel, rfl, tb_2 (List.mem_of_getElem? (i := 229) (by decide +kernel)) rfl, meX3_readLaw⟩
theorem dX3_readClause_83 : Ins mX3_readClause 83 (.goto 8) 3 86 := ⟨by decide +kernel, rfl⟩
theorem dX3_readClause_86 : Ins mX3_readClause 86 (.aload_n 0) 1 87 := ⟨by decide +kernel, rfl⟩
theorem dX3_readClause_87 : Ins mX3_readClause 87 (.iload_n 1) 1 88 := ⟨by decide +kernel, rfl⟩
theorem dX3_readClause_88 : CalV mX3_readClause 88 91 mX3_readOrder := ⟨137, by decide +kernel, rfl, tb_3 (List.mem_of_getElem? (i := 74) (by decide +kernel)) rfl, meX3_readOrder⟩
theorem dX3_readClause_91 : Ins mX3_readClause 91 (.aload_n 0) 1 92 := ⟨by decide +kernel, rfl⟩
theorem dX3_readClause_92 : Ins mX3_readClause 92 (.bipush 44) 2 94 := ⟨by decide +kernel, rfl⟩
theorem dX3_readClause_94 : CalV mX3_readClause 94 97 mX3_expect := ⟨140, by decide +kernel, rfl, tb_3 (List.mem_of_getElem? (i := 33) (by decide +kernel)) rfl, meX3_expect⟩
theorem dX3_readClause_97 : Ins mX3_readClause 97 (.return_) 1 98 := ⟨by decide +kernel, rfl⟩
theorem dX3_readLaw_0 : Ins mX3_readLaw 0 (.aload_n 0) 1 1 := ⟨by decide +kernel, rfl⟩
theorem dX3_readLaw_1 : Ins mX3_readLaw 1 (.iload_n 1) 1 2 := ⟨by decide +kernel, rfl⟩
theorem dX3_readLaw_2 : GpI mX3_readLaw 2 5 2 7 := ⟨7, rfl, ⟨34, _, by decide +kernel, rfl, rfl, by decide, tb_1 (List.mem_of_getElem? (i := 193) (by decide +kernel)) rfl, by decide +kernel, Or.inl rfl⟩, by decide, rfl⟩
theorem dX3_readLaw_5 : Ins mX3_readLaw 5 (.aload_n 0) 1 6 := ⟨by decide +kernel, rfl⟩
theorem dX3_readLaw_6 : GgR mX3_readLaw 6 9 2 8 := ⟨8, rfl, ⟨40, _, by decide +kernel, rfl, rfl, by decide, tb_1 (List.mem_of_getElem? (i := 194) (by decide +kernel)) rfl⟩, by decide, rfl⟩
theorem dX3_readLaw_9 : Ins mX3_readLaw 9 (.iload_n 1) 1 10 := ⟨by decide +kernel, rfl⟩
theorem dX3_readLaw_10 : Ins mX3_readLaw 10 (.iconst 0) 1 11 := ⟨by decide +kernel, rfl⟩
theorem dX3_readLaw_11 : Ins mX3_readLaw 11 (.iconst 0) 1 12 := ⟨by decide +kernel, rfl⟩
theorem dX3_readLaw_12 : CalV mX3_readLaw 12 15 mX5_addClause := ⟨143, by decide +kernel, rfl, tb_2 (List.mem_of_getElem? (i := 233) (by decide +kernel)) rfl, meX5_addClause⟩
theorem dX3_readLaw_15 : Ins mX3_readLaw 15 (.aload_n 0) 1 16 := ⟨by decide +kernel, rfl⟩
theorem dX3_readLaw_16 : GgR mX3_readLaw 16 19 2 8 := ⟨8, rfl, ⟨40, _, by decide +kernel, rfl, rfl, by decide, tb_1 (List.mem_of_getElem? (i := 194) (by decide +kernel)) rfl⟩, by decide, rfl⟩
theorem dX3_readLaw_19 : Ins mX3_readLaw 19 (.iload_n 1) 1 20 := ⟨by decide +kernel, rfl⟩
theorem dX3_readLaw_20 : CalV mX3_readLaw 20 23 mX5_beginLaw := ⟨146, by decide +kernel, rfl, tb_2 (List.mem_of_getElem? (i := 237) (by decide +kernel)) rfl, meX5_beginLaw⟩
theorem dX3_readLaw_23 : Ins mX3_readLaw 23 (.aload_n 0) 1 24 := ⟨by decide +kernel, rfl⟩
theorem dX3_readLaw_24 : Ins mX3_readLaw 24 (.iconst 0) 1 25 := ⟨by decide +kernel, rfl⟩
theorem dX3_readLaw_25 : CalV mX3_readLaw 25 28 mX3_readSum := ⟨149, by decide +kernel, rfl, tb_3 (List.mem_of_getElem? (i := 1) (by decide +kernel)) rfl, meX3_readSum⟩
theorem dX3_readLaw_28 : Ins mX3_readLaw 28 (.aload_n 0) 1 29 := ⟨by decide +kernel, rfl⟩
theorem dX3_readLaw_29 : GgR mX3_readLaw 29 32 2 8 := ⟨8, rfl, ⟨40, _, by decide +kernel, rfl, rfl, by decide, tb_1 (List.mem_of_getElem? (i := 194) (by decide +kernel)) rfl⟩, by decide, rfl⟩
theorem dX3_readLaw_32 : Ins mX3_readLaw 32 (.iload_n 1) 1 33 := ⟨by decide +kernel, rfl⟩
theorem dX3_readLaw_33 : CalV mX3_readLaw 33 36 mX5_endLaw := ⟨152, by decide +kernel, rfl, tb_3 (List.mem_of_getElem? (i := 70) (by decide +kernel)) rfl, meX5_endLaw⟩
theorem dX3_readLaw_36 : Ins mX3_readLaw 36 (.return_) 1 37 := ⟨by decide +kernel, rfl⟩
theorem dX3_readOrder_0 : Ins mX3_readOrder 0 (.iload_n 1) 1 1 := ⟨by decide +kernel, rfl⟩
theorem dX3_readOrder_1 : Ins mX3_readOrder 1 (.iconst 3) 1 2 := ⟨by decide +kernel, rfl⟩
theorem dX3_readOrder_2 : Ins mX3_readOrder 2 (.isub) 1 3 := ⟨by decide +kernel, rfl⟩
theorem dX3_readOrder_3 : Ins mX3_readOrder 3 (.istore_n 2) 1 4 := ⟨by decide +kernel, rfl⟩
theorem dX3_readOrder_4 : Ins mX3_readOrder 4 (.iload_n 2) 1 5 := ⟨by decide +kernel, rfl⟩
theorem dX3_readOrder_5 : Ins mX3_readOrder 5 (.ifCond .lt 11) 3 8 := ⟨by decide +kernel, rfl⟩
theorem dX3_readOrder_8 : Ins mX3_readOrder 8 (.iload_n 2) 1 9 := ⟨by decide +kernel, rfl⟩
theorem dX3_readOrder_9 : GstA mX3_readOrder 9 12 3 := ⟨155, by decide +kernel, rfl, by decide, Or.inr ⟨"RockingGuard", List.mem_of_getElem? (i := 0) (by decide +kernel)⟩⟩
theorem dX3_readOrder_12 : Ins mX3_readOrder 12 (.arraylength) 1 13 := ⟨by decide +kernel, rfl⟩
theorem dX3_readOrder_13 : Ins mX3_readOrder 13 (.if_icmp .lt 4) 3 16 := ⟨by decide +kernel, rfl⟩
theorem dX3_readOrder_16 : Ins mX3_readOrder 16 (.return_) 1 17 := ⟨by decide +kernel, rfl⟩
theorem dX3_readOrder_17 : Ins mX3_readOrder 17 (.aload_n 0) 1 18 := ⟨by decide +kernel, rfl⟩
theorem dX3_readOrder_18 : GstA mX3_readOrder 18 21 1 := ⟨158, by decide +kernel, rfl, by decide, Or.inr ⟨"RockingGuard", List.mem_of_getElem? (i := 1) (by decide +kernel)⟩⟩
theorem dX3_readOrder_21 : Ins mX3_readOrder 21 (.iload_n 2) 1 22 := ⟨by decide +kernel, rfl⟩
theorem dX3_readOrder_22 : Ins mX3_readOrder 22 (.iaload) 1 23 := ⟨by decide +kernel, rfl⟩
theorem dX3_readOrder_23 : GstA mX3_readOrder 23 26 2 := ⟨161, by decide +kernel, rfl, by decide, Or.inr ⟨"RockingGuard", List.mem_of_getElem? (i := 2) (by decide +kernel)⟩⟩
theorem dX3_readOrder_26 : Ins mX3_readOrder 26 (.iload_n 2) 1 27 := ⟨by decide +kernel, rfl⟩
theorem dX3_readOrder_27 : Ins mX3_readOrder 27 (.iaload) 1 28 := ⟨by decide +kernel, rfl⟩
theorem dX3_readOrder_28 : CalV mX3_readOrder 28 31 mX3_readNumber := ⟨164, by decide +kernel, rfl, tb_3 (List.mem_of_getElem? (i := 13) (by decide +kernel)) rfl, meX3_readNumber⟩
theorem dX3_readOrder_31 : Ins mX3_readOrder 31 (.istore_n 3) 1 32 := ⟨by decide +kernel, rfl⟩
theorem dX3_readOrder_32 : Ins mX3_readOrder 32 (.iconst 0) 1 33 := ⟨by decide +kernel, rfl⟩
theorem dX3_readOrder_33 : Ins mX3_readOrder 33 (.istore 4) 2 35 := ⟨by decide +kernel, rfl⟩
theorem dX3_readOrder_35 : GstA mX3_readOrder 35 38 3 := ⟨155, by decide +kernel, rfl, by decide, Or.inr ⟨"RockingGuard", List.mem_of_getElem? (i := 0) (by decide +kernel)⟩⟩
theorem dX3_readOrder_38 : Ins mX3_readOrder 38 (.iload_n 2) 1 39 := ⟨by decide +kernel, rfl⟩
theorem dX3_readOrder_39 : Ins mX3_readOrder 39 (.iaload) 1 40 := ⟨by decide +kernel, rfl⟩
theorem dX3_readOrder_40 : Ins mX3_readOrder 40 (.iconst (-1)) 1 41 := ⟨by decide +kernel, rfl⟩
theorem dX3_readOrder_41 : Ins mX3_readOrder 41 (.if_icmp .eq 35) 3 44 := ⟨by decide +kernel, rfl⟩
theorem dX3_readOrder_44 : Ins mX3_readOrder 44 (.aload_n 0) 1 45 := ⟨by decide +kernel, rfl⟩
theorem dX3_readOrder_45 : GstA mX3_readOrder 45 48 3 := ⟨155, by decide +kernel, rfl, by decide, Or.inr ⟨"RockingGuard", List.mem_of_getElem? (i := 0) (by decide +kernel)⟩⟩
theorem dX3_readOrder_48 : Ins mX3_readOrder 48 (.iload_n 2) 1 49 := ⟨by decide +kernel, rfl⟩
theorem dX3_readOrder_49 : Ins mX3_readOrder 49 (.iaload) 1 50 := ⟨by decide +kernel, rfl⟩
theorem dX3_readOrder_50 : CalV mX3_readOrder 50 53 mX3_expect := ⟨140, by decide +kernel, rfl, tb_3 (List.mem_of_getElem? (i := 33) (by decide +kernel)) rfl, meX3_expect⟩
theorem dX3_readOrder_53 : Ins mX3_readOrder 53 (.aload_n 0) 1 54 := ⟨by decide +kernel, rfl⟩
theorem dX3_readOrder_54 : Ins mX3_readOrder 54 (.iconst 0) 1 55 := ⟨by decide +kernel, rfl⟩
theorem dX3_readOrder_55 : Ins mX3_readOrder 55 (.iload_n 1) 1 56 := ⟨by decide +kernel, rfl⟩
theorem dX3_readOrder_56 : Ins mX3_readOrder 56 (.iconst 3) 1 57 := ⟨by decide +kernel, rfl⟩
theorem dX3_readOrder_57 : Ins mX3_readOrder 57 (.if_icmp .ne 9) 3 60 := ⟨by decide +kernel, rfl⟩
theorem dX3_readOrder_60 : Ins mX3_readOrder 60 (.iload_n 3) 1 61 := ⟨by decide +kernel, rfl⟩
theorem dX3_readOrder_61 : Ins mX3_readOrder 61 (.iconst 1) 1 62 := ⟨by decide +kernel, rfl⟩
theorem dX3_readOrder_62 : Ins mX3_readOrder 62 (.isub) 1 63 := ⟨by decide +kernel, rfl⟩
theorem dX3_readOrder_63 : Ins mX3_readOrder 63 (.goto 8) 3 66 := ⟨by decide +kernel, rfl⟩
theorem dX3_readOrder_66 : GstA mX3_readOrder 66 69 4 := ⟨167, by decide +kernel, rfl, by decide, Or.inr ⟨"RockingGuard", List.mem_of_getElem? (i := 3) (by decide +kernel)⟩⟩
theorem dX3_readOrder_69 : Ins mX3_readOrder 69 (.iload_n 2) 1 70 := ⟨by decide +kernel, rfl⟩
theorem dX3_readOrder_70 : Ins mX3_readOrder 70 (.iaload) 1 71 := ⟨by decide +kernel, rfl⟩
theorem dX3_readOrder_71 : CalV mX3_readOrder 71 74 mX3_readNumber := ⟨164, by decide +kernel, rfl, tb_3 (List.mem_of_getElem? (i := 13) (by decide +kernel)) rfl, meX3_readNumber⟩
theorem dX3_readOrder_74 : Ins mX3_readOrder 74 (.istore 4) 2 76 := ⟨by decide +kernel, rfl⟩
theorem dX3_readOrder_76 : Ins mX3_readOrder 76 (.aload_n 0) 1 77 := ⟨by decide +kernel, rfl⟩
theorem dX3_readOrder_77 : GgR mX3_readOrder 77 80 2 8 := ⟨8, rfl, ⟨40, _, by decide +kernel, rfl, rfl, by decide, tb_1 (List.mem_of_getElem? (i := 194) (by decide +kernel)) rfl⟩, by decide, rfl⟩
theorem dX3_readOrder_80 : Ins mX3_readOrder 80 (.iload_n 1) 1 81 := ⟨by decide +kernel, rfl⟩
theorem dX3_readOrder_81 : Ins mX3_readOrder 81 (.iload_n 3) 1 82 := ⟨by decide +kernel, rfl⟩
theorem dX3_readOrder_82 : Ins mX3_readOrder 82 (.iload 4) 2 84 := ⟨by decide +kernel, rfl⟩
theorem dX3_readOrder_84 : CalV mX3_readOrder 84 87 mX5_addClause := ⟨143, by decide +kernel, rfl, tb_2 (List.mem_of_getElem? (i := 233) (by decide +kernel)) rfl, meX5_addClause⟩
theorem dX3_readOrder_87 : Ins mX3_readOrder 87 (.return_) 1 88 := ⟨by decide +kernel, rfl⟩
theorem dX3_open_0 : Ins mX3_open 0 (.iload_n 1) 1 1 := ⟨by decide +kernel, rfl⟩
theorem dX3_open_1 : Ins mX3_open 1 (.bipush 8) 2 3 := ⟨by decide +kernel, rfl⟩
theorem dX3_open_3 : Ins mX3_open 3 (.if_icmp .lt 11) 3 6 := ⟨by decide +kernel, rfl⟩
theorem dX3_open_6 : Ins mX3_open 6 (.aload_n 0) 1 7 := ⟨by decide +kernel, rfl⟩
theorem dX3_open_7 : Ins mX3_open 7 (.iconst 3) 1 8 := ⟨by decide +kernel, rfl⟩
theorem dX3_open_8 : CalV mX3_open 8 11 mX3_refuse := ⟨122, by decide +kernel, rfl, tb_2 (List.mem_of_getElem? (i := 221) (by decide +kernel)) rfl, meX3_refuse⟩
theorem dX3_open_11 : Ins mX3_open 11 (.goto 20) 3 14 := ⟨by decide +kernel, rfl⟩
theorem dX3_open_14 : Ins mX3_open 14 (.aload_n 0) 1 15 := ⟨by decide +kernel, rfl⟩
theorem dX3_open_15 : GgI mX3_open 15 18 2 10 := ⟨10, rfl, ⟨48, _, by decide +kernel, rfl, rfl, by decide, tb_1 (List.mem_of_getElem? (i := 198) (by decide +kernel)) rfl⟩, by decide, rfl⟩
theorem dX3_open_18 : Ins mX3_open 18 (.ifCond .ne 13) 3 21 := ⟨by decide +kernel, rfl⟩
theorem dX3_open_21 : Ins mX3_open 21 (.aload_n 0) 1 22 := ⟨by decide +kernel, rfl⟩
theorem dX3_open_22 : Ins mX3_open 22 (.dup) 1 23 := ⟨by decide +kernel, rfl⟩
theorem dX3_open_23 : GgI mX3_open 23 26 2 6 := ⟨6, rfl, ⟨31, _, by decide +kernel, rfl, rfl, by decide, tb_1 (List.mem_of_getElem? (i := 192) (by decide +kernel)) rfl⟩, by decide, rfl⟩
theorem dX3_open_26 : Ins mX3_open 26 (.iconst 1) 1 27 := ⟨by decide +kernel, rfl⟩
theorem dX3_open_27 : Ins mX3_open 27 (.iadd) 1 28 := ⟨by decide +kernel, rfl⟩
theorem dX3_open_28 : GpI mX3_open 28 31 2 6 := ⟨6, rfl, ⟨31, _, by decide +kernel, rfl, rfl, by decide, tb_1 (List.mem_of_getElem? (i := 192) (by decide +kernel)) rfl, by decide +kernel, Or.inl rfl⟩, by decide, rfl⟩
theorem dX3_open_31 : Ins mX3_open 31 (.return_) 1 32 := ⟨by decide +kernel, rfl⟩
theorem dX3_readSum_0 : Ins mX3_readSum 0 (.aload_n 0) 1 1 := ⟨by decide +kernel, rfl⟩
theorem dX3_readSum_1 : Ins mX3_readSum 1 (.iload_n 1) 1 2 := ⟨by decide +kernel, rfl⟩
theorem dX3_readSum_2 : CalV mX3_readSum 2 5 mX3_readProduct := ⟨170, by decide +kernel, rfl, tb_3 (List.mem_of_getElem? (i := 5) (by decide +kernel)) rfl, meX3_readProduct⟩
theorem dX3_readSum_5 : Ins mX3_readSum 5 (.iconst 0) 1 6 := ⟨by decide +kernel, rfl⟩
theorem dX3_readSum_6 : Ins mX3_readSum 6 (.istore_n 2) 1 7 := ⟨by decide +kernel, rfl⟩
theorem dX3_readSum_7 : Ins mX3_readSum 7 (.iload_n 2) 1 8 := ⟨by decide +kernel, rfl⟩
theorem dX3_readSum_8 : Ins mX3_readSum 8 (.sipush 300) 3 11 := ⟨by decide +kernel, rfl⟩
theorem dX3_readSum_11 : Ins mX3_readSum 11 (.if_icmp .ge 64) 3 14 := ⟨by decide +kernel, rfl⟩
theorem dX3_readSum_14 : Ins mX3_readSum 14 (.aload_n 0) 1 15 := ⟨by decide +kernel, rfl⟩
theorem dX3_readSum_15 : GgI mX3_readSum 15 18 2 10 := ⟨10, rfl, ⟨48, _, by decide +kernel, rfl, rfl, by decide, tb_1 (List.mem_of_getElem? (i := 198) (by decide +kernel)) rfl⟩, by decide, rfl⟩
theorem dX3_readSum_18 : Ins mX3_readSum 18 (.ifCond .ne 57) 3 21 := ⟨by decide +kernel, rfl⟩
theorem dX3_readSum_21 : Ins mX3_readSum 21 (.aload_n 0) 1 22 := ⟨by decide +kernel, rfl⟩
theorem dX3_readSum_22 : CalV mX3_readSum 22 25 mX3_kind := ⟨64, by decide +kernel, rfl, tb_2 (List.mem_of_getElem? (i := 213) (by decide +kernel)) rfl, meX3_kind⟩
theorem dX3_readSum_25 : Ins mX3_readSum 25 (.bipush 38) 2 27 := ⟨by decide +kernel, rfl⟩
theorem dX3_readSum_27 : Ins mX3_readSum 27 (.if_icmp .eq 12) 3 30 := ⟨by decide +kernel, rfl⟩
theorem dX3_readSum_30 : Ins mX3_readSum 30 (.aload_n 0) 1 31 := ⟨by decide +kernel, rfl⟩
theorem dX3_readSum_31 : CalV mX3_readSum 31 34 mX3_kind := ⟨64, by decide +kernel, rfl, tb_2 (List.mem_of_getElem? (i := 213) (by decide +kernel)) rfl, meX3_kind⟩
theorem dX3_readSum_34 : Ins mX3_readSum 34 (.bipush 39) 2 36 := ⟨by decide +kernel, rfl⟩
theorem dX3_readSum_36 : Ins mX3_readSum 36 (.if_icmp .ne 39) 3 39 := ⟨by decide +kernel, rfl⟩
theorem dX3_readSum_39 : Ins mX3_readSum 39 (.aload_n 0) 1 40 := ⟨by decide +kernel, rfl⟩
theorem dX3_readSum_40 : CalV mX3_readSum 40 43 mX3_kind := ⟨64, by decide +kernel, rfl, tb_2 (List.mem_of_getElem? (i := 213) (by decide +kernel)) rfl, meX3_kind⟩
theorem dX3_readSum_43 : Ins mX3_readSum 43 (.istore_n 3) 1 44 := ⟨by decide +kernel, rfl⟩
theorem dX3_readSum_44 : Ins mX3_readSum 44 (.aload_n 0) 1 45 := ⟨by decide +kernel, rfl⟩
theorem dX3_readSum_45 : Ins mX3_readSum 45 (.dup) 1 46 := ⟨by decide +kernel, rfl⟩
theorem dX3_readSum_46 : GgI mX3_readSum 46 49 2 6 := ⟨6, rfl, ⟨31, _, by decide +kernel, rfl, rfl, by decide, tb_1 (List.mem_of_getElem? (i := 192) (by decide +kernel)) rfl⟩, by decide, rfl⟩
theorem dX3_readSum_49 : Ins mX3_readSum 49 (.iconst 1) 1 50 := ⟨by decide +kernel, rfl⟩
theorem dX3_readSum_50 : Ins mX3_readSum 50 (.iadd) 1 51 := ⟨by decide +kernel, rfl⟩
theorem dX3_readSum_51 : GpI mX3_readSum 51 54 2 6 := ⟨6, rfl, ⟨31, _, by decide +kernel, rfl, rfl, by decide, tb_1 (List.mem_of_getElem? (i := 192) (by decide +kernel)) rfl, by decide +kernel, Or.inl rfl⟩, by decide, rfl⟩
theorem dX3_readSum_54 : Ins mX3_readSum 54 (.aload_n 0) 1 55 := ⟨by decide +kernel, rfl⟩
theorem dX3_readSum_55 : Ins mX3_readSum 55 (.iload_n 1) 1 56 := ⟨by decide +kernel, rfl⟩
theorem dX3_readSum_56 : CalV mX3_readSum 56 59 mX3_readProduct := ⟨170, by decide +kernel, rfl, tb_3 (List.mem_of_getElem? (i := 5) (by decide +kernel)) rfl, meX3_readProduct⟩
theorem dX3_readSum_59 : Ins mX3_readSum 59 (.aload_n 0) 1 60 := ⟨by decide +kernel, rfl⟩
theorem dX3_readSum_60 : GgR mX3_readSum 60 63 2 8 := ⟨8, rfl, ⟨40, _, by decide +kernel, rfl, rfl, by decide, tb_1 (List.mem_of_getElem? (i := 194) (by decide +kernel)) rfl⟩, by decide, rfl⟩
theorem dX3_readSum_63 : Ins mX3_readSum 63 (.iload_n 3) 1 64 := ⟨by decide +kernel, rfl⟩
theorem dX3_readSum_64 : Ins mX3_readSum 64 (.iconst 0) 1 65 := ⟨by decide +kernel, rfl⟩
theorem dX3_readSum_65 : CalV mX3_readSum 65 68 mX5_addOrder := ⟨173, by decide +kernel, rfl, tb_3 (List.mem_of_getElem? (i := 21) (by decide +kernel)) rfl, meX5_addOrder⟩
theorem dX3_readSum_68 : Ins mX3_readSum 68 (.pop) 1 69 := ⟨by decide +kernel, rfl⟩
theorem dX3_readSum_69 : Ins mX3_readSum 69 (.iinc 2 1) 3 72 := ⟨by decide +kernel, rfl⟩
theorem dX3_readSum_72 : Ins mX3_readSum 72 (.goto (-65)) 3 75 := ⟨by decide +kernel, rfl⟩
theorem dX3_readSum_75 : Ins mX3_readSum 75 (.return_) 1 76 := ⟨by decide +kernel, rfl⟩
theorem dX3_readProduct_0 : Ins mX3_readProduct 0 (.aload_n 0) 1 1 := ⟨by decide +kernel, rfl⟩
theorem dX3_readProduct_1 : Ins mX3_readProduct 1 (.iload_n 1) 1 2 := ⟨by decide +kernel, rfl⟩
theorem dX3_readProduct_2 : CalV mX3_readProduct 2 5 mX3_readOne := ⟨176, by decide +kernel, rfl, tb_3 (List.mem_of_getElem? (i := 9) (by decide +kernel)) rfl, meX3_readOne⟩
theorem dX3_readProduct_5 : Ins mX3_readProduct 5 (.iconst 0) 1 6 := ⟨by decide +kernel, rfl⟩
theorem dX3_readProduct_6 : Ins mX3_readProduct 6 (.istore_n 2) 1 7 := ⟨by decide +kernel, rfl⟩
theorem dX3_readProduct_7 : Ins mX3_readProduct 7 (.iload_n 2) 1 8 := ⟨by decide +kernel, rfl⟩
theorem dX3_readProduct_8 : Ins mX3_readProduct 8 (.sipush 300) 3 11 := ⟨by decide +kernel, rfl⟩
theorem dX3_readProduct_11 : Ins mX3_readProduct 11 (.if_icmp .ge 64) 3 14 := ⟨by decide +kernel, rfl⟩
theorem dX3_readProduct_14 : Ins mX3_readProduct 14 (.aload_n 0) 1 15 := ⟨by decide +kernel, rfl⟩
theorem dX3_readProduct_15 : GgI mX3_readProduct 15 18 2 10 := ⟨10, rfl, ⟨48, _, by decide +kernel, rfl, rfl, by decide, tb_1 (List.mem_of_getElem? (i := 198) (by decide +kernel)) rfl⟩, by decide, rfl⟩
theorem dX3_readProduct_18 : Ins mX3_readProduct 18 (.ifCond .ne 57) 3 21 := ⟨by decide +kernel, rfl⟩
theorem dX3_readProduct_21 : Ins mX3_readProduct 21 (.aload_n 0) 1 22 := ⟨by decide +kernel, rfl⟩
theorem dX3_readProduct_22 : CalV mX3_readProduct 22 25 mX3_kind := ⟨64, by decide +kernel, rfl, tb_2 (List.mem_of_getElem? (i := 213) (by decide +kernel)) rfl, meX3_kind⟩
theorem dX3_readProduct_25 : Ins mX3_readProduct 25 (.bipush 40) 2 27 := ⟨by decide +kernel, rfl⟩
theorem dX3_readProduct_27 : Ins mX3_readProduct 27 (.if_icmp .eq 12) 3 30 := ⟨by decide +kernel, rfl⟩
theorem dX3_readProduct_30 : Ins mX3_readProduct 30 (.aload_n 0) 1 31 := ⟨by decide +kernel, rfl⟩
theorem dX3_readProduct_31 : CalV mX3_readProduct 31 34 mX3_kind := ⟨64, by decide +kernel, rfl, tb_2 (List.mem_of_getElem? (i := 213) (by decide +kernel)) rfl, meX3_kind⟩
theorem dX3_readProduct_34 : Ins mX3_readProduct 34 (.bipush 41) 2 36 := ⟨by decide +kernel, rfl⟩
theorem dX3_readProduct_36 : Ins mX3_readProduct 36 (.if_icmp .ne 39) 3 39 := ⟨by decide +kernel, rfl⟩
theorem dX3_readProduct_39 : Ins mX3_readProduct 39 (.aload_n 0) 1 40 := ⟨by decide +kernel, rfl⟩
theorem dX3_readProduct_40 : CalV mX3_readProduct 40 43 mX3_kind := ⟨64, by decide +kernel, rfl, tb_2 (List.mem_of_getElem? (i := 213) (by decide +kernel)) rfl, meX3_kind⟩
theorem dX3_readProduct_43 : Ins mX3_readProduct 43 (.istore_n 3) 1 44 := ⟨by decide +kernel, rfl⟩
theorem dX3_readProduct_44 : Ins mX3_readProduct 44 (.aload_n 0) 1 45 := ⟨by decide +kernel, rfl⟩
theorem dX3_readProduct_45 : Ins mX3_readProduct 45 (.dup) 1 46 := ⟨by decide +kernel, rfl⟩
theorem dX3_readProduct_46 : GgI mX3_readProduct 46 49 2 6 := ⟨6, rfl, ⟨31, _, by decide +kernel, rfl, rfl, by decide, tb_1 (List.mem_of_getElem? (i := 192) (by decide +kernel)) rfl⟩, by decide, rfl⟩
theorem dX3_readProduct_49 : Ins mX3_readProduct 49 (.iconst 1) 1 50 := ⟨by decide +kernel, rfl⟩
theorem dX3_readProduct_50 : Ins mX3_readProduct 50 (.iadd) 1 51 := ⟨by decide +kernel, rfl⟩
theorem dX3_readProduct_51 : GpI mX3_readProduct 51 54 2 6 := ⟨6, rfl, ⟨31, _, by decide +kernel, rfl, rfl, by decide, tb_1 (List.mem_of_getElem? (i := 192) (by decide +kernel)) rfl, by decide +kernel, Or.inl rfl⟩, by decide, rfl⟩
theorem dX3_readProduct_54 : Ins mX3_readProduct 54 (.aload_n 0) 1 55 := ⟨by decide +kernel, rfl⟩
theorem dX3_readProduct_55 : Ins mX3_readProduct 55 (.iload_n 1) 1 56 := ⟨by decide +kernel, rfl⟩
theorem dX3_readProduct_56 : CalV mX3_readProduct 56 59 mX3_readOne := ⟨176, by decide +kernel, rfl, tb_3 (List.mem_of_getElem? (i := 9) (by decide +kernel)) rfl, meX3_readOne⟩
theorem dX3_readProduct_59 : Ins mX3_readProduct 59 (.aload_n 0) 1 60 := ⟨by decide +kernel, rfl⟩
theorem dX3_readProduct_60 : GgR mX3_readProduct 60 63 2 8 := ⟨8, rfl, ⟨40, _, by decide +kernel, rfl, rfl, by decide, tb_1 (List.mem_of_getElem? (i := 194) (by decide +kernel)) rfl⟩, by decide, rfl⟩
theorem dX3_readProduct_63 : Ins mX3_readProduct 63 (.iload_n 3) 1 64 := ⟨by decide +kernel, rfl⟩
theorem dX3_readProduct_64 : Ins mX3_readProduct 64 (.iconst 0) 1 65 := ⟨by decide +kernel, rfl⟩
theorem dX3_readProduct_65 : CalV mX3_readProduct 65 68 mX5_addOrder := ⟨173, by decide +kernel, rfl, tb_3 (List.mem_of_getElem? (i := 21) (by decide +kernel)) rfl, meX5_addOrder⟩
theorem dX3_readProduct_68 : Ins mX3_readProduct 68 (.pop) 1 69 := ⟨by decide +kernel, rfl⟩
theorem dX3_readProduct_69 : Ins mX3_readProduct 69 (.iinc 2 1) 3 72 := ⟨by decide +kernel, rfl⟩
theorem dX3_readProduct_72 : Ins mX3_readProduct 72 (.goto (-65)) 3 75 := ⟨by decide +kernel, rfl⟩
theorem dX3_readProduct_75 : Ins mX3_readProduct 75 (.return_) 1 76 := ⟨by decide +kernel, rfl⟩
theorem dX3_readOne_0 : Ins mX3_readOne 0 (.aload_n 0) 1 1 := ⟨by decide +kernel, rfl⟩
theorem dX3_readOne_1 : GgI mX3_readOne 1 4 2 10 := ⟨10, rfl, ⟨48, _, by decide +kernel, rfl, rfl, by decide, tb_1 (List.mem_of_getElem? (i := 198) (by decide +kernel)) rfl⟩, by decide, rfl⟩
theorem dX3_readOne_4 : Ins mX3_readOne 4 (.ifCond .eq 4) 3 7 := ⟨by decide +kernel, rfl⟩
theorem dX3_readOne_7 : Ins mX3_readOne 7 (.return_) 1 8 := ⟨by decide +kernel, rfl⟩
theorem dX3_readOne_8 : Ins mX3_readOne 8 (.aload_n 0) 1 9 := ⟨by decide +kernel, rfl⟩
theorem dX3_readOne_9 : CalV mX3_readOne 9 12 mX3_kind := ⟨64, by decide +kernel, rfl, tb_2 (List.mem_of_getElem? (i := 213) (by decide +kernel)) rfl, meX3_kind⟩
theorem dX3_readOne_12 : Ins mX3_readOne 12 (.istore_n 2) 1 13 := ⟨by decide +kernel, rfl⟩
theorem dX3_readOne_13 : Ins mX3_readOne 13 (.iload_n 2) 1 14 := ⟨by decide +kernel, rfl⟩
theorem dX3_readOne_14 : Ins mX3_readOne 14 (.bipush 31) 2 16 := ⟨by decide +kernel, rfl⟩
theorem dX3_readOne_16 : Ins mX3_readOne 16 (.if_icmp .ne 24) 3 19 := ⟨by decide +kernel, rfl⟩
theorem dX3_readOne_19 : Ins mX3_readOne 19 (.aload_n 0) 1 20 := ⟨by decide +kernel, rfl⟩
theorem dX3_readOne_20 : GgR mX3_readOne 20 23 2 8 := ⟨8, rfl, ⟨40, _, by decide +kernel, rfl, rfl, by decide, tb_1 (List.mem_of_getElem? (i := 194) (by decide +kernel)) rfl⟩, by decide, rfl⟩
theorem dX3_readOne_23 : Ins mX3_readOne 23 (.bipush 31) 2 25 := ⟨by decide +kernel, rfl⟩
theorem dX3_readOne_25 : Ins mX3_readOne 25 (.aload_n 0) 1 26 := ⟨by decide +kernel, rfl⟩
theorem dX3_readOne_26 : Ins mX3_readOne 26 (.iconst 0) 1 27 := ⟨by decide +kernel, rfl⟩
theorem dX3_readOne_27 : Ins mX3_readOne 27 (.sipush 9999) 3 30 := ⟨by decide +kernel, rfl⟩
theorem dX3_readOne_30 : CalV mX3_readOne 30 33 mX3_readNumber := ⟨164, by decide +kernel, rfl, tb_3 (List.mem_of_getElem? (i := 13) (by decide +kernel)) rfl, meX3_readNumber⟩
theorem dX3_readOne_33 : CalV mX3_readOne 33 36 mX5_addOrder := ⟨173, by decide +kernel, rfl, tb_3 (List.mem_of_getElem? (i := 21) (by decide +kernel)) rfl, meX5_addOrder⟩
theorem dX3_readOne_36 : Ins mX3_readOne 36 (.pop) 1 37 := ⟨by decide +kernel, rfl⟩
theorem dX3_readOne_37 : Ins mX3_readOne 37 (.goto 113) 3 40 := ⟨by decide +kernel, rfl⟩
theorem dX3_readOne_40 : Ins mX3_readOne 40 (.iload_n 2) 1 41 := ⟨by decide +kernel, rfl⟩
theorem dX3_readOne_41 : Ins mX3_readOne 41 (.bipush 42) 2 43 := ⟨by decide +kernel, rfl⟩
theorem dX3_readOne_43 : Ins mX3_readOne 43 (.if_icmp .ne 24) 3 46 := ⟨by decide +kernel, rfl⟩
theorem dX3_readOne_46 : Ins mX3_readOne 46 (.aload_n 0) 1 47 := ⟨by decide +kernel, rfl⟩
theorem dX3_readOne_47 : Ins mX3_readOne 47 (.iload_n 1) 1 48 := ⟨by decide +kernel, rfl⟩
theorem dX3_readOne_48 : CalV mX3_readOne 48 51 mX3_open := ⟨179, by decide +kernel, rfl, tb_3 (List.mem_of_getElem? (i := 25) (by decide +kernel)) rfl, meX3_open⟩
theorem dX3_readOne_51 : Ins mX3_readOne 51 (.aload_n 0) 1 52 := ⟨by decide +kernel, rfl⟩
theorem dX3_readOne_52 : Ins mX3_readOne 52 (.iload_n 1) 1 53 := ⟨by decide +kernel, rfl⟩
theorem dX3_readOne_53 : Ins mX3_readOne 53 (.iconst 1) 1 54 := ⟨by decide +kernel, rfl⟩
theorem dX3_readOne_54 : Ins mX3_readOne 54 (.iadd) 1 55 := ⟨by decide +kernel, rfl⟩
theorem dX3_readOne_55 : CalV mX3_readOne 55 58 mX3_readInside := ⟨182, by decide +kernel, rfl, tb_3 (List.mem_of_getElem? (i := 29) (by decide +kernel)) rfl, meX3_readInside⟩
theorem dX3_readOne_58 : Ins mX3_readOne 58 (.aload_n 0) 1 59 := ⟨by decide +kernel, rfl⟩
theorem dX3_readOne_59 : Ins mX3_readOne 59 (.bipush 43) 2 61 := ⟨by decide +kernel, rfl⟩
theorem dX3_readOne_61 : CalV mX3_readOne 61 64 mX3_expect := ⟨140, by decide +kernel, rfl, tb_3 (List.mem_of_getElem? (i := 33) (by decide +kernel)) rfl, meX3_expect⟩
theorem dX3_readOne_64 : Ins mX3_readOne 64 (.goto 86) 3 67 := ⟨by decide +kernel, rfl⟩
theorem dX3_readOne_67 : Ins mX3_readOne 67 (.iload_n 2) 1 68 := ⟨by decide +kernel, rfl⟩
theorem dX3_readOne_68 : Ins mX3_readOne 68 (.bipush 39) 2 70 := ⟨by decide +kernel, rfl⟩
theorem dX3_readOne_70 : Ins mX3_readOne 70 (.if_icmp .eq 15) 3 73 := ⟨by decide +kernel, rfl⟩
theorem dX3_readOne_73 : Ins mX3_readOne 73 (.iload_n 2) 1 74 := ⟨by decide +kernel, rfl⟩
theorem dX3_readOne_74 : Ins mX3_readOne 74 (.bipush 14) 2 76 := ⟨by decide +kernel, rfl⟩
theorem dX3_readOne_76 : Ins mX3_readOne 76 (.if_icmp .eq 9) 3 79 := ⟨by decide +kernel, rfl⟩
theorem dX3_readOne_79 : Ins mX3_readOne 79 (.iload_n 2) 1 80 := ⟨by decide +kernel, rfl⟩
theorem dX3_readOne_80 : Ins mX3_readOne 80 (.bipush 15) 2 82 := ⟨by decide +kernel, rfl⟩
theorem dX3_readOne_82 : Ins mX3_readOne 82 (.if_icmp .ne 39) 3 85 := ⟨by decide +kernel, rfl⟩
theorem dX3_readOne_85 : Ins mX3_readOne 85 (.aload_n 0) 1 86 := ⟨by decide +kernel, rfl⟩
theorem dX3_readOne_86 : Ins mX3_readOne 86 (.iload_n 1) 1 87 := ⟨by decide +kernel, rfl⟩
theorem dX3_readOne_87 : CalV mX3_readOne 87 90 mX3_open := ⟨179, by decide +kernel, rfl, tb_3 (List.mem_of_getElem? (i := 25) (by decide +kernel)) rfl, meX3_open⟩
theorem dX3_readOne_90 : Ins mX3_readOne 90 (.aload_n 0) 1 91 := ⟨by decide +kernel, rfl⟩
theorem dX3_readOne_91 : Ins mX3_readOne 91 (.iload_n 1) 1 92 := ⟨by decide +kernel, rfl⟩
theorem dX3_readOne_92 : Ins mX3_readOne 92 (.iconst 1) 1 93 := ⟨by decide +kernel, rfl⟩
theorem dX3_readOne_93 : Ins mX3_readOne 93 (.iadd) 1 94 := ⟨by decide +kernel, rfl⟩
theorem dX3_readOne_94 : CalV mX3_readOne 94 97 mX3_readOneInside := ⟨185, by decide +kernel, rfl, tb_3 (List.mem_of_getElem? (i := 37) (by decide +kernel)) rfl, meX3_readOneInside⟩
theorem dX3_readOne_97 : Ins mX3_readOne 97 (.aload_n 0) 1 98 := ⟨by decide +kernel, rfl⟩
theorem dX3_readOne_98 : GgR mX3_readOne 98 101 2 8 := ⟨8, rfl, ⟨40, _, by decide +kernel, rfl, rfl, by decide, tb_1 (List.mem_of_getElem? (i := 194) (by decide +kernel)) rfl⟩, by decide, rfl⟩
theorem dX3_readOne_101 : Ins mX3_readOne 101 (.iload_n 2) 1 102 := ⟨by decide +kernel, rfl⟩
theorem dX3_readOne_102 : Ins mX3_readOne 102 (.bipush 39) 2 104 := ⟨by decide +kernel, rfl⟩
theorem dX3_readOne_104 : Ins mX3_readOne 104 (.if_icmp .ne 8) 3 107 := ⟨by decide +kernel, rfl⟩
theorem dX3_readOne_107 : Ins mX3_readOne 107 (.bipush 48) 2 109 := ⟨by decide +kernel, rfl⟩
theorem dX3_readOne_109 : Ins mX3_readOne 109 (.goto 4) 3 112 := ⟨by decide +kernel, rfl⟩
theorem dX3_readOne_112 : Ins mX3_readOne 112 (.iload_n 2) 1 113 := ⟨by decide +kernel, rfl⟩
theorem dX3_readOne_113 : Ins mX3_readOne 113 (.iconst 0) 1 114 := ⟨by decide +kernel, rfl⟩
theorem dX3_readOne_114 : CalV mX3_readOne 114 117 mX5_addOrder := ⟨173, by decide +kernel, rfl, tb_3 (List.mem_of_getElem? (i := 21) (by decide +kernel)) rfl, meX5_addOrder⟩
theorem dX3_readOne_117 : Ins mX3_readOne 117 (.pop) 1 118 := ⟨by decide +kernel, rfl⟩
theorem dX3_readOne_118 : Ins mX3_readOne 118 (.goto 32) 3 121 := ⟨by decide +kernel, rfl⟩
theorem dX3_readOne_121 : Ins mX3_readOne 121 (.iload_n 2) 1 122 := ⟨by decide +kernel, rfl⟩
theorem dX3_readOne_122 : Ins mX3_readOne 122 (.bipush 16) 2 124 := ⟨by decide +kernel, rfl⟩
theorem dX3_readOne_124 : Ins mX3_readOne 124 (.if_icmp .ne 18) 3 127 := ⟨by decide +kernel, rfl⟩
theorem dX3_readOne_127 : Ins mX3_readOne 127 (.aload_n 0) 1 128 := ⟨by decide +kernel, rfl⟩
theorem dX3_readOne_128 : Ins mX3_readOne 128 (.iload_n 1) 1 129 := ⟨by decide +kernel, rfl⟩
theorem dX3_readOne_129 : CalV mX3_readOne 129 132 mX3_open := ⟨179, by decide +kernel, rfl, tb_3 (List.mem_of_getElem? (i := 25) (by decide +kernel)) rfl, meX3_open⟩
theorem dX3_readOne_132 : Ins mX3_readOne 132 (.aload_n 0) 1 133 := ⟨by decide +kernel, rfl⟩
theorem dX3_readOne_133 : Ins mX3_readOne 133 (.iload_n 1) 1 134 := ⟨by decide +kernel, rfl⟩
theorem dX3_readOne_134 : Ins mX3_readOne 134 (.iconst 1) 1 135 := ⟨by decide +kernel, rfl⟩
theorem dX3_readOne_135 : Ins mX3_readOne 135 (.iadd) 1 136 := ⟨by decide +kernel, rfl⟩
theorem dX3_readOne_136 : CalV mX3_readOne 136 139 mX3_readChoice := ⟨188, by decide +kernel, rfl, tb_3 (List.mem_of_getElem? (i := 41) (by decide +kernel)) rfl, meX3_readChoice⟩
theorem dX3_readOne_139 : Ins mX3_readOne 139 (.goto 11) 3 142 := ⟨by decide +kernel, rfl⟩
theorem dX3_readOne_142 : Ins mX3_readOne 142 (.aload_n 0) 1 143 := ⟨by decide +kernel, rfl⟩
theorem dX3_readOne_143 : Ins mX3_readOne 143 (.iload_n 2) 1 144 := ⟨by decide +kernel, rfl⟩
theorem dX3_readOne_144 : CalS mX3_readOne 144 147 mX3_nameOf := ⟨191, by decide +kernel, rfl, Or.inl (tb_3 (List.mem_of_getElem? (i := 61) (by decide +kernel)) rfl), meX3_nameOf⟩
theorem dX3_readOne_147 : CalV mX3_readOne 147 150 mX3_readName := ⟨194, by decide +kernel, rfl, tb_3 (List.mem_of_getElem? (i := 64) (by decide +kernel)) rfl, meX3_readName⟩
theorem dX3_readOne_150 : Ins mX3_readOne 150 (.return_) 1 151 := ⟨by decide +kernel, rfl⟩
theorem dX3_readInside_0 : Ins mX3_readInside 0 (.aload_n 0) 1 1 := ⟨by decide +kernel, rfl⟩
theorem dX3_readInside_1 : GgI mX3_readInside 1 4 2 10 := ⟨10, rfl, ⟨48, _, by decide +kernel, rfl, rfl, by decide, tb_1 (List.mem_of_getElem? (i := 198) (by decide +kernel)) rfl⟩, by decide, rfl⟩
theorem dX3_readInside_4 : Ins mX3_readInside 4 (.ifCond .ne 14) 3 7 := ⟨by decide +kernel, rfl⟩
theorem dX3_readInside_7 : Ins mX3_readInside 7 (.iload_n 1) 1 8 := ⟨by decide +kernel, rfl⟩
theorem dX3_readInside_8 : Ins mX3_readInside 8 (.bipush 8) 2 10 := ⟨by decide +kernel, rfl⟩
theorem dX3_readInside_10 : Ins mX3_readInside 10 (.if_icmp .gt 8) 3 13 := ⟨by decide +kernel, rfl⟩
theorem dX3_readInside_13 : Ins mX3_readInside 13 (.aload_n 0) 1 14 := ⟨by decide +kernel, rfl⟩
theorem dX3_readInside_14 : Ins mX3_readInside 14 (.iload_n 1) 1 15 := ⟨by decide +kernel, rfl⟩
theorem dX3_readInside_15 : CalV mX3_readInside 15 18 mX3_readSum := ⟨149, by decide +kernel, rfl, tb_3 (List.mem_of_getElem? (i := 1) (by decide +kernel)) rfl, meX3_readSum⟩
theorem dX3_readInside_18 : Ins mX3_readInside 18 (.return_) 1 19 := ⟨by decide +kernel, rfl⟩
theorem dX3_readOneInside_0 : Ins mX3_readOneInside 0 (.aload_n 0) 1 1 := ⟨by decide +kernel, rfl⟩
theorem dX3_readOneInside_1 : GgI mX3_readOneInside 1 4 2 10 := ⟨10, rfl, ⟨48, _, by decide +kernel, rfl, rfl, by decide, tb_1 (List.mem_of_getElem? (i := 198) (by decide +kernel)) rfl⟩, by decide, rfl⟩
theorem dX3_readOneInside_4 : Ins mX3_readOneInside 4 (.ifCond .ne 14) 3 7 := ⟨by decide +kernel, rfl⟩
theorem dX3_readOneInside_7 : Ins mX3_readOneInside 7 (.iload_n 1) 1 8 := ⟨by decide +kernel, rfl⟩
theorem dX3_readOneInside_8 : Ins mX3_readOneInside 8 (.bipush 8) 2 10 := ⟨by decide +kernel, rfl⟩
theorem dX3_readOneInside_10 : Ins mX3_readOneInside 10 (.if_icmp .gt 8) 3 13 := ⟨by decide +kernel, rfl⟩
theorem dX3_readOneInside_13 : Ins mX3_readOneInside 13 (.aload_n 0) 1 14 := ⟨by decide +kernel, rfl⟩
theorem dX3_readOneInside_14 : Ins mX3_readOneInside 14 (.iload_n 1) 1 15 := ⟨by decide +kernel, rfl⟩
theorem dX3_readOneInside_15 : CalV mX3_readOneInside 15 18 mX3_readOne := ⟨176, by decide +kernel, rfl, tb_3 (List.mem_of_getElem? (i := 9) (by decide +kernel)) rfl, meX3_readOne⟩
theorem dX3_readOneInside_18 : Ins mX3_readOneInside 18 (.return_) 1 19 := ⟨by decide +kernel, rfl⟩
theorem dX3_readName_0 : Ins mX3_readName 0 (.iload_n 1) 1 1 := ⟨by decide +kernel, rfl⟩
theorem dX3_readName_1 : Ins mX3_readName 1 (.iconst (-1)) 1 2 := ⟨by decide +kernel, rfl⟩
theorem dX3_readName_2 : Ins mX3_readName 2 (.if_icmp .ne 11) 3 5 := ⟨by decide +kernel, rfl⟩
theorem dX3_readName_5 : Ins mX3_readName 5 (.aload_n 0) 1 6 := ⟨by decide +kernel, rfl⟩
theorem dX3_readName_6 : Ins mX3_readName 6 (.iconst 1) 1 7 := ⟨by decide +kernel, rfl⟩
theorem dX3_readName_7 : CalV mX3_readName 7 10 mX3_refuse := ⟨122, by decide +kernel, rfl, tb_2 (List.mem_of_getElem? (i := 221) (by decide +kernel)) rfl, meX3_refuse⟩
theorem dX3_readName_10 : Ins mX3_readName 10 (.goto 56) 3 13 := ⟨by decide +kernel, rfl⟩
theorem dX3_readName_13 : Ins mX3_readName 13 (.aload_n 0) 1 14 := ⟨by decide +kernel, rfl⟩
theorem dX3_readName_14 : GgI mX3_readName 14 17 2 7 := ⟨7, rfl, ⟨34, _, by decide +kernel, rfl, rfl, by decide, tb_1 (List.mem_of_getElem? (i := 193) (by decide +kernel)) rfl⟩, by decide, rfl⟩
theorem dX3_readName_17 : Ins mX3_readName 17 (.iconst 0) 1 18 := ⟨by decide +kernel, rfl⟩
theorem dX3_readName_18 : Ins mX3_readName 18 (.iconst 2) 1 19 := ⟨by decide +kernel, rfl⟩
theorem dX3_readName_19 : CalS mX3_readName 19 22 mX10_isWithin := ⟨94, by decide +kernel, rfl, Or.inr ⟨"RockingGuard", List.mem_of_getElem? (i := 7) (by decide +kernel)⟩, meX10_isWithin⟩
theorem dX3_readName_22 : Ins mX3_readName 22 (.ifCond .eq 15) 3 25 := ⟨by decide +kernel, rfl⟩
theorem dX3_readName_25 : Ins mX3_readName 25 (.iload_n 1) 1 26 := ⟨by decide +kernel, rfl⟩
theorem dX3_readName_26 : GstA mX3_readName 26 29 0 := ⟨197, by decide +kernel, rfl, by decide, Or.inr ⟨"RockingGuard", List.mem_of_getElem? (i := 4) (by decide +kernel)⟩⟩
theorem dX3_readName_29 : Ins mX3_readName 29 (.aload_n 0) 1 30 := ⟨by decide +kernel, rfl⟩
theorem dX3_readName_30 : GgI mX3_readName 30 33 2 7 := ⟨7, rfl, ⟨34, _, by decide +kernel, rfl, rfl, by decide, tb_1 (List.mem_of_getElem? (i := 193) (by decide +kernel)) rfl⟩, by decide, rfl⟩
theorem dX3_readName_33 : Ins mX3_readName 33 (.iaload) 1 34 := ⟨by decide +kernel, rfl⟩
theorem dX3_readName_34 : Ins mX3_readName 34 (.if_icmp .le 11) 3 37 := ⟨by decide +kernel, rfl⟩
theorem dX3_readName_37 : Ins mX3_readName 37 (.aload_n 0) 1 38 := ⟨by decide +kernel, rfl⟩
theorem dX3_readName_38 : Ins mX3_readName 38 (.iconst 5) 1 39 := ⟨by decide +kernel, rfl⟩
theorem dX3_readName_39 : CalV mX3_readName 39 42 mX3_refuse := ⟨122, by decide +kernel, rfl, tb_2 (List.mem_of_getElem? (i := 221) (by decide +kernel)) rfl, meX3_refuse⟩
theorem dX3_readName_42 : Ins mX3_readName 42 (.goto 24) 3 45 := ⟨by decide +kernel, rfl⟩
theorem dX3_readName_45 : Ins mX3_readName 45 (.aload_n 0) 1 46 := ⟨by decide +kernel, rfl⟩
theorem dX3_readName_46 : GgR mX3_readName 46 49 2 8 := ⟨8, rfl, ⟨40, _, by decide +kernel, rfl, rfl, by decide, tb_1 (List.mem_of_getElem? (i := 194) (by decide +kernel)) rfl⟩, by decide, rfl⟩
theorem dX3_readName_49 : Ins mX3_readName 49 (.bipush 47) 2 51 := ⟨by decide +kernel, rfl⟩
theorem dX3_readName_51 : Ins mX3_readName 51 (.iload_n 1) 1 52 := ⟨by decide +kernel, rfl⟩
theorem dX3_readName_52 : CalV mX3_readName 52 55 mX5_addOrder := ⟨173, by decide +kernel, rfl, tb_3 (List.mem_of_getElem? (i := 21) (by decide +kernel)) rfl, meX5_addOrder⟩
theorem dX3_readName_55 : Ins mX3_readName 55 (.pop) 1 56 := ⟨by decide +kernel, rfl⟩
theorem dX3_readName_56 : Ins mX3_readName 56 (.aload_n 0) 1 57 := ⟨by decide +kernel, rfl⟩
theorem dX3_readName_57 : Ins mX3_readName 57 (.dup) 1 58 := ⟨by decide +kernel, rfl⟩
theorem dX3_readName_58 : GgI mX3_readName 58 61 2 6 := ⟨6, rfl, ⟨31, _, by decide +kernel, rfl, rfl, by decide, tb_1 (List.mem_of_getElem? (i := 192) (by decide +kernel)) rfl⟩, by decide, rfl⟩
theorem dX3_readName_61 : Ins mX3_readName 61 (.iconst 1) 1 62 := ⟨by decide +kernel, rfl⟩
theorem dX3_readName_62 : Ins mX3_readName 62 (.iadd) 1 63 := ⟨by decide +kernel, rfl⟩
theorem dX3_readName_63 : GpI mX3_readName 63 66 2 6 := ⟨6, rfl, ⟨31, _, by decide +kernel, rfl, rfl, by decide, tb_1 (List.mem_of_getElem? (i := 192) (by decide +kernel)) rfl, by decide +kernel, Or.inl rfl⟩, by decide, rfl⟩
theorem dX3_readName_66 : Ins mX3_readName 66 (.return_) 1 67 := ⟨by decide +kernel, rfl⟩
theorem dX3_nameOf_0 : Ins mX3_nameOf 0 (.iload_n 0) 1 1 := ⟨by decide +kernel, rfl⟩
theorem dX3_nameOf_1 : Ins mX3_nameOf 1 (.tableswitch 148 3 30 #[133, 148, 148, 148, 148, 148, 148, 127, 148, 148, 148, 148, 148, 148, 148, 148, 148, 148, 148, 148, 148, 129, 135, 137, 139, 142, 145, 131]) 127 128 := ⟨by decide +kernel, rfl⟩
theorem dX3_nameOf_128 : Ins mX3_nameOf 128 (.iconst 0) 1 129 := ⟨by decide +kernel, rfl⟩
theorem dX3_nameOf_129 : Ins mX3_nameOf 129 (.ireturn) 1 130 := ⟨by decide +kernel, rfl⟩
theorem dX3_nameOf_130 : Ins mX3_nameOf 130 (.iconst 1) 1 131 := ⟨by decide +kernel, rfl⟩
theorem dX3_nameOf_131 : Ins mX3_nameOf 131 (.ireturn) 1 132 := ⟨by decide +kernel, rfl⟩
theorem dX3_nameOf_132 : Ins mX3_nameOf 132 (.iconst 2) 1 133 := ⟨by decide +kernel, rfl⟩
theorem dX3_nameOf_133 : Ins mX3_nameOf 133 (.ireturn) 1 134 := ⟨by decide +kernel, rfl⟩
theorem dX3_nameOf_134 : Ins mX3_nameOf 134 (.iconst 3) 1 135 := ⟨by decide +kernel, rfl⟩
theorem dX3_nameOf_135 : Ins mX3_nameOf 135 (.ireturn) 1 136 := ⟨by decide +kernel, rfl⟩
theorem dX3_nameOf_136 : Ins mX3_nameOf 136 (.iconst 4) 1 137 := ⟨by decide +kernel, rfl⟩
theorem dX3_nameOf_137 : Ins mX3_nameOf 137 (.ireturn) 1 138 := ⟨by decide +kernel, rfl⟩
theorem dX3_nameOf_138 : Ins mX3_nameOf 138 (.iconst 5) 1 139 := ⟨by decide +kernel, rfl⟩
theorem dX3_nameOf_139 : Ins mX3_nameOf 139 (.ireturn) 1 140 := ⟨by decide +kernel, rfl⟩
theorem dX3_nameOf_140 : Ins mX3_nameOf 140 (.bipush 6) 2 142 := ⟨by decide +kernel, rfl⟩
theorem dX3_nameOf_142 : Ins mX3_nameOf 142 (.ireturn) 1 143 := ⟨by decide +kernel, rfl⟩
theorem dX3_nameOf_143 : Ins mX3_nameOf 143 (.bipush 7) 2 145 := ⟨by decide +kernel, rfl⟩
theorem dX3_nameOf_145 : Ins mX3_nameOf 145 (.ireturn) 1 146 := ⟨by decide +kernel, rfl⟩
theorem dX3_nameOf_146 : Ins mX3_nameOf 146 (.bipush 8) 2 148 := ⟨by decide +kernel, rfl⟩
theorem dX3_nameOf_148 : Ins mX3_nameOf 148 (.ireturn) 1 149 := ⟨by decide +kernel, rfl⟩
theorem dX3_nameOf_149 : Ins mX3_nameOf 149 (.iconst (-1)) 1 150 := ⟨by decide +kernel, rfl⟩
theorem dX3_nameOf_150 : Ins mX3_nameOf 150 (.ireturn) 1 151 := ⟨by decide +kernel, rfl⟩
theorem dX3_readChoice_0 : Ins mX3_readChoice 0 (.aload_n 0) 1 1 := ⟨by decide +kernel, rfl⟩
theorem dX3_readChoice_1 : Ins mX3_readChoice 1 (.iload_n 1) 1 2 := ⟨by decide +kernel, rfl⟩
theorem dX3_readChoice_2 : CalV mX3_readChoice 2 5 mX3_readEither := ⟨200, by decide +kernel, rfl, tb_3 (List.mem_of_getElem? (i := 45) (by decide +kernel)) rfl, meX3_readEither⟩
theorem dX3_readChoice_5 : Ins mX3_readChoice 5 (.aload_n 0) 1 6 := ⟨by decide +kernel, rfl⟩
theorem dX3_readChoice_6 : Ins mX3_readChoice 6 (.bipush 17) 2 8 := ⟨by decide +kernel, rfl⟩
theorem dX3_readChoice_8 : CalV mX3_readChoice 8 11 mX3_expect := ⟨140, by decide +kernel, rfl, tb_3 (List.mem_of_getElem? (i := 33) (by decide +kernel)) rfl, meX3_expect⟩
theorem dX3_readChoice_11 : Ins mX3_readChoice 11 (.aload_n 0) 1 12 := ⟨by decide +kernel, rfl⟩
theorem dX3_readChoice_12 : GgR mX3_readChoice 12 15 2 8 := ⟨8, rfl, ⟨40, _, by decide +kernel, rfl, rfl, by decide, tb_1 (List.mem_of_getElem? (i := 194) (by decide +kernel)) rfl⟩, by decide, rfl⟩
theorem dX3_readChoice_15 : Ins mX3_readChoice 15 (.bipush 49) 2 17 := ⟨by decide +kernel, rfl⟩
theorem dX3_readChoice_17 : Ins mX3_readChoice 17 (.iconst 0) 1 18 := ⟨by decide +kernel, rfl⟩
theorem dX3_readChoice_18 : CalV mX3_readChoice 18 21 mX5_addOrder := ⟨173, by decide +kernel, rfl, tb_3 (List.mem_of_getElem? (i := 21) (by decide +kernel)) rfl, meX5_addOrder⟩
theorem dX3_readChoice_21 : Ins mX3_readChoice 21 (.istore_n 2) 1 22 := ⟨by decide +kernel, rfl⟩
theorem dX3_readChoice_22 : Ins mX3_readChoice 22 (.aload_n 0) 1 23 := ⟨by decide +kernel, rfl⟩
theorem dX3_readChoice_23 : Ins mX3_readChoice 23 (.iload_n 1) 1 24 := ⟨by decide +kernel, rfl⟩
theorem dX3_readChoice_24 : CalV mX3_readChoice 24 27 mX3_readInside := ⟨182, by decide +kernel, rfl, tb_3 (List.mem_of_getElem? (i := 29) (by decide +kernel)) rfl, meX3_readInside⟩
theorem dX3_readChoice_27 : Ins mX3_readChoice 27 (.aload_n 0) 1 28 := ⟨by decide +kernel, rfl⟩
theorem dX3_readChoice_28 : Ins mX3_readChoice 28 (.bipush 18) 2 30 := ⟨by decide +kernel, rfl⟩
theorem dX3_readChoice_30 : CalV mX3_readChoice 30 33 mX3_expect := ⟨140, by decide +kernel, rfl, tb_3 (List.mem_of_getElem? (i := 33) (by decide +kernel)) rfl, meX3_expect⟩
theorem dX3_readChoice_33 : Ins mX3_readChoice 33 (.aload_n 0) 1 34 := ⟨by decide +kernel, rfl⟩
theorem dX3_readChoice_34 : GgR mX3_readChoice 34 37 2 8 := ⟨8, rfl, ⟨40, _, by decide +kernel, rfl, rfl, by decide, tb_1 (List.mem_of_getElem? (i := 194) (by decide +kernel)) rfl⟩, by decide, rfl⟩
theorem dX3_readChoice_37 : Ins mX3_readChoice 37 (.bipush 50) 2 39 := ⟨by decide +kernel, rfl⟩
theorem dX3_readChoice_39 : Ins mX3_readChoice 39 (.iconst 0) 1 40 := ⟨by decide +kernel, rfl⟩
theorem dX3_readChoice_40 : CalV mX3_readChoice 40 43 mX5_addOrder := ⟨173, by decide +kernel, rfl, tb_3 (List.mem_of_getElem? (i := 21) (by decide +kernel)) rfl, meX5_addOrder⟩
theorem dX3_readChoice_43 : Ins mX3_readChoice 43 (.istore_n 3) 1 44 := ⟨by decide +kernel, rfl⟩
theorem dX3_readChoice_44 : Ins mX3_readChoice 44 (.aload_n 0) 1 45 := ⟨by decide +kernel, rfl⟩
theorem dX3_readChoice_45 : GgR mX3_readChoice 45 48 2 8 := ⟨8, rfl, ⟨40, _, by decide +kernel, rfl, rfl, by decide, tb_1 (List.mem_of_getElem? (i := 194) (by decide +kernel)) rfl⟩, by decide, rfl⟩
theorem dX3_readChoice_48 : Ins mX3_readChoice 48 (.iload_n 2) 1 49 := ⟨by decide +kernel, rfl⟩
theorem dX3_readChoice_49 : CalV mX3_readChoice 49 52 mX5_leadHere := ⟨203, by decide +kernel, rfl, tb_3 (List.mem_of_getElem? (i := 57) (by decide +kernel)) rfl, meX5_leadHere⟩
theorem dX3_readChoice_52 : Ins mX3_readChoice 52 (.aload_n 0) 1 53 := ⟨by decide +kernel, rfl⟩
theorem dX3_readChoice_53 : Ins mX3_readChoice 53 (.iload_n 1) 1 54 := ⟨by decide +kernel, rfl⟩
theorem dX3_readChoice_54 : CalV mX3_readChoice 54 57 mX3_readInside := ⟨182, by decide +kernel, rfl, tb_3 (List.mem_of_getElem? (i := 29) (by decide +kernel)) rfl, meX3_readInside⟩
theorem dX3_readChoice_57 : Ins mX3_readChoice 57 (.aload_n 0) 1 58 := ⟨by decide +kernel, rfl⟩
theorem dX3_readChoice_58 : Ins mX3_readChoice 58 (.bipush 19) 2 60 := ⟨by decide +kernel, rfl⟩
theorem dX3_readChoice_60 : CalV mX3_readChoice 60 63 mX3_expect := ⟨140, by decide +kernel, rfl, tb_3 (List.mem_of_getElem? (i := 33) (by decide +kernel)) rfl, meX3_expect⟩
theorem dX3_readChoice_63 : Ins mX3_readChoice 63 (.aload_n 0) 1 64 := ⟨by decide +kernel, rfl⟩
theorem dX3_readChoice_64 : GgR mX3_readChoice 64 67 2 8 := ⟨8, rfl, ⟨40, _, by decide +kernel, rfl, rfl, by decide, tb_1 (List.mem_of_getElem? (i := 194) (by decide +kernel)) rfl⟩, by decide, rfl⟩
theorem dX3_readChoice_67 : Ins mX3_readChoice 67 (.iload_n 3) 1 68 := ⟨by decide +kernel, rfl⟩
theorem dX3_readChoice_68 : CalV mX3_readChoice 68 71 mX5_leadHere := ⟨203, by decide +kernel, rfl, tb_3 (List.mem_of_getElem? (i := 57) (by decide +kernel)) rfl, meX5_leadHere⟩
theorem dX3_readChoice_71 : Ins mX3_readChoice 71 (.return_) 1 72 := ⟨by decide +kernel, rfl⟩
theorem dX3_readEither_0 : Ins mX3_readEither 0 (.aload_n 0) 1 1 := ⟨by decide +kernel, rfl⟩
theorem dX3_readEither_1 : Ins mX3_readEither 1 (.iload_n 1) 1 2 := ⟨by decide +kernel, rfl⟩
theorem dX3_readEither_2 : CalV mX3_readEither 2 5 mX3_readBoth := ⟨206, by decide +kernel, rfl, tb_3 (List.mem_of_getElem? (i := 49) (by decide +kernel)) rfl, meX3_readBoth⟩
theorem dX3_readEither_5 : Ins mX3_readEither 5 (.iconst 0) 1 6 := ⟨by decide +kernel, rfl⟩
theorem dX3_readEither_6 : Ins mX3_readEither 6 (.istore_n 2) 1 7 := ⟨by decide +kernel, rfl⟩
theorem dX3_readEither_7 : Ins mX3_readEither 7 (.iload_n 2) 1 8 := ⟨by decide +kernel, rfl⟩
theorem dX3_readEither_8 : Ins mX3_readEither 8 (.sipush 300) 3 11 := ⟨by decide +kernel, rfl⟩
theorem dX3_readEither_11 : Ins mX3_readEither 11 (.if_icmp .ge 51) 3 14 := ⟨by decide +kernel, rfl⟩
theorem dX3_readEither_14 : Ins mX3_readEither 14 (.aload_n 0) 1 15 := ⟨by decide +kernel, rfl⟩
theorem dX3_readEither_15 : GgI mX3_readEither 15 18 2 10 := ⟨10, rfl, ⟨48, _, by decide +kernel, rfl, rfl, by decide, tb_1 (List.mem_of_getElem? (i := 198) (by decide +kernel)) rfl⟩, by decide, rfl⟩
theorem dX3_readEither_18 : Ins mX3_readEither 18 (.ifCond .ne 44) 3 21 := ⟨by decide +kernel, rfl⟩
theorem dX3_readEither_21 : Ins mX3_readEither 21 (.aload_n 0) 1 22 := ⟨by decide +kernel, rfl⟩
theorem dX3_readEither_22 : CalV mX3_readEither 22 25 mX3_kind := ⟨64, by decide +kernel, rfl, tb_2 (List.mem_of_getElem? (i := 213) (by decide +kernel)) rfl, meX3_kind⟩
theorem dX3_readEither_25 : Ins mX3_readEither 25 (.bipush 20) 2 27 := ⟨by decide +kernel, rfl⟩
theorem dX3_readEither_27 : Ins mX3_readEither 27 (.if_icmp .ne 35) 3 30 := ⟨by decide +kernel, rfl⟩
theorem dX3_readEither_30 : Ins mX3_readEither 30 (.aload_n 0) 1 31 := ⟨by decide +kernel, rfl⟩
theorem dX3_readEither_31 : Ins mX3_readEither 31 (.dup) 1 32 := ⟨by decide +kernel, rfl⟩
theorem dX3_readEither_32 : GgI mX3_readEither 32 35 2 6 := ⟨6, rfl, ⟨31, _, by decide +kernel, rfl, rfl, by decide, tb_1 (List.mem_of_getElem? (i := 192) (by decide +kernel)) rfl⟩, by decide, rfl⟩
theorem dX3_readEither_35 : Ins mX3_readEither 35 (.iconst 1) 1 36 := ⟨by decide +kernel, rfl⟩
theorem dX3_readEither_36 : Ins mX3_readEither 36 (.iadd) 1 37 := ⟨by decide +kernel, rfl⟩
theorem dX3_readEither_37 : GpI mX3_readEither 37 40 2 6 := ⟨6, rfl, ⟨31, _, by decide +kernel, rfl, rfl, by decide, tb_1 (List.mem_of_getElem? (i := 192) (by decide +kernel)) rfl, by decide +kernel, Or.inl rfl⟩, by decide, rfl⟩
theorem dX3_readEither_40 : Ins mX3_readEither 40 (.aload_n 0) 1 41 := ⟨by decide +kernel, rfl⟩
theorem dX3_readEither_41 : Ins mX3_readEither 41 (.iload_n 1) 1 42 := ⟨by decide +kernel, rfl⟩
theorem dX3_readEither_42 : CalV mX3_readEither 42 45 mX3_readBoth := ⟨206, by decide +kernel, rfl, tb_3 (List.mem_of_getElem? (i := 49) (by decide +kernel)) rfl, meX3_readBoth⟩
theorem dX3_readEither_45 : Ins mX3_readEither 45 (.aload_n 0) 1 46 := ⟨by decide +kernel, rfl⟩
theorem dX3_readEither_46 : GgR mX3_readEither 46 49 2 8 := ⟨8, rfl, ⟨40, _, by decide +kernel, rfl, rfl, by decide, tb_1 (List.mem_of_getElem? (i := 194) (by decide +kernel)) rfl⟩, by decide, rfl⟩
theorem dX3_readEither_49 : Ins mX3_readEither 49 (.bipush 20) 2 51 := ⟨by decide +kernel, rfl⟩
theorem dX3_readEither_51 : Ins mX3_readEither 51 (.iconst 0) 1 52 := ⟨by decide +kernel, rfl⟩
theorem dX3_readEither_52 : CalV mX3_readEither 52 55 mX5_addOrder := ⟨173, by decide +kernel, rfl, tb_3 (List.mem_of_getElem? (i := 21) (by decide +kernel)) rfl, meX5_addOrder⟩
theorem dX3_readEither_55 : Ins mX3_readEither 55 (.pop) 1 56 := ⟨by decide +kernel, rfl⟩
theorem dX3_readEither_56 : Ins mX3_readEither 56 (.iinc 2 1) 3 59 := ⟨by decide +kernel, rfl⟩
theorem dX3_readEither_59 : Ins mX3_readEither 59 (.goto (-52)) 3 62 := ⟨by decide +kernel, rfl⟩
theorem dX3_readEither_62 : Ins mX3_readEither 62 (.return_) 1 63 := ⟨by decide +kernel, rfl⟩
theorem dX3_readBoth_0 : Ins mX3_readBoth 0 (.aload_n 0) 1 1 := ⟨by decide +kernel, rfl⟩
theorem dX3_readBoth_1 : Ins mX3_readBoth 1 (.iload_n 1) 1 2 := ⟨by decide +kernel, rfl⟩
theorem dX3_readBoth_2 : CalV mX3_readBoth 2 5 mX3_readAsk := ⟨209, by decide +kernel, rfl, tb_3 (List.mem_of_getElem? (i := 53) (by decide +kernel)) rfl, meX3_readAsk⟩
theorem dX3_readBoth_5 : Ins mX3_readBoth 5 (.iconst 0) 1 6 := ⟨by decide +kernel, rfl⟩
theorem dX3_readBoth_6 : Ins mX3_readBoth 6 (.istore_n 2) 1 7 := ⟨by decide +kernel, rfl⟩
theorem dX3_readBoth_7 : Ins mX3_readBoth 7 (.iload_n 2) 1 8 := ⟨by decide +kernel, rfl⟩
theorem dX3_readBoth_8 : Ins mX3_readBoth 8 (.sipush 300) 3 11 := ⟨by decide +kernel, rfl⟩
theorem dX3_readBoth_11 : Ins mX3_readBoth 11 (.if_icmp .ge 51) 3 14 := ⟨by decide +kernel, rfl⟩
theorem dX3_readBoth_14 : Ins mX3_readBoth 14 (.aload_n 0) 1 15 := ⟨by decide +kernel, rfl⟩
theorem dX3_readBoth_15 : GgI mX3_readBoth 15 18 2 10 := ⟨10, rfl, ⟨48, _, by decide +kernel, rfl, rfl, by decide, tb_1 (List.mem_of_getElem? (i := 198) (by decide +kernel)) rfl⟩, by decide, rfl⟩
theorem dX3_readBoth_18 : Ins mX3_readBoth 18 (.ifCond .ne 44) 3 21 := ⟨by decide +kernel, rfl⟩
theorem dX3_readBoth_21 : Ins mX3_readBoth 21 (.aload_n 0) 1 22 := ⟨by decide +kernel, rfl⟩
theorem dX3_readBoth_22 : CalV mX3_readBoth 22 25 mX3_kind := ⟨64, by decide +kernel, rfl, tb_2 (List.mem_of_getElem? (i := 213) (by decide +kernel)) rfl, meX3_kind⟩
theorem dX3_readBoth_25 : Ins mX3_readBoth 25 (.bipush 21) 2 27 := ⟨by decide +kernel, rfl⟩
theorem dX3_readBoth_27 : Ins mX3_readBoth 27 (.if_icmp .ne 35) 3 30 := ⟨by decide +kernel, rfl⟩
theorem dX3_readBoth_30 : Ins mX3_readBoth 30 (.aload_n 0) 1 31 := ⟨by decide +kernel, rfl⟩
theorem dX3_readBoth_31 : Ins mX3_readBoth 31 (.dup) 1 32 := ⟨by decide +kernel, rfl⟩
theorem dX3_readBoth_32 : GgI mX3_readBoth 32 35 2 6 := ⟨6, rfl, ⟨31, _, by decide +kernel, rfl, rfl, by decide, tb_1 (List.mem_of_getElem? (i := 192) (by decide +kernel)) rfl⟩, by decide, rfl⟩
theorem dX3_readBoth_35 : Ins mX3_readBoth 35 (.iconst 1) 1 36 := ⟨by decide +kernel, rfl⟩
theorem dX3_readBoth_36 : Ins mX3_readBoth 36 (.iadd) 1 37 := ⟨by decide +kernel, rfl⟩
theorem dX3_readBoth_37 : GpI mX3_readBoth 37 40 2 6 := ⟨6, rfl, ⟨31, _, by decide +kernel, rfl, rfl, by decide, tb_1 (List.mem_of_getElem? (i := 192) (by decide +kernel)) rfl, by decide +kernel, Or.inl rfl⟩, by decide, rfl⟩
theorem dX3_readBoth_40 : Ins mX3_readBoth 40 (.aload_n 0) 1 41 := ⟨by decide +kernel, rfl⟩
theorem dX3_readBoth_41 : Ins mX3_readBoth 41 (.iload_n 1) 1 42 := ⟨by decide +kernel, rfl⟩
theorem dX3_readBoth_42 : CalV mX3_readBoth 42 45 mX3_readAsk := ⟨209, by decide +kernel, rfl, tb_3 (List.mem_of_getElem? (i := 53) (by decide +kernel)) rfl, meX3_readAsk⟩
theorem dX3_readBoth_45 : Ins mX3_readBoth 45 (.aload_n 0) 1 46 := ⟨by decide +kernel, rfl⟩
theorem dX3_readBoth_46 : GgR mX3_readBoth 46 49 2 8 := ⟨8, rfl, ⟨40, _, by decide +kernel, rfl, rfl, by decide, tb_1 (List.mem_of_getElem? (i := 194) (by decide +kernel)) rfl⟩, by decide, rfl⟩
theorem dX3_readBoth_49 : Ins mX3_readBoth 49 (.bipush 21) 2 51 := ⟨by decide +kernel, rfl⟩
theorem dX3_readBoth_51 : Ins mX3_readBoth 51 (.iconst 0) 1 52 := ⟨by decide +kernel, rfl⟩
theorem dX3_readBoth_52 : CalV mX3_readBoth 52 55 mX5_addOrder := ⟨173, by decide +kernel, rfl, tb_3 (List.mem_of_getElem? (i := 21) (by decide +kernel)) rfl, meX5_addOrder⟩
theorem dX3_readBoth_55 : Ins mX3_readBoth 55 (.pop) 1 56 := ⟨by decide +kernel, rfl⟩
theorem dX3_readBoth_56 : Ins mX3_readBoth 56 (.iinc 2 1) 3 59 := ⟨by decide +kernel, rfl⟩
theorem dX3_readBoth_59 : Ins mX3_readBoth 59 (.goto (-52)) 3 62 := ⟨by decide +kernel, rfl⟩
theorem dX3_readBoth_62 : Ins mX3_readBoth 62 (.return_) 1 63 := ⟨by decide +kernel, rfl⟩
theorem dX3_readAsk_0 : Ins mX3_readAsk 0 (.aload_n 0) 1 1 := ⟨by decide +kernel, rfl⟩
theorem dX3_readAsk_1 : GgI mX3_readAsk 1 4 2 10 := ⟨10, rfl, ⟨48, _, by decide +kernel, rfl, rfl, by decide, tb_1 (List.mem_of_getElem? (i := 198) (by decide +kernel)) rfl⟩, by decide, rfl⟩
theorem dX3_readAsk_4 : Ins mX3_readAsk 4 (.ifCond .ne 9) 3 7 := ⟨by decide +kernel, rfl⟩
theorem dX3_readAsk_7 : Ins mX3_readAsk 7 (.iload_n 1) 1 8 := ⟨by decide +kernel, rfl⟩
theorem dX3_readAsk_8 : Ins mX3_readAsk 8 (.bipush 8) 2 10 := ⟨by decide +kernel, rfl⟩
theorem dX3_readAsk_10 : Ins mX3_readAsk 10 (.if_icmp .le 4) 3 13 := ⟨by decide +kernel, rfl⟩
theorem dX3_readAsk_13 : Ins mX3_readAsk 13 (.return_) 1 14 := ⟨by decide +kernel, rfl⟩
theorem dX3_readAsk_14 : Ins mX3_readAsk 14 (.aload_n 0) 1 15 := ⟨by decide +kernel, rfl⟩
theorem dX3_readAsk_15 : CalV mX3_readAsk 15 18 mX3_kind := ⟨64, by decide +kernel, rfl, tb_2 (List.mem_of_getElem? (i := 213) (by decide +kernel)) rfl, meX3_kind⟩
theorem dX3_readAsk_18 : Ins mX3_readAsk 18 (.bipush 22) 2 20 := ⟨by decide +kernel, rfl⟩
theorem dX3_readAsk_20 : Ins mX3_readAsk 20 (.if_icmp .ne 27) 3 23 := ⟨by decide +kernel, rfl⟩
theorem dX3_readAsk_23 : Ins mX3_readAsk 23 (.aload_n 0) 1 24 := ⟨by decide +kernel, rfl⟩
theorem dX3_readAsk_24 : Ins mX3_readAsk 24 (.iload_n 1) 1 25 := ⟨by decide +kernel, rfl⟩
theorem dX3_readAsk_25 : CalV mX3_readAsk 25 28 mX3_open := ⟨179, by decide +kernel, rfl, tb_3 (List.mem_of_getElem? (i := 25) (by decide +kernel)) rfl, meX3_open⟩
theorem dX3_readAsk_28 : Ins mX3_readAsk 28 (.aload_n 0) 1 29 := ⟨by decide +kernel, rfl⟩
theorem dX3_readAsk_29 : Ins mX3_readAsk 29 (.iload_n 1) 1 30 := ⟨by decide +kernel, rfl⟩
theorem dX3_readAsk_30 : Ins mX3_readAsk 30 (.iconst 1) 1 31 := ⟨by decide +kernel, rfl⟩
theorem dX3_readAsk_31 : Ins mX3_readAsk 31 (.iadd) 1 32 := ⟨by decide +kernel, rfl⟩
theorem dX3_readAsk_32 : CalV mX3_readAsk 32 35 mX3_readAsk := ⟨209, by decide +kernel, rfl, tb_3 (List.mem_of_getElem? (i := 53) (by decide +kernel)) rfl, meX3_readAsk⟩
theorem dX3_readAsk_35 : Ins mX3_readAsk 35 (.aload_n 0) 1 36 := ⟨by decide +kernel, rfl⟩
theorem dX3_readAsk_36 : GgR mX3_readAsk 36 39 2 8 := ⟨8, rfl, ⟨40, _, by decide +kernel, rfl, rfl, by decide, tb_1 (List.mem_of_getElem? (i := 194) (by decide +kernel)) rfl⟩, by decide, rfl⟩
theorem dX3_readAsk_39 : Ins mX3_readAsk 39 (.bipush 22) 2 41 := ⟨by decide +kernel, rfl⟩
theorem dX3_readAsk_41 : Ins mX3_readAsk 41 (.iconst 0) 1 42 := ⟨by decide +kernel, rfl⟩
theorem dX3_readAsk_42 : CalV mX3_readAsk 42 45 mX5_addOrder := ⟨173, by decide +kernel, rfl, tb_3 (List.mem_of_getElem? (i := 21) (by decide +kernel)) rfl, meX5_addOrder⟩
theorem dX3_readAsk_45 : Ins mX3_readAsk 45 (.pop) 1 46 := ⟨by decide +kernel, rfl⟩
theorem dX3_readAsk_46 : Ins mX3_readAsk 46 (.return_) 1 47 := ⟨by decide +kernel, rfl⟩
theorem dX3_readAsk_47 : Ins mX3_readAsk 47 (.aload_n 0) 1 48 := ⟨by decide +kernel, rfl⟩
theorem dX3_readAsk_48 : Ins mX3_readAsk 48 (.iload_n 1) 1 49 := ⟨by decide +kernel, rfl⟩
theorem dX3_readAsk_49 : CalV mX3_readAsk 49 52 mX3_readSum := ⟨149, by decide +kernel, rfl, tb_3 (List.mem_of_getElem? (i := 1) (by decide +kernel)) rfl, meX3_readSum⟩
theorem dX3_readAsk_52 : Ins mX3_readAsk 52 (.aload_n 0) 1 53 := ⟨by decide +kernel, rfl⟩
theorem dX3_readAsk_53 : CalV mX3_readAsk 53 56 mX3_kind := ⟨64, by decide +kernel, rfl, tb_2 (List.mem_of_getElem? (i := 213) (by decide +kernel)) rfl, meX3_kind⟩
theorem dX3_readAsk_56 : Ins mX3_readAsk 56 (.istore_n 2) 1 57 := ⟨by decide +kernel, rfl⟩
theorem dX3_readAsk_57 : Ins mX3_readAsk 57 (.iload_n 2) 1 58 := ⟨by decide +kernel, rfl⟩
theorem dX3_readAsk_58 : Ins mX3_readAsk 58 (.bipush 23) 2 60 := ⟨by decide +kernel, rfl⟩
theorem dX3_readAsk_60 : Ins mX3_readAsk 60 (.if_icmp .eq 22) 3 63 := ⟨by decide +kernel, rfl⟩
theorem dX3_readAsk_63 : Ins mX3_readAsk 63 (.iload_n 2) 1 64 := ⟨by decide +kernel, rfl⟩
theorem dX3_readAsk_64 : Ins mX3_readAsk 64 (.bipush 32) 2 66 := ⟨by decide +kernel, rfl⟩
theorem dX3_readAsk_66 : Ins mX3_readAsk 66 (.bipush 37) 2 68 := ⟨by decide +kernel, rfl⟩
theorem dX3_readAsk_68 : CalS mX3_readAsk 68 71 mX10_isWithin := ⟨94, by decide +kernel, rfl, Or.inr ⟨"RockingGuard", List.mem_of_getElem? (i := 7) (by decide +kernel)⟩, meX10_isWithin⟩
theorem dX3_readAsk_71 : Ins mX3_readAsk 71 (.ifCond .ne 11) 3 74 := ⟨by decide +kernel, rfl⟩
theorem dX3_readAsk_74 : Ins mX3_readAsk 74 (.aload_n 0) 1 75 := ⟨by decide +kernel, rfl⟩
theorem dX3_readAsk_75 : Ins mX3_readAsk 75 (.iconst 1) 1 76 := ⟨by decide +kernel, rfl⟩
theorem dX3_readAsk_76 : CalV mX3_readAsk 76 79 mX3_refuse := ⟨122, by decide +kernel, rfl, tb_2 (List.mem_of_getElem? (i := 221) (by decide +kernel)) rfl, meX3_refuse⟩
theorem dX3_readAsk_79 : Ins mX3_readAsk 79 (.goto 35) 3 82 := ⟨by decide +kernel, rfl⟩
theorem dX3_readAsk_82 : Ins mX3_readAsk 82 (.aload_n 0) 1 83 := ⟨by decide +kernel, rfl⟩
theorem dX3_readAsk_83 : GgI mX3_readAsk 83 86 2 10 := ⟨10, rfl, ⟨48, _, by decide +kernel, rfl, rfl, by decide, tb_1 (List.mem_of_getElem? (i := 198) (by decide +kernel)) rfl⟩, by decide, rfl⟩
theorem dX3_readAsk_86 : Ins mX3_readAsk 86 (.ifCond .ne 28) 3 89 := ⟨by decide +kernel, rfl⟩
theorem dX3_readAsk_89 : Ins mX3_readAsk 89 (.aload_n 0) 1 90 := ⟨by decide +kernel, rfl⟩
theorem dX3_readAsk_90 : Ins mX3_readAsk 90 (.dup) 1 91 := ⟨by decide +kernel, rfl⟩
theorem dX3_readAsk_91 : GgI mX3_readAsk 91 94 2 6 := ⟨6, rfl, ⟨31, _, by decide +kernel, rfl, rfl, by decide, tb_1 (List.mem_of_getElem? (i := 192) (by decide +kernel)) rfl⟩, by decide, rfl⟩
theorem dX3_readAsk_94 : Ins mX3_readAsk 94 (.iconst 1) 1 95 := ⟨by decide +kernel, rfl⟩
theorem dX3_readAsk_95 : Ins mX3_readAsk 95 (.iadd) 1 96 := ⟨by decide +kernel, rfl⟩
theorem dX3_readAsk_96 : GpI mX3_readAsk 96 99 2 6 := ⟨6, rfl, ⟨31, _, by decide +kernel, rfl, rfl, by decide, tb_1 (List.mem_of_getElem? (i := 192) (by decide +kernel)) rfl, by decide +kernel, Or.inl rfl⟩, by decide, rfl⟩
theorem dX3_readAsk_99 : Ins mX3_readAsk 99 (.aload_n 0) 1 100 := ⟨by decide +kernel, rfl⟩
theorem dX3_readAsk_100 : Ins mX3_readAsk 100 (.iload_n 1) 1 101 := ⟨by decide +kernel, rfl⟩
theorem dX3_readAsk_101 : CalV mX3_readAsk 101 104 mX3_readSum := ⟨149, by decide +kernel, rfl, tb_3 (List.mem_of_getElem? (i := 1) (by decide +kernel)) rfl, meX3_readSum⟩
theorem dX3_readAsk_104 : Ins mX3_readAsk 104 (.aload_n 0) 1 105 := ⟨by decide +kernel, rfl⟩
theorem dX3_readAsk_105 : GgR mX3_readAsk 105 108 2 8 := ⟨8, rfl, ⟨40, _, by decide +kernel, rfl, rfl, by decide, tb_1 (List.mem_of_getElem? (i := 194) (by decide +kernel)) rfl⟩, by decide, rfl⟩
theorem dX3_readAsk_108 : Ins mX3_readAsk 108 (.iload_n 2) 1 109 := ⟨by decide +kernel, rfl⟩
theorem dX3_readAsk_109 : Ins mX3_readAsk 109 (.iconst 0) 1 110 := ⟨by decide +kernel, rfl⟩
theorem dX3_readAsk_110 : CalV mX3_readAsk 110 113 mX5_addOrder := ⟨173, by decide +kernel, rfl, tb_3 (List.mem_of_getElem? (i := 21) (by decide +kernel)) rfl, meX5_addOrder⟩
theorem dX3_readAsk_113 : Ins mX3_readAsk 113 (.pop) 1 114 := ⟨by decide +kernel, rfl⟩
theorem dX3_readAsk_114 : Ins mX3_readAsk 114 (.return_) 1 115 := ⟨by decide +kernel, rfl⟩
theorem dX4_init_0 : Ins mX4_init 0 (.aload_n 0) 1 1 := ⟨by decide +kernel, rfl⟩
theorem dX4_init_1 : Ins mX4_init 1 (.invokespecial 3) 3 4 := ⟨by decide +kernel, rfl⟩
theorem dX4_init_4 : Ins mX4_init 4 (.aload_n 0) 1 5 := ⟨by decide +kernel, rfl⟩
theorem dX4_init_5 : Ins mX4_init 5 (.sipush 448) 3 8 := ⟨by decide +kernel, rfl⟩
theorem dX4_init_8 : Ins mX4_init 8 (.newarray .int) 2 10 := ⟨by decide +kernel, rfl⟩
theorem dX4_init_10 : GpR mX4_init 10 13 3 0 := ⟨0, rfl, _, ⟨11, _, by decide +kernel, rfl, rfl, by decide, tb_2 (List.mem_of_getElem? (i := 25) (by decide +kernel)) rfl, tyX4_ok 0 (by decide), Or.inr ⟨rfl, rfl, rfl⟩⟩, by decide, rfl, Or.inr ⟨_, rfl⟩⟩
theorem dX4_init_13 : Ins mX4_init 13 (.aload_n 0) 1 14 := ⟨by decide +kernel, rfl⟩
theorem dX4_init_14 : Ins mX4_init 14 (.bipush 6) 2 16 := ⟨by decide +kernel, rfl⟩
theorem dX4_init_16 : Ins mX4_init 16 (.newarray .int) 2 18 := ⟨by decide +kernel, rfl⟩
theorem dX4_init_18 : GpR mX4_init 18 21 3 1 := ⟨1, rfl, _, ⟨15, _, by decide +kernel, rfl, rfl, by decide, tb_2 (List.mem_of_getElem? (i := 26) (by decide +kernel)) rfl, tyX4_ok 1 (by decide), Or.inr ⟨rfl, rfl, rfl⟩⟩, by decide, rfl, Or.inr ⟨_, rfl⟩⟩
theorem dX4_init_21 : Ins mX4_init 21 (.return_) 1 22 := ⟨by decide +kernel, rfl⟩
theorem dX4_assign_0 : Ins mX4_assign 0 (.aload_n 1) 1 1 := ⟨by decide +kernel, rfl⟩
theorem dX4_assign_1 : GgI mX4_assign 1 4 7 4 := ⟨4, rfl, ⟨18, _, by decide +kernel, rfl, rfl, by decide, tb_1 (List.mem_of_getElem? (i := 90) (by decide +kernel)) rfl⟩, by decide, rfl⟩
theorem dX4_assign_4 : Ins mX4_assign 4 (.bipush 6) 2 6 := ⟨by decide +kernel, rfl⟩
theorem dX4_assign_6 : CalM mX4_assign 6 9 Lib.Math.min.name Lib.Math.min.code 2 (some .int) := ⟨24, by decide +kernel, rfl, tb_5 (List.mem_of_getElem? (i := 45) (by decide +kernel)) rfl, tb_1 (List.mem_of_getElem? (i := 83) (by decide +kernel)) rfl, tb_1 (List.mem_of_getElem? (i := 6) (by decide +kernel)) rfl, tb_1 (List.mem_of_getElem? (i := 84) rfl) rfl⟩
theorem dX4_assign_9 : Ins mX4_assign 9 (.istore_n 3) 1 10 := ⟨by decide +kernel, rfl⟩
theorem dX4_assign_10 : Ins mX4_assign 10 (.aload_n 0) 1 11 := ⟨by decide +kernel, rfl⟩
theorem dX4_assign_11 : GgR mX4_assign 11 14 3 0 := ⟨0, rfl, ⟨11, _, by decide +kernel, rfl, rfl, by decide, tb_2 (List.mem_of_getElem? (i := 25) (by decide +kernel)) rfl⟩, by decide, rfl⟩
theorem dX4_assign_14 : Ins mX4_assign 14 (.iconst 0) 1 15 := ⟨by decide +kernel, rfl⟩
theorem dX4_assign_15 : CalS mX4_assign 15 18 mJ7_fill_53178 := ⟨30, by decide +kernel, rfl, Or.inl (tb_5 (List.mem_of_getElem? (i := 46) (by decide +kernel)) rfl), meJ7_fill_53178⟩
theorem dX4_assign_18 : Ins mX4_assign 18 (.iload_n 3) 1 19 := ⟨by decide +kernel, rfl⟩
theorem dX4_assign_19 : Ins mX4_assign 19 (.iconst 1) 1 20 := ⟨by decide +kernel, rfl⟩
theorem dX4_assign_20 : Ins mX4_assign 20 (.isub) 1 21 := ⟨by decide +kernel, rfl⟩
theorem dX4_assign_21 : Ins mX4_assign 21 (.istore 4) 2 23 := ⟨by decide +kernel, rfl⟩
theorem dX4_assign_23 : Ins mX4_assign 23 (.iload 4) 2 25 := ⟨by decide +kernel, rfl⟩
theorem dX4_assign_25 : Ins mX4_assign 25 (.ifCond .lt 48) 3 28 := ⟨by decide +kernel, rfl⟩
theorem dX4_assign_28 : Ins mX4_assign 28 (.iconst 0) 1 29 := ⟨by decide +kernel, rfl⟩
theorem dX4_assign_29 : Ins mX4_assign 29 (.istore 5) 2 31 := ⟨by decide +kernel, rfl⟩
theorem dX4_assign_31 : Ins mX4_assign 31 (.iload 5) 2 33 := ⟨by decide +kernel, rfl⟩
theorem dX4_assign_33 : Ins mX4_assign 33 (.bipush 64) 2 35 := ⟨by decide +kernel, rfl⟩
theorem dX4_assign_35 : Ins mX4_assign 35 (.if_icmp .ge 32) 3 38 := ⟨by decide +kernel, rfl⟩
theorem dX4_assign_38 : Ins mX4_assign 38 (.aload_n 0) 1 39 := ⟨by decide +kernel, rfl⟩
theorem dX4_assign_39 : GgR mX4_assign 39 42 3 0 := ⟨0, rfl, ⟨11, _, by decide +kernel, rfl, rfl, by decide, tb_2 (List.mem_of_getElem? (i := 25) (by decide +kernel)) rfl⟩, by decide, rfl⟩
theorem dX4_assign_42 : Ins mX4_assign 42 (.iload 4) 2 44 := ⟨by decide +kernel, rfl⟩
theorem dX4_assign_44 : Ins mX4_assign 44 (.bipush 64) 2 46 := ⟨by decide +kernel, rfl⟩
theorem dX4_assign_46 : Ins mX4_assign 46 (.imul) 1 47 := ⟨by decide +kernel, rfl⟩
theorem dX4_assign_47 : Ins mX4_assign 47 (.iload 5) 2 49 := ⟨by decide +kernel, rfl⟩
theorem dX4_assign_49 : Ins mX4_assign 49 (.iadd) 1 50 := ⟨by decide +kernel, rfl⟩
theorem dX4_assign_50 : Ins mX4_assign 50 (.aload_n 0) 1 51 := ⟨by decide +kernel, rfl⟩
theorem dX4_assign_51 : Ins mX4_assign 51 (.iload 4) 2 53 := ⟨by decide +kernel, rfl⟩
theorem dX4_assign_53 : Ins mX4_assign 53 (.iload 5) 2 55 := ⟨by decide +kernel, rfl⟩
theorem dX4_assign_55 : Ins mX4_assign 55 (.aload_n 1) 1 56 := ⟨by decide +kernel, rfl⟩
theorem dX4_assign_56 : Ins mX4_assign 56 (.aload_n 2) 1 57 := ⟨by decide +kernel, rfl⟩
theorem dX4_assign_57 : CalV mX4_assign 57 60 mX4_mostFrom := ⟨36, by decide +kernel, rfl, tb_5 (List.mem_of_getElem? (i := 47) (by decide +kernel)) rfl, meX4_mostFrom⟩
theorem dX4_assign_60 : Ins mX4_assign 60 (.iastore) 1 61 := ⟨by decide +kernel, rfl⟩
theorem dX4_assign_61 : Ins mX4_assign 61 (.iinc 5 1) 3 64 := ⟨by decide +kernel, rfl⟩
theorem dX4_assign_64 : Ins mX4_assign 64 (.goto (-33)) 3 67 := ⟨by decide +kernel, rfl⟩
theorem dX4_assign_67 : Ins mX4_assign 67 (.iinc 4 (-1)) 3 70 := ⟨by decide +kernel, rfl⟩
theorem dX4_assign_70 : Ins mX4_assign 70 (.goto (-47)) 3 73 := ⟨by decide +kernel, rfl⟩
theorem dX4_assign_73 : Ins mX4_assign 73 (.iconst 0) 1 74 := ⟨by decide +kernel, rfl⟩
theorem dX4_assign_74 : Ins mX4_assign 74 (.istore 4) 2 76 := ⟨by decide +kernel, rfl⟩
theorem dX4_assign_76 : Ins mX4_assign 76 (.iconst 0) 1 77 := ⟨by decide +kernel, rfl⟩
theorem dX4_assign_77 : Ins mX4_assign 77 (.istore 5) 2 79 := ⟨by decide +kernel, rfl⟩
theorem dX4_assign_79 : Ins mX4_assign 79 (.iload 5) 2 81 := ⟨by decide +kernel, rfl⟩
theorem dX4_assign_81 : Ins mX4_assign 81 (.iload_n 3) 1 82 := ⟨by decide +kernel, rfl⟩
theorem dX4_assign_82 : Ins mX4_assign 82 (.if_icmp .ge 55) 3 85 := ⟨by decide +kernel, rfl⟩
theorem dX4_assign_85 : Ins mX4_assign 85 (.aload_n 0) 1 86 := ⟨by decide +kernel, rfl⟩
theorem dX4_assign_86 : GgR mX4_assign 86 89 3 1 := ⟨1, rfl, ⟨15, _, by decide +kernel, rfl, rfl, by decide, tb_2 (List.mem_of_getElem? (i := 26) (by decide +kernel)) rfl⟩, by decide, rfl⟩
theorem dX4_assign_89 : Ins mX4_assign 89 (.iload 5) 2 91 := ⟨by decide +kernel, rfl⟩
theorem dX4_assign_91 : Ins mX4_assign 91 (.aload_n 0) 1 92 := ⟨by decide +kernel, rfl⟩
theorem dX4_assign_92 : Ins mX4_assign 92 (.iload 5) 2 94 := ⟨by decide +kernel, rfl⟩
theorem dX4_assign_94 : Ins mX4_assign 94 (.iload 4) 2 96 := ⟨by decide +kernel, rfl⟩
theorem dX4_assign_96 : Ins mX4_assign 96 (.aload_n 1) 1 97 := ⟨by decide +kernel, rfl⟩
theorem dX4_assign_97 : Ins mX4_assign 97 (.aload_n 2) 1 98 := ⟨by decide +kernel, rfl⟩
theorem dX4_assign_98 : CalV mX4_assign 98 101 mX4_lowestFor := ⟨40, by decide +kernel, rfl, tb_5 (List.mem_of_getElem? (i := 63) (by decide +kernel)) rfl, meX4_lowestFor⟩
theorem dX4_assign_101 : Ins mX4_assign 101 (.iastore) 1 102 := ⟨by decide +kernel, rfl⟩
theorem dX4_assign_102 : Ins mX4_assign 102 (.iload 4) 2 104 := ⟨by decide +kernel, rfl⟩
theorem dX4_assign_104 : Ins mX4_assign 104 (.aload_n 0) 1 105 := ⟨by decide +kernel, rfl⟩
theorem dX4_assign_105 : GgR mX4_assign 105 108 3 1 := ⟨1, rfl, ⟨15, _, by decide +kernel, rfl, rfl, by decide, tb_2 (List.mem_of_getElem? (i := 26) (by decide +kernel)) rfl⟩, by decide, rfl⟩
theorem dX4_assign_108 : Ins mX4_assign 108 (.iload 5) 2 110 := ⟨by decide +kernel, rfl⟩
theorem dX4_assign_110 : Ins mX4_assign 110 (.iaload) 1 111 := ⟨by decide +kernel, rfl⟩
theorem dX4_assign_111 : Ins mX4_assign 111 (.iconst (-1)) 1 112 := ⟨by decide +kernel, rfl⟩
theorem dX4_assign_112 : Ins mX4_assign 112 (.if_icmp .ne 7) 3 115 := ⟨by decide +kernel, rfl⟩
theorem dX4_assign_115 : Ins mX4_assign 115 (.iconst 0) 1 116 := ⟨by decide +kernel, rfl⟩
theorem dX4_assign_116 : Ins mX4_assign 116 (.goto 12) 3 119 := ⟨by decide +kernel, rfl⟩
theorem dX4_assign_119 : Ins mX4_assign 119 (.iconst 1) 1 120 := ⟨by decide +kernel, rfl⟩
theorem dX4_assign_120 : Ins mX4_assign 120 (.aload_n 0) 1 121 := ⟨by decide +kernel, rfl⟩
theorem dX4_assign_121 : GgR mX4_assign 121 124 3 1 := ⟨1, rfl, ⟨15, _, by decide +kernel, rfl, rfl, by decide, tb_2 (List.mem_of_getElem? (i := 26) (by decide +kernel)) rfl⟩, by decide, rfl⟩
theorem dX4_assign_124 : Ins mX4_assign 124 (.iload 5) 2 126 := ⟨by decide +kernel, rfl⟩
theorem dX4_assign_126 : Ins mX4_assign 126 (.iaload) 1 127 := ⟨by decide +kernel, rfl⟩
theorem dX4_assign_127 : Ins mX4_assign 127 (.ishl) 1 128 := ⟨by decide +kernel, rfl⟩
theorem dX4_assign_128 : Ins mX4_assign 128 (.ior) 1 129 := ⟨by decide +kernel, rfl⟩
theorem dX4_assign_129 : Ins mX4_assign 129 (.istore 4) 2 131 := ⟨by decide +kernel, rfl⟩
theorem dX4_assign_131 : Ins mX4_assign 131 (.iinc 5 1) 3 134 := ⟨by decide +kernel, rfl⟩
theorem dX4_assign_134 : Ins mX4_assign 134 (.goto (-55)) 3 137 := ⟨by decide +kernel, rfl⟩
theorem dX4_assign_137 : Ins mX4_assign 137 (.aload_n 0) 1 138 := ⟨by decide +kernel, rfl⟩
theorem dX4_assign_138 : GgR mX4_assign 138 141 3 0 := ⟨0, rfl, ⟨11, _, by decide +kernel, rfl, rfl, by decide, tb_2 (List.mem_of_getElem? (i := 25) (by decide +kernel)) rfl⟩, by decide, rfl⟩
theorem dX4_assign_141 : Ins mX4_assign 141 (.iconst 0) 1 142 := ⟨by decide +kernel, rfl⟩
theorem dX4_assign_142 : Ins mX4_assign 142 (.iaload) 1 143 := ⟨by decide +kernel, rfl⟩
theorem dX4_assign_143 : Ins mX4_assign 143 (.ireturn) 1 144 := ⟨by decide +kernel, rfl⟩
theorem dX4_boyOf_0 : Ins mX4_boyOf 0 (.iload_n 1) 1 1 := ⟨by decide +kernel, rfl⟩
theorem dX4_boyOf_1 : Ins mX4_boyOf 1 (.ifCond .lt 18) 3 4 := ⟨by decide +kernel, rfl⟩
theorem dX4_boyOf_4 : Ins mX4_boyOf 4 (.iload_n 1) 1 5 := ⟨by decide +kernel, rfl⟩
theorem dX4_boyOf_5 : Ins mX4_boyOf 5 (.bipush 6) 2 7 := ⟨by decide +kernel, rfl⟩
theorem dX4_boyOf_7 : Ins mX4_boyOf 7 (.if_icmp .ge 12) 3 10 := ⟨by decide +kernel, rfl⟩
theorem dX4_boyOf_10 : Ins mX4_boyOf 10 (.aload_n 0) 1 11 := ⟨by decide +kernel, rfl⟩
theorem dX4_boyOf_11 : GgR mX4_boyOf 11 14 3 1 := ⟨1, rfl, ⟨15, _, by decide +kernel, rfl, rfl, by decide, tb_2 (List.mem_of_getElem? (i := 26) (by decide +kernel)) rfl⟩, by decide, rfl⟩
theorem dX4_boyOf_14 : Ins mX4_boyOf 14 (.iload_n 1) 1 15 := ⟨by decide +kernel, rfl⟩
theorem dX4_boyOf_15 : Ins mX4_boyOf 15 (.iaload) 1 16 := ⟨by decide +kernel, rfl⟩
theorem dX4_boyOf_16 : Ins mX4_boyOf 16 (.goto 4) 3 19 := ⟨by decide +kernel, rfl⟩
theorem dX4_boyOf_19 : Ins mX4_boyOf 19 (.iconst (-1)) 1 20 := ⟨by decide +kernel, rfl⟩
theorem dX4_boyOf_20 : Ins mX4_boyOf 20 (.ireturn) 1 21 := ⟨by decide +kernel, rfl⟩
theorem dX4_mostFrom_0 : Ins mX4_mostFrom 0 (.aload_n 0) 1 1 := ⟨by decide +kernel, rfl⟩
theorem dX4_mostFrom_1 : GgR mX4_mostFrom 1 4 3 0 := ⟨0, rfl, ⟨11, _, by decide +kernel, rfl, rfl, by decide, tb_2 (List.mem_of_getElem? (i := 25) (by decide +kernel)) rfl⟩, by decide, rfl⟩
theorem dX4_mostFrom_4 : Ins mX4_mostFrom 4 (.iload_n 1) 1 5 := ⟨by decide +kernel, rfl⟩
theorem dX4_mostFrom_5 : Ins mX4_mostFrom 5 (.iconst 1) 1 6 := ⟨by decide +kernel, rfl⟩
theorem dX4_mostFrom_6 : Ins mX4_mostFrom 6 (.iadd) 1 7 := ⟨by decide +kernel, rfl⟩
theorem dX4_mostFrom_7 : Ins mX4_mostFrom 7 (.bipush 64) 2 9 := ⟨by decide +kernel, rfl⟩
theorem dX4_mostFrom_9 : Ins mX4_mostFrom 9 (.imul) 1 10 := ⟨by decide +kernel, rfl⟩
theorem dX4_mostFrom_10 : Ins mX4_mostFrom 10 (.iload_n 2) 1 11 := ⟨by decide +kernel, rfl⟩
theorem dX4_mostFrom_11 : Ins mX4_mostFrom 11 (.iadd) 1 12 := ⟨by decide +kernel, rfl⟩
theorem dX4_mostFrom_12 : Ins mX4_mostFrom 12 (.iaload) 1 13 := ⟨by decide +kernel, rfl⟩
theorem dX4_mostFrom_13 : Ins mX4_mostFrom 13 (.istore 5) 2 15 := ⟨by decide +kernel, rfl⟩
theorem dX4_mostFrom_15 : Ins mX4_mostFrom 15 (.iconst 0) 1 16 := ⟨by decide +kernel, rfl⟩
theorem dX4_mostFrom_16 : Ins mX4_mostFrom 16 (.istore 6) 2 18 := ⟨by decide +kernel, rfl⟩
theorem dX4_mostFrom_18 : Ins mX4_mostFrom 18 (.iload 6) 2 20 := ⟨by decide +kernel, rfl⟩
theorem dX4_mostFrom_20 : Ins mX4_mostFrom 20 (.bipush 6) 2 22 := ⟨by decide +kernel, rfl⟩
theorem dX4_mostFrom_22 : Ins mX4_mostFrom 22 (.if_icmp .ge 49) 3 25 := ⟨by decide +kernel, rfl⟩
theorem dX4_mostFrom_25 : Ins mX4_mostFrom 25 (.iload_n 1) 1 26 := ⟨by decide +kernel, rfl⟩
theorem dX4_mostFrom_26 : Ins mX4_mostFrom 26 (.iload 6) 2 28 := ⟨by decide +kernel, rfl⟩
theorem dX4_mostFrom_28 : Ins mX4_mostFrom 28 (.iload_n 2) 1 29 := ⟨by decide +kernel, rfl⟩
theorem dX4_mostFrom_29 : Ins mX4_mostFrom 29 (.aload_n 3) 1 30 := ⟨by decide +kernel, rfl⟩
theorem dX4_mostFrom_30 : Ins mX4_mostFrom 30 (.aload 4) 2 32 := ⟨by decide +kernel, rfl⟩
theorem dX4_mostFrom_32 : CalS mX4_mostFrom 32 35 mX4_suits := ⟨43, by decide +kernel, rfl, Or.inl (tb_5 (List.mem_of_getElem? (i := 51) (by decide +kernel)) rfl), meX4_suits⟩
theorem dX4_mostFrom_35 : Ins mX4_mostFrom 35 (.ifCond .eq 30) 3 38 := ⟨by decide +kernel, rfl⟩
theorem dX4_mostFrom_38 : Ins mX4_mostFrom 38 (.iload 5) 2 40 := ⟨by decide +kernel, rfl⟩
theorem dX4_mostFrom_40 : Ins mX4_mostFrom 40 (.iconst 1) 1 41 := ⟨by decide +kernel, rfl⟩
theorem dX4_mostFrom_41 : Ins mX4_mostFrom 41 (.aload_n 0) 1 42 := ⟨by decide +kernel, rfl⟩
theorem dX4_mostFrom_42 : GgR mX4_mostFrom 42 45 3 0 := ⟨0, rfl, ⟨11, _, by decide +kernel, rfl, rfl, by decide, tb_2 (List.mem_of_getElem? (i := 25) (by decide +kernel)) rfl⟩, by decide, rfl⟩
theorem dX4_mostFrom_45 : Ins mX4_mostFrom 45 (.iload_n 1) 1 46 := ⟨by decide +kernel, rfl⟩
theorem dX4_mostFrom_46 : Ins mX4_mostFrom 46 (.iconst 1) 1 47 := ⟨by decide +kernel, rfl⟩
theorem dX4_mostFrom_47 : Ins mX4_mostFrom 47 (.iadd) 1 48 := ⟨by decide +kernel, rfl⟩
theorem dX4_mostFrom_48 : Ins mX4_mostFrom 48 (.bipush 64) 2 50 := ⟨by decide +kernel, rfl⟩
theorem dX4_mostFrom_50 : Ins mX4_mostFrom 50 (.imul) 1 51 := ⟨by decide +kernel, rfl⟩
theorem dX4_mostFrom_51 : Ins mX4_mostFrom 51 (.iload_n 2) 1 52 := ⟨by decide +kernel, rfl⟩
theorem dX4_mostFrom_52 : Ins mX4_mostFrom 52 (.iconst 1) 1 53 := ⟨by decide +kernel, rfl⟩
theorem dX4_mostFrom_53 : Ins mX4_mostFrom 53 (.iload 6) 2 55 := ⟨by decide +kernel, rfl⟩
theorem dX4_mostFrom_55 : Ins mX4_mostFrom 55 (.ishl) 1 56 := ⟨by decide +kernel, rfl⟩
theorem dX4_mostFrom_56 : Ins mX4_mostFrom 56 (.ior) 1 57 := ⟨by decide +kernel, rfl⟩
theorem dX4_mostFrom_57 : Ins mX4_mostFrom 57 (.iadd) 1 58 := ⟨by decide +kernel, rfl⟩
theorem dX4_mostFrom_58 : Ins mX4_mostFrom 58 (.iaload) 1 59 := ⟨by decide +kernel, rfl⟩
theorem dX4_mostFrom_59 : Ins mX4_mostFrom 59 (.iadd) 1 60 := ⟨by decide +kernel, rfl⟩
theorem dX4_mostFrom_60 : CalM mX4_mostFrom 60 63 Lib.Math.max.name Lib.Math.max.code 2 (some .int) := ⟨47, by decide +kernel, rfl, tb_5 (List.mem_of_getElem? (i := 62) (by decide +kernel)) rfl, tb_2 (List.mem_of_getElem? (i := 206) (by decide +kernel)) rfl, tb_1 (List.mem_of_getElem? (i := 6) (by decide +kernel)) rfl, tb_2 (List.mem_of_getElem? (i := 207) rfl) rfl⟩
theorem dX4_mostFrom_63 : Ins mX4_mostFrom 63 (.istore 5) 2 65 := ⟨by decide +kernel, rfl⟩
theorem dX4_mostFrom_65 : Ins mX4_mostFrom 65 (.iinc 6 1) 3 68 := ⟨by decide +kernel, rfl⟩
theorem dX4_mostFrom_68 : Ins mX4_mostFrom 68 (.goto (-50)) 3 71 := ⟨by decide +kernel, rfl⟩
theorem dX4_mostFrom_71 : Ins mX4_mostFrom 71 (.iload 5) 2 73 := ⟨by decide +kernel, rfl⟩
theorem dX4_mostFrom_73 : Ins mX4_mostFrom 73 (.ireturn) 1 74 := ⟨by decide +kernel, rfl⟩
theorem dX4_lowestFor_0 : Ins mX4_lowestFor 0 (.aload_n 0) 1 1 := ⟨by decide +kernel, rfl⟩
theorem dX4_lowestFor_1 : GgR mX4_lowestFor 1 4 3 0 := ⟨0, rfl, ⟨11, _, by decide +kernel, rfl, rfl, by decide, tb_2 (List.mem_of_getElem? (i := 25) (by decide +kernel)) rfl⟩, by decide, rfl⟩
theorem dX4_lowestFor_4 : Ins mX4_lowestFor 4 (.iload_n 1) 1 5 := ⟨by decide +kernel, rfl⟩
theorem dX4_lowestFor_5 : Ins mX4_lowestFor 5 (.bipush 64) 2 7 := ⟨by decide +kernel, rfl⟩
theorem dX4_lowestFor_7 : Ins mX4_lowestFor 7 (.imul) 1 8 := ⟨by decide +kernel, rfl⟩
theorem dX4_lowestFor_8 : Ins mX4_lowestFor 8 (.iload_n 2) 1 9 := ⟨by decide +kernel, rfl⟩
theorem dX4_lowestFor_9 : Ins mX4_lowestFor 9 (.iadd) 1 10 := ⟨by decide +kernel, rfl⟩
theorem dX4_lowestFor_10 : Ins mX4_lowestFor 10 (.iaload) 1 11 := ⟨by decide +kernel, rfl⟩
theorem dX4_lowestFor_11 : Ins mX4_lowestFor 11 (.istore 5) 2 13 := ⟨by decide +kernel, rfl⟩
theorem dX4_lowestFor_13 : Ins mX4_lowestFor 13 (.iconst 0) 1 14 := ⟨by decide +kernel, rfl⟩
theorem dX4_lowestFor_14 : Ins mX4_lowestFor 14 (.istore 6) 2 16 := ⟨by decide +kernel, rfl⟩
theorem dX4_lowestFor_16 : Ins mX4_lowestFor 16 (.iload 6) 2 18 := ⟨by decide +kernel, rfl⟩
theorem dX4_lowestFor_18 : Ins mX4_lowestFor 18 (.bipush 6) 2 20 := ⟨by decide +kernel, rfl⟩
theorem dX4_lowestFor_20 : Ins mX4_lowestFor 20 (.if_icmp .ge 50) 3 23 := ⟨by decide +kernel, rfl⟩
theorem dX4_lowestFor_23 : Ins mX4_lowestFor 23 (.iload_n 1) 1 24 := ⟨by decide +kernel, rfl⟩
theorem dX4_lowestFor_24 : Ins mX4_lowestFor 24 (.iload 6) 2 26 := ⟨by decide +kernel, rfl⟩
theorem dX4_lowestFor_26 : Ins mX4_lowestFor 26 (.iload_n 2) 1 27 := ⟨by decide +kernel, rfl⟩
theorem dX4_lowestFor_27 : Ins mX4_lowestFor 27 (.aload_n 3) 1 28 := ⟨by decide +kernel, rfl⟩
theorem dX4_lowestFor_28 : Ins mX4_lowestFor 28 (.aload 4) 2 30 := ⟨by decide +kernel, rfl⟩
theorem dX4_lowestFor_30 : CalS mX4_lowestFor 30 33 mX4_suits := ⟨43, by decide +kernel, rfl, Or.inl (tb_5 (List.mem_of_getElem? (i := 51) (by decide +kernel)) rfl), meX4_suits⟩
theorem dX4_lowestFor_33 : Ins mX4_lowestFor 33 (.ifCond .eq 31) 3 36 := ⟨by decide +kernel, rfl⟩
theorem dX4_lowestFor_36 : Ins mX4_lowestFor 36 (.iconst 1) 1 37 := ⟨by decide +kernel, rfl⟩
theorem dX4_lowestFor_37 : Ins mX4_lowestFor 37 (.aload_n 0) 1 38 := ⟨by decide +kernel, rfl⟩
theorem dX4_lowestFor_38 : GgR mX4_lowestFor 38 41 3 0 := ⟨0, rfl, ⟨11, _, by decide +kernel, rfl, rfl, by decide, tb_2 (List.mem_of_getElem? (i := 25) (by decide +kernel)) rfl⟩, by decide, rfl⟩
theorem dX4_lowestFor_41 : Ins mX4_lowestFor 41 (.iload_n 1) 1 42 := ⟨by decide +kernel, rfl⟩
theorem dX4_lowestFor_42 : Ins mX4_lowestFor 42 (.iconst 1) 1 43 := ⟨by decide +kernel, rfl⟩
theorem dX4_lowestFor_43 : Ins mX4_lowestFor 43 (.iadd) 1 44 := ⟨by decide +kernel, rfl⟩
theorem dX4_lowestFor_44 : Ins mX4_lowestFor 44 (.bipush 64) 2 46 := ⟨by decide +kernel, rfl⟩
theorem dX4_lowestFor_46 : Ins mX4_lowestFor 46 (.imul) 1 47 := ⟨by decide +kernel, rfl⟩
theorem dX4_lowestFor_47 : Ins mX4_lowestFor 47 (.iload_n 2) 1 48 := ⟨by decide +kernel, rfl⟩
theorem dX4_lowestFor_48 : Ins mX4_lowestFor 48 (.iconst 1) 1 49 := ⟨by decide +kernel, rfl⟩
theorem dX4_lowestFor_49 : Ins mX4_lowestFor 49 (.iload 6) 2 51 := ⟨by decide +kernel, rfl⟩
theorem dX4_lowestFor_51 : Ins mX4_lowestFor 51 (.ishl) 1 52 := ⟨by decide +kernel, rfl⟩
theorem dX4_lowestFor_52 : Ins mX4_lowestFor 52 (.ior) 1 53 := ⟨by decide +kernel, rfl⟩
theorem dX4_lowestFor_53 : Ins mX4_lowestFor 53 (.iadd) 1 54 := ⟨by decide +kernel, rfl⟩
theorem dX4_lowestFor_54 : Ins mX4_lowestFor 54 (.iaload) 1 55 := ⟨by decide +kernel, rfl⟩
theorem dX4_lowestFor_55 : Ins mX4_lowestFor 55 (.iadd) 1 56 := ⟨by decide +kernel, rfl⟩
theorem dX4_lowestFor_56 : Ins mX4_lowestFor 56 (.iload 5) 2 58 := ⟨by decide +kernel, rfl⟩
theorem dX4_lowestFor_58 : Ins mX4_lowestFor 58 (.if_icmp .ne 6) 3 61 := ⟨by decide +kernel, rfl⟩
theorem dX4_lowestFor_61 : Ins mX4_lowestFor 61 (.iload 6) 2 63 := ⟨by decide +kernel, rfl⟩
theorem dX4_lowestFor_63 : Ins mX4_lowestFor 63 (.ireturn) 1 64 := ⟨by decide +kernel, rfl⟩
theorem dX4_lowestFor_64 : Ins mX4_lowestFor 64 (.iinc 6 1) 3 67 := ⟨by decide +kernel, rfl⟩
theorem dX4_lowestFor_67 : Ins mX4_lowestFor 67 (.goto (-51)) 3 70 := ⟨by decide +kernel, rfl⟩
theorem dX4_lowestFor_70 : Ins mX4_lowestFor 70 (.iconst (-1)) 1 71 := ⟨by decide +kernel, rfl⟩
theorem dX4_lowestFor_71 : Ins mX4_lowestFor 71 (.ireturn) 1 72 := ⟨by decide +kernel, rfl⟩
theorem dX4_suits_0 : Ins mX4_suits 0 (.aload 4) 2 2 := ⟨by decide +kernel, rfl⟩
theorem dX4_suits_2 : Ins mX4_suits 2 (.iload_n 1) 1 3 := ⟨by decide +kernel, rfl⟩
theorem dX4_suits_3 : CalV mX4_suits 3 6 mX7_isBoy := ⟨50, by decide +kernel, rfl, tb_5 (List.mem_of_getElem? (i := 54) (by decide +kernel)) rfl, meX7_isBoy⟩
theorem dX4_suits_6 : Ins mX4_suits 6 (.ifCond .eq 37) 3 9 := ⟨by decide +kernel, rfl⟩
theorem dX4_suits_9 : Ins mX4_suits 9 (.iload_n 2) 1 10 := ⟨by decide +kernel, rfl⟩
theorem dX4_suits_10 : Ins mX4_suits 10 (.iload_n 1) 1 11 := ⟨by decide +kernel, rfl⟩
theorem dX4_suits_11 : Ins mX4_suits 11 (.ishr) 1 12 := ⟨by decide +kernel, rfl⟩
theorem dX4_suits_12 : Ins mX4_suits 12 (.iconst 1) 1 13 := ⟨by decide +kernel, rfl⟩
theorem dX4_suits_13 : Ins mX4_suits 13 (.iand) 1 14 := ⟨by decide +kernel, rfl⟩
theorem dX4_suits_14 : Ins mX4_suits 14 (.ifCond .ne 29) 3 17 := ⟨by decide +kernel, rfl⟩
theorem dX4_suits_17 : Ins mX4_suits 17 (.aload 4) 2 19 := ⟨by decide +kernel, rfl⟩
theorem dX4_suits_19 : Ins mX4_suits 19 (.iload_n 1) 1 20 := ⟨by decide +kernel, rfl⟩
theorem dX4_suits_20 : CalV mX4_suits 20 23 mX7_sizeOf := ⟨56, by decide +kernel, rfl, tb_5 (List.mem_of_getElem? (i := 55) (by decide +kernel)) rfl, meX7_sizeOf⟩
theorem dX4_suits_23 : Ins mX4_suits 23 (.aload_n 3) 1 24 := ⟨by decide +kernel, rfl⟩
theorem dX4_suits_24 : Ins mX4_suits 24 (.iload_n 0) 1 25 := ⟨by decide +kernel, rfl⟩
theorem dX4_suits_25 : CalV mX4_suits 25 28 mX8_secondOf := ⟨60, by decide +kernel, rfl, tb_5 (List.mem_of_getElem? (i := 56) (by decide +kernel)) rfl, meX8_secondOf⟩
theorem dX4_suits_28 : Ins mX4_suits 28 (.aload_n 3) 1 29 := ⟨by decide +kernel, rfl⟩
theorem dX4_suits_29 : Ins mX4_suits 29 (.iload_n 0) 1 30 := ⟨by decide +kernel, rfl⟩
theorem dX4_suits_30 : CalV mX4_suits 30 33 mX8_thirdOf := ⟨63, by decide +kernel, rfl, tb_5 (List.mem_of_getElem? (i := 57) (by decide +kernel)) rfl, meX8_thirdOf⟩
theorem dX4_suits_33 : CalS mX4_suits 33 36 mX10_isWithin := ⟨66, by decide +kernel, rfl, Or.inr ⟨"RockingGuard", List.mem_of_getElem? (i := 8) (by decide +kernel)⟩, meX10_isWithin⟩
theorem dX4_suits_36 : Ins mX4_suits 36 (.ifCond .eq 7) 3 39 := ⟨by decide +kernel, rfl⟩
theorem dX4_suits_39 : Ins mX4_suits 39 (.iconst 1) 1 40 := ⟨by decide +kernel, rfl⟩
theorem dX4_suits_40 : Ins mX4_suits 40 (.goto 4) 3 43 := ⟨by decide +kernel, rfl⟩
theorem dX4_suits_43 : Ins mX4_suits 43 (.iconst 0) 1 44 := ⟨by decide +kernel, rfl⟩
theorem dX4_suits_44 : Ins mX4_suits 44 (.ireturn) 1 45 := ⟨by decide +kernel, rfl⟩
theorem dX5_init_0 : Ins mX5_init 0 (.aload_n 0) 1 1 := ⟨by decide +kernel, rfl⟩
theorem dX5_init_1 : Ins mX5_init 1 (.invokespecial 3) 3 4 := ⟨by decide +kernel, rfl⟩
theorem dX5_init_4 : Ins mX5_init 4 (.aload_n 0) 1 5 := ⟨by decide +kernel, rfl⟩
theorem dX5_init_5 : Ins mX5_init 5 (.sipush 300) 3 8 := ⟨by decide +kernel, rfl⟩
theorem dX5_init_8 : Ins mX5_init 8 (.newarray .int) 2 10 := ⟨by decide +kernel, rfl⟩
theorem dX5_init_10 : GpR mX5_init 10 13 4 0 := ⟨0, rfl, _, ⟨9, _, by decide +kernel, rfl, rfl, by decide, tb_1 (List.mem_of_getElem? (i := 151) (by decide +kernel)) rfl, tyX5_ok 0 (by decide), Or.inr ⟨rfl, rfl, rfl⟩⟩, by decide, rfl, Or.inr ⟨_, rfl⟩⟩
theorem dX5_init_13 : Ins mX5_init 13 (.aload_n 0) 1 14 := ⟨by decide +kernel, rfl⟩
theorem dX5_init_14 : Ins mX5_init 14 (.sipush 300) 3 17 := ⟨by decide +kernel, rfl⟩
theorem dX5_init_17 : Ins mX5_init 17 (.newarray .int) 2 19 := ⟨by decide +kernel, rfl⟩
theorem dX5_init_19 : GpR mX5_init 19 22 4 1 := ⟨1, rfl, _, ⟨15, _, by decide +kernel, rfl, rfl, by decide, tb_1 (List.mem_of_getElem? (i := 153) (by decide +kernel)) rfl, tyX5_ok 1 (by decide), Or.inr ⟨rfl, rfl, rfl⟩⟩, by decide, rfl, Or.inr ⟨_, rfl⟩⟩
theorem dX5_init_22 : Ins mX5_init 22 (.aload_n 0) 1 23 := ⟨by decide +kernel, rfl⟩
theorem dX5_init_23 : Ins mX5_init 23 (.iconst 0) 1 24 := ⟨by decide +kernel, rfl⟩
theorem dX5_init_24 : GpI mX5_init 24 27 4 2 := ⟨2, rfl, ⟨18, _, by decide +kernel, rfl, rfl, by decide, tb_1 (List.mem_of_getElem? (i := 155) (by decide +kernel)) rfl, by decide +kernel, Or.inl rfl⟩, by decide, rfl⟩
theorem dX5_init_27 : Ins mX5_init 27 (.aload_n 0) 1 28 := ⟨by decide +kernel, rfl⟩
theorem dX5_init_28 : Ins mX5_init 28 (.iconst 3) 1 29 := ⟨by decide +kernel, rfl⟩
theorem dX5_init_29 : Ins mX5_init 29 (.newarray .int) 2 31 := ⟨by decide +kernel, rfl⟩
theorem dX5_init_31 : GpR mX5_init 31 34 4 3 := ⟨3, rfl, _, ⟨22, _, by decide +kernel, rfl, rfl, by decide, tb_1 (List.mem_of_getElem? (i := 156) (by decide +kernel)) rfl, tyX5_ok 3 (by decide), Or.inr ⟨rfl, rfl, rfl⟩⟩, by decide, rfl, Or.inr ⟨_, rfl⟩⟩
theorem dX5_init_34 : Ins mX5_init 34 (.aload_n 0) 1 35 := ⟨by decide +kernel, rfl⟩
theorem dX5_init_35 : Ins mX5_init 35 (.iconst 3) 1 36 := ⟨by decide +kernel, rfl⟩
theorem dX5_init_36 : Ins mX5_init 36 (.newarray .int) 2 38 := ⟨by decide +kernel, rfl⟩
theorem dX5_init_38 : GpR mX5_init 38 41 4 4 := ⟨4, rfl, _, ⟨25, _, by decide +kernel, rfl, rfl, by decide, tb_1 (List.mem_of_getElem? (i := 158) (by decide +kernel)) rfl, tyX5_ok 4 (by decide), Or.inr ⟨rfl, rfl, rfl⟩⟩, by decide, rfl, Or.inr ⟨_, rfl⟩⟩
theorem dX5_init_41 : Ins mX5_init 41 (.aload_n 0) 1 42 := ⟨by decide +kernel, rfl⟩
theorem dX5_init_42 : Ins mX5_init 42 (.bipush 24) 2 44 := ⟨by decide +kernel, rfl⟩
theorem dX5_init_44 : Ins mX5_init 44 (.newarray .int) 2 46 := ⟨by decide +kernel, rfl⟩
theorem dX5_init_46 : GpR mX5_init 46 49 4 5 := ⟨5, rfl, _, ⟨28, _, by decide +kernel, rfl, rfl, by decide, tb_1 (List.mem_of_getElem? (i := 160) (by decide +kernel)) rfl, tyX5_ok 5 (by decide), Or.inr ⟨rfl, rfl, rfl⟩⟩, by decide, rfl, Or.inr ⟨_, rfl⟩⟩
theorem dX5_init_49 : Ins mX5_init 49 (.aload_n 0) 1 50 := ⟨by decide +kernel, rfl⟩
theorem dX5_init_50 : Ins mX5_init 50 (.bipush 24) 2 52 := ⟨by decide +kernel, rfl⟩
theorem dX5_init_52 : Ins mX5_init 52 (.newarray .int) 2 54 := ⟨by decide +kernel, rfl⟩
theorem dX5_init_54 : GpR mX5_init 54 57 4 6 := ⟨6, rfl, _, ⟨31, _, by decide +kernel, rfl, rfl, by decide, tb_1 (List.mem_of_getElem? (i := 161) (by decide +kernel)) rfl, tyX5_ok 6 (by decide), Or.inr ⟨rfl, rfl, rfl⟩⟩, by decide, rfl, Or.inr ⟨_, rfl⟩⟩
theorem dX5_init_57 : Ins mX5_init 57 (.aload_n 0) 1 58 := ⟨by decide +kernel, rfl⟩
theorem dX5_init_58 : Ins mX5_init 58 (.bipush 24) 2 60 := ⟨by decide +kernel, rfl⟩
theorem dX5_init_60 : Ins mX5_init 60 (.newarray .int) 2 62 := ⟨by decide +kernel, rfl⟩
theorem dX5_init_62 : GpR mX5_init 62 65 4 7 := ⟨7, rfl, _, ⟨34, _, by decide +kernel, rfl, rfl, by decide, tb_1 (List.mem_of_getElem? (i := 162) (by decide +kernel)) rfl, tyX5_ok 7 (by decide), Or.inr ⟨rfl, rfl, rfl⟩⟩, by decide, rfl, Or.inr ⟨_, rfl⟩⟩
theorem dX5_init_65 : Ins mX5_init 65 (.aload_n 0) 1 66 := ⟨by decide +kernel, rfl⟩
theorem dX5_init_66 : Ins mX5_init 66 (.iconst 0) 1 67 := ⟨by decide +kernel, rfl⟩
theorem dX5_init_67 : GpI mX5_init 67 70 4 8 := ⟨8, rfl, ⟨37, _, by decide +kernel, rfl, rfl, by decide, tb_1 (List.mem_of_getElem? (i := 163) (by decide +kernel)) rfl, by decide +kernel, Or.inl rfl⟩, by decide, rfl⟩
theorem dX5_init_70 : Ins mX5_init 70 (.return_) 1 71 := ⟨by decide +kernel, rfl⟩
theorem dX5_wipe_0 : Ins mX5_wipe 0 (.aload_n 0) 1 1 := ⟨by decide +kernel, rfl⟩
theorem dX5_wipe_1 : Ins mX5_wipe 1 (.iconst 0) 1 2 := ⟨by decide +kernel, rfl⟩
theorem dX5_wipe_2 : GpI mX5_wipe 2 5 4 2 := ⟨2, rfl, ⟨18, _, by decide +kernel, rfl, rfl, by decide, tb_1 (List.mem_of_getElem? (i := 155) (by decide +kernel)) rfl, by decide +kernel, Or.inl rfl⟩, by decide, rfl⟩
theorem dX5_wipe_5 : Ins mX5_wipe 5 (.aload_n 0) 1 6 := ⟨by decide +kernel, rfl⟩
theorem dX5_wipe_6 : Ins mX5_wipe 6 (.iconst 0) 1 7 := ⟨by decide +kernel, rfl⟩
theorem dX5_wipe_7 : GpI mX5_wipe 7 10 4 8 := ⟨8, rfl, ⟨37, _, by decide +kernel, rfl, rfl, by decide, tb_1 (List.mem_of_getElem? (i := 163) (by decide +kernel)) rfl, by decide +kernel, Or.inl rfl⟩, by decide, rfl⟩
theorem dX5_wipe_10 : Ins mX5_wipe 10 (.aload_n 0) 1 11 := ⟨by decide +kernel, rfl⟩
theorem dX5_wipe_11 : GgR mX5_wipe 11 14 4 3 := ⟨3, rfl, ⟨22, _, by decide +kernel, rfl, rfl, by decide, tb_1 (List.mem_of_getElem? (i := 156) (by decide +kernel)) rfl⟩, by decide, rfl⟩
theorem dX5_wipe_14 : Ins mX5_wipe 14 (.iconst (-1)) 1 15 := ⟨by decide +kernel, rfl⟩
theorem dX5_wipe_15 : CalS mX5_wipe 15 18 mJ7_fill_53178 := ⟨40, by decide +kernel, rfl, Or.inl (tb_2 (List.mem_of_getElem? (i := 122) (by decide +kernel)) rfl), meJ7_fill_53178⟩
theorem dX5_wipe_18 : Ins mX5_wipe 18 (.aload_n 0) 1 19 := ⟨by decide +kernel, rfl⟩
theorem dX5_wipe_19 : GgR mX5_wipe 19 22 4 4 := ⟨4, rfl, ⟨25, _, by decide +kernel, rfl, rfl, by decide, tb_1 (List.mem_of_getElem? (i := 158) (by decide +kernel)) rfl⟩, by decide, rfl⟩
theorem dX5_wipe_22 : Ins mX5_wipe 22 (.iconst (-1)) 1 23 := ⟨by decide +kernel, rfl⟩
theorem dX5_wipe_23 : CalS mX5_wipe 23 26 mJ7_fill_53178 := ⟨40, by decide +kernel, rfl, Or.inl (tb_2 (List.mem_of_getElem? (i := 122) (by decide +kernel)) rfl), meJ7_fill_53178⟩
theorem dX5_wipe_26 : Ins mX5_wipe 26 (.return_) 1 27 := ⟨by decide +kernel, rfl⟩
theorem dX5_has_0 : Ins mX5_has 0 (.iload_n 1) 1 1 := ⟨by decide +kernel, rfl⟩
theorem dX5_has_1 : Ins mX5_has 1 (.ifCond .lt 22) 3 4 := ⟨by decide +kernel, rfl⟩
theorem dX5_has_4 : Ins mX5_has 4 (.iload_n 1) 1 5 := ⟨by decide +kernel, rfl⟩
theorem dX5_has_5 : Ins mX5_has 5 (.iconst 3) 1 6 := ⟨by decide +kernel, rfl⟩
theorem dX5_has_6 : Ins mX5_has 6 (.if_icmp .ge 17) 3 9 := ⟨by decide +kernel, rfl⟩
theorem dX5_has_9 : Ins mX5_has 9 (.aload_n 0) 1 10 := ⟨by decide +kernel, rfl⟩
theorem dX5_has_10 : GgR mX5_has 10 13 4 3 := ⟨3, rfl, ⟨22, _, by decide +kernel, rfl, rfl, by decide, tb_1 (List.mem_of_getElem? (i := 156) (by decide +kernel)) rfl⟩, by decide, rfl⟩
theorem dX5_has_13 : Ins mX5_has 13 (.iload_n 1) 1 14 := ⟨by decide +kernel, rfl⟩
theorem dX5_has_14 : Ins mX5_has 14 (.iaload) 1 15 := ⟨by decide +kernel, rfl⟩
theorem dX5_has_15 : Ins mX5_has 15 (.iconst (-1)) 1 16 := ⟨by decide +kernel, rfl⟩
theorem dX5_has_16 : Ins mX5_has 16 (.if_icmp .eq 7) 3 19 := ⟨by decide +kernel, rfl⟩
theorem dX5_has_19 : Ins mX5_has 19 (.iconst 1) 1 20 := ⟨by decide +kernel, rfl⟩
theorem dX5_has_20 : Ins mX5_has 20 (.goto 4) 3 23 := ⟨by decide +kernel, rfl⟩
theorem dX5_has_23 : Ins mX5_has 23 (.iconst 0) 1 24 := ⟨by decide +kernel, rfl⟩
theorem dX5_has_24 : Ins mX5_has 24 (.ireturn) 1 25 := ⟨by decide +kernel, rfl⟩
theorem dX5_addClause_0 : Ins mX5_addClause 0 (.aload_n 0) 1 1 := ⟨by decide +kernel, rfl⟩
theorem dX5_addClause_1 : GgI mX5_addClause 1 4 4 8 := ⟨8, rfl, ⟨37, _, by decide +kernel, rfl, rfl, by decide, tb_1 (List.mem_of_getElem? (i := 163) (by decide +kernel)) rfl⟩, by decide, rfl⟩
theorem dX5_addClause_4 : Ins mX5_addClause 4 (.bipush 24) 2 6 := ⟨by decide +kernel, rfl⟩
theorem dX5_addClause_6 : Ins mX5_addClause 6 (.if_icmp .ge 43) 3 9 := ⟨by decide +kernel, rfl⟩
theorem dX5_addClause_9 : Ins mX5_addClause 9 (.aload_n 0) 1 10 := ⟨by decide +kernel, rfl⟩
theorem dX5_addClause_10 : GgR mX5_addClause 10 13 4 5 := ⟨5, rfl, ⟨28, _, by decide +kernel, rfl, rfl, by decide, tb_1 (List.mem_of_getElem? (i := 160) (by decide +kernel)) rfl⟩, by decide, rfl⟩
theorem dX5_addClause_13 : Ins mX5_addClause 13 (.aload_n 0) 1 14 := ⟨by decide +kernel, rfl⟩
theorem dX5_addClause_14 : GgI mX5_addClause 14 17 4 8 := ⟨8, rfl, ⟨37, _, by decide +kernel, rfl, rfl, by decide, tb_1 (List.mem_of_getElem? (i := 163) (by decide +kernel)) rfl⟩, by decide, rfl⟩
theorem dX5_addClause_17 : Ins mX5_addClause 17 (.iload_n 1) 1 18 := ⟨by decide +kernel, rfl⟩
theorem dX5_addClause_18 : Ins mX5_addClause 18 (.iastore) 1 19 := ⟨by decide +kernel, rfl⟩
theorem dX5_addClause_19 : Ins mX5_addClause 19 (.aload_n 0) 1 20 := ⟨by decide +kernel, rfl⟩
theorem dX5_addClause_20 : GgR mX5_addClause 20 23 4 6 := ⟨6, rfl, ⟨31, _, by decide +kernel, rfl, rfl, by decide, tb_1 (List.mem_of_getElem? (i := 161) (by decide +kernel)) rfl⟩, by decide, rfl⟩
theorem dX5_addClause_23 : Ins mX5_addClause 23 (.aload_n 0) 1 24 := ⟨by decide +kernel, rfl⟩
theorem dX5_addClause_24 : GgI mX5_addClause 24 27 4 8 := ⟨8, rfl, ⟨37, _, by decide +kernel, rfl, rfl, by decide, tb_1 (List.mem_of_getElem? (i := 163) (by decide +kernel)) rfl⟩, by decide, rfl⟩
theorem dX5_addClause_27 : Ins mX5_addClause 27 (.iload_n 2) 1 28 := ⟨by decide +kernel, rfl⟩
theorem dX5_addClause_28 : Ins mX5_addClause 28 (.iastore) 1 29 := ⟨by decide +kernel, rfl⟩
theorem dX5_addClause_29 : Ins mX5_addClause 29 (.aload_n 0) 1 30 := ⟨by decide +kernel, rfl⟩
theorem dX5_addClause_30 : GgR mX5_addClause 30 33 4 7 := ⟨7, rfl, ⟨34, _, by decide +kernel, rfl, rfl, by decide, tb_1 (List.mem_of_getElem? (i := 162) (by decide +kernel)) rfl⟩, by decide, rfl⟩
theorem dX5_addClause_33 : Ins mX5_addClause 33 (.aload_n 0) 1 34 := ⟨by decide +kernel, rfl⟩
theorem dX5_addClause_34 : GgI mX5_addClause 34 37 4 8 := ⟨8, rfl, ⟨37, _, by decide +kernel, rfl, rfl, by decide, tb_1 (List.mem_of_getElem? (i := 163) (by decide +kernel)) rfl⟩, by decide, rfl⟩
theorem dX5_addClause_37 : Ins mX5_addClause 37 (.iload_n 3) 1 38 := ⟨by decide +kernel, rfl⟩
theorem dX5_addClause_38 : Ins mX5_addClause 38 (.iastore) 1 39 := ⟨by decide +kernel, rfl⟩
theorem dX5_addClause_39 : Ins mX5_addClause 39 (.aload_n 0) 1 40 := ⟨by decide +kernel, rfl⟩
theorem dX5_addClause_40 : Ins mX5_addClause 40 (.dup) 1 41 := ⟨by decide +kernel, rfl⟩
theorem dX5_addClause_41 : GgI mX5_addClause 41 44 4 8 := ⟨8, rfl, ⟨37, _, by decide +kernel, rfl, rfl, by decide, tb_1 (List.mem_of_getElem? (i := 163) (by decide +kernel)) rfl⟩, by decide, rfl⟩
theorem dX5_addClause_44 : Ins mX5_addClause 44 (.iconst 1) 1 45 := ⟨by decide +kernel, rfl⟩
theorem dX5_addClause_45 : Ins mX5_addClause 45 (.iadd) 1 46 := ⟨by decide +kernel, rfl⟩
theorem dX5_addClause_46 : GpI mX5_addClause 46 49 4 8 := ⟨8, rfl, ⟨37, _, by decide +kernel, rfl, rfl, by decide, tb_1 (List.mem_of_getElem? (i := 163) (by decide +kernel)) rfl, by decide +kernel, Or.inl rfl⟩, by decide, rfl⟩
theorem dX5_addClause_49 : Ins mX5_addClause 49 (.return_) 1 50 := ⟨by decide +kernel, rfl⟩
