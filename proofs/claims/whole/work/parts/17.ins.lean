-- a fact for each instruction, by wip/whole/gen/ins.py
theorem dX11_says_0 : Ins mX11_says 0 (.iconst 0) 1 1 := ⟨by decide +kernel, rfl⟩
theorem dX11_says_1 : Ins mX11_says 1 (.istore 5) 2 3 := ⟨by decide +kernel, rfl⟩
theorem dX11_says_3 : Ins mX11_says 3 (.iload_n 1) 1 4 := ⟨by decide +kernel, rfl⟩
theorem dX11_says_4 : Ins mX11_says 4 (.ifCond .lt 59) 3 7 := ⟨by decide +kernel, rfl⟩
theorem dX11_says_7 : Ins mX11_says 7 (.iload 5) 2 9 := ⟨by decide +kernel, rfl⟩
theorem dX11_says_9 : Ins mX11_says 9 (.aload_n 0) 1 10 := ⟨by decide +kernel, rfl⟩
theorem dX11_says_10 : GgR mX11_says 10 13 10 2 := ⟨2, rfl, ⟨16, _, by decide +kernel, rfl, rfl, by decide, tb_5 (List.mem_of_getElem? (i := 198) (by decide +kernel)) rfl⟩, by decide, rfl⟩
theorem dX11_says_13 : Ins mX11_says 13 (.sipush 705) 3 16 := ⟨by decide +kernel, rfl⟩
theorem dX11_says_16 : Ins mX11_says 16 (.iload_n 1) 1 17 := ⟨by decide +kernel, rfl⟩
theorem dX11_says_17 : Ins mX11_says 17 (.imul) 1 18 := ⟨by decide +kernel, rfl⟩
theorem dX11_says_18 : Ins mX11_says 18 (.iaload) 1 19 := ⟨by decide +kernel, rfl⟩
theorem dX11_says_19 : Ins mX11_says 19 (.if_icmp .ge 44) 3 22 := ⟨by decide +kernel, rfl⟩
theorem dX11_says_22 : Ins mX11_says 22 (.aload_n 0) 1 23 := ⟨by decide +kernel, rfl⟩
theorem dX11_says_23 : GgR mX11_says 23 26 10 2 := ⟨2, rfl, ⟨16, _, by decide +kernel, rfl, rfl, by decide, tb_5 (List.mem_of_getElem? (i := 198) (by decide +kernel)) rfl⟩, by decide, rfl⟩
theorem dX11_says_26 : Ins mX11_says 26 (.sipush 705) 3 29 := ⟨by decide +kernel, rfl⟩
theorem dX11_says_29 : Ins mX11_says 29 (.iload_n 1) 1 30 := ⟨by decide +kernel, rfl⟩
theorem dX11_says_30 : Ins mX11_says 30 (.imul) 1 31 := ⟨by decide +kernel, rfl⟩
theorem dX11_says_31 : Ins mX11_says 31 (.iconst 1) 1 32 := ⟨by decide +kernel, rfl⟩
theorem dX11_says_32 : Ins mX11_says 32 (.iadd) 1 33 := ⟨by decide +kernel, rfl⟩
theorem dX11_says_33 : Ins mX11_says 33 (.iconst 4) 1 34 := ⟨by decide +kernel, rfl⟩
theorem dX11_says_34 : Ins mX11_says 34 (.iload 5) 2 36 := ⟨by decide +kernel, rfl⟩
theorem dX11_says_36 : Ins mX11_says 36 (.imul) 1 37 := ⟨by decide +kernel, rfl⟩
theorem dX11_says_37 : Ins mX11_says 37 (.iadd) 1 38 := ⟨by decide +kernel, rfl⟩
theorem dX11_says_38 : Ins mX11_says 38 (.iaload) 1 39 := ⟨by decide +kernel, rfl⟩
theorem dX11_says_39 : Ins mX11_says 39 (.iload_n 2) 1 40 := ⟨by decide +kernel, rfl⟩
theorem dX11_says_40 : Ins mX11_says 40 (.if_icmp .ne 17) 3 43 := ⟨by decide +kernel, rfl⟩
theorem dX11_says_43 : Ins mX11_says 43 (.aload_n 0) 1 44 := ⟨by decide +kernel, rfl⟩
theorem dX11_says_44 : Ins mX11_says 44 (.iload_n 1) 1 45 := ⟨by decide +kernel, rfl⟩
theorem dX11_says_45 : Ins mX11_says 45 (.iload 5) 2 47 := ⟨by decide +kernel, rfl⟩
theorem dX11_says_47 : CalV mX11_says 47 50 mX11_summedUp := ⟨286, by decide +kernel, rfl, tb_7 (List.mem_of_getElem? (i := 96) (by decide +kernel)) rfl, meX11_summedUp⟩
theorem dX11_says_50 : Ins mX11_says 50 (.iconst 0) 1 51 := ⟨by decide +kernel, rfl⟩
theorem dX11_says_51 : Ins mX11_says 51 (.iload 4) 2 53 := ⟨by decide +kernel, rfl⟩
theorem dX11_says_53 : CalS mX11_says 53 56 mX11_cut := ⟨289, by decide +kernel, rfl, Or.inl (tb_7 (List.mem_of_getElem? (i := 122) (by decide +kernel)) rfl), meX11_cut⟩
theorem dX11_says_56 : Ins mX11_says 56 (.ireturn) 1 57 := ⟨by decide +kernel, rfl⟩
theorem dX11_says_57 : Ins mX11_says 57 (.iinc 5 1) 3 60 := ⟨by decide +kernel, rfl⟩
theorem dX11_says_60 : Ins mX11_says 60 (.goto (-57)) 3 63 := ⟨by decide +kernel, rfl⟩
theorem dX11_says_63 : Ins mX11_says 63 (.iload_n 3) 1 64 := ⟨by decide +kernel, rfl⟩
theorem dX11_says_64 : Ins mX11_says 64 (.i2l) 1 65 := ⟨by decide +kernel, rfl⟩
theorem dX11_says_65 : Ins mX11_says 65 (.iconst 0) 1 66 := ⟨by decide +kernel, rfl⟩
theorem dX11_says_66 : Ins mX11_says 66 (.iload 4) 2 68 := ⟨by decide +kernel, rfl⟩
theorem dX11_says_68 : CalS mX11_says 68 71 mX11_cut := ⟨289, by decide +kernel, rfl, Or.inl (tb_7 (List.mem_of_getElem? (i := 122) (by decide +kernel)) rfl), meX11_cut⟩
theorem dX11_says_71 : Ins mX11_says 71 (.ireturn) 1 72 := ⟨by decide +kernel, rfl⟩
theorem dX11_name_0 : Ins mX11_name 0 (.aload_n 0) 1 1 := ⟨by decide +kernel, rfl⟩
theorem dX11_name_1 : GgR mX11_name 1 4 10 20 := ⟨20, rfl, ⟨32, _, by decide +kernel, rfl, rfl, by decide, tb_5 (List.mem_of_getElem? (i := 216) (by decide +kernel)) rfl⟩, by decide, rfl⟩
theorem dX11_name_4 : Ins mX11_name 4 (.iconst 0) 1 5 := ⟨by decide +kernel, rfl⟩
theorem dX11_name_5 : Ins mX11_name 5 (.aload_n 0) 1 6 := ⟨by decide +kernel, rfl⟩
theorem dX11_name_6 : GgR mX11_name 6 9 10 0 := ⟨0, rfl, ⟨7, _, by decide +kernel, rfl, rfl, by decide, tb_5 (List.mem_of_getElem? (i := 196) (by decide +kernel)) rfl⟩, by decide, rfl⟩
theorem dX11_name_9 : Ins mX11_name 9 (.bipush 10) 2 11 := ⟨by decide +kernel, rfl⟩
theorem dX11_name_11 : Ins mX11_name 11 (.iaload) 1 12 := ⟨by decide +kernel, rfl⟩
theorem dX11_name_12 : Ins mX11_name 12 (.iastore) 1 13 := ⟨by decide +kernel, rfl⟩
theorem dX11_name_13 : Ins mX11_name 13 (.aload_n 0) 1 14 := ⟨by decide +kernel, rfl⟩
theorem dX11_name_14 : GgR mX11_name 14 17 10 20 := ⟨20, rfl, ⟨32, _, by decide +kernel, rfl, rfl, by decide, tb_5 (List.mem_of_getElem? (i := 216) (by decide +kernel)) rfl⟩, by decide, rfl⟩
theorem dX11_name_17 : Ins mX11_name 17 (.iconst 1) 1 18 := ⟨by decide +kernel, rfl⟩
theorem dX11_name_18 : Ins mX11_name 18 (.aload_n 0) 1 19 := ⟨by decide +kernel, rfl⟩
theorem dX11_name_19 : GgR mX11_name 19 22 10 0 := ⟨0, rfl, ⟨7, _, by decide +kernel, rfl, rfl, by decide, tb_5 (List.mem_of_getElem? (i := 196) (by decide +kernel)) rfl⟩, by decide, rfl⟩
theorem dX11_name_22 : Ins mX11_name 22 (.bipush 11) 2 24 := ⟨by decide +kernel, rfl⟩
theorem dX11_name_24 : Ins mX11_name 24 (.iaload) 1 25 := ⟨by decide +kernel, rfl⟩
theorem dX11_name_25 : Ins mX11_name 25 (.iastore) 1 26 := ⟨by decide +kernel, rfl⟩
theorem dX11_name_26 : Ins mX11_name 26 (.aload_n 0) 1 27 := ⟨by decide +kernel, rfl⟩
theorem dX11_name_27 : GgR mX11_name 27 30 10 20 := ⟨20, rfl, ⟨32, _, by decide +kernel, rfl, rfl, by decide, tb_5 (List.mem_of_getElem? (i := 216) (by decide +kernel)) rfl⟩, by decide, rfl⟩
theorem dX11_name_30 : Ins mX11_name 30 (.iconst 2) 1 31 := ⟨by decide +kernel, rfl⟩
theorem dX11_name_31 : Ins mX11_name 31 (.iload_n 1) 1 32 := ⟨by decide +kernel, rfl⟩
theorem dX11_name_32 : Ins mX11_name 32 (.iastore) 1 33 := ⟨by decide +kernel, rfl⟩
theorem dX11_name_33 : Ins mX11_name 33 (.return_) 1 34 := ⟨by decide +kernel, rfl⟩
theorem dX11_nameHorse_0 : Ins mX11_nameHorse 0 (.aload_n 0) 1 1 := ⟨by decide +kernel, rfl⟩
theorem dX11_nameHorse_1 : Ins mX11_nameHorse 1 (.iload_n 2) 1 2 := ⟨by decide +kernel, rfl⟩
theorem dX11_nameHorse_2 : CalV mX11_nameHorse 2 5 mX11_name := ⟨292, by decide +kernel, rfl, tb_7 (List.mem_of_getElem? (i := 88) (by decide +kernel)) rfl, meX11_name⟩
theorem dX11_nameHorse_5 : Ins mX11_nameHorse 5 (.aload_n 0) 1 6 := ⟨by decide +kernel, rfl⟩
theorem dX11_nameHorse_6 : GgR mX11_nameHorse 6 9 10 20 := ⟨20, rfl, ⟨32, _, by decide +kernel, rfl, rfl, by decide, tb_5 (List.mem_of_getElem? (i := 216) (by decide +kernel)) rfl⟩, by decide, rfl⟩
theorem dX11_nameHorse_9 : Ins mX11_nameHorse 9 (.iconst 3) 1 10 := ⟨by decide +kernel, rfl⟩
theorem dX11_nameHorse_10 : Ins mX11_nameHorse 10 (.iload_n 1) 1 11 := ⟨by decide +kernel, rfl⟩
theorem dX11_nameHorse_11 : Ins mX11_nameHorse 11 (.iastore) 1 12 := ⟨by decide +kernel, rfl⟩
theorem dX11_nameHorse_12 : Ins mX11_nameHorse 12 (.aload_n 0) 1 13 := ⟨by decide +kernel, rfl⟩
theorem dX11_nameHorse_13 : GgR mX11_nameHorse 13 16 10 20 := ⟨20, rfl, ⟨32, _, by decide +kernel, rfl, rfl, by decide, tb_5 (List.mem_of_getElem? (i := 216) (by decide +kernel)) rfl⟩, by decide, rfl⟩
theorem dX11_nameHorse_16 : Ins mX11_nameHorse 16 (.iconst 4) 1 17 := ⟨by decide +kernel, rfl⟩
theorem dX11_nameHorse_17 : Ins mX11_nameHorse 17 (.aload_n 0) 1 18 := ⟨by decide +kernel, rfl⟩
theorem dX11_nameHorse_18 : Ins mX11_nameHorse 18 (.iload_n 1) 1 19 := ⟨by decide +kernel, rfl⟩
theorem dX11_nameHorse_19 : Ins mX11_nameHorse 19 (.iconst 1) 1 20 := ⟨by decide +kernel, rfl⟩
theorem dX11_nameHorse_20 : CalV mX11_nameHorse 20 23 mX11_get := ⟨71, by decide +kernel, rfl, tb_6 (List.mem_of_getElem? (i := 233) (by decide +kernel)) rfl, meX11_get⟩
theorem dX11_nameHorse_23 : Ins mX11_nameHorse 23 (.iastore) 1 24 := ⟨by decide +kernel, rfl⟩
theorem dX11_nameHorse_24 : Ins mX11_nameHorse 24 (.aload_n 0) 1 25 := ⟨by decide +kernel, rfl⟩
theorem dX11_nameHorse_25 : GgR mX11_nameHorse 25 28 10 20 := ⟨20, rfl, ⟨32, _, by decide +kernel, rfl, rfl, by decide, tb_5 (List.mem_of_getElem? (i := 216) (by decide +kernel)) rfl⟩, by decide, rfl⟩
theorem dX11_nameHorse_28 : Ins mX11_nameHorse 28 (.iconst 5) 1 29 := ⟨by decide +kernel, rfl⟩
theorem dX11_nameHorse_29 : Ins mX11_nameHorse 29 (.aload_n 0) 1 30 := ⟨by decide +kernel, rfl⟩
theorem dX11_nameHorse_30 : Ins mX11_nameHorse 30 (.iload_n 1) 1 31 := ⟨by decide +kernel, rfl⟩
theorem dX11_nameHorse_31 : CalV mX11_nameHorse 31 34 mX11_riderOf := ⟨81, by decide +kernel, rfl, tb_7 (List.mem_of_getElem? (i := 17) (by decide +kernel)) rfl, meX11_riderOf⟩
theorem dX11_nameHorse_34 : Ins mX11_nameHorse 34 (.iastore) 1 35 := ⟨by decide +kernel, rfl⟩
theorem dX11_nameHorse_35 : Ins mX11_nameHorse 35 (.aload_n 0) 1 36 := ⟨by decide +kernel, rfl⟩
theorem dX11_nameHorse_36 : GgR mX11_nameHorse 36 39 10 20 := ⟨20, rfl, ⟨32, _, by decide +kernel, rfl, rfl, by decide, tb_5 (List.mem_of_getElem? (i := 216) (by decide +kernel)) rfl⟩, by decide, rfl⟩
theorem dX11_nameHorse_39 : Ins mX11_nameHorse 39 (.bipush 6) 2 41 := ⟨by decide +kernel, rfl⟩
theorem dX11_nameHorse_41 : Ins mX11_nameHorse 41 (.aload_n 0) 1 42 := ⟨by decide +kernel, rfl⟩
theorem dX11_nameHorse_42 : GgR mX11_nameHorse 42 45 10 20 := ⟨20, rfl, ⟨32, _, by decide +kernel, rfl, rfl, by decide, tb_5 (List.mem_of_getElem? (i := 216) (by decide +kernel)) rfl⟩, by decide, rfl⟩
theorem dX11_nameHorse_45 : Ins mX11_nameHorse 45 (.iconst 5) 1 46 := ⟨by decide +kernel, rfl⟩
theorem dX11_nameHorse_46 : Ins mX11_nameHorse 46 (.iaload) 1 47 := ⟨by decide +kernel, rfl⟩
theorem dX11_nameHorse_47 : Ins mX11_nameHorse 47 (.iconst (-1)) 1 48 := ⟨by decide +kernel, rfl⟩
theorem dX11_nameHorse_48 : Ins mX11_nameHorse 48 (.if_icmp .ne 7) 3 51 := ⟨by decide +kernel, rfl⟩
theorem dX11_nameHorse_51 : Ins mX11_nameHorse 51 (.iconst 0) 1 52 := ⟨by decide +kernel, rfl⟩
theorem dX11_nameHorse_52 : Ins mX11_nameHorse 52 (.goto 14) 3 55 := ⟨by decide +kernel, rfl⟩
theorem dX11_nameHorse_55 : Ins mX11_nameHorse 55 (.aload_n 0) 1 56 := ⟨by decide +kernel, rfl⟩
theorem dX11_nameHorse_56 : Ins mX11_nameHorse 56 (.aload_n 0) 1 57 := ⟨by decide +kernel, rfl⟩
theorem dX11_nameHorse_57 : GgR mX11_nameHorse 57 60 10 20 := ⟨20, rfl, ⟨32, _, by decide +kernel, rfl, rfl, by decide, tb_5 (List.mem_of_getElem? (i := 216) (by decide +kernel)) rfl⟩, by decide, rfl⟩
theorem dX11_nameHorse_60 : Ins mX11_nameHorse 60 (.iconst 5) 1 61 := ⟨by decide +kernel, rfl⟩
theorem dX11_nameHorse_61 : Ins mX11_nameHorse 61 (.iaload) 1 62 := ⟨by decide +kernel, rfl⟩
theorem dX11_nameHorse_62 : Ins mX11_nameHorse 62 (.iconst 2) 1 63 := ⟨by decide +kernel, rfl⟩
theorem dX11_nameHorse_63 : CalV mX11_nameHorse 63 66 mX11_of := ⟨67, by decide +kernel, rfl, tb_7 (List.mem_of_getElem? (i := 13) (by decide +kernel)) rfl, meX11_of⟩
theorem dX11_nameHorse_66 : Ins mX11_nameHorse 66 (.iastore) 1 67 := ⟨by decide +kernel, rfl⟩
theorem dX11_nameHorse_67 : Ins mX11_nameHorse 67 (.return_) 1 68 := ⟨by decide +kernel, rfl⟩
theorem dX11_wearsOf_0 : Ins mX11_wearsOf 0 (.aload_n 0) 1 1 := ⟨by decide +kernel, rfl⟩
theorem dX11_wearsOf_1 : Ins mX11_wearsOf 1 (.iload_n 1) 1 2 := ⟨by decide +kernel, rfl⟩
theorem dX11_wearsOf_2 : Ins mX11_wearsOf 2 (.iload_n 2) 1 3 := ⟨by decide +kernel, rfl⟩
theorem dX11_wearsOf_3 : CalV mX11_wearsOf 3 6 mX11_nameHorse := ⟨295, by decide +kernel, rfl, tb_7 (List.mem_of_getElem? (i := 84) (by decide +kernel)) rfl, meX11_nameHorse⟩
theorem dX11_wearsOf_6 : Ins mX11_wearsOf 6 (.aload_n 0) 1 7 := ⟨by decide +kernel, rfl⟩
theorem dX11_wearsOf_7 : Ins mX11_wearsOf 7 (.aload_n 0) 1 8 := ⟨by decide +kernel, rfl⟩
theorem dX11_wearsOf_8 : GgR mX11_wearsOf 8 11 10 0 := ⟨0, rfl, ⟨7, _, by decide +kernel, rfl, rfl, by decide, tb_5 (List.mem_of_getElem? (i := 196) (by decide +kernel)) rfl⟩, by decide, rfl⟩
theorem dX11_wearsOf_11 : Ins mX11_wearsOf 11 (.iconst 3) 1 12 := ⟨by decide +kernel, rfl⟩
theorem dX11_wearsOf_12 : Ins mX11_wearsOf 12 (.iaload) 1 13 := ⟨by decide +kernel, rfl⟩
theorem dX11_wearsOf_13 : Ins mX11_wearsOf 13 (.iconst 0) 1 14 := ⟨by decide +kernel, rfl⟩
theorem dX11_wearsOf_14 : Ins mX11_wearsOf 14 (.iconst 1) 1 15 := ⟨by decide +kernel, rfl⟩
theorem dX11_wearsOf_15 : Ins mX11_wearsOf 15 (.bipush 9) 2 17 := ⟨by decide +kernel, rfl⟩
theorem dX11_wearsOf_17 : CalV mX11_wearsOf 17 20 mX11_says := ⟨298, by decide +kernel, rfl, tb_7 (List.mem_of_getElem? (i := 92) (by decide +kernel)) rfl, meX11_says⟩
theorem dX11_wearsOf_20 : Ins mX11_wearsOf 20 (.ireturn) 1 21 := ⟨by decide +kernel, rfl⟩
theorem dX11_tiresOf_0 : Ins mX11_tiresOf 0 (.aload_n 0) 1 1 := ⟨by decide +kernel, rfl⟩
theorem dX11_tiresOf_1 : Ins mX11_tiresOf 1 (.aload_n 0) 1 2 := ⟨by decide +kernel, rfl⟩
theorem dX11_tiresOf_2 : Ins mX11_tiresOf 2 (.iload_n 1) 1 3 := ⟨by decide +kernel, rfl⟩
theorem dX11_tiresOf_3 : Ins mX11_tiresOf 3 (.iconst 1) 1 4 := ⟨by decide +kernel, rfl⟩
theorem dX11_tiresOf_4 : CalV mX11_tiresOf 4 7 mX11_of := ⟨67, by decide +kernel, rfl, tb_7 (List.mem_of_getElem? (i := 13) (by decide +kernel)) rfl, meX11_of⟩
theorem dX11_tiresOf_7 : Ins mX11_tiresOf 7 (.iload_n 2) 1 8 := ⟨by decide +kernel, rfl⟩
theorem dX11_tiresOf_8 : CalS mX11_tiresOf 8 11 mX11_bits := ⟨302, by decide +kernel, rfl, Or.inl (tb_7 (List.mem_of_getElem? (i := 77) (by decide +kernel)) rfl), meX11_bits⟩
theorem dX11_tiresOf_11 : CalV mX11_tiresOf 11 14 mX11_nameHorse := ⟨295, by decide +kernel, rfl, tb_7 (List.mem_of_getElem? (i := 84) (by decide +kernel)) rfl, meX11_nameHorse⟩
theorem dX11_tiresOf_14 : Ins mX11_tiresOf 14 (.aload_n 0) 1 15 := ⟨by decide +kernel, rfl⟩
theorem dX11_tiresOf_15 : GgR mX11_tiresOf 15 18 10 20 := ⟨20, rfl, ⟨32, _, by decide +kernel, rfl, rfl, by decide, tb_5 (List.mem_of_getElem? (i := 216) (by decide +kernel)) rfl⟩, by decide, rfl⟩
theorem dX11_tiresOf_18 : Ins mX11_tiresOf 18 (.bipush 7) 2 20 := ⟨by decide +kernel, rfl⟩
theorem dX11_tiresOf_20 : Ins mX11_tiresOf 20 (.aload_n 0) 1 21 := ⟨by decide +kernel, rfl⟩
theorem dX11_tiresOf_21 : Ins mX11_tiresOf 21 (.iload_n 1) 1 22 := ⟨by decide +kernel, rfl⟩
theorem dX11_tiresOf_22 : Ins mX11_tiresOf 22 (.iconst 0) 1 23 := ⟨by decide +kernel, rfl⟩
theorem dX11_tiresOf_23 : CalV mX11_tiresOf 23 26 mX11_of := ⟨67, by decide +kernel, rfl, tb_7 (List.mem_of_getElem? (i := 13) (by decide +kernel)) rfl, meX11_of⟩
theorem dX11_tiresOf_26 : Ins mX11_tiresOf 26 (.iastore) 1 27 := ⟨by decide +kernel, rfl⟩
theorem dX11_tiresOf_27 : Ins mX11_tiresOf 27 (.aload_n 0) 1 28 := ⟨by decide +kernel, rfl⟩
theorem dX11_tiresOf_28 : GgR mX11_tiresOf 28 31 10 20 := ⟨20, rfl, ⟨32, _, by decide +kernel, rfl, rfl, by decide, tb_5 (List.mem_of_getElem? (i := 216) (by decide +kernel)) rfl⟩, by decide, rfl⟩
theorem dX11_tiresOf_31 : Ins mX11_tiresOf 31 (.bipush 8) 2 33 := ⟨by decide +kernel, rfl⟩
theorem dX11_tiresOf_33 : Ins mX11_tiresOf 33 (.iload_n 1) 1 34 := ⟨by decide +kernel, rfl⟩
theorem dX11_tiresOf_34 : Ins mX11_tiresOf 34 (.iastore) 1 35 := ⟨by decide +kernel, rfl⟩
theorem dX11_tiresOf_35 : Ins mX11_tiresOf 35 (.aload_n 0) 1 36 := ⟨by decide +kernel, rfl⟩
theorem dX11_tiresOf_36 : Ins mX11_tiresOf 36 (.aload_n 0) 1 37 := ⟨by decide +kernel, rfl⟩
theorem dX11_tiresOf_37 : GgR mX11_tiresOf 37 40 10 0 := ⟨0, rfl, ⟨7, _, by decide +kernel, rfl, rfl, by decide, tb_5 (List.mem_of_getElem? (i := 196) (by decide +kernel)) rfl⟩, by decide, rfl⟩
theorem dX11_tiresOf_40 : Ins mX11_tiresOf 40 (.iconst 3) 1 41 := ⟨by decide +kernel, rfl⟩
theorem dX11_tiresOf_41 : Ins mX11_tiresOf 41 (.iaload) 1 42 := ⟨by decide +kernel, rfl⟩
theorem dX11_tiresOf_42 : Ins mX11_tiresOf 42 (.iconst 1) 1 43 := ⟨by decide +kernel, rfl⟩
theorem dX11_tiresOf_43 : Ins mX11_tiresOf 43 (.iload_n 2) 1 44 := ⟨by decide +kernel, rfl⟩
theorem dX11_tiresOf_44 : Ins mX11_tiresOf 44 (.aload_n 0) 1 45 := ⟨by decide +kernel, rfl⟩
theorem dX11_tiresOf_45 : Ins mX11_tiresOf 45 (.iload_n 1) 1 46 := ⟨by decide +kernel, rfl⟩
theorem dX11_tiresOf_46 : Ins mX11_tiresOf 46 (.iconst 1) 1 47 := ⟨by decide +kernel, rfl⟩
theorem dX11_tiresOf_47 : CalV mX11_tiresOf 47 50 mX11_of := ⟨67, by decide +kernel, rfl, tb_7 (List.mem_of_getElem? (i := 13) (by decide +kernel)) rfl, meX11_of⟩
theorem dX11_tiresOf_50 : CalS mX11_tiresOf 50 53 mX11_has := ⟨74, by decide +kernel, rfl, Or.inl (tb_6 (List.mem_of_getElem? (i := 135) (by decide +kernel)) rfl), meX11_has⟩
theorem dX11_tiresOf_53 : Ins mX11_tiresOf 53 (.ifCond .eq 7) 3 56 := ⟨by decide +kernel, rfl⟩
theorem dX11_tiresOf_56 : Ins mX11_tiresOf 56 (.iconst 1) 1 57 := ⟨by decide +kernel, rfl⟩
theorem dX11_tiresOf_57 : Ins mX11_tiresOf 57 (.goto 4) 3 60 := ⟨by decide +kernel, rfl⟩
theorem dX11_tiresOf_60 : Ins mX11_tiresOf 60 (.iconst 0) 1 61 := ⟨by decide +kernel, rfl⟩
theorem dX11_tiresOf_61 : Ins mX11_tiresOf 61 (.bipush 9) 2 63 := ⟨by decide +kernel, rfl⟩
theorem dX11_tiresOf_63 : CalV mX11_tiresOf 63 66 mX11_says := ⟨298, by decide +kernel, rfl, tb_7 (List.mem_of_getElem? (i := 92) (by decide +kernel)) rfl, meX11_says⟩
theorem dX11_tiresOf_66 : Ins mX11_tiresOf 66 (.ireturn) 1 67 := ⟨by decide +kernel, rfl⟩
theorem dX11_seenBy_0 : Ins mX11_seenBy 0 (.aload_n 0) 1 1 := ⟨by decide +kernel, rfl⟩
theorem dX11_seenBy_1 : Ins mX11_seenBy 1 (.iload_n 2) 1 2 := ⟨by decide +kernel, rfl⟩
theorem dX11_seenBy_2 : CalV mX11_seenBy 2 5 mX11_name := ⟨292, by decide +kernel, rfl, tb_7 (List.mem_of_getElem? (i := 88) (by decide +kernel)) rfl, meX11_name⟩
theorem dX11_seenBy_5 : Ins mX11_seenBy 5 (.aload_n 0) 1 6 := ⟨by decide +kernel, rfl⟩
theorem dX11_seenBy_6 : Ins mX11_seenBy 6 (.iload_n 1) 1 7 := ⟨by decide +kernel, rfl⟩
theorem dX11_seenBy_7 : Ins mX11_seenBy 7 (.iconst 2) 1 8 := ⟨by decide +kernel, rfl⟩
theorem dX11_seenBy_8 : Ins mX11_seenBy 8 (.bipush 8) 2 10 := ⟨by decide +kernel, rfl⟩
theorem dX11_seenBy_10 : Ins mX11_seenBy 10 (.iload_n 2) 1 11 := ⟨by decide +kernel, rfl⟩
theorem dX11_seenBy_11 : Ins mX11_seenBy 11 (.imul) 1 12 := ⟨by decide +kernel, rfl⟩
theorem dX11_seenBy_12 : Ins mX11_seenBy 12 (.bipush 99) 2 14 := ⟨by decide +kernel, rfl⟩
theorem dX11_seenBy_14 : CalV mX11_seenBy 14 17 mX11_says := ⟨298, by decide +kernel, rfl, tb_7 (List.mem_of_getElem? (i := 92) (by decide +kernel)) rfl, meX11_says⟩
theorem dX11_seenBy_17 : Ins mX11_seenBy 17 (.ireturn) 1 18 := ⟨by decide +kernel, rfl⟩
theorem dX11_rockingAt_0 : Ins mX11_rockingAt 0 (.aload_n 0) 1 1 := ⟨by decide +kernel, rfl⟩
theorem dX11_rockingAt_1 : Ins mX11_rockingAt 1 (.aload_n 0) 1 2 := ⟨by decide +kernel, rfl⟩
theorem dX11_rockingAt_2 : CalV mX11_rockingAt 2 5 mX11_fit := ⟨305, by decide +kernel, rfl, tb_7 (List.mem_of_getElem? (i := 65) (by decide +kernel)) rfl, meX11_fit⟩
theorem dX11_rockingAt_5 : Ins mX11_rockingAt 5 (.iload_n 1) 1 6 := ⟨by decide +kernel, rfl⟩
theorem dX11_rockingAt_6 : CalV mX11_rockingAt 6 9 mX11_dueOf := ⟨308, by decide +kernel, rfl, tb_7 (List.mem_of_getElem? (i := 69) (by decide +kernel)) rfl, meX11_dueOf⟩
theorem dX11_rockingAt_9 : Ins mX11_rockingAt 9 (.ireturn) 1 10 := ⟨by decide +kernel, rfl⟩
theorem dX11_slide_0 : Ins mX11_slide 0 (.aload_n 0) 1 1 := ⟨by decide +kernel, rfl⟩
theorem dX11_slide_1 : Ins mX11_slide 1 (.dup) 1 2 := ⟨by decide +kernel, rfl⟩
theorem dX11_slide_2 : GgI mX11_slide 2 5 10 24 := ⟨24, rfl, ⟨311, _, by decide +kernel, rfl, rfl, by decide, tb_5 (List.mem_of_getElem? (i := 220) (by decide +kernel)) rfl⟩, by decide, rfl⟩
theorem dX11_slide_5 : Ins mX11_slide 5 (.iconst 1) 1 6 := ⟨by decide +kernel, rfl⟩
theorem dX11_slide_6 : Ins mX11_slide 6 (.iadd) 1 7 := ⟨by decide +kernel, rfl⟩
theorem dX11_slide_7 : GpI mX11_slide 7 10 10 24 := ⟨24, rfl, ⟨311, _, by decide +kernel, rfl, rfl, by decide, tb_5 (List.mem_of_getElem? (i := 220) (by decide +kernel)) rfl, by decide +kernel, Or.inl rfl⟩, by decide, rfl⟩
theorem dX11_slide_10 : Ins mX11_slide 10 (.aload_n 0) 1 11 := ⟨by decide +kernel, rfl⟩
theorem dX11_slide_11 : GgI mX11_slide 11 14 10 23 := ⟨23, rfl, ⟨43, _, by decide +kernel, rfl, rfl, by decide, tb_5 (List.mem_of_getElem? (i := 219) (by decide +kernel)) rfl⟩, by decide, rfl⟩
theorem dX11_slide_14 : Ins mX11_slide 14 (.ifCond .eq 66) 3 17 := ⟨by decide +kernel, rfl⟩
theorem dX11_slide_17 : Ins mX11_slide 17 (.sipush 1180) 3 20 := ⟨by decide +kernel, rfl⟩
theorem dX11_slide_20 : Ins mX11_slide 20 (.iconst 2) 1 21 := ⟨by decide +kernel, rfl⟩
theorem dX11_slide_21 : Ins mX11_slide 21 (.aload_n 0) 1 22 := ⟨by decide +kernel, rfl⟩
theorem dX11_slide_22 : GgR mX11_slide 22 25 10 0 := ⟨0, rfl, ⟨7, _, by decide +kernel, rfl, rfl, by decide, tb_5 (List.mem_of_getElem? (i := 196) (by decide +kernel)) rfl⟩, by decide, rfl⟩
theorem dX11_slide_25 : Ins mX11_slide 25 (.bipush 14) 2 27 := ⟨by decide +kernel, rfl⟩
theorem dX11_slide_27 : Ins mX11_slide 27 (.iaload) 1 28 := ⟨by decide +kernel, rfl⟩
theorem dX11_slide_28 : Ins mX11_slide 28 (.sipush 1230) 3 31 := ⟨by decide +kernel, rfl⟩
theorem dX11_slide_31 : Ins mX11_slide 31 (.irem) 1 32 := ⟨by decide +kernel, rfl⟩
theorem dX11_slide_32 : Ins mX11_slide 32 (.imul) 1 33 := ⟨by decide +kernel, rfl⟩
theorem dX11_slide_33 : Ins mX11_slide 33 (.iadd) 1 34 := ⟨by decide +kernel, rfl⟩
theorem dX11_slide_34 : Ins mX11_slide 34 (.istore_n 2) 1 35 := ⟨by decide +kernel, rfl⟩
theorem dX11_slide_35 : Ins mX11_slide 35 (.aload_n 0) 1 36 := ⟨by decide +kernel, rfl⟩
theorem dX11_slide_36 : GgR mX11_slide 36 39 10 0 := ⟨0, rfl, ⟨7, _, by decide +kernel, rfl, rfl, by decide, tb_5 (List.mem_of_getElem? (i := 196) (by decide +kernel)) rfl⟩, by decide, rfl⟩
theorem dX11_slide_39 : Ins mX11_slide 39 (.iload_n 2) 1 40 := ⟨by decide +kernel, rfl⟩
theorem dX11_slide_40 : Ins mX11_slide 40 (.aload_n 0) 1 41 := ⟨by decide +kernel, rfl⟩
theorem dX11_slide_41 : GgR mX11_slide 41 44 10 0 := ⟨0, rfl, ⟨7, _, by decide +kernel, rfl, rfl, by decide, tb_5 (List.mem_of_getElem? (i := 196) (by decide +kernel)) rfl⟩, by decide, rfl⟩
theorem dX11_slide_44 : Ins mX11_slide 44 (.bipush 10) 2 46 := ⟨by decide +kernel, rfl⟩
theorem dX11_slide_46 : Ins mX11_slide 46 (.iaload) 1 47 := ⟨by decide +kernel, rfl⟩
theorem dX11_slide_47 : Ins mX11_slide 47 (.iastore) 1 48 := ⟨by decide +kernel, rfl⟩
theorem dX11_slide_48 : Ins mX11_slide 48 (.aload_n 0) 1 49 := ⟨by decide +kernel, rfl⟩
theorem dX11_slide_49 : GgR mX11_slide 49 52 10 0 := ⟨0, rfl, ⟨7, _, by decide +kernel, rfl, rfl, by decide, tb_5 (List.mem_of_getElem? (i := 196) (by decide +kernel)) rfl⟩, by decide, rfl⟩
theorem dX11_slide_52 : Ins mX11_slide 52 (.iload_n 2) 1 53 := ⟨by decide +kernel, rfl⟩
theorem dX11_slide_53 : Ins mX11_slide 53 (.iconst 1) 1 54 := ⟨by decide +kernel, rfl⟩
theorem dX11_slide_54 : Ins mX11_slide 54 (.iadd) 1 55 := ⟨by decide +kernel, rfl⟩
theorem dX11_slide_55 : Ins mX11_slide 55 (.aload_n 0) 1 56 := ⟨by decide +kernel, rfl⟩
theorem dX11_slide_56 : GgR mX11_slide 56 59 10 0 := ⟨0, rfl, ⟨7, _, by decide +kernel, rfl, rfl, by decide, tb_5 (List.mem_of_getElem? (i := 196) (by decide +kernel)) rfl⟩, by decide, rfl⟩
theorem dX11_slide_59 : Ins mX11_slide 59 (.bipush 11) 2 61 := ⟨by decide +kernel, rfl⟩
theorem dX11_slide_61 : Ins mX11_slide 61 (.iaload) 1 62 := ⟨by decide +kernel, rfl⟩
theorem dX11_slide_62 : Ins mX11_slide 62 (.sipush 256) 3 65 := ⟨by decide +kernel, rfl⟩
theorem dX11_slide_65 : Ins mX11_slide 65 (.imul) 1 66 := ⟨by decide +kernel, rfl⟩
theorem dX11_slide_66 : Ins mX11_slide 66 (.iload_n 1) 1 67 := ⟨by decide +kernel, rfl⟩
theorem dX11_slide_67 : Ins mX11_slide 67 (.iadd) 1 68 := ⟨by decide +kernel, rfl⟩
theorem dX11_slide_68 : Ins mX11_slide 68 (.iastore) 1 69 := ⟨by decide +kernel, rfl⟩
theorem dX11_slide_69 : Ins mX11_slide 69 (.aload_n 0) 1 70 := ⟨by decide +kernel, rfl⟩
theorem dX11_slide_70 : GgR mX11_slide 70 73 10 0 := ⟨0, rfl, ⟨7, _, by decide +kernel, rfl, rfl, by decide, tb_5 (List.mem_of_getElem? (i := 196) (by decide +kernel)) rfl⟩, by decide, rfl⟩
theorem dX11_slide_73 : Ins mX11_slide 73 (.bipush 14) 2 75 := ⟨by decide +kernel, rfl⟩
theorem dX11_slide_75 : Ins mX11_slide 75 (.dup2) 1 76 := ⟨by decide +kernel, rfl⟩
theorem dX11_slide_76 : Ins mX11_slide 76 (.iaload) 1 77 := ⟨by decide +kernel, rfl⟩
theorem dX11_slide_77 : Ins mX11_slide 77 (.iconst 1) 1 78 := ⟨by decide +kernel, rfl⟩
theorem dX11_slide_78 : Ins mX11_slide 78 (.iadd) 1 79 := ⟨by decide +kernel, rfl⟩
theorem dX11_slide_79 : Ins mX11_slide 79 (.iastore) 1 80 := ⟨by decide +kernel, rfl⟩
theorem dX11_slide_80 : Ins mX11_slide 80 (.aload_n 0) 1 81 := ⟨by decide +kernel, rfl⟩
theorem dX11_slide_81 : GgR mX11_slide 81 84 10 0 := ⟨0, rfl, ⟨7, _, by decide +kernel, rfl, rfl, by decide, tb_5 (List.mem_of_getElem? (i := 196) (by decide +kernel)) rfl⟩, by decide, rfl⟩
theorem dX11_slide_84 : Ins mX11_slide 84 (.bipush 11) 2 86 := ⟨by decide +kernel, rfl⟩
theorem dX11_slide_86 : Ins mX11_slide 86 (.iconst 0) 1 87 := ⟨by decide +kernel, rfl⟩
theorem dX11_slide_87 : Ins mX11_slide 87 (.iastore) 1 88 := ⟨by decide +kernel, rfl⟩
theorem dX11_slide_88 : Ins mX11_slide 88 (.return_) 1 89 := ⟨by decide +kernel, rfl⟩
theorem dX11_rest_0 : Ins mX11_rest 0 (.aload_n 0) 1 1 := ⟨by decide +kernel, rfl⟩
theorem dX11_rest_1 : Ins mX11_rest 1 (.iload_n 1) 1 2 := ⟨by decide +kernel, rfl⟩
theorem dX11_rest_2 : Ins mX11_rest 2 (.iconst 0) 1 3 := ⟨by decide +kernel, rfl⟩
theorem dX11_rest_3 : CalV mX11_rest 3 6 mX11_of := ⟨67, by decide +kernel, rfl, tb_7 (List.mem_of_getElem? (i := 13) (by decide +kernel)) rfl, meX11_of⟩
theorem dX11_rest_6 : Ins mX11_rest 6 (.ifCond .le 17) 3 9 := ⟨by decide +kernel, rfl⟩
theorem dX11_rest_9 : Ins mX11_rest 9 (.aload_n 0) 1 10 := ⟨by decide +kernel, rfl⟩
theorem dX11_rest_10 : Ins mX11_rest 10 (.iload_n 1) 1 11 := ⟨by decide +kernel, rfl⟩
theorem dX11_rest_11 : Ins mX11_rest 11 (.iconst 0) 1 12 := ⟨by decide +kernel, rfl⟩
theorem dX11_rest_12 : Ins mX11_rest 12 (.aload_n 0) 1 13 := ⟨by decide +kernel, rfl⟩
theorem dX11_rest_13 : Ins mX11_rest 13 (.iload_n 1) 1 14 := ⟨by decide +kernel, rfl⟩
theorem dX11_rest_14 : Ins mX11_rest 14 (.iconst 0) 1 15 := ⟨by decide +kernel, rfl⟩
theorem dX11_rest_15 : CalV mX11_rest 15 18 mX11_of := ⟨67, by decide +kernel, rfl, tb_7 (List.mem_of_getElem? (i := 13) (by decide +kernel)) rfl, meX11_of⟩
theorem dX11_rest_18 : Ins mX11_rest 18 (.iconst 1) 1 19 := ⟨by decide +kernel, rfl⟩
theorem dX11_rest_19 : Ins mX11_rest 19 (.isub) 1 20 := ⟨by decide +kernel, rfl⟩
theorem dX11_rest_20 : CalV mX11_rest 20 23 mX11_lay := ⟨89, by decide +kernel, rfl, tb_6 (List.mem_of_getElem? (i := 61) (by decide +kernel)) rfl, meX11_lay⟩
theorem dX11_rest_23 : Ins mX11_rest 23 (.return_) 1 24 := ⟨by decide +kernel, rfl⟩
theorem dX11_tire_0 : Ins mX11_tire 0 (.aload_n 0) 1 1 := ⟨by decide +kernel, rfl⟩
theorem dX11_tire_1 : Ins mX11_tire 1 (.iload_n 1) 1 2 := ⟨by decide +kernel, rfl⟩
theorem dX11_tire_2 : Ins mX11_tire 2 (.iconst 0) 1 3 := ⟨by decide +kernel, rfl⟩
theorem dX11_tire_3 : Ins mX11_tire 3 (.aload_n 0) 1 4 := ⟨by decide +kernel, rfl⟩
theorem dX11_tire_4 : Ins mX11_tire 4 (.iload_n 1) 1 5 := ⟨by decide +kernel, rfl⟩
theorem dX11_tire_5 : Ins mX11_tire 5 (.iconst 0) 1 6 := ⟨by decide +kernel, rfl⟩
theorem dX11_tire_6 : CalV mX11_tire 6 9 mX11_of := ⟨67, by decide +kernel, rfl, tb_7 (List.mem_of_getElem? (i := 13) (by decide +kernel)) rfl, meX11_of⟩
theorem dX11_tire_9 : Ins mX11_tire 9 (.aload_n 0) 1 10 := ⟨by decide +kernel, rfl⟩
theorem dX11_tire_10 : Ins mX11_tire 10 (.iload_n 1) 1 11 := ⟨by decide +kernel, rfl⟩
theorem dX11_tire_11 : Ins mX11_tire 11 (.iload_n 2) 1 12 := ⟨by decide +kernel, rfl⟩
theorem dX11_tire_12 : CalV mX11_tire 12 15 mX11_tiresOf := ⟨314, by decide +kernel, rfl, tb_7 (List.mem_of_getElem? (i := 133) (by decide +kernel)) rfl, meX11_tiresOf⟩
theorem dX11_tire_15 : Ins mX11_tire 15 (.iadd) 1 16 := ⟨by decide +kernel, rfl⟩
theorem dX11_tire_16 : Ins mX11_tire 16 (.i2l) 1 17 := ⟨by decide +kernel, rfl⟩
theorem dX11_tire_17 : Ins mX11_tire 17 (.iconst 0) 1 18 := ⟨by decide +kernel, rfl⟩
theorem dX11_tire_18 : Ins mX11_tire 18 (.bipush 9) 2 20 := ⟨by decide +kernel, rfl⟩
theorem dX11_tire_20 : CalS mX11_tire 20 23 mX11_cut := ⟨289, by decide +kernel, rfl, Or.inl (tb_7 (List.mem_of_getElem? (i := 122) (by decide +kernel)) rfl), meX11_cut⟩
theorem dX11_tire_23 : CalV mX11_tire 23 26 mX11_lay := ⟨89, by decide +kernel, rfl, tb_6 (List.mem_of_getElem? (i := 61) (by decide +kernel)) rfl, meX11_lay⟩
theorem dX11_tire_26 : Ins mX11_tire 26 (.aload_n 0) 1 27 := ⟨by decide +kernel, rfl⟩
theorem dX11_tire_27 : Ins mX11_tire 27 (.iload_n 1) 1 28 := ⟨by decide +kernel, rfl⟩
theorem dX11_tire_28 : Ins mX11_tire 28 (.iconst 0) 1 29 := ⟨by decide +kernel, rfl⟩
theorem dX11_tire_29 : CalV mX11_tire 29 32 mX11_of := ⟨67, by decide +kernel, rfl, tb_7 (List.mem_of_getElem? (i := 13) (by decide +kernel)) rfl, meX11_of⟩
theorem dX11_tire_32 : Ins mX11_tire 32 (.bipush 9) 2 34 := ⟨by decide +kernel, rfl⟩
theorem dX11_tire_34 : Ins mX11_tire 34 (.if_icmp .ne 10) 3 37 := ⟨by decide +kernel, rfl⟩
theorem dX11_tire_37 : Ins mX11_tire 37 (.aload_n 0) 1 38 := ⟨by decide +kernel, rfl⟩
theorem dX11_tire_38 : Ins mX11_tire 38 (.iload_n 1) 1 39 := ⟨by decide +kernel, rfl⟩
theorem dX11_tire_39 : Ins mX11_tire 39 (.iconst 1) 1 40 := ⟨by decide +kernel, rfl⟩
theorem dX11_tire_40 : Ins mX11_tire 40 (.iconst (-1)) 1 41 := ⟨by decide +kernel, rfl⟩
theorem dX11_tire_41 : CalV mX11_tire 41 44 mX11_lay := ⟨89, by decide +kernel, rfl, tb_6 (List.mem_of_getElem? (i := 61) (by decide +kernel)) rfl, meX11_lay⟩
theorem dX11_tire_44 : Ins mX11_tire 44 (.return_) 1 45 := ⟨by decide +kernel, rfl⟩
theorem dX11_pass_0 : Ins mX11_pass 0 (.aload_n 0) 1 1 := ⟨by decide +kernel, rfl⟩
theorem dX11_pass_1 : Ins mX11_pass 1 (.aload_n 0) 1 2 := ⟨by decide +kernel, rfl⟩
theorem dX11_pass_2 : GgR mX11_pass 2 5 10 0 := ⟨0, rfl, ⟨7, _, by decide +kernel, rfl, rfl, by decide, tb_5 (List.mem_of_getElem? (i := 196) (by decide +kernel)) rfl⟩, by decide, rfl⟩
theorem dX11_pass_5 : Ins mX11_pass 5 (.bipush 10) 2 7 := ⟨by decide +kernel, rfl⟩
theorem dX11_pass_7 : Ins mX11_pass 7 (.iaload) 1 8 := ⟨by decide +kernel, rfl⟩
theorem dX11_pass_8 : CalV mX11_pass 8 11 mX11_rockingAt := ⟨317, by decide +kernel, rfl, tb_7 (List.mem_of_getElem? (i := 61) (by decide +kernel)) rfl, meX11_rockingAt⟩
theorem dX11_pass_11 : Ins mX11_pass 11 (.istore_n 1) 1 12 := ⟨by decide +kernel, rfl⟩
theorem dX11_pass_12 : Ins mX11_pass 12 (.iconst 0) 1 13 := ⟨by decide +kernel, rfl⟩
theorem dX11_pass_13 : Ins mX11_pass 13 (.istore_n 2) 1 14 := ⟨by decide +kernel, rfl⟩
theorem dX11_pass_14 : Ins mX11_pass 14 (.iload_n 2) 1 15 := ⟨by decide +kernel, rfl⟩
theorem dX11_pass_15 : Ins mX11_pass 15 (.aload_n 0) 1 16 := ⟨by decide +kernel, rfl⟩
theorem dX11_pass_16 : GgR mX11_pass 16 19 10 0 := ⟨0, rfl, ⟨7, _, by decide +kernel, rfl, rfl, by decide, tb_5 (List.mem_of_getElem? (i := 196) (by decide +kernel)) rfl⟩, by decide, rfl⟩
theorem dX11_pass_19 : Ins mX11_pass 19 (.iconst 0) 1 20 := ⟨by decide +kernel, rfl⟩
theorem dX11_pass_20 : Ins mX11_pass 20 (.iaload) 1 21 := ⟨by decide +kernel, rfl⟩
theorem dX11_pass_21 : Ins mX11_pass 21 (.if_icmp .ge 36) 3 24 := ⟨by decide +kernel, rfl⟩
theorem dX11_pass_24 : Ins mX11_pass 24 (.aload_n 0) 1 25 := ⟨by decide +kernel, rfl⟩
theorem dX11_pass_25 : GgR mX11_pass 25 28 10 25 := ⟨25, rfl, ⟨47, _, by decide +kernel, rfl, rfl, by decide, tb_5 (List.mem_of_getElem? (i := 221) (by decide +kernel)) rfl⟩, by decide, rfl⟩
theorem dX11_pass_28 : Ins mX11_pass 28 (.iload_n 2) 1 29 := ⟨by decide +kernel, rfl⟩
theorem dX11_pass_29 : Ins mX11_pass 29 (.iload_n 1) 1 30 := ⟨by decide +kernel, rfl⟩
theorem dX11_pass_30 : Ins mX11_pass 30 (.iload_n 2) 1 31 := ⟨by decide +kernel, rfl⟩
theorem dX11_pass_31 : CalS mX11_pass 31 34 mX11_has := ⟨74, by decide +kernel, rfl, Or.inl (tb_6 (List.mem_of_getElem? (i := 135) (by decide +kernel)) rfl), meX11_has⟩
theorem dX11_pass_34 : Ins mX11_pass 34 (.ifCond .eq 15) 3 37 := ⟨by decide +kernel, rfl⟩
theorem dX11_pass_37 : Ins mX11_pass 37 (.aload_n 0) 1 38 := ⟨by decide +kernel, rfl⟩
theorem dX11_pass_38 : Ins mX11_pass 38 (.iload_n 2) 1 39 := ⟨by decide +kernel, rfl⟩
theorem dX11_pass_39 : Ins mX11_pass 39 (.iload_n 1) 1 40 := ⟨by decide +kernel, rfl⟩
theorem dX11_pass_40 : CalS mX11_pass 40 43 mX11_bits := ⟨302, by decide +kernel, rfl, Or.inl (tb_7 (List.mem_of_getElem? (i := 77) (by decide +kernel)) rfl), meX11_bits⟩
theorem dX11_pass_43 : CalV mX11_pass 43 46 mX11_wearsOf := ⟨320, by decide +kernel, rfl, tb_7 (List.mem_of_getElem? (i := 80) (by decide +kernel)) rfl, meX11_wearsOf⟩
theorem dX11_pass_46 : Ins mX11_pass 46 (.goto 4) 3 49 := ⟨by decide +kernel, rfl⟩
theorem dX11_pass_49 : Ins mX11_pass 49 (.iconst 0) 1 50 := ⟨by decide +kernel, rfl⟩
theorem dX11_pass_50 : Ins mX11_pass 50 (.iastore) 1 51 := ⟨by decide +kernel, rfl⟩
theorem dX11_pass_51 : Ins mX11_pass 51 (.iinc 2 1) 3 54 := ⟨by decide +kernel, rfl⟩
theorem dX11_pass_54 : Ins mX11_pass 54 (.goto (-40)) 3 57 := ⟨by decide +kernel, rfl⟩
theorem dX11_pass_57 : Ins mX11_pass 57 (.iconst 0) 1 58 := ⟨by decide +kernel, rfl⟩
theorem dX11_pass_58 : Ins mX11_pass 58 (.istore_n 2) 1 59 := ⟨by decide +kernel, rfl⟩
theorem dX11_pass_59 : Ins mX11_pass 59 (.iload_n 2) 1 60 := ⟨by decide +kernel, rfl⟩
theorem dX11_pass_60 : Ins mX11_pass 60 (.aload_n 0) 1 61 := ⟨by decide +kernel, rfl⟩
theorem dX11_pass_61 : GgR mX11_pass 61 64 10 0 := ⟨0, rfl, ⟨7, _, by decide +kernel, rfl, rfl, by decide, tb_5 (List.mem_of_getElem? (i := 196) (by decide +kernel)) rfl⟩, by decide, rfl⟩
theorem dX11_pass_64 : Ins mX11_pass 64 (.iconst 0) 1 65 := ⟨by decide +kernel, rfl⟩
theorem dX11_pass_65 : Ins mX11_pass 65 (.iaload) 1 66 := ⟨by decide +kernel, rfl⟩
theorem dX11_pass_66 : Ins mX11_pass 66 (.if_icmp .ge 35) 3 69 := ⟨by decide +kernel, rfl⟩
theorem dX11_pass_69 : Ins mX11_pass 69 (.aload_n 0) 1 70 := ⟨by decide +kernel, rfl⟩
theorem dX11_pass_70 : Ins mX11_pass 70 (.iload_n 2) 1 71 := ⟨by decide +kernel, rfl⟩
theorem dX11_pass_71 : Ins mX11_pass 71 (.iconst 1) 1 72 := ⟨by decide +kernel, rfl⟩
theorem dX11_pass_72 : Ins mX11_pass 72 (.aload_n 0) 1 73 := ⟨by decide +kernel, rfl⟩
theorem dX11_pass_73 : Ins mX11_pass 73 (.iload_n 2) 1 74 := ⟨by decide +kernel, rfl⟩
theorem dX11_pass_74 : Ins mX11_pass 74 (.iconst 1) 1 75 := ⟨by decide +kernel, rfl⟩
theorem dX11_pass_75 : CalV mX11_pass 75 78 mX11_get := ⟨71, by decide +kernel, rfl, tb_6 (List.mem_of_getElem? (i := 233) (by decide +kernel)) rfl, meX11_get⟩
theorem dX11_pass_78 : Ins mX11_pass 78 (.aload_n 0) 1 79 := ⟨by decide +kernel, rfl⟩
theorem dX11_pass_79 : GgR mX11_pass 79 82 10 25 := ⟨25, rfl, ⟨47, _, by decide +kernel, rfl, rfl, by decide, tb_5 (List.mem_of_getElem? (i := 221) (by decide +kernel)) rfl⟩, by decide, rfl⟩
theorem dX11_pass_82 : Ins mX11_pass 82 (.iload_n 2) 1 83 := ⟨by decide +kernel, rfl⟩
theorem dX11_pass_83 : Ins mX11_pass 83 (.iaload) 1 84 := ⟨by decide +kernel, rfl⟩
theorem dX11_pass_84 : Ins mX11_pass 84 (.iadd) 1 85 := ⟨by decide +kernel, rfl⟩
theorem dX11_pass_85 : Ins mX11_pass 85 (.i2l) 1 86 := ⟨by decide +kernel, rfl⟩
theorem dX11_pass_86 : Ins mX11_pass 86 (.iconst 0) 1 87 := ⟨by decide +kernel, rfl⟩
theorem dX11_pass_87 : Ins mX11_pass 87 (.bipush 99) 2 89 := ⟨by decide +kernel, rfl⟩
theorem dX11_pass_89 : CalS mX11_pass 89 92 mX11_cut := ⟨289, by decide +kernel, rfl, Or.inl (tb_7 (List.mem_of_getElem? (i := 122) (by decide +kernel)) rfl), meX11_cut⟩
theorem dX11_pass_92 : CalV mX11_pass 92 95 mX11_put := ⟨85, by decide +kernel, rfl, tb_6 (List.mem_of_getElem? (i := 53) (by decide +kernel)) rfl, meX11_put⟩
theorem dX11_pass_95 : Ins mX11_pass 95 (.iinc 2 1) 3 98 := ⟨by decide +kernel, rfl⟩
theorem dX11_pass_98 : Ins mX11_pass 98 (.goto (-39)) 3 101 := ⟨by decide +kernel, rfl⟩
theorem dX11_pass_101 : Ins mX11_pass 101 (.iconst 0) 1 102 := ⟨by decide +kernel, rfl⟩
theorem dX11_pass_102 : Ins mX11_pass 102 (.istore_n 2) 1 103 := ⟨by decide +kernel, rfl⟩
theorem dX11_pass_103 : Ins mX11_pass 103 (.iload_n 2) 1 104 := ⟨by decide +kernel, rfl⟩
theorem dX11_pass_104 : Ins mX11_pass 104 (.aload_n 0) 1 105 := ⟨by decide +kernel, rfl⟩
theorem dX11_pass_105 : GgR mX11_pass 105 108 10 0 := ⟨0, rfl, ⟨7, _, by decide +kernel, rfl, rfl, by decide, tb_5 (List.mem_of_getElem? (i := 196) (by decide +kernel)) rfl⟩, by decide, rfl⟩
theorem dX11_pass_108 : Ins mX11_pass 108 (.iconst 1) 1 109 := ⟨by decide +kernel, rfl⟩
theorem dX11_pass_109 : Ins mX11_pass 109 (.iaload) 1 110 := ⟨by decide +kernel, rfl⟩
theorem dX11_pass_110 : Ins mX11_pass 110 (.if_icmp .ge 33) 3 113 := ⟨by decide +kernel, rfl⟩
theorem dX11_pass_113 : Ins mX11_pass 113 (.aload_n 0) 1 114 := ⟨by decide +kernel, rfl⟩
theorem dX11_pass_114 : Ins mX11_pass 114 (.iload_n 2) 1 115 := ⟨by decide +kernel, rfl⟩
theorem dX11_pass_115 : Ins mX11_pass 115 (.iconst 1) 1 116 := ⟨by decide +kernel, rfl⟩
theorem dX11_pass_116 : CalV mX11_pass 116 119 mX11_of := ⟨67, by decide +kernel, rfl, tb_7 (List.mem_of_getElem? (i := 13) (by decide +kernel)) rfl, meX11_of⟩
theorem dX11_pass_119 : Ins mX11_pass 119 (.iconst (-1)) 1 120 := ⟨by decide +kernel, rfl⟩
theorem dX11_pass_120 : Ins mX11_pass 120 (.if_icmp .ne 11) 3 123 := ⟨by decide +kernel, rfl⟩
theorem dX11_pass_123 : Ins mX11_pass 123 (.aload_n 0) 1 124 := ⟨by decide +kernel, rfl⟩
theorem dX11_pass_124 : Ins mX11_pass 124 (.iload_n 2) 1 125 := ⟨by decide +kernel, rfl⟩
theorem dX11_pass_125 : CalV mX11_pass 125 128 mX11_rest := ⟨323, by decide +kernel, rfl, tb_7 (List.mem_of_getElem? (i := 125) (by decide +kernel)) rfl, meX11_rest⟩
theorem dX11_pass_128 : Ins mX11_pass 128 (.goto 9) 3 131 := ⟨by decide +kernel, rfl⟩
theorem dX11_pass_131 : Ins mX11_pass 131 (.aload_n 0) 1 132 := ⟨by decide +kernel, rfl⟩
theorem dX11_pass_132 : Ins mX11_pass 132 (.iload_n 2) 1 133 := ⟨by decide +kernel, rfl⟩
theorem dX11_pass_133 : Ins mX11_pass 133 (.iload_n 1) 1 134 := ⟨by decide +kernel, rfl⟩
theorem dX11_pass_134 : CalV mX11_pass 134 137 mX11_tire := ⟨326, by decide +kernel, rfl, tb_7 (List.mem_of_getElem? (i := 129) (by decide +kernel)) rfl, meX11_tire⟩
theorem dX11_pass_137 : Ins mX11_pass 137 (.iinc 2 1) 3 140 := ⟨by decide +kernel, rfl⟩
theorem dX11_pass_140 : Ins mX11_pass 140 (.goto (-37)) 3 143 := ⟨by decide +kernel, rfl⟩
theorem dX11_pass_143 : Ins mX11_pass 143 (.aload_n 0) 1 144 := ⟨by decide +kernel, rfl⟩
theorem dX11_pass_144 : GgR mX11_pass 144 147 10 0 := ⟨0, rfl, ⟨7, _, by decide +kernel, rfl, rfl, by decide, tb_5 (List.mem_of_getElem? (i := 196) (by decide +kernel)) rfl⟩, by decide, rfl⟩
theorem dX11_pass_147 : Ins mX11_pass 147 (.bipush 11) 2 149 := ⟨by decide +kernel, rfl⟩
theorem dX11_pass_149 : Ins mX11_pass 149 (.aload_n 0) 1 150 := ⟨by decide +kernel, rfl⟩
theorem dX11_pass_150 : GgR mX11_pass 150 153 10 0 := ⟨0, rfl, ⟨7, _, by decide +kernel, rfl, rfl, by decide, tb_5 (List.mem_of_getElem? (i := 196) (by decide +kernel)) rfl⟩, by decide, rfl⟩
theorem dX11_pass_153 : Ins mX11_pass 153 (.bipush 11) 2 155 := ⟨by decide +kernel, rfl⟩
theorem dX11_pass_155 : Ins mX11_pass 155 (.iaload) 1 156 := ⟨by decide +kernel, rfl⟩
theorem dX11_pass_156 : Ins mX11_pass 156 (.iload_n 1) 1 157 := ⟨by decide +kernel, rfl⟩
theorem dX11_pass_157 : CalS mX11_pass 157 160 mX11_bits := ⟨302, by decide +kernel, rfl, Or.inl (tb_7 (List.mem_of_getElem? (i := 77) (by decide +kernel)) rfl), meX11_bits⟩
theorem dX11_pass_160 : Ins mX11_pass 160 (.iadd) 1 161 := ⟨by decide +kernel, rfl⟩
theorem dX11_pass_161 : Ins mX11_pass 161 (.i2l) 1 162 := ⟨by decide +kernel, rfl⟩
theorem dX11_pass_162 : Ins mX11_pass 162 (.iconst 0) 1 163 := ⟨by decide +kernel, rfl⟩
theorem dX11_pass_163 : Ins mX11_pass 163 (.sipush 999) 3 166 := ⟨by decide +kernel, rfl⟩
theorem dX11_pass_166 : CalS mX11_pass 166 169 mX11_cut := ⟨289, by decide +kernel, rfl, Or.inl (tb_7 (List.mem_of_getElem? (i := 122) (by decide +kernel)) rfl), meX11_cut⟩
theorem dX11_pass_169 : Ins mX11_pass 169 (.iastore) 1 170 := ⟨by decide +kernel, rfl⟩
theorem dX11_pass_170 : Ins mX11_pass 170 (.iload_n 1) 1 171 := ⟨by decide +kernel, rfl⟩
theorem dX11_pass_171 : CalS mX11_pass 171 174 mX11_bits := ⟨302, by decide +kernel, rfl, Or.inl (tb_7 (List.mem_of_getElem? (i := 77) (by decide +kernel)) rfl), meX11_bits⟩
theorem dX11_pass_174 : Ins mX11_pass 174 (.aload_n 0) 1 175 := ⟨by decide +kernel, rfl⟩
theorem dX11_pass_175 : GgR mX11_pass 175 178 10 0 := ⟨0, rfl, ⟨7, _, by decide +kernel, rfl, rfl, by decide, tb_5 (List.mem_of_getElem? (i := 196) (by decide +kernel)) rfl⟩, by decide, rfl⟩
theorem dX11_pass_178 : Ins mX11_pass 178 (.bipush 9) 2 180 := ⟨by decide +kernel, rfl⟩
theorem dX11_pass_180 : Ins mX11_pass 180 (.iaload) 1 181 := ⟨by decide +kernel, rfl⟩
theorem dX11_pass_181 : Ins mX11_pass 181 (.if_icmp .lt 8) 3 184 := ⟨by decide +kernel, rfl⟩
theorem dX11_pass_184 : Ins mX11_pass 184 (.aload_n 0) 1 185 := ⟨by decide +kernel, rfl⟩
theorem dX11_pass_185 : Ins mX11_pass 185 (.iload_n 1) 1 186 := ⟨by decide +kernel, rfl⟩
theorem dX11_pass_186 : CalV mX11_pass 186 189 mX11_slide := ⟨329, by decide +kernel, rfl, tb_7 (List.mem_of_getElem? (i := 137) (by decide +kernel)) rfl, meX11_slide⟩
theorem dX11_pass_189 : Ins mX11_pass 189 (.aload_n 0) 1 190 := ⟨by decide +kernel, rfl⟩
theorem dX11_pass_190 : GgR mX11_pass 190 193 10 0 := ⟨0, rfl, ⟨7, _, by decide +kernel, rfl, rfl, by decide, tb_5 (List.mem_of_getElem? (i := 196) (by decide +kernel)) rfl⟩, by decide, rfl⟩
theorem dX11_pass_193 : Ins mX11_pass 193 (.bipush 10) 2 195 := ⟨by decide +kernel, rfl⟩
theorem dX11_pass_195 : Ins mX11_pass 195 (.dup2) 1 196 := ⟨by decide +kernel, rfl⟩
theorem dX11_pass_196 : Ins mX11_pass 196 (.iaload) 1 197 := ⟨by decide +kernel, rfl⟩
theorem dX11_pass_197 : Ins mX11_pass 197 (.iconst 1) 1 198 := ⟨by decide +kernel, rfl⟩
theorem dX11_pass_198 : Ins mX11_pass 198 (.iadd) 1 199 := ⟨by decide +kernel, rfl⟩
theorem dX11_pass_199 : Ins mX11_pass 199 (.iastore) 1 200 := ⟨by decide +kernel, rfl⟩
theorem dX11_pass_200 : Ins mX11_pass 200 (.return_) 1 201 := ⟨by decide +kernel, rfl⟩
theorem dX11_keep_0 : Ins mX11_keep 0 (.aload_n 0) 1 1 := ⟨by decide +kernel, rfl⟩
theorem dX11_keep_1 : GgR mX11_keep 1 4 10 0 := ⟨0, rfl, ⟨7, _, by decide +kernel, rfl, rfl, by decide, tb_5 (List.mem_of_getElem? (i := 196) (by decide +kernel)) rfl⟩, by decide, rfl⟩
theorem dX11_keep_4 : Ins mX11_keep 4 (.iconst 4) 1 5 := ⟨by decide +kernel, rfl⟩
theorem dX11_keep_5 : Ins mX11_keep 5 (.iaload) 1 6 := ⟨by decide +kernel, rfl⟩
theorem dX11_keep_6 : Ins mX11_keep 6 (.bipush 30) 2 8 := ⟨by decide +kernel, rfl⟩
theorem dX11_keep_8 : Ins mX11_keep 8 (.if_icmp .ne 48) 3 11 := ⟨by decide +kernel, rfl⟩
theorem dX11_keep_11 : Ins mX11_keep 11 (.iconst 0) 1 12 := ⟨by decide +kernel, rfl⟩
theorem dX11_keep_12 : Ins mX11_keep 12 (.istore_n 1) 1 13 := ⟨by decide +kernel, rfl⟩
theorem dX11_keep_13 : Ins mX11_keep 13 (.iload_n 1) 1 14 := ⟨by decide +kernel, rfl⟩
theorem dX11_keep_14 : Ins mX11_keep 14 (.sipush 1015) 3 17 := ⟨by decide +kernel, rfl⟩
theorem dX11_keep_17 : Ins mX11_keep 17 (.if_icmp .ge 29) 3 20 := ⟨by decide +kernel, rfl⟩
theorem dX11_keep_20 : Ins mX11_keep 20 (.aload_n 0) 1 21 := ⟨by decide +kernel, rfl⟩
theorem dX11_keep_21 : GgR mX11_keep 21 24 10 0 := ⟨0, rfl, ⟨7, _, by decide +kernel, rfl, rfl, by decide, tb_5 (List.mem_of_getElem? (i := 196) (by decide +kernel)) rfl⟩, by decide, rfl⟩
theorem dX11_keep_24 : Ins mX11_keep 24 (.sipush 130) 3 27 := ⟨by decide +kernel, rfl⟩
theorem dX11_keep_27 : Ins mX11_keep 27 (.iload_n 1) 1 28 := ⟨by decide +kernel, rfl⟩
theorem dX11_keep_28 : Ins mX11_keep 28 (.iadd) 1 29 := ⟨by decide +kernel, rfl⟩
theorem dX11_keep_29 : Ins mX11_keep 29 (.aload_n 0) 1 30 := ⟨by decide +kernel, rfl⟩
theorem dX11_keep_30 : GgR mX11_keep 30 33 10 0 := ⟨0, rfl, ⟨7, _, by decide +kernel, rfl, rfl, by decide, tb_5 (List.mem_of_getElem? (i := 196) (by decide +kernel)) rfl⟩, by decide, rfl⟩
theorem dX11_keep_33 : Ins mX11_keep 33 (.sipush 165) 3 36 := ⟨by decide +kernel, rfl⟩
theorem dX11_keep_36 : Ins mX11_keep 36 (.iload_n 1) 1 37 := ⟨by decide +kernel, rfl⟩
theorem dX11_keep_37 : Ins mX11_keep 37 (.iadd) 1 38 := ⟨by decide +kernel, rfl⟩
theorem dX11_keep_38 : Ins mX11_keep 38 (.iaload) 1 39 := ⟨by decide +kernel, rfl⟩
theorem dX11_keep_39 : Ins mX11_keep 39 (.iastore) 1 40 := ⟨by decide +kernel, rfl⟩
theorem dX11_keep_40 : Ins mX11_keep 40 (.iinc 1 1) 3 43 := ⟨by decide +kernel, rfl⟩
theorem dX11_keep_43 : Ins mX11_keep 43 (.goto (-30)) 3 46 := ⟨by decide +kernel, rfl⟩
theorem dX11_keep_46 : Ins mX11_keep 46 (.aload_n 0) 1 47 := ⟨by decide +kernel, rfl⟩
theorem dX11_keep_47 : GgR mX11_keep 47 50 10 0 := ⟨0, rfl, ⟨7, _, by decide +kernel, rfl, rfl, by decide, tb_5 (List.mem_of_getElem? (i := 196) (by decide +kernel)) rfl⟩, by decide, rfl⟩
theorem dX11_keep_50 : Ins mX11_keep 50 (.iconst 4) 1 51 := ⟨by decide +kernel, rfl⟩
theorem dX11_keep_51 : Ins mX11_keep 51 (.dup2) 1 52 := ⟨by decide +kernel, rfl⟩
theorem dX11_keep_52 : Ins mX11_keep 52 (.iaload) 1 53 := ⟨by decide +kernel, rfl⟩
theorem dX11_keep_53 : Ins mX11_keep 53 (.iconst 1) 1 54 := ⟨by decide +kernel, rfl⟩
theorem dX11_keep_54 : Ins mX11_keep 54 (.isub) 1 55 := ⟨by decide +kernel, rfl⟩
theorem dX11_keep_55 : Ins mX11_keep 55 (.iastore) 1 56 := ⟨by decide +kernel, rfl⟩
theorem dX11_keep_56 : Ins mX11_keep 56 (.sipush 130) 3 59 := ⟨by decide +kernel, rfl⟩
theorem dX11_keep_59 : Ins mX11_keep 59 (.bipush 35) 2 61 := ⟨by decide +kernel, rfl⟩
theorem dX11_keep_61 : Ins mX11_keep 61 (.aload_n 0) 1 62 := ⟨by decide +kernel, rfl⟩
theorem dX11_keep_62 : GgR mX11_keep 62 65 10 0 := ⟨0, rfl, ⟨7, _, by decide +kernel, rfl, rfl, by decide, tb_5 (List.mem_of_getElem? (i := 196) (by decide +kernel)) rfl⟩, by decide, rfl⟩
theorem dX11_keep_65 : Ins mX11_keep 65 (.iconst 4) 1 66 := ⟨by decide +kernel, rfl⟩
theorem dX11_keep_66 : Ins mX11_keep 66 (.iaload) 1 67 := ⟨by decide +kernel, rfl⟩
theorem dX11_keep_67 : Ins mX11_keep 67 (.imul) 1 68 := ⟨by decide +kernel, rfl⟩
theorem dX11_keep_68 : Ins mX11_keep 68 (.iadd) 1 69 := ⟨by decide +kernel, rfl⟩
theorem dX11_keep_69 : Ins mX11_keep 69 (.istore_n 1) 1 70 := ⟨by decide +kernel, rfl⟩
theorem dX11_keep_70 : Ins mX11_keep 70 (.aload_n 0) 1 71 := ⟨by decide +kernel, rfl⟩
theorem dX11_keep_71 : GgR mX11_keep 71 74 10 0 := ⟨0, rfl, ⟨7, _, by decide +kernel, rfl, rfl, by decide, tb_5 (List.mem_of_getElem? (i := 196) (by decide +kernel)) rfl⟩, by decide, rfl⟩
theorem dX11_keep_74 : Ins mX11_keep 74 (.iload_n 1) 1 75 := ⟨by decide +kernel, rfl⟩
theorem dX11_keep_75 : Ins mX11_keep 75 (.aload_n 0) 1 76 := ⟨by decide +kernel, rfl⟩
theorem dX11_keep_76 : GgR mX11_keep 76 79 10 0 := ⟨0, rfl, ⟨7, _, by decide +kernel, rfl, rfl, by decide, tb_5 (List.mem_of_getElem? (i := 196) (by decide +kernel)) rfl⟩, by decide, rfl⟩
theorem dX11_keep_79 : Ins mX11_keep 79 (.iconst 0) 1 80 := ⟨by decide +kernel, rfl⟩
theorem dX11_keep_80 : Ins mX11_keep 80 (.iaload) 1 81 := ⟨by decide +kernel, rfl⟩
theorem dX11_keep_81 : Ins mX11_keep 81 (.iastore) 1 82 := ⟨by decide +kernel, rfl⟩
theorem dX11_keep_82 : Ins mX11_keep 82 (.aload_n 0) 1 83 := ⟨by decide +kernel, rfl⟩
theorem dX11_keep_83 : GgR mX11_keep 83 86 10 0 := ⟨0, rfl, ⟨7, _, by decide +kernel, rfl, rfl, by decide, tb_5 (List.mem_of_getElem? (i := 196) (by decide +kernel)) rfl⟩, by decide, rfl⟩
theorem dX11_keep_86 : Ins mX11_keep 86 (.iload_n 1) 1 87 := ⟨by decide +kernel, rfl⟩
theorem dX11_keep_87 : Ins mX11_keep 87 (.iconst 1) 1 88 := ⟨by decide +kernel, rfl⟩
theorem dX11_keep_88 : Ins mX11_keep 88 (.iadd) 1 89 := ⟨by decide +kernel, rfl⟩
theorem dX11_keep_89 : Ins mX11_keep 89 (.aload_n 0) 1 90 := ⟨by decide +kernel, rfl⟩
theorem dX11_keep_90 : GgR mX11_keep 90 93 10 0 := ⟨0, rfl, ⟨7, _, by decide +kernel, rfl, rfl, by decide, tb_5 (List.mem_of_getElem? (i := 196) (by decide +kernel)) rfl⟩, by decide, rfl⟩
theorem dX11_keep_93 : Ins mX11_keep 93 (.iconst 1) 1 94 := ⟨by decide +kernel, rfl⟩
theorem dX11_keep_94 : Ins mX11_keep 94 (.iaload) 1 95 := ⟨by decide +kernel, rfl⟩
theorem dX11_keep_95 : Ins mX11_keep 95 (.iastore) 1 96 := ⟨by decide +kernel, rfl⟩
theorem dX11_keep_96 : Ins mX11_keep 96 (.iconst 0) 1 97 := ⟨by decide +kernel, rfl⟩
theorem dX11_keep_97 : Ins mX11_keep 97 (.istore_n 2) 1 98 := ⟨by decide +kernel, rfl⟩
theorem dX11_keep_98 : Ins mX11_keep 98 (.iload_n 2) 1 99 := ⟨by decide +kernel, rfl⟩
theorem dX11_keep_99 : Ins mX11_keep 99 (.iconst 5) 1 100 := ⟨by decide +kernel, rfl⟩
theorem dX11_keep_100 : Ins mX11_keep 100 (.if_icmp .ge 28) 3 103 := ⟨by decide +kernel, rfl⟩
theorem dX11_keep_103 : Ins mX11_keep 103 (.aload_n 0) 1 104 := ⟨by decide +kernel, rfl⟩
theorem dX11_keep_104 : GgR mX11_keep 104 107 10 0 := ⟨0, rfl, ⟨7, _, by decide +kernel, rfl, rfl, by decide, tb_5 (List.mem_of_getElem? (i := 196) (by decide +kernel)) rfl⟩, by decide, rfl⟩
theorem dX11_keep_107 : Ins mX11_keep 107 (.iload_n 1) 1 108 := ⟨by decide +kernel, rfl⟩
theorem dX11_keep_108 : Ins mX11_keep 108 (.iconst 2) 1 109 := ⟨by decide +kernel, rfl⟩
theorem dX11_keep_109 : Ins mX11_keep 109 (.iadd) 1 110 := ⟨by decide +kernel, rfl⟩
theorem dX11_keep_110 : Ins mX11_keep 110 (.iload_n 2) 1 111 := ⟨by decide +kernel, rfl⟩
theorem dX11_keep_111 : Ins mX11_keep 111 (.iadd) 1 112 := ⟨by decide +kernel, rfl⟩
theorem dX11_keep_112 : Ins mX11_keep 112 (.aload_n 0) 1 113 := ⟨by decide +kernel, rfl⟩
theorem dX11_keep_113 : GgR mX11_keep 113 116 10 0 := ⟨0, rfl, ⟨7, _, by decide +kernel, rfl, rfl, by decide, tb_5 (List.mem_of_getElem? (i := 196) (by decide +kernel)) rfl⟩, by decide, rfl⟩
theorem dX11_keep_116 : Ins mX11_keep 116 (.bipush 10) 2 118 := ⟨by decide +kernel, rfl⟩
theorem dX11_keep_118 : Ins mX11_keep 118 (.iload_n 2) 1 119 := ⟨by decide +kernel, rfl⟩
theorem dX11_keep_119 : Ins mX11_keep 119 (.iadd) 1 120 := ⟨by decide +kernel, rfl⟩
theorem dX11_keep_120 : Ins mX11_keep 120 (.iaload) 1 121 := ⟨by decide +kernel, rfl⟩
theorem dX11_keep_121 : Ins mX11_keep 121 (.iastore) 1 122 := ⟨by decide +kernel, rfl⟩
theorem dX11_keep_122 : Ins mX11_keep 122 (.iinc 2 1) 3 125 := ⟨by decide +kernel, rfl⟩
theorem dX11_keep_125 : Ins mX11_keep 125 (.goto (-27)) 3 128 := ⟨by decide +kernel, rfl⟩
theorem dX11_keep_128 : Ins mX11_keep 128 (.iconst 0) 1 129 := ⟨by decide +kernel, rfl⟩
theorem dX11_keep_129 : Ins mX11_keep 129 (.istore_n 2) 1 130 := ⟨by decide +kernel, rfl⟩
theorem dX11_keep_130 : Ins mX11_keep 130 (.iload_n 2) 1 131 := ⟨by decide +kernel, rfl⟩
theorem dX11_keep_131 : Ins mX11_keep 131 (.bipush 8) 2 133 := ⟨by decide +kernel, rfl⟩
theorem dX11_keep_133 : Ins mX11_keep 133 (.if_icmp .ge 43) 3 136 := ⟨by decide +kernel, rfl⟩
theorem dX11_keep_136 : Ins mX11_keep 136 (.iconst 0) 1 137 := ⟨by decide +kernel, rfl⟩
theorem dX11_keep_137 : Ins mX11_keep 137 (.istore_n 3) 1 138 := ⟨by decide +kernel, rfl⟩
theorem dX11_keep_138 : Ins mX11_keep 138 (.iload_n 3) 1 139 := ⟨by decide +kernel, rfl⟩
theorem dX11_keep_139 : Ins mX11_keep 139 (.iconst 2) 1 140 := ⟨by decide +kernel, rfl⟩
theorem dX11_keep_140 : Ins mX11_keep 140 (.if_icmp .ge 30) 3 143 := ⟨by decide +kernel, rfl⟩
theorem dX11_keep_143 : Ins mX11_keep 143 (.aload_n 0) 1 144 := ⟨by decide +kernel, rfl⟩
theorem dX11_keep_144 : GgR mX11_keep 144 147 10 0 := ⟨0, rfl, ⟨7, _, by decide +kernel, rfl, rfl, by decide, tb_5 (List.mem_of_getElem? (i := 196) (by decide +kernel)) rfl⟩, by decide, rfl⟩
theorem dX11_keep_147 : Ins mX11_keep 147 (.iload_n 1) 1 148 := ⟨by decide +kernel, rfl⟩
theorem dX11_keep_148 : Ins mX11_keep 148 (.bipush 7) 2 150 := ⟨by decide +kernel, rfl⟩
theorem dX11_keep_150 : Ins mX11_keep 150 (.iadd) 1 151 := ⟨by decide +kernel, rfl⟩
theorem dX11_keep_151 : Ins mX11_keep 151 (.iconst 2) 1 152 := ⟨by decide +kernel, rfl⟩
theorem dX11_keep_152 : Ins mX11_keep 152 (.iload_n 2) 1 153 := ⟨by decide +kernel, rfl⟩
theorem dX11_keep_153 : Ins mX11_keep 153 (.imul) 1 154 := ⟨by decide +kernel, rfl⟩
theorem dX11_keep_154 : Ins mX11_keep 154 (.iadd) 1 155 := ⟨by decide +kernel, rfl⟩
theorem dX11_keep_155 : Ins mX11_keep 155 (.iload_n 3) 1 156 := ⟨by decide +kernel, rfl⟩
theorem dX11_keep_156 : Ins mX11_keep 156 (.iadd) 1 157 := ⟨by decide +kernel, rfl⟩
theorem dX11_keep_157 : Ins mX11_keep 157 (.aload_n 0) 1 158 := ⟨by decide +kernel, rfl⟩
theorem dX11_keep_158 : Ins mX11_keep 158 (.iload_n 2) 1 159 := ⟨by decide +kernel, rfl⟩
theorem dX11_keep_159 : Ins mX11_keep 159 (.iload_n 3) 1 160 := ⟨by decide +kernel, rfl⟩
theorem dX11_keep_160 : CalV mX11_keep 160 163 mX11_get := ⟨71, by decide +kernel, rfl, tb_6 (List.mem_of_getElem? (i := 233) (by decide +kernel)) rfl, meX11_get⟩
theorem dX11_keep_163 : Ins mX11_keep 163 (.iastore) 1 164 := ⟨by decide +kernel, rfl⟩
theorem dX11_keep_164 : Ins mX11_keep 164 (.iinc 3 1) 3 167 := ⟨by decide +kernel, rfl⟩
theorem dX11_keep_167 : Ins mX11_keep 167 (.goto (-29)) 3 170 := ⟨by decide +kernel, rfl⟩
theorem dX11_keep_170 : Ins mX11_keep 170 (.iinc 2 1) 3 173 := ⟨by decide +kernel, rfl⟩
theorem dX11_keep_173 : Ins mX11_keep 173 (.goto (-43)) 3 176 := ⟨by decide +kernel, rfl⟩
theorem dX11_keep_176 : Ins mX11_keep 176 (.iconst 0) 1 177 := ⟨by decide +kernel, rfl⟩
theorem dX11_keep_177 : Ins mX11_keep 177 (.istore_n 2) 1 178 := ⟨by decide +kernel, rfl⟩
theorem dX11_keep_178 : Ins mX11_keep 178 (.iload_n 2) 1 179 := ⟨by decide +kernel, rfl⟩
theorem dX11_keep_179 : Ins mX11_keep 179 (.bipush 6) 2 181 := ⟨by decide +kernel, rfl⟩
theorem dX11_keep_181 : Ins mX11_keep 181 (.if_icmp .ge 43) 3 184 := ⟨by decide +kernel, rfl⟩
theorem dX11_keep_184 : Ins mX11_keep 184 (.iconst 0) 1 185 := ⟨by decide +kernel, rfl⟩
theorem dX11_keep_185 : Ins mX11_keep 185 (.istore_n 3) 1 186 := ⟨by decide +kernel, rfl⟩
theorem dX11_keep_186 : Ins mX11_keep 186 (.iload_n 3) 1 187 := ⟨by decide +kernel, rfl⟩
theorem dX11_keep_187 : Ins mX11_keep 187 (.iconst 2) 1 188 := ⟨by decide +kernel, rfl⟩
theorem dX11_keep_188 : Ins mX11_keep 188 (.if_icmp .ge 30) 3 191 := ⟨by decide +kernel, rfl⟩
theorem dX11_keep_191 : Ins mX11_keep 191 (.aload_n 0) 1 192 := ⟨by decide +kernel, rfl⟩
theorem dX11_keep_192 : GgR mX11_keep 192 195 10 0 := ⟨0, rfl, ⟨7, _, by decide +kernel, rfl, rfl, by decide, tb_5 (List.mem_of_getElem? (i := 196) (by decide +kernel)) rfl⟩, by decide, rfl⟩
theorem dX11_keep_195 : Ins mX11_keep 195 (.iload_n 1) 1 196 := ⟨by decide +kernel, rfl⟩
theorem dX11_keep_196 : Ins mX11_keep 196 (.bipush 23) 2 198 := ⟨by decide +kernel, rfl⟩
theorem dX11_keep_198 : Ins mX11_keep 198 (.iadd) 1 199 := ⟨by decide +kernel, rfl⟩
theorem dX11_keep_199 : Ins mX11_keep 199 (.iconst 2) 1 200 := ⟨by decide +kernel, rfl⟩
theorem dX11_keep_200 : Ins mX11_keep 200 (.iload_n 2) 1 201 := ⟨by decide +kernel, rfl⟩
theorem dX11_keep_201 : Ins mX11_keep 201 (.imul) 1 202 := ⟨by decide +kernel, rfl⟩
theorem dX11_keep_202 : Ins mX11_keep 202 (.iadd) 1 203 := ⟨by decide +kernel, rfl⟩
theorem dX11_keep_203 : Ins mX11_keep 203 (.iload_n 3) 1 204 := ⟨by decide +kernel, rfl⟩
theorem dX11_keep_204 : Ins mX11_keep 204 (.iadd) 1 205 := ⟨by decide +kernel, rfl⟩
theorem dX11_keep_205 : Ins mX11_keep 205 (.aload_n 0) 1 206 := ⟨by decide +kernel, rfl⟩
theorem dX11_keep_206 : Ins mX11_keep 206 (.iload_n 2) 1 207 := ⟨by decide +kernel, rfl⟩
theorem dX11_keep_207 : Ins mX11_keep 207 (.iload_n 3) 1 208 := ⟨by decide +kernel, rfl⟩
theorem dX11_keep_208 : CalV mX11_keep 208 211 mX11_of := ⟨67, by decide +kernel, rfl, tb_7 (List.mem_of_getElem? (i := 13) (by decide +kernel)) rfl, meX11_of⟩
theorem dX11_keep_211 : Ins mX11_keep 211 (.iastore) 1 212 := ⟨by decide +kernel, rfl⟩
theorem dX11_keep_212 : Ins mX11_keep 212 (.iinc 3 1) 3 215 := ⟨by decide +kernel, rfl⟩
theorem dX11_keep_215 : Ins mX11_keep 215 (.goto (-29)) 3 218 := ⟨by decide +kernel, rfl⟩
theorem dX11_keep_218 : Ins mX11_keep 218 (.iinc 2 1) 3 221 := ⟨by decide +kernel, rfl⟩
theorem dX11_keep_221 : Ins mX11_keep 221 (.goto (-43)) 3 224 := ⟨by decide +kernel, rfl⟩
theorem dX11_keep_224 : Ins mX11_keep 224 (.aload_n 0) 1 225 := ⟨by decide +kernel, rfl⟩
theorem dX11_keep_225 : GgR mX11_keep 225 228 10 0 := ⟨0, rfl, ⟨7, _, by decide +kernel, rfl, rfl, by decide, tb_5 (List.mem_of_getElem? (i := 196) (by decide +kernel)) rfl⟩, by decide, rfl⟩
theorem dX11_keep_228 : Ins mX11_keep 228 (.iconst 4) 1 229 := ⟨by decide +kernel, rfl⟩
theorem dX11_keep_229 : Ins mX11_keep 229 (.dup2) 1 230 := ⟨by decide +kernel, rfl⟩
theorem dX11_keep_230 : Ins mX11_keep 230 (.iaload) 1 231 := ⟨by decide +kernel, rfl⟩
theorem dX11_keep_231 : Ins mX11_keep 231 (.iconst 1) 1 232 := ⟨by decide +kernel, rfl⟩
theorem dX11_keep_232 : Ins mX11_keep 232 (.iadd) 1 233 := ⟨by decide +kernel, rfl⟩
theorem dX11_keep_233 : Ins mX11_keep 233 (.iastore) 1 234 := ⟨by decide +kernel, rfl⟩
theorem dX11_keep_234 : Ins mX11_keep 234 (.return_) 1 235 := ⟨by decide +kernel, rfl⟩
theorem dX11_undo_0 : Ins mX11_undo 0 (.aload_n 0) 1 1 := ⟨by decide +kernel, rfl⟩
theorem dX11_undo_1 : GgR mX11_undo 1 4 10 0 := ⟨0, rfl, ⟨7, _, by decide +kernel, rfl, rfl, by decide, tb_5 (List.mem_of_getElem? (i := 196) (by decide +kernel)) rfl⟩, by decide, rfl⟩
theorem dX11_undo_4 : Ins mX11_undo 4 (.iconst 4) 1 5 := ⟨by decide +kernel, rfl⟩
theorem dX11_undo_5 : Ins mX11_undo 5 (.iaload) 1 6 := ⟨by decide +kernel, rfl⟩
theorem dX11_undo_6 : Ins mX11_undo 6 (.ifCond .ne 5) 3 9 := ⟨by decide +kernel, rfl⟩
theorem dX11_undo_9 : Ins mX11_undo 9 (.iconst (-1)) 1 10 := ⟨by decide +kernel, rfl⟩
theorem dX11_undo_10 : Ins mX11_undo 10 (.ireturn) 1 11 := ⟨by decide +kernel, rfl⟩
theorem dX11_undo_11 : Ins mX11_undo 11 (.aload_n 0) 1 12 := ⟨by decide +kernel, rfl⟩
theorem dX11_undo_12 : GgR mX11_undo 12 15 10 0 := ⟨0, rfl, ⟨7, _, by decide +kernel, rfl, rfl, by decide, tb_5 (List.mem_of_getElem? (i := 196) (by decide +kernel)) rfl⟩, by decide, rfl⟩
theorem dX11_undo_15 : Ins mX11_undo 15 (.iconst 4) 1 16 := ⟨by decide +kernel, rfl⟩
theorem dX11_undo_16 : Ins mX11_undo 16 (.dup2) 1 17 := ⟨by decide +kernel, rfl⟩
theorem dX11_undo_17 : Ins mX11_undo 17 (.iaload) 1 18 := ⟨by decide +kernel, rfl⟩
theorem dX11_undo_18 : Ins mX11_undo 18 (.iconst 1) 1 19 := ⟨by decide +kernel, rfl⟩
theorem dX11_undo_19 : Ins mX11_undo 19 (.isub) 1 20 := ⟨by decide +kernel, rfl⟩
theorem dX11_undo_20 : Ins mX11_undo 20 (.iastore) 1 21 := ⟨by decide +kernel, rfl⟩
theorem dX11_undo_21 : Ins mX11_undo 21 (.sipush 130) 3 24 := ⟨by decide +kernel, rfl⟩
theorem dX11_undo_24 : Ins mX11_undo 24 (.bipush 35) 2 26 := ⟨by decide +kernel, rfl⟩
theorem dX11_undo_26 : Ins mX11_undo 26 (.aload_n 0) 1 27 := ⟨by decide +kernel, rfl⟩
theorem dX11_undo_27 : GgR mX11_undo 27 30 10 0 := ⟨0, rfl, ⟨7, _, by decide +kernel, rfl, rfl, by decide, tb_5 (List.mem_of_getElem? (i := 196) (by decide +kernel)) rfl⟩, by decide, rfl⟩
theorem dX11_undo_30 : Ins mX11_undo 30 (.iconst 4) 1 31 := ⟨by decide +kernel, rfl⟩
theorem dX11_undo_31 : Ins mX11_undo 31 (.iaload) 1 32 := ⟨by decide +kernel, rfl⟩
theorem dX11_undo_32 : Ins mX11_undo 32 (.imul) 1 33 := ⟨by decide +kernel, rfl⟩
theorem dX11_undo_33 : Ins mX11_undo 33 (.iadd) 1 34 := ⟨by decide +kernel, rfl⟩
theorem dX11_undo_34 : Ins mX11_undo 34 (.istore_n 1) 1 35 := ⟨by decide +kernel, rfl⟩
theorem dX11_undo_35 : Ins mX11_undo 35 (.iconst 0) 1 36 := ⟨by decide +kernel, rfl⟩
theorem dX11_undo_36 : Ins mX11_undo 36 (.istore_n 2) 1 37 := ⟨by decide +kernel, rfl⟩
theorem dX11_undo_37 : Ins mX11_undo 37 (.iload_n 2) 1 38 := ⟨by decide +kernel, rfl⟩
theorem dX11_undo_38 : Ins mX11_undo 38 (.iconst 5) 1 39 := ⟨by decide +kernel, rfl⟩
theorem dX11_undo_39 : Ins mX11_undo 39 (.if_icmp .ge 28) 3 42 := ⟨by decide +kernel, rfl⟩
theorem dX11_undo_42 : Ins mX11_undo 42 (.aload_n 0) 1 43 := ⟨by decide +kernel, rfl⟩
theorem dX11_undo_43 : GgR mX11_undo 43 46 10 0 := ⟨0, rfl, ⟨7, _, by decide +kernel, rfl, rfl, by decide, tb_5 (List.mem_of_getElem? (i := 196) (by decide +kernel)) rfl⟩, by decide, rfl⟩
theorem dX11_undo_46 : Ins mX11_undo 46 (.bipush 10) 2 48 := ⟨by decide +kernel, rfl⟩
theorem dX11_undo_48 : Ins mX11_undo 48 (.iload_n 2) 1 49 := ⟨by decide +kernel, rfl⟩
theorem dX11_undo_49 : Ins mX11_undo 49 (.iadd) 1 50 := ⟨by decide +kernel, rfl⟩
theorem dX11_undo_50 : Ins mX11_undo 50 (.aload_n 0) 1 51 := ⟨by decide +kernel, rfl⟩
theorem dX11_undo_51 : GgR mX11_undo 51 54 10 0 := ⟨0, rfl, ⟨7, _, by decide +kernel, rfl, rfl, by decide, tb_5 (List.mem_of_getElem? (i := 196) (by decide +kernel)) rfl⟩, by decide, rfl⟩
theorem dX11_undo_54 : Ins mX11_undo 54 (.iload_n 1) 1 55 := ⟨by decide +kernel, rfl⟩
theorem dX11_undo_55 : Ins mX11_undo 55 (.iconst 2) 1 56 := ⟨by decide +kernel, rfl⟩
theorem dX11_undo_56 : Ins mX11_undo 56 (.iadd) 1 57 := ⟨by decide +kernel, rfl⟩
theorem dX11_undo_57 : Ins mX11_undo 57 (.iload_n 2) 1 58 := ⟨by decide +kernel, rfl⟩
theorem dX11_undo_58 : Ins mX11_undo 58 (.iadd) 1 59 := ⟨by decide +kernel, rfl⟩
theorem dX11_undo_59 : Ins mX11_undo 59 (.iaload) 1 60 := ⟨by decide +kernel, rfl⟩
theorem dX11_undo_60 : Ins mX11_undo 60 (.iastore) 1 61 := ⟨by decide +kernel, rfl⟩
theorem dX11_undo_61 : Ins mX11_undo 61 (.iinc 2 1) 3 64 := ⟨by decide +kernel, rfl⟩
theorem dX11_undo_64 : Ins mX11_undo 64 (.goto (-27)) 3 67 := ⟨by decide +kernel, rfl⟩
theorem dX11_undo_67 : Ins mX11_undo 67 (.iconst 0) 1 68 := ⟨by decide +kernel, rfl⟩
theorem dX11_undo_68 : Ins mX11_undo 68 (.istore_n 2) 1 69 := ⟨by decide +kernel, rfl⟩
theorem dX11_undo_69 : Ins mX11_undo 69 (.iload_n 2) 1 70 := ⟨by decide +kernel, rfl⟩
theorem dX11_undo_70 : Ins mX11_undo 70 (.aload_n 0) 1 71 := ⟨by decide +kernel, rfl⟩
theorem dX11_undo_71 : GgR mX11_undo 71 74 10 0 := ⟨0, rfl, ⟨7, _, by decide +kernel, rfl, rfl, by decide, tb_5 (List.mem_of_getElem? (i := 196) (by decide +kernel)) rfl⟩, by decide, rfl⟩
theorem dX11_undo_74 : Ins mX11_undo 74 (.iconst 0) 1 75 := ⟨by decide +kernel, rfl⟩
theorem dX11_undo_75 : Ins mX11_undo 75 (.iaload) 1 76 := ⟨by decide +kernel, rfl⟩
theorem dX11_undo_76 : Ins mX11_undo 76 (.if_icmp .ge 80) 3 79 := ⟨by decide +kernel, rfl⟩
theorem dX11_undo_79 : Ins mX11_undo 79 (.aload_n 0) 1 80 := ⟨by decide +kernel, rfl⟩
theorem dX11_undo_80 : Ins mX11_undo 80 (.iload_n 2) 1 81 := ⟨by decide +kernel, rfl⟩
theorem dX11_undo_81 : Ins mX11_undo 81 (.iconst 0) 1 82 := ⟨by decide +kernel, rfl⟩
theorem dX11_undo_82 : Ins mX11_undo 82 (.iload_n 2) 1 83 := ⟨by decide +kernel, rfl⟩
theorem dX11_undo_83 : Ins mX11_undo 83 (.aload_n 0) 1 84 := ⟨by decide +kernel, rfl⟩
theorem dX11_undo_84 : GgR mX11_undo 84 87 10 0 := ⟨0, rfl, ⟨7, _, by decide +kernel, rfl, rfl, by decide, tb_5 (List.mem_of_getElem? (i := 196) (by decide +kernel)) rfl⟩, by decide, rfl⟩
theorem dX11_undo_87 : Ins mX11_undo 87 (.iload_n 1) 1 88 := ⟨by decide +kernel, rfl⟩
theorem dX11_undo_88 : Ins mX11_undo 88 (.iaload) 1 89 := ⟨by decide +kernel, rfl⟩
theorem dX11_undo_89 : Ins mX11_undo 89 (.if_icmp .ge 19) 3 92 := ⟨by decide +kernel, rfl⟩
theorem dX11_undo_92 : Ins mX11_undo 92 (.aload_n 0) 1 93 := ⟨by decide +kernel, rfl⟩
theorem dX11_undo_93 : GgR mX11_undo 93 96 10 0 := ⟨0, rfl, ⟨7, _, by decide +kernel, rfl, rfl, by decide, tb_5 (List.mem_of_getElem? (i := 196) (by decide +kernel)) rfl⟩, by decide, rfl⟩
theorem dX11_undo_96 : Ins mX11_undo 96 (.iload_n 1) 1 97 := ⟨by decide +kernel, rfl⟩
theorem dX11_undo_97 : Ins mX11_undo 97 (.bipush 7) 2 99 := ⟨by decide +kernel, rfl⟩
theorem dX11_undo_99 : Ins mX11_undo 99 (.iadd) 1 100 := ⟨by decide +kernel, rfl⟩
theorem dX11_undo_100 : Ins mX11_undo 100 (.iconst 2) 1 101 := ⟨by decide +kernel, rfl⟩
theorem dX11_undo_101 : Ins mX11_undo 101 (.iload_n 2) 1 102 := ⟨by decide +kernel, rfl⟩
theorem dX11_undo_102 : Ins mX11_undo 102 (.imul) 1 103 := ⟨by decide +kernel, rfl⟩
theorem dX11_undo_103 : Ins mX11_undo 103 (.iadd) 1 104 := ⟨by decide +kernel, rfl⟩
theorem dX11_undo_104 : Ins mX11_undo 104 (.iaload) 1 105 := ⟨by decide +kernel, rfl⟩
theorem dX11_undo_105 : Ins mX11_undo 105 (.goto 9) 3 108 := ⟨by decide +kernel, rfl⟩
theorem dX11_undo_108 : Ins mX11_undo 108 (.aload_n 0) 1 109 := ⟨by decide +kernel, rfl⟩
theorem dX11_undo_109 : Ins mX11_undo 109 (.iload_n 2) 1 110 := ⟨by decide +kernel, rfl⟩
theorem dX11_undo_110 : Ins mX11_undo 110 (.iconst 3) 1 111 := ⟨by decide +kernel, rfl⟩
theorem dX11_undo_111 : CalV mX11_undo 111 114 mX11_get := ⟨71, by decide +kernel, rfl, tb_6 (List.mem_of_getElem? (i := 233) (by decide +kernel)) rfl, meX11_get⟩
theorem dX11_undo_114 : CalV mX11_undo 114 117 mX11_put := ⟨85, by decide +kernel, rfl, tb_6 (List.mem_of_getElem? (i := 53) (by decide +kernel)) rfl, meX11_put⟩
theorem dX11_undo_117 : Ins mX11_undo 117 (.aload_n 0) 1 118 := ⟨by decide +kernel, rfl⟩
theorem dX11_undo_118 : Ins mX11_undo 118 (.iload_n 2) 1 119 := ⟨by decide +kernel, rfl⟩
theorem dX11_undo_119 : Ins mX11_undo 119 (.iconst 1) 1 120 := ⟨by decide +kernel, rfl⟩
theorem dX11_undo_120 : Ins mX11_undo 120 (.iload_n 2) 1 121 := ⟨by decide +kernel, rfl⟩
theorem dX11_undo_121 : Ins mX11_undo 121 (.aload_n 0) 1 122 := ⟨by decide +kernel, rfl⟩
theorem dX11_undo_122 : GgR mX11_undo 122 125 10 0 := ⟨0, rfl, ⟨7, _, by decide +kernel, rfl, rfl, by decide, tb_5 (List.mem_of_getElem? (i := 196) (by decide +kernel)) rfl⟩, by decide, rfl⟩
theorem dX11_undo_125 : Ins mX11_undo 125 (.iload_n 1) 1 126 := ⟨by decide +kernel, rfl⟩
theorem dX11_undo_126 : Ins mX11_undo 126 (.iaload) 1 127 := ⟨by decide +kernel, rfl⟩
theorem dX11_undo_127 : Ins mX11_undo 127 (.if_icmp .ge 19) 3 130 := ⟨by decide +kernel, rfl⟩
theorem dX11_undo_130 : Ins mX11_undo 130 (.aload_n 0) 1 131 := ⟨by decide +kernel, rfl⟩
theorem dX11_undo_131 : GgR mX11_undo 131 134 10 0 := ⟨0, rfl, ⟨7, _, by decide +kernel, rfl, rfl, by decide, tb_5 (List.mem_of_getElem? (i := 196) (by decide +kernel)) rfl⟩, by decide, rfl⟩
theorem dX11_undo_134 : Ins mX11_undo 134 (.iload_n 1) 1 135 := ⟨by decide +kernel, rfl⟩
theorem dX11_undo_135 : Ins mX11_undo 135 (.bipush 8) 2 137 := ⟨by decide +kernel, rfl⟩
theorem dX11_undo_137 : Ins mX11_undo 137 (.iadd) 1 138 := ⟨by decide +kernel, rfl⟩
theorem dX11_undo_138 : Ins mX11_undo 138 (.iconst 2) 1 139 := ⟨by decide +kernel, rfl⟩
theorem dX11_undo_139 : Ins mX11_undo 139 (.iload_n 2) 1 140 := ⟨by decide +kernel, rfl⟩
theorem dX11_undo_140 : Ins mX11_undo 140 (.imul) 1 141 := ⟨by decide +kernel, rfl⟩
theorem dX11_undo_141 : Ins mX11_undo 141 (.iadd) 1 142 := ⟨by decide +kernel, rfl⟩
theorem dX11_undo_142 : Ins mX11_undo 142 (.iaload) 1 143 := ⟨by decide +kernel, rfl⟩
theorem dX11_undo_143 : Ins mX11_undo 143 (.goto 4) 3 146 := ⟨by decide +kernel, rfl⟩
theorem dX11_undo_146 : Ins mX11_undo 146 (.iconst 0) 1 147 := ⟨by decide +kernel, rfl⟩
theorem dX11_undo_147 : CalV mX11_undo 147 150 mX11_put := ⟨85, by decide +kernel, rfl, tb_6 (List.mem_of_getElem? (i := 53) (by decide +kernel)) rfl, meX11_put⟩
theorem dX11_undo_150 : Ins mX11_undo 150 (.iinc 2 1) 3 153 := ⟨by decide +kernel, rfl⟩
theorem dX11_undo_153 : Ins mX11_undo 153 (.goto (-84)) 3 156 := ⟨by decide +kernel, rfl⟩
theorem dX11_undo_156 : Ins mX11_undo 156 (.iconst 0) 1 157 := ⟨by decide +kernel, rfl⟩
theorem dX11_undo_157 : Ins mX11_undo 157 (.istore_n 2) 1 158 := ⟨by decide +kernel, rfl⟩
theorem dX11_undo_158 : Ins mX11_undo 158 (.iload_n 2) 1 159 := ⟨by decide +kernel, rfl⟩
theorem dX11_undo_159 : Ins mX11_undo 159 (.aload_n 0) 1 160 := ⟨by decide +kernel, rfl⟩
theorem dX11_undo_160 : GgR mX11_undo 160 163 10 0 := ⟨0, rfl, ⟨7, _, by decide +kernel, rfl, rfl, by decide, tb_5 (List.mem_of_getElem? (i := 196) (by decide +kernel)) rfl⟩, by decide, rfl⟩
theorem dX11_undo_163 : Ins mX11_undo 163 (.iconst 1) 1 164 := ⟨by decide +kernel, rfl⟩
theorem dX11_undo_164 : Ins mX11_undo 164 (.iaload) 1 165 := ⟨by decide +kernel, rfl⟩
theorem dX11_undo_165 : Ins mX11_undo 165 (.if_icmp .ge 79) 3 168 := ⟨by decide +kernel, rfl⟩
theorem dX11_undo_168 : Ins mX11_undo 168 (.aload_n 0) 1 169 := ⟨by decide +kernel, rfl⟩
theorem dX11_undo_169 : Ins mX11_undo 169 (.iload_n 2) 1 170 := ⟨by decide +kernel, rfl⟩
theorem dX11_undo_170 : Ins mX11_undo 170 (.iconst 0) 1 171 := ⟨by decide +kernel, rfl⟩
theorem dX11_undo_171 : Ins mX11_undo 171 (.iload_n 2) 1 172 := ⟨by decide +kernel, rfl⟩
theorem dX11_undo_172 : Ins mX11_undo 172 (.aload_n 0) 1 173 := ⟨by decide +kernel, rfl⟩
theorem dX11_undo_173 : GgR mX11_undo 173 176 10 0 := ⟨0, rfl, ⟨7, _, by decide +kernel, rfl, rfl, by decide, tb_5 (List.mem_of_getElem? (i := 196) (by decide +kernel)) rfl⟩, by decide, rfl⟩
theorem dX11_undo_176 : Ins mX11_undo 176 (.iload_n 1) 1 177 := ⟨by decide +kernel, rfl⟩
theorem dX11_undo_177 : Ins mX11_undo 177 (.iconst 1) 1 178 := ⟨by decide +kernel, rfl⟩
theorem dX11_undo_178 : Ins mX11_undo 178 (.iadd) 1 179 := ⟨by decide +kernel, rfl⟩
theorem dX11_undo_179 : Ins mX11_undo 179 (.iaload) 1 180 := ⟨by decide +kernel, rfl⟩
theorem dX11_undo_180 : Ins mX11_undo 180 (.if_icmp .ge 19) 3 183 := ⟨by decide +kernel, rfl⟩
theorem dX11_undo_183 : Ins mX11_undo 183 (.aload_n 0) 1 184 := ⟨by decide +kernel, rfl⟩
theorem dX11_undo_184 : GgR mX11_undo 184 187 10 0 := ⟨0, rfl, ⟨7, _, by decide +kernel, rfl, rfl, by decide, tb_5 (List.mem_of_getElem? (i := 196) (by decide +kernel)) rfl⟩, by decide, rfl⟩
theorem dX11_undo_187 : Ins mX11_undo 187 (.iload_n 1) 1 188 := ⟨by decide +kernel, rfl⟩
theorem dX11_undo_188 : Ins mX11_undo 188 (.bipush 23) 2 190 := ⟨by decide +kernel, rfl⟩
theorem dX11_undo_190 : Ins mX11_undo 190 (.iadd) 1 191 := ⟨by decide +kernel, rfl⟩
theorem dX11_undo_191 : Ins mX11_undo 191 (.iconst 2) 1 192 := ⟨by decide +kernel, rfl⟩
theorem dX11_undo_192 : Ins mX11_undo 192 (.iload_n 2) 1 193 := ⟨by decide +kernel, rfl⟩
theorem dX11_undo_193 : Ins mX11_undo 193 (.imul) 1 194 := ⟨by decide +kernel, rfl⟩
theorem dX11_undo_194 : Ins mX11_undo 194 (.iadd) 1 195 := ⟨by decide +kernel, rfl⟩
theorem dX11_undo_195 : Ins mX11_undo 195 (.iaload) 1 196 := ⟨by decide +kernel, rfl⟩
theorem dX11_undo_196 : Ins mX11_undo 196 (.goto 4) 3 199 := ⟨by decide +kernel, rfl⟩
theorem dX11_undo_199 : Ins mX11_undo 199 (.iconst 0) 1 200 := ⟨by decide +kernel, rfl⟩
theorem dX11_undo_200 : CalV mX11_undo 200 203 mX11_lay := ⟨89, by decide +kernel, rfl, tb_6 (List.mem_of_getElem? (i := 61) (by decide +kernel)) rfl, meX11_lay⟩
theorem dX11_undo_203 : Ins mX11_undo 203 (.aload_n 0) 1 204 := ⟨by decide +kernel, rfl⟩
theorem dX11_undo_204 : Ins mX11_undo 204 (.iload_n 2) 1 205 := ⟨by decide +kernel, rfl⟩
theorem dX11_undo_205 : Ins mX11_undo 205 (.iconst 1) 1 206 := ⟨by decide +kernel, rfl⟩
theorem dX11_undo_206 : Ins mX11_undo 206 (.iload_n 2) 1 207 := ⟨by decide +kernel, rfl⟩
theorem dX11_undo_207 : Ins mX11_undo 207 (.aload_n 0) 1 208 := ⟨by decide +kernel, rfl⟩
theorem dX11_undo_208 : GgR mX11_undo 208 211 10 0 := ⟨0, rfl, ⟨7, _, by decide +kernel, rfl, rfl, by decide, tb_5 (List.mem_of_getElem? (i := 196) (by decide +kernel)) rfl⟩, by decide, rfl⟩
theorem dX11_undo_211 : Ins mX11_undo 211 (.iload_n 1) 1 212 := ⟨by decide +kernel, rfl⟩
theorem dX11_undo_212 : Ins mX11_undo 212 (.iconst 1) 1 213 := ⟨by decide +kernel, rfl⟩
theorem dX11_undo_213 : Ins mX11_undo 213 (.iadd) 1 214 := ⟨by decide +kernel, rfl⟩
theorem dX11_undo_214 : Ins mX11_undo 214 (.iaload) 1 215 := ⟨by decide +kernel, rfl⟩
theorem dX11_undo_215 : Ins mX11_undo 215 (.if_icmp .ge 19) 3 218 := ⟨by decide +kernel, rfl⟩
theorem dX11_undo_218 : Ins mX11_undo 218 (.aload_n 0) 1 219 := ⟨by decide +kernel, rfl⟩
theorem dX11_undo_219 : GgR mX11_undo 219 222 10 0 := ⟨0, rfl, ⟨7, _, by decide +kernel, rfl, rfl, by decide, tb_5 (List.mem_of_getElem? (i := 196) (by decide +kernel)) rfl⟩, by decide, rfl⟩
theorem dX11_undo_222 : Ins mX11_undo 222 (.iload_n 1) 1 223 := ⟨by decide +kernel, rfl⟩
theorem dX11_undo_223 : Ins mX11_undo 223 (.bipush 24) 2 225 := ⟨by decide +kernel, rfl⟩
theorem dX11_undo_225 : Ins mX11_undo 225 (.iadd) 1 226 := ⟨by decide +kernel, rfl⟩
theorem dX11_undo_226 : Ins mX11_undo 226 (.iconst 2) 1 227 := ⟨by decide +kernel, rfl⟩
theorem dX11_undo_227 : Ins mX11_undo 227 (.iload_n 2) 1 228 := ⟨by decide +kernel, rfl⟩
theorem dX11_undo_228 : Ins mX11_undo 228 (.imul) 1 229 := ⟨by decide +kernel, rfl⟩
theorem dX11_undo_229 : Ins mX11_undo 229 (.iadd) 1 230 := ⟨by decide +kernel, rfl⟩
theorem dX11_undo_230 : Ins mX11_undo 230 (.iaload) 1 231 := ⟨by decide +kernel, rfl⟩
theorem dX11_undo_231 : Ins mX11_undo 231 (.goto 4) 3 234 := ⟨by decide +kernel, rfl⟩
theorem dX11_undo_234 : Ins mX11_undo 234 (.iconst (-1)) 1 235 := ⟨by decide +kernel, rfl⟩
theorem dX11_undo_235 : CalV mX11_undo 235 238 mX11_lay := ⟨89, by decide +kernel, rfl, tb_6 (List.mem_of_getElem? (i := 61) (by decide +kernel)) rfl, meX11_lay⟩
theorem dX11_undo_238 : Ins mX11_undo 238 (.iinc 2 1) 3 241 := ⟨by decide +kernel, rfl⟩
theorem dX11_undo_241 : Ins mX11_undo 241 (.goto (-83)) 3 244 := ⟨by decide +kernel, rfl⟩
theorem dX11_undo_244 : Ins mX11_undo 244 (.aload_n 0) 1 245 := ⟨by decide +kernel, rfl⟩
theorem dX11_undo_245 : GgR mX11_undo 245 248 10 0 := ⟨0, rfl, ⟨7, _, by decide +kernel, rfl, rfl, by decide, tb_5 (List.mem_of_getElem? (i := 196) (by decide +kernel)) rfl⟩, by decide, rfl⟩
theorem dX11_undo_248 : Ins mX11_undo 248 (.iconst 4) 1 249 := ⟨by decide +kernel, rfl⟩
theorem dX11_undo_249 : Ins mX11_undo 249 (.iaload) 1 250 := ⟨by decide +kernel, rfl⟩
theorem dX11_undo_250 : Ins mX11_undo 250 (.ireturn) 1 251 := ⟨by decide +kernel, rfl⟩
theorem dX11_canMount_0 : Ins mX11_canMount 0 (.aload_n 0) 1 1 := ⟨by decide +kernel, rfl⟩
theorem dX11_canMount_1 : Ins mX11_canMount 1 (.iload_n 1) 1 2 := ⟨by decide +kernel, rfl⟩
theorem dX11_canMount_2 : CalV mX11_canMount 2 5 mX11_isBoy := ⟨332, by decide +kernel, rfl, tb_7 (List.mem_of_getElem? (i := 5) (by decide +kernel)) rfl, meX11_isBoy⟩
theorem dX11_canMount_5 : Ins mX11_canMount 5 (.ifCond .eq 45) 3 8 := ⟨by decide +kernel, rfl⟩
theorem dX11_canMount_8 : Ins mX11_canMount 8 (.aload_n 0) 1 9 := ⟨by decide +kernel, rfl⟩
theorem dX11_canMount_9 : Ins mX11_canMount 9 (.iload_n 2) 1 10 := ⟨by decide +kernel, rfl⟩
theorem dX11_canMount_10 : CalV mX11_canMount 10 13 mX11_isHorse := ⟨335, by decide +kernel, rfl, tb_7 (List.mem_of_getElem? (i := 9) (by decide +kernel)) rfl, meX11_isHorse⟩
theorem dX11_canMount_13 : Ins mX11_canMount 13 (.ifCond .eq 37) 3 16 := ⟨by decide +kernel, rfl⟩
theorem dX11_canMount_16 : Ins mX11_canMount 16 (.aload_n 0) 1 17 := ⟨by decide +kernel, rfl⟩
theorem dX11_canMount_17 : Ins mX11_canMount 17 (.iload_n 1) 1 18 := ⟨by decide +kernel, rfl⟩
theorem dX11_canMount_18 : Ins mX11_canMount 18 (.iconst 1) 1 19 := ⟨by decide +kernel, rfl⟩
theorem dX11_canMount_19 : CalV mX11_canMount 19 22 mX11_of := ⟨67, by decide +kernel, rfl, tb_7 (List.mem_of_getElem? (i := 13) (by decide +kernel)) rfl, meX11_of⟩
theorem dX11_canMount_22 : Ins mX11_canMount 22 (.iconst (-1)) 1 23 := ⟨by decide +kernel, rfl⟩
theorem dX11_canMount_23 : Ins mX11_canMount 23 (.if_icmp .ne 27) 3 26 := ⟨by decide +kernel, rfl⟩
theorem dX11_canMount_26 : Ins mX11_canMount 26 (.aload_n 0) 1 27 := ⟨by decide +kernel, rfl⟩
theorem dX11_canMount_27 : Ins mX11_canMount 27 (.iload_n 1) 1 28 := ⟨by decide +kernel, rfl⟩
theorem dX11_canMount_28 : Ins mX11_canMount 28 (.iconst 0) 1 29 := ⟨by decide +kernel, rfl⟩
theorem dX11_canMount_29 : CalV mX11_canMount 29 32 mX11_of := ⟨67, by decide +kernel, rfl, tb_7 (List.mem_of_getElem? (i := 13) (by decide +kernel)) rfl, meX11_of⟩
theorem dX11_canMount_32 : Ins mX11_canMount 32 (.bipush 9) 2 34 := ⟨by decide +kernel, rfl⟩
theorem dX11_canMount_34 : Ins mX11_canMount 34 (.if_icmp .ge 16) 3 37 := ⟨by decide +kernel, rfl⟩
theorem dX11_canMount_37 : Ins mX11_canMount 37 (.aload_n 0) 1 38 := ⟨by decide +kernel, rfl⟩
theorem dX11_canMount_38 : Ins mX11_canMount 38 (.iload_n 2) 1 39 := ⟨by decide +kernel, rfl⟩
theorem dX11_canMount_39 : CalV mX11_canMount 39 42 mX11_riderOf := ⟨81, by decide +kernel, rfl, tb_7 (List.mem_of_getElem? (i := 17) (by decide +kernel)) rfl, meX11_riderOf⟩
theorem dX11_canMount_42 : Ins mX11_canMount 42 (.iconst (-1)) 1 43 := ⟨by decide +kernel, rfl⟩
theorem dX11_canMount_43 : Ins mX11_canMount 43 (.if_icmp .ne 7) 3 46 := ⟨by decide +kernel, rfl⟩
theorem dX11_canMount_46 : Ins mX11_canMount 46 (.iconst 1) 1 47 := ⟨by decide +kernel, rfl⟩
theorem dX11_canMount_47 : Ins mX11_canMount 47 (.goto 4) 3 50 := ⟨by decide +kernel, rfl⟩
theorem dX11_canMount_50 : Ins mX11_canMount 50 (.iconst 0) 1 51 := ⟨by decide +kernel, rfl⟩
theorem dX11_canMount_51 : Ins mX11_canMount 51 (.ireturn) 1 52 := ⟨by decide +kernel, rfl⟩
theorem dX11_mount_0 : Ins mX11_mount 0 (.aload_n 0) 1 1 := ⟨by decide +kernel, rfl⟩
theorem dX11_mount_1 : Ins mX11_mount 1 (.iload_n 1) 1 2 := ⟨by decide +kernel, rfl⟩
theorem dX11_mount_2 : Ins mX11_mount 2 (.iload_n 2) 1 3 := ⟨by decide +kernel, rfl⟩
theorem dX11_mount_3 : CalV mX11_mount 3 6 mX11_canMount := ⟨338, by decide +kernel, rfl, tb_7 (List.mem_of_getElem? (i := 1) (by decide +kernel)) rfl, meX11_canMount⟩
theorem dX11_mount_6 : Ins mX11_mount 6 (.ifCond .ne 5) 3 9 := ⟨by decide +kernel, rfl⟩
theorem dX11_mount_9 : Ins mX11_mount 9 (.iconst 0) 1 10 := ⟨by decide +kernel, rfl⟩
theorem dX11_mount_10 : Ins mX11_mount 10 (.ireturn) 1 11 := ⟨by decide +kernel, rfl⟩
theorem dX11_mount_11 : Ins mX11_mount 11 (.aload_n 0) 1 12 := ⟨by decide +kernel, rfl⟩
theorem dX11_mount_12 : CalV mX11_mount 12 15 mX11_keep := ⟨341, by decide +kernel, rfl, tb_7 (List.mem_of_getElem? (i := 21) (by decide +kernel)) rfl, meX11_keep⟩
theorem dX11_mount_15 : Ins mX11_mount 15 (.aload_n 0) 1 16 := ⟨by decide +kernel, rfl⟩
theorem dX11_mount_16 : Ins mX11_mount 16 (.iload_n 1) 1 17 := ⟨by decide +kernel, rfl⟩
theorem dX11_mount_17 : Ins mX11_mount 17 (.iconst 1) 1 18 := ⟨by decide +kernel, rfl⟩
theorem dX11_mount_18 : Ins mX11_mount 18 (.iload_n 2) 1 19 := ⟨by decide +kernel, rfl⟩
theorem dX11_mount_19 : CalV mX11_mount 19 22 mX11_lay := ⟨89, by decide +kernel, rfl, tb_6 (List.mem_of_getElem? (i := 61) (by decide +kernel)) rfl, meX11_lay⟩
theorem dX11_mount_22 : Ins mX11_mount 22 (.iconst 1) 1 23 := ⟨by decide +kernel, rfl⟩
theorem dX11_mount_23 : Ins mX11_mount 23 (.ireturn) 1 24 := ⟨by decide +kernel, rfl⟩
theorem dX11_canGetOff_0 : Ins mX11_canGetOff 0 (.aload_n 0) 1 1 := ⟨by decide +kernel, rfl⟩
theorem dX11_canGetOff_1 : Ins mX11_canGetOff 1 (.iload_n 1) 1 2 := ⟨by decide +kernel, rfl⟩
theorem dX11_canGetOff_2 : CalV mX11_canGetOff 2 5 mX11_isBoy := ⟨332, by decide +kernel, rfl, tb_7 (List.mem_of_getElem? (i := 5) (by decide +kernel)) rfl, meX11_isBoy⟩
theorem dX11_canGetOff_5 : Ins mX11_canGetOff 5 (.ifCond .eq 17) 3 8 := ⟨by decide +kernel, rfl⟩
theorem dX11_canGetOff_8 : Ins mX11_canGetOff 8 (.aload_n 0) 1 9 := ⟨by decide +kernel, rfl⟩
theorem dX11_canGetOff_9 : Ins mX11_canGetOff 9 (.iload_n 1) 1 10 := ⟨by decide +kernel, rfl⟩
theorem dX11_canGetOff_10 : Ins mX11_canGetOff 10 (.iconst 1) 1 11 := ⟨by decide +kernel, rfl⟩
theorem dX11_canGetOff_11 : CalV mX11_canGetOff 11 14 mX11_of := ⟨67, by decide +kernel, rfl, tb_7 (List.mem_of_getElem? (i := 13) (by decide +kernel)) rfl, meX11_of⟩
theorem dX11_canGetOff_14 : Ins mX11_canGetOff 14 (.iconst (-1)) 1 15 := ⟨by decide +kernel, rfl⟩
theorem dX11_canGetOff_15 : Ins mX11_canGetOff 15 (.if_icmp .eq 7) 3 18 := ⟨by decide +kernel, rfl⟩
theorem dX11_canGetOff_18 : Ins mX11_canGetOff 18 (.iconst 1) 1 19 := ⟨by decide +kernel, rfl⟩
theorem dX11_canGetOff_19 : Ins mX11_canGetOff 19 (.goto 4) 3 22 := ⟨by decide +kernel, rfl⟩
theorem dX11_canGetOff_22 : Ins mX11_canGetOff 22 (.iconst 0) 1 23 := ⟨by decide +kernel, rfl⟩
theorem dX11_canGetOff_23 : Ins mX11_canGetOff 23 (.ireturn) 1 24 := ⟨by decide +kernel, rfl⟩
theorem dX11_off_0 : Ins mX11_off 0 (.aload_n 0) 1 1 := ⟨by decide +kernel, rfl⟩
theorem dX11_off_1 : Ins mX11_off 1 (.iload_n 1) 1 2 := ⟨by decide +kernel, rfl⟩
theorem dX11_off_2 : CalV mX11_off 2 5 mX11_canGetOff := ⟨344, by decide +kernel, rfl, tb_7 (List.mem_of_getElem? (i := 29) (by decide +kernel)) rfl, meX11_canGetOff⟩
theorem dX11_off_5 : Ins mX11_off 5 (.ifCond .ne 5) 3 8 := ⟨by decide +kernel, rfl⟩
theorem dX11_off_8 : Ins mX11_off 8 (.iconst (-1)) 1 9 := ⟨by decide +kernel, rfl⟩
theorem dX11_off_9 : Ins mX11_off 9 (.ireturn) 1 10 := ⟨by decide +kernel, rfl⟩
theorem dX11_off_10 : Ins mX11_off 10 (.aload_n 0) 1 11 := ⟨by decide +kernel, rfl⟩
theorem dX11_off_11 : CalV mX11_off 11 14 mX11_keep := ⟨341, by decide +kernel, rfl, tb_7 (List.mem_of_getElem? (i := 21) (by decide +kernel)) rfl, meX11_keep⟩
theorem dX11_off_14 : Ins mX11_off 14 (.aload_n 0) 1 15 := ⟨by decide +kernel, rfl⟩
theorem dX11_off_15 : Ins mX11_off 15 (.iload_n 1) 1 16 := ⟨by decide +kernel, rfl⟩
theorem dX11_off_16 : Ins mX11_off 16 (.iconst 1) 1 17 := ⟨by decide +kernel, rfl⟩
theorem dX11_off_17 : CalV mX11_off 17 20 mX11_of := ⟨67, by decide +kernel, rfl, tb_7 (List.mem_of_getElem? (i := 13) (by decide +kernel)) rfl, meX11_of⟩
theorem dX11_off_20 : Ins mX11_off 20 (.istore_n 2) 1 21 := ⟨by decide +kernel, rfl⟩
theorem dX11_off_21 : Ins mX11_off 21 (.aload_n 0) 1 22 := ⟨by decide +kernel, rfl⟩
theorem dX11_off_22 : Ins mX11_off 22 (.iload_n 1) 1 23 := ⟨by decide +kernel, rfl⟩
theorem dX11_off_23 : Ins mX11_off 23 (.iconst 1) 1 24 := ⟨by decide +kernel, rfl⟩
theorem dX11_off_24 : Ins mX11_off 24 (.iconst (-1)) 1 25 := ⟨by decide +kernel, rfl⟩
theorem dX11_off_25 : CalV mX11_off 25 28 mX11_lay := ⟨89, by decide +kernel, rfl, tb_6 (List.mem_of_getElem? (i := 61) (by decide +kernel)) rfl, meX11_lay⟩
theorem dX11_off_28 : Ins mX11_off 28 (.iload_n 2) 1 29 := ⟨by decide +kernel, rfl⟩
theorem dX11_off_29 : Ins mX11_off 29 (.ireturn) 1 30 := ⟨by decide +kernel, rfl⟩
theorem dX11_canOil_0 : Ins mX11_canOil 0 (.aload_n 0) 1 1 := ⟨by decide +kernel, rfl⟩
theorem dX11_canOil_1 : Ins mX11_canOil 1 (.iload_n 1) 1 2 := ⟨by decide +kernel, rfl⟩
theorem dX11_canOil_2 : CalV mX11_canOil 2 5 mX11_isHorse := ⟨335, by decide +kernel, rfl, tb_7 (List.mem_of_getElem? (i := 9) (by decide +kernel)) rfl, meX11_isHorse⟩
theorem dX11_canOil_5 : Ins mX11_canOil 5 (.ifCond .eq 17) 3 8 := ⟨by decide +kernel, rfl⟩
theorem dX11_canOil_8 : Ins mX11_canOil 8 (.aload_n 0) 1 9 := ⟨by decide +kernel, rfl⟩
theorem dX11_canOil_9 : GgR mX11_canOil 9 12 10 0 := ⟨0, rfl, ⟨7, _, by decide +kernel, rfl, rfl, by decide, tb_5 (List.mem_of_getElem? (i := 196) (by decide +kernel)) rfl⟩, by decide, rfl⟩
theorem dX11_canOil_12 : Ins mX11_canOil 12 (.bipush 12) 2 14 := ⟨by decide +kernel, rfl⟩
theorem dX11_canOil_14 : Ins mX11_canOil 14 (.iaload) 1 15 := ⟨by decide +kernel, rfl⟩
theorem dX11_canOil_15 : Ins mX11_canOil 15 (.ifCond .le 7) 3 18 := ⟨by decide +kernel, rfl⟩
theorem dX11_canOil_18 : Ins mX11_canOil 18 (.iconst 1) 1 19 := ⟨by decide +kernel, rfl⟩
theorem dX11_canOil_19 : Ins mX11_canOil 19 (.goto 4) 3 22 := ⟨by decide +kernel, rfl⟩
theorem dX11_canOil_22 : Ins mX11_canOil 22 (.iconst 0) 1 23 := ⟨by decide +kernel, rfl⟩
theorem dX11_canOil_23 : Ins mX11_canOil 23 (.ireturn) 1 24 := ⟨by decide +kernel, rfl⟩
theorem dX11_oilNow_0 : Ins mX11_oilNow 0 (.aload_n 0) 1 1 := ⟨by decide +kernel, rfl⟩
theorem dX11_oilNow_1 : GgR mX11_oilNow 1 4 10 0 := ⟨0, rfl, ⟨7, _, by decide +kernel, rfl, rfl, by decide, tb_5 (List.mem_of_getElem? (i := 196) (by decide +kernel)) rfl⟩, by decide, rfl⟩
theorem dX11_oilNow_4 : Ins mX11_oilNow 4 (.bipush 12) 2 6 := ⟨by decide +kernel, rfl⟩
theorem dX11_oilNow_6 : Ins mX11_oilNow 6 (.dup2) 1 7 := ⟨by decide +kernel, rfl⟩
theorem dX11_oilNow_7 : Ins mX11_oilNow 7 (.iaload) 1 8 := ⟨by decide +kernel, rfl⟩
theorem dX11_oilNow_8 : Ins mX11_oilNow 8 (.iconst 1) 1 9 := ⟨by decide +kernel, rfl⟩
theorem dX11_oilNow_9 : Ins mX11_oilNow 9 (.isub) 1 10 := ⟨by decide +kernel, rfl⟩
theorem dX11_oilNow_10 : Ins mX11_oilNow 10 (.iastore) 1 11 := ⟨by decide +kernel, rfl⟩
theorem dX11_oilNow_11 : Ins mX11_oilNow 11 (.aload_n 0) 1 12 := ⟨by decide +kernel, rfl⟩
theorem dX11_oilNow_12 : Ins mX11_oilNow 12 (.iload_n 1) 1 13 := ⟨by decide +kernel, rfl⟩
theorem dX11_oilNow_13 : Ins mX11_oilNow 13 (.iconst 1) 1 14 := ⟨by decide +kernel, rfl⟩
theorem dX11_oilNow_14 : Ins mX11_oilNow 14 (.iconst 0) 1 15 := ⟨by decide +kernel, rfl⟩
theorem dX11_oilNow_15 : CalV mX11_oilNow 15 18 mX11_put := ⟨85, by decide +kernel, rfl, tb_6 (List.mem_of_getElem? (i := 53) (by decide +kernel)) rfl, meX11_put⟩
theorem dX11_oilNow_18 : Ins mX11_oilNow 18 (.return_) 1 19 := ⟨by decide +kernel, rfl⟩
theorem dX11_oil_0 : Ins mX11_oil 0 (.aload_n 0) 1 1 := ⟨by decide +kernel, rfl⟩
theorem dX11_oil_1 : Ins mX11_oil 1 (.iload_n 1) 1 2 := ⟨by decide +kernel, rfl⟩
theorem dX11_oil_2 : CalV mX11_oil 2 5 mX11_canOil := ⟨347, by decide +kernel, rfl, tb_7 (List.mem_of_getElem? (i := 37) (by decide +kernel)) rfl, meX11_canOil⟩
theorem dX11_oil_5 : Ins mX11_oil 5 (.ifCond .ne 5) 3 8 := ⟨by decide +kernel, rfl⟩
theorem dX11_oil_8 : Ins mX11_oil 8 (.iconst (-1)) 1 9 := ⟨by decide +kernel, rfl⟩
theorem dX11_oil_9 : Ins mX11_oil 9 (.ireturn) 1 10 := ⟨by decide +kernel, rfl⟩
theorem dX11_oil_10 : Ins mX11_oil 10 (.aload_n 0) 1 11 := ⟨by decide +kernel, rfl⟩
theorem dX11_oil_11 : CalV mX11_oil 11 14 mX11_keep := ⟨341, by decide +kernel, rfl, tb_7 (List.mem_of_getElem? (i := 21) (by decide +kernel)) rfl, meX11_keep⟩
theorem dX11_oil_14 : Ins mX11_oil 14 (.aload_n 0) 1 15 := ⟨by decide +kernel, rfl⟩
theorem dX11_oil_15 : Ins mX11_oil 15 (.iload_n 1) 1 16 := ⟨by decide +kernel, rfl⟩
theorem dX11_oil_16 : CalV mX11_oil 16 19 mX11_oilNow := ⟨350, by decide +kernel, rfl, tb_7 (List.mem_of_getElem? (i := 41) (by decide +kernel)) rfl, meX11_oilNow⟩
theorem dX11_oil_19 : Ins mX11_oil 19 (.aload_n 0) 1 20 := ⟨by decide +kernel, rfl⟩
theorem dX11_oil_20 : GgR mX11_oil 20 23 10 0 := ⟨0, rfl, ⟨7, _, by decide +kernel, rfl, rfl, by decide, tb_5 (List.mem_of_getElem? (i := 196) (by decide +kernel)) rfl⟩, by decide, rfl⟩
theorem dX11_oil_23 : Ins mX11_oil 23 (.bipush 12) 2 25 := ⟨by decide +kernel, rfl⟩
theorem dX11_oil_25 : Ins mX11_oil 25 (.iaload) 1 26 := ⟨by decide +kernel, rfl⟩
theorem dX11_oil_26 : Ins mX11_oil 26 (.ireturn) 1 27 := ⟨by decide +kernel, rfl⟩
theorem dX11_nail_0 : Ins mX11_nail 0 (.aload_n 0) 1 1 := ⟨by decide +kernel, rfl⟩
theorem dX11_nail_1 : Ins mX11_nail 1 (.iload_n 1) 1 2 := ⟨by decide +kernel, rfl⟩
theorem dX11_nail_2 : CalV mX11_nail 2 5 mX11_isHorse := ⟨335, by decide +kernel, rfl, tb_7 (List.mem_of_getElem? (i := 9) (by decide +kernel)) rfl, meX11_isHorse⟩
theorem dX11_nail_5 : Ins mX11_nail 5 (.ifCond .eq 29) 3 8 := ⟨by decide +kernel, rfl⟩
theorem dX11_nail_8 : Ins mX11_nail 8 (.iload_n 2) 1 9 := ⟨by decide +kernel, rfl⟩
theorem dX11_nail_9 : Ins mX11_nail 9 (.iconst 0) 1 10 := ⟨by decide +kernel, rfl⟩
theorem dX11_nail_10 : Ins mX11_nail 10 (.aload_n 0) 1 11 := ⟨by decide +kernel, rfl⟩
theorem dX11_nail_11 : Ins mX11_nail 11 (.iload_n 1) 1 12 := ⟨by decide +kernel, rfl⟩
theorem dX11_nail_12 : Ins mX11_nail 12 (.iconst 2) 1 13 := ⟨by decide +kernel, rfl⟩
theorem dX11_nail_13 : CalV mX11_nail 13 16 mX11_get := ⟨71, by decide +kernel, rfl, tb_6 (List.mem_of_getElem? (i := 233) (by decide +kernel)) rfl, meX11_get⟩
theorem dX11_nail_16 : Ins mX11_nail 16 (.iconst 1) 1 17 := ⟨by decide +kernel, rfl⟩
theorem dX11_nail_17 : Ins mX11_nail 17 (.isub) 1 18 := ⟨by decide +kernel, rfl⟩
theorem dX11_nail_18 : CalS mX11_nail 18 21 mX11_isIn := ⟨63, by decide +kernel, rfl, Or.inl (tb_6 (List.mem_of_getElem? (i := 50) (by decide +kernel)) rfl), meX11_isIn⟩
theorem dX11_nail_21 : Ins mX11_nail 21 (.ifCond .eq 13) 3 24 := ⟨by decide +kernel, rfl⟩
theorem dX11_nail_24 : Ins mX11_nail 24 (.aload_n 0) 1 25 := ⟨by decide +kernel, rfl⟩
theorem dX11_nail_25 : Ins mX11_nail 25 (.iload_n 1) 1 26 := ⟨by decide +kernel, rfl⟩
theorem dX11_nail_26 : Ins mX11_nail 26 (.iconst 0) 1 27 := ⟨by decide +kernel, rfl⟩
theorem dX11_nail_27 : CalV mX11_nail 27 30 mX11_get := ⟨71, by decide +kernel, rfl, tb_6 (List.mem_of_getElem? (i := 233) (by decide +kernel)) rfl, meX11_get⟩
theorem dX11_nail_30 : Ins mX11_nail 30 (.iload_n 2) 1 31 := ⟨by decide +kernel, rfl⟩
theorem dX11_nail_31 : Ins mX11_nail 31 (.if_icmp .ne 5) 3 34 := ⟨by decide +kernel, rfl⟩
theorem dX11_nail_34 : Ins mX11_nail 34 (.iconst 0) 1 35 := ⟨by decide +kernel, rfl⟩
theorem dX11_nail_35 : Ins mX11_nail 35 (.ireturn) 1 36 := ⟨by decide +kernel, rfl⟩
theorem dX11_nail_36 : Ins mX11_nail 36 (.aload_n 0) 1 37 := ⟨by decide +kernel, rfl⟩
theorem dX11_nail_37 : CalV mX11_nail 37 40 mX11_keep := ⟨341, by decide +kernel, rfl, tb_7 (List.mem_of_getElem? (i := 21) (by decide +kernel)) rfl, meX11_keep⟩
theorem dX11_nail_40 : Ins mX11_nail 40 (.aload_n 0) 1 41 := ⟨by decide +kernel, rfl⟩
theorem dX11_nail_41 : Ins mX11_nail 41 (.iload_n 1) 1 42 := ⟨by decide +kernel, rfl⟩
theorem dX11_nail_42 : Ins mX11_nail 42 (.iconst 0) 1 43 := ⟨by decide +kernel, rfl⟩
theorem dX11_nail_43 : Ins mX11_nail 43 (.iload_n 2) 1 44 := ⟨by decide +kernel, rfl⟩
theorem dX11_nail_44 : CalV mX11_nail 44 47 mX11_put := ⟨85, by decide +kernel, rfl, tb_6 (List.mem_of_getElem? (i := 53) (by decide +kernel)) rfl, meX11_put⟩
theorem dX11_nail_47 : Ins mX11_nail 47 (.iconst 1) 1 48 := ⟨by decide +kernel, rfl⟩
theorem dX11_nail_48 : Ins mX11_nail 48 (.ireturn) 1 49 := ⟨by decide +kernel, rfl⟩
theorem dX11_arePassed_0 : Ins mX11_arePassed 0 (.aload_n 0) 1 1 := ⟨by decide +kernel, rfl⟩
theorem dX11_arePassed_1 : Ins mX11_arePassed 1 (.iconst 0) 1 2 := ⟨by decide +kernel, rfl⟩
theorem dX11_arePassed_2 : GpI mX11_arePassed 2 5 10 24 := ⟨24, rfl, ⟨311, _, by decide +kernel, rfl, rfl, by decide, tb_5 (List.mem_of_getElem? (i := 220) (by decide +kernel)) rfl, by decide +kernel, Or.inl rfl⟩, by decide, rfl⟩
theorem dX11_arePassed_5 : Ins mX11_arePassed 5 (.iconst 0) 1 6 := ⟨by decide +kernel, rfl⟩
theorem dX11_arePassed_6 : Ins mX11_arePassed 6 (.istore_n 2) 1 7 := ⟨by decide +kernel, rfl⟩
theorem dX11_arePassed_7 : Ins mX11_arePassed 7 (.iload_n 2) 1 8 := ⟨by decide +kernel, rfl⟩
theorem dX11_arePassed_8 : Ins mX11_arePassed 8 (.iload_n 1) 1 9 := ⟨by decide +kernel, rfl⟩
theorem dX11_arePassed_9 : Ins mX11_arePassed 9 (.if_icmp .ge 32) 3 12 := ⟨by decide +kernel, rfl⟩
theorem dX11_arePassed_12 : Ins mX11_arePassed 12 (.aload_n 0) 1 13 := ⟨by decide +kernel, rfl⟩
theorem dX11_arePassed_13 : GgR mX11_arePassed 13 16 10 0 := ⟨0, rfl, ⟨7, _, by decide +kernel, rfl, rfl, by decide, tb_5 (List.mem_of_getElem? (i := 196) (by decide +kernel)) rfl⟩, by decide, rfl⟩
theorem dX11_arePassed_16 : Ins mX11_arePassed 16 (.bipush 10) 2 18 := ⟨by decide +kernel, rfl⟩
theorem dX11_arePassed_18 : Ins mX11_arePassed 18 (.iaload) 1 19 := ⟨by decide +kernel, rfl⟩
theorem dX11_arePassed_19 : Ins mX11_arePassed 19 (.sipush 9999) 3 22 := ⟨by decide +kernel, rfl⟩
theorem dX11_arePassed_22 : Ins mX11_arePassed 22 (.if_icmp .ne 5) 3 25 := ⟨by decide +kernel, rfl⟩
theorem dX11_arePassed_25 : Ins mX11_arePassed 25 (.iconst 0) 1 26 := ⟨by decide +kernel, rfl⟩
theorem dX11_arePassed_26 : Ins mX11_arePassed 26 (.ireturn) 1 27 := ⟨by decide +kernel, rfl⟩
theorem dX11_arePassed_27 : Ins mX11_arePassed 27 (.aload_n 0) 1 28 := ⟨by decide +kernel, rfl⟩
theorem dX11_arePassed_28 : CalV mX11_arePassed 28 31 mX11_keep := ⟨341, by decide +kernel, rfl, tb_7 (List.mem_of_getElem? (i := 21) (by decide +kernel)) rfl, meX11_keep⟩
theorem dX11_arePassed_31 : Ins mX11_arePassed 31 (.aload_n 0) 1 32 := ⟨by decide +kernel, rfl⟩
theorem dX11_arePassed_32 : CalV mX11_arePassed 32 35 mX11_pass := ⟨353, by decide +kernel, rfl, tb_7 (List.mem_of_getElem? (i := 57) (by decide +kernel)) rfl, meX11_pass⟩
theorem dX11_arePassed_35 : Ins mX11_arePassed 35 (.iinc 2 1) 3 38 := ⟨by decide +kernel, rfl⟩
theorem dX11_arePassed_38 : Ins mX11_arePassed 38 (.goto (-31)) 3 41 := ⟨by decide +kernel, rfl⟩
theorem dX11_arePassed_41 : Ins mX11_arePassed 41 (.iconst 1) 1 42 := ⟨by decide +kernel, rfl⟩
theorem dX11_arePassed_42 : Ins mX11_arePassed 42 (.ireturn) 1 43 := ⟨by decide +kernel, rfl⟩
theorem dX11_minute_0 : Ins mX11_minute 0 (.iload_n 1) 1 1 := ⟨by decide +kernel, rfl⟩
theorem dX11_minute_1 : Ins mX11_minute 1 (.iconst 1) 1 2 := ⟨by decide +kernel, rfl⟩
theorem dX11_minute_2 : Ins mX11_minute 2 (.bipush 60) 2 4 := ⟨by decide +kernel, rfl⟩
theorem dX11_minute_4 : CalS mX11_minute 4 7 mX11_isIn := ⟨63, by decide +kernel, rfl, Or.inl (tb_6 (List.mem_of_getElem? (i := 50) (by decide +kernel)) rfl), meX11_isIn⟩
theorem dX11_minute_7 : Ins mX11_minute 7 (.ifCond .eq 33) 3 10 := ⟨by decide +kernel, rfl⟩
theorem dX11_minute_10 : Ins mX11_minute 10 (.aload_n 0) 1 11 := ⟨by decide +kernel, rfl⟩
theorem dX11_minute_11 : GgR mX11_minute 11 14 10 0 := ⟨0, rfl, ⟨7, _, by decide +kernel, rfl, rfl, by decide, tb_5 (List.mem_of_getElem? (i := 196) (by decide +kernel)) rfl⟩, by decide, rfl⟩
theorem dX11_minute_14 : Ins mX11_minute 14 (.bipush 10) 2 16 := ⟨by decide +kernel, rfl⟩
theorem dX11_minute_16 : Ins mX11_minute 16 (.iaload) 1 17 := ⟨by decide +kernel, rfl⟩
theorem dX11_minute_17 : Ins mX11_minute 17 (.iload_n 1) 1 18 := ⟨by decide +kernel, rfl⟩
theorem dX11_minute_18 : Ins mX11_minute 18 (.iadd) 1 19 := ⟨by decide +kernel, rfl⟩
theorem dX11_minute_19 : Ins mX11_minute 19 (.sipush 9999) 3 22 := ⟨by decide +kernel, rfl⟩
theorem dX11_minute_22 : Ins mX11_minute 22 (.if_icmp .gt 18) 3 25 := ⟨by decide +kernel, rfl⟩
theorem dX11_minute_25 : Ins mX11_minute 25 (.aload_n 0) 1 26 := ⟨by decide +kernel, rfl⟩
theorem dX11_minute_26 : Ins mX11_minute 26 (.iload_n 1) 1 27 := ⟨by decide +kernel, rfl⟩
theorem dX11_minute_27 : CalV mX11_minute 27 30 mX11_arePassed := ⟨356, by decide +kernel, rfl, tb_7 (List.mem_of_getElem? (i := 53) (by decide +kernel)) rfl, meX11_arePassed⟩
theorem dX11_minute_30 : Ins mX11_minute 30 (.ifCond .eq 10) 3 33 := ⟨by decide +kernel, rfl⟩
theorem dX11_minute_33 : Ins mX11_minute 33 (.aload_n 0) 1 34 := ⟨by decide +kernel, rfl⟩
theorem dX11_minute_34 : GgI mX11_minute 34 37 10 24 := ⟨24, rfl, ⟨311, _, by decide +kernel, rfl, rfl, by decide, tb_5 (List.mem_of_getElem? (i := 220) (by decide +kernel)) rfl⟩, by decide, rfl⟩
theorem dX11_minute_37 : Ins mX11_minute 37 (.goto 4) 3 40 := ⟨by decide +kernel, rfl⟩
theorem dX11_minute_40 : Ins mX11_minute 40 (.iconst (-1)) 1 41 := ⟨by decide +kernel, rfl⟩
theorem dX11_minute_41 : Ins mX11_minute 41 (.ireturn) 1 42 := ⟨by decide +kernel, rfl⟩
theorem dX11_isPlayed_0 : Ins mX11_isPlayed 0 (.aload_n 0) 1 1 := ⟨by decide +kernel, rfl⟩
theorem dX11_isPlayed_1 : GgR mX11_isPlayed 1 4 10 2 := ⟨2, rfl, ⟨16, _, by decide +kernel, rfl, rfl, by decide, tb_5 (List.mem_of_getElem? (i := 198) (by decide +kernel)) rfl⟩, by decide, rfl⟩
theorem dX11_isPlayed_4 : Ins mX11_isPlayed 4 (.iload_n 1) 1 5 := ⟨by decide +kernel, rfl⟩
theorem dX11_isPlayed_5 : Ins mX11_isPlayed 5 (.iconst 1) 1 6 := ⟨by decide +kernel, rfl⟩
theorem dX11_isPlayed_6 : Ins mX11_isPlayed 6 (.iadd) 1 7 := ⟨by decide +kernel, rfl⟩
theorem dX11_isPlayed_7 : Ins mX11_isPlayed 7 (.iaload) 1 8 := ⟨by decide +kernel, rfl⟩
theorem dX11_isPlayed_8 : Ins mX11_isPlayed 8 (.istore_n 2) 1 9 := ⟨by decide +kernel, rfl⟩
theorem dX11_isPlayed_9 : Ins mX11_isPlayed 9 (.aload_n 0) 1 10 := ⟨by decide +kernel, rfl⟩
theorem dX11_isPlayed_10 : GgR mX11_isPlayed 10 13 10 2 := ⟨2, rfl, ⟨16, _, by decide +kernel, rfl, rfl, by decide, tb_5 (List.mem_of_getElem? (i := 198) (by decide +kernel)) rfl⟩, by decide, rfl⟩
theorem dX11_isPlayed_13 : Ins mX11_isPlayed 13 (.iload_n 1) 1 14 := ⟨by decide +kernel, rfl⟩
theorem dX11_isPlayed_14 : Ins mX11_isPlayed 14 (.iconst 2) 1 15 := ⟨by decide +kernel, rfl⟩
theorem dX11_isPlayed_15 : Ins mX11_isPlayed 15 (.iadd) 1 16 := ⟨by decide +kernel, rfl⟩
theorem dX11_isPlayed_16 : Ins mX11_isPlayed 16 (.iaload) 1 17 := ⟨by decide +kernel, rfl⟩
theorem dX11_isPlayed_17 : Ins mX11_isPlayed 17 (.istore_n 3) 1 18 := ⟨by decide +kernel, rfl⟩
theorem dX11_isPlayed_18 : Ins mX11_isPlayed 18 (.aload_n 0) 1 19 := ⟨by decide +kernel, rfl⟩
theorem dX11_isPlayed_19 : GgR mX11_isPlayed 19 22 10 2 := ⟨2, rfl, ⟨16, _, by decide +kernel, rfl, rfl, by decide, tb_5 (List.mem_of_getElem? (i := 198) (by decide +kernel)) rfl⟩, by decide, rfl⟩
theorem dX11_isPlayed_22 : Ins mX11_isPlayed 22 (.iload_n 1) 1 23 := ⟨by decide +kernel, rfl⟩
theorem dX11_isPlayed_23 : Ins mX11_isPlayed 23 (.iaload) 1 24 := ⟨by decide +kernel, rfl⟩
theorem dX11_isPlayed_24 : Ins mX11_isPlayed 24 (.tableswitch 131 3 10 #[48, 63, 77, 83, 90, 104, 118, 125]) 48 72 := ⟨by decide +kernel, rfl⟩
theorem dX11_isPlayed_72 : Ins mX11_isPlayed 72 (.aload_n 0) 1 73 := ⟨by decide +kernel, rfl⟩
theorem dX11_isPlayed_73 : Ins mX11_isPlayed 73 (.iload_n 2) 1 74 := ⟨by decide +kernel, rfl⟩
theorem dX11_isPlayed_74 : Ins mX11_isPlayed 74 (.iload_n 3) 1 75 := ⟨by decide +kernel, rfl⟩
theorem dX11_isPlayed_75 : CalV mX11_isPlayed 75 78 mX11_horse := ⟨359, by decide +kernel, rfl, tb_7 (List.mem_of_getElem? (i := 149) (by decide +kernel)) rfl, meX11_horse⟩
theorem dX11_isPlayed_78 : Ins mX11_isPlayed 78 (.ifCond .lt 7) 3 81 := ⟨by decide +kernel, rfl⟩
theorem dX11_isPlayed_81 : Ins mX11_isPlayed 81 (.iconst 1) 1 82 := ⟨by decide +kernel, rfl⟩
theorem dX11_isPlayed_82 : Ins mX11_isPlayed 82 (.goto 4) 3 85 := ⟨by decide +kernel, rfl⟩
theorem dX11_isPlayed_85 : Ins mX11_isPlayed 85 (.iconst 0) 1 86 := ⟨by decide +kernel, rfl⟩
theorem dX11_isPlayed_86 : Ins mX11_isPlayed 86 (.ireturn) 1 87 := ⟨by decide +kernel, rfl⟩
theorem dX11_isPlayed_87 : Ins mX11_isPlayed 87 (.aload_n 0) 1 88 := ⟨by decide +kernel, rfl⟩
theorem dX11_isPlayed_88 : Ins mX11_isPlayed 88 (.iload_n 2) 1 89 := ⟨by decide +kernel, rfl⟩
theorem dX11_isPlayed_89 : CalV mX11_isPlayed 89 92 mX11_boy := ⟨362, by decide +kernel, rfl, tb_7 (List.mem_of_getElem? (i := 150) (by decide +kernel)) rfl, meX11_boy⟩
theorem dX11_isPlayed_92 : Ins mX11_isPlayed 92 (.ifCond .lt 7) 3 95 := ⟨by decide +kernel, rfl⟩
theorem dX11_isPlayed_95 : Ins mX11_isPlayed 95 (.iconst 1) 1 96 := ⟨by decide +kernel, rfl⟩
theorem dX11_isPlayed_96 : Ins mX11_isPlayed 96 (.goto 4) 3 99 := ⟨by decide +kernel, rfl⟩
theorem dX11_isPlayed_99 : Ins mX11_isPlayed 99 (.iconst 0) 1 100 := ⟨by decide +kernel, rfl⟩
theorem dX11_isPlayed_100 : Ins mX11_isPlayed 100 (.ireturn) 1 101 := ⟨by decide +kernel, rfl⟩
theorem dX11_isPlayed_101 : Ins mX11_isPlayed 101 (.aload_n 0) 1 102 := ⟨by decide +kernel, rfl⟩
theorem dX11_isPlayed_102 : Ins mX11_isPlayed 102 (.iload_n 2) 1 103 := ⟨by decide +kernel, rfl⟩
theorem dX11_isPlayed_103 : CalV mX11_isPlayed 103 106 mX11_limit := ⟨365, by decide +kernel, rfl, tb_7 (List.mem_of_getElem? (i := 151) (by decide +kernel)) rfl, meX11_limit⟩
theorem dX11_isPlayed_106 : Ins mX11_isPlayed 106 (.ireturn) 1 107 := ⟨by decide +kernel, rfl⟩
theorem dX11_isPlayed_107 : Ins mX11_isPlayed 107 (.aload_n 0) 1 108 := ⟨by decide +kernel, rfl⟩
theorem dX11_isPlayed_108 : Ins mX11_isPlayed 108 (.iload_n 2) 1 109 := ⟨by decide +kernel, rfl⟩
theorem dX11_isPlayed_109 : Ins mX11_isPlayed 109 (.iload_n 3) 1 110 := ⟨by decide +kernel, rfl⟩
theorem dX11_isPlayed_110 : CalV mX11_isPlayed 110 113 mX11_mount := ⟨368, by decide +kernel, rfl, tb_7 (List.mem_of_getElem? (i := 152) (by decide +kernel)) rfl, meX11_mount⟩
theorem dX11_isPlayed_113 : Ins mX11_isPlayed 113 (.ireturn) 1 114 := ⟨by decide +kernel, rfl⟩
theorem dX11_isPlayed_114 : Ins mX11_isPlayed 114 (.aload_n 0) 1 115 := ⟨by decide +kernel, rfl⟩
theorem dX11_isPlayed_115 : Ins mX11_isPlayed 115 (.iload_n 2) 1 116 := ⟨by decide +kernel, rfl⟩
theorem dX11_isPlayed_116 : CalV mX11_isPlayed 116 119 mX11_off := ⟨371, by decide +kernel, rfl, tb_7 (List.mem_of_getElem? (i := 153) (by decide +kernel)) rfl, meX11_off⟩
theorem dX11_isPlayed_119 : Ins mX11_isPlayed 119 (.ifCond .lt 7) 3 122 := ⟨by decide +kernel, rfl⟩
theorem dX11_isPlayed_122 : Ins mX11_isPlayed 122 (.iconst 1) 1 123 := ⟨by decide +kernel, rfl⟩
theorem dX11_isPlayed_123 : Ins mX11_isPlayed 123 (.goto 4) 3 126 := ⟨by decide +kernel, rfl⟩
theorem dX11_isPlayed_126 : Ins mX11_isPlayed 126 (.iconst 0) 1 127 := ⟨by decide +kernel, rfl⟩
theorem dX11_isPlayed_127 : Ins mX11_isPlayed 127 (.ireturn) 1 128 := ⟨by decide +kernel, rfl⟩
theorem dX11_isPlayed_128 : Ins mX11_isPlayed 128 (.aload_n 0) 1 129 := ⟨by decide +kernel, rfl⟩
theorem dX11_isPlayed_129 : Ins mX11_isPlayed 129 (.iload_n 2) 1 130 := ⟨by decide +kernel, rfl⟩
theorem dX11_isPlayed_130 : CalV mX11_isPlayed 130 133 mX11_oil := ⟨374, by decide +kernel, rfl, tb_7 (List.mem_of_getElem? (i := 154) (by decide +kernel)) rfl, meX11_oil⟩
theorem dX11_isPlayed_133 : Ins mX11_isPlayed 133 (.ifCond .lt 7) 3 136 := ⟨by decide +kernel, rfl⟩
theorem dX11_isPlayed_136 : Ins mX11_isPlayed 136 (.iconst 1) 1 137 := ⟨by decide +kernel, rfl⟩
theorem dX11_isPlayed_137 : Ins mX11_isPlayed 137 (.goto 4) 3 140 := ⟨by decide +kernel, rfl⟩
theorem dX11_isPlayed_140 : Ins mX11_isPlayed 140 (.iconst 0) 1 141 := ⟨by decide +kernel, rfl⟩
theorem dX11_isPlayed_141 : Ins mX11_isPlayed 141 (.ireturn) 1 142 := ⟨by decide +kernel, rfl⟩
theorem dX11_isPlayed_142 : Ins mX11_isPlayed 142 (.aload_n 0) 1 143 := ⟨by decide +kernel, rfl⟩
theorem dX11_isPlayed_143 : Ins mX11_isPlayed 143 (.iload_n 2) 1 144 := ⟨by decide +kernel, rfl⟩
theorem dX11_isPlayed_144 : Ins mX11_isPlayed 144 (.iload_n 3) 1 145 := ⟨by decide +kernel, rfl⟩
theorem dX11_isPlayed_145 : CalV mX11_isPlayed 145 148 mX11_nail := ⟨377, by decide +kernel, rfl, tb_7 (List.mem_of_getElem? (i := 155) (by decide +kernel)) rfl, meX11_nail⟩
theorem dX11_isPlayed_148 : Ins mX11_isPlayed 148 (.ireturn) 1 149 := ⟨by decide +kernel, rfl⟩
theorem dX11_isPlayed_149 : Ins mX11_isPlayed 149 (.aload_n 0) 1 150 := ⟨by decide +kernel, rfl⟩
theorem dX11_isPlayed_150 : Ins mX11_isPlayed 150 (.iload_n 2) 1 151 := ⟨by decide +kernel, rfl⟩
theorem dX11_isPlayed_151 : CalV mX11_isPlayed 151 154 mX11_arePassed := ⟨356, by decide +kernel, rfl, tb_7 (List.mem_of_getElem? (i := 53) (by decide +kernel)) rfl, meX11_arePassed⟩
theorem dX11_isPlayed_154 : Ins mX11_isPlayed 154 (.ireturn) 1 155 := ⟨by decide +kernel, rfl⟩
theorem dX11_isPlayed_155 : Ins mX11_isPlayed 155 (.iconst 1) 1 156 := ⟨by decide +kernel, rfl⟩
theorem dX11_isPlayed_156 : Ins mX11_isPlayed 156 (.ireturn) 1 157 := ⟨by decide +kernel, rfl⟩
theorem dX11_played_0 : Ins mX11_played 0 (.iload_n 1) 1 1 := ⟨by decide +kernel, rfl⟩
theorem dX11_played_1 : Ins mX11_played 1 (.iconst 0) 1 2 := ⟨by decide +kernel, rfl⟩
theorem dX11_played_2 : Ins mX11_played 2 (.aload_n 0) 1 3 := ⟨by decide +kernel, rfl⟩
theorem dX11_played_3 : GgR mX11_played 3 6 10 0 := ⟨0, rfl, ⟨7, _, by decide +kernel, rfl, rfl, by decide, tb_5 (List.mem_of_getElem? (i := 196) (by decide +kernel)) rfl⟩, by decide, rfl⟩
theorem dX11_played_6 : Ins mX11_played 6 (.iconst 2) 1 7 := ⟨by decide +kernel, rfl⟩
theorem dX11_played_7 : Ins mX11_played 7 (.iaload) 1 8 := ⟨by decide +kernel, rfl⟩
theorem dX11_played_8 : Ins mX11_played 8 (.iconst 1) 1 9 := ⟨by decide +kernel, rfl⟩
theorem dX11_played_9 : Ins mX11_played 9 (.isub) 1 10 := ⟨by decide +kernel, rfl⟩
theorem dX11_played_10 : CalS mX11_played 10 13 mX11_isIn := ⟨63, by decide +kernel, rfl, Or.inl (tb_6 (List.mem_of_getElem? (i := 50) (by decide +kernel)) rfl), meX11_isIn⟩
theorem dX11_played_13 : Ins mX11_played 13 (.ifCond .ne 6) 3 16 := ⟨by decide +kernel, rfl⟩
theorem dX11_played_16 : Ins mX11_played 16 (.bipush (-2)) 2 18 := ⟨by decide +kernel, rfl⟩
theorem dX11_played_18 : Ins mX11_played 18 (.ireturn) 1 19 := ⟨by decide +kernel, rfl⟩
theorem dX11_played_19 : Ins mX11_played 19 (.iconst 0) 1 20 := ⟨by decide +kernel, rfl⟩
theorem dX11_played_20 : Ins mX11_played 20 (.istore_n 2) 1 21 := ⟨by decide +kernel, rfl⟩
theorem dX11_played_21 : Ins mX11_played 21 (.iload_n 2) 1 22 := ⟨by decide +kernel, rfl⟩
theorem dX11_played_22 : Ins mX11_played 22 (.aload_n 0) 1 23 := ⟨by decide +kernel, rfl⟩
theorem dX11_played_23 : GgR mX11_played 23 26 10 2 := ⟨2, rfl, ⟨16, _, by decide +kernel, rfl, rfl, by decide, tb_5 (List.mem_of_getElem? (i := 198) (by decide +kernel)) rfl⟩, by decide, rfl⟩
theorem dX11_played_26 : Ins mX11_played 26 (.sipush 705) 3 29 := ⟨by decide +kernel, rfl⟩
theorem dX11_played_29 : Ins mX11_played 29 (.iload_n 1) 1 30 := ⟨by decide +kernel, rfl⟩
theorem dX11_played_30 : Ins mX11_played 30 (.imul) 1 31 := ⟨by decide +kernel, rfl⟩
theorem dX11_played_31 : Ins mX11_played 31 (.iaload) 1 32 := ⟨by decide +kernel, rfl⟩
theorem dX11_played_32 : Ins mX11_played 32 (.if_icmp .ge 29) 3 35 := ⟨by decide +kernel, rfl⟩
theorem dX11_played_35 : Ins mX11_played 35 (.aload_n 0) 1 36 := ⟨by decide +kernel, rfl⟩
theorem dX11_played_36 : Ins mX11_played 36 (.sipush 705) 3 39 := ⟨by decide +kernel, rfl⟩
theorem dX11_played_39 : Ins mX11_played 39 (.iload_n 1) 1 40 := ⟨by decide +kernel, rfl⟩
theorem dX11_played_40 : Ins mX11_played 40 (.imul) 1 41 := ⟨by decide +kernel, rfl⟩
theorem dX11_played_41 : Ins mX11_played 41 (.iconst 1) 1 42 := ⟨by decide +kernel, rfl⟩
theorem dX11_played_42 : Ins mX11_played 42 (.iadd) 1 43 := ⟨by decide +kernel, rfl⟩
theorem dX11_played_43 : Ins mX11_played 43 (.iconst 4) 1 44 := ⟨by decide +kernel, rfl⟩
theorem dX11_played_44 : Ins mX11_played 44 (.iload_n 2) 1 45 := ⟨by decide +kernel, rfl⟩
theorem dX11_played_45 : Ins mX11_played 45 (.imul) 1 46 := ⟨by decide +kernel, rfl⟩
theorem dX11_played_46 : Ins mX11_played 46 (.iadd) 1 47 := ⟨by decide +kernel, rfl⟩
theorem dX11_played_47 : CalV mX11_played 47 50 mX11_isPlayed := ⟨380, by decide +kernel, rfl, tb_7 (List.mem_of_getElem? (i := 145) (by decide +kernel)) rfl, meX11_isPlayed⟩
theorem dX11_played_50 : Ins mX11_played 50 (.ifCond .ne 5) 3 53 := ⟨by decide +kernel, rfl⟩
theorem dX11_played_53 : Ins mX11_played 53 (.iload_n 2) 1 54 := ⟨by decide +kernel, rfl⟩
theorem dX11_played_54 : Ins mX11_played 54 (.ireturn) 1 55 := ⟨by decide +kernel, rfl⟩
theorem dX11_played_55 : Ins mX11_played 55 (.iinc 2 1) 3 58 := ⟨by decide +kernel, rfl⟩
theorem dX11_played_58 : Ins mX11_played 58 (.goto (-37)) 3 61 := ⟨by decide +kernel, rfl⟩
theorem dX11_played_61 : Ins mX11_played 61 (.iconst (-1)) 1 62 := ⟨by decide +kernel, rfl⟩
theorem dX11_played_62 : Ins mX11_played 62 (.ireturn) 1 63 := ⟨by decide +kernel, rfl⟩
theorem dX11_happens_0 : Ins mX11_happens 0 (.aload_n 0) 1 1 := ⟨by decide +kernel, rfl⟩
theorem dX11_happens_1 : GgR mX11_happens 1 4 10 0 := ⟨0, rfl, ⟨7, _, by decide +kernel, rfl, rfl, by decide, tb_5 (List.mem_of_getElem? (i := 196) (by decide +kernel)) rfl⟩, by decide, rfl⟩
theorem dX11_happens_4 : Ins mX11_happens 4 (.iconst 1) 1 5 := ⟨by decide +kernel, rfl⟩
theorem dX11_happens_5 : Ins mX11_happens 5 (.iaload) 1 6 := ⟨by decide +kernel, rfl⟩
theorem dX11_happens_6 : Ins mX11_happens 6 (.ifCond .ne 7) 3 9 := ⟨by decide +kernel, rfl⟩
theorem dX11_happens_9 : Ins mX11_happens 9 (.iconst (-1)) 1 10 := ⟨by decide +kernel, rfl⟩
theorem dX11_happens_10 : Ins mX11_happens 10 (.goto 11) 3 13 := ⟨by decide +kernel, rfl⟩
theorem dX11_happens_13 : Ins mX11_happens 13 (.iload_n 1) 1 14 := ⟨by decide +kernel, rfl⟩
theorem dX11_happens_14 : Ins mX11_happens 14 (.aload_n 0) 1 15 := ⟨by decide +kernel, rfl⟩
theorem dX11_happens_15 : GgR mX11_happens 15 18 10 0 := ⟨0, rfl, ⟨7, _, by decide +kernel, rfl, rfl, by decide, tb_5 (List.mem_of_getElem? (i := 196) (by decide +kernel)) rfl⟩, by decide, rfl⟩
theorem dX11_happens_18 : Ins mX11_happens 18 (.iconst 1) 1 19 := ⟨by decide +kernel, rfl⟩
theorem dX11_happens_19 : Ins mX11_happens 19 (.iaload) 1 20 := ⟨by decide +kernel, rfl⟩
theorem dX11_happens_20 : Ins mX11_happens 20 (.irem) 1 21 := ⟨by decide +kernel, rfl⟩
theorem dX11_happens_21 : Ins mX11_happens 21 (.istore_n 2) 1 22 := ⟨by decide +kernel, rfl⟩
theorem dX11_happens_22 : Ins mX11_happens 22 (.iload_n 1) 1 23 := ⟨by decide +kernel, rfl⟩
theorem dX11_happens_23 : Ins mX11_happens 23 (.bipush 6) 2 25 := ⟨by decide +kernel, rfl⟩
theorem dX11_happens_25 : Ins mX11_happens 25 (.irem) 1 26 := ⟨by decide +kernel, rfl⟩
theorem dX11_happens_26 : Ins mX11_happens 26 (.tableswitch 119 2 5 #[30, 54, 99, 99]) 30 56 := ⟨by decide +kernel, rfl⟩
theorem dX11_happens_56 : Ins mX11_happens 56 (.iload_n 1) 1 57 := ⟨by decide +kernel, rfl⟩
theorem dX11_happens_57 : Ins mX11_happens 57 (.iconst 4) 1 58 := ⟨by decide +kernel, rfl⟩
theorem dX11_happens_58 : Ins mX11_happens 58 (.irem) 1 59 := ⟨by decide +kernel, rfl⟩
theorem dX11_happens_59 : Ins mX11_happens 59 (.ifCond .ne 131) 3 62 := ⟨by decide +kernel, rfl⟩
theorem dX11_happens_62 : Ins mX11_happens 62 (.aload_n 0) 1 63 := ⟨by decide +kernel, rfl⟩
theorem dX11_happens_63 : Ins mX11_happens 63 (.iload_n 2) 1 64 := ⟨by decide +kernel, rfl⟩
theorem dX11_happens_64 : CalV mX11_happens 64 67 mX11_canGetOff := ⟨344, by decide +kernel, rfl, tb_7 (List.mem_of_getElem? (i := 29) (by decide +kernel)) rfl, meX11_canGetOff⟩
theorem dX11_happens_67 : Ins mX11_happens 67 (.ifCond .eq 123) 3 70 := ⟨by decide +kernel, rfl⟩
theorem dX11_happens_70 : Ins mX11_happens 70 (.aload_n 0) 1 71 := ⟨by decide +kernel, rfl⟩
theorem dX11_happens_71 : Ins mX11_happens 71 (.iload_n 2) 1 72 := ⟨by decide +kernel, rfl⟩
theorem dX11_happens_72 : Ins mX11_happens 72 (.iconst 1) 1 73 := ⟨by decide +kernel, rfl⟩
theorem dX11_happens_73 : Ins mX11_happens 73 (.iconst (-1)) 1 74 := ⟨by decide +kernel, rfl⟩
theorem dX11_happens_74 : CalV mX11_happens 74 77 mX11_lay := ⟨89, by decide +kernel, rfl, tb_6 (List.mem_of_getElem? (i := 61) (by decide +kernel)) rfl, meX11_lay⟩
theorem dX11_happens_77 : Ins mX11_happens 77 (.goto 113) 3 80 := ⟨by decide +kernel, rfl⟩
theorem dX11_happens_80 : Ins mX11_happens 80 (.iload_n 1) 1 81 := ⟨by decide +kernel, rfl⟩
theorem dX11_happens_81 : Ins mX11_happens 81 (.iconst 5) 1 82 := ⟨by decide +kernel, rfl⟩
theorem dX11_happens_82 : Ins mX11_happens 82 (.irem) 1 83 := ⟨by decide +kernel, rfl⟩
theorem dX11_happens_83 : Ins mX11_happens 83 (.ifCond .ne 107) 3 86 := ⟨by decide +kernel, rfl⟩
theorem dX11_happens_86 : Ins mX11_happens 86 (.aload_n 0) 1 87 := ⟨by decide +kernel, rfl⟩
theorem dX11_happens_87 : GgR mX11_happens 87 90 10 0 := ⟨0, rfl, ⟨7, _, by decide +kernel, rfl, rfl, by decide, tb_5 (List.mem_of_getElem? (i := 196) (by decide +kernel)) rfl⟩, by decide, rfl⟩
theorem dX11_happens_90 : Ins mX11_happens 90 (.iconst 0) 1 91 := ⟨by decide +kernel, rfl⟩
theorem dX11_happens_91 : Ins mX11_happens 91 (.iaload) 1 92 := ⟨by decide +kernel, rfl⟩
theorem dX11_happens_92 : Ins mX11_happens 92 (.ifCond .le 98) 3 95 := ⟨by decide +kernel, rfl⟩
theorem dX11_happens_95 : Ins mX11_happens 95 (.aload_n 0) 1 96 := ⟨by decide +kernel, rfl⟩
theorem dX11_happens_96 : Ins mX11_happens 96 (.iload_n 1) 1 97 := ⟨by decide +kernel, rfl⟩
theorem dX11_happens_97 : Ins mX11_happens 97 (.aload_n 0) 1 98 := ⟨by decide +kernel, rfl⟩
theorem dX11_happens_98 : GgR mX11_happens 98 101 10 0 := ⟨0, rfl, ⟨7, _, by decide +kernel, rfl, rfl, by decide, tb_5 (List.mem_of_getElem? (i := 196) (by decide +kernel)) rfl⟩, by decide, rfl⟩
theorem dX11_happens_101 : Ins mX11_happens 101 (.iconst 0) 1 102 := ⟨by decide +kernel, rfl⟩
theorem dX11_happens_102 : Ins mX11_happens 102 (.iaload) 1 103 := ⟨by decide +kernel, rfl⟩
theorem dX11_happens_103 : Ins mX11_happens 103 (.irem) 1 104 := ⟨by decide +kernel, rfl⟩
theorem dX11_happens_104 : CalV mX11_happens 104 107 mX11_canOil := ⟨347, by decide +kernel, rfl, tb_7 (List.mem_of_getElem? (i := 37) (by decide +kernel)) rfl, meX11_canOil⟩
theorem dX11_happens_107 : Ins mX11_happens 107 (.ifCond .eq 83) 3 110 := ⟨by decide +kernel, rfl⟩
theorem dX11_happens_110 : Ins mX11_happens 110 (.aload_n 0) 1 111 := ⟨by decide +kernel, rfl⟩
theorem dX11_happens_111 : Ins mX11_happens 111 (.iload_n 1) 1 112 := ⟨by decide +kernel, rfl⟩
theorem dX11_happens_112 : Ins mX11_happens 112 (.aload_n 0) 1 113 := ⟨by decide +kernel, rfl⟩
theorem dX11_happens_113 : GgR mX11_happens 113 116 10 0 := ⟨0, rfl, ⟨7, _, by decide +kernel, rfl, rfl, by decide, tb_5 (List.mem_of_getElem? (i := 196) (by decide +kernel)) rfl⟩, by decide, rfl⟩
theorem dX11_happens_116 : Ins mX11_happens 116 (.iconst 0) 1 117 := ⟨by decide +kernel, rfl⟩
theorem dX11_happens_117 : Ins mX11_happens 117 (.iaload) 1 118 := ⟨by decide +kernel, rfl⟩
theorem dX11_happens_118 : Ins mX11_happens 118 (.irem) 1 119 := ⟨by decide +kernel, rfl⟩
theorem dX11_happens_119 : CalV mX11_happens 119 122 mX11_oilNow := ⟨350, by decide +kernel, rfl, tb_7 (List.mem_of_getElem? (i := 41) (by decide +kernel)) rfl, meX11_oilNow⟩
theorem dX11_happens_122 : Ins mX11_happens 122 (.goto 68) 3 125 := ⟨by decide +kernel, rfl⟩
theorem dX11_happens_125 : Ins mX11_happens 125 (.aload_n 0) 1 126 := ⟨by decide +kernel, rfl⟩
theorem dX11_happens_126 : GgR mX11_happens 126 129 10 0 := ⟨0, rfl, ⟨7, _, by decide +kernel, rfl, rfl, by decide, tb_5 (List.mem_of_getElem? (i := 196) (by decide +kernel)) rfl⟩, by decide, rfl⟩
theorem dX11_happens_129 : Ins mX11_happens 129 (.bipush 10) 2 131 := ⟨by decide +kernel, rfl⟩
theorem dX11_happens_131 : Ins mX11_happens 131 (.iaload) 1 132 := ⟨by decide +kernel, rfl⟩
theorem dX11_happens_132 : Ins mX11_happens 132 (.sipush 9999) 3 135 := ⟨by decide +kernel, rfl⟩
theorem dX11_happens_135 : Ins mX11_happens 135 (.if_icmp .ge 55) 3 138 := ⟨by decide +kernel, rfl⟩
theorem dX11_happens_138 : Ins mX11_happens 138 (.aload_n 0) 1 139 := ⟨by decide +kernel, rfl⟩
theorem dX11_happens_139 : CalV mX11_happens 139 142 mX11_pass := ⟨353, by decide +kernel, rfl, tb_7 (List.mem_of_getElem? (i := 57) (by decide +kernel)) rfl, meX11_pass⟩
theorem dX11_happens_142 : Ins mX11_happens 142 (.goto 48) 3 145 := ⟨by decide +kernel, rfl⟩
theorem dX11_happens_145 : Ins mX11_happens 145 (.aload_n 0) 1 146 := ⟨by decide +kernel, rfl⟩
theorem dX11_happens_146 : GgR mX11_happens 146 149 10 0 := ⟨0, rfl, ⟨7, _, by decide +kernel, rfl, rfl, by decide, tb_5 (List.mem_of_getElem? (i := 196) (by decide +kernel)) rfl⟩, by decide, rfl⟩
theorem dX11_happens_149 : Ins mX11_happens 149 (.iconst 0) 1 150 := ⟨by decide +kernel, rfl⟩
theorem dX11_happens_150 : Ins mX11_happens 150 (.iaload) 1 151 := ⟨by decide +kernel, rfl⟩
theorem dX11_happens_151 : Ins mX11_happens 151 (.ifCond .le 39) 3 154 := ⟨by decide +kernel, rfl⟩
theorem dX11_happens_154 : Ins mX11_happens 154 (.aload_n 0) 1 155 := ⟨by decide +kernel, rfl⟩
theorem dX11_happens_155 : Ins mX11_happens 155 (.iload_n 2) 1 156 := ⟨by decide +kernel, rfl⟩
theorem dX11_happens_156 : Ins mX11_happens 156 (.iload_n 1) 1 157 := ⟨by decide +kernel, rfl⟩
theorem dX11_happens_157 : Ins mX11_happens 157 (.bipush 6) 2 159 := ⟨by decide +kernel, rfl⟩
theorem dX11_happens_159 : Ins mX11_happens 159 (.idiv) 1 160 := ⟨by decide +kernel, rfl⟩
theorem dX11_happens_160 : Ins mX11_happens 160 (.aload_n 0) 1 161 := ⟨by decide +kernel, rfl⟩
theorem dX11_happens_161 : GgR mX11_happens 161 164 10 0 := ⟨0, rfl, ⟨7, _, by decide +kernel, rfl, rfl, by decide, tb_5 (List.mem_of_getElem? (i := 196) (by decide +kernel)) rfl⟩, by decide, rfl⟩
theorem dX11_happens_164 : Ins mX11_happens 164 (.iconst 0) 1 165 := ⟨by decide +kernel, rfl⟩
theorem dX11_happens_165 : Ins mX11_happens 165 (.iaload) 1 166 := ⟨by decide +kernel, rfl⟩
theorem dX11_happens_166 : Ins mX11_happens 166 (.irem) 1 167 := ⟨by decide +kernel, rfl⟩
theorem dX11_happens_167 : CalV mX11_happens 167 170 mX11_canMount := ⟨338, by decide +kernel, rfl, tb_7 (List.mem_of_getElem? (i := 1) (by decide +kernel)) rfl, meX11_canMount⟩
theorem dX11_happens_170 : Ins mX11_happens 170 (.ifCond .eq 20) 3 173 := ⟨by decide +kernel, rfl⟩
theorem dX11_happens_173 : Ins mX11_happens 173 (.aload_n 0) 1 174 := ⟨by decide +kernel, rfl⟩
theorem dX11_happens_174 : Ins mX11_happens 174 (.iload_n 2) 1 175 := ⟨by decide +kernel, rfl⟩
theorem dX11_happens_175 : Ins mX11_happens 175 (.iconst 1) 1 176 := ⟨by decide +kernel, rfl⟩
theorem dX11_happens_176 : Ins mX11_happens 176 (.iload_n 1) 1 177 := ⟨by decide +kernel, rfl⟩
theorem dX11_happens_177 : Ins mX11_happens 177 (.bipush 6) 2 179 := ⟨by decide +kernel, rfl⟩
theorem dX11_happens_179 : Ins mX11_happens 179 (.idiv) 1 180 := ⟨by decide +kernel, rfl⟩
theorem dX11_happens_180 : Ins mX11_happens 180 (.aload_n 0) 1 181 := ⟨by decide +kernel, rfl⟩
theorem dX11_happens_181 : GgR mX11_happens 181 184 10 0 := ⟨0, rfl, ⟨7, _, by decide +kernel, rfl, rfl, by decide, tb_5 (List.mem_of_getElem? (i := 196) (by decide +kernel)) rfl⟩, by decide, rfl⟩
theorem dX11_happens_184 : Ins mX11_happens 184 (.iconst 0) 1 185 := ⟨by decide +kernel, rfl⟩
theorem dX11_happens_185 : Ins mX11_happens 185 (.iaload) 1 186 := ⟨by decide +kernel, rfl⟩
theorem dX11_happens_186 : Ins mX11_happens 186 (.irem) 1 187 := ⟨by decide +kernel, rfl⟩
theorem dX11_happens_187 : CalV mX11_happens 187 190 mX11_lay := ⟨89, by decide +kernel, rfl, tb_6 (List.mem_of_getElem? (i := 61) (by decide +kernel)) rfl, meX11_lay⟩
theorem dX11_happens_190 : Ins mX11_happens 190 (.return_) 1 191 := ⟨by decide +kernel, rfl⟩
