-- a fact for each instruction, by wip/whole/gen/ins.py
theorem dX0_init_0 : Ins mX0_init 0 (.aload_n 0) 1 1 := ⟨by decide +kernel, rfl⟩
theorem dX0_init_1 : Ins mX0_init 1 (.invokespecial 3) 3 4 := ⟨by decide +kernel, rfl⟩
theorem dX0_init_4 : Ins mX0_init 4 (.aload_n 0) 1 5 := ⟨by decide +kernel, rfl⟩
theorem dX0_init_5 : Ins mX0_init 5 (.bipush 99) 2 7 := ⟨by decide +kernel, rfl⟩
theorem dX0_init_7 : Ins mX0_init 7 (.newarray .int) 2 9 := ⟨by decide +kernel, rfl⟩
theorem dX0_init_9 : GpR mX0_init 9 12 0 0 := ⟨0, rfl, _, ⟨9, _, by decide +kernel, rfl, rfl, by decide, tb_2 (List.mem_of_getElem? (i := 8) (by decide +kernel)) rfl, tyX0_ok 0 (by decide), Or.inr ⟨rfl, rfl, rfl⟩⟩, by decide, rfl, Or.inr ⟨_, rfl⟩⟩
theorem dX0_init_12 : Ins mX0_init 12 (.aload_n 0) 1 13 := ⟨by decide +kernel, rfl⟩
theorem dX0_init_13 : Ins mX0_init 13 (.sipush 256) 3 16 := ⟨by decide +kernel, rfl⟩
theorem dX0_init_16 : Ins mX0_init 16 (.newarray .int) 2 18 := ⟨by decide +kernel, rfl⟩
theorem dX0_init_18 : GpR mX0_init 18 21 0 1 := ⟨1, rfl, _, ⟨15, _, by decide +kernel, rfl, rfl, by decide, tb_2 (List.mem_of_getElem? (i := 9) (by decide +kernel)) rfl, tyX0_ok 1 (by decide), Or.inr ⟨rfl, rfl, rfl⟩⟩, by decide, rfl, Or.inr ⟨_, rfl⟩⟩
theorem dX0_init_21 : Ins mX0_init 21 (.aload_n 0) 1 22 := ⟨by decide +kernel, rfl⟩
theorem dX0_init_22 : Ins mX0_init 22 (.iconst 0) 1 23 := ⟨by decide +kernel, rfl⟩
theorem dX0_init_23 : GpI mX0_init 23 26 0 2 := ⟨2, rfl, ⟨18, _, by decide +kernel, rfl, rfl, by decide, tb_2 (List.mem_of_getElem? (i := 10) (by decide +kernel)) rfl, by decide +kernel, Or.inl rfl⟩, by decide, rfl⟩
theorem dX0_init_26 : Ins mX0_init 26 (.return_) 1 27 := ⟨by decide +kernel, rfl⟩
theorem dX0_markDue_0 : Ins mX0_markDue 0 (.iconst 0) 1 1 := ⟨by decide +kernel, rfl⟩
theorem dX0_markDue_1 : Ins mX0_markDue 1 (.istore_n 3) 1 2 := ⟨by decide +kernel, rfl⟩
theorem dX0_markDue_2 : Ins mX0_markDue 2 (.iload_n 3) 1 3 := ⟨by decide +kernel, rfl⟩
theorem dX0_markDue_3 : Ins mX0_markDue 3 (.iload_n 2) 1 4 := ⟨by decide +kernel, rfl⟩
theorem dX0_markDue_4 : Ins mX0_markDue 4 (.if_icmp .ge 31) 3 7 := ⟨by decide +kernel, rfl⟩
theorem dX0_markDue_7 : Ins mX0_markDue 7 (.iload_n 3) 1 8 := ⟨by decide +kernel, rfl⟩
theorem dX0_markDue_8 : Ins mX0_markDue 8 (.bipush 99) 2 10 := ⟨by decide +kernel, rfl⟩
theorem dX0_markDue_10 : Ins mX0_markDue 10 (.if_icmp .ge 25) 3 13 := ⟨by decide +kernel, rfl⟩
theorem dX0_markDue_13 : Ins mX0_markDue 13 (.aload_n 0) 1 14 := ⟨by decide +kernel, rfl⟩
theorem dX0_markDue_14 : GgR mX0_markDue 14 17 0 0 := ⟨0, rfl, ⟨9, _, by decide +kernel, rfl, rfl, by decide, tb_2 (List.mem_of_getElem? (i := 8) (by decide +kernel)) rfl⟩, by decide, rfl⟩
theorem dX0_markDue_17 : Ins mX0_markDue 17 (.iload_n 3) 1 18 := ⟨by decide +kernel, rfl⟩
theorem dX0_markDue_18 : Ins mX0_markDue 18 (.aload_n 1) 1 19 := ⟨by decide +kernel, rfl⟩
theorem dX0_markDue_19 : Ins mX0_markDue 19 (.aload_n 1) 1 20 := ⟨by decide +kernel, rfl⟩
theorem dX0_markDue_20 : CalV mX0_markDue 20 23 mX7_thisMinute := ⟨22, by decide +kernel, rfl, tb_4 (List.mem_of_getElem? (i := 216) (by decide +kernel)) rfl, meX7_thisMinute⟩
theorem dX0_markDue_23 : Ins mX0_markDue 23 (.iload_n 3) 1 24 := ⟨by decide +kernel, rfl⟩
theorem dX0_markDue_24 : Ins mX0_markDue 24 (.iadd) 1 25 := ⟨by decide +kernel, rfl⟩
theorem dX0_markDue_25 : CalV mX0_markDue 25 28 mX7_dueAt := ⟨28, by decide +kernel, rfl, tb_4 (List.mem_of_getElem? (i := 217) (by decide +kernel)) rfl, meX7_dueAt⟩
theorem dX0_markDue_28 : Ins mX0_markDue 28 (.iastore) 1 29 := ⟨by decide +kernel, rfl⟩
theorem dX0_markDue_29 : Ins mX0_markDue 29 (.iinc 3 1) 3 32 := ⟨by decide +kernel, rfl⟩
theorem dX0_markDue_32 : Ins mX0_markDue 32 (.goto (-30)) 3 35 := ⟨by decide +kernel, rfl⟩
theorem dX0_markDue_35 : Ins mX0_markDue 35 (.return_) 1 36 := ⟨by decide +kernel, rfl⟩
theorem dX0_staysBelow_0 : Ins mX0_staysBelow 0 (.iconst 0) 1 1 := ⟨by decide +kernel, rfl⟩
theorem dX0_staysBelow_1 : Ins mX0_staysBelow 1 (.istore 4) 2 3 := ⟨by decide +kernel, rfl⟩
theorem dX0_staysBelow_3 : Ins mX0_staysBelow 3 (.iload 4) 2 5 := ⟨by decide +kernel, rfl⟩
theorem dX0_staysBelow_5 : Ins mX0_staysBelow 5 (.iload_n 2) 1 6 := ⟨by decide +kernel, rfl⟩
theorem dX0_staysBelow_6 : Ins mX0_staysBelow 6 (.if_icmp .ge 34) 3 9 := ⟨by decide +kernel, rfl⟩
theorem dX0_staysBelow_9 : Ins mX0_staysBelow 9 (.iload 4) 2 11 := ⟨by decide +kernel, rfl⟩
theorem dX0_staysBelow_11 : Ins mX0_staysBelow 11 (.bipush 99) 2 13 := ⟨by decide +kernel, rfl⟩
theorem dX0_staysBelow_13 : Ins mX0_staysBelow 13 (.if_icmp .ge 27) 3 16 := ⟨by decide +kernel, rfl⟩
theorem dX0_staysBelow_16 : Ins mX0_staysBelow 16 (.iload_n 1) 1 17 := ⟨by decide +kernel, rfl⟩
theorem dX0_staysBelow_17 : Ins mX0_staysBelow 17 (.aload_n 0) 1 18 := ⟨by decide +kernel, rfl⟩
theorem dX0_staysBelow_18 : GgR mX0_staysBelow 18 21 0 0 := ⟨0, rfl, ⟨9, _, by decide +kernel, rfl, rfl, by decide, tb_2 (List.mem_of_getElem? (i := 8) (by decide +kernel)) rfl⟩, by decide, rfl⟩
theorem dX0_staysBelow_21 : Ins mX0_staysBelow 21 (.iload 4) 2 23 := ⟨by decide +kernel, rfl⟩
theorem dX0_staysBelow_23 : Ins mX0_staysBelow 23 (.iaload) 1 24 := ⟨by decide +kernel, rfl⟩
theorem dX0_staysBelow_24 : Ins mX0_staysBelow 24 (.iand) 1 25 := ⟨by decide +kernel, rfl⟩
theorem dX0_staysBelow_25 : CalS mX0_staysBelow 25 28 mJ6_bitCount_0f7a4 := ⟨32, by decide +kernel, rfl, Or.inl (tb_4 (List.mem_of_getElem? (i := 222) (by decide +kernel)) rfl), meJ6_bitCount_0f7a4⟩
theorem dX0_staysBelow_28 : Ins mX0_staysBelow 28 (.iload_n 3) 1 29 := ⟨by decide +kernel, rfl⟩
theorem dX0_staysBelow_29 : Ins mX0_staysBelow 29 (.if_icmp .lt 5) 3 32 := ⟨by decide +kernel, rfl⟩
theorem dX0_staysBelow_32 : Ins mX0_staysBelow 32 (.iconst 0) 1 33 := ⟨by decide +kernel, rfl⟩
theorem dX0_staysBelow_33 : Ins mX0_staysBelow 33 (.ireturn) 1 34 := ⟨by decide +kernel, rfl⟩
theorem dX0_staysBelow_34 : Ins mX0_staysBelow 34 (.iinc 4 1) 3 37 := ⟨by decide +kernel, rfl⟩
theorem dX0_staysBelow_37 : Ins mX0_staysBelow 37 (.goto (-34)) 3 40 := ⟨by decide +kernel, rfl⟩
theorem dX0_staysBelow_40 : Ins mX0_staysBelow 40 (.iconst 1) 1 41 := ⟨by decide +kernel, rfl⟩
theorem dX0_staysBelow_41 : Ins mX0_staysBelow 41 (.ireturn) 1 42 := ⟨by decide +kernel, rfl⟩
theorem dX0_findSets_0 : Ins mX0_findSets 0 (.iconst 0) 1 1 := ⟨by decide +kernel, rfl⟩
theorem dX0_findSets_1 : Ins mX0_findSets 1 (.istore_n 3) 1 2 := ⟨by decide +kernel, rfl⟩
theorem dX0_findSets_2 : Ins mX0_findSets 2 (.iload_n 3) 1 3 := ⟨by decide +kernel, rfl⟩
theorem dX0_findSets_3 : Ins mX0_findSets 3 (.aload_n 2) 1 4 := ⟨by decide +kernel, rfl⟩
theorem dX0_findSets_4 : GgI mX0_findSets 4 7 7 4 := ⟨4, rfl, ⟨37, _, by decide +kernel, rfl, rfl, by decide, tb_1 (List.mem_of_getElem? (i := 91) (by decide +kernel)) rfl⟩, by decide, rfl⟩
theorem dX0_findSets_7 : Ins mX0_findSets 7 (.if_icmp .ge 30) 3 10 := ⟨by decide +kernel, rfl⟩
theorem dX0_findSets_10 : Ins mX0_findSets 10 (.iload_n 3) 1 11 := ⟨by decide +kernel, rfl⟩
theorem dX0_findSets_11 : Ins mX0_findSets 11 (.bipush 99) 2 13 := ⟨by decide +kernel, rfl⟩
theorem dX0_findSets_13 : Ins mX0_findSets 13 (.if_icmp .ge 24) 3 16 := ⟨by decide +kernel, rfl⟩
theorem dX0_findSets_16 : Ins mX0_findSets 16 (.aload_n 0) 1 17 := ⟨by decide +kernel, rfl⟩
theorem dX0_findSets_17 : GgR mX0_findSets 17 20 0 0 := ⟨0, rfl, ⟨9, _, by decide +kernel, rfl, rfl, by decide, tb_2 (List.mem_of_getElem? (i := 8) (by decide +kernel)) rfl⟩, by decide, rfl⟩
theorem dX0_findSets_20 : Ins mX0_findSets 20 (.iload_n 3) 1 21 := ⟨by decide +kernel, rfl⟩
theorem dX0_findSets_21 : Ins mX0_findSets 21 (.aload_n 1) 1 22 := ⟨by decide +kernel, rfl⟩
theorem dX0_findSets_22 : Ins mX0_findSets 22 (.aload_n 2) 1 23 := ⟨by decide +kernel, rfl⟩
theorem dX0_findSets_23 : Ins mX0_findSets 23 (.iload_n 3) 1 24 := ⟨by decide +kernel, rfl⟩
theorem dX0_findSets_24 : CalV mX0_findSets 24 27 mX8_firstOf := ⟨42, by decide +kernel, rfl, tb_5 (List.mem_of_getElem? (i := 3) (by decide +kernel)) rfl, meX8_firstOf⟩
theorem dX0_findSets_27 : CalV mX0_findSets 27 30 mX7_dueAt := ⟨28, by decide +kernel, rfl, tb_4 (List.mem_of_getElem? (i := 217) (by decide +kernel)) rfl, meX7_dueAt⟩
theorem dX0_findSets_30 : Ins mX0_findSets 30 (.iastore) 1 31 := ⟨by decide +kernel, rfl⟩
theorem dX0_findSets_31 : Ins mX0_findSets 31 (.iinc 3 1) 3 34 := ⟨by decide +kernel, rfl⟩
theorem dX0_findSets_34 : Ins mX0_findSets 34 (.goto (-32)) 3 37 := ⟨by decide +kernel, rfl⟩
theorem dX0_findSets_37 : Ins mX0_findSets 37 (.aload_n 0) 1 38 := ⟨by decide +kernel, rfl⟩
theorem dX0_findSets_38 : Ins mX0_findSets 38 (.iconst 0) 1 39 := ⟨by decide +kernel, rfl⟩
theorem dX0_findSets_39 : GpI mX0_findSets 39 42 0 2 := ⟨2, rfl, ⟨18, _, by decide +kernel, rfl, rfl, by decide, tb_2 (List.mem_of_getElem? (i := 10) (by decide +kernel)) rfl, by decide +kernel, Or.inl rfl⟩, by decide, rfl⟩
theorem dX0_findSets_42 : Ins mX0_findSets 42 (.aload_n 0) 1 43 := ⟨by decide +kernel, rfl⟩
theorem dX0_findSets_43 : GgR mX0_findSets 43 46 0 1 := ⟨1, rfl, ⟨15, _, by decide +kernel, rfl, rfl, by decide, tb_2 (List.mem_of_getElem? (i := 9) (by decide +kernel)) rfl⟩, by decide, rfl⟩
theorem dX0_findSets_46 : Ins mX0_findSets 46 (.arraylength) 1 47 := ⟨by decide +kernel, rfl⟩
theorem dX0_findSets_47 : Ins mX0_findSets 47 (.iconst 1) 1 48 := ⟨by decide +kernel, rfl⟩
theorem dX0_findSets_48 : Ins mX0_findSets 48 (.aload_n 1) 1 49 := ⟨by decide +kernel, rfl⟩
theorem dX0_findSets_49 : CalV mX0_findSets 49 52 mX7_horses := ⟨45, by decide +kernel, rfl, tb_5 (List.mem_of_getElem? (i := 7) (by decide +kernel)) rfl, meX7_horses⟩
theorem dX0_findSets_52 : Ins mX0_findSets 52 (.ishl) 1 53 := ⟨by decide +kernel, rfl⟩
theorem dX0_findSets_53 : CalM mX0_findSets 53 56 Lib.Math.min.name Lib.Math.min.code 2 (some .int) := ⟨48, by decide +kernel, rfl, tb_5 (List.mem_of_getElem? (i := 8) (by decide +kernel)) rfl, tb_1 (List.mem_of_getElem? (i := 83) (by decide +kernel)) rfl, tb_1 (List.mem_of_getElem? (i := 6) (by decide +kernel)) rfl, tb_1 (List.mem_of_getElem? (i := 84) rfl) rfl⟩
theorem dX0_findSets_56 : Ins mX0_findSets 56 (.istore_n 3) 1 57 := ⟨by decide +kernel, rfl⟩
theorem dX0_findSets_57 : Ins mX0_findSets 57 (.iconst 0) 1 58 := ⟨by decide +kernel, rfl⟩
theorem dX0_findSets_58 : Ins mX0_findSets 58 (.istore 4) 2 60 := ⟨by decide +kernel, rfl⟩
theorem dX0_findSets_60 : Ins mX0_findSets 60 (.iload 4) 2 62 := ⟨by decide +kernel, rfl⟩
theorem dX0_findSets_62 : Ins mX0_findSets 62 (.iload_n 3) 1 63 := ⟨by decide +kernel, rfl⟩
theorem dX0_findSets_63 : Ins mX0_findSets 63 (.if_icmp .ge 40) 3 66 := ⟨by decide +kernel, rfl⟩
theorem dX0_findSets_66 : Ins mX0_findSets 66 (.aload_n 0) 1 67 := ⟨by decide +kernel, rfl⟩
theorem dX0_findSets_67 : Ins mX0_findSets 67 (.iload 4) 2 69 := ⟨by decide +kernel, rfl⟩
theorem dX0_findSets_69 : Ins mX0_findSets 69 (.aload_n 2) 1 70 := ⟨by decide +kernel, rfl⟩
theorem dX0_findSets_70 : CalV mX0_findSets 70 73 mX0_agrees := ⟨54, by decide +kernel, rfl, tb_5 (List.mem_of_getElem? (i := 9) (by decide +kernel)) rfl, meX0_agrees⟩
theorem dX0_findSets_73 : Ins mX0_findSets 73 (.ifCond .eq 24) 3 76 := ⟨by decide +kernel, rfl⟩
theorem dX0_findSets_76 : Ins mX0_findSets 76 (.aload_n 0) 1 77 := ⟨by decide +kernel, rfl⟩
theorem dX0_findSets_77 : GgR mX0_findSets 77 80 0 1 := ⟨1, rfl, ⟨15, _, by decide +kernel, rfl, rfl, by decide, tb_2 (List.mem_of_getElem? (i := 9) (by decide +kernel)) rfl⟩, by decide, rfl⟩
theorem dX0_findSets_80 : Ins mX0_findSets 80 (.aload_n 0) 1 81 := ⟨by decide +kernel, rfl⟩
theorem dX0_findSets_81 : GgI mX0_findSets 81 84 0 2 := ⟨2, rfl, ⟨18, _, by decide +kernel, rfl, rfl, by decide, tb_2 (List.mem_of_getElem? (i := 10) (by decide +kernel)) rfl⟩, by decide, rfl⟩
theorem dX0_findSets_84 : Ins mX0_findSets 84 (.iload 4) 2 86 := ⟨by decide +kernel, rfl⟩
theorem dX0_findSets_86 : Ins mX0_findSets 86 (.iastore) 1 87 := ⟨by decide +kernel, rfl⟩
theorem dX0_findSets_87 : Ins mX0_findSets 87 (.aload_n 0) 1 88 := ⟨by decide +kernel, rfl⟩
theorem dX0_findSets_88 : Ins mX0_findSets 88 (.dup) 1 89 := ⟨by decide +kernel, rfl⟩
theorem dX0_findSets_89 : GgI mX0_findSets 89 92 0 2 := ⟨2, rfl, ⟨18, _, by decide +kernel, rfl, rfl, by decide, tb_2 (List.mem_of_getElem? (i := 10) (by decide +kernel)) rfl⟩, by decide, rfl⟩
theorem dX0_findSets_92 : Ins mX0_findSets 92 (.iconst 1) 1 93 := ⟨by decide +kernel, rfl⟩
theorem dX0_findSets_93 : Ins mX0_findSets 93 (.iadd) 1 94 := ⟨by decide +kernel, rfl⟩
theorem dX0_findSets_94 : GpI mX0_findSets 94 97 0 2 := ⟨2, rfl, ⟨18, _, by decide +kernel, rfl, rfl, by decide, tb_2 (List.mem_of_getElem? (i := 10) (by decide +kernel)) rfl, by decide +kernel, Or.inl rfl⟩, by decide, rfl⟩
theorem dX0_findSets_97 : Ins mX0_findSets 97 (.iinc 4 1) 3 100 := ⟨by decide +kernel, rfl⟩
theorem dX0_findSets_100 : Ins mX0_findSets 100 (.goto (-40)) 3 103 := ⟨by decide +kernel, rfl⟩
theorem dX0_findSets_103 : Ins mX0_findSets 103 (.return_) 1 104 := ⟨by decide +kernel, rfl⟩
theorem dX0_agrees_0 : Ins mX0_agrees 0 (.iconst 0) 1 1 := ⟨by decide +kernel, rfl⟩
theorem dX0_agrees_1 : Ins mX0_agrees 1 (.istore_n 3) 1 2 := ⟨by decide +kernel, rfl⟩
theorem dX0_agrees_2 : Ins mX0_agrees 2 (.iload_n 3) 1 3 := ⟨by decide +kernel, rfl⟩
theorem dX0_agrees_3 : Ins mX0_agrees 3 (.aload_n 2) 1 4 := ⟨by decide +kernel, rfl⟩
theorem dX0_agrees_4 : GgI mX0_agrees 4 7 7 4 := ⟨4, rfl, ⟨37, _, by decide +kernel, rfl, rfl, by decide, tb_1 (List.mem_of_getElem? (i := 91) (by decide +kernel)) rfl⟩, by decide, rfl⟩
theorem dX0_agrees_7 : Ins mX0_agrees 7 (.if_icmp .ge 36) 3 10 := ⟨by decide +kernel, rfl⟩
theorem dX0_agrees_10 : Ins mX0_agrees 10 (.iload_n 3) 1 11 := ⟨by decide +kernel, rfl⟩
theorem dX0_agrees_11 : Ins mX0_agrees 11 (.bipush 99) 2 13 := ⟨by decide +kernel, rfl⟩
theorem dX0_agrees_13 : Ins mX0_agrees 13 (.if_icmp .ge 30) 3 16 := ⟨by decide +kernel, rfl⟩
theorem dX0_agrees_16 : Ins mX0_agrees 16 (.iload_n 1) 1 17 := ⟨by decide +kernel, rfl⟩
theorem dX0_agrees_17 : Ins mX0_agrees 17 (.aload_n 0) 1 18 := ⟨by decide +kernel, rfl⟩
theorem dX0_agrees_18 : GgR mX0_agrees 18 21 0 0 := ⟨0, rfl, ⟨9, _, by decide +kernel, rfl, rfl, by decide, tb_2 (List.mem_of_getElem? (i := 8) (by decide +kernel)) rfl⟩, by decide, rfl⟩
theorem dX0_agrees_21 : Ins mX0_agrees 21 (.iload_n 3) 1 22 := ⟨by decide +kernel, rfl⟩
theorem dX0_agrees_22 : Ins mX0_agrees 22 (.iaload) 1 23 := ⟨by decide +kernel, rfl⟩
theorem dX0_agrees_23 : Ins mX0_agrees 23 (.iand) 1 24 := ⟨by decide +kernel, rfl⟩
theorem dX0_agrees_24 : CalS mX0_agrees 24 27 mJ6_bitCount_0f7a4 := ⟨32, by decide +kernel, rfl, Or.inl (tb_4 (List.mem_of_getElem? (i := 222) (by decide +kernel)) rfl), meJ6_bitCount_0f7a4⟩
theorem dX0_agrees_27 : Ins mX0_agrees 27 (.aload_n 2) 1 28 := ⟨by decide +kernel, rfl⟩
theorem dX0_agrees_28 : Ins mX0_agrees 28 (.iload_n 3) 1 29 := ⟨by decide +kernel, rfl⟩
theorem dX0_agrees_29 : CalV mX0_agrees 29 32 mX8_secondOf := ⟨58, by decide +kernel, rfl, tb_5 (List.mem_of_getElem? (i := 13) (by decide +kernel)) rfl, meX8_secondOf⟩
theorem dX0_agrees_32 : Ins mX0_agrees 32 (.if_icmp .eq 5) 3 35 := ⟨by decide +kernel, rfl⟩
theorem dX0_agrees_35 : Ins mX0_agrees 35 (.iconst 0) 1 36 := ⟨by decide +kernel, rfl⟩
theorem dX0_agrees_36 : Ins mX0_agrees 36 (.ireturn) 1 37 := ⟨by decide +kernel, rfl⟩
theorem dX0_agrees_37 : Ins mX0_agrees 37 (.iinc 3 1) 3 40 := ⟨by decide +kernel, rfl⟩
theorem dX0_agrees_40 : Ins mX0_agrees 40 (.goto (-38)) 3 43 := ⟨by decide +kernel, rfl⟩
theorem dX0_agrees_43 : Ins mX0_agrees 43 (.iconst 1) 1 44 := ⟨by decide +kernel, rfl⟩
theorem dX0_agrees_44 : Ins mX0_agrees 44 (.ireturn) 1 45 := ⟨by decide +kernel, rfl⟩
theorem dX0_sure_0 : Ins mX0_sure 0 (.aload_n 0) 1 1 := ⟨by decide +kernel, rfl⟩
theorem dX0_sure_1 : GgI mX0_sure 1 4 0 2 := ⟨2, rfl, ⟨18, _, by decide +kernel, rfl, rfl, by decide, tb_2 (List.mem_of_getElem? (i := 10) (by decide +kernel)) rfl⟩, by decide, rfl⟩
theorem dX0_sure_4 : Ins mX0_sure 4 (.ifCond .le 12) 3 7 := ⟨by decide +kernel, rfl⟩
theorem dX0_sure_7 : Ins mX0_sure 7 (.aload_n 0) 1 8 := ⟨by decide +kernel, rfl⟩
theorem dX0_sure_8 : GgR mX0_sure 8 11 0 1 := ⟨1, rfl, ⟨15, _, by decide +kernel, rfl, rfl, by decide, tb_2 (List.mem_of_getElem? (i := 9) (by decide +kernel)) rfl⟩, by decide, rfl⟩
theorem dX0_sure_11 : Ins mX0_sure 11 (.iconst 0) 1 12 := ⟨by decide +kernel, rfl⟩
theorem dX0_sure_12 : Ins mX0_sure 12 (.iaload) 1 13 := ⟨by decide +kernel, rfl⟩
theorem dX0_sure_13 : Ins mX0_sure 13 (.goto 4) 3 16 := ⟨by decide +kernel, rfl⟩
theorem dX0_sure_16 : Ins mX0_sure 16 (.iconst 0) 1 17 := ⟨by decide +kernel, rfl⟩
theorem dX0_sure_17 : Ins mX0_sure 17 (.istore_n 1) 1 18 := ⟨by decide +kernel, rfl⟩
theorem dX0_sure_18 : Ins mX0_sure 18 (.iconst 0) 1 19 := ⟨by decide +kernel, rfl⟩
theorem dX0_sure_19 : Ins mX0_sure 19 (.istore_n 2) 1 20 := ⟨by decide +kernel, rfl⟩
theorem dX0_sure_20 : Ins mX0_sure 20 (.iload_n 2) 1 21 := ⟨by decide +kernel, rfl⟩
theorem dX0_sure_21 : Ins mX0_sure 21 (.aload_n 0) 1 22 := ⟨by decide +kernel, rfl⟩
theorem dX0_sure_22 : GgI mX0_sure 22 25 0 2 := ⟨2, rfl, ⟨18, _, by decide +kernel, rfl, rfl, by decide, tb_2 (List.mem_of_getElem? (i := 10) (by decide +kernel)) rfl⟩, by decide, rfl⟩
theorem dX0_sure_25 : Ins mX0_sure 25 (.if_icmp .ge 18) 3 28 := ⟨by decide +kernel, rfl⟩
theorem dX0_sure_28 : Ins mX0_sure 28 (.iload_n 1) 1 29 := ⟨by decide +kernel, rfl⟩
theorem dX0_sure_29 : Ins mX0_sure 29 (.aload_n 0) 1 30 := ⟨by decide +kernel, rfl⟩
theorem dX0_sure_30 : GgR mX0_sure 30 33 0 1 := ⟨1, rfl, ⟨15, _, by decide +kernel, rfl, rfl, by decide, tb_2 (List.mem_of_getElem? (i := 9) (by decide +kernel)) rfl⟩, by decide, rfl⟩
theorem dX0_sure_33 : Ins mX0_sure 33 (.iload_n 2) 1 34 := ⟨by decide +kernel, rfl⟩
theorem dX0_sure_34 : Ins mX0_sure 34 (.iaload) 1 35 := ⟨by decide +kernel, rfl⟩
theorem dX0_sure_35 : Ins mX0_sure 35 (.iand) 1 36 := ⟨by decide +kernel, rfl⟩
theorem dX0_sure_36 : Ins mX0_sure 36 (.istore_n 1) 1 37 := ⟨by decide +kernel, rfl⟩
theorem dX0_sure_37 : Ins mX0_sure 37 (.iinc 2 1) 3 40 := ⟨by decide +kernel, rfl⟩
theorem dX0_sure_40 : Ins mX0_sure 40 (.goto (-20)) 3 43 := ⟨by decide +kernel, rfl⟩
theorem dX0_sure_43 : Ins mX0_sure 43 (.iload_n 1) 1 44 := ⟨by decide +kernel, rfl⟩
theorem dX0_sure_44 : Ins mX0_sure 44 (.ireturn) 1 45 := ⟨by decide +kernel, rfl⟩
theorem dX0_never_0 : Ins mX0_never 0 (.aload_n 0) 1 1 := ⟨by decide +kernel, rfl⟩
theorem dX0_never_1 : GgI mX0_never 1 4 0 2 := ⟨2, rfl, ⟨18, _, by decide +kernel, rfl, rfl, by decide, tb_2 (List.mem_of_getElem? (i := 10) (by decide +kernel)) rfl⟩, by decide, rfl⟩
theorem dX0_never_4 : Ins mX0_never 4 (.ifCond .le 14) 3 7 := ⟨by decide +kernel, rfl⟩
theorem dX0_never_7 : Ins mX0_never 7 (.iconst 1) 1 8 := ⟨by decide +kernel, rfl⟩
theorem dX0_never_8 : Ins mX0_never 8 (.aload_n 1) 1 9 := ⟨by decide +kernel, rfl⟩
theorem dX0_never_9 : CalV mX0_never 9 12 mX7_horses := ⟨45, by decide +kernel, rfl, tb_5 (List.mem_of_getElem? (i := 7) (by decide +kernel)) rfl, meX7_horses⟩
theorem dX0_never_12 : Ins mX0_never 12 (.ishl) 1 13 := ⟨by decide +kernel, rfl⟩
theorem dX0_never_13 : Ins mX0_never 13 (.iconst 1) 1 14 := ⟨by decide +kernel, rfl⟩
theorem dX0_never_14 : Ins mX0_never 14 (.isub) 1 15 := ⟨by decide +kernel, rfl⟩
theorem dX0_never_15 : Ins mX0_never 15 (.goto 4) 3 18 := ⟨by decide +kernel, rfl⟩
theorem dX0_never_18 : Ins mX0_never 18 (.iconst 0) 1 19 := ⟨by decide +kernel, rfl⟩
theorem dX0_never_19 : Ins mX0_never 19 (.istore_n 2) 1 20 := ⟨by decide +kernel, rfl⟩
theorem dX0_never_20 : Ins mX0_never 20 (.iconst 0) 1 21 := ⟨by decide +kernel, rfl⟩
theorem dX0_never_21 : Ins mX0_never 21 (.istore_n 3) 1 22 := ⟨by decide +kernel, rfl⟩
theorem dX0_never_22 : Ins mX0_never 22 (.iload_n 3) 1 23 := ⟨by decide +kernel, rfl⟩
theorem dX0_never_23 : Ins mX0_never 23 (.aload_n 0) 1 24 := ⟨by decide +kernel, rfl⟩
theorem dX0_never_24 : GgI mX0_never 24 27 0 2 := ⟨2, rfl, ⟨18, _, by decide +kernel, rfl, rfl, by decide, tb_2 (List.mem_of_getElem? (i := 10) (by decide +kernel)) rfl⟩, by decide, rfl⟩
theorem dX0_never_27 : Ins mX0_never 27 (.if_icmp .ge 20) 3 30 := ⟨by decide +kernel, rfl⟩
theorem dX0_never_30 : Ins mX0_never 30 (.iload_n 2) 1 31 := ⟨by decide +kernel, rfl⟩
theorem dX0_never_31 : Ins mX0_never 31 (.aload_n 0) 1 32 := ⟨by decide +kernel, rfl⟩
theorem dX0_never_32 : GgR mX0_never 32 35 0 1 := ⟨1, rfl, ⟨15, _, by decide +kernel, rfl, rfl, by decide, tb_2 (List.mem_of_getElem? (i := 9) (by decide +kernel)) rfl⟩, by decide, rfl⟩
theorem dX0_never_35 : Ins mX0_never 35 (.iload_n 3) 1 36 := ⟨by decide +kernel, rfl⟩
theorem dX0_never_36 : Ins mX0_never 36 (.iaload) 1 37 := ⟨by decide +kernel, rfl⟩
theorem dX0_never_37 : Ins mX0_never 37 (.iconst (-1)) 1 38 := ⟨by decide +kernel, rfl⟩
theorem dX0_never_38 : Ins mX0_never 38 (.ixor) 1 39 := ⟨by decide +kernel, rfl⟩
theorem dX0_never_39 : Ins mX0_never 39 (.iand) 1 40 := ⟨by decide +kernel, rfl⟩
theorem dX0_never_40 : Ins mX0_never 40 (.istore_n 2) 1 41 := ⟨by decide +kernel, rfl⟩
theorem dX0_never_41 : Ins mX0_never 41 (.iinc 3 1) 3 44 := ⟨by decide +kernel, rfl⟩
theorem dX0_never_44 : Ins mX0_never 44 (.goto (-22)) 3 47 := ⟨by decide +kernel, rfl⟩
theorem dX0_never_47 : Ins mX0_never 47 (.iload_n 2) 1 48 := ⟨by decide +kernel, rfl⟩
theorem dX0_never_48 : Ins mX0_never 48 (.ireturn) 1 49 := ⟨by decide +kernel, rfl⟩
theorem dX0_unlikeCounts_0 : Ins mX0_unlikeCounts 0 (.iconst 0) 1 1 := ⟨by decide +kernel, rfl⟩
theorem dX0_unlikeCounts_1 : Ins mX0_unlikeCounts 1 (.istore_n 2) 1 2 := ⟨by decide +kernel, rfl⟩
theorem dX0_unlikeCounts_2 : Ins mX0_unlikeCounts 2 (.iconst 0) 1 3 := ⟨by decide +kernel, rfl⟩
theorem dX0_unlikeCounts_3 : Ins mX0_unlikeCounts 3 (.istore_n 3) 1 4 := ⟨by decide +kernel, rfl⟩
theorem dX0_unlikeCounts_4 : Ins mX0_unlikeCounts 4 (.iload_n 3) 1 5 := ⟨by decide +kernel, rfl⟩
theorem dX0_unlikeCounts_5 : Ins mX0_unlikeCounts 5 (.aload_n 0) 1 6 := ⟨by decide +kernel, rfl⟩
theorem dX0_unlikeCounts_6 : GgI mX0_unlikeCounts 6 9 0 2 := ⟨2, rfl, ⟨18, _, by decide +kernel, rfl, rfl, by decide, tb_2 (List.mem_of_getElem? (i := 10) (by decide +kernel)) rfl⟩, by decide, rfl⟩
theorem dX0_unlikeCounts_9 : Ins mX0_unlikeCounts 9 (.if_icmp .ge 40) 3 12 := ⟨by decide +kernel, rfl⟩
theorem dX0_unlikeCounts_12 : Ins mX0_unlikeCounts 12 (.iload_n 1) 1 13 := ⟨by decide +kernel, rfl⟩
theorem dX0_unlikeCounts_13 : Ins mX0_unlikeCounts 13 (.ifCond .lt 36) 3 16 := ⟨by decide +kernel, rfl⟩
theorem dX0_unlikeCounts_16 : Ins mX0_unlikeCounts 16 (.iload_n 1) 1 17 := ⟨by decide +kernel, rfl⟩
theorem dX0_unlikeCounts_17 : Ins mX0_unlikeCounts 17 (.bipush 99) 2 19 := ⟨by decide +kernel, rfl⟩
theorem dX0_unlikeCounts_19 : Ins mX0_unlikeCounts 19 (.if_icmp .ge 30) 3 22 := ⟨by decide +kernel, rfl⟩
theorem dX0_unlikeCounts_22 : Ins mX0_unlikeCounts 22 (.iload_n 2) 1 23 := ⟨by decide +kernel, rfl⟩
theorem dX0_unlikeCounts_23 : Ins mX0_unlikeCounts 23 (.iconst 1) 1 24 := ⟨by decide +kernel, rfl⟩
theorem dX0_unlikeCounts_24 : Ins mX0_unlikeCounts 24 (.aload_n 0) 1 25 := ⟨by decide +kernel, rfl⟩
theorem dX0_unlikeCounts_25 : GgR mX0_unlikeCounts 25 28 0 1 := ⟨1, rfl, ⟨15, _, by decide +kernel, rfl, rfl, by decide, tb_2 (List.mem_of_getElem? (i := 9) (by decide +kernel)) rfl⟩, by decide, rfl⟩
theorem dX0_unlikeCounts_28 : Ins mX0_unlikeCounts 28 (.iload_n 3) 1 29 := ⟨by decide +kernel, rfl⟩
theorem dX0_unlikeCounts_29 : Ins mX0_unlikeCounts 29 (.iaload) 1 30 := ⟨by decide +kernel, rfl⟩
theorem dX0_unlikeCounts_30 : Ins mX0_unlikeCounts 30 (.aload_n 0) 1 31 := ⟨by decide +kernel, rfl⟩
theorem dX0_unlikeCounts_31 : GgR mX0_unlikeCounts 31 34 0 0 := ⟨0, rfl, ⟨9, _, by decide +kernel, rfl, rfl, by decide, tb_2 (List.mem_of_getElem? (i := 8) (by decide +kernel)) rfl⟩, by decide, rfl⟩
theorem dX0_unlikeCounts_34 : Ins mX0_unlikeCounts 34 (.iload_n 1) 1 35 := ⟨by decide +kernel, rfl⟩
theorem dX0_unlikeCounts_35 : Ins mX0_unlikeCounts 35 (.iaload) 1 36 := ⟨by decide +kernel, rfl⟩
theorem dX0_unlikeCounts_36 : Ins mX0_unlikeCounts 36 (.iand) 1 37 := ⟨by decide +kernel, rfl⟩
theorem dX0_unlikeCounts_37 : CalS mX0_unlikeCounts 37 40 mJ6_bitCount_0f7a4 := ⟨32, by decide +kernel, rfl, Or.inl (tb_4 (List.mem_of_getElem? (i := 222) (by decide +kernel)) rfl), meJ6_bitCount_0f7a4⟩
theorem dX0_unlikeCounts_40 : Ins mX0_unlikeCounts 40 (.ishl) 1 41 := ⟨by decide +kernel, rfl⟩
theorem dX0_unlikeCounts_41 : Ins mX0_unlikeCounts 41 (.ior) 1 42 := ⟨by decide +kernel, rfl⟩
theorem dX0_unlikeCounts_42 : Ins mX0_unlikeCounts 42 (.istore_n 2) 1 43 := ⟨by decide +kernel, rfl⟩
theorem dX0_unlikeCounts_43 : Ins mX0_unlikeCounts 43 (.iinc 3 1) 3 46 := ⟨by decide +kernel, rfl⟩
theorem dX0_unlikeCounts_46 : Ins mX0_unlikeCounts 46 (.goto (-42)) 3 49 := ⟨by decide +kernel, rfl⟩
theorem dX0_unlikeCounts_49 : Ins mX0_unlikeCounts 49 (.iload_n 2) 1 50 := ⟨by decide +kernel, rfl⟩
theorem dX0_unlikeCounts_50 : CalS mX0_unlikeCounts 50 53 mJ6_bitCount_0f7a4 := ⟨32, by decide +kernel, rfl, Or.inl (tb_4 (List.mem_of_getElem? (i := 222) (by decide +kernel)) rfl), meJ6_bitCount_0f7a4⟩
theorem dX0_unlikeCounts_53 : Ins mX0_unlikeCounts 53 (.ireturn) 1 54 := ⟨by decide +kernel, rfl⟩
theorem dX1_init_0 : Ins mX1_init 0 (.aload_n 0) 1 1 := ⟨by decide +kernel, rfl⟩
theorem dX1_init_1 : Ins mX1_init 1 (.invokespecial 3) 3 4 := ⟨by decide +kernel, rfl⟩
theorem dX1_init_4 : Ins mX1_init 4 (.aload_n 0) 1 5 := ⟨by decide +kernel, rfl⟩
theorem dX1_init_5 : Ins mX1_init 5 (.bipush 64) 2 7 := ⟨by decide +kernel, rfl⟩
theorem dX1_init_7 : Ins mX1_init 7 (.newarray .int) 2 9 := ⟨by decide +kernel, rfl⟩
theorem dX1_init_9 : GpR mX1_init 9 12 1 0 := ⟨0, rfl, _, ⟨9, _, by decide +kernel, rfl, rfl, by decide, tb_1 (List.mem_of_getElem? (i := 233) (by decide +kernel)) rfl, tyX1_ok 0 (by decide), Or.inr ⟨rfl, rfl, rfl⟩⟩, by decide, rfl, Or.inr ⟨_, rfl⟩⟩
theorem dX1_init_12 : Ins mX1_init 12 (.aload_n 0) 1 13 := ⟨by decide +kernel, rfl⟩
theorem dX1_init_13 : Ins mX1_init 13 (.bipush 9) 2 15 := ⟨by decide +kernel, rfl⟩
theorem dX1_init_15 : Ins mX1_init 15 (.newarray .int) 2 17 := ⟨by decide +kernel, rfl⟩
theorem dX1_init_17 : GpR mX1_init 17 20 1 1 := ⟨1, rfl, _, ⟨15, _, by decide +kernel, rfl, rfl, by decide, tb_1 (List.mem_of_getElem? (i := 234) (by decide +kernel)) rfl, tyX1_ok 1 (by decide), Or.inr ⟨rfl, rfl, rfl⟩⟩, by decide, rfl, Or.inr ⟨_, rfl⟩⟩
theorem dX1_init_20 : Ins mX1_init 20 (.return_) 1 21 := ⟨by decide +kernel, rfl⟩
theorem dX1_wears_0 : Ins mX1_wears 0 (.aload_n 1) 1 1 := ⟨by decide +kernel, rfl⟩
theorem dX1_wears_1 : Ins mX1_wears 1 (.ifnull 11) 3 4 := ⟨by decide +kernel, rfl⟩
theorem dX1_wears_4 : Ins mX1_wears 4 (.aload_n 1) 1 5 := ⟨by decide +kernel, rfl⟩
theorem dX1_wears_5 : Ins mX1_wears 5 (.iconst 0) 1 6 := ⟨by decide +kernel, rfl⟩
theorem dX1_wears_6 : CalV mX1_wears 6 9 mX5_has := ⟨18, by decide +kernel, rfl, tb_3 (List.mem_of_getElem? (i := 237) (by decide +kernel)) rfl, meX5_has⟩
theorem dX1_wears_9 : Ins mX1_wears 9 (.ifCond .ne 5) 3 12 := ⟨by decide +kernel, rfl⟩
theorem dX1_wears_12 : Ins mX1_wears 12 (.iconst 1) 1 13 := ⟨by decide +kernel, rfl⟩
theorem dX1_wears_13 : Ins mX1_wears 13 (.ireturn) 1 14 := ⟨by decide +kernel, rfl⟩
theorem dX1_wears_14 : Ins mX1_wears 14 (.aload_n 0) 1 15 := ⟨by decide +kernel, rfl⟩
theorem dX1_wears_15 : Ins mX1_wears 15 (.aload_n 2) 1 16 := ⟨by decide +kernel, rfl⟩
theorem dX1_wears_16 : Ins mX1_wears 16 (.iload_n 3) 1 17 := ⟨by decide +kernel, rfl⟩
theorem dX1_wears_17 : Ins mX1_wears 17 (.iload 4) 2 19 := ⟨by decide +kernel, rfl⟩
theorem dX1_wears_19 : CalV mX1_wears 19 22 mX1_tellNames := ⟨24, by decide +kernel, rfl, tb_3 (List.mem_of_getElem? (i := 238) (by decide +kernel)) rfl, meX1_tellNames⟩
theorem dX1_wears_22 : Ins mX1_wears 22 (.aload_n 0) 1 23 := ⟨by decide +kernel, rfl⟩
theorem dX1_wears_23 : Ins mX1_wears 23 (.aload_n 1) 1 24 := ⟨by decide +kernel, rfl⟩
theorem dX1_wears_24 : Ins mX1_wears 24 (.iconst 0) 1 25 := ⟨by decide +kernel, rfl⟩
theorem dX1_wears_25 : Ins mX1_wears 25 (.aload_n 2) 1 26 := ⟨by decide +kernel, rfl⟩
theorem dX1_wears_26 : CalV mX1_wears 26 29 mX1_ask := ⟨28, by decide +kernel, rfl, tb_4 (List.mem_of_getElem? (i := 14) (by decide +kernel)) rfl, meX1_ask⟩
theorem dX1_wears_29 : Ins mX1_wears 29 (.i2l) 1 30 := ⟨by decide +kernel, rfl⟩
theorem dX1_wears_30 : Ins mX1_wears 30 (.iconst 0) 1 31 := ⟨by decide +kernel, rfl⟩
theorem dX1_wears_31 : Ins mX1_wears 31 (.bipush 9) 2 33 := ⟨by decide +kernel, rfl⟩
theorem dX1_wears_33 : CalS mX1_wears 33 36 mX1_clamp := ⟨32, by decide +kernel, rfl, Or.inl (tb_4 (List.mem_of_getElem? (i := 32) (by decide +kernel)) rfl), meX1_clamp⟩
theorem dX1_wears_36 : Ins mX1_wears 36 (.ireturn) 1 37 := ⟨by decide +kernel, rfl⟩
theorem dX1_tires_0 : Ins mX1_tires 0 (.aload_n 2) 1 1 := ⟨by decide +kernel, rfl⟩
theorem dX1_tires_1 : Ins mX1_tires 1 (.iload_n 3) 1 2 := ⟨by decide +kernel, rfl⟩
theorem dX1_tires_2 : CalV mX1_tires 2 5 mX7_seatOf := ⟨36, by decide +kernel, rfl, tb_4 (List.mem_of_getElem? (i := 56) (by decide +kernel)) rfl, meX7_seatOf⟩
theorem dX1_tires_5 : Ins mX1_tires 5 (.istore 5) 2 7 := ⟨by decide +kernel, rfl⟩
theorem dX1_tires_7 : Ins mX1_tires 7 (.iload 5) 2 9 := ⟨by decide +kernel, rfl⟩
theorem dX1_tires_9 : Ins mX1_tires 9 (.iconst (-1)) 1 10 := ⟨by decide +kernel, rfl⟩
theorem dX1_tires_10 : Ins mX1_tires 10 (.if_icmp .ne 5) 3 13 := ⟨by decide +kernel, rfl⟩
theorem dX1_tires_13 : Ins mX1_tires 13 (.iconst 0) 1 14 := ⟨by decide +kernel, rfl⟩
theorem dX1_tires_14 : Ins mX1_tires 14 (.ireturn) 1 15 := ⟨by decide +kernel, rfl⟩
theorem dX1_tires_15 : Ins mX1_tires 15 (.aload_n 1) 1 16 := ⟨by decide +kernel, rfl⟩
theorem dX1_tires_16 : Ins mX1_tires 16 (.ifnull 11) 3 19 := ⟨by decide +kernel, rfl⟩
theorem dX1_tires_19 : Ins mX1_tires 19 (.aload_n 1) 1 20 := ⟨by decide +kernel, rfl⟩
theorem dX1_tires_20 : Ins mX1_tires 20 (.iconst 1) 1 21 := ⟨by decide +kernel, rfl⟩
theorem dX1_tires_21 : CalV mX1_tires 21 24 mX5_has := ⟨18, by decide +kernel, rfl, tb_3 (List.mem_of_getElem? (i := 237) (by decide +kernel)) rfl, meX5_has⟩
theorem dX1_tires_24 : Ins mX1_tires 24 (.ifCond .ne 11) 3 27 := ⟨by decide +kernel, rfl⟩
theorem dX1_tires_27 : Ins mX1_tires 27 (.iload 4) 2 29 := ⟨by decide +kernel, rfl⟩
theorem dX1_tires_29 : Ins mX1_tires 29 (.iload 5) 2 31 := ⟨by decide +kernel, rfl⟩
theorem dX1_tires_31 : Ins mX1_tires 31 (.ishr) 1 32 := ⟨by decide +kernel, rfl⟩
theorem dX1_tires_32 : Ins mX1_tires 32 (.iconst 1) 1 33 := ⟨by decide +kernel, rfl⟩
theorem dX1_tires_33 : Ins mX1_tires 33 (.iand) 1 34 := ⟨by decide +kernel, rfl⟩
theorem dX1_tires_34 : Ins mX1_tires 34 (.ireturn) 1 35 := ⟨by decide +kernel, rfl⟩
theorem dX1_tires_35 : Ins mX1_tires 35 (.aload_n 0) 1 36 := ⟨by decide +kernel, rfl⟩
theorem dX1_tires_36 : Ins mX1_tires 36 (.aload_n 2) 1 37 := ⟨by decide +kernel, rfl⟩
theorem dX1_tires_37 : Ins mX1_tires 37 (.iload 5) 2 39 := ⟨by decide +kernel, rfl⟩
theorem dX1_tires_39 : Ins mX1_tires 39 (.iload 4) 2 41 := ⟨by decide +kernel, rfl⟩
theorem dX1_tires_41 : CalS mX1_tires 41 44 mJ6_bitCount_0f7a4 := ⟨42, by decide +kernel, rfl, Or.inl (tb_4 (List.mem_of_getElem? (i := 57) (by decide +kernel)) rfl), meJ6_bitCount_0f7a4⟩
theorem dX1_tires_44 : CalV mX1_tires 44 47 mX1_tellNames := ⟨24, by decide +kernel, rfl, tb_3 (List.mem_of_getElem? (i := 238) (by decide +kernel)) rfl, meX1_tellNames⟩
theorem dX1_tires_47 : Ins mX1_tires 47 (.aload_n 0) 1 48 := ⟨by decide +kernel, rfl⟩
theorem dX1_tires_48 : Ins mX1_tires 48 (.aload_n 1) 1 49 := ⟨by decide +kernel, rfl⟩
theorem dX1_tires_49 : Ins mX1_tires 49 (.iconst 1) 1 50 := ⟨by decide +kernel, rfl⟩
theorem dX1_tires_50 : Ins mX1_tires 50 (.aload_n 2) 1 51 := ⟨by decide +kernel, rfl⟩
theorem dX1_tires_51 : CalV mX1_tires 51 54 mX1_ask := ⟨28, by decide +kernel, rfl, tb_4 (List.mem_of_getElem? (i := 14) (by decide +kernel)) rfl, meX1_ask⟩
theorem dX1_tires_54 : Ins mX1_tires 54 (.i2l) 1 55 := ⟨by decide +kernel, rfl⟩
theorem dX1_tires_55 : Ins mX1_tires 55 (.iconst 0) 1 56 := ⟨by decide +kernel, rfl⟩
theorem dX1_tires_56 : Ins mX1_tires 56 (.bipush 9) 2 58 := ⟨by decide +kernel, rfl⟩
theorem dX1_tires_58 : CalS mX1_tires 58 61 mX1_clamp := ⟨32, by decide +kernel, rfl, Or.inl (tb_4 (List.mem_of_getElem? (i := 32) (by decide +kernel)) rfl), meX1_clamp⟩
theorem dX1_tires_61 : Ins mX1_tires 61 (.ireturn) 1 62 := ⟨by decide +kernel, rfl⟩
theorem dX1_seen_0 : Ins mX1_seen 0 (.aload_n 1) 1 1 := ⟨by decide +kernel, rfl⟩
theorem dX1_seen_1 : Ins mX1_seen 1 (.ifnull 11) 3 4 := ⟨by decide +kernel, rfl⟩
theorem dX1_seen_4 : Ins mX1_seen 4 (.aload_n 1) 1 5 := ⟨by decide +kernel, rfl⟩
theorem dX1_seen_5 : Ins mX1_seen 5 (.iconst 2) 1 6 := ⟨by decide +kernel, rfl⟩
theorem dX1_seen_6 : CalV mX1_seen 6 9 mX5_has := ⟨18, by decide +kernel, rfl, tb_3 (List.mem_of_getElem? (i := 237) (by decide +kernel)) rfl, meX5_has⟩
theorem dX1_seen_9 : Ins mX1_seen 9 (.ifCond .ne 8) 3 12 := ⟨by decide +kernel, rfl⟩
theorem dX1_seen_12 : Ins mX1_seen 12 (.bipush 8) 2 14 := ⟨by decide +kernel, rfl⟩
theorem dX1_seen_14 : Ins mX1_seen 14 (.iload_n 3) 1 15 := ⟨by decide +kernel, rfl⟩
theorem dX1_seen_15 : Ins mX1_seen 15 (.imul) 1 16 := ⟨by decide +kernel, rfl⟩
theorem dX1_seen_16 : Ins mX1_seen 16 (.ireturn) 1 17 := ⟨by decide +kernel, rfl⟩
theorem dX1_seen_17 : Ins mX1_seen 17 (.aload_n 0) 1 18 := ⟨by decide +kernel, rfl⟩
theorem dX1_seen_18 : Ins mX1_seen 18 (.aload_n 2) 1 19 := ⟨by decide +kernel, rfl⟩
theorem dX1_seen_19 : Ins mX1_seen 19 (.iconst (-1)) 1 20 := ⟨by decide +kernel, rfl⟩
theorem dX1_seen_20 : Ins mX1_seen 20 (.iload_n 3) 1 21 := ⟨by decide +kernel, rfl⟩
theorem dX1_seen_21 : CalV mX1_seen 21 24 mX1_tellNames := ⟨24, by decide +kernel, rfl, tb_3 (List.mem_of_getElem? (i := 238) (by decide +kernel)) rfl, meX1_tellNames⟩
theorem dX1_seen_24 : Ins mX1_seen 24 (.aload_n 0) 1 25 := ⟨by decide +kernel, rfl⟩
theorem dX1_seen_25 : Ins mX1_seen 25 (.aload_n 1) 1 26 := ⟨by decide +kernel, rfl⟩
theorem dX1_seen_26 : Ins mX1_seen 26 (.iconst 2) 1 27 := ⟨by decide +kernel, rfl⟩
theorem dX1_seen_27 : Ins mX1_seen 27 (.aload_n 2) 1 28 := ⟨by decide +kernel, rfl⟩
theorem dX1_seen_28 : CalV mX1_seen 28 31 mX1_ask := ⟨28, by decide +kernel, rfl, tb_4 (List.mem_of_getElem? (i := 14) (by decide +kernel)) rfl, meX1_ask⟩
theorem dX1_seen_31 : Ins mX1_seen 31 (.i2l) 1 32 := ⟨by decide +kernel, rfl⟩
theorem dX1_seen_32 : Ins mX1_seen 32 (.iconst 0) 1 33 := ⟨by decide +kernel, rfl⟩
theorem dX1_seen_33 : Ins mX1_seen 33 (.bipush 99) 2 35 := ⟨by decide +kernel, rfl⟩
theorem dX1_seen_35 : CalS mX1_seen 35 38 mX1_clamp := ⟨32, by decide +kernel, rfl, Or.inl (tb_4 (List.mem_of_getElem? (i := 32) (by decide +kernel)) rfl), meX1_clamp⟩
theorem dX1_seen_38 : Ins mX1_seen 38 (.ireturn) 1 39 := ⟨by decide +kernel, rfl⟩
theorem dX1_tellNames_0 : Ins mX1_tellNames 0 (.aload_n 1) 1 1 := ⟨by decide +kernel, rfl⟩
theorem dX1_tellNames_1 : Ins mX1_tellNames 1 (.iload_n 2) 1 2 := ⟨by decide +kernel, rfl⟩
theorem dX1_tellNames_2 : CalV mX1_tellNames 2 5 mX7_riderOf := ⟨47, by decide +kernel, rfl, tb_4 (List.mem_of_getElem? (i := 2) (by decide +kernel)) rfl, meX7_riderOf⟩
theorem dX1_tellNames_5 : Ins mX1_tellNames 5 (.istore 4) 2 7 := ⟨by decide +kernel, rfl⟩
theorem dX1_tellNames_7 : Ins mX1_tellNames 7 (.aload_n 0) 1 8 := ⟨by decide +kernel, rfl⟩
theorem dX1_tellNames_8 : GgR mX1_tellNames 8 11 1 1 := ⟨1, rfl, ⟨15, _, by decide +kernel, rfl, rfl, by decide, tb_1 (List.mem_of_getElem? (i := 234) (by decide +kernel)) rfl⟩, by decide, rfl⟩
theorem dX1_tellNames_11 : Ins mX1_tellNames 11 (.iconst 0) 1 12 := ⟨by decide +kernel, rfl⟩
theorem dX1_tellNames_12 : Ins mX1_tellNames 12 (.aload_n 1) 1 13 := ⟨by decide +kernel, rfl⟩
theorem dX1_tellNames_13 : CalV mX1_tellNames 13 16 mX7_thisMinute := ⟨50, by decide +kernel, rfl, tb_4 (List.mem_of_getElem? (i := 3) (by decide +kernel)) rfl, meX7_thisMinute⟩
theorem dX1_tellNames_16 : Ins mX1_tellNames 16 (.iastore) 1 17 := ⟨by decide +kernel, rfl⟩
theorem dX1_tellNames_17 : Ins mX1_tellNames 17 (.aload_n 0) 1 18 := ⟨by decide +kernel, rfl⟩
theorem dX1_tellNames_18 : GgR mX1_tellNames 18 21 1 1 := ⟨1, rfl, ⟨15, _, by decide +kernel, rfl, rfl, by decide, tb_1 (List.mem_of_getElem? (i := 234) (by decide +kernel)) rfl⟩, by decide, rfl⟩
theorem dX1_tellNames_21 : Ins mX1_tellNames 21 (.iconst 1) 1 22 := ⟨by decide +kernel, rfl⟩
theorem dX1_tellNames_22 : Ins mX1_tellNames 22 (.aload_n 1) 1 23 := ⟨by decide +kernel, rfl⟩
theorem dX1_tellNames_23 : CalV mX1_tellNames 23 26 mX7_snow := ⟨54, by decide +kernel, rfl, tb_4 (List.mem_of_getElem? (i := 4) (by decide +kernel)) rfl, meX7_snow⟩
theorem dX1_tellNames_26 : Ins mX1_tellNames 26 (.iastore) 1 27 := ⟨by decide +kernel, rfl⟩
theorem dX1_tellNames_27 : Ins mX1_tellNames 27 (.aload_n 0) 1 28 := ⟨by decide +kernel, rfl⟩
theorem dX1_tellNames_28 : GgR mX1_tellNames 28 31 1 1 := ⟨1, rfl, ⟨15, _, by decide +kernel, rfl, rfl, by decide, tb_1 (List.mem_of_getElem? (i := 234) (by decide +kernel)) rfl⟩, by decide, rfl⟩
theorem dX1_tellNames_31 : Ins mX1_tellNames 31 (.iconst 2) 1 32 := ⟨by decide +kernel, rfl⟩
theorem dX1_tellNames_32 : Ins mX1_tellNames 32 (.iload_n 3) 1 33 := ⟨by decide +kernel, rfl⟩
theorem dX1_tellNames_33 : Ins mX1_tellNames 33 (.iastore) 1 34 := ⟨by decide +kernel, rfl⟩
theorem dX1_tellNames_34 : Ins mX1_tellNames 34 (.aload_n 0) 1 35 := ⟨by decide +kernel, rfl⟩
theorem dX1_tellNames_35 : GgR mX1_tellNames 35 38 1 1 := ⟨1, rfl, ⟨15, _, by decide +kernel, rfl, rfl, by decide, tb_1 (List.mem_of_getElem? (i := 234) (by decide +kernel)) rfl⟩, by decide, rfl⟩
theorem dX1_tellNames_38 : Ins mX1_tellNames 38 (.iconst 3) 1 39 := ⟨by decide +kernel, rfl⟩
theorem dX1_tellNames_39 : Ins mX1_tellNames 39 (.iload_n 2) 1 40 := ⟨by decide +kernel, rfl⟩
theorem dX1_tellNames_40 : Ins mX1_tellNames 40 (.iastore) 1 41 := ⟨by decide +kernel, rfl⟩
theorem dX1_tellNames_41 : Ins mX1_tellNames 41 (.aload_n 0) 1 42 := ⟨by decide +kernel, rfl⟩
theorem dX1_tellNames_42 : GgR mX1_tellNames 42 45 1 1 := ⟨1, rfl, ⟨15, _, by decide +kernel, rfl, rfl, by decide, tb_1 (List.mem_of_getElem? (i := 234) (by decide +kernel)) rfl⟩, by decide, rfl⟩
theorem dX1_tellNames_45 : Ins mX1_tellNames 45 (.iconst 4) 1 46 := ⟨by decide +kernel, rfl⟩
theorem dX1_tellNames_46 : Ins mX1_tellNames 46 (.aload_n 1) 1 47 := ⟨by decide +kernel, rfl⟩
theorem dX1_tellNames_47 : Ins mX1_tellNames 47 (.iload_n 2) 1 48 := ⟨by decide +kernel, rfl⟩
theorem dX1_tellNames_48 : CalV mX1_tellNames 48 51 mX7_wearOf := ⟨57, by decide +kernel, rfl, tb_4 (List.mem_of_getElem? (i := 8) (by decide +kernel)) rfl, meX7_wearOf⟩
theorem dX1_tellNames_51 : Ins mX1_tellNames 51 (.iastore) 1 52 := ⟨by decide +kernel, rfl⟩
theorem dX1_tellNames_52 : Ins mX1_tellNames 52 (.aload_n 0) 1 53 := ⟨by decide +kernel, rfl⟩
theorem dX1_tellNames_53 : GgR mX1_tellNames 53 56 1 1 := ⟨1, rfl, ⟨15, _, by decide +kernel, rfl, rfl, by decide, tb_1 (List.mem_of_getElem? (i := 234) (by decide +kernel)) rfl⟩, by decide, rfl⟩
theorem dX1_tellNames_56 : Ins mX1_tellNames 56 (.iconst 5) 1 57 := ⟨by decide +kernel, rfl⟩
theorem dX1_tellNames_57 : Ins mX1_tellNames 57 (.iload 4) 2 59 := ⟨by decide +kernel, rfl⟩
theorem dX1_tellNames_59 : Ins mX1_tellNames 59 (.iastore) 1 60 := ⟨by decide +kernel, rfl⟩
theorem dX1_tellNames_60 : Ins mX1_tellNames 60 (.aload_n 0) 1 61 := ⟨by decide +kernel, rfl⟩
theorem dX1_tellNames_61 : GgR mX1_tellNames 61 64 1 1 := ⟨1, rfl, ⟨15, _, by decide +kernel, rfl, rfl, by decide, tb_1 (List.mem_of_getElem? (i := 234) (by decide +kernel)) rfl⟩, by decide, rfl⟩
theorem dX1_tellNames_64 : Ins mX1_tellNames 64 (.bipush 6) 2 66 := ⟨by decide +kernel, rfl⟩
theorem dX1_tellNames_66 : Ins mX1_tellNames 66 (.aload_n 1) 1 67 := ⟨by decide +kernel, rfl⟩
theorem dX1_tellNames_67 : Ins mX1_tellNames 67 (.iload 4) 2 69 := ⟨by decide +kernel, rfl⟩
theorem dX1_tellNames_69 : CalV mX1_tellNames 69 72 mX7_sizeOf := ⟨60, by decide +kernel, rfl, tb_4 (List.mem_of_getElem? (i := 9) (by decide +kernel)) rfl, meX7_sizeOf⟩
theorem dX1_tellNames_72 : Ins mX1_tellNames 72 (.iastore) 1 73 := ⟨by decide +kernel, rfl⟩
theorem dX1_tellNames_73 : Ins mX1_tellNames 73 (.aload_n 0) 1 74 := ⟨by decide +kernel, rfl⟩
theorem dX1_tellNames_74 : GgR mX1_tellNames 74 77 1 1 := ⟨1, rfl, ⟨15, _, by decide +kernel, rfl, rfl, by decide, tb_1 (List.mem_of_getElem? (i := 234) (by decide +kernel)) rfl⟩, by decide, rfl⟩
theorem dX1_tellNames_77 : Ins mX1_tellNames 77 (.bipush 7) 2 79 := ⟨by decide +kernel, rfl⟩
theorem dX1_tellNames_79 : Ins mX1_tellNames 79 (.aload_n 1) 1 80 := ⟨by decide +kernel, rfl⟩
theorem dX1_tellNames_80 : Ins mX1_tellNames 80 (.iload 4) 2 82 := ⟨by decide +kernel, rfl⟩
theorem dX1_tellNames_82 : CalV mX1_tellNames 82 85 mX7_tiredOf := ⟨63, by decide +kernel, rfl, tb_4 (List.mem_of_getElem? (i := 13) (by decide +kernel)) rfl, meX7_tiredOf⟩
theorem dX1_tellNames_85 : Ins mX1_tellNames 85 (.iastore) 1 86 := ⟨by decide +kernel, rfl⟩
theorem dX1_tellNames_86 : Ins mX1_tellNames 86 (.aload_n 0) 1 87 := ⟨by decide +kernel, rfl⟩
theorem dX1_tellNames_87 : GgR mX1_tellNames 87 90 1 1 := ⟨1, rfl, ⟨15, _, by decide +kernel, rfl, rfl, by decide, tb_1 (List.mem_of_getElem? (i := 234) (by decide +kernel)) rfl⟩, by decide, rfl⟩
theorem dX1_tellNames_90 : Ins mX1_tellNames 90 (.bipush 8) 2 92 := ⟨by decide +kernel, rfl⟩
theorem dX1_tellNames_92 : Ins mX1_tellNames 92 (.iload 4) 2 94 := ⟨by decide +kernel, rfl⟩
theorem dX1_tellNames_94 : Ins mX1_tellNames 94 (.iastore) 1 95 := ⟨by decide +kernel, rfl⟩
theorem dX1_tellNames_95 : Ins mX1_tellNames 95 (.return_) 1 96 := ⟨by decide +kernel, rfl⟩
theorem dX1_ask_0 : Ins mX1_ask 0 (.iconst 0) 1 1 := ⟨by decide +kernel, rfl⟩
theorem dX1_ask_1 : Ins mX1_ask 1 (.istore 4) 2 3 := ⟨by decide +kernel, rfl⟩
theorem dX1_ask_3 : Ins mX1_ask 3 (.aload_n 1) 1 4 := ⟨by decide +kernel, rfl⟩
theorem dX1_ask_4 : GgR mX1_ask 4 7 4 4 := ⟨4, rfl, ⟨66, _, by decide +kernel, rfl, rfl, by decide, tb_1 (List.mem_of_getElem? (i := 159) (by decide +kernel)) rfl⟩, by decide, rfl⟩
theorem dX1_ask_7 : Ins mX1_ask 7 (.iload_n 2) 1 8 := ⟨by decide +kernel, rfl⟩
theorem dX1_ask_8 : Ins mX1_ask 8 (.iaload) 1 9 := ⟨by decide +kernel, rfl⟩
theorem dX1_ask_9 : Ins mX1_ask 9 (.istore 5) 2 11 := ⟨by decide +kernel, rfl⟩
theorem dX1_ask_11 : Ins mX1_ask 11 (.aload_n 1) 1 12 := ⟨by decide +kernel, rfl⟩
theorem dX1_ask_12 : GgR mX1_ask 12 15 4 3 := ⟨3, rfl, ⟨69, _, by decide +kernel, rfl, rfl, by decide, tb_1 (List.mem_of_getElem? (i := 157) (by decide +kernel)) rfl⟩, by decide, rfl⟩
theorem dX1_ask_15 : Ins mX1_ask 15 (.iload_n 2) 1 16 := ⟨by decide +kernel, rfl⟩
theorem dX1_ask_16 : Ins mX1_ask 16 (.iaload) 1 17 := ⟨by decide +kernel, rfl⟩
theorem dX1_ask_17 : Ins mX1_ask 17 (.istore 6) 2 19 := ⟨by decide +kernel, rfl⟩
theorem dX1_ask_19 : Ins mX1_ask 19 (.iload 6) 2 21 := ⟨by decide +kernel, rfl⟩
theorem dX1_ask_21 : Ins mX1_ask 21 (.ifCond .lt 297) 3 24 := ⟨by decide +kernel, rfl⟩
theorem dX1_ask_24 : Ins mX1_ask 24 (.iload 6) 2 26 := ⟨by decide +kernel, rfl⟩
theorem dX1_ask_26 : Ins mX1_ask 26 (.iload 5) 2 28 := ⟨by decide +kernel, rfl⟩
theorem dX1_ask_28 : Ins mX1_ask 28 (.if_icmp .ge 290) 3 31 := ⟨by decide +kernel, rfl⟩
theorem dX1_ask_31 : Ins mX1_ask 31 (.iload 6) 2 33 := ⟨by decide +kernel, rfl⟩
theorem dX1_ask_33 : Ins mX1_ask 33 (.sipush 300) 3 36 := ⟨by decide +kernel, rfl⟩
theorem dX1_ask_36 : Ins mX1_ask 36 (.if_icmp .ge 282) 3 39 := ⟨by decide +kernel, rfl⟩
theorem dX1_ask_39 : Ins mX1_ask 39 (.aload_n 1) 1 40 := ⟨by decide +kernel, rfl⟩
theorem dX1_ask_40 : GgR mX1_ask 40 43 4 0 := ⟨0, rfl, ⟨72, _, by decide +kernel, rfl, rfl, by decide, tb_1 (List.mem_of_getElem? (i := 152) (by decide +kernel)) rfl⟩, by decide, rfl⟩
theorem dX1_ask_43 : Ins mX1_ask 43 (.iload 6) 2 45 := ⟨by decide +kernel, rfl⟩
theorem dX1_ask_45 : Ins mX1_ask 45 (.iaload) 1 46 := ⟨by decide +kernel, rfl⟩
theorem dX1_ask_46 : Ins mX1_ask 46 (.istore 7) 2 48 := ⟨by decide +kernel, rfl⟩
theorem dX1_ask_48 : Ins mX1_ask 48 (.aload_n 1) 1 49 := ⟨by decide +kernel, rfl⟩
theorem dX1_ask_49 : GgR mX1_ask 49 52 4 1 := ⟨1, rfl, ⟨75, _, by decide +kernel, rfl, rfl, by decide, tb_1 (List.mem_of_getElem? (i := 154) (by decide +kernel)) rfl⟩, by decide, rfl⟩
theorem dX1_ask_52 : Ins mX1_ask 52 (.iload 6) 2 54 := ⟨by decide +kernel, rfl⟩
theorem dX1_ask_54 : Ins mX1_ask 54 (.iaload) 1 55 := ⟨by decide +kernel, rfl⟩
theorem dX1_ask_55 : Ins mX1_ask 55 (.istore 8) 2 57 := ⟨by decide +kernel, rfl⟩
theorem dX1_ask_57 : Ins mX1_ask 57 (.iload 7) 2 59 := ⟨by decide +kernel, rfl⟩
theorem dX1_ask_59 : Ins mX1_ask 59 (.bipush 31) 2 61 := ⟨by decide +kernel, rfl⟩
theorem dX1_ask_61 : Ins mX1_ask 61 (.if_icmp .eq 10) 3 64 := ⟨by decide +kernel, rfl⟩
theorem dX1_ask_64 : Ins mX1_ask 64 (.iload 7) 2 66 := ⟨by decide +kernel, rfl⟩
theorem dX1_ask_66 : Ins mX1_ask 66 (.bipush 47) 2 68 := ⟨by decide +kernel, rfl⟩
theorem dX1_ask_68 : Ins mX1_ask 68 (.if_icmp .ne 41) 3 71 := ⟨by decide +kernel, rfl⟩
theorem dX1_ask_71 : Ins mX1_ask 71 (.iload 4) 2 73 := ⟨by decide +kernel, rfl⟩
theorem dX1_ask_73 : Ins mX1_ask 73 (.bipush 64) 2 75 := ⟨by decide +kernel, rfl⟩
theorem dX1_ask_75 : Ins mX1_ask 75 (.if_icmp .ge 237) 3 78 := ⟨by decide +kernel, rfl⟩
theorem dX1_ask_78 : Ins mX1_ask 78 (.aload_n 0) 1 79 := ⟨by decide +kernel, rfl⟩
theorem dX1_ask_79 : GgR mX1_ask 79 82 1 0 := ⟨0, rfl, ⟨9, _, by decide +kernel, rfl, rfl, by decide, tb_1 (List.mem_of_getElem? (i := 233) (by decide +kernel)) rfl⟩, by decide, rfl⟩
theorem dX1_ask_82 : Ins mX1_ask 82 (.iload 4) 2 84 := ⟨by decide +kernel, rfl⟩
theorem dX1_ask_84 : Ins mX1_ask 84 (.iload 7) 2 86 := ⟨by decide +kernel, rfl⟩
theorem dX1_ask_86 : Ins mX1_ask 86 (.bipush 31) 2 88 := ⟨by decide +kernel, rfl⟩
theorem dX1_ask_88 : Ins mX1_ask 88 (.if_icmp .ne 8) 3 91 := ⟨by decide +kernel, rfl⟩
theorem dX1_ask_91 : Ins mX1_ask 91 (.iload 8) 2 93 := ⟨by decide +kernel, rfl⟩
theorem dX1_ask_93 : Ins mX1_ask 93 (.goto 9) 3 96 := ⟨by decide +kernel, rfl⟩
theorem dX1_ask_96 : Ins mX1_ask 96 (.aload_n 0) 1 97 := ⟨by decide +kernel, rfl⟩
theorem dX1_ask_97 : Ins mX1_ask 97 (.iload 8) 2 99 := ⟨by decide +kernel, rfl⟩
theorem dX1_ask_99 : CalV mX1_ask 99 102 mX1_nameAt := ⟨78, by decide +kernel, rfl, tb_4 (List.mem_of_getElem? (i := 18) (by decide +kernel)) rfl, meX1_nameAt⟩
theorem dX1_ask_102 : Ins mX1_ask 102 (.iastore) 1 103 := ⟨by decide +kernel, rfl⟩
theorem dX1_ask_103 : Ins mX1_ask 103 (.iinc 4 1) 3 106 := ⟨by decide +kernel, rfl⟩
theorem dX1_ask_106 : Ins mX1_ask 106 (.goto 206) 3 109 := ⟨by decide +kernel, rfl⟩
theorem dX1_ask_109 : Ins mX1_ask 109 (.iload 7) 2 111 := ⟨by decide +kernel, rfl⟩
theorem dX1_ask_111 : Ins mX1_ask 111 (.bipush 50) 2 113 := ⟨by decide +kernel, rfl⟩
theorem dX1_ask_113 : Ins mX1_ask 113 (.if_icmp .ne 17) 3 116 := ⟨by decide +kernel, rfl⟩
theorem dX1_ask_116 : Ins mX1_ask 116 (.iload 6) 2 118 := ⟨by decide +kernel, rfl⟩
theorem dX1_ask_118 : Ins mX1_ask 118 (.iload 8) 2 120 := ⟨by decide +kernel, rfl⟩
theorem dX1_ask_120 : Ins mX1_ask 120 (.iconst 1) 1 121 := ⟨by decide +kernel, rfl⟩
theorem dX1_ask_121 : Ins mX1_ask 121 (.isub) 1 122 := ⟨by decide +kernel, rfl⟩
theorem dX1_ask_122 : CalM mX1_ask 122 125 Lib.Math.max.name Lib.Math.max.code 2 (some .int) := ⟨81, by decide +kernel, rfl, tb_4 (List.mem_of_getElem? (i := 22) (by decide +kernel)) rfl, tb_2 (List.mem_of_getElem? (i := 206) (by decide +kernel)) rfl, tb_1 (List.mem_of_getElem? (i := 6) (by decide +kernel)) rfl, tb_2 (List.mem_of_getElem? (i := 207) rfl) rfl⟩
theorem dX1_ask_125 : Ins mX1_ask 125 (.istore 6) 2 127 := ⟨by decide +kernel, rfl⟩
theorem dX1_ask_127 : Ins mX1_ask 127 (.goto 185) 3 130 := ⟨by decide +kernel, rfl⟩
theorem dX1_ask_130 : Ins mX1_ask 130 (.iload 7) 2 132 := ⟨by decide +kernel, rfl⟩
theorem dX1_ask_132 : Ins mX1_ask 132 (.bipush 49) 2 134 := ⟨by decide +kernel, rfl⟩
theorem dX1_ask_134 : Ins mX1_ask 134 (.if_icmp .ne 42) 3 137 := ⟨by decide +kernel, rfl⟩
theorem dX1_ask_137 : Ins mX1_ask 137 (.iconst 0) 1 138 := ⟨by decide +kernel, rfl⟩
theorem dX1_ask_138 : Ins mX1_ask 138 (.iload 4) 2 140 := ⟨by decide +kernel, rfl⟩
theorem dX1_ask_140 : Ins mX1_ask 140 (.iconst 1) 1 141 := ⟨by decide +kernel, rfl⟩
theorem dX1_ask_141 : Ins mX1_ask 141 (.isub) 1 142 := ⟨by decide +kernel, rfl⟩
theorem dX1_ask_142 : CalM mX1_ask 142 145 Lib.Math.max.name Lib.Math.max.code 2 (some .int) := ⟨81, by decide +kernel, rfl, tb_4 (List.mem_of_getElem? (i := 22) (by decide +kernel)) rfl, tb_2 (List.mem_of_getElem? (i := 206) (by decide +kernel)) rfl, tb_1 (List.mem_of_getElem? (i := 6) (by decide +kernel)) rfl, tb_2 (List.mem_of_getElem? (i := 207) rfl) rfl⟩
theorem dX1_ask_145 : Ins mX1_ask 145 (.istore 4) 2 147 := ⟨by decide +kernel, rfl⟩
theorem dX1_ask_147 : Ins mX1_ask 147 (.aload_n 0) 1 148 := ⟨by decide +kernel, rfl⟩
theorem dX1_ask_148 : GgR mX1_ask 148 151 1 0 := ⟨0, rfl, ⟨9, _, by decide +kernel, rfl, rfl, by decide, tb_1 (List.mem_of_getElem? (i := 233) (by decide +kernel)) rfl⟩, by decide, rfl⟩
theorem dX1_ask_151 : Ins mX1_ask 151 (.iload 4) 2 153 := ⟨by decide +kernel, rfl⟩
theorem dX1_ask_153 : Ins mX1_ask 153 (.iaload) 1 154 := ⟨by decide +kernel, rfl⟩
theorem dX1_ask_154 : Ins mX1_ask 154 (.ifCond .eq 8) 3 157 := ⟨by decide +kernel, rfl⟩
theorem dX1_ask_157 : Ins mX1_ask 157 (.iload 6) 2 159 := ⟨by decide +kernel, rfl⟩
theorem dX1_ask_159 : Ins mX1_ask 159 (.goto 12) 3 162 := ⟨by decide +kernel, rfl⟩
theorem dX1_ask_162 : Ins mX1_ask 162 (.iload 6) 2 164 := ⟨by decide +kernel, rfl⟩
theorem dX1_ask_164 : Ins mX1_ask 164 (.iload 8) 2 166 := ⟨by decide +kernel, rfl⟩
theorem dX1_ask_166 : Ins mX1_ask 166 (.iconst 1) 1 167 := ⟨by decide +kernel, rfl⟩
theorem dX1_ask_167 : Ins mX1_ask 167 (.isub) 1 168 := ⟨by decide +kernel, rfl⟩
theorem dX1_ask_168 : CalM mX1_ask 168 171 Lib.Math.max.name Lib.Math.max.code 2 (some .int) := ⟨81, by decide +kernel, rfl, tb_4 (List.mem_of_getElem? (i := 22) (by decide +kernel)) rfl, tb_2 (List.mem_of_getElem? (i := 206) (by decide +kernel)) rfl, tb_1 (List.mem_of_getElem? (i := 6) (by decide +kernel)) rfl, tb_2 (List.mem_of_getElem? (i := 207) rfl) rfl⟩
theorem dX1_ask_171 : Ins mX1_ask 171 (.istore 6) 2 173 := ⟨by decide +kernel, rfl⟩
theorem dX1_ask_173 : Ins mX1_ask 173 (.goto 139) 3 176 := ⟨by decide +kernel, rfl⟩
theorem dX1_ask_176 : Ins mX1_ask 176 (.iload 7) 2 178 := ⟨by decide +kernel, rfl⟩
theorem dX1_ask_178 : Ins mX1_ask 178 (.bipush 48) 2 180 := ⟨by decide +kernel, rfl⟩
theorem dX1_ask_180 : Ins mX1_ask 180 (.if_icmp .eq 24) 3 183 := ⟨by decide +kernel, rfl⟩
theorem dX1_ask_183 : Ins mX1_ask 183 (.iload 7) 2 185 := ⟨by decide +kernel, rfl⟩
theorem dX1_ask_185 : Ins mX1_ask 185 (.bipush 14) 2 187 := ⟨by decide +kernel, rfl⟩
theorem dX1_ask_187 : Ins mX1_ask 187 (.if_icmp .eq 17) 3 190 := ⟨by decide +kernel, rfl⟩
theorem dX1_ask_190 : Ins mX1_ask 190 (.iload 7) 2 192 := ⟨by decide +kernel, rfl⟩
theorem dX1_ask_192 : Ins mX1_ask 192 (.bipush 15) 2 194 := ⟨by decide +kernel, rfl⟩
theorem dX1_ask_194 : Ins mX1_ask 194 (.if_icmp .eq 10) 3 197 := ⟨by decide +kernel, rfl⟩
theorem dX1_ask_197 : Ins mX1_ask 197 (.iload 7) 2 199 := ⟨by decide +kernel, rfl⟩
theorem dX1_ask_199 : Ins mX1_ask 199 (.bipush 22) 2 201 := ⟨by decide +kernel, rfl⟩
theorem dX1_ask_201 : Ins mX1_ask 201 (.if_icmp .ne 36) 3 204 := ⟨by decide +kernel, rfl⟩
theorem dX1_ask_204 : Ins mX1_ask 204 (.iconst 0) 1 205 := ⟨by decide +kernel, rfl⟩
theorem dX1_ask_205 : Ins mX1_ask 205 (.iload 4) 2 207 := ⟨by decide +kernel, rfl⟩
theorem dX1_ask_207 : Ins mX1_ask 207 (.iconst 1) 1 208 := ⟨by decide +kernel, rfl⟩
theorem dX1_ask_208 : Ins mX1_ask 208 (.isub) 1 209 := ⟨by decide +kernel, rfl⟩
theorem dX1_ask_209 : CalM mX1_ask 209 212 Lib.Math.max.name Lib.Math.max.code 2 (some .int) := ⟨81, by decide +kernel, rfl, tb_4 (List.mem_of_getElem? (i := 22) (by decide +kernel)) rfl, tb_2 (List.mem_of_getElem? (i := 206) (by decide +kernel)) rfl, tb_1 (List.mem_of_getElem? (i := 6) (by decide +kernel)) rfl, tb_2 (List.mem_of_getElem? (i := 207) rfl) rfl⟩
theorem dX1_ask_212 : Ins mX1_ask 212 (.istore 9) 2 214 := ⟨by decide +kernel, rfl⟩
theorem dX1_ask_214 : Ins mX1_ask 214 (.aload_n 0) 1 215 := ⟨by decide +kernel, rfl⟩
theorem dX1_ask_215 : GgR mX1_ask 215 218 1 0 := ⟨0, rfl, ⟨9, _, by decide +kernel, rfl, rfl, by decide, tb_1 (List.mem_of_getElem? (i := 233) (by decide +kernel)) rfl⟩, by decide, rfl⟩
theorem dX1_ask_218 : Ins mX1_ask 218 (.iload 9) 2 220 := ⟨by decide +kernel, rfl⟩
theorem dX1_ask_220 : Ins mX1_ask 220 (.iload 7) 2 222 := ⟨by decide +kernel, rfl⟩
theorem dX1_ask_222 : Ins mX1_ask 222 (.aload_n 0) 1 223 := ⟨by decide +kernel, rfl⟩
theorem dX1_ask_223 : GgR mX1_ask 223 226 1 0 := ⟨0, rfl, ⟨9, _, by decide +kernel, rfl, rfl, by decide, tb_1 (List.mem_of_getElem? (i := 233) (by decide +kernel)) rfl⟩, by decide, rfl⟩
theorem dX1_ask_226 : Ins mX1_ask 226 (.iload 9) 2 228 := ⟨by decide +kernel, rfl⟩
theorem dX1_ask_228 : Ins mX1_ask 228 (.iaload) 1 229 := ⟨by decide +kernel, rfl⟩
theorem dX1_ask_229 : Ins mX1_ask 229 (.aload_n 3) 1 230 := ⟨by decide +kernel, rfl⟩
theorem dX1_ask_230 : CalS mX1_ask 230 233 mX1_changed := ⟨87, by decide +kernel, rfl, Or.inl (tb_4 (List.mem_of_getElem? (i := 23) (by decide +kernel)) rfl), meX1_changed⟩
theorem dX1_ask_233 : Ins mX1_ask 233 (.iastore) 1 234 := ⟨by decide +kernel, rfl⟩
theorem dX1_ask_234 : Ins mX1_ask 234 (.goto 78) 3 237 := ⟨by decide +kernel, rfl⟩
theorem dX1_ask_237 : Ins mX1_ask 237 (.iload 4) 2 239 := ⟨by decide +kernel, rfl⟩
theorem dX1_ask_239 : Ins mX1_ask 239 (.iconst 2) 1 240 := ⟨by decide +kernel, rfl⟩
theorem dX1_ask_240 : Ins mX1_ask 240 (.if_icmp .lt 72) 3 243 := ⟨by decide +kernel, rfl⟩
theorem dX1_ask_243 : Ins mX1_ask 243 (.iinc 4 (-1)) 3 246 := ⟨by decide +kernel, rfl⟩
theorem dX1_ask_246 : Ins mX1_ask 246 (.aload_n 0) 1 247 := ⟨by decide +kernel, rfl⟩
theorem dX1_ask_247 : GgR mX1_ask 247 250 1 0 := ⟨0, rfl, ⟨9, _, by decide +kernel, rfl, rfl, by decide, tb_1 (List.mem_of_getElem? (i := 233) (by decide +kernel)) rfl⟩, by decide, rfl⟩
theorem dX1_ask_250 : Ins mX1_ask 250 (.iload 4) 2 252 := ⟨by decide +kernel, rfl⟩
theorem dX1_ask_252 : Ins mX1_ask 252 (.iconst 1) 1 253 := ⟨by decide +kernel, rfl⟩
theorem dX1_ask_253 : Ins mX1_ask 253 (.isub) 1 254 := ⟨by decide +kernel, rfl⟩
theorem dX1_ask_254 : Ins mX1_ask 254 (.iaload) 1 255 := ⟨by decide +kernel, rfl⟩
theorem dX1_ask_255 : Ins mX1_ask 255 (.istore 9) 2 257 := ⟨by decide +kernel, rfl⟩
theorem dX1_ask_257 : Ins mX1_ask 257 (.aload_n 0) 1 258 := ⟨by decide +kernel, rfl⟩
theorem dX1_ask_258 : GgR mX1_ask 258 261 1 0 := ⟨0, rfl, ⟨9, _, by decide +kernel, rfl, rfl, by decide, tb_1 (List.mem_of_getElem? (i := 233) (by decide +kernel)) rfl⟩, by decide, rfl⟩
theorem dX1_ask_261 : Ins mX1_ask 261 (.iload 4) 2 263 := ⟨by decide +kernel, rfl⟩
theorem dX1_ask_263 : Ins mX1_ask 263 (.iconst 1) 1 264 := ⟨by decide +kernel, rfl⟩
theorem dX1_ask_264 : Ins mX1_ask 264 (.isub) 1 265 := ⟨by decide +kernel, rfl⟩
theorem dX1_ask_265 : Ins mX1_ask 265 (.iload 7) 2 267 := ⟨by decide +kernel, rfl⟩
theorem dX1_ask_267 : Ins mX1_ask 267 (.bipush 38) 2 269 := ⟨by decide +kernel, rfl⟩
theorem dX1_ask_269 : Ins mX1_ask 269 (.if_icmp .lt 20) 3 272 := ⟨by decide +kernel, rfl⟩
theorem dX1_ask_272 : Ins mX1_ask 272 (.iload 7) 2 274 := ⟨by decide +kernel, rfl⟩
theorem dX1_ask_274 : Ins mX1_ask 274 (.iload 9) 2 276 := ⟨by decide +kernel, rfl⟩
theorem dX1_ask_276 : Ins mX1_ask 276 (.aload_n 0) 1 277 := ⟨by decide +kernel, rfl⟩
theorem dX1_ask_277 : GgR mX1_ask 277 280 1 0 := ⟨0, rfl, ⟨9, _, by decide +kernel, rfl, rfl, by decide, tb_1 (List.mem_of_getElem? (i := 233) (by decide +kernel)) rfl⟩, by decide, rfl⟩
theorem dX1_ask_280 : Ins mX1_ask 280 (.iload 4) 2 282 := ⟨by decide +kernel, rfl⟩
theorem dX1_ask_282 : Ins mX1_ask 282 (.iaload) 1 283 := ⟨by decide +kernel, rfl⟩
theorem dX1_ask_283 : CalS mX1_ask 283 286 mX1_reckoned := ⟨91, by decide +kernel, rfl, Or.inl (tb_4 (List.mem_of_getElem? (i := 27) (by decide +kernel)) rfl), meX1_reckoned⟩
theorem dX1_ask_286 : Ins mX1_ask 286 (.goto 25) 3 289 := ⟨by decide +kernel, rfl⟩
theorem dX1_ask_289 : Ins mX1_ask 289 (.iload 7) 2 291 := ⟨by decide +kernel, rfl⟩
theorem dX1_ask_291 : Ins mX1_ask 291 (.iload 9) 2 293 := ⟨by decide +kernel, rfl⟩
theorem dX1_ask_293 : Ins mX1_ask 293 (.aload_n 0) 1 294 := ⟨by decide +kernel, rfl⟩
theorem dX1_ask_294 : GgR mX1_ask 294 297 1 0 := ⟨0, rfl, ⟨9, _, by decide +kernel, rfl, rfl, by decide, tb_1 (List.mem_of_getElem? (i := 233) (by decide +kernel)) rfl⟩, by decide, rfl⟩
theorem dX1_ask_297 : Ins mX1_ask 297 (.iload 4) 2 299 := ⟨by decide +kernel, rfl⟩
theorem dX1_ask_299 : Ins mX1_ask 299 (.iaload) 1 300 := ⟨by decide +kernel, rfl⟩
theorem dX1_ask_300 : CalS mX1_ask 300 303 mX1_isSo := ⟨95, by decide +kernel, rfl, Or.inl (tb_4 (List.mem_of_getElem? (i := 41) (by decide +kernel)) rfl), meX1_isSo⟩
theorem dX1_ask_303 : Ins mX1_ask 303 (.ifCond .eq 7) 3 306 := ⟨by decide +kernel, rfl⟩
theorem dX1_ask_306 : Ins mX1_ask 306 (.iconst 1) 1 307 := ⟨by decide +kernel, rfl⟩
theorem dX1_ask_307 : Ins mX1_ask 307 (.goto 4) 3 310 := ⟨by decide +kernel, rfl⟩
theorem dX1_ask_310 : Ins mX1_ask 310 (.iconst 0) 1 311 := ⟨by decide +kernel, rfl⟩
theorem dX1_ask_311 : Ins mX1_ask 311 (.iastore) 1 312 := ⟨by decide +kernel, rfl⟩
theorem dX1_ask_312 : Ins mX1_ask 312 (.iinc 6 1) 3 315 := ⟨by decide +kernel, rfl⟩
theorem dX1_ask_315 : Ins mX1_ask 315 (.goto (-296)) 3 318 := ⟨by decide +kernel, rfl⟩
theorem dX1_ask_318 : Ins mX1_ask 318 (.aload_n 0) 1 319 := ⟨by decide +kernel, rfl⟩
theorem dX1_ask_319 : GgR mX1_ask 319 322 1 0 := ⟨0, rfl, ⟨9, _, by decide +kernel, rfl, rfl, by decide, tb_1 (List.mem_of_getElem? (i := 233) (by decide +kernel)) rfl⟩, by decide, rfl⟩
theorem dX1_ask_322 : Ins mX1_ask 322 (.iconst 0) 1 323 := ⟨by decide +kernel, rfl⟩
theorem dX1_ask_323 : Ins mX1_ask 323 (.iaload) 1 324 := ⟨by decide +kernel, rfl⟩
theorem dX1_ask_324 : Ins mX1_ask 324 (.ireturn) 1 325 := ⟨by decide +kernel, rfl⟩
theorem dX1_nameAt_0 : Ins mX1_nameAt 0 (.iload_n 1) 1 1 := ⟨by decide +kernel, rfl⟩
theorem dX1_nameAt_1 : Ins mX1_nameAt 1 (.ifCond .lt 18) 3 4 := ⟨by decide +kernel, rfl⟩
theorem dX1_nameAt_4 : Ins mX1_nameAt 4 (.iload_n 1) 1 5 := ⟨by decide +kernel, rfl⟩
theorem dX1_nameAt_5 : Ins mX1_nameAt 5 (.bipush 9) 2 7 := ⟨by decide +kernel, rfl⟩
theorem dX1_nameAt_7 : Ins mX1_nameAt 7 (.if_icmp .ge 12) 3 10 := ⟨by decide +kernel, rfl⟩
theorem dX1_nameAt_10 : Ins mX1_nameAt 10 (.aload_n 0) 1 11 := ⟨by decide +kernel, rfl⟩
theorem dX1_nameAt_11 : GgR mX1_nameAt 11 14 1 1 := ⟨1, rfl, ⟨15, _, by decide +kernel, rfl, rfl, by decide, tb_1 (List.mem_of_getElem? (i := 234) (by decide +kernel)) rfl⟩, by decide, rfl⟩
theorem dX1_nameAt_14 : Ins mX1_nameAt 14 (.iload_n 1) 1 15 := ⟨by decide +kernel, rfl⟩
theorem dX1_nameAt_15 : Ins mX1_nameAt 15 (.iaload) 1 16 := ⟨by decide +kernel, rfl⟩
theorem dX1_nameAt_16 : Ins mX1_nameAt 16 (.goto 4) 3 19 := ⟨by decide +kernel, rfl⟩
theorem dX1_nameAt_19 : Ins mX1_nameAt 19 (.iconst 0) 1 20 := ⟨by decide +kernel, rfl⟩
theorem dX1_nameAt_20 : Ins mX1_nameAt 20 (.ireturn) 1 21 := ⟨by decide +kernel, rfl⟩
theorem dX1_changed_0 : Ins mX1_changed 0 (.iload_n 0) 1 1 := ⟨by decide +kernel, rfl⟩
theorem dX1_changed_1 : Ins mX1_changed 1 (.lookupswitch 62 #[(14, 38), (15, 56), (48, 35)]) 35 36 := ⟨by decide +kernel, rfl⟩
theorem dX1_changed_36 : Ins mX1_changed 36 (.iload_n 1) 1 37 := ⟨by decide +kernel, rfl⟩
theorem dX1_changed_37 : Ins mX1_changed 37 (.ineg) 1 38 := ⟨by decide +kernel, rfl⟩
theorem dX1_changed_38 : Ins mX1_changed 38 (.ireturn) 1 39 := ⟨by decide +kernel, rfl⟩
theorem dX1_changed_39 : Ins mX1_changed 39 (.iload_n 1) 1 40 := ⟨by decide +kernel, rfl⟩
theorem dX1_changed_40 : Ins mX1_changed 40 (.ifCond .le 7) 3 43 := ⟨by decide +kernel, rfl⟩
theorem dX1_changed_43 : Ins mX1_changed 43 (.iconst 1) 1 44 := ⟨by decide +kernel, rfl⟩
theorem dX1_changed_44 : Ins mX1_changed 44 (.goto 12) 3 47 := ⟨by decide +kernel, rfl⟩
theorem dX1_changed_47 : Ins mX1_changed 47 (.iload_n 1) 1 48 := ⟨by decide +kernel, rfl⟩
theorem dX1_changed_48 : Ins mX1_changed 48 (.ifCond .ge 7) 3 51 := ⟨by decide +kernel, rfl⟩
theorem dX1_changed_51 : Ins mX1_changed 51 (.iconst (-1)) 1 52 := ⟨by decide +kernel, rfl⟩
theorem dX1_changed_52 : Ins mX1_changed 52 (.goto 4) 3 55 := ⟨by decide +kernel, rfl⟩
theorem dX1_changed_55 : Ins mX1_changed 55 (.iconst 0) 1 56 := ⟨by decide +kernel, rfl⟩
theorem dX1_changed_56 : Ins mX1_changed 56 (.ireturn) 1 57 := ⟨by decide +kernel, rfl⟩
theorem dX1_changed_57 : Ins mX1_changed 57 (.aload_n 2) 1 58 := ⟨by decide +kernel, rfl⟩
theorem dX1_changed_58 : Ins mX1_changed 58 (.iload_n 1) 1 59 := ⟨by decide +kernel, rfl⟩
theorem dX1_changed_59 : CalV mX1_changed 59 62 mX7_beatOf := ⟨99, by decide +kernel, rfl, tb_4 (List.mem_of_getElem? (i := 26) (by decide +kernel)) rfl, meX7_beatOf⟩
theorem dX1_changed_62 : Ins mX1_changed 62 (.ireturn) 1 63 := ⟨by decide +kernel, rfl⟩
theorem dX1_changed_63 : Ins mX1_changed 63 (.iload_n 1) 1 64 := ⟨by decide +kernel, rfl⟩
theorem dX1_changed_64 : Ins mX1_changed 64 (.ifCond .ne 7) 3 67 := ⟨by decide +kernel, rfl⟩
theorem dX1_changed_67 : Ins mX1_changed 67 (.iconst 1) 1 68 := ⟨by decide +kernel, rfl⟩
theorem dX1_changed_68 : Ins mX1_changed 68 (.goto 4) 3 71 := ⟨by decide +kernel, rfl⟩
theorem dX1_changed_71 : Ins mX1_changed 71 (.iconst 0) 1 72 := ⟨by decide +kernel, rfl⟩
theorem dX1_changed_72 : Ins mX1_changed 72 (.ireturn) 1 73 := ⟨by decide +kernel, rfl⟩
theorem dX1_reckoned_0 : Ins mX1_reckoned 0 (.iload_n 0) 1 1 := ⟨by decide +kernel, rfl⟩
theorem dX1_reckoned_1 : Ins mX1_reckoned 1 (.tableswitch 66 38 40 #[27, 40, 53]) 27 28 := ⟨by decide +kernel, rfl⟩
theorem dX1_reckoned_28 : Ins mX1_reckoned 28 (.iload_n 1) 1 29 := ⟨by decide +kernel, rfl⟩
theorem dX1_reckoned_29 : Ins mX1_reckoned 29 (.i2l) 1 30 := ⟨by decide +kernel, rfl⟩
theorem dX1_reckoned_30 : Ins mX1_reckoned 30 (.iload_n 2) 1 31 := ⟨by decide +kernel, rfl⟩
theorem dX1_reckoned_31 : Ins mX1_reckoned 31 (.i2l) 1 32 := ⟨by decide +kernel, rfl⟩
theorem dX1_reckoned_32 : Ins mX1_reckoned 32 (.ladd) 1 33 := ⟨by decide +kernel, rfl⟩
theorem dX1_reckoned_33 : LdcI mX1_reckoned 33 35 (-1000000) := ⟨102, _, Or.inl ⟨by decide +kernel, rfl⟩, tb_4 (List.mem_of_getElem? (i := 30) (by decide +kernel)) rfl, rfl⟩
theorem dX1_reckoned_35 : LdcI mX1_reckoned 35 37 (1000000) := ⟨103, _, Or.inl ⟨by decide +kernel, rfl⟩, tb_4 (List.mem_of_getElem? (i := 31) (by decide +kernel)) rfl, rfl⟩
theorem dX1_reckoned_37 : CalS mX1_reckoned 37 40 mX1_clamp := ⟨32, by decide +kernel, rfl, Or.inl (tb_4 (List.mem_of_getElem? (i := 32) (by decide +kernel)) rfl), meX1_clamp⟩
theorem dX1_reckoned_40 : Ins mX1_reckoned 40 (.ireturn) 1 41 := ⟨by decide +kernel, rfl⟩
theorem dX1_reckoned_41 : Ins mX1_reckoned 41 (.iload_n 1) 1 42 := ⟨by decide +kernel, rfl⟩
theorem dX1_reckoned_42 : Ins mX1_reckoned 42 (.i2l) 1 43 := ⟨by decide +kernel, rfl⟩
theorem dX1_reckoned_43 : Ins mX1_reckoned 43 (.iload_n 2) 1 44 := ⟨by decide +kernel, rfl⟩
theorem dX1_reckoned_44 : Ins mX1_reckoned 44 (.i2l) 1 45 := ⟨by decide +kernel, rfl⟩
theorem dX1_reckoned_45 : Ins mX1_reckoned 45 (.lsub) 1 46 := ⟨by decide +kernel, rfl⟩
theorem dX1_reckoned_46 : LdcI mX1_reckoned 46 48 (-1000000) := ⟨102, _, Or.inl ⟨by decide +kernel, rfl⟩, tb_4 (List.mem_of_getElem? (i := 30) (by decide +kernel)) rfl, rfl⟩
theorem dX1_reckoned_48 : LdcI mX1_reckoned 48 50 (1000000) := ⟨103, _, Or.inl ⟨by decide +kernel, rfl⟩, tb_4 (List.mem_of_getElem? (i := 31) (by decide +kernel)) rfl, rfl⟩
theorem dX1_reckoned_50 : CalS mX1_reckoned 50 53 mX1_clamp := ⟨32, by decide +kernel, rfl, Or.inl (tb_4 (List.mem_of_getElem? (i := 32) (by decide +kernel)) rfl), meX1_clamp⟩
theorem dX1_reckoned_53 : Ins mX1_reckoned 53 (.ireturn) 1 54 := ⟨by decide +kernel, rfl⟩
theorem dX1_reckoned_54 : Ins mX1_reckoned 54 (.iload_n 1) 1 55 := ⟨by decide +kernel, rfl⟩
theorem dX1_reckoned_55 : Ins mX1_reckoned 55 (.i2l) 1 56 := ⟨by decide +kernel, rfl⟩
theorem dX1_reckoned_56 : Ins mX1_reckoned 56 (.iload_n 2) 1 57 := ⟨by decide +kernel, rfl⟩
theorem dX1_reckoned_57 : Ins mX1_reckoned 57 (.i2l) 1 58 := ⟨by decide +kernel, rfl⟩
theorem dX1_reckoned_58 : Ins mX1_reckoned 58 (.lmul) 1 59 := ⟨by decide +kernel, rfl⟩
theorem dX1_reckoned_59 : LdcI mX1_reckoned 59 61 (-1000000) := ⟨102, _, Or.inl ⟨by decide +kernel, rfl⟩, tb_4 (List.mem_of_getElem? (i := 30) (by decide +kernel)) rfl, rfl⟩
theorem dX1_reckoned_61 : LdcI mX1_reckoned 61 63 (1000000) := ⟨103, _, Or.inl ⟨by decide +kernel, rfl⟩, tb_4 (List.mem_of_getElem? (i := 31) (by decide +kernel)) rfl, rfl⟩
theorem dX1_reckoned_63 : CalS mX1_reckoned 63 66 mX1_clamp := ⟨32, by decide +kernel, rfl, Or.inl (tb_4 (List.mem_of_getElem? (i := 32) (by decide +kernel)) rfl), meX1_clamp⟩
theorem dX1_reckoned_66 : Ins mX1_reckoned 66 (.ireturn) 1 67 := ⟨by decide +kernel, rfl⟩
theorem dX1_reckoned_67 : Ins mX1_reckoned 67 (.iload_n 2) 1 68 := ⟨by decide +kernel, rfl⟩
theorem dX1_reckoned_68 : Ins mX1_reckoned 68 (.ifCond .ne 7) 3 71 := ⟨by decide +kernel, rfl⟩
theorem dX1_reckoned_71 : Ins mX1_reckoned 71 (.iconst 0) 1 72 := ⟨by decide +kernel, rfl⟩
theorem dX1_reckoned_72 : Ins mX1_reckoned 72 (.goto 6) 3 75 := ⟨by decide +kernel, rfl⟩
theorem dX1_reckoned_75 : Ins mX1_reckoned 75 (.iload_n 1) 1 76 := ⟨by decide +kernel, rfl⟩
theorem dX1_reckoned_76 : Ins mX1_reckoned 76 (.iload_n 2) 1 77 := ⟨by decide +kernel, rfl⟩
theorem dX1_reckoned_77 : Ins mX1_reckoned 77 (.idiv) 1 78 := ⟨by decide +kernel, rfl⟩
theorem dX1_reckoned_78 : Ins mX1_reckoned 78 (.ireturn) 1 79 := ⟨by decide +kernel, rfl⟩
theorem dX1_isSo_0 : Ins mX1_isSo 0 (.iload_n 0) 1 1 := ⟨by decide +kernel, rfl⟩
theorem dX1_isSo_1 : Ins mX1_isSo 1 (.tableswitch 180 20 36 #[83, 95, 180, 107, 180, 180, 180, 180, 180, 180, 180, 180, 125, 136, 147, 158, 169]) 83 84 := ⟨by decide +kernel, rfl⟩
theorem dX1_isSo_84 : Ins mX1_isSo 84 (.iload_n 1) 1 85 := ⟨by decide +kernel, rfl⟩
theorem dX1_isSo_85 : Ins mX1_isSo 85 (.iload_n 2) 1 86 := ⟨by decide +kernel, rfl⟩
theorem dX1_isSo_86 : Ins mX1_isSo 86 (.ior) 1 87 := ⟨by decide +kernel, rfl⟩
theorem dX1_isSo_87 : Ins mX1_isSo 87 (.ifCond .eq 7) 3 90 := ⟨by decide +kernel, rfl⟩
theorem dX1_isSo_90 : Ins mX1_isSo 90 (.iconst 1) 1 91 := ⟨by decide +kernel, rfl⟩
theorem dX1_isSo_91 : Ins mX1_isSo 91 (.goto 4) 3 94 := ⟨by decide +kernel, rfl⟩
theorem dX1_isSo_94 : Ins mX1_isSo 94 (.iconst 0) 1 95 := ⟨by decide +kernel, rfl⟩
theorem dX1_isSo_95 : Ins mX1_isSo 95 (.ireturn) 1 96 := ⟨by decide +kernel, rfl⟩
theorem dX1_isSo_96 : Ins mX1_isSo 96 (.iload_n 1) 1 97 := ⟨by decide +kernel, rfl⟩
theorem dX1_isSo_97 : Ins mX1_isSo 97 (.iload_n 2) 1 98 := ⟨by decide +kernel, rfl⟩
theorem dX1_isSo_98 : Ins mX1_isSo 98 (.iand) 1 99 := ⟨by decide +kernel, rfl⟩
theorem dX1_isSo_99 : Ins mX1_isSo 99 (.ifCond .eq 7) 3 102 := ⟨by decide +kernel, rfl⟩
theorem dX1_isSo_102 : Ins mX1_isSo 102 (.iconst 1) 1 103 := ⟨by decide +kernel, rfl⟩
theorem dX1_isSo_103 : Ins mX1_isSo 103 (.goto 4) 3 106 := ⟨by decide +kernel, rfl⟩
theorem dX1_isSo_106 : Ins mX1_isSo 106 (.iconst 0) 1 107 := ⟨by decide +kernel, rfl⟩
theorem dX1_isSo_107 : Ins mX1_isSo 107 (.ireturn) 1 108 := ⟨by decide +kernel, rfl⟩
theorem dX1_isSo_108 : Ins mX1_isSo 108 (.iload_n 1) 1 109 := ⟨by decide +kernel, rfl⟩
theorem dX1_isSo_109 : Ins mX1_isSo 109 (.i2l) 1 110 := ⟨by decide +kernel, rfl⟩
theorem dX1_isSo_110 : Ins mX1_isSo 110 (.iload_n 2) 1 111 := ⟨by decide +kernel, rfl⟩
theorem dX1_isSo_111 : Ins mX1_isSo 111 (.i2l) 1 112 := ⟨by decide +kernel, rfl⟩
theorem dX1_isSo_112 : CalS mX1_isSo 112 115 mX2_divisor := ⟨104, by decide +kernel, rfl, Or.inl (tb_4 (List.mem_of_getElem? (i := 44) (by decide +kernel)) rfl), meX2_divisor⟩
theorem dX1_isSo_115 : Ins mX1_isSo 115 (.lconst 1) 1 116 := ⟨by decide +kernel, rfl⟩
theorem dX1_isSo_116 : Ins mX1_isSo 116 (.lcmp) 1 117 := ⟨by decide +kernel, rfl⟩
theorem dX1_isSo_117 : Ins mX1_isSo 117 (.ifCond .eq 7) 3 120 := ⟨by decide +kernel, rfl⟩
theorem dX1_isSo_120 : Ins mX1_isSo 120 (.iconst 1) 1 121 := ⟨by decide +kernel, rfl⟩
theorem dX1_isSo_121 : Ins mX1_isSo 121 (.goto 4) 3 124 := ⟨by decide +kernel, rfl⟩
theorem dX1_isSo_124 : Ins mX1_isSo 124 (.iconst 0) 1 125 := ⟨by decide +kernel, rfl⟩
theorem dX1_isSo_125 : Ins mX1_isSo 125 (.ireturn) 1 126 := ⟨by decide +kernel, rfl⟩
theorem dX1_isSo_126 : Ins mX1_isSo 126 (.iload_n 1) 1 127 := ⟨by decide +kernel, rfl⟩
theorem dX1_isSo_127 : Ins mX1_isSo 127 (.iload_n 2) 1 128 := ⟨by decide +kernel, rfl⟩
theorem dX1_isSo_128 : Ins mX1_isSo 128 (.if_icmp .ge 7) 3 131 := ⟨by decide +kernel, rfl⟩
theorem dX1_isSo_131 : Ins mX1_isSo 131 (.iconst 1) 1 132 := ⟨by decide +kernel, rfl⟩
theorem dX1_isSo_132 : Ins mX1_isSo 132 (.goto 4) 3 135 := ⟨by decide +kernel, rfl⟩
theorem dX1_isSo_135 : Ins mX1_isSo 135 (.iconst 0) 1 136 := ⟨by decide +kernel, rfl⟩
theorem dX1_isSo_136 : Ins mX1_isSo 136 (.ireturn) 1 137 := ⟨by decide +kernel, rfl⟩
theorem dX1_isSo_137 : Ins mX1_isSo 137 (.iload_n 1) 1 138 := ⟨by decide +kernel, rfl⟩
theorem dX1_isSo_138 : Ins mX1_isSo 138 (.iload_n 2) 1 139 := ⟨by decide +kernel, rfl⟩
theorem dX1_isSo_139 : Ins mX1_isSo 139 (.if_icmp .gt 7) 3 142 := ⟨by decide +kernel, rfl⟩
theorem dX1_isSo_142 : Ins mX1_isSo 142 (.iconst 1) 1 143 := ⟨by decide +kernel, rfl⟩
theorem dX1_isSo_143 : Ins mX1_isSo 143 (.goto 4) 3 146 := ⟨by decide +kernel, rfl⟩
theorem dX1_isSo_146 : Ins mX1_isSo 146 (.iconst 0) 1 147 := ⟨by decide +kernel, rfl⟩
theorem dX1_isSo_147 : Ins mX1_isSo 147 (.ireturn) 1 148 := ⟨by decide +kernel, rfl⟩
theorem dX1_isSo_148 : Ins mX1_isSo 148 (.iload_n 1) 1 149 := ⟨by decide +kernel, rfl⟩
theorem dX1_isSo_149 : Ins mX1_isSo 149 (.iload_n 2) 1 150 := ⟨by decide +kernel, rfl⟩
theorem dX1_isSo_150 : Ins mX1_isSo 150 (.if_icmp .le 7) 3 153 := ⟨by decide +kernel, rfl⟩
theorem dX1_isSo_153 : Ins mX1_isSo 153 (.iconst 1) 1 154 := ⟨by decide +kernel, rfl⟩
theorem dX1_isSo_154 : Ins mX1_isSo 154 (.goto 4) 3 157 := ⟨by decide +kernel, rfl⟩
theorem dX1_isSo_157 : Ins mX1_isSo 157 (.iconst 0) 1 158 := ⟨by decide +kernel, rfl⟩
theorem dX1_isSo_158 : Ins mX1_isSo 158 (.ireturn) 1 159 := ⟨by decide +kernel, rfl⟩
theorem dX1_isSo_159 : Ins mX1_isSo 159 (.iload_n 1) 1 160 := ⟨by decide +kernel, rfl⟩
theorem dX1_isSo_160 : Ins mX1_isSo 160 (.iload_n 2) 1 161 := ⟨by decide +kernel, rfl⟩
theorem dX1_isSo_161 : Ins mX1_isSo 161 (.if_icmp .lt 7) 3 164 := ⟨by decide +kernel, rfl⟩
theorem dX1_isSo_164 : Ins mX1_isSo 164 (.iconst 1) 1 165 := ⟨by decide +kernel, rfl⟩
theorem dX1_isSo_165 : Ins mX1_isSo 165 (.goto 4) 3 168 := ⟨by decide +kernel, rfl⟩
theorem dX1_isSo_168 : Ins mX1_isSo 168 (.iconst 0) 1 169 := ⟨by decide +kernel, rfl⟩
theorem dX1_isSo_169 : Ins mX1_isSo 169 (.ireturn) 1 170 := ⟨by decide +kernel, rfl⟩
theorem dX1_isSo_170 : Ins mX1_isSo 170 (.iload_n 1) 1 171 := ⟨by decide +kernel, rfl⟩
theorem dX1_isSo_171 : Ins mX1_isSo 171 (.iload_n 2) 1 172 := ⟨by decide +kernel, rfl⟩
theorem dX1_isSo_172 : Ins mX1_isSo 172 (.if_icmp .ne 7) 3 175 := ⟨by decide +kernel, rfl⟩
theorem dX1_isSo_175 : Ins mX1_isSo 175 (.iconst 1) 1 176 := ⟨by decide +kernel, rfl⟩
theorem dX1_isSo_176 : Ins mX1_isSo 176 (.goto 4) 3 179 := ⟨by decide +kernel, rfl⟩
theorem dX1_isSo_179 : Ins mX1_isSo 179 (.iconst 0) 1 180 := ⟨by decide +kernel, rfl⟩
theorem dX1_isSo_180 : Ins mX1_isSo 180 (.ireturn) 1 181 := ⟨by decide +kernel, rfl⟩
theorem dX1_isSo_181 : Ins mX1_isSo 181 (.iload_n 1) 1 182 := ⟨by decide +kernel, rfl⟩
theorem dX1_isSo_182 : Ins mX1_isSo 182 (.iload_n 2) 1 183 := ⟨by decide +kernel, rfl⟩
theorem dX1_isSo_183 : Ins mX1_isSo 183 (.if_icmp .eq 7) 3 186 := ⟨by decide +kernel, rfl⟩
theorem dX1_isSo_186 : Ins mX1_isSo 186 (.iconst 1) 1 187 := ⟨by decide +kernel, rfl⟩
theorem dX1_isSo_187 : Ins mX1_isSo 187 (.goto 4) 3 190 := ⟨by decide +kernel, rfl⟩
theorem dX1_isSo_190 : Ins mX1_isSo 190 (.iconst 0) 1 191 := ⟨by decide +kernel, rfl⟩
theorem dX1_isSo_191 : Ins mX1_isSo 191 (.ireturn) 1 192 := ⟨by decide +kernel, rfl⟩
theorem dX1_clamp_0 : Ins mX1_clamp 0 (.iload_n 2) 1 1 := ⟨by decide +kernel, rfl⟩
theorem dX1_clamp_1 : Ins mX1_clamp 1 (.i2l) 1 2 := ⟨by decide +kernel, rfl⟩
theorem dX1_clamp_2 : Ins mX1_clamp 2 (.iload_n 3) 1 3 := ⟨by decide +kernel, rfl⟩
theorem dX1_clamp_3 : Ins mX1_clamp 3 (.i2l) 1 4 := ⟨by decide +kernel, rfl⟩
theorem dX1_clamp_4 : Ins mX1_clamp 4 (.lload_n 0) 1 5 := ⟨by decide +kernel, rfl⟩
theorem dX1_clamp_5 : CalM mX1_clamp 5 8 Lib.MathLoose.min_long.x Lib.MathLoose.min_long.code 4 (some .long) := ⟨110, by decide +kernel, rfl, tb_4 (List.mem_of_getElem? (i := 35) (by decide +kernel)) rfl, tb_4 (List.mem_of_getElem? (i := 36) (by decide +kernel)) rfl, tb_1 (List.mem_of_getElem? (i := 6) (by decide +kernel)) rfl, tb_4 (List.mem_of_getElem? (i := 37) rfl) rfl⟩
theorem dX1_clamp_8 : CalM mX1_clamp 8 11 Lib.MathLoose.max_long.x Lib.MathLoose.max_long.code 4 (some .long) := ⟨113, by decide +kernel, rfl, tb_4 (List.mem_of_getElem? (i := 38) (by decide +kernel)) rfl, tb_4 (List.mem_of_getElem? (i := 39) (by decide +kernel)) rfl, tb_1 (List.mem_of_getElem? (i := 6) (by decide +kernel)) rfl, tb_4 (List.mem_of_getElem? (i := 40) rfl) rfl⟩
theorem dX1_clamp_11 : Ins mX1_clamp 11 (.l2i) 1 12 := ⟨by decide +kernel, rfl⟩
theorem dX1_clamp_12 : Ins mX1_clamp 12 (.ireturn) 1 13 := ⟨by decide +kernel, rfl⟩
theorem dX2_power_0 : Ins mX2_power 0 (.lconst 1) 1 1 := ⟨by decide +kernel, rfl⟩
theorem dX2_power_1 : Ins mX2_power 1 (.lstore_n 2) 1 2 := ⟨by decide +kernel, rfl⟩
theorem dX2_power_2 : Ins mX2_power 2 (.iconst 0) 1 3 := ⟨by decide +kernel, rfl⟩
theorem dX2_power_3 : Ins mX2_power 3 (.istore 4) 2 5 := ⟨by decide +kernel, rfl⟩
theorem dX2_power_5 : Ins mX2_power 5 (.iload 4) 2 7 := ⟨by decide +kernel, rfl⟩
theorem dX2_power_7 : Ins mX2_power 7 (.iload_n 1) 1 8 := ⟨by decide +kernel, rfl⟩
theorem dX2_power_8 : Ins mX2_power 8 (.if_icmp .ge 14) 3 11 := ⟨by decide +kernel, rfl⟩
theorem dX2_power_11 : Ins mX2_power 11 (.lload_n 2) 1 12 := ⟨by decide +kernel, rfl⟩
theorem dX2_power_12 : Ins mX2_power 12 (.iload_n 0) 1 13 := ⟨by decide +kernel, rfl⟩
theorem dX2_power_13 : Ins mX2_power 13 (.i2l) 1 14 := ⟨by decide +kernel, rfl⟩
theorem dX2_power_14 : Ins mX2_power 14 (.lmul) 1 15 := ⟨by decide +kernel, rfl⟩
theorem dX2_power_15 : Ins mX2_power 15 (.lstore_n 2) 1 16 := ⟨by decide +kernel, rfl⟩
theorem dX2_power_16 : Ins mX2_power 16 (.iinc 4 1) 3 19 := ⟨by decide +kernel, rfl⟩
theorem dX2_power_19 : Ins mX2_power 19 (.goto (-14)) 3 22 := ⟨by decide +kernel, rfl⟩
theorem dX2_power_22 : Ins mX2_power 22 (.lload_n 2) 1 23 := ⟨by decide +kernel, rfl⟩
theorem dX2_power_23 : Ins mX2_power 23 (.lreturn) 1 24 := ⟨by decide +kernel, rfl⟩
theorem dX2_choose_0 : Ins mX2_choose 0 (.iload_n 1) 1 1 := ⟨by decide +kernel, rfl⟩
theorem dX2_choose_1 : Ins mX2_choose 1 (.iload_n 0) 1 2 := ⟨by decide +kernel, rfl⟩
theorem dX2_choose_2 : Ins mX2_choose 2 (.if_icmp .le 5) 3 5 := ⟨by decide +kernel, rfl⟩
theorem dX2_choose_5 : Ins mX2_choose 5 (.lconst 0) 1 6 := ⟨by decide +kernel, rfl⟩
theorem dX2_choose_6 : Ins mX2_choose 6 (.lreturn) 1 7 := ⟨by decide +kernel, rfl⟩
theorem dX2_choose_7 : Ins mX2_choose 7 (.lconst 1) 1 8 := ⟨by decide +kernel, rfl⟩
theorem dX2_choose_8 : Ins mX2_choose 8 (.lstore_n 2) 1 9 := ⟨by decide +kernel, rfl⟩
theorem dX2_choose_9 : Ins mX2_choose 9 (.iconst 1) 1 10 := ⟨by decide +kernel, rfl⟩
theorem dX2_choose_10 : Ins mX2_choose 10 (.istore 4) 2 12 := ⟨by decide +kernel, rfl⟩
theorem dX2_choose_12 : Ins mX2_choose 12 (.iload 4) 2 14 := ⟨by decide +kernel, rfl⟩
theorem dX2_choose_14 : Ins mX2_choose 14 (.iload_n 1) 1 15 := ⟨by decide +kernel, rfl⟩
theorem dX2_choose_15 : Ins mX2_choose 15 (.if_icmp .gt 23) 3 18 := ⟨by decide +kernel, rfl⟩
theorem dX2_choose_18 : Ins mX2_choose 18 (.lload_n 2) 1 19 := ⟨by decide +kernel, rfl⟩
theorem dX2_choose_19 : Ins mX2_choose 19 (.iload_n 0) 1 20 := ⟨by decide +kernel, rfl⟩
theorem dX2_choose_20 : Ins mX2_choose 20 (.iload_n 1) 1 21 := ⟨by decide +kernel, rfl⟩
theorem dX2_choose_21 : Ins mX2_choose 21 (.isub) 1 22 := ⟨by decide +kernel, rfl⟩
theorem dX2_choose_22 : Ins mX2_choose 22 (.iload 4) 2 24 := ⟨by decide +kernel, rfl⟩
theorem dX2_choose_24 : Ins mX2_choose 24 (.iadd) 1 25 := ⟨by decide +kernel, rfl⟩
theorem dX2_choose_25 : Ins mX2_choose 25 (.i2l) 1 26 := ⟨by decide +kernel, rfl⟩
theorem dX2_choose_26 : Ins mX2_choose 26 (.lmul) 1 27 := ⟨by decide +kernel, rfl⟩
theorem dX2_choose_27 : Ins mX2_choose 27 (.iload 4) 2 29 := ⟨by decide +kernel, rfl⟩
theorem dX2_choose_29 : Ins mX2_choose 29 (.i2l) 1 30 := ⟨by decide +kernel, rfl⟩
theorem dX2_choose_30 : Ins mX2_choose 30 (.ldiv) 1 31 := ⟨by decide +kernel, rfl⟩
theorem dX2_choose_31 : Ins mX2_choose 31 (.lstore_n 2) 1 32 := ⟨by decide +kernel, rfl⟩
theorem dX2_choose_32 : Ins mX2_choose 32 (.iinc 4 1) 3 35 := ⟨by decide +kernel, rfl⟩
theorem dX2_choose_35 : Ins mX2_choose 35 (.goto (-23)) 3 38 := ⟨by decide +kernel, rfl⟩
theorem dX2_choose_38 : Ins mX2_choose 38 (.lload_n 2) 1 39 := ⟨by decide +kernel, rfl⟩
theorem dX2_choose_39 : Ins mX2_choose 39 (.lreturn) 1 40 := ⟨by decide +kernel, rfl⟩
theorem dX2_weight_0 : Ins mX2_weight 0 (.iload_n 1) 1 1 := ⟨by decide +kernel, rfl⟩
theorem dX2_weight_1 : Ins mX2_weight 1 (.iload_n 2) 1 2 := ⟨by decide +kernel, rfl⟩
theorem dX2_weight_2 : Ins mX2_weight 2 (.if_icmp .le 5) 3 5 := ⟨by decide +kernel, rfl⟩
theorem dX2_weight_5 : Ins mX2_weight 5 (.lconst 0) 1 6 := ⟨by decide +kernel, rfl⟩
theorem dX2_weight_6 : Ins mX2_weight 6 (.lreturn) 1 7 := ⟨by decide +kernel, rfl⟩
theorem dX2_weight_7 : Ins mX2_weight 7 (.iload_n 2) 1 8 := ⟨by decide +kernel, rfl⟩
theorem dX2_weight_8 : Ins mX2_weight 8 (.iload_n 1) 1 9 := ⟨by decide +kernel, rfl⟩
theorem dX2_weight_9 : CalS mX2_weight 9 12 mX2_choose := ⟨9, by decide +kernel, rfl, Or.inl (tb_5 (List.mem_of_getElem? (i := 79) (by decide +kernel)) rfl), meX2_choose⟩
theorem dX2_weight_12 : Ins mX2_weight 12 (.iload_n 0) 1 13 := ⟨by decide +kernel, rfl⟩
theorem dX2_weight_13 : Ins mX2_weight 13 (.iload_n 1) 1 14 := ⟨by decide +kernel, rfl⟩
theorem dX2_weight_14 : CalS mX2_weight 14 17 mX2_power := ⟨15, by decide +kernel, rfl, Or.inl (tb_5 (List.mem_of_getElem? (i := 82) (by decide +kernel)) rfl), meX2_power⟩
theorem dX2_weight_17 : Ins mX2_weight 17 (.lmul) 1 18 := ⟨by decide +kernel, rfl⟩
theorem dX2_weight_18 : Ins mX2_weight 18 (.bipush 10) 2 20 := ⟨by decide +kernel, rfl⟩
theorem dX2_weight_20 : Ins mX2_weight 20 (.iload_n 0) 1 21 := ⟨by decide +kernel, rfl⟩
theorem dX2_weight_21 : Ins mX2_weight 21 (.isub) 1 22 := ⟨by decide +kernel, rfl⟩
theorem dX2_weight_22 : Ins mX2_weight 22 (.iload_n 2) 1 23 := ⟨by decide +kernel, rfl⟩
theorem dX2_weight_23 : Ins mX2_weight 23 (.iload_n 1) 1 24 := ⟨by decide +kernel, rfl⟩
theorem dX2_weight_24 : Ins mX2_weight 24 (.isub) 1 25 := ⟨by decide +kernel, rfl⟩
theorem dX2_weight_25 : CalS mX2_weight 25 28 mX2_power := ⟨15, by decide +kernel, rfl, Or.inl (tb_5 (List.mem_of_getElem? (i := 82) (by decide +kernel)) rfl), meX2_power⟩
theorem dX2_weight_28 : Ins mX2_weight 28 (.lmul) 1 29 := ⟨by decide +kernel, rfl⟩
theorem dX2_weight_29 : Ins mX2_weight 29 (.bipush 10) 2 31 := ⟨by decide +kernel, rfl⟩
theorem dX2_weight_31 : Ins mX2_weight 31 (.bipush 9) 2 33 := ⟨by decide +kernel, rfl⟩
theorem dX2_weight_33 : Ins mX2_weight 33 (.iload_n 2) 1 34 := ⟨by decide +kernel, rfl⟩
theorem dX2_weight_34 : Ins mX2_weight 34 (.isub) 1 35 := ⟨by decide +kernel, rfl⟩
theorem dX2_weight_35 : CalS mX2_weight 35 38 mX2_power := ⟨15, by decide +kernel, rfl, Or.inl (tb_5 (List.mem_of_getElem? (i := 82) (by decide +kernel)) rfl), meX2_power⟩
theorem dX2_weight_38 : Ins mX2_weight 38 (.lmul) 1 39 := ⟨by decide +kernel, rfl⟩
theorem dX2_weight_39 : Ins mX2_weight 39 (.lreturn) 1 40 := ⟨by decide +kernel, rfl⟩
theorem dX2_lowestTerm_0 : Ins mX2_lowestTerm 0 (.lload_n 0) 1 1 := ⟨by decide +kernel, rfl⟩
theorem dX2_lowestTerm_1 : Ins mX2_lowestTerm 1 (.lload_n 2) 1 2 := ⟨by decide +kernel, rfl⟩
theorem dX2_lowestTerm_2 : CalS mX2_lowestTerm 2 5 mX2_divisor := ⟨18, by decide +kernel, rfl, Or.inl (tb_5 (List.mem_of_getElem? (i := 88) (by decide +kernel)) rfl), meX2_divisor⟩
theorem dX2_lowestTerm_5 : Ins mX2_lowestTerm 5 (.lstore 5) 2 7 := ⟨by decide +kernel, rfl⟩
theorem dX2_lowestTerm_7 : Ins mX2_lowestTerm 7 (.lload 5) 2 9 := ⟨by decide +kernel, rfl⟩
theorem dX2_lowestTerm_9 : Ins mX2_lowestTerm 9 (.lconst 0) 1 10 := ⟨by decide +kernel, rfl⟩
theorem dX2_lowestTerm_10 : Ins mX2_lowestTerm 10 (.lcmp) 1 11 := ⟨by decide +kernel, rfl⟩
theorem dX2_lowestTerm_11 : Ins mX2_lowestTerm 11 (.ifCond .ne 7) 3 14 := ⟨by decide +kernel, rfl⟩
theorem dX2_lowestTerm_14 : LdcL mX2_lowestTerm 14 17 (-1) := ⟨22, _, by decide +kernel, rfl, tb_5 (List.mem_of_getElem? (i := 89) (by decide +kernel)) rfl, rfl⟩
theorem dX2_lowestTerm_17 : Ins mX2_lowestTerm 17 (.lreturn) 1 18 := ⟨by decide +kernel, rfl⟩
theorem dX2_lowestTerm_18 : Ins mX2_lowestTerm 18 (.iload 4) 2 20 := ⟨by decide +kernel, rfl⟩
theorem dX2_lowestTerm_20 : Ins mX2_lowestTerm 20 (.ifCond .eq 7) 3 23 := ⟨by decide +kernel, rfl⟩
theorem dX2_lowestTerm_23 : Ins mX2_lowestTerm 23 (.lload_n 2) 1 24 := ⟨by decide +kernel, rfl⟩
theorem dX2_lowestTerm_24 : Ins mX2_lowestTerm 24 (.goto 4) 3 27 := ⟨by decide +kernel, rfl⟩
theorem dX2_lowestTerm_27 : Ins mX2_lowestTerm 27 (.lload_n 0) 1 28 := ⟨by decide +kernel, rfl⟩
theorem dX2_lowestTerm_28 : Ins mX2_lowestTerm 28 (.lload 5) 2 30 := ⟨by decide +kernel, rfl⟩
theorem dX2_lowestTerm_30 : Ins mX2_lowestTerm 30 (.ldiv) 1 31 := ⟨by decide +kernel, rfl⟩
theorem dX2_lowestTerm_31 : Ins mX2_lowestTerm 31 (.lreturn) 1 32 := ⟨by decide +kernel, rfl⟩
theorem dX2_divisor_0 : Ins mX2_divisor 0 (.lload_n 0) 1 1 := ⟨by decide +kernel, rfl⟩
theorem dX2_divisor_1 : CalM mX2_divisor 1 4 Lib.MathLoose.abs_long.x Lib.MathLoose.abs_long.code 2 (some .long) := ⟨24, by decide +kernel, rfl, tb_4 (List.mem_of_getElem? (i := 47) (by decide +kernel)) rfl, tb_4 (List.mem_of_getElem? (i := 48) (by decide +kernel)) rfl, tb_1 (List.mem_of_getElem? (i := 6) (by decide +kernel)) rfl, tb_4 (List.mem_of_getElem? (i := 49) rfl) rfl⟩
theorem dX2_divisor_4 : Ins mX2_divisor 4 (.lstore 4) 2 6 := ⟨by decide +kernel, rfl⟩
theorem dX2_divisor_6 : Ins mX2_divisor 6 (.lload_n 2) 1 7 := ⟨by decide +kernel, rfl⟩
theorem dX2_divisor_7 : CalM mX2_divisor 7 10 Lib.MathLoose.abs_long.x Lib.MathLoose.abs_long.code 2 (some .long) := ⟨24, by decide +kernel, rfl, tb_4 (List.mem_of_getElem? (i := 47) (by decide +kernel)) rfl, tb_4 (List.mem_of_getElem? (i := 48) (by decide +kernel)) rfl, tb_1 (List.mem_of_getElem? (i := 6) (by decide +kernel)) rfl, tb_4 (List.mem_of_getElem? (i := 49) rfl) rfl⟩
theorem dX2_divisor_10 : Ins mX2_divisor 10 (.lstore 6) 2 12 := ⟨by decide +kernel, rfl⟩
theorem dX2_divisor_12 : Ins mX2_divisor 12 (.iconst 0) 1 13 := ⟨by decide +kernel, rfl⟩
theorem dX2_divisor_13 : Ins mX2_divisor 13 (.istore 8) 2 15 := ⟨by decide +kernel, rfl⟩
theorem dX2_divisor_15 : Ins mX2_divisor 15 (.iload 8) 2 17 := ⟨by decide +kernel, rfl⟩
theorem dX2_divisor_17 : Ins mX2_divisor 17 (.sipush 200) 3 20 := ⟨by decide +kernel, rfl⟩
theorem dX2_divisor_20 : Ins mX2_divisor 20 (.if_icmp .ge 31) 3 23 := ⟨by decide +kernel, rfl⟩
theorem dX2_divisor_23 : Ins mX2_divisor 23 (.lload 6) 2 25 := ⟨by decide +kernel, rfl⟩
theorem dX2_divisor_25 : Ins mX2_divisor 25 (.lconst 0) 1 26 := ⟨by decide +kernel, rfl⟩
theorem dX2_divisor_26 : Ins mX2_divisor 26 (.lcmp) 1 27 := ⟨by decide +kernel, rfl⟩
theorem dX2_divisor_27 : Ins mX2_divisor 27 (.ifCond .eq 24) 3 30 := ⟨by decide +kernel, rfl⟩
theorem dX2_divisor_30 : Ins mX2_divisor 30 (.lload 4) 2 32 := ⟨by decide +kernel, rfl⟩
theorem dX2_divisor_32 : Ins mX2_divisor 32 (.lload 6) 2 34 := ⟨by decide +kernel, rfl⟩
theorem dX2_divisor_34 : Ins mX2_divisor 34 (.lrem) 1 35 := ⟨by decide +kernel, rfl⟩
theorem dX2_divisor_35 : Ins mX2_divisor 35 (.lstore 9) 2 37 := ⟨by decide +kernel, rfl⟩
theorem dX2_divisor_37 : Ins mX2_divisor 37 (.lload 6) 2 39 := ⟨by decide +kernel, rfl⟩
theorem dX2_divisor_39 : Ins mX2_divisor 39 (.lstore 4) 2 41 := ⟨by decide +kernel, rfl⟩
theorem dX2_divisor_41 : Ins mX2_divisor 41 (.lload 9) 2 43 := ⟨by decide +kernel, rfl⟩
theorem dX2_divisor_43 : Ins mX2_divisor 43 (.lstore 6) 2 45 := ⟨by decide +kernel, rfl⟩
theorem dX2_divisor_45 : Ins mX2_divisor 45 (.iinc 8 1) 3 48 := ⟨by decide +kernel, rfl⟩
theorem dX2_divisor_48 : Ins mX2_divisor 48 (.goto (-33)) 3 51 := ⟨by decide +kernel, rfl⟩
theorem dX2_divisor_51 : Ins mX2_divisor 51 (.lload 4) 2 53 := ⟨by decide +kernel, rfl⟩
theorem dX2_divisor_53 : Ins mX2_divisor 53 (.lreturn) 1 54 := ⟨by decide +kernel, rfl⟩
theorem dX3_init_0 : Ins mX3_init 0 (.aload_n 0) 1 1 := ⟨by decide +kernel, rfl⟩
theorem dX3_init_1 : Ins mX3_init 1 (.invokespecial 3) 3 4 := ⟨by decide +kernel, rfl⟩
theorem dX3_init_4 : Ins mX3_init 4 (.aload_n 0) 1 5 := ⟨by decide +kernel, rfl⟩
theorem dX3_init_5 : Ins mX3_init 5 (.sipush 300) 3 8 := ⟨by decide +kernel, rfl⟩
theorem dX3_init_8 : Ins mX3_init 8 (.newarray .int) 2 10 := ⟨by decide +kernel, rfl⟩
theorem dX3_init_10 : GpR mX3_init 10 13 2 0 := ⟨0, rfl, _, ⟨9, _, by decide +kernel, rfl, rfl, by decide, tb_1 (List.mem_of_getElem? (i := 185) (by decide +kernel)) rfl, tyX3_ok 0 (by decide), Or.inr ⟨rfl, rfl, rfl⟩⟩, by decide, rfl, Or.inr ⟨_, rfl⟩⟩
theorem dX3_init_13 : Ins mX3_init 13 (.aload_n 0) 1 14 := ⟨by decide +kernel, rfl⟩
theorem dX3_init_14 : Ins mX3_init 14 (.iconst 0) 1 15 := ⟨by decide +kernel, rfl⟩
theorem dX3_init_15 : GpI mX3_init 15 18 2 1 := ⟨1, rfl, ⟨15, _, by decide +kernel, rfl, rfl, by decide, tb_1 (List.mem_of_getElem? (i := 186) (by decide +kernel)) rfl, by decide +kernel, Or.inl rfl⟩, by decide, rfl⟩
theorem dX3_init_18 : Ins mX3_init 18 (.aload_n 0) 1 19 := ⟨by decide +kernel, rfl⟩
theorem dX3_init_19 : Ins mX3_init 19 (.sipush 301) 3 22 := ⟨by decide +kernel, rfl⟩
theorem dX3_init_22 : Ins mX3_init 22 (.newarray .int) 2 24 := ⟨by decide +kernel, rfl⟩
theorem dX3_init_24 : GpR mX3_init 24 27 2 2 := ⟨2, rfl, _, ⟨19, _, by decide +kernel, rfl, rfl, by decide, tb_1 (List.mem_of_getElem? (i := 188) (by decide +kernel)) rfl, tyX3_ok 2 (by decide), Or.inr ⟨rfl, rfl, rfl⟩⟩, by decide, rfl, Or.inr ⟨_, rfl⟩⟩
theorem dX3_init_27 : Ins mX3_init 27 (.aload_n 0) 1 28 := ⟨by decide +kernel, rfl⟩
theorem dX3_init_28 : Ins mX3_init 28 (.sipush 301) 3 31 := ⟨by decide +kernel, rfl⟩
theorem dX3_init_31 : Ins mX3_init 31 (.newarray .int) 2 33 := ⟨by decide +kernel, rfl⟩
theorem dX3_init_33 : GpR mX3_init 33 36 2 3 := ⟨3, rfl, _, ⟨22, _, by decide +kernel, rfl, rfl, by decide, tb_1 (List.mem_of_getElem? (i := 189) (by decide +kernel)) rfl, tyX3_ok 3 (by decide), Or.inr ⟨rfl, rfl, rfl⟩⟩, by decide, rfl, Or.inr ⟨_, rfl⟩⟩
theorem dX3_init_36 : Ins mX3_init 36 (.aload_n 0) 1 37 := ⟨by decide +kernel, rfl⟩
theorem dX3_init_37 : Ins mX3_init 37 (.sipush 301) 3 40 := ⟨by decide +kernel, rfl⟩
theorem dX3_init_40 : Ins mX3_init 40 (.newarray .int) 2 42 := ⟨by decide +kernel, rfl⟩
theorem dX3_init_42 : GpR mX3_init 42 45 2 4 := ⟨4, rfl, _, ⟨25, _, by decide +kernel, rfl, rfl, by decide, tb_1 (List.mem_of_getElem? (i := 190) (by decide +kernel)) rfl, tyX3_ok 4 (by decide), Or.inr ⟨rfl, rfl, rfl⟩⟩, by decide, rfl, Or.inr ⟨_, rfl⟩⟩
theorem dX3_init_45 : Ins mX3_init 45 (.aload_n 0) 1 46 := ⟨by decide +kernel, rfl⟩
theorem dX3_init_46 : Ins mX3_init 46 (.iconst 0) 1 47 := ⟨by decide +kernel, rfl⟩
theorem dX3_init_47 : GpI mX3_init 47 50 2 5 := ⟨5, rfl, ⟨28, _, by decide +kernel, rfl, rfl, by decide, tb_1 (List.mem_of_getElem? (i := 191) (by decide +kernel)) rfl, by decide +kernel, Or.inl rfl⟩, by decide, rfl⟩
theorem dX3_init_50 : Ins mX3_init 50 (.aload_n 0) 1 51 := ⟨by decide +kernel, rfl⟩
theorem dX3_init_51 : Ins mX3_init 51 (.iconst 0) 1 52 := ⟨by decide +kernel, rfl⟩
theorem dX3_init_52 : GpI mX3_init 52 55 2 6 := ⟨6, rfl, ⟨31, _, by decide +kernel, rfl, rfl, by decide, tb_1 (List.mem_of_getElem? (i := 192) (by decide +kernel)) rfl, by decide +kernel, Or.inl rfl⟩, by decide, rfl⟩
theorem dX3_init_55 : Ins mX3_init 55 (.aload_n 0) 1 56 := ⟨by decide +kernel, rfl⟩
theorem dX3_init_56 : Ins mX3_init 56 (.iconst (-1)) 1 57 := ⟨by decide +kernel, rfl⟩
theorem dX3_init_57 : GpI mX3_init 57 60 2 7 := ⟨7, rfl, ⟨34, _, by decide +kernel, rfl, rfl, by decide, tb_1 (List.mem_of_getElem? (i := 193) (by decide +kernel)) rfl, by decide +kernel, Or.inl rfl⟩, by decide, rfl⟩
theorem dX3_init_60 : Ins mX3_init 60 (.aload_n 0) 1 61 := ⟨by decide +kernel, rfl⟩
theorem dX3_init_61 : Ins mX3_init 61 (.new 37) 3 64 := ⟨by decide +kernel, rfl⟩
theorem dX3_init_64 : Ins mX3_init 64 (.dup) 1 65 := ⟨by decide +kernel, rfl⟩
theorem dX3_init_65 : CalC mX3_init 65 68 mX5_init := ⟨39, by decide +kernel, rfl, Or.inr ⟨"RockingGuard", List.mem_of_getElem? (i := 6) (by decide +kernel)⟩, meX5_init⟩
theorem dX3_init_68 : GpR mX3_init 68 71 2 8 := ⟨8, rfl, _, ⟨40, _, by decide +kernel, rfl, rfl, by decide, tb_1 (List.mem_of_getElem? (i := 194) (by decide +kernel)) rfl, tyX3_ok 8 (by decide), Or.inl rfl⟩, by decide, rfl, Or.inl ⟨_, rfl⟩⟩
theorem dX3_init_71 : Ins mX3_init 71 (.aload_n 0) 1 72 := ⟨by decide +kernel, rfl⟩
theorem dX3_init_72 : Ins mX3_init 72 (.iconst 0) 1 73 := ⟨by decide +kernel, rfl⟩
theorem dX3_init_73 : GpZ mX3_init 73 76 2 9 := ⟨9, rfl, ⟨44, _, by decide +kernel, rfl, rfl, by decide, tb_1 (List.mem_of_getElem? (i := 196) (by decide +kernel)) rfl, by decide +kernel, Or.inl rfl⟩, by decide, rfl⟩
theorem dX3_init_76 : Ins mX3_init 76 (.aload_n 0) 1 77 := ⟨by decide +kernel, rfl⟩
theorem dX3_init_77 : Ins mX3_init 77 (.iconst 0) 1 78 := ⟨by decide +kernel, rfl⟩
theorem dX3_init_78 : GpI mX3_init 78 81 2 10 := ⟨10, rfl, ⟨48, _, by decide +kernel, rfl, rfl, by decide, tb_1 (List.mem_of_getElem? (i := 198) (by decide +kernel)) rfl, by decide +kernel, Or.inl rfl⟩, by decide, rfl⟩
theorem dX3_init_81 : Ins mX3_init 81 (.aload_n 0) 1 82 := ⟨by decide +kernel, rfl⟩
theorem dX3_init_82 : Ins mX3_init 82 (.iconst (-1)) 1 83 := ⟨by decide +kernel, rfl⟩
theorem dX3_init_83 : GpI mX3_init 83 86 2 11 := ⟨11, rfl, ⟨51, _, by decide +kernel, rfl, rfl, by decide, tb_1 (List.mem_of_getElem? (i := 200) (by decide +kernel)) rfl, by decide +kernel, Or.inl rfl⟩, by decide, rfl⟩
theorem dX3_init_86 : Ins mX3_init 86 (.return_) 1 87 := ⟨by decide +kernel, rfl⟩
theorem dX3_takeBytes_0 : Ins mX3_takeBytes 0 (.aload_n 0) 1 1 := ⟨by decide +kernel, rfl⟩
theorem dX3_takeBytes_1 : GgI mX3_takeBytes 1 4 2 1 := ⟨1, rfl, ⟨15, _, by decide +kernel, rfl, rfl, by decide, tb_1 (List.mem_of_getElem? (i := 186) (by decide +kernel)) rfl⟩, by decide, rfl⟩
theorem dX3_takeBytes_4 : Ins mX3_takeBytes 4 (.bipush 20) 2 6 := ⟨by decide +kernel, rfl⟩
theorem dX3_takeBytes_6 : Ins mX3_takeBytes 6 (.iadd) 1 7 := ⟨by decide +kernel, rfl⟩
theorem dX3_takeBytes_7 : Ins mX3_takeBytes 7 (.sipush 300) 3 10 := ⟨by decide +kernel, rfl⟩
theorem dX3_takeBytes_10 : Ins mX3_takeBytes 10 (.if_icmp .le 5) 3 13 := ⟨by decide +kernel, rfl⟩
theorem dX3_takeBytes_13 : Ins mX3_takeBytes 13 (.iconst (-1)) 1 14 := ⟨by decide +kernel, rfl⟩
theorem dX3_takeBytes_14 : Ins mX3_takeBytes 14 (.ireturn) 1 15 := ⟨by decide +kernel, rfl⟩
theorem dX3_takeBytes_15 : Ins mX3_takeBytes 15 (.aload_n 0) 1 16 := ⟨by decide +kernel, rfl⟩
theorem dX3_takeBytes_16 : Ins mX3_takeBytes 16 (.iload_n 1) 1 17 := ⟨by decide +kernel, rfl⟩
theorem dX3_takeBytes_17 : CalV mX3_takeBytes 17 20 mX3_takeFour := ⟨54, by decide +kernel, rfl, tb_2 (List.mem_of_getElem? (i := 98) (by decide +kernel)) rfl, meX3_takeFour⟩
theorem dX3_takeBytes_20 : Ins mX3_takeBytes 20 (.aload_n 0) 1 21 := ⟨by decide +kernel, rfl⟩
theorem dX3_takeBytes_21 : Ins mX3_takeBytes 21 (.iload_n 2) 1 22 := ⟨by decide +kernel, rfl⟩
theorem dX3_takeBytes_22 : CalV mX3_takeBytes 22 25 mX3_takeFour := ⟨54, by decide +kernel, rfl, tb_2 (List.mem_of_getElem? (i := 98) (by decide +kernel)) rfl, meX3_takeFour⟩
theorem dX3_takeBytes_25 : Ins mX3_takeBytes 25 (.aload_n 0) 1 26 := ⟨by decide +kernel, rfl⟩
theorem dX3_takeBytes_26 : Ins mX3_takeBytes 26 (.iload_n 3) 1 27 := ⟨by decide +kernel, rfl⟩
theorem dX3_takeBytes_27 : CalV mX3_takeBytes 27 30 mX3_takeFour := ⟨54, by decide +kernel, rfl, tb_2 (List.mem_of_getElem? (i := 98) (by decide +kernel)) rfl, meX3_takeFour⟩
theorem dX3_takeBytes_30 : Ins mX3_takeBytes 30 (.aload_n 0) 1 31 := ⟨by decide +kernel, rfl⟩
theorem dX3_takeBytes_31 : Ins mX3_takeBytes 31 (.iload 4) 2 33 := ⟨by decide +kernel, rfl⟩
theorem dX3_takeBytes_33 : CalV mX3_takeBytes 33 36 mX3_takeFour := ⟨54, by decide +kernel, rfl, tb_2 (List.mem_of_getElem? (i := 98) (by decide +kernel)) rfl, meX3_takeFour⟩
theorem dX3_takeBytes_36 : Ins mX3_takeBytes 36 (.aload_n 0) 1 37 := ⟨by decide +kernel, rfl⟩
theorem dX3_takeBytes_37 : Ins mX3_takeBytes 37 (.iload 5) 2 39 := ⟨by decide +kernel, rfl⟩
theorem dX3_takeBytes_39 : CalV mX3_takeBytes 39 42 mX3_takeFour := ⟨54, by decide +kernel, rfl, tb_2 (List.mem_of_getElem? (i := 98) (by decide +kernel)) rfl, meX3_takeFour⟩
theorem dX3_takeBytes_42 : Ins mX3_takeBytes 42 (.aload_n 0) 1 43 := ⟨by decide +kernel, rfl⟩
theorem dX3_takeBytes_43 : GgI mX3_takeBytes 43 46 2 1 := ⟨1, rfl, ⟨15, _, by decide +kernel, rfl, rfl, by decide, tb_1 (List.mem_of_getElem? (i := 186) (by decide +kernel)) rfl⟩, by decide, rfl⟩
theorem dX3_takeBytes_46 : Ins mX3_takeBytes 46 (.ireturn) 1 47 := ⟨by decide +kernel, rfl⟩
theorem dX3_takeFour_0 : Ins mX3_takeFour 0 (.bipush 24) 2 2 := ⟨by decide +kernel, rfl⟩
theorem dX3_takeFour_2 : Ins mX3_takeFour 2 (.istore_n 2) 1 3 := ⟨by decide +kernel, rfl⟩
theorem dX3_takeFour_3 : Ins mX3_takeFour 3 (.iload_n 2) 1 4 := ⟨by decide +kernel, rfl⟩
theorem dX3_takeFour_4 : Ins mX3_takeFour 4 (.ifCond .lt 45) 3 7 := ⟨by decide +kernel, rfl⟩
theorem dX3_takeFour_7 : Ins mX3_takeFour 7 (.aload_n 0) 1 8 := ⟨by decide +kernel, rfl⟩
theorem dX3_takeFour_8 : GgI mX3_takeFour 8 11 2 1 := ⟨1, rfl, ⟨15, _, by decide +kernel, rfl, rfl, by decide, tb_1 (List.mem_of_getElem? (i := 186) (by decide +kernel)) rfl⟩, by decide, rfl⟩
theorem dX3_takeFour_11 : Ins mX3_takeFour 11 (.sipush 300) 3 14 := ⟨by decide +kernel, rfl⟩
theorem dX3_takeFour_14 : Ins mX3_takeFour 14 (.if_icmp .ge 35) 3 17 := ⟨by decide +kernel, rfl⟩
theorem dX3_takeFour_17 : Ins mX3_takeFour 17 (.aload_n 0) 1 18 := ⟨by decide +kernel, rfl⟩
theorem dX3_takeFour_18 : GgR mX3_takeFour 18 21 2 0 := ⟨0, rfl, ⟨9, _, by decide +kernel, rfl, rfl, by decide, tb_1 (List.mem_of_getElem? (i := 185) (by decide +kernel)) rfl⟩, by decide, rfl⟩
theorem dX3_takeFour_21 : Ins mX3_takeFour 21 (.aload_n 0) 1 22 := ⟨by decide +kernel, rfl⟩
theorem dX3_takeFour_22 : GgI mX3_takeFour 22 25 2 1 := ⟨1, rfl, ⟨15, _, by decide +kernel, rfl, rfl, by decide, tb_1 (List.mem_of_getElem? (i := 186) (by decide +kernel)) rfl⟩, by decide, rfl⟩
theorem dX3_takeFour_25 : Ins mX3_takeFour 25 (.iload_n 1) 1 26 := ⟨by decide +kernel, rfl⟩
theorem dX3_takeFour_26 : Ins mX3_takeFour 26 (.iload_n 2) 1 27 := ⟨by decide +kernel, rfl⟩
theorem dX3_takeFour_27 : Ins mX3_takeFour 27 (.iushr) 1 28 := ⟨by decide +kernel, rfl⟩
theorem dX3_takeFour_28 : Ins mX3_takeFour 28 (.sipush 255) 3 31 := ⟨by decide +kernel, rfl⟩
theorem dX3_takeFour_31 : Ins mX3_takeFour 31 (.iand) 1 32 := ⟨by decide +kernel, rfl⟩
theorem dX3_takeFour_32 : Ins mX3_takeFour 32 (.iastore) 1 33 := ⟨by decide +kernel, rfl⟩
theorem dX3_takeFour_33 : Ins mX3_takeFour 33 (.aload_n 0) 1 34 := ⟨by decide +kernel, rfl⟩
theorem dX3_takeFour_34 : Ins mX3_takeFour 34 (.dup) 1 35 := ⟨by decide +kernel, rfl⟩
theorem dX3_takeFour_35 : GgI mX3_takeFour 35 38 2 1 := ⟨1, rfl, ⟨15, _, by decide +kernel, rfl, rfl, by decide, tb_1 (List.mem_of_getElem? (i := 186) (by decide +kernel)) rfl⟩, by decide, rfl⟩
theorem dX3_takeFour_38 : Ins mX3_takeFour 38 (.iconst 1) 1 39 := ⟨by decide +kernel, rfl⟩
theorem dX3_takeFour_39 : Ins mX3_takeFour 39 (.iadd) 1 40 := ⟨by decide +kernel, rfl⟩
theorem dX3_takeFour_40 : GpI mX3_takeFour 40 43 2 1 := ⟨1, rfl, ⟨15, _, by decide +kernel, rfl, rfl, by decide, tb_1 (List.mem_of_getElem? (i := 186) (by decide +kernel)) rfl, by decide +kernel, Or.inl rfl⟩, by decide, rfl⟩
theorem dX3_takeFour_43 : Ins mX3_takeFour 43 (.iinc 2 (-8)) 3 46 := ⟨by decide +kernel, rfl⟩
theorem dX3_takeFour_46 : Ins mX3_takeFour 46 (.goto (-43)) 3 49 := ⟨by decide +kernel, rfl⟩
theorem dX3_takeFour_49 : Ins mX3_takeFour 49 (.return_) 1 50 := ⟨by decide +kernel, rfl⟩
theorem dX3_cutTo_0 : Ins mX3_cutTo 0 (.iload_n 1) 1 1 := ⟨by decide +kernel, rfl⟩
theorem dX3_cutTo_1 : Ins mX3_cutTo 1 (.ifCond .lt 11) 3 4 := ⟨by decide +kernel, rfl⟩
theorem dX3_cutTo_4 : Ins mX3_cutTo 4 (.iload_n 1) 1 5 := ⟨by decide +kernel, rfl⟩
theorem dX3_cutTo_5 : Ins mX3_cutTo 5 (.aload_n 0) 1 6 := ⟨by decide +kernel, rfl⟩
theorem dX3_cutTo_6 : GgI mX3_cutTo 6 9 2 1 := ⟨1, rfl, ⟨15, _, by decide +kernel, rfl, rfl, by decide, tb_1 (List.mem_of_getElem? (i := 186) (by decide +kernel)) rfl⟩, by decide, rfl⟩
theorem dX3_cutTo_9 : Ins mX3_cutTo 9 (.if_icmp .le 5) 3 12 := ⟨by decide +kernel, rfl⟩
theorem dX3_cutTo_12 : Ins mX3_cutTo 12 (.iconst (-1)) 1 13 := ⟨by decide +kernel, rfl⟩
theorem dX3_cutTo_13 : Ins mX3_cutTo 13 (.ireturn) 1 14 := ⟨by decide +kernel, rfl⟩
theorem dX3_cutTo_14 : Ins mX3_cutTo 14 (.aload_n 0) 1 15 := ⟨by decide +kernel, rfl⟩
theorem dX3_cutTo_15 : Ins mX3_cutTo 15 (.iload_n 1) 1 16 := ⟨by decide +kernel, rfl⟩
theorem dX3_cutTo_16 : GpI mX3_cutTo 16 19 2 1 := ⟨1, rfl, ⟨15, _, by decide +kernel, rfl, rfl, by decide, tb_1 (List.mem_of_getElem? (i := 186) (by decide +kernel)) rfl, by decide +kernel, Or.inl rfl⟩, by decide, rfl⟩
theorem dX3_cutTo_19 : Ins mX3_cutTo 19 (.iload_n 1) 1 20 := ⟨by decide +kernel, rfl⟩
theorem dX3_cutTo_20 : Ins mX3_cutTo 20 (.ireturn) 1 21 := ⟨by decide +kernel, rfl⟩
theorem dX3_readTape_0 : Ins mX3_readTape 0 (.aload_n 0) 1 1 := ⟨by decide +kernel, rfl⟩
theorem dX3_readTape_1 : GgR mX3_readTape 1 4 2 8 := ⟨8, rfl, ⟨40, _, by decide +kernel, rfl, rfl, by decide, tb_1 (List.mem_of_getElem? (i := 194) (by decide +kernel)) rfl⟩, by decide, rfl⟩
theorem dX3_readTape_4 : CalV mX3_readTape 4 7 mX5_wipe := ⟨58, by decide +kernel, rfl, tb_2 (List.mem_of_getElem? (i := 118) (by decide +kernel)) rfl, meX5_wipe⟩
theorem dX3_readTape_7 : Ins mX3_readTape 7 (.aload_n 0) 1 8 := ⟨by decide +kernel, rfl⟩
theorem dX3_readTape_8 : Ins mX3_readTape 8 (.iconst 1) 1 9 := ⟨by decide +kernel, rfl⟩
theorem dX3_readTape_9 : GpZ mX3_readTape 9 12 2 9 := ⟨9, rfl, ⟨44, _, by decide +kernel, rfl, rfl, by decide, tb_1 (List.mem_of_getElem? (i := 196) (by decide +kernel)) rfl, by decide +kernel, Or.inl rfl⟩, by decide, rfl⟩
theorem dX3_readTape_12 : Ins mX3_readTape 12 (.aload_n 0) 1 13 := ⟨by decide +kernel, rfl⟩
theorem dX3_readTape_13 : Ins mX3_readTape 13 (.iconst 0) 1 14 := ⟨by decide +kernel, rfl⟩
theorem dX3_readTape_14 : GpI mX3_readTape 14 17 2 10 := ⟨10, rfl, ⟨48, _, by decide +kernel, rfl, rfl, by decide, tb_1 (List.mem_of_getElem? (i := 198) (by decide +kernel)) rfl, by decide +kernel, Or.inl rfl⟩, by decide, rfl⟩
theorem dX3_readTape_17 : Ins mX3_readTape 17 (.aload_n 0) 1 18 := ⟨by decide +kernel, rfl⟩
theorem dX3_readTape_18 : Ins mX3_readTape 18 (.iconst (-1)) 1 19 := ⟨by decide +kernel, rfl⟩
theorem dX3_readTape_19 : GpI mX3_readTape 19 22 2 11 := ⟨11, rfl, ⟨51, _, by decide +kernel, rfl, rfl, by decide, tb_1 (List.mem_of_getElem? (i := 200) (by decide +kernel)) rfl, by decide +kernel, Or.inl rfl⟩, by decide, rfl⟩
theorem dX3_readTape_22 : Ins mX3_readTape 22 (.aload_n 0) 1 23 := ⟨by decide +kernel, rfl⟩
theorem dX3_readTape_23 : Ins mX3_readTape 23 (.iconst 0) 1 24 := ⟨by decide +kernel, rfl⟩
theorem dX3_readTape_24 : GpI mX3_readTape 24 27 2 6 := ⟨6, rfl, ⟨31, _, by decide +kernel, rfl, rfl, by decide, tb_1 (List.mem_of_getElem? (i := 192) (by decide +kernel)) rfl, by decide +kernel, Or.inl rfl⟩, by decide, rfl⟩
theorem dX3_readTape_27 : Ins mX3_readTape 27 (.aload_n 0) 1 28 := ⟨by decide +kernel, rfl⟩
theorem dX3_readTape_28 : CalV mX3_readTape 28 31 mX3_splitTape := ⟨61, by decide +kernel, rfl, tb_2 (List.mem_of_getElem? (i := 125) (by decide +kernel)) rfl, meX3_splitTape⟩
theorem dX3_readTape_31 : Ins mX3_readTape 31 (.aload_n 0) 1 32 := ⟨by decide +kernel, rfl⟩
theorem dX3_readTape_32 : Ins mX3_readTape 32 (.iconst 0) 1 33 := ⟨by decide +kernel, rfl⟩
theorem dX3_readTape_33 : GpI mX3_readTape 33 36 2 1 := ⟨1, rfl, ⟨15, _, by decide +kernel, rfl, rfl, by decide, tb_1 (List.mem_of_getElem? (i := 186) (by decide +kernel)) rfl, by decide +kernel, Or.inl rfl⟩, by decide, rfl⟩
theorem dX3_readTape_36 : Ins mX3_readTape 36 (.iconst 0) 1 37 := ⟨by decide +kernel, rfl⟩
theorem dX3_readTape_37 : Ins mX3_readTape 37 (.istore_n 1) 1 38 := ⟨by decide +kernel, rfl⟩
theorem dX3_readTape_38 : Ins mX3_readTape 38 (.iload_n 1) 1 39 := ⟨by decide +kernel, rfl⟩
theorem dX3_readTape_39 : Ins mX3_readTape 39 (.bipush 24) 2 41 := ⟨by decide +kernel, rfl⟩
theorem dX3_readTape_41 : Ins mX3_readTape 41 (.if_icmp .gt 29) 3 44 := ⟨by decide +kernel, rfl⟩
theorem dX3_readTape_44 : Ins mX3_readTape 44 (.aload_n 0) 1 45 := ⟨by decide +kernel, rfl⟩
theorem dX3_readTape_45 : GgI mX3_readTape 45 48 2 10 := ⟨10, rfl, ⟨48, _, by decide +kernel, rfl, rfl, by decide, tb_1 (List.mem_of_getElem? (i := 198) (by decide +kernel)) rfl⟩, by decide, rfl⟩
theorem dX3_readTape_48 : Ins mX3_readTape 48 (.ifCond .ne 22) 3 51 := ⟨by decide +kernel, rfl⟩
theorem dX3_readTape_51 : Ins mX3_readTape 51 (.aload_n 0) 1 52 := ⟨by decide +kernel, rfl⟩
theorem dX3_readTape_52 : CalV mX3_readTape 52 55 mX3_kind := ⟨64, by decide +kernel, rfl, tb_2 (List.mem_of_getElem? (i := 213) (by decide +kernel)) rfl, meX3_kind⟩
theorem dX3_readTape_55 : Ins mX3_readTape 55 (.bipush 45) 2 57 := ⟨by decide +kernel, rfl⟩
theorem dX3_readTape_57 : Ins mX3_readTape 57 (.if_icmp .eq 13) 3 60 := ⟨by decide +kernel, rfl⟩
theorem dX3_readTape_60 : Ins mX3_readTape 60 (.aload_n 0) 1 61 := ⟨by decide +kernel, rfl⟩
theorem dX3_readTape_61 : CalV mX3_readTape 61 64 mX3_readClause := ⟨68, by decide +kernel, rfl, tb_2 (List.mem_of_getElem? (i := 217) (by decide +kernel)) rfl, meX3_readClause⟩
theorem dX3_readTape_64 : Ins mX3_readTape 64 (.iinc 1 1) 3 67 := ⟨by decide +kernel, rfl⟩
theorem dX3_readTape_67 : Ins mX3_readTape 67 (.goto (-29)) 3 70 := ⟨by decide +kernel, rfl⟩
theorem dX3_readTape_70 : Ins mX3_readTape 70 (.return_) 1 71 := ⟨by decide +kernel, rfl⟩
theorem dX3_splitTape_0 : Ins mX3_splitTape 0 (.aload_n 0) 1 1 := ⟨by decide +kernel, rfl⟩
theorem dX3_splitTape_1 : Ins mX3_splitTape 1 (.iconst 0) 1 2 := ⟨by decide +kernel, rfl⟩
theorem dX3_splitTape_2 : GpI mX3_splitTape 2 5 2 5 := ⟨5, rfl, ⟨28, _, by decide +kernel, rfl, rfl, by decide, tb_1 (List.mem_of_getElem? (i := 191) (by decide +kernel)) rfl, by decide +kernel, Or.inl rfl⟩, by decide, rfl⟩
theorem dX3_splitTape_5 : Ins mX3_splitTape 5 (.iconst 0) 1 6 := ⟨by decide +kernel, rfl⟩
theorem dX3_splitTape_6 : Ins mX3_splitTape 6 (.istore_n 1) 1 7 := ⟨by decide +kernel, rfl⟩
theorem dX3_splitTape_7 : Ins mX3_splitTape 7 (.iload_n 1) 1 8 := ⟨by decide +kernel, rfl⟩
theorem dX3_splitTape_8 : Ins mX3_splitTape 8 (.aload_n 0) 1 9 := ⟨by decide +kernel, rfl⟩
theorem dX3_splitTape_9 : GgI mX3_splitTape 9 12 2 1 := ⟨1, rfl, ⟨15, _, by decide +kernel, rfl, rfl, by decide, tb_1 (List.mem_of_getElem? (i := 186) (by decide +kernel)) rfl⟩, by decide, rfl⟩
theorem dX3_splitTape_12 : Ins mX3_splitTape 12 (.if_icmp .ge 58) 3 15 := ⟨by decide +kernel, rfl⟩
theorem dX3_splitTape_15 : Ins mX3_splitTape 15 (.aload_n 0) 1 16 := ⟨by decide +kernel, rfl⟩
theorem dX3_splitTape_16 : Ins mX3_splitTape 16 (.iload_n 1) 1 17 := ⟨by decide +kernel, rfl⟩
theorem dX3_splitTape_17 : CalV mX3_splitTape 17 20 mX3_byteAt := ⟨71, by decide +kernel, rfl, tb_2 (List.mem_of_getElem? (i := 129) (by decide +kernel)) rfl, meX3_byteAt⟩
theorem dX3_splitTape_20 : Ins mX3_splitTape 20 (.istore_n 2) 1 21 := ⟨by decide +kernel, rfl⟩
theorem dX3_splitTape_21 : Ins mX3_splitTape 21 (.iload_n 2) 1 22 := ⟨by decide +kernel, rfl⟩
theorem dX3_splitTape_22 : Ins mX3_splitTape 22 (.bipush 32) 2 24 := ⟨by decide +kernel, rfl⟩
theorem dX3_splitTape_24 : Ins mX3_splitTape 24 (.if_icmp .eq 40) 3 27 := ⟨by decide +kernel, rfl⟩
theorem dX3_splitTape_27 : Ins mX3_splitTape 27 (.iload_n 2) 1 28 := ⟨by decide +kernel, rfl⟩
theorem dX3_splitTape_28 : Ins mX3_splitTape 28 (.bipush 10) 2 30 := ⟨by decide +kernel, rfl⟩
theorem dX3_splitTape_30 : Ins mX3_splitTape 30 (.if_icmp .eq 34) 3 33 := ⟨by decide +kernel, rfl⟩
theorem dX3_splitTape_33 : Ins mX3_splitTape 33 (.aload_n 0) 1 34 := ⟨by decide +kernel, rfl⟩
theorem dX3_splitTape_34 : Ins mX3_splitTape 34 (.iload_n 1) 1 35 := ⟨by decide +kernel, rfl⟩
theorem dX3_splitTape_35 : CalV mX3_splitTape 35 38 mX3_endOfToken := ⟨75, by decide +kernel, rfl, tb_2 (List.mem_of_getElem? (i := 133) (by decide +kernel)) rfl, meX3_endOfToken⟩
theorem dX3_splitTape_38 : Ins mX3_splitTape 38 (.istore_n 3) 1 39 := ⟨by decide +kernel, rfl⟩
theorem dX3_splitTape_39 : Ins mX3_splitTape 39 (.aload_n 0) 1 40 := ⟨by decide +kernel, rfl⟩
theorem dX3_splitTape_40 : Ins mX3_splitTape 40 (.aload_n 0) 1 41 := ⟨by decide +kernel, rfl⟩
theorem dX3_splitTape_41 : Ins mX3_splitTape 41 (.iload_n 1) 1 42 := ⟨by decide +kernel, rfl⟩
theorem dX3_splitTape_42 : Ins mX3_splitTape 42 (.iload_n 3) 1 43 := ⟨by decide +kernel, rfl⟩
theorem dX3_splitTape_43 : CalV mX3_splitTape 43 46 mX3_kindOf := ⟨78, by decide +kernel, rfl, tb_2 (List.mem_of_getElem? (i := 144) (by decide +kernel)) rfl, meX3_kindOf⟩
theorem dX3_splitTape_46 : Ins mX3_splitTape 46 (.iload_n 1) 1 47 := ⟨by decide +kernel, rfl⟩
theorem dX3_splitTape_47 : Ins mX3_splitTape 47 (.aload_n 0) 1 48 := ⟨by decide +kernel, rfl⟩
theorem dX3_splitTape_48 : Ins mX3_splitTape 48 (.iload_n 1) 1 49 := ⟨by decide +kernel, rfl⟩
theorem dX3_splitTape_49 : Ins mX3_splitTape 49 (.iload_n 3) 1 50 := ⟨by decide +kernel, rfl⟩
theorem dX3_splitTape_50 : CalV mX3_splitTape 50 53 mX3_valueOf := ⟨82, by decide +kernel, rfl, tb_2 (List.mem_of_getElem? (i := 201) (by decide +kernel)) rfl, meX3_valueOf⟩
theorem dX3_splitTape_53 : CalV mX3_splitTape 53 56 mX3_addToken := ⟨85, by decide +kernel, rfl, tb_2 (List.mem_of_getElem? (i := 209) (by decide +kernel)) rfl, meX3_addToken⟩
theorem dX3_splitTape_56 : Ins mX3_splitTape 56 (.iload_n 1) 1 57 := ⟨by decide +kernel, rfl⟩
theorem dX3_splitTape_57 : Ins mX3_splitTape 57 (.iload_n 3) 1 58 := ⟨by decide +kernel, rfl⟩
theorem dX3_splitTape_58 : Ins mX3_splitTape 58 (.iconst 1) 1 59 := ⟨by decide +kernel, rfl⟩
theorem dX3_splitTape_59 : Ins mX3_splitTape 59 (.isub) 1 60 := ⟨by decide +kernel, rfl⟩
theorem dX3_splitTape_60 : CalM mX3_splitTape 60 63 Lib.Math.max.name Lib.Math.max.code 2 (some .int) := ⟨89, by decide +kernel, rfl, tb_2 (List.mem_of_getElem? (i := 205) (by decide +kernel)) rfl, tb_2 (List.mem_of_getElem? (i := 206) (by decide +kernel)) rfl, tb_1 (List.mem_of_getElem? (i := 6) (by decide +kernel)) rfl, tb_2 (List.mem_of_getElem? (i := 207) rfl) rfl⟩
theorem dX3_splitTape_63 : Ins mX3_splitTape 63 (.istore_n 1) 1 64 := ⟨by decide +kernel, rfl⟩
theorem dX3_splitTape_64 : Ins mX3_splitTape 64 (.iinc 1 1) 3 67 := ⟨by decide +kernel, rfl⟩
theorem dX3_splitTape_67 : Ins mX3_splitTape 67 (.goto (-60)) 3 70 := ⟨by decide +kernel, rfl⟩
theorem dX3_splitTape_70 : Ins mX3_splitTape 70 (.aload_n 0) 1 71 := ⟨by decide +kernel, rfl⟩
theorem dX3_splitTape_71 : Ins mX3_splitTape 71 (.bipush 45) 2 73 := ⟨by decide +kernel, rfl⟩
theorem dX3_splitTape_73 : Ins mX3_splitTape 73 (.aload_n 0) 1 74 := ⟨by decide +kernel, rfl⟩
theorem dX3_splitTape_74 : GgI mX3_splitTape 74 77 2 1 := ⟨1, rfl, ⟨15, _, by decide +kernel, rfl, rfl, by decide, tb_1 (List.mem_of_getElem? (i := 186) (by decide +kernel)) rfl⟩, by decide, rfl⟩
theorem dX3_splitTape_77 : Ins mX3_splitTape 77 (.iconst 0) 1 78 := ⟨by decide +kernel, rfl⟩
theorem dX3_splitTape_78 : CalV mX3_splitTape 78 81 mX3_addToken := ⟨85, by decide +kernel, rfl, tb_2 (List.mem_of_getElem? (i := 209) (by decide +kernel)) rfl, meX3_addToken⟩
theorem dX3_splitTape_81 : Ins mX3_splitTape 81 (.return_) 1 82 := ⟨by decide +kernel, rfl⟩
theorem dX3_addToken_0 : Ins mX3_addToken 0 (.aload_n 0) 1 1 := ⟨by decide +kernel, rfl⟩
theorem dX3_addToken_1 : GgI mX3_addToken 1 4 2 5 := ⟨5, rfl, ⟨28, _, by decide +kernel, rfl, rfl, by decide, tb_1 (List.mem_of_getElem? (i := 191) (by decide +kernel)) rfl⟩, by decide, rfl⟩
theorem dX3_addToken_4 : Ins mX3_addToken 4 (.sipush 300) 3 7 := ⟨by decide +kernel, rfl⟩
theorem dX3_addToken_7 : Ins mX3_addToken 7 (.if_icmp .gt 43) 3 10 := ⟨by decide +kernel, rfl⟩
theorem dX3_addToken_10 : Ins mX3_addToken 10 (.aload_n 0) 1 11 := ⟨by decide +kernel, rfl⟩
theorem dX3_addToken_11 : GgR mX3_addToken 11 14 2 2 := ⟨2, rfl, ⟨19, _, by decide +kernel, rfl, rfl, by decide, tb_1 (List.mem_of_getElem? (i := 188) (by decide +kernel)) rfl⟩, by decide, rfl⟩
theorem dX3_addToken_14 : Ins mX3_addToken 14 (.aload_n 0) 1 15 := ⟨by decide +kernel, rfl⟩
theorem dX3_addToken_15 : GgI mX3_addToken 15 18 2 5 := ⟨5, rfl, ⟨28, _, by decide +kernel, rfl, rfl, by decide, tb_1 (List.mem_of_getElem? (i := 191) (by decide +kernel)) rfl⟩, by decide, rfl⟩
theorem dX3_addToken_18 : Ins mX3_addToken 18 (.iload_n 1) 1 19 := ⟨by decide +kernel, rfl⟩
theorem dX3_addToken_19 : Ins mX3_addToken 19 (.iastore) 1 20 := ⟨by decide +kernel, rfl⟩
theorem dX3_addToken_20 : Ins mX3_addToken 20 (.aload_n 0) 1 21 := ⟨by decide +kernel, rfl⟩
theorem dX3_addToken_21 : GgR mX3_addToken 21 24 2 3 := ⟨3, rfl, ⟨22, _, by decide +kernel, rfl, rfl, by decide, tb_1 (List.mem_of_getElem? (i := 189) (by decide +kernel)) rfl⟩, by decide, rfl⟩
theorem dX3_addToken_24 : Ins mX3_addToken 24 (.aload_n 0) 1 25 := ⟨by decide +kernel, rfl⟩
theorem dX3_addToken_25 : GgI mX3_addToken 25 28 2 5 := ⟨5, rfl, ⟨28, _, by decide +kernel, rfl, rfl, by decide, tb_1 (List.mem_of_getElem? (i := 191) (by decide +kernel)) rfl⟩, by decide, rfl⟩
theorem dX3_addToken_28 : Ins mX3_addToken 28 (.iload_n 2) 1 29 := ⟨by decide +kernel, rfl⟩
theorem dX3_addToken_29 : Ins mX3_addToken 29 (.iastore) 1 30 := ⟨by decide +kernel, rfl⟩
theorem dX3_addToken_30 : Ins mX3_addToken 30 (.aload_n 0) 1 31 := ⟨by decide +kernel, rfl⟩
theorem dX3_addToken_31 : GgR mX3_addToken 31 34 2 4 := ⟨4, rfl, ⟨25, _, by decide +kernel, rfl, rfl, by decide, tb_1 (List.mem_of_getElem? (i := 190) (by decide +kernel)) rfl⟩, by decide, rfl⟩
theorem dX3_addToken_34 : Ins mX3_addToken 34 (.aload_n 0) 1 35 := ⟨by decide +kernel, rfl⟩
theorem dX3_addToken_35 : GgI mX3_addToken 35 38 2 5 := ⟨5, rfl, ⟨28, _, by decide +kernel, rfl, rfl, by decide, tb_1 (List.mem_of_getElem? (i := 191) (by decide +kernel)) rfl⟩, by decide, rfl⟩
theorem dX3_addToken_38 : Ins mX3_addToken 38 (.iload_n 3) 1 39 := ⟨by decide +kernel, rfl⟩
theorem dX3_addToken_39 : Ins mX3_addToken 39 (.iastore) 1 40 := ⟨by decide +kernel, rfl⟩
theorem dX3_addToken_40 : Ins mX3_addToken 40 (.aload_n 0) 1 41 := ⟨by decide +kernel, rfl⟩
theorem dX3_addToken_41 : Ins mX3_addToken 41 (.dup) 1 42 := ⟨by decide +kernel, rfl⟩
theorem dX3_addToken_42 : GgI mX3_addToken 42 45 2 5 := ⟨5, rfl, ⟨28, _, by decide +kernel, rfl, rfl, by decide, tb_1 (List.mem_of_getElem? (i := 191) (by decide +kernel)) rfl⟩, by decide, rfl⟩
theorem dX3_addToken_45 : Ins mX3_addToken 45 (.iconst 1) 1 46 := ⟨by decide +kernel, rfl⟩
theorem dX3_addToken_46 : Ins mX3_addToken 46 (.iadd) 1 47 := ⟨by decide +kernel, rfl⟩
theorem dX3_addToken_47 : GpI mX3_addToken 47 50 2 5 := ⟨5, rfl, ⟨28, _, by decide +kernel, rfl, rfl, by decide, tb_1 (List.mem_of_getElem? (i := 191) (by decide +kernel)) rfl, by decide +kernel, Or.inl rfl⟩, by decide, rfl⟩
theorem dX3_addToken_50 : Ins mX3_addToken 50 (.return_) 1 51 := ⟨by decide +kernel, rfl⟩
theorem dX3_byteAt_0 : Ins mX3_byteAt 0 (.iload_n 1) 1 1 := ⟨by decide +kernel, rfl⟩
theorem dX3_byteAt_1 : Ins mX3_byteAt 1 (.ifCond .lt 20) 3 4 := ⟨by decide +kernel, rfl⟩
theorem dX3_byteAt_4 : Ins mX3_byteAt 4 (.iload_n 1) 1 5 := ⟨by decide +kernel, rfl⟩
theorem dX3_byteAt_5 : Ins mX3_byteAt 5 (.aload_n 0) 1 6 := ⟨by decide +kernel, rfl⟩
theorem dX3_byteAt_6 : GgI mX3_byteAt 6 9 2 1 := ⟨1, rfl, ⟨15, _, by decide +kernel, rfl, rfl, by decide, tb_1 (List.mem_of_getElem? (i := 186) (by decide +kernel)) rfl⟩, by decide, rfl⟩
theorem dX3_byteAt_9 : Ins mX3_byteAt 9 (.if_icmp .ge 12) 3 12 := ⟨by decide +kernel, rfl⟩
theorem dX3_byteAt_12 : Ins mX3_byteAt 12 (.aload_n 0) 1 13 := ⟨by decide +kernel, rfl⟩
theorem dX3_byteAt_13 : GgR mX3_byteAt 13 16 2 0 := ⟨0, rfl, ⟨9, _, by decide +kernel, rfl, rfl, by decide, tb_1 (List.mem_of_getElem? (i := 185) (by decide +kernel)) rfl⟩, by decide, rfl⟩
theorem dX3_byteAt_16 : Ins mX3_byteAt 16 (.iload_n 1) 1 17 := ⟨by decide +kernel, rfl⟩
theorem dX3_byteAt_17 : Ins mX3_byteAt 17 (.iaload) 1 18 := ⟨by decide +kernel, rfl⟩
theorem dX3_byteAt_18 : Ins mX3_byteAt 18 (.goto 4) 3 21 := ⟨by decide +kernel, rfl⟩
theorem dX3_byteAt_21 : Ins mX3_byteAt 21 (.iconst (-1)) 1 22 := ⟨by decide +kernel, rfl⟩
theorem dX3_byteAt_22 : Ins mX3_byteAt 22 (.ireturn) 1 23 := ⟨by decide +kernel, rfl⟩
theorem dX3_isLetter_0 : Ins mX3_isLetter 0 (.iload_n 0) 1 1 := ⟨by decide +kernel, rfl⟩
theorem dX3_isLetter_1 : Ins mX3_isLetter 1 (.bipush 97) 2 3 := ⟨by decide +kernel, rfl⟩
theorem dX3_isLetter_3 : Ins mX3_isLetter 3 (.bipush 122) 2 5 := ⟨by decide +kernel, rfl⟩
theorem dX3_isLetter_5 : CalS mX3_isLetter 5 8 mX10_isWithin := ⟨94, by decide +kernel, rfl, Or.inr ⟨"RockingGuard", List.mem_of_getElem? (i := 7) (by decide +kernel)⟩, meX10_isWithin⟩
theorem dX3_isLetter_8 : Ins mX3_isLetter 8 (.ifCond .ne 14) 3 11 := ⟨by decide +kernel, rfl⟩
theorem dX3_isLetter_11 : Ins mX3_isLetter 11 (.iload_n 0) 1 12 := ⟨by decide +kernel, rfl⟩
theorem dX3_isLetter_12 : Ins mX3_isLetter 12 (.bipush 65) 2 14 := ⟨by decide +kernel, rfl⟩
theorem dX3_isLetter_14 : Ins mX3_isLetter 14 (.bipush 90) 2 16 := ⟨by decide +kernel, rfl⟩
theorem dX3_isLetter_16 : CalS mX3_isLetter 16 19 mX10_isWithin := ⟨94, by decide +kernel, rfl, Or.inr ⟨"RockingGuard", List.mem_of_getElem? (i := 7) (by decide +kernel)⟩, meX10_isWithin⟩
theorem dX3_isLetter_19 : Ins mX3_isLetter 19 (.ifCond .eq 7) 3 22 := ⟨by decide +kernel, rfl⟩
theorem dX3_isLetter_22 : Ins mX3_isLetter 22 (.iconst 1) 1 23 := ⟨by decide +kernel, rfl⟩
theorem dX3_isLetter_23 : Ins mX3_isLetter 23 (.goto 4) 3 26 := ⟨by decide +kernel, rfl⟩
theorem dX3_isLetter_26 : Ins mX3_isLetter 26 (.iconst 0) 1 27 := ⟨by decide +kernel, rfl⟩
theorem dX3_isLetter_27 : Ins mX3_isLetter 27 (.ireturn) 1 28 := ⟨by decide +kernel, rfl⟩
theorem dX3_isDigit_0 : Ins mX3_isDigit 0 (.iload_n 0) 1 1 := ⟨by decide +kernel, rfl⟩
theorem dX3_isDigit_1 : Ins mX3_isDigit 1 (.bipush 48) 2 3 := ⟨by decide +kernel, rfl⟩
theorem dX3_isDigit_3 : Ins mX3_isDigit 3 (.bipush 57) 2 5 := ⟨by decide +kernel, rfl⟩
theorem dX3_isDigit_5 : CalS mX3_isDigit 5 8 mX10_isWithin := ⟨94, by decide +kernel, rfl, Or.inr ⟨"RockingGuard", List.mem_of_getElem? (i := 7) (by decide +kernel)⟩, meX10_isWithin⟩
theorem dX3_isDigit_8 : Ins mX3_isDigit 8 (.ireturn) 1 9 := ⟨by decide +kernel, rfl⟩
theorem dX3_endOfToken_0 : Ins mX3_endOfToken 0 (.aload_n 0) 1 1 := ⟨by decide +kernel, rfl⟩
theorem dX3_endOfToken_1 : Ins mX3_endOfToken 1 (.iload_n 1) 1 2 := ⟨by decide +kernel, rfl⟩
theorem dX3_endOfToken_2 : CalV mX3_endOfToken 2 5 mX3_byteAt := ⟨71, by decide +kernel, rfl, tb_2 (List.mem_of_getElem? (i := 129) (by decide +kernel)) rfl, meX3_byteAt⟩
theorem dX3_endOfToken_5 : Ins mX3_endOfToken 5 (.istore_n 2) 1 6 := ⟨by decide +kernel, rfl⟩
theorem dX3_endOfToken_6 : Ins mX3_endOfToken 6 (.iload_n 1) 1 7 := ⟨by decide +kernel, rfl⟩
theorem dX3_endOfToken_7 : Ins mX3_endOfToken 7 (.iconst 1) 1 8 := ⟨by decide +kernel, rfl⟩
theorem dX3_endOfToken_8 : Ins mX3_endOfToken 8 (.iadd) 1 9 := ⟨by decide +kernel, rfl⟩
theorem dX3_endOfToken_9 : Ins mX3_endOfToken 9 (.istore_n 3) 1 10 := ⟨by decide +kernel, rfl⟩
theorem dX3_endOfToken_10 : Ins mX3_endOfToken 10 (.iload_n 2) 1 11 := ⟨by decide +kernel, rfl⟩
theorem dX3_endOfToken_11 : CalS mX3_endOfToken 11 14 mX3_isLetter := ⟨98, by decide +kernel, rfl, Or.inl (tb_2 (List.mem_of_getElem? (i := 137) (by decide +kernel)) rfl), meX3_isLetter⟩
theorem dX3_endOfToken_14 : Ins mX3_endOfToken 14 (.ifCond .ne 10) 3 17 := ⟨by decide +kernel, rfl⟩
theorem dX3_endOfToken_17 : Ins mX3_endOfToken 17 (.iload_n 2) 1 18 := ⟨by decide +kernel, rfl⟩
theorem dX3_endOfToken_18 : CalS mX3_endOfToken 18 21 mX3_isDigit := ⟨102, by decide +kernel, rfl, Or.inl (tb_2 (List.mem_of_getElem? (i := 141) (by decide +kernel)) rfl), meX3_isDigit⟩
theorem dX3_endOfToken_21 : Ins mX3_endOfToken 21 (.ifCond .eq 49) 3 24 := ⟨by decide +kernel, rfl⟩
theorem dX3_endOfToken_24 : Ins mX3_endOfToken 24 (.iload_n 3) 1 25 := ⟨by decide +kernel, rfl⟩
theorem dX3_endOfToken_25 : Ins mX3_endOfToken 25 (.aload_n 0) 1 26 := ⟨by decide +kernel, rfl⟩
theorem dX3_endOfToken_26 : GgI mX3_endOfToken 26 29 2 1 := ⟨1, rfl, ⟨15, _, by decide +kernel, rfl, rfl, by decide, tb_1 (List.mem_of_getElem? (i := 186) (by decide +kernel)) rfl⟩, by decide, rfl⟩
theorem dX3_endOfToken_29 : Ins mX3_endOfToken 29 (.if_icmp .ge 66) 3 32 := ⟨by decide +kernel, rfl⟩
theorem dX3_endOfToken_32 : Ins mX3_endOfToken 32 (.iload_n 2) 1 33 := ⟨by decide +kernel, rfl⟩
theorem dX3_endOfToken_33 : CalS mX3_endOfToken 33 36 mX3_isLetter := ⟨98, by decide +kernel, rfl, Or.inl (tb_2 (List.mem_of_getElem? (i := 137) (by decide +kernel)) rfl), meX3_isLetter⟩
theorem dX3_endOfToken_36 : Ins mX3_endOfToken 36 (.ifCond .eq 17) 3 39 := ⟨by decide +kernel, rfl⟩
theorem dX3_endOfToken_39 : Ins mX3_endOfToken 39 (.aload_n 0) 1 40 := ⟨by decide +kernel, rfl⟩
theorem dX3_endOfToken_40 : Ins mX3_endOfToken 40 (.iload_n 3) 1 41 := ⟨by decide +kernel, rfl⟩
theorem dX3_endOfToken_41 : CalV mX3_endOfToken 41 44 mX3_byteAt := ⟨71, by decide +kernel, rfl, tb_2 (List.mem_of_getElem? (i := 129) (by decide +kernel)) rfl, meX3_byteAt⟩
theorem dX3_endOfToken_44 : CalS mX3_endOfToken 44 47 mX3_isLetter := ⟨98, by decide +kernel, rfl, Or.inl (tb_2 (List.mem_of_getElem? (i := 137) (by decide +kernel)) rfl), meX3_isLetter⟩
theorem dX3_endOfToken_47 : Ins mX3_endOfToken 47 (.ifCond .eq 48) 3 50 := ⟨by decide +kernel, rfl⟩
theorem dX3_endOfToken_50 : Ins mX3_endOfToken 50 (.goto 14) 3 53 := ⟨by decide +kernel, rfl⟩
theorem dX3_endOfToken_53 : Ins mX3_endOfToken 53 (.aload_n 0) 1 54 := ⟨by decide +kernel, rfl⟩
theorem dX3_endOfToken_54 : Ins mX3_endOfToken 54 (.iload_n 3) 1 55 := ⟨by decide +kernel, rfl⟩
theorem dX3_endOfToken_55 : CalV mX3_endOfToken 55 58 mX3_byteAt := ⟨71, by decide +kernel, rfl, tb_2 (List.mem_of_getElem? (i := 129) (by decide +kernel)) rfl, meX3_byteAt⟩
theorem dX3_endOfToken_58 : CalS mX3_endOfToken 58 61 mX3_isDigit := ⟨102, by decide +kernel, rfl, Or.inl (tb_2 (List.mem_of_getElem? (i := 141) (by decide +kernel)) rfl), meX3_isDigit⟩
theorem dX3_endOfToken_61 : Ins mX3_endOfToken 61 (.ifCond .eq 34) 3 64 := ⟨by decide +kernel, rfl⟩
theorem dX3_endOfToken_64 : Ins mX3_endOfToken 64 (.iinc 3 1) 3 67 := ⟨by decide +kernel, rfl⟩
theorem dX3_endOfToken_67 : Ins mX3_endOfToken 67 (.goto (-43)) 3 70 := ⟨by decide +kernel, rfl⟩
theorem dX3_endOfToken_70 : Ins mX3_endOfToken 70 (.iload_n 2) 1 71 := ⟨by decide +kernel, rfl⟩
theorem dX3_endOfToken_71 : Ins mX3_endOfToken 71 (.bipush 60) 2 73 := ⟨by decide +kernel, rfl⟩
theorem dX3_endOfToken_73 : Ins mX3_endOfToken 73 (.if_icmp .eq 9) 3 76 := ⟨by decide +kernel, rfl⟩
theorem dX3_endOfToken_76 : Ins mX3_endOfToken 76 (.iload_n 2) 1 77 := ⟨by decide +kernel, rfl⟩
theorem dX3_endOfToken_77 : Ins mX3_endOfToken 77 (.bipush 62) 2 79 := ⟨by decide +kernel, rfl⟩
theorem dX3_endOfToken_79 : Ins mX3_endOfToken 79 (.if_icmp .ne 16) 3 82 := ⟨by decide +kernel, rfl⟩
theorem dX3_endOfToken_82 : Ins mX3_endOfToken 82 (.aload_n 0) 1 83 := ⟨by decide +kernel, rfl⟩
theorem dX3_endOfToken_83 : Ins mX3_endOfToken 83 (.iload_n 3) 1 84 := ⟨by decide +kernel, rfl⟩
theorem dX3_endOfToken_84 : CalV mX3_endOfToken 84 87 mX3_byteAt := ⟨71, by decide +kernel, rfl, tb_2 (List.mem_of_getElem? (i := 129) (by decide +kernel)) rfl, meX3_byteAt⟩
theorem dX3_endOfToken_87 : Ins mX3_endOfToken 87 (.bipush 61) 2 89 := ⟨by decide +kernel, rfl⟩
theorem dX3_endOfToken_89 : Ins mX3_endOfToken 89 (.if_icmp .ne 6) 3 92 := ⟨by decide +kernel, rfl⟩
theorem dX3_endOfToken_92 : Ins mX3_endOfToken 92 (.iinc 3 1) 3 95 := ⟨by decide +kernel, rfl⟩
theorem dX3_endOfToken_95 : Ins mX3_endOfToken 95 (.iload_n 3) 1 96 := ⟨by decide +kernel, rfl⟩
theorem dX3_endOfToken_96 : Ins mX3_endOfToken 96 (.ireturn) 1 97 := ⟨by decide +kernel, rfl⟩
