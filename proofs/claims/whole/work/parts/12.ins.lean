-- a fact for each instruction, by wip/whole/gen/ins.py
theorem dX5_beginLaw_0 : Ins mX5_beginLaw 0 (.iload_n 1) 1 1 := ⟨by decide +kernel, rfl⟩
theorem dX5_beginLaw_1 : Ins mX5_beginLaw 1 (.ifCond .lt 28) 3 4 := ⟨by decide +kernel, rfl⟩
theorem dX5_beginLaw_4 : Ins mX5_beginLaw 4 (.iload_n 1) 1 5 := ⟨by decide +kernel, rfl⟩
theorem dX5_beginLaw_5 : Ins mX5_beginLaw 5 (.iconst 3) 1 6 := ⟨by decide +kernel, rfl⟩
theorem dX5_beginLaw_6 : Ins mX5_beginLaw 6 (.if_icmp .ge 23) 3 9 := ⟨by decide +kernel, rfl⟩
theorem dX5_beginLaw_9 : Ins mX5_beginLaw 9 (.aload_n 0) 1 10 := ⟨by decide +kernel, rfl⟩
theorem dX5_beginLaw_10 : GgR mX5_beginLaw 10 13 4 3 := ⟨3, rfl, ⟨22, _, by decide +kernel, rfl, rfl, by decide, tb_1 (List.mem_of_getElem? (i := 156) (by decide +kernel)) rfl⟩, by decide, rfl⟩
theorem dX5_beginLaw_13 : Ins mX5_beginLaw 13 (.iload_n 1) 1 14 := ⟨by decide +kernel, rfl⟩
theorem dX5_beginLaw_14 : Ins mX5_beginLaw 14 (.aload_n 0) 1 15 := ⟨by decide +kernel, rfl⟩
theorem dX5_beginLaw_15 : GgI mX5_beginLaw 15 18 4 2 := ⟨2, rfl, ⟨18, _, by decide +kernel, rfl, rfl, by decide, tb_1 (List.mem_of_getElem? (i := 155) (by decide +kernel)) rfl⟩, by decide, rfl⟩
theorem dX5_beginLaw_18 : Ins mX5_beginLaw 18 (.iastore) 1 19 := ⟨by decide +kernel, rfl⟩
theorem dX5_beginLaw_19 : Ins mX5_beginLaw 19 (.aload_n 0) 1 20 := ⟨by decide +kernel, rfl⟩
theorem dX5_beginLaw_20 : GgR mX5_beginLaw 20 23 4 4 := ⟨4, rfl, ⟨25, _, by decide +kernel, rfl, rfl, by decide, tb_1 (List.mem_of_getElem? (i := 158) (by decide +kernel)) rfl⟩, by decide, rfl⟩
theorem dX5_beginLaw_23 : Ins mX5_beginLaw 23 (.iload_n 1) 1 24 := ⟨by decide +kernel, rfl⟩
theorem dX5_beginLaw_24 : Ins mX5_beginLaw 24 (.aload_n 0) 1 25 := ⟨by decide +kernel, rfl⟩
theorem dX5_beginLaw_25 : GgI mX5_beginLaw 25 28 4 2 := ⟨2, rfl, ⟨18, _, by decide +kernel, rfl, rfl, by decide, tb_1 (List.mem_of_getElem? (i := 155) (by decide +kernel)) rfl⟩, by decide, rfl⟩
theorem dX5_beginLaw_28 : Ins mX5_beginLaw 28 (.iastore) 1 29 := ⟨by decide +kernel, rfl⟩
theorem dX5_beginLaw_29 : Ins mX5_beginLaw 29 (.return_) 1 30 := ⟨by decide +kernel, rfl⟩
theorem dX5_endLaw_0 : Ins mX5_endLaw 0 (.iload_n 1) 1 1 := ⟨by decide +kernel, rfl⟩
theorem dX5_endLaw_1 : Ins mX5_endLaw 1 (.ifCond .lt 18) 3 4 := ⟨by decide +kernel, rfl⟩
theorem dX5_endLaw_4 : Ins mX5_endLaw 4 (.iload_n 1) 1 5 := ⟨by decide +kernel, rfl⟩
theorem dX5_endLaw_5 : Ins mX5_endLaw 5 (.iconst 3) 1 6 := ⟨by decide +kernel, rfl⟩
theorem dX5_endLaw_6 : Ins mX5_endLaw 6 (.if_icmp .ge 13) 3 9 := ⟨by decide +kernel, rfl⟩
theorem dX5_endLaw_9 : Ins mX5_endLaw 9 (.aload_n 0) 1 10 := ⟨by decide +kernel, rfl⟩
theorem dX5_endLaw_10 : GgR mX5_endLaw 10 13 4 4 := ⟨4, rfl, ⟨25, _, by decide +kernel, rfl, rfl, by decide, tb_1 (List.mem_of_getElem? (i := 158) (by decide +kernel)) rfl⟩, by decide, rfl⟩
theorem dX5_endLaw_13 : Ins mX5_endLaw 13 (.iload_n 1) 1 14 := ⟨by decide +kernel, rfl⟩
theorem dX5_endLaw_14 : Ins mX5_endLaw 14 (.aload_n 0) 1 15 := ⟨by decide +kernel, rfl⟩
theorem dX5_endLaw_15 : GgI mX5_endLaw 15 18 4 2 := ⟨2, rfl, ⟨18, _, by decide +kernel, rfl, rfl, by decide, tb_1 (List.mem_of_getElem? (i := 155) (by decide +kernel)) rfl⟩, by decide, rfl⟩
theorem dX5_endLaw_18 : Ins mX5_endLaw 18 (.iastore) 1 19 := ⟨by decide +kernel, rfl⟩
theorem dX5_endLaw_19 : Ins mX5_endLaw 19 (.return_) 1 20 := ⟨by decide +kernel, rfl⟩
theorem dX5_addOrder_0 : Ins mX5_addOrder 0 (.aload_n 0) 1 1 := ⟨by decide +kernel, rfl⟩
theorem dX5_addOrder_1 : GgI mX5_addOrder 1 4 4 2 := ⟨2, rfl, ⟨18, _, by decide +kernel, rfl, rfl, by decide, tb_1 (List.mem_of_getElem? (i := 155) (by decide +kernel)) rfl⟩, by decide, rfl⟩
theorem dX5_addOrder_4 : Ins mX5_addOrder 4 (.istore_n 3) 1 5 := ⟨by decide +kernel, rfl⟩
theorem dX5_addOrder_5 : Ins mX5_addOrder 5 (.iload_n 3) 1 6 := ⟨by decide +kernel, rfl⟩
theorem dX5_addOrder_6 : Ins mX5_addOrder 6 (.sipush 300) 3 9 := ⟨by decide +kernel, rfl⟩
theorem dX5_addOrder_9 : Ins mX5_addOrder 9 (.if_icmp .ge 27) 3 12 := ⟨by decide +kernel, rfl⟩
theorem dX5_addOrder_12 : Ins mX5_addOrder 12 (.aload_n 0) 1 13 := ⟨by decide +kernel, rfl⟩
theorem dX5_addOrder_13 : GgR mX5_addOrder 13 16 4 0 := ⟨0, rfl, ⟨9, _, by decide +kernel, rfl, rfl, by decide, tb_1 (List.mem_of_getElem? (i := 151) (by decide +kernel)) rfl⟩, by decide, rfl⟩
theorem dX5_addOrder_16 : Ins mX5_addOrder 16 (.iload_n 3) 1 17 := ⟨by decide +kernel, rfl⟩
theorem dX5_addOrder_17 : Ins mX5_addOrder 17 (.iload_n 1) 1 18 := ⟨by decide +kernel, rfl⟩
theorem dX5_addOrder_18 : Ins mX5_addOrder 18 (.iastore) 1 19 := ⟨by decide +kernel, rfl⟩
theorem dX5_addOrder_19 : Ins mX5_addOrder 19 (.aload_n 0) 1 20 := ⟨by decide +kernel, rfl⟩
theorem dX5_addOrder_20 : GgR mX5_addOrder 20 23 4 1 := ⟨1, rfl, ⟨15, _, by decide +kernel, rfl, rfl, by decide, tb_1 (List.mem_of_getElem? (i := 153) (by decide +kernel)) rfl⟩, by decide, rfl⟩
theorem dX5_addOrder_23 : Ins mX5_addOrder 23 (.iload_n 3) 1 24 := ⟨by decide +kernel, rfl⟩
theorem dX5_addOrder_24 : Ins mX5_addOrder 24 (.iload_n 2) 1 25 := ⟨by decide +kernel, rfl⟩
theorem dX5_addOrder_25 : Ins mX5_addOrder 25 (.iastore) 1 26 := ⟨by decide +kernel, rfl⟩
theorem dX5_addOrder_26 : Ins mX5_addOrder 26 (.aload_n 0) 1 27 := ⟨by decide +kernel, rfl⟩
theorem dX5_addOrder_27 : Ins mX5_addOrder 27 (.dup) 1 28 := ⟨by decide +kernel, rfl⟩
theorem dX5_addOrder_28 : GgI mX5_addOrder 28 31 4 2 := ⟨2, rfl, ⟨18, _, by decide +kernel, rfl, rfl, by decide, tb_1 (List.mem_of_getElem? (i := 155) (by decide +kernel)) rfl⟩, by decide, rfl⟩
theorem dX5_addOrder_31 : Ins mX5_addOrder 31 (.iconst 1) 1 32 := ⟨by decide +kernel, rfl⟩
theorem dX5_addOrder_32 : Ins mX5_addOrder 32 (.iadd) 1 33 := ⟨by decide +kernel, rfl⟩
theorem dX5_addOrder_33 : GpI mX5_addOrder 33 36 4 2 := ⟨2, rfl, ⟨18, _, by decide +kernel, rfl, rfl, by decide, tb_1 (List.mem_of_getElem? (i := 155) (by decide +kernel)) rfl, by decide +kernel, Or.inl rfl⟩, by decide, rfl⟩
theorem dX5_addOrder_36 : Ins mX5_addOrder 36 (.iload_n 3) 1 37 := ⟨by decide +kernel, rfl⟩
theorem dX5_addOrder_37 : Ins mX5_addOrder 37 (.ireturn) 1 38 := ⟨by decide +kernel, rfl⟩
theorem dX5_leadHere_0 : Ins mX5_leadHere 0 (.iload_n 1) 1 1 := ⟨by decide +kernel, rfl⟩
theorem dX5_leadHere_1 : Ins mX5_leadHere 1 (.ifCond .lt 21) 3 4 := ⟨by decide +kernel, rfl⟩
theorem dX5_leadHere_4 : Ins mX5_leadHere 4 (.iload_n 1) 1 5 := ⟨by decide +kernel, rfl⟩
theorem dX5_leadHere_5 : Ins mX5_leadHere 5 (.aload_n 0) 1 6 := ⟨by decide +kernel, rfl⟩
theorem dX5_leadHere_6 : GgI mX5_leadHere 6 9 4 2 := ⟨2, rfl, ⟨18, _, by decide +kernel, rfl, rfl, by decide, tb_1 (List.mem_of_getElem? (i := 155) (by decide +kernel)) rfl⟩, by decide, rfl⟩
theorem dX5_leadHere_9 : Ins mX5_leadHere 9 (.if_icmp .ge 13) 3 12 := ⟨by decide +kernel, rfl⟩
theorem dX5_leadHere_12 : Ins mX5_leadHere 12 (.aload_n 0) 1 13 := ⟨by decide +kernel, rfl⟩
theorem dX5_leadHere_13 : GgR mX5_leadHere 13 16 4 1 := ⟨1, rfl, ⟨15, _, by decide +kernel, rfl, rfl, by decide, tb_1 (List.mem_of_getElem? (i := 153) (by decide +kernel)) rfl⟩, by decide, rfl⟩
theorem dX5_leadHere_16 : Ins mX5_leadHere 16 (.iload_n 1) 1 17 := ⟨by decide +kernel, rfl⟩
theorem dX5_leadHere_17 : Ins mX5_leadHere 17 (.aload_n 0) 1 18 := ⟨by decide +kernel, rfl⟩
theorem dX5_leadHere_18 : GgI mX5_leadHere 18 21 4 2 := ⟨2, rfl, ⟨18, _, by decide +kernel, rfl, rfl, by decide, tb_1 (List.mem_of_getElem? (i := 155) (by decide +kernel)) rfl⟩, by decide, rfl⟩
theorem dX5_leadHere_21 : Ins mX5_leadHere 21 (.iastore) 1 22 := ⟨by decide +kernel, rfl⟩
theorem dX5_leadHere_22 : Ins mX5_leadHere 22 (.return_) 1 23 := ⟨by decide +kernel, rfl⟩
theorem dX5_kindOf_0 : Ins mX5_kindOf 0 (.iload_n 1) 1 1 := ⟨by decide +kernel, rfl⟩
theorem dX5_kindOf_1 : Ins mX5_kindOf 1 (.ifCond .lt 20) 3 4 := ⟨by decide +kernel, rfl⟩
theorem dX5_kindOf_4 : Ins mX5_kindOf 4 (.iload_n 1) 1 5 := ⟨by decide +kernel, rfl⟩
theorem dX5_kindOf_5 : Ins mX5_kindOf 5 (.aload_n 0) 1 6 := ⟨by decide +kernel, rfl⟩
theorem dX5_kindOf_6 : GgI mX5_kindOf 6 9 4 8 := ⟨8, rfl, ⟨37, _, by decide +kernel, rfl, rfl, by decide, tb_1 (List.mem_of_getElem? (i := 163) (by decide +kernel)) rfl⟩, by decide, rfl⟩
theorem dX5_kindOf_9 : Ins mX5_kindOf 9 (.if_icmp .ge 12) 3 12 := ⟨by decide +kernel, rfl⟩
theorem dX5_kindOf_12 : Ins mX5_kindOf 12 (.aload_n 0) 1 13 := ⟨by decide +kernel, rfl⟩
theorem dX5_kindOf_13 : GgR mX5_kindOf 13 16 4 5 := ⟨5, rfl, ⟨28, _, by decide +kernel, rfl, rfl, by decide, tb_1 (List.mem_of_getElem? (i := 160) (by decide +kernel)) rfl⟩, by decide, rfl⟩
theorem dX5_kindOf_16 : Ins mX5_kindOf 16 (.iload_n 1) 1 17 := ⟨by decide +kernel, rfl⟩
theorem dX5_kindOf_17 : Ins mX5_kindOf 17 (.iaload) 1 18 := ⟨by decide +kernel, rfl⟩
theorem dX5_kindOf_18 : Ins mX5_kindOf 18 (.goto 4) 3 21 := ⟨by decide +kernel, rfl⟩
theorem dX5_kindOf_21 : Ins mX5_kindOf 21 (.iconst (-1)) 1 22 := ⟨by decide +kernel, rfl⟩
theorem dX5_kindOf_22 : Ins mX5_kindOf 22 (.ireturn) 1 23 := ⟨by decide +kernel, rfl⟩
theorem dX5_firstOf_0 : Ins mX5_firstOf 0 (.iload_n 1) 1 1 := ⟨by decide +kernel, rfl⟩
theorem dX5_firstOf_1 : Ins mX5_firstOf 1 (.ifCond .lt 20) 3 4 := ⟨by decide +kernel, rfl⟩
theorem dX5_firstOf_4 : Ins mX5_firstOf 4 (.iload_n 1) 1 5 := ⟨by decide +kernel, rfl⟩
theorem dX5_firstOf_5 : Ins mX5_firstOf 5 (.aload_n 0) 1 6 := ⟨by decide +kernel, rfl⟩
theorem dX5_firstOf_6 : GgI mX5_firstOf 6 9 4 8 := ⟨8, rfl, ⟨37, _, by decide +kernel, rfl, rfl, by decide, tb_1 (List.mem_of_getElem? (i := 163) (by decide +kernel)) rfl⟩, by decide, rfl⟩
theorem dX5_firstOf_9 : Ins mX5_firstOf 9 (.if_icmp .ge 12) 3 12 := ⟨by decide +kernel, rfl⟩
theorem dX5_firstOf_12 : Ins mX5_firstOf 12 (.aload_n 0) 1 13 := ⟨by decide +kernel, rfl⟩
theorem dX5_firstOf_13 : GgR mX5_firstOf 13 16 4 6 := ⟨6, rfl, ⟨31, _, by decide +kernel, rfl, rfl, by decide, tb_1 (List.mem_of_getElem? (i := 161) (by decide +kernel)) rfl⟩, by decide, rfl⟩
theorem dX5_firstOf_16 : Ins mX5_firstOf 16 (.iload_n 1) 1 17 := ⟨by decide +kernel, rfl⟩
theorem dX5_firstOf_17 : Ins mX5_firstOf 17 (.iaload) 1 18 := ⟨by decide +kernel, rfl⟩
theorem dX5_firstOf_18 : Ins mX5_firstOf 18 (.goto 4) 3 21 := ⟨by decide +kernel, rfl⟩
theorem dX5_firstOf_21 : Ins mX5_firstOf 21 (.iconst (-1)) 1 22 := ⟨by decide +kernel, rfl⟩
theorem dX5_firstOf_22 : Ins mX5_firstOf 22 (.ireturn) 1 23 := ⟨by decide +kernel, rfl⟩
theorem dX5_secondOf_0 : Ins mX5_secondOf 0 (.iload_n 1) 1 1 := ⟨by decide +kernel, rfl⟩
theorem dX5_secondOf_1 : Ins mX5_secondOf 1 (.ifCond .lt 20) 3 4 := ⟨by decide +kernel, rfl⟩
theorem dX5_secondOf_4 : Ins mX5_secondOf 4 (.iload_n 1) 1 5 := ⟨by decide +kernel, rfl⟩
theorem dX5_secondOf_5 : Ins mX5_secondOf 5 (.aload_n 0) 1 6 := ⟨by decide +kernel, rfl⟩
theorem dX5_secondOf_6 : GgI mX5_secondOf 6 9 4 8 := ⟨8, rfl, ⟨37, _, by decide +kernel, rfl, rfl, by decide, tb_1 (List.mem_of_getElem? (i := 163) (by decide +kernel)) rfl⟩, by decide, rfl⟩
theorem dX5_secondOf_9 : Ins mX5_secondOf 9 (.if_icmp .ge 12) 3 12 := ⟨by decide +kernel, rfl⟩
theorem dX5_secondOf_12 : Ins mX5_secondOf 12 (.aload_n 0) 1 13 := ⟨by decide +kernel, rfl⟩
theorem dX5_secondOf_13 : GgR mX5_secondOf 13 16 4 7 := ⟨7, rfl, ⟨34, _, by decide +kernel, rfl, rfl, by decide, tb_1 (List.mem_of_getElem? (i := 162) (by decide +kernel)) rfl⟩, by decide, rfl⟩
theorem dX5_secondOf_16 : Ins mX5_secondOf 16 (.iload_n 1) 1 17 := ⟨by decide +kernel, rfl⟩
theorem dX5_secondOf_17 : Ins mX5_secondOf 17 (.iaload) 1 18 := ⟨by decide +kernel, rfl⟩
theorem dX5_secondOf_18 : Ins mX5_secondOf 18 (.goto 4) 3 21 := ⟨by decide +kernel, rfl⟩
theorem dX5_secondOf_21 : Ins mX5_secondOf 21 (.iconst (-1)) 1 22 := ⟨by decide +kernel, rfl⟩
theorem dX5_secondOf_22 : Ins mX5_secondOf 22 (.ireturn) 1 23 := ⟨by decide +kernel, rfl⟩
theorem dX6_init_0 : Ins mX6_init 0 (.aload_n 0) 1 1 := ⟨by decide +kernel, rfl⟩
theorem dX6_init_1 : Ins mX6_init 1 (.invokespecial 3) 3 4 := ⟨by decide +kernel, rfl⟩
theorem dX6_init_4 : Ins mX6_init 4 (.aload_n 0) 1 5 := ⟨by decide +kernel, rfl⟩
theorem dX6_init_5 : Ins mX6_init 5 (.bipush 30) 2 7 := ⟨by decide +kernel, rfl⟩
theorem dX6_init_7 : Ins mX6_init 7 (.bipush 125) 2 9 := ⟨by decide +kernel, rfl⟩
theorem dX6_init_9 : Ins mX6_init 9 (.multianewarray 11 2) 4 13 := ⟨by decide +kernel, rfl⟩
theorem dX6_init_13 : GpR mX6_init 13 16 5 0 := ⟨0, rfl, _, ⟨13, _, by decide +kernel, rfl, rfl, by decide, tb_1 (List.mem_of_getElem? (i := 65) (by decide +kernel)) rfl, tyX6_ok 0 (by decide), Or.inr ⟨rfl, rfl, rfl⟩⟩, by decide, rfl, Or.inr ⟨_, rfl⟩⟩
theorem dX6_init_16 : Ins mX6_init 16 (.aload_n 0) 1 17 := ⟨by decide +kernel, rfl⟩
theorem dX6_init_17 : Ins mX6_init 17 (.iconst 0) 1 18 := ⟨by decide +kernel, rfl⟩
theorem dX6_init_18 : GpI mX6_init 18 21 5 1 := ⟨1, rfl, ⟨18, _, by decide +kernel, rfl, rfl, by decide, tb_1 (List.mem_of_getElem? (i := 66) (by decide +kernel)) rfl, by decide +kernel, Or.inl rfl⟩, by decide, rfl⟩
theorem dX6_init_21 : Ins mX6_init 21 (.aload_n 0) 1 22 := ⟨by decide +kernel, rfl⟩
theorem dX6_init_22 : Ins mX6_init 22 (.iconst 0) 1 23 := ⟨by decide +kernel, rfl⟩
theorem dX6_init_23 : GpI mX6_init 23 26 5 2 := ⟨2, rfl, ⟨22, _, by decide +kernel, rfl, rfl, by decide, tb_1 (List.mem_of_getElem? (i := 67) (by decide +kernel)) rfl, by decide +kernel, Or.inl rfl⟩, by decide, rfl⟩
theorem dX6_init_26 : Ins mX6_init 26 (.return_) 1 27 := ⟨by decide +kernel, rfl⟩
theorem dX6_save_0 : Ins mX6_save 0 (.aload_n 0) 1 1 := ⟨by decide +kernel, rfl⟩
theorem dX6_save_1 : GgI mX6_save 1 4 5 1 := ⟨1, rfl, ⟨18, _, by decide +kernel, rfl, rfl, by decide, tb_1 (List.mem_of_getElem? (i := 66) (by decide +kernel)) rfl⟩, by decide, rfl⟩
theorem dX6_save_4 : Ins mX6_save 4 (.aload_n 0) 1 5 := ⟨by decide +kernel, rfl⟩
theorem dX6_save_5 : GgI mX6_save 5 8 5 2 := ⟨2, rfl, ⟨22, _, by decide +kernel, rfl, rfl, by decide, tb_1 (List.mem_of_getElem? (i := 67) (by decide +kernel)) rfl⟩, by decide, rfl⟩
theorem dX6_save_8 : Ins mX6_save 8 (.iadd) 1 9 := ⟨by decide +kernel, rfl⟩
theorem dX6_save_9 : Ins mX6_save 9 (.bipush 30) 2 11 := ⟨by decide +kernel, rfl⟩
theorem dX6_save_11 : Ins mX6_save 11 (.irem) 1 12 := ⟨by decide +kernel, rfl⟩
theorem dX6_save_12 : Ins mX6_save 12 (.istore_n 2) 1 13 := ⟨by decide +kernel, rfl⟩
theorem dX6_save_13 : Ins mX6_save 13 (.aload_n 1) 1 14 := ⟨by decide +kernel, rfl⟩
theorem dX6_save_14 : GgR mX6_save 14 17 6 0 := ⟨0, rfl, ⟨25, _, by decide +kernel, rfl, rfl, by decide, tb_1 (List.mem_of_getElem? (i := 42) (by decide +kernel)) rfl⟩, by decide, rfl⟩
theorem dX6_save_17 : Ins mX6_save 17 (.iconst 0) 1 18 := ⟨by decide +kernel, rfl⟩
theorem dX6_save_18 : Ins mX6_save 18 (.aload_n 0) 1 19 := ⟨by decide +kernel, rfl⟩
theorem dX6_save_19 : GgR mX6_save 19 22 5 0 := ⟨0, rfl, ⟨13, _, by decide +kernel, rfl, rfl, by decide, tb_1 (List.mem_of_getElem? (i := 65) (by decide +kernel)) rfl⟩, by decide, rfl⟩
theorem dX6_save_22 : Ins mX6_save 22 (.iload_n 2) 1 23 := ⟨by decide +kernel, rfl⟩
theorem dX6_save_23 : Ins mX6_save 23 (.aaload) 1 24 := ⟨by decide +kernel, rfl⟩
theorem dX6_save_24 : Ins mX6_save 24 (.iconst 0) 1 25 := ⟨by decide +kernel, rfl⟩
theorem dX6_save_25 : Ins mX6_save 25 (.bipush 125) 2 27 := ⟨by decide +kernel, rfl⟩
theorem dX6_save_27 : CalA mX6_save 27 30 := ⟨29, by decide +kernel, rfl, tb_3 (List.mem_of_getElem? (i := 131) (by decide +kernel)) rfl, tb_3 (List.mem_of_getElem? (i := 133) (by decide +kernel)) rfl, tb_3 (List.mem_of_getElem? (i := 132) (by decide +kernel)) rfl, tb_1 (List.mem_of_getElem? (i := 18) (by decide +kernel)) rfl⟩
theorem dX6_save_30 : Ins mX6_save 30 (.aload_n 0) 1 31 := ⟨by decide +kernel, rfl⟩
theorem dX6_save_31 : GgI mX6_save 31 34 5 2 := ⟨2, rfl, ⟨22, _, by decide +kernel, rfl, rfl, by decide, tb_1 (List.mem_of_getElem? (i := 67) (by decide +kernel)) rfl⟩, by decide, rfl⟩
theorem dX6_save_34 : Ins mX6_save 34 (.bipush 30) 2 36 := ⟨by decide +kernel, rfl⟩
theorem dX6_save_36 : Ins mX6_save 36 (.if_icmp .ge 16) 3 39 := ⟨by decide +kernel, rfl⟩
theorem dX6_save_39 : Ins mX6_save 39 (.aload_n 0) 1 40 := ⟨by decide +kernel, rfl⟩
theorem dX6_save_40 : Ins mX6_save 40 (.dup) 1 41 := ⟨by decide +kernel, rfl⟩
theorem dX6_save_41 : GgI mX6_save 41 44 5 2 := ⟨2, rfl, ⟨22, _, by decide +kernel, rfl, rfl, by decide, tb_1 (List.mem_of_getElem? (i := 67) (by decide +kernel)) rfl⟩, by decide, rfl⟩
theorem dX6_save_44 : Ins mX6_save 44 (.iconst 1) 1 45 := ⟨by decide +kernel, rfl⟩
theorem dX6_save_45 : Ins mX6_save 45 (.iadd) 1 46 := ⟨by decide +kernel, rfl⟩
theorem dX6_save_46 : GpI mX6_save 46 49 5 2 := ⟨2, rfl, ⟨22, _, by decide +kernel, rfl, rfl, by decide, tb_1 (List.mem_of_getElem? (i := 67) (by decide +kernel)) rfl, by decide +kernel, Or.inl rfl⟩, by decide, rfl⟩
theorem dX6_save_49 : Ins mX6_save 49 (.goto 16) 3 52 := ⟨by decide +kernel, rfl⟩
theorem dX6_save_52 : Ins mX6_save 52 (.aload_n 0) 1 53 := ⟨by decide +kernel, rfl⟩
theorem dX6_save_53 : Ins mX6_save 53 (.aload_n 0) 1 54 := ⟨by decide +kernel, rfl⟩
theorem dX6_save_54 : GgI mX6_save 54 57 5 1 := ⟨1, rfl, ⟨18, _, by decide +kernel, rfl, rfl, by decide, tb_1 (List.mem_of_getElem? (i := 66) (by decide +kernel)) rfl⟩, by decide, rfl⟩
theorem dX6_save_57 : Ins mX6_save 57 (.iconst 1) 1 58 := ⟨by decide +kernel, rfl⟩
theorem dX6_save_58 : Ins mX6_save 58 (.iadd) 1 59 := ⟨by decide +kernel, rfl⟩
theorem dX6_save_59 : Ins mX6_save 59 (.bipush 30) 2 61 := ⟨by decide +kernel, rfl⟩
theorem dX6_save_61 : Ins mX6_save 61 (.irem) 1 62 := ⟨by decide +kernel, rfl⟩
theorem dX6_save_62 : GpI mX6_save 62 65 5 1 := ⟨1, rfl, ⟨18, _, by decide +kernel, rfl, rfl, by decide, tb_1 (List.mem_of_getElem? (i := 66) (by decide +kernel)) rfl, by decide +kernel, Or.inl rfl⟩, by decide, rfl⟩
theorem dX6_save_65 : Ins mX6_save 65 (.return_) 1 66 := ⟨by decide +kernel, rfl⟩
theorem dX6_takeBack_0 : Ins mX6_takeBack 0 (.aload_n 0) 1 1 := ⟨by decide +kernel, rfl⟩
theorem dX6_takeBack_1 : GgI mX6_takeBack 1 4 5 2 := ⟨2, rfl, ⟨22, _, by decide +kernel, rfl, rfl, by decide, tb_1 (List.mem_of_getElem? (i := 67) (by decide +kernel)) rfl⟩, by decide, rfl⟩
theorem dX6_takeBack_4 : Ins mX6_takeBack 4 (.ifCond .gt 5) 3 7 := ⟨by decide +kernel, rfl⟩
theorem dX6_takeBack_7 : Ins mX6_takeBack 7 (.iconst (-1)) 1 8 := ⟨by decide +kernel, rfl⟩
theorem dX6_takeBack_8 : Ins mX6_takeBack 8 (.ireturn) 1 9 := ⟨by decide +kernel, rfl⟩
theorem dX6_takeBack_9 : Ins mX6_takeBack 9 (.aload_n 0) 1 10 := ⟨by decide +kernel, rfl⟩
theorem dX6_takeBack_10 : Ins mX6_takeBack 10 (.dup) 1 11 := ⟨by decide +kernel, rfl⟩
theorem dX6_takeBack_11 : GgI mX6_takeBack 11 14 5 2 := ⟨2, rfl, ⟨22, _, by decide +kernel, rfl, rfl, by decide, tb_1 (List.mem_of_getElem? (i := 67) (by decide +kernel)) rfl⟩, by decide, rfl⟩
theorem dX6_takeBack_14 : Ins mX6_takeBack 14 (.iconst 1) 1 15 := ⟨by decide +kernel, rfl⟩
theorem dX6_takeBack_15 : Ins mX6_takeBack 15 (.isub) 1 16 := ⟨by decide +kernel, rfl⟩
theorem dX6_takeBack_16 : GpI mX6_takeBack 16 19 5 2 := ⟨2, rfl, ⟨22, _, by decide +kernel, rfl, rfl, by decide, tb_1 (List.mem_of_getElem? (i := 67) (by decide +kernel)) rfl, by decide +kernel, Or.inl rfl⟩, by decide, rfl⟩
theorem dX6_takeBack_19 : Ins mX6_takeBack 19 (.aload_n 0) 1 20 := ⟨by decide +kernel, rfl⟩
theorem dX6_takeBack_20 : GgR mX6_takeBack 20 23 5 0 := ⟨0, rfl, ⟨13, _, by decide +kernel, rfl, rfl, by decide, tb_1 (List.mem_of_getElem? (i := 65) (by decide +kernel)) rfl⟩, by decide, rfl⟩
theorem dX6_takeBack_23 : Ins mX6_takeBack 23 (.aload_n 0) 1 24 := ⟨by decide +kernel, rfl⟩
theorem dX6_takeBack_24 : GgI mX6_takeBack 24 27 5 1 := ⟨1, rfl, ⟨18, _, by decide +kernel, rfl, rfl, by decide, tb_1 (List.mem_of_getElem? (i := 66) (by decide +kernel)) rfl⟩, by decide, rfl⟩
theorem dX6_takeBack_27 : Ins mX6_takeBack 27 (.aload_n 0) 1 28 := ⟨by decide +kernel, rfl⟩
theorem dX6_takeBack_28 : GgI mX6_takeBack 28 31 5 2 := ⟨2, rfl, ⟨22, _, by decide +kernel, rfl, rfl, by decide, tb_1 (List.mem_of_getElem? (i := 67) (by decide +kernel)) rfl⟩, by decide, rfl⟩
theorem dX6_takeBack_31 : Ins mX6_takeBack 31 (.iadd) 1 32 := ⟨by decide +kernel, rfl⟩
theorem dX6_takeBack_32 : Ins mX6_takeBack 32 (.bipush 30) 2 34 := ⟨by decide +kernel, rfl⟩
theorem dX6_takeBack_34 : Ins mX6_takeBack 34 (.irem) 1 35 := ⟨by decide +kernel, rfl⟩
theorem dX6_takeBack_35 : Ins mX6_takeBack 35 (.aaload) 1 36 := ⟨by decide +kernel, rfl⟩
theorem dX6_takeBack_36 : Ins mX6_takeBack 36 (.astore_n 2) 1 37 := ⟨by decide +kernel, rfl⟩
theorem dX6_takeBack_37 : Ins mX6_takeBack 37 (.aload_n 1) 1 38 := ⟨by decide +kernel, rfl⟩
theorem dX6_takeBack_38 : GgR mX6_takeBack 38 41 6 0 := ⟨0, rfl, ⟨25, _, by decide +kernel, rfl, rfl, by decide, tb_1 (List.mem_of_getElem? (i := 42) (by decide +kernel)) rfl⟩, by decide, rfl⟩
theorem dX6_takeBack_41 : Ins mX6_takeBack 41 (.astore_n 3) 1 42 := ⟨by decide +kernel, rfl⟩
theorem dX6_takeBack_42 : Ins mX6_takeBack 42 (.aload_n 2) 1 43 := ⟨by decide +kernel, rfl⟩
theorem dX6_takeBack_43 : Ins mX6_takeBack 43 (.bipush 32) 2 45 := ⟨by decide +kernel, rfl⟩
theorem dX6_takeBack_45 : Ins mX6_takeBack 45 (.iaload) 1 46 := ⟨by decide +kernel, rfl⟩
theorem dX6_takeBack_46 : Ins mX6_takeBack 46 (.istore 4) 2 48 := ⟨by decide +kernel, rfl⟩
theorem dX6_takeBack_48 : Ins mX6_takeBack 48 (.iload 4) 2 50 := ⟨by decide +kernel, rfl⟩
theorem dX6_takeBack_50 : Ins mX6_takeBack 50 (.aload_n 1) 1 51 := ⟨by decide +kernel, rfl⟩
theorem dX6_takeBack_51 : CalV mX6_takeBack 51 54 mX7_horses := ⟨35, by decide +kernel, rfl, tb_4 (List.mem_of_getElem? (i := 131) (by decide +kernel)) rfl, meX7_horses⟩
theorem dX6_takeBack_54 : Ins mX6_takeBack 54 (.if_icmp .ge 21) 3 57 := ⟨by decide +kernel, rfl⟩
theorem dX6_takeBack_57 : Ins mX6_takeBack 57 (.aload_n 2) 1 58 := ⟨by decide +kernel, rfl⟩
theorem dX6_takeBack_58 : Ins mX6_takeBack 58 (.iconst 0) 1 59 := ⟨by decide +kernel, rfl⟩
theorem dX6_takeBack_59 : Ins mX6_takeBack 59 (.iload 4) 2 61 := ⟨by decide +kernel, rfl⟩
theorem dX6_takeBack_61 : Ins mX6_takeBack 61 (.iadd) 1 62 := ⟨by decide +kernel, rfl⟩
theorem dX6_takeBack_62 : Ins mX6_takeBack 62 (.aload_n 3) 1 63 := ⟨by decide +kernel, rfl⟩
theorem dX6_takeBack_63 : Ins mX6_takeBack 63 (.iconst 0) 1 64 := ⟨by decide +kernel, rfl⟩
theorem dX6_takeBack_64 : Ins mX6_takeBack 64 (.iload 4) 2 66 := ⟨by decide +kernel, rfl⟩
theorem dX6_takeBack_66 : Ins mX6_takeBack 66 (.iadd) 1 67 := ⟨by decide +kernel, rfl⟩
theorem dX6_takeBack_67 : Ins mX6_takeBack 67 (.iaload) 1 68 := ⟨by decide +kernel, rfl⟩
theorem dX6_takeBack_68 : Ins mX6_takeBack 68 (.iastore) 1 69 := ⟨by decide +kernel, rfl⟩
theorem dX6_takeBack_69 : Ins mX6_takeBack 69 (.iinc 4 1) 3 72 := ⟨by decide +kernel, rfl⟩
theorem dX6_takeBack_72 : Ins mX6_takeBack 72 (.goto (-24)) 3 75 := ⟨by decide +kernel, rfl⟩
theorem dX6_takeBack_75 : Ins mX6_takeBack 75 (.aload_n 2) 1 76 := ⟨by decide +kernel, rfl⟩
theorem dX6_takeBack_76 : Ins mX6_takeBack 76 (.bipush 32) 2 78 := ⟨by decide +kernel, rfl⟩
theorem dX6_takeBack_78 : Ins mX6_takeBack 78 (.aload_n 1) 1 79 := ⟨by decide +kernel, rfl⟩
theorem dX6_takeBack_79 : CalV mX6_takeBack 79 82 mX7_horses := ⟨35, by decide +kernel, rfl, tb_4 (List.mem_of_getElem? (i := 131) (by decide +kernel)) rfl, meX7_horses⟩
theorem dX6_takeBack_82 : Ins mX6_takeBack 82 (.iastore) 1 83 := ⟨by decide +kernel, rfl⟩
theorem dX6_takeBack_83 : Ins mX6_takeBack 83 (.aload_n 2) 1 84 := ⟨by decide +kernel, rfl⟩
theorem dX6_takeBack_84 : Ins mX6_takeBack 84 (.bipush 33) 2 86 := ⟨by decide +kernel, rfl⟩
theorem dX6_takeBack_86 : Ins mX6_takeBack 86 (.aload_n 1) 1 87 := ⟨by decide +kernel, rfl⟩
theorem dX6_takeBack_87 : CalV mX6_takeBack 87 90 mX7_boys := ⟨39, by decide +kernel, rfl, tb_4 (List.mem_of_getElem? (i := 132) (by decide +kernel)) rfl, meX7_boys⟩
theorem dX6_takeBack_90 : Ins mX6_takeBack 90 (.iastore) 1 91 := ⟨by decide +kernel, rfl⟩
theorem dX6_takeBack_91 : Ins mX6_takeBack 91 (.aload_n 2) 1 92 := ⟨by decide +kernel, rfl⟩
theorem dX6_takeBack_92 : Ins mX6_takeBack 92 (.iconst 0) 1 93 := ⟨by decide +kernel, rfl⟩
theorem dX6_takeBack_93 : Ins mX6_takeBack 93 (.aload_n 3) 1 94 := ⟨by decide +kernel, rfl⟩
theorem dX6_takeBack_94 : Ins mX6_takeBack 94 (.iconst 0) 1 95 := ⟨by decide +kernel, rfl⟩
theorem dX6_takeBack_95 : Ins mX6_takeBack 95 (.bipush 125) 2 97 := ⟨by decide +kernel, rfl⟩
theorem dX6_takeBack_97 : CalA mX6_takeBack 97 100 := ⟨29, by decide +kernel, rfl, tb_3 (List.mem_of_getElem? (i := 131) (by decide +kernel)) rfl, tb_3 (List.mem_of_getElem? (i := 133) (by decide +kernel)) rfl, tb_3 (List.mem_of_getElem? (i := 132) (by decide +kernel)) rfl, tb_1 (List.mem_of_getElem? (i := 18) (by decide +kernel)) rfl⟩
theorem dX6_takeBack_100 : Ins mX6_takeBack 100 (.aload_n 0) 1 101 := ⟨by decide +kernel, rfl⟩
theorem dX6_takeBack_101 : GgI mX6_takeBack 101 104 5 2 := ⟨2, rfl, ⟨22, _, by decide +kernel, rfl, rfl, by decide, tb_1 (List.mem_of_getElem? (i := 67) (by decide +kernel)) rfl⟩, by decide, rfl⟩
theorem dX6_takeBack_104 : Ins mX6_takeBack 104 (.ireturn) 1 105 := ⟨by decide +kernel, rfl⟩
theorem dX6_copyFrom_0 : Ins mX6_copyFrom 0 (.iconst 0) 1 1 := ⟨by decide +kernel, rfl⟩
theorem dX6_copyFrom_1 : Ins mX6_copyFrom 1 (.istore_n 2) 1 2 := ⟨by decide +kernel, rfl⟩
theorem dX6_copyFrom_2 : Ins mX6_copyFrom 2 (.iload_n 2) 1 3 := ⟨by decide +kernel, rfl⟩
theorem dX6_copyFrom_3 : Ins mX6_copyFrom 3 (.bipush 30) 2 5 := ⟨by decide +kernel, rfl⟩
theorem dX6_copyFrom_5 : Ins mX6_copyFrom 5 (.if_icmp .ge 28) 3 8 := ⟨by decide +kernel, rfl⟩
theorem dX6_copyFrom_8 : Ins mX6_copyFrom 8 (.aload_n 1) 1 9 := ⟨by decide +kernel, rfl⟩
theorem dX6_copyFrom_9 : GgR mX6_copyFrom 9 12 5 0 := ⟨0, rfl, ⟨13, _, by decide +kernel, rfl, rfl, by decide, tb_1 (List.mem_of_getElem? (i := 65) (by decide +kernel)) rfl⟩, by decide, rfl⟩
theorem dX6_copyFrom_12 : Ins mX6_copyFrom 12 (.iload_n 2) 1 13 := ⟨by decide +kernel, rfl⟩
theorem dX6_copyFrom_13 : Ins mX6_copyFrom 13 (.aaload) 1 14 := ⟨by decide +kernel, rfl⟩
theorem dX6_copyFrom_14 : Ins mX6_copyFrom 14 (.iconst 0) 1 15 := ⟨by decide +kernel, rfl⟩
theorem dX6_copyFrom_15 : Ins mX6_copyFrom 15 (.aload_n 0) 1 16 := ⟨by decide +kernel, rfl⟩
theorem dX6_copyFrom_16 : GgR mX6_copyFrom 16 19 5 0 := ⟨0, rfl, ⟨13, _, by decide +kernel, rfl, rfl, by decide, tb_1 (List.mem_of_getElem? (i := 65) (by decide +kernel)) rfl⟩, by decide, rfl⟩
theorem dX6_copyFrom_19 : Ins mX6_copyFrom 19 (.iload_n 2) 1 20 := ⟨by decide +kernel, rfl⟩
theorem dX6_copyFrom_20 : Ins mX6_copyFrom 20 (.aaload) 1 21 := ⟨by decide +kernel, rfl⟩
theorem dX6_copyFrom_21 : Ins mX6_copyFrom 21 (.iconst 0) 1 22 := ⟨by decide +kernel, rfl⟩
theorem dX6_copyFrom_22 : Ins mX6_copyFrom 22 (.bipush 125) 2 24 := ⟨by decide +kernel, rfl⟩
theorem dX6_copyFrom_24 : CalA mX6_copyFrom 24 27 := ⟨29, by decide +kernel, rfl, tb_3 (List.mem_of_getElem? (i := 131) (by decide +kernel)) rfl, tb_3 (List.mem_of_getElem? (i := 133) (by decide +kernel)) rfl, tb_3 (List.mem_of_getElem? (i := 132) (by decide +kernel)) rfl, tb_1 (List.mem_of_getElem? (i := 18) (by decide +kernel)) rfl⟩
theorem dX6_copyFrom_27 : Ins mX6_copyFrom 27 (.iinc 2 1) 3 30 := ⟨by decide +kernel, rfl⟩
theorem dX6_copyFrom_30 : Ins mX6_copyFrom 30 (.goto (-28)) 3 33 := ⟨by decide +kernel, rfl⟩
theorem dX6_copyFrom_33 : Ins mX6_copyFrom 33 (.aload_n 0) 1 34 := ⟨by decide +kernel, rfl⟩
theorem dX6_copyFrom_34 : Ins mX6_copyFrom 34 (.aload_n 1) 1 35 := ⟨by decide +kernel, rfl⟩
theorem dX6_copyFrom_35 : GgI mX6_copyFrom 35 38 5 1 := ⟨1, rfl, ⟨18, _, by decide +kernel, rfl, rfl, by decide, tb_1 (List.mem_of_getElem? (i := 66) (by decide +kernel)) rfl⟩, by decide, rfl⟩
theorem dX6_copyFrom_38 : GpI mX6_copyFrom 38 41 5 1 := ⟨1, rfl, ⟨18, _, by decide +kernel, rfl, rfl, by decide, tb_1 (List.mem_of_getElem? (i := 66) (by decide +kernel)) rfl, by decide +kernel, Or.inl rfl⟩, by decide, rfl⟩
theorem dX6_copyFrom_41 : Ins mX6_copyFrom 41 (.aload_n 0) 1 42 := ⟨by decide +kernel, rfl⟩
theorem dX6_copyFrom_42 : Ins mX6_copyFrom 42 (.aload_n 1) 1 43 := ⟨by decide +kernel, rfl⟩
theorem dX6_copyFrom_43 : GgI mX6_copyFrom 43 46 5 2 := ⟨2, rfl, ⟨22, _, by decide +kernel, rfl, rfl, by decide, tb_1 (List.mem_of_getElem? (i := 67) (by decide +kernel)) rfl⟩, by decide, rfl⟩
theorem dX6_copyFrom_46 : GpI mX6_copyFrom 46 49 5 2 := ⟨2, rfl, ⟨22, _, by decide +kernel, rfl, rfl, by decide, tb_1 (List.mem_of_getElem? (i := 67) (by decide +kernel)) rfl, by decide +kernel, Or.inl rfl⟩, by decide, rfl⟩
theorem dX6_copyFrom_49 : Ins mX6_copyFrom 49 (.return_) 1 50 := ⟨by decide +kernel, rfl⟩
theorem dX7_init_0 : Ins mX7_init 0 (.aload_n 0) 1 1 := ⟨by decide +kernel, rfl⟩
theorem dX7_init_1 : Ins mX7_init 1 (.invokespecial 5) 3 4 := ⟨by decide +kernel, rfl⟩
theorem dX7_init_4 : Ins mX7_init 4 (.aload_n 0) 1 5 := ⟨by decide +kernel, rfl⟩
theorem dX7_init_5 : Ins mX7_init 5 (.bipush 125) 2 7 := ⟨by decide +kernel, rfl⟩
theorem dX7_init_7 : Ins mX7_init 7 (.newarray .int) 2 9 := ⟨by decide +kernel, rfl⟩
theorem dX7_init_9 : GpR mX7_init 9 12 6 0 := ⟨0, rfl, _, ⟨11, _, by decide +kernel, rfl, rfl, by decide, tb_1 (List.mem_of_getElem? (i := 41) (by decide +kernel)) rfl, tyX7_ok 0 (by decide), Or.inr ⟨rfl, rfl, rfl⟩⟩, by decide, rfl, Or.inr ⟨_, rfl⟩⟩
theorem dX7_init_12 : Ins mX7_init 12 (.aload_n 0) 1 13 := ⟨by decide +kernel, rfl⟩
theorem dX7_init_13 : Ins mX7_init 13 (.bipush 8) 2 15 := ⟨by decide +kernel, rfl⟩
theorem dX7_init_15 : Ins mX7_init 15 (.newarray .int) 2 17 := ⟨by decide +kernel, rfl⟩
theorem dX7_init_17 : GpR mX7_init 17 20 6 1 := ⟨1, rfl, _, ⟨15, _, by decide +kernel, rfl, rfl, by decide, tb_1 (List.mem_of_getElem? (i := 43) (by decide +kernel)) rfl, tyX7_ok 1 (by decide), Or.inr ⟨rfl, rfl, rfl⟩⟩, by decide, rfl, Or.inr ⟨_, rfl⟩⟩
theorem dX7_init_20 : Ins mX7_init 20 (.aload_n 0) 1 21 := ⟨by decide +kernel, rfl⟩
theorem dX7_init_21 : Ins mX7_init 21 (.bipush 6) 2 23 := ⟨by decide +kernel, rfl⟩
theorem dX7_init_23 : Ins mX7_init 23 (.newarray .int) 2 25 := ⟨by decide +kernel, rfl⟩
theorem dX7_init_25 : GpR mX7_init 25 28 6 2 := ⟨2, rfl, _, ⟨18, _, by decide +kernel, rfl, rfl, by decide, tb_1 (List.mem_of_getElem? (i := 44) (by decide +kernel)) rfl, tyX7_ok 2 (by decide), Or.inr ⟨rfl, rfl, rfl⟩⟩, by decide, rfl, Or.inr ⟨_, rfl⟩⟩
theorem dX7_init_28 : Ins mX7_init 28 (.aload_n 0) 1 29 := ⟨by decide +kernel, rfl⟩
theorem dX7_init_29 : Ins mX7_init 29 (.iconst 3) 1 30 := ⟨by decide +kernel, rfl⟩
theorem dX7_init_30 : GpI mX7_init 30 33 6 3 := ⟨3, rfl, ⟨21, _, by decide +kernel, rfl, rfl, by decide, tb_1 (List.mem_of_getElem? (i := 45) (by decide +kernel)) rfl, by decide +kernel, Or.inl rfl⟩, by decide, rfl⟩
theorem dX7_init_33 : Ins mX7_init 33 (.iconst 0) 1 34 := ⟨by decide +kernel, rfl⟩
theorem dX7_init_34 : Ins mX7_init 34 (.istore_n 1) 1 35 := ⟨by decide +kernel, rfl⟩
theorem dX7_init_35 : Ins mX7_init 35 (.iload_n 1) 1 36 := ⟨by decide +kernel, rfl⟩
theorem dX7_init_36 : Ins mX7_init 36 (.bipush 6) 2 38 := ⟨by decide +kernel, rfl⟩
theorem dX7_init_38 : Ins mX7_init 38 (.if_icmp .ge 19) 3 41 := ⟨by decide +kernel, rfl⟩
theorem dX7_init_41 : Ins mX7_init 41 (.aload_n 0) 1 42 := ⟨by decide +kernel, rfl⟩
theorem dX7_init_42 : GgR mX7_init 42 45 6 0 := ⟨0, rfl, ⟨11, _, by decide +kernel, rfl, rfl, by decide, tb_1 (List.mem_of_getElem? (i := 41) (by decide +kernel)) rfl⟩, by decide, rfl⟩
theorem dX7_init_45 : Ins mX7_init 45 (.bipush 22) 2 47 := ⟨by decide +kernel, rfl⟩
theorem dX7_init_47 : Ins mX7_init 47 (.iload_n 1) 1 48 := ⟨by decide +kernel, rfl⟩
theorem dX7_init_48 : Ins mX7_init 48 (.iadd) 1 49 := ⟨by decide +kernel, rfl⟩
theorem dX7_init_49 : Ins mX7_init 49 (.iconst (-1)) 1 50 := ⟨by decide +kernel, rfl⟩
theorem dX7_init_50 : Ins mX7_init 50 (.iastore) 1 51 := ⟨by decide +kernel, rfl⟩
theorem dX7_init_51 : Ins mX7_init 51 (.iinc 1 1) 3 54 := ⟨by decide +kernel, rfl⟩
theorem dX7_init_54 : Ins mX7_init 54 (.goto (-19)) 3 57 := ⟨by decide +kernel, rfl⟩
theorem dX7_init_57 : Ins mX7_init 57 (.aload_n 0) 1 58 := ⟨by decide +kernel, rfl⟩
theorem dX7_init_58 : GgR mX7_init 58 61 6 0 := ⟨0, rfl, ⟨11, _, by decide +kernel, rfl, rfl, by decide, tb_1 (List.mem_of_getElem? (i := 41) (by decide +kernel)) rfl⟩, by decide, rfl⟩
theorem dX7_init_61 : Ins mX7_init 61 (.bipush 29) 2 63 := ⟨by decide +kernel, rfl⟩
theorem dX7_init_63 : Ins mX7_init 63 (.bipush 9) 2 65 := ⟨by decide +kernel, rfl⟩
theorem dX7_init_65 : Ins mX7_init 65 (.iastore) 1 66 := ⟨by decide +kernel, rfl⟩
theorem dX7_init_66 : Ins mX7_init 66 (.aload_n 0) 1 67 := ⟨by decide +kernel, rfl⟩
theorem dX7_init_67 : GgR mX7_init 67 70 6 0 := ⟨0, rfl, ⟨11, _, by decide +kernel, rfl, rfl, by decide, tb_1 (List.mem_of_getElem? (i := 41) (by decide +kernel)) rfl⟩, by decide, rfl⟩
theorem dX7_init_70 : Ins mX7_init 70 (.bipush 31) 2 72 := ⟨by decide +kernel, rfl⟩
theorem dX7_init_72 : Ins mX7_init 72 (.sipush 151) 3 75 := ⟨by decide +kernel, rfl⟩
theorem dX7_init_75 : Ins mX7_init 75 (.iastore) 1 76 := ⟨by decide +kernel, rfl⟩
theorem dX7_init_76 : Ins mX7_init 76 (.return_) 1 77 := ⟨by decide +kernel, rfl⟩
theorem dX7_copyFrom_0 : Ins mX7_copyFrom 0 (.aload_n 1) 1 1 := ⟨by decide +kernel, rfl⟩
theorem dX7_copyFrom_1 : GgR mX7_copyFrom 1 4 6 0 := ⟨0, rfl, ⟨11, _, by decide +kernel, rfl, rfl, by decide, tb_1 (List.mem_of_getElem? (i := 41) (by decide +kernel)) rfl⟩, by decide, rfl⟩
theorem dX7_copyFrom_4 : Ins mX7_copyFrom 4 (.iconst 0) 1 5 := ⟨by decide +kernel, rfl⟩
theorem dX7_copyFrom_5 : Ins mX7_copyFrom 5 (.aload_n 0) 1 6 := ⟨by decide +kernel, rfl⟩
theorem dX7_copyFrom_6 : GgR mX7_copyFrom 6 9 6 0 := ⟨0, rfl, ⟨11, _, by decide +kernel, rfl, rfl, by decide, tb_1 (List.mem_of_getElem? (i := 41) (by decide +kernel)) rfl⟩, by decide, rfl⟩
theorem dX7_copyFrom_9 : Ins mX7_copyFrom 9 (.iconst 0) 1 10 := ⟨by decide +kernel, rfl⟩
theorem dX7_copyFrom_10 : Ins mX7_copyFrom 10 (.bipush 125) 2 12 := ⟨by decide +kernel, rfl⟩
theorem dX7_copyFrom_12 : CalA mX7_copyFrom 12 15 := ⟨25, by decide +kernel, rfl, tb_4 (List.mem_of_getElem? (i := 68) (by decide +kernel)) rfl, tb_3 (List.mem_of_getElem? (i := 133) (by decide +kernel)) rfl, tb_3 (List.mem_of_getElem? (i := 132) (by decide +kernel)) rfl, tb_1 (List.mem_of_getElem? (i := 18) (by decide +kernel)) rfl⟩
theorem dX7_copyFrom_15 : Ins mX7_copyFrom 15 (.aload_n 1) 1 16 := ⟨by decide +kernel, rfl⟩
theorem dX7_copyFrom_16 : GgR mX7_copyFrom 16 19 6 1 := ⟨1, rfl, ⟨15, _, by decide +kernel, rfl, rfl, by decide, tb_1 (List.mem_of_getElem? (i := 43) (by decide +kernel)) rfl⟩, by decide, rfl⟩
theorem dX7_copyFrom_19 : Ins mX7_copyFrom 19 (.iconst 0) 1 20 := ⟨by decide +kernel, rfl⟩
theorem dX7_copyFrom_20 : Ins mX7_copyFrom 20 (.aload_n 0) 1 21 := ⟨by decide +kernel, rfl⟩
theorem dX7_copyFrom_21 : GgR mX7_copyFrom 21 24 6 1 := ⟨1, rfl, ⟨15, _, by decide +kernel, rfl, rfl, by decide, tb_1 (List.mem_of_getElem? (i := 43) (by decide +kernel)) rfl⟩, by decide, rfl⟩
theorem dX7_copyFrom_24 : Ins mX7_copyFrom 24 (.iconst 0) 1 25 := ⟨by decide +kernel, rfl⟩
theorem dX7_copyFrom_25 : Ins mX7_copyFrom 25 (.bipush 8) 2 27 := ⟨by decide +kernel, rfl⟩
theorem dX7_copyFrom_27 : CalA mX7_copyFrom 27 30 := ⟨25, by decide +kernel, rfl, tb_4 (List.mem_of_getElem? (i := 68) (by decide +kernel)) rfl, tb_3 (List.mem_of_getElem? (i := 133) (by decide +kernel)) rfl, tb_3 (List.mem_of_getElem? (i := 132) (by decide +kernel)) rfl, tb_1 (List.mem_of_getElem? (i := 18) (by decide +kernel)) rfl⟩
theorem dX7_copyFrom_30 : Ins mX7_copyFrom 30 (.aload_n 1) 1 31 := ⟨by decide +kernel, rfl⟩
theorem dX7_copyFrom_31 : GgR mX7_copyFrom 31 34 6 2 := ⟨2, rfl, ⟨18, _, by decide +kernel, rfl, rfl, by decide, tb_1 (List.mem_of_getElem? (i := 44) (by decide +kernel)) rfl⟩, by decide, rfl⟩
theorem dX7_copyFrom_34 : Ins mX7_copyFrom 34 (.iconst 0) 1 35 := ⟨by decide +kernel, rfl⟩
theorem dX7_copyFrom_35 : Ins mX7_copyFrom 35 (.aload_n 0) 1 36 := ⟨by decide +kernel, rfl⟩
theorem dX7_copyFrom_36 : GgR mX7_copyFrom 36 39 6 2 := ⟨2, rfl, ⟨18, _, by decide +kernel, rfl, rfl, by decide, tb_1 (List.mem_of_getElem? (i := 44) (by decide +kernel)) rfl⟩, by decide, rfl⟩
theorem dX7_copyFrom_39 : Ins mX7_copyFrom 39 (.iconst 0) 1 40 := ⟨by decide +kernel, rfl⟩
theorem dX7_copyFrom_40 : Ins mX7_copyFrom 40 (.bipush 6) 2 42 := ⟨by decide +kernel, rfl⟩
theorem dX7_copyFrom_42 : CalA mX7_copyFrom 42 45 := ⟨25, by decide +kernel, rfl, tb_4 (List.mem_of_getElem? (i := 68) (by decide +kernel)) rfl, tb_3 (List.mem_of_getElem? (i := 133) (by decide +kernel)) rfl, tb_3 (List.mem_of_getElem? (i := 132) (by decide +kernel)) rfl, tb_1 (List.mem_of_getElem? (i := 18) (by decide +kernel)) rfl⟩
theorem dX7_copyFrom_45 : Ins mX7_copyFrom 45 (.aload_n 0) 1 46 := ⟨by decide +kernel, rfl⟩
theorem dX7_copyFrom_46 : Ins mX7_copyFrom 46 (.aload_n 1) 1 47 := ⟨by decide +kernel, rfl⟩
theorem dX7_copyFrom_47 : GgI mX7_copyFrom 47 50 6 3 := ⟨3, rfl, ⟨21, _, by decide +kernel, rfl, rfl, by decide, tb_1 (List.mem_of_getElem? (i := 45) (by decide +kernel)) rfl⟩, by decide, rfl⟩
theorem dX7_copyFrom_50 : GpI mX7_copyFrom 50 53 6 3 := ⟨3, rfl, ⟨21, _, by decide +kernel, rfl, rfl, by decide, tb_1 (List.mem_of_getElem? (i := 45) (by decide +kernel)) rfl, by decide +kernel, Or.inl rfl⟩, by decide, rfl⟩
theorem dX7_copyFrom_53 : Ins mX7_copyFrom 53 (.return_) 1 54 := ⟨by decide +kernel, rfl⟩
theorem dX7_addHorse_0 : Ins mX7_addHorse 0 (.aload_n 0) 1 1 := ⟨by decide +kernel, rfl⟩
theorem dX7_addHorse_1 : CalV mX7_addHorse 1 4 mX7_horses := ⟨31, by decide +kernel, rfl, tb_2 (List.mem_of_getElem? (i := 66) (by decide +kernel)) rfl, meX7_horses⟩
theorem dX7_addHorse_4 : Ins mX7_addHorse 4 (.istore_n 3) 1 5 := ⟨by decide +kernel, rfl⟩
theorem dX7_addHorse_5 : Ins mX7_addHorse 5 (.iload_n 3) 1 6 := ⟨by decide +kernel, rfl⟩
theorem dX7_addHorse_6 : Ins mX7_addHorse 6 (.bipush 8) 2 8 := ⟨by decide +kernel, rfl⟩
theorem dX7_addHorse_8 : Ins mX7_addHorse 8 (.if_icmp .ge 24) 3 11 := ⟨by decide +kernel, rfl⟩
theorem dX7_addHorse_11 : Ins mX7_addHorse 11 (.iload_n 1) 1 12 := ⟨by decide +kernel, rfl⟩
theorem dX7_addHorse_12 : Ins mX7_addHorse 12 (.iconst 1) 1 13 := ⟨by decide +kernel, rfl⟩
theorem dX7_addHorse_13 : Ins mX7_addHorse 13 (.bipush 9) 2 15 := ⟨by decide +kernel, rfl⟩
theorem dX7_addHorse_15 : CalS mX7_addHorse 15 18 mX10_isWithin := ⟨35, by decide +kernel, rfl, Or.inr ⟨"RockingGuard", List.mem_of_getElem? (i := 9) (by decide +kernel)⟩, meX10_isWithin⟩
theorem dX7_addHorse_18 : Ins mX7_addHorse 18 (.ifCond .eq 14) 3 21 := ⟨by decide +kernel, rfl⟩
theorem dX7_addHorse_21 : Ins mX7_addHorse 21 (.iload_n 2) 1 22 := ⟨by decide +kernel, rfl⟩
theorem dX7_addHorse_22 : Ins mX7_addHorse 22 (.iconst 0) 1 23 := ⟨by decide +kernel, rfl⟩
theorem dX7_addHorse_23 : Ins mX7_addHorse 23 (.iload_n 1) 1 24 := ⟨by decide +kernel, rfl⟩
theorem dX7_addHorse_24 : Ins mX7_addHorse 24 (.iconst 1) 1 25 := ⟨by decide +kernel, rfl⟩
theorem dX7_addHorse_25 : Ins mX7_addHorse 25 (.isub) 1 26 := ⟨by decide +kernel, rfl⟩
theorem dX7_addHorse_26 : CalS mX7_addHorse 26 29 mX10_isWithin := ⟨35, by decide +kernel, rfl, Or.inr ⟨"RockingGuard", List.mem_of_getElem? (i := 9) (by decide +kernel)⟩, meX10_isWithin⟩
theorem dX7_addHorse_29 : Ins mX7_addHorse 29 (.ifCond .ne 5) 3 32 := ⟨by decide +kernel, rfl⟩
theorem dX7_addHorse_32 : Ins mX7_addHorse 32 (.iconst (-1)) 1 33 := ⟨by decide +kernel, rfl⟩
theorem dX7_addHorse_33 : Ins mX7_addHorse 33 (.ireturn) 1 34 := ⟨by decide +kernel, rfl⟩
theorem dX7_addHorse_34 : Ins mX7_addHorse 34 (.aload_n 0) 1 35 := ⟨by decide +kernel, rfl⟩
theorem dX7_addHorse_35 : GgR mX7_addHorse 35 38 6 1 := ⟨1, rfl, ⟨15, _, by decide +kernel, rfl, rfl, by decide, tb_1 (List.mem_of_getElem? (i := 43) (by decide +kernel)) rfl⟩, by decide, rfl⟩
theorem dX7_addHorse_38 : Ins mX7_addHorse 38 (.iload_n 3) 1 39 := ⟨by decide +kernel, rfl⟩
theorem dX7_addHorse_39 : Ins mX7_addHorse 39 (.iload_n 1) 1 40 := ⟨by decide +kernel, rfl⟩
theorem dX7_addHorse_40 : Ins mX7_addHorse 40 (.iastore) 1 41 := ⟨by decide +kernel, rfl⟩
theorem dX7_addHorse_41 : Ins mX7_addHorse 41 (.aload_n 0) 1 42 := ⟨by decide +kernel, rfl⟩
theorem dX7_addHorse_42 : GgR mX7_addHorse 42 45 6 0 := ⟨0, rfl, ⟨11, _, by decide +kernel, rfl, rfl, by decide, tb_1 (List.mem_of_getElem? (i := 41) (by decide +kernel)) rfl⟩, by decide, rfl⟩
theorem dX7_addHorse_45 : Ins mX7_addHorse 45 (.iconst 0) 1 46 := ⟨by decide +kernel, rfl⟩
theorem dX7_addHorse_46 : Ins mX7_addHorse 46 (.iload_n 3) 1 47 := ⟨by decide +kernel, rfl⟩
theorem dX7_addHorse_47 : Ins mX7_addHorse 47 (.iadd) 1 48 := ⟨by decide +kernel, rfl⟩
theorem dX7_addHorse_48 : Ins mX7_addHorse 48 (.iload_n 2) 1 49 := ⟨by decide +kernel, rfl⟩
theorem dX7_addHorse_49 : Ins mX7_addHorse 49 (.iastore) 1 50 := ⟨by decide +kernel, rfl⟩
theorem dX7_addHorse_50 : Ins mX7_addHorse 50 (.aload_n 0) 1 51 := ⟨by decide +kernel, rfl⟩
theorem dX7_addHorse_51 : GgR mX7_addHorse 51 54 6 0 := ⟨0, rfl, ⟨11, _, by decide +kernel, rfl, rfl, by decide, tb_1 (List.mem_of_getElem? (i := 41) (by decide +kernel)) rfl⟩, by decide, rfl⟩
theorem dX7_addHorse_54 : Ins mX7_addHorse 54 (.bipush 32) 2 56 := ⟨by decide +kernel, rfl⟩
theorem dX7_addHorse_56 : Ins mX7_addHorse 56 (.iload_n 3) 1 57 := ⟨by decide +kernel, rfl⟩
theorem dX7_addHorse_57 : Ins mX7_addHorse 57 (.iconst 1) 1 58 := ⟨by decide +kernel, rfl⟩
theorem dX7_addHorse_58 : Ins mX7_addHorse 58 (.iadd) 1 59 := ⟨by decide +kernel, rfl⟩
theorem dX7_addHorse_59 : Ins mX7_addHorse 59 (.iastore) 1 60 := ⟨by decide +kernel, rfl⟩
theorem dX7_addHorse_60 : Ins mX7_addHorse 60 (.iload_n 3) 1 61 := ⟨by decide +kernel, rfl⟩
theorem dX7_addHorse_61 : Ins mX7_addHorse 61 (.ireturn) 1 62 := ⟨by decide +kernel, rfl⟩
theorem dX7_addBoy_0 : Ins mX7_addBoy 0 (.aload_n 0) 1 1 := ⟨by decide +kernel, rfl⟩
theorem dX7_addBoy_1 : CalV mX7_addBoy 1 4 mX7_boys := ⟨39, by decide +kernel, rfl, tb_2 (List.mem_of_getElem? (i := 81) (by decide +kernel)) rfl, meX7_boys⟩
theorem dX7_addBoy_4 : Ins mX7_addBoy 4 (.istore_n 2) 1 5 := ⟨by decide +kernel, rfl⟩
theorem dX7_addBoy_5 : Ins mX7_addBoy 5 (.iload_n 2) 1 6 := ⟨by decide +kernel, rfl⟩
theorem dX7_addBoy_6 : Ins mX7_addBoy 6 (.bipush 6) 2 8 := ⟨by decide +kernel, rfl⟩
theorem dX7_addBoy_8 : Ins mX7_addBoy 8 (.if_icmp .ge 13) 3 11 := ⟨by decide +kernel, rfl⟩
theorem dX7_addBoy_11 : Ins mX7_addBoy 11 (.iload_n 1) 1 12 := ⟨by decide +kernel, rfl⟩
theorem dX7_addBoy_12 : Ins mX7_addBoy 12 (.iconst 1) 1 13 := ⟨by decide +kernel, rfl⟩
theorem dX7_addBoy_13 : Ins mX7_addBoy 13 (.bipush 9) 2 15 := ⟨by decide +kernel, rfl⟩
theorem dX7_addBoy_15 : CalS mX7_addBoy 15 18 mX10_isWithin := ⟨35, by decide +kernel, rfl, Or.inr ⟨"RockingGuard", List.mem_of_getElem? (i := 9) (by decide +kernel)⟩, meX10_isWithin⟩
theorem dX7_addBoy_18 : Ins mX7_addBoy 18 (.ifCond .ne 5) 3 21 := ⟨by decide +kernel, rfl⟩
theorem dX7_addBoy_21 : Ins mX7_addBoy 21 (.iconst (-1)) 1 22 := ⟨by decide +kernel, rfl⟩
theorem dX7_addBoy_22 : Ins mX7_addBoy 22 (.ireturn) 1 23 := ⟨by decide +kernel, rfl⟩
theorem dX7_addBoy_23 : Ins mX7_addBoy 23 (.aload_n 0) 1 24 := ⟨by decide +kernel, rfl⟩
theorem dX7_addBoy_24 : GgR mX7_addBoy 24 27 6 2 := ⟨2, rfl, ⟨18, _, by decide +kernel, rfl, rfl, by decide, tb_1 (List.mem_of_getElem? (i := 44) (by decide +kernel)) rfl⟩, by decide, rfl⟩
theorem dX7_addBoy_27 : Ins mX7_addBoy 27 (.iload_n 2) 1 28 := ⟨by decide +kernel, rfl⟩
theorem dX7_addBoy_28 : Ins mX7_addBoy 28 (.iload_n 1) 1 29 := ⟨by decide +kernel, rfl⟩
theorem dX7_addBoy_29 : Ins mX7_addBoy 29 (.iastore) 1 30 := ⟨by decide +kernel, rfl⟩
theorem dX7_addBoy_30 : Ins mX7_addBoy 30 (.aload_n 0) 1 31 := ⟨by decide +kernel, rfl⟩
theorem dX7_addBoy_31 : GgR mX7_addBoy 31 34 6 0 := ⟨0, rfl, ⟨11, _, by decide +kernel, rfl, rfl, by decide, tb_1 (List.mem_of_getElem? (i := 41) (by decide +kernel)) rfl⟩, by decide, rfl⟩
theorem dX7_addBoy_34 : Ins mX7_addBoy 34 (.bipush 33) 2 36 := ⟨by decide +kernel, rfl⟩
theorem dX7_addBoy_36 : Ins mX7_addBoy 36 (.iload_n 2) 1 37 := ⟨by decide +kernel, rfl⟩
theorem dX7_addBoy_37 : Ins mX7_addBoy 37 (.iconst 1) 1 38 := ⟨by decide +kernel, rfl⟩
theorem dX7_addBoy_38 : Ins mX7_addBoy 38 (.iadd) 1 39 := ⟨by decide +kernel, rfl⟩
theorem dX7_addBoy_39 : Ins mX7_addBoy 39 (.iastore) 1 40 := ⟨by decide +kernel, rfl⟩
theorem dX7_addBoy_40 : Ins mX7_addBoy 40 (.iload_n 2) 1 41 := ⟨by decide +kernel, rfl⟩
theorem dX7_addBoy_41 : Ins mX7_addBoy 41 (.ireturn) 1 42 := ⟨by decide +kernel, rfl⟩
theorem dX7_horses_0 : Ins mX7_horses 0 (.aload_n 0) 1 1 := ⟨by decide +kernel, rfl⟩
theorem dX7_horses_1 : GgR mX7_horses 1 4 6 0 := ⟨0, rfl, ⟨11, _, by decide +kernel, rfl, rfl, by decide, tb_1 (List.mem_of_getElem? (i := 41) (by decide +kernel)) rfl⟩, by decide, rfl⟩
theorem dX7_horses_4 : Ins mX7_horses 4 (.bipush 32) 2 6 := ⟨by decide +kernel, rfl⟩
theorem dX7_horses_6 : Ins mX7_horses 6 (.iaload) 1 7 := ⟨by decide +kernel, rfl⟩
theorem dX7_horses_7 : Ins mX7_horses 7 (.ireturn) 1 8 := ⟨by decide +kernel, rfl⟩
theorem dX7_boys_0 : Ins mX7_boys 0 (.aload_n 0) 1 1 := ⟨by decide +kernel, rfl⟩
theorem dX7_boys_1 : GgR mX7_boys 1 4 6 0 := ⟨0, rfl, ⟨11, _, by decide +kernel, rfl, rfl, by decide, tb_1 (List.mem_of_getElem? (i := 41) (by decide +kernel)) rfl⟩, by decide, rfl⟩
theorem dX7_boys_4 : Ins mX7_boys 4 (.bipush 33) 2 6 := ⟨by decide +kernel, rfl⟩
theorem dX7_boys_6 : Ins mX7_boys 6 (.iaload) 1 7 := ⟨by decide +kernel, rfl⟩
theorem dX7_boys_7 : Ins mX7_boys 7 (.ireturn) 1 8 := ⟨by decide +kernel, rfl⟩
theorem dX7_thisMinute_0 : Ins mX7_thisMinute 0 (.aload_n 0) 1 1 := ⟨by decide +kernel, rfl⟩
theorem dX7_thisMinute_1 : GgR mX7_thisMinute 1 4 6 0 := ⟨0, rfl, ⟨11, _, by decide +kernel, rfl, rfl, by decide, tb_1 (List.mem_of_getElem? (i := 41) (by decide +kernel)) rfl⟩, by decide, rfl⟩
theorem dX7_thisMinute_4 : Ins mX7_thisMinute 4 (.bipush 30) 2 6 := ⟨by decide +kernel, rfl⟩
theorem dX7_thisMinute_6 : Ins mX7_thisMinute 6 (.iaload) 1 7 := ⟨by decide +kernel, rfl⟩
theorem dX7_thisMinute_7 : Ins mX7_thisMinute 7 (.ireturn) 1 8 := ⟨by decide +kernel, rfl⟩
theorem dX7_snow_0 : Ins mX7_snow 0 (.aload_n 0) 1 1 := ⟨by decide +kernel, rfl⟩
theorem dX7_snow_1 : GgR mX7_snow 1 4 6 0 := ⟨0, rfl, ⟨11, _, by decide +kernel, rfl, rfl, by decide, tb_1 (List.mem_of_getElem? (i := 41) (by decide +kernel)) rfl⟩, by decide, rfl⟩
theorem dX7_snow_4 : Ins mX7_snow 4 (.bipush 28) 2 6 := ⟨by decide +kernel, rfl⟩
theorem dX7_snow_6 : Ins mX7_snow 6 (.iaload) 1 7 := ⟨by decide +kernel, rfl⟩
theorem dX7_snow_7 : Ins mX7_snow 7 (.ireturn) 1 8 := ⟨by decide +kernel, rfl⟩
theorem dX7_oilLeft_0 : Ins mX7_oilLeft 0 (.aload_n 0) 1 1 := ⟨by decide +kernel, rfl⟩
theorem dX7_oilLeft_1 : GgR mX7_oilLeft 1 4 6 0 := ⟨0, rfl, ⟨11, _, by decide +kernel, rfl, rfl, by decide, tb_1 (List.mem_of_getElem? (i := 41) (by decide +kernel)) rfl⟩, by decide, rfl⟩
theorem dX7_oilLeft_4 : Ins mX7_oilLeft 4 (.bipush 29) 2 6 := ⟨by decide +kernel, rfl⟩
theorem dX7_oilLeft_6 : Ins mX7_oilLeft 6 (.iaload) 1 7 := ⟨by decide +kernel, rfl⟩
theorem dX7_oilLeft_7 : Ins mX7_oilLeft 7 (.ireturn) 1 8 := ⟨by decide +kernel, rfl⟩
theorem dX7_x_0 : Ins mX7_x 0 (.aload_n 0) 1 1 := ⟨by decide +kernel, rfl⟩
theorem dX7_x_1 : GgR mX7_x 1 4 6 0 := ⟨0, rfl, ⟨11, _, by decide +kernel, rfl, rfl, by decide, tb_1 (List.mem_of_getElem? (i := 41) (by decide +kernel)) rfl⟩, by decide, rfl⟩
theorem dX7_x_4 : Ins mX7_x 4 (.bipush 31) 2 6 := ⟨by decide +kernel, rfl⟩
theorem dX7_x_6 : Ins mX7_x 6 (.iaload) 1 7 := ⟨by decide +kernel, rfl⟩
theorem dX7_x_7 : Ins mX7_x 7 (.ireturn) 1 8 := ⟨by decide +kernel, rfl⟩
theorem dX7_slides_0 : Ins mX7_slides 0 (.aload_n 0) 1 1 := ⟨by decide +kernel, rfl⟩
theorem dX7_slides_1 : GgR mX7_slides 1 4 6 0 := ⟨0, rfl, ⟨11, _, by decide +kernel, rfl, rfl, by decide, tb_1 (List.mem_of_getElem? (i := 41) (by decide +kernel)) rfl⟩, by decide, rfl⟩
theorem dX7_slides_4 : Ins mX7_slides 4 (.bipush 34) 2 6 := ⟨by decide +kernel, rfl⟩
theorem dX7_slides_6 : Ins mX7_slides 6 (.iaload) 1 7 := ⟨by decide +kernel, rfl⟩
theorem dX7_slides_7 : Ins mX7_slides 7 (.ireturn) 1 8 := ⟨by decide +kernel, rfl⟩
theorem dX7_isHorse_0 : Ins mX7_isHorse 0 (.iload_n 1) 1 1 := ⟨by decide +kernel, rfl⟩
theorem dX7_isHorse_1 : Ins mX7_isHorse 1 (.ifCond .lt 24) 3 4 := ⟨by decide +kernel, rfl⟩
theorem dX7_isHorse_4 : Ins mX7_isHorse 4 (.iload_n 1) 1 5 := ⟨by decide +kernel, rfl⟩
theorem dX7_isHorse_5 : Ins mX7_isHorse 5 (.aload_n 0) 1 6 := ⟨by decide +kernel, rfl⟩
theorem dX7_isHorse_6 : GgR mX7_isHorse 6 9 6 0 := ⟨0, rfl, ⟨11, _, by decide +kernel, rfl, rfl, by decide, tb_1 (List.mem_of_getElem? (i := 41) (by decide +kernel)) rfl⟩, by decide, rfl⟩
theorem dX7_isHorse_9 : Ins mX7_isHorse 9 (.bipush 32) 2 11 := ⟨by decide +kernel, rfl⟩
theorem dX7_isHorse_11 : Ins mX7_isHorse 11 (.iaload) 1 12 := ⟨by decide +kernel, rfl⟩
theorem dX7_isHorse_12 : Ins mX7_isHorse 12 (.if_icmp .ge 13) 3 15 := ⟨by decide +kernel, rfl⟩
theorem dX7_isHorse_15 : Ins mX7_isHorse 15 (.iload_n 1) 1 16 := ⟨by decide +kernel, rfl⟩
theorem dX7_isHorse_16 : Ins mX7_isHorse 16 (.bipush 8) 2 18 := ⟨by decide +kernel, rfl⟩
theorem dX7_isHorse_18 : Ins mX7_isHorse 18 (.if_icmp .ge 7) 3 21 := ⟨by decide +kernel, rfl⟩
theorem dX7_isHorse_21 : Ins mX7_isHorse 21 (.iconst 1) 1 22 := ⟨by decide +kernel, rfl⟩
theorem dX7_isHorse_22 : Ins mX7_isHorse 22 (.goto 4) 3 25 := ⟨by decide +kernel, rfl⟩
theorem dX7_isHorse_25 : Ins mX7_isHorse 25 (.iconst 0) 1 26 := ⟨by decide +kernel, rfl⟩
theorem dX7_isHorse_26 : Ins mX7_isHorse 26 (.ireturn) 1 27 := ⟨by decide +kernel, rfl⟩
theorem dX7_isBoy_0 : Ins mX7_isBoy 0 (.iload_n 1) 1 1 := ⟨by decide +kernel, rfl⟩
theorem dX7_isBoy_1 : Ins mX7_isBoy 1 (.ifCond .lt 24) 3 4 := ⟨by decide +kernel, rfl⟩
theorem dX7_isBoy_4 : Ins mX7_isBoy 4 (.iload_n 1) 1 5 := ⟨by decide +kernel, rfl⟩
theorem dX7_isBoy_5 : Ins mX7_isBoy 5 (.aload_n 0) 1 6 := ⟨by decide +kernel, rfl⟩
theorem dX7_isBoy_6 : GgR mX7_isBoy 6 9 6 0 := ⟨0, rfl, ⟨11, _, by decide +kernel, rfl, rfl, by decide, tb_1 (List.mem_of_getElem? (i := 41) (by decide +kernel)) rfl⟩, by decide, rfl⟩
theorem dX7_isBoy_9 : Ins mX7_isBoy 9 (.bipush 33) 2 11 := ⟨by decide +kernel, rfl⟩
theorem dX7_isBoy_11 : Ins mX7_isBoy 11 (.iaload) 1 12 := ⟨by decide +kernel, rfl⟩
theorem dX7_isBoy_12 : Ins mX7_isBoy 12 (.if_icmp .ge 13) 3 15 := ⟨by decide +kernel, rfl⟩
theorem dX7_isBoy_15 : Ins mX7_isBoy 15 (.iload_n 1) 1 16 := ⟨by decide +kernel, rfl⟩
theorem dX7_isBoy_16 : Ins mX7_isBoy 16 (.bipush 6) 2 18 := ⟨by decide +kernel, rfl⟩
theorem dX7_isBoy_18 : Ins mX7_isBoy 18 (.if_icmp .ge 7) 3 21 := ⟨by decide +kernel, rfl⟩
theorem dX7_isBoy_21 : Ins mX7_isBoy 21 (.iconst 1) 1 22 := ⟨by decide +kernel, rfl⟩
theorem dX7_isBoy_22 : Ins mX7_isBoy 22 (.goto 4) 3 25 := ⟨by decide +kernel, rfl⟩
theorem dX7_isBoy_25 : Ins mX7_isBoy 25 (.iconst 0) 1 26 := ⟨by decide +kernel, rfl⟩
theorem dX7_isBoy_26 : Ins mX7_isBoy 26 (.ireturn) 1 27 := ⟨by decide +kernel, rfl⟩
theorem dX7_isSet_0 : Ins mX7_isSet 0 (.iload_n 1) 1 1 := ⟨by decide +kernel, rfl⟩
theorem dX7_isSet_1 : Ins mX7_isSet 1 (.ifCond .lt 20) 3 4 := ⟨by decide +kernel, rfl⟩
theorem dX7_isSet_4 : Ins mX7_isSet 4 (.iload_n 1) 1 5 := ⟨by decide +kernel, rfl⟩
theorem dX7_isSet_5 : Ins mX7_isSet 5 (.iconst 1) 1 6 := ⟨by decide +kernel, rfl⟩
theorem dX7_isSet_6 : Ins mX7_isSet 6 (.aload_n 0) 1 7 := ⟨by decide +kernel, rfl⟩
theorem dX7_isSet_7 : GgR mX7_isSet 7 10 6 0 := ⟨0, rfl, ⟨11, _, by decide +kernel, rfl, rfl, by decide, tb_1 (List.mem_of_getElem? (i := 41) (by decide +kernel)) rfl⟩, by decide, rfl⟩
theorem dX7_isSet_10 : Ins mX7_isSet 10 (.bipush 32) 2 12 := ⟨by decide +kernel, rfl⟩
theorem dX7_isSet_12 : Ins mX7_isSet 12 (.iaload) 1 13 := ⟨by decide +kernel, rfl⟩
theorem dX7_isSet_13 : Ins mX7_isSet 13 (.ishl) 1 14 := ⟨by decide +kernel, rfl⟩
theorem dX7_isSet_14 : Ins mX7_isSet 14 (.if_icmp .ge 7) 3 17 := ⟨by decide +kernel, rfl⟩
theorem dX7_isSet_17 : Ins mX7_isSet 17 (.iconst 1) 1 18 := ⟨by decide +kernel, rfl⟩
theorem dX7_isSet_18 : Ins mX7_isSet 18 (.goto 4) 3 21 := ⟨by decide +kernel, rfl⟩
theorem dX7_isSet_21 : Ins mX7_isSet 21 (.iconst 0) 1 22 := ⟨by decide +kernel, rfl⟩
theorem dX7_isSet_22 : Ins mX7_isSet 22 (.ireturn) 1 23 := ⟨by decide +kernel, rfl⟩
theorem dX7_beatOf_0 : Ins mX7_beatOf 0 (.aload_n 0) 1 1 := ⟨by decide +kernel, rfl⟩
theorem dX7_beatOf_1 : Ins mX7_beatOf 1 (.iload_n 1) 1 2 := ⟨by decide +kernel, rfl⟩
theorem dX7_beatOf_2 : CalV mX7_beatOf 2 5 mX7_isHorse := ⟨42, by decide +kernel, rfl, tb_3 (List.mem_of_getElem? (i := 111) (by decide +kernel)) rfl, meX7_isHorse⟩
theorem dX7_beatOf_5 : Ins mX7_beatOf 5 (.ifCond .eq 12) 3 8 := ⟨by decide +kernel, rfl⟩
theorem dX7_beatOf_8 : Ins mX7_beatOf 8 (.aload_n 0) 1 9 := ⟨by decide +kernel, rfl⟩
theorem dX7_beatOf_9 : GgR mX7_beatOf 9 12 6 1 := ⟨1, rfl, ⟨15, _, by decide +kernel, rfl, rfl, by decide, tb_1 (List.mem_of_getElem? (i := 43) (by decide +kernel)) rfl⟩, by decide, rfl⟩
theorem dX7_beatOf_12 : Ins mX7_beatOf 12 (.iload_n 1) 1 13 := ⟨by decide +kernel, rfl⟩
theorem dX7_beatOf_13 : Ins mX7_beatOf 13 (.iaload) 1 14 := ⟨by decide +kernel, rfl⟩
theorem dX7_beatOf_14 : Ins mX7_beatOf 14 (.goto 4) 3 17 := ⟨by decide +kernel, rfl⟩
theorem dX7_beatOf_17 : Ins mX7_beatOf 17 (.iconst 0) 1 18 := ⟨by decide +kernel, rfl⟩
theorem dX7_beatOf_18 : Ins mX7_beatOf 18 (.ireturn) 1 19 := ⟨by decide +kernel, rfl⟩
theorem dX7_shiftOf_0 : Ins mX7_shiftOf 0 (.aload_n 0) 1 1 := ⟨by decide +kernel, rfl⟩
theorem dX7_shiftOf_1 : Ins mX7_shiftOf 1 (.iload_n 1) 1 2 := ⟨by decide +kernel, rfl⟩
theorem dX7_shiftOf_2 : CalV mX7_shiftOf 2 5 mX7_isHorse := ⟨42, by decide +kernel, rfl, tb_3 (List.mem_of_getElem? (i := 111) (by decide +kernel)) rfl, meX7_isHorse⟩
theorem dX7_shiftOf_5 : Ins mX7_shiftOf 5 (.ifCond .eq 14) 3 8 := ⟨by decide +kernel, rfl⟩
theorem dX7_shiftOf_8 : Ins mX7_shiftOf 8 (.aload_n 0) 1 9 := ⟨by decide +kernel, rfl⟩
theorem dX7_shiftOf_9 : GgR mX7_shiftOf 9 12 6 0 := ⟨0, rfl, ⟨11, _, by decide +kernel, rfl, rfl, by decide, tb_1 (List.mem_of_getElem? (i := 41) (by decide +kernel)) rfl⟩, by decide, rfl⟩
theorem dX7_shiftOf_12 : Ins mX7_shiftOf 12 (.iconst 0) 1 13 := ⟨by decide +kernel, rfl⟩
theorem dX7_shiftOf_13 : Ins mX7_shiftOf 13 (.iload_n 1) 1 14 := ⟨by decide +kernel, rfl⟩
theorem dX7_shiftOf_14 : Ins mX7_shiftOf 14 (.iadd) 1 15 := ⟨by decide +kernel, rfl⟩
theorem dX7_shiftOf_15 : Ins mX7_shiftOf 15 (.iaload) 1 16 := ⟨by decide +kernel, rfl⟩
theorem dX7_shiftOf_16 : Ins mX7_shiftOf 16 (.goto 4) 3 19 := ⟨by decide +kernel, rfl⟩
theorem dX7_shiftOf_19 : Ins mX7_shiftOf 19 (.iconst 0) 1 20 := ⟨by decide +kernel, rfl⟩
theorem dX7_shiftOf_20 : Ins mX7_shiftOf 20 (.ireturn) 1 21 := ⟨by decide +kernel, rfl⟩
theorem dX7_wearOf_0 : Ins mX7_wearOf 0 (.aload_n 0) 1 1 := ⟨by decide +kernel, rfl⟩
theorem dX7_wearOf_1 : Ins mX7_wearOf 1 (.iload_n 1) 1 2 := ⟨by decide +kernel, rfl⟩
theorem dX7_wearOf_2 : CalV mX7_wearOf 2 5 mX7_isHorse := ⟨42, by decide +kernel, rfl, tb_3 (List.mem_of_getElem? (i := 111) (by decide +kernel)) rfl, meX7_isHorse⟩
theorem dX7_wearOf_5 : Ins mX7_wearOf 5 (.ifCond .eq 15) 3 8 := ⟨by decide +kernel, rfl⟩
theorem dX7_wearOf_8 : Ins mX7_wearOf 8 (.aload_n 0) 1 9 := ⟨by decide +kernel, rfl⟩
theorem dX7_wearOf_9 : GgR mX7_wearOf 9 12 6 0 := ⟨0, rfl, ⟨11, _, by decide +kernel, rfl, rfl, by decide, tb_1 (List.mem_of_getElem? (i := 41) (by decide +kernel)) rfl⟩, by decide, rfl⟩
theorem dX7_wearOf_12 : Ins mX7_wearOf 12 (.bipush 8) 2 14 := ⟨by decide +kernel, rfl⟩
theorem dX7_wearOf_14 : Ins mX7_wearOf 14 (.iload_n 1) 1 15 := ⟨by decide +kernel, rfl⟩
theorem dX7_wearOf_15 : Ins mX7_wearOf 15 (.iadd) 1 16 := ⟨by decide +kernel, rfl⟩
theorem dX7_wearOf_16 : Ins mX7_wearOf 16 (.iaload) 1 17 := ⟨by decide +kernel, rfl⟩
theorem dX7_wearOf_17 : Ins mX7_wearOf 17 (.goto 4) 3 20 := ⟨by decide +kernel, rfl⟩
theorem dX7_wearOf_20 : Ins mX7_wearOf 20 (.iconst 0) 1 21 := ⟨by decide +kernel, rfl⟩
theorem dX7_wearOf_21 : Ins mX7_wearOf 21 (.ireturn) 1 22 := ⟨by decide +kernel, rfl⟩
theorem dX7_sizeOf_0 : Ins mX7_sizeOf 0 (.aload_n 0) 1 1 := ⟨by decide +kernel, rfl⟩
theorem dX7_sizeOf_1 : Ins mX7_sizeOf 1 (.iload_n 1) 1 2 := ⟨by decide +kernel, rfl⟩
theorem dX7_sizeOf_2 : CalV mX7_sizeOf 2 5 mX7_isBoy := ⟨46, by decide +kernel, rfl, tb_3 (List.mem_of_getElem? (i := 107) (by decide +kernel)) rfl, meX7_isBoy⟩
theorem dX7_sizeOf_5 : Ins mX7_sizeOf 5 (.ifCond .eq 12) 3 8 := ⟨by decide +kernel, rfl⟩
theorem dX7_sizeOf_8 : Ins mX7_sizeOf 8 (.aload_n 0) 1 9 := ⟨by decide +kernel, rfl⟩
theorem dX7_sizeOf_9 : GgR mX7_sizeOf 9 12 6 2 := ⟨2, rfl, ⟨18, _, by decide +kernel, rfl, rfl, by decide, tb_1 (List.mem_of_getElem? (i := 44) (by decide +kernel)) rfl⟩, by decide, rfl⟩
theorem dX7_sizeOf_12 : Ins mX7_sizeOf 12 (.iload_n 1) 1 13 := ⟨by decide +kernel, rfl⟩
theorem dX7_sizeOf_13 : Ins mX7_sizeOf 13 (.iaload) 1 14 := ⟨by decide +kernel, rfl⟩
theorem dX7_sizeOf_14 : Ins mX7_sizeOf 14 (.goto 4) 3 17 := ⟨by decide +kernel, rfl⟩
theorem dX7_sizeOf_17 : Ins mX7_sizeOf 17 (.iconst 0) 1 18 := ⟨by decide +kernel, rfl⟩
theorem dX7_sizeOf_18 : Ins mX7_sizeOf 18 (.ireturn) 1 19 := ⟨by decide +kernel, rfl⟩
theorem dX7_tiredOf_0 : Ins mX7_tiredOf 0 (.aload_n 0) 1 1 := ⟨by decide +kernel, rfl⟩
theorem dX7_tiredOf_1 : Ins mX7_tiredOf 1 (.iload_n 1) 1 2 := ⟨by decide +kernel, rfl⟩
theorem dX7_tiredOf_2 : CalV mX7_tiredOf 2 5 mX7_isBoy := ⟨46, by decide +kernel, rfl, tb_3 (List.mem_of_getElem? (i := 107) (by decide +kernel)) rfl, meX7_isBoy⟩
theorem dX7_tiredOf_5 : Ins mX7_tiredOf 5 (.ifCond .eq 15) 3 8 := ⟨by decide +kernel, rfl⟩
theorem dX7_tiredOf_8 : Ins mX7_tiredOf 8 (.aload_n 0) 1 9 := ⟨by decide +kernel, rfl⟩
theorem dX7_tiredOf_9 : GgR mX7_tiredOf 9 12 6 0 := ⟨0, rfl, ⟨11, _, by decide +kernel, rfl, rfl, by decide, tb_1 (List.mem_of_getElem? (i := 41) (by decide +kernel)) rfl⟩, by decide, rfl⟩
theorem dX7_tiredOf_12 : Ins mX7_tiredOf 12 (.bipush 16) 2 14 := ⟨by decide +kernel, rfl⟩
theorem dX7_tiredOf_14 : Ins mX7_tiredOf 14 (.iload_n 1) 1 15 := ⟨by decide +kernel, rfl⟩
theorem dX7_tiredOf_15 : Ins mX7_tiredOf 15 (.iadd) 1 16 := ⟨by decide +kernel, rfl⟩
theorem dX7_tiredOf_16 : Ins mX7_tiredOf 16 (.iaload) 1 17 := ⟨by decide +kernel, rfl⟩
theorem dX7_tiredOf_17 : Ins mX7_tiredOf 17 (.goto 4) 3 20 := ⟨by decide +kernel, rfl⟩
theorem dX7_tiredOf_20 : Ins mX7_tiredOf 20 (.iconst 0) 1 21 := ⟨by decide +kernel, rfl⟩
theorem dX7_tiredOf_21 : Ins mX7_tiredOf 21 (.ireturn) 1 22 := ⟨by decide +kernel, rfl⟩
theorem dX7_seatOf_0 : Ins mX7_seatOf 0 (.aload_n 0) 1 1 := ⟨by decide +kernel, rfl⟩
theorem dX7_seatOf_1 : Ins mX7_seatOf 1 (.iload_n 1) 1 2 := ⟨by decide +kernel, rfl⟩
theorem dX7_seatOf_2 : CalV mX7_seatOf 2 5 mX7_isBoy := ⟨46, by decide +kernel, rfl, tb_3 (List.mem_of_getElem? (i := 107) (by decide +kernel)) rfl, meX7_isBoy⟩
theorem dX7_seatOf_5 : Ins mX7_seatOf 5 (.ifCond .eq 15) 3 8 := ⟨by decide +kernel, rfl⟩
theorem dX7_seatOf_8 : Ins mX7_seatOf 8 (.aload_n 0) 1 9 := ⟨by decide +kernel, rfl⟩
theorem dX7_seatOf_9 : GgR mX7_seatOf 9 12 6 0 := ⟨0, rfl, ⟨11, _, by decide +kernel, rfl, rfl, by decide, tb_1 (List.mem_of_getElem? (i := 41) (by decide +kernel)) rfl⟩, by decide, rfl⟩
theorem dX7_seatOf_12 : Ins mX7_seatOf 12 (.bipush 22) 2 14 := ⟨by decide +kernel, rfl⟩
theorem dX7_seatOf_14 : Ins mX7_seatOf 14 (.iload_n 1) 1 15 := ⟨by decide +kernel, rfl⟩
theorem dX7_seatOf_15 : Ins mX7_seatOf 15 (.iadd) 1 16 := ⟨by decide +kernel, rfl⟩
theorem dX7_seatOf_16 : Ins mX7_seatOf 16 (.iaload) 1 17 := ⟨by decide +kernel, rfl⟩
theorem dX7_seatOf_17 : Ins mX7_seatOf 17 (.goto 4) 3 20 := ⟨by decide +kernel, rfl⟩
theorem dX7_seatOf_20 : Ins mX7_seatOf 20 (.iconst (-1)) 1 21 := ⟨by decide +kernel, rfl⟩
theorem dX7_seatOf_21 : Ins mX7_seatOf 21 (.ireturn) 1 22 := ⟨by decide +kernel, rfl⟩
theorem dX7_riderOf_0 : Ins mX7_riderOf 0 (.iconst 0) 1 1 := ⟨by decide +kernel, rfl⟩
theorem dX7_riderOf_1 : Ins mX7_riderOf 1 (.istore_n 2) 1 2 := ⟨by decide +kernel, rfl⟩
theorem dX7_riderOf_2 : Ins mX7_riderOf 2 (.iload_n 2) 1 3 := ⟨by decide +kernel, rfl⟩
theorem dX7_riderOf_3 : Ins mX7_riderOf 3 (.bipush 6) 2 5 := ⟨by decide +kernel, rfl⟩
theorem dX7_riderOf_5 : Ins mX7_riderOf 5 (.if_icmp .ge 28) 3 8 := ⟨by decide +kernel, rfl⟩
theorem dX7_riderOf_8 : Ins mX7_riderOf 8 (.iload_n 1) 1 9 := ⟨by decide +kernel, rfl⟩
theorem dX7_riderOf_9 : Ins mX7_riderOf 9 (.ifCond .lt 18) 3 12 := ⟨by decide +kernel, rfl⟩
theorem dX7_riderOf_12 : Ins mX7_riderOf 12 (.aload_n 0) 1 13 := ⟨by decide +kernel, rfl⟩
theorem dX7_riderOf_13 : GgR mX7_riderOf 13 16 6 0 := ⟨0, rfl, ⟨11, _, by decide +kernel, rfl, rfl, by decide, tb_1 (List.mem_of_getElem? (i := 41) (by decide +kernel)) rfl⟩, by decide, rfl⟩
theorem dX7_riderOf_16 : Ins mX7_riderOf 16 (.bipush 22) 2 18 := ⟨by decide +kernel, rfl⟩
theorem dX7_riderOf_18 : Ins mX7_riderOf 18 (.iload_n 2) 1 19 := ⟨by decide +kernel, rfl⟩
theorem dX7_riderOf_19 : Ins mX7_riderOf 19 (.iadd) 1 20 := ⟨by decide +kernel, rfl⟩
theorem dX7_riderOf_20 : Ins mX7_riderOf 20 (.iaload) 1 21 := ⟨by decide +kernel, rfl⟩
theorem dX7_riderOf_21 : Ins mX7_riderOf 21 (.iload_n 1) 1 22 := ⟨by decide +kernel, rfl⟩
theorem dX7_riderOf_22 : Ins mX7_riderOf 22 (.if_icmp .ne 5) 3 25 := ⟨by decide +kernel, rfl⟩
theorem dX7_riderOf_25 : Ins mX7_riderOf 25 (.iload_n 2) 1 26 := ⟨by decide +kernel, rfl⟩
theorem dX7_riderOf_26 : Ins mX7_riderOf 26 (.ireturn) 1 27 := ⟨by decide +kernel, rfl⟩
theorem dX7_riderOf_27 : Ins mX7_riderOf 27 (.iinc 2 1) 3 30 := ⟨by decide +kernel, rfl⟩
theorem dX7_riderOf_30 : Ins mX7_riderOf 30 (.goto (-28)) 3 33 := ⟨by decide +kernel, rfl⟩
theorem dX7_riderOf_33 : Ins mX7_riderOf 33 (.iconst (-1)) 1 34 := ⟨by decide +kernel, rfl⟩
theorem dX7_riderOf_34 : Ins mX7_riderOf 34 (.ireturn) 1 35 := ⟨by decide +kernel, rfl⟩
theorem dX7_slideAt_0 : Ins mX7_slideAt 0 (.iload_n 1) 1 1 := ⟨by decide +kernel, rfl⟩
theorem dX7_slideAt_1 : Ins mX7_slideAt 1 (.iconst 0) 1 2 := ⟨by decide +kernel, rfl⟩
theorem dX7_slideAt_2 : Ins mX7_slideAt 2 (.aload_n 0) 1 3 := ⟨by decide +kernel, rfl⟩
theorem dX7_slideAt_3 : CalV mX7_slideAt 3 6 mX7_slides := ⟨49, by decide +kernel, rfl, tb_4 (List.mem_of_getElem? (i := 64) (by decide +kernel)) rfl, meX7_slides⟩
theorem dX7_slideAt_6 : Ins mX7_slideAt 6 (.iconst 1) 1 7 := ⟨by decide +kernel, rfl⟩
theorem dX7_slideAt_7 : Ins mX7_slideAt 7 (.isub) 1 8 := ⟨by decide +kernel, rfl⟩
theorem dX7_slideAt_8 : CalS mX7_slideAt 8 11 mX10_isWithin := ⟨35, by decide +kernel, rfl, Or.inr ⟨"RockingGuard", List.mem_of_getElem? (i := 9) (by decide +kernel)⟩, meX10_isWithin⟩
theorem dX7_slideAt_11 : Ins mX7_slideAt 11 (.ifCond .eq 18) 3 14 := ⟨by decide +kernel, rfl⟩
theorem dX7_slideAt_14 : Ins mX7_slideAt 14 (.iload_n 1) 1 15 := ⟨by decide +kernel, rfl⟩
theorem dX7_slideAt_15 : Ins mX7_slideAt 15 (.bipush 30) 2 17 := ⟨by decide +kernel, rfl⟩
theorem dX7_slideAt_17 : Ins mX7_slideAt 17 (.if_icmp .ge 12) 3 20 := ⟨by decide +kernel, rfl⟩
theorem dX7_slideAt_20 : Ins mX7_slideAt 20 (.iload_n 2) 1 21 := ⟨by decide +kernel, rfl⟩
theorem dX7_slideAt_21 : Ins mX7_slideAt 21 (.iconst 0) 1 22 := ⟨by decide +kernel, rfl⟩
theorem dX7_slideAt_22 : Ins mX7_slideAt 22 (.iconst 2) 1 23 := ⟨by decide +kernel, rfl⟩
theorem dX7_slideAt_23 : CalS mX7_slideAt 23 26 mX10_isWithin := ⟨35, by decide +kernel, rfl, Or.inr ⟨"RockingGuard", List.mem_of_getElem? (i := 9) (by decide +kernel)⟩, meX10_isWithin⟩
theorem dX7_slideAt_26 : Ins mX7_slideAt 26 (.ifCond .ne 6) 3 29 := ⟨by decide +kernel, rfl⟩
theorem dX7_slideAt_29 : Ins mX7_slideAt 29 (.bipush (-2)) 2 31 := ⟨by decide +kernel, rfl⟩
theorem dX7_slideAt_31 : Ins mX7_slideAt 31 (.ireturn) 1 32 := ⟨by decide +kernel, rfl⟩
theorem dX7_slideAt_32 : Ins mX7_slideAt 32 (.aload_n 0) 1 33 := ⟨by decide +kernel, rfl⟩
theorem dX7_slideAt_33 : GgR mX7_slideAt 33 36 6 0 := ⟨0, rfl, ⟨11, _, by decide +kernel, rfl, rfl, by decide, tb_1 (List.mem_of_getElem? (i := 41) (by decide +kernel)) rfl⟩, by decide, rfl⟩
theorem dX7_slideAt_36 : Ins mX7_slideAt 36 (.bipush 35) 2 38 := ⟨by decide +kernel, rfl⟩
theorem dX7_slideAt_38 : Ins mX7_slideAt 38 (.iload_n 1) 1 39 := ⟨by decide +kernel, rfl⟩
theorem dX7_slideAt_39 : Ins mX7_slideAt 39 (.iconst 3) 1 40 := ⟨by decide +kernel, rfl⟩
theorem dX7_slideAt_40 : Ins mX7_slideAt 40 (.imul) 1 41 := ⟨by decide +kernel, rfl⟩
theorem dX7_slideAt_41 : Ins mX7_slideAt 41 (.iadd) 1 42 := ⟨by decide +kernel, rfl⟩
theorem dX7_slideAt_42 : Ins mX7_slideAt 42 (.iload_n 2) 1 43 := ⟨by decide +kernel, rfl⟩
theorem dX7_slideAt_43 : Ins mX7_slideAt 43 (.iadd) 1 44 := ⟨by decide +kernel, rfl⟩
theorem dX7_slideAt_44 : Ins mX7_slideAt 44 (.iaload) 1 45 := ⟨by decide +kernel, rfl⟩
theorem dX7_slideAt_45 : Ins mX7_slideAt 45 (.ireturn) 1 46 := ⟨by decide +kernel, rfl⟩
theorem dX7_wearOfSet_0 : Ins mX7_wearOfSet 0 (.iconst 0) 1 1 := ⟨by decide +kernel, rfl⟩
theorem dX7_wearOfSet_1 : Ins mX7_wearOfSet 1 (.istore_n 2) 1 2 := ⟨by decide +kernel, rfl⟩
theorem dX7_wearOfSet_2 : Ins mX7_wearOfSet 2 (.iconst 0) 1 3 := ⟨by decide +kernel, rfl⟩
theorem dX7_wearOfSet_3 : Ins mX7_wearOfSet 3 (.istore_n 3) 1 4 := ⟨by decide +kernel, rfl⟩
theorem dX7_wearOfSet_4 : Ins mX7_wearOfSet 4 (.iload_n 3) 1 5 := ⟨by decide +kernel, rfl⟩
theorem dX7_wearOfSet_5 : Ins mX7_wearOfSet 5 (.aload_n 0) 1 6 := ⟨by decide +kernel, rfl⟩
theorem dX7_wearOfSet_6 : CalV mX7_wearOfSet 6 9 mX7_horses := ⟨31, by decide +kernel, rfl, tb_2 (List.mem_of_getElem? (i := 66) (by decide +kernel)) rfl, meX7_horses⟩
theorem dX7_wearOfSet_9 : Ins mX7_wearOfSet 9 (.if_icmp .ge 23) 3 12 := ⟨by decide +kernel, rfl⟩
theorem dX7_wearOfSet_12 : Ins mX7_wearOfSet 12 (.iload_n 2) 1 13 := ⟨by decide +kernel, rfl⟩
theorem dX7_wearOfSet_13 : Ins mX7_wearOfSet 13 (.iload_n 1) 1 14 := ⟨by decide +kernel, rfl⟩
theorem dX7_wearOfSet_14 : Ins mX7_wearOfSet 14 (.iload_n 3) 1 15 := ⟨by decide +kernel, rfl⟩
theorem dX7_wearOfSet_15 : Ins mX7_wearOfSet 15 (.ishr) 1 16 := ⟨by decide +kernel, rfl⟩
theorem dX7_wearOfSet_16 : Ins mX7_wearOfSet 16 (.iconst 1) 1 17 := ⟨by decide +kernel, rfl⟩
theorem dX7_wearOfSet_17 : Ins mX7_wearOfSet 17 (.iand) 1 18 := ⟨by decide +kernel, rfl⟩
theorem dX7_wearOfSet_18 : Ins mX7_wearOfSet 18 (.aload_n 0) 1 19 := ⟨by decide +kernel, rfl⟩
theorem dX7_wearOfSet_19 : Ins mX7_wearOfSet 19 (.iload_n 3) 1 20 := ⟨by decide +kernel, rfl⟩
theorem dX7_wearOfSet_20 : CalV mX7_wearOfSet 20 23 mX7_wearOf := ⟨52, by decide +kernel, rfl, tb_3 (List.mem_of_getElem? (i := 223) (by decide +kernel)) rfl, meX7_wearOf⟩
theorem dX7_wearOfSet_23 : Ins mX7_wearOfSet 23 (.imul) 1 24 := ⟨by decide +kernel, rfl⟩
theorem dX7_wearOfSet_24 : Ins mX7_wearOfSet 24 (.iadd) 1 25 := ⟨by decide +kernel, rfl⟩
theorem dX7_wearOfSet_25 : Ins mX7_wearOfSet 25 (.istore_n 2) 1 26 := ⟨by decide +kernel, rfl⟩
theorem dX7_wearOfSet_26 : Ins mX7_wearOfSet 26 (.iinc 3 1) 3 29 := ⟨by decide +kernel, rfl⟩
theorem dX7_wearOfSet_29 : Ins mX7_wearOfSet 29 (.goto (-25)) 3 32 := ⟨by decide +kernel, rfl⟩
theorem dX7_wearOfSet_32 : Ins mX7_wearOfSet 32 (.iload_n 2) 1 33 := ⟨by decide +kernel, rfl⟩
theorem dX7_wearOfSet_33 : Ins mX7_wearOfSet 33 (.ireturn) 1 34 := ⟨by decide +kernel, rfl⟩
theorem dX7_dueAt_0 : Ins mX7_dueAt 0 (.iconst 0) 1 1 := ⟨by decide +kernel, rfl⟩
theorem dX7_dueAt_1 : Ins mX7_dueAt 1 (.istore_n 2) 1 2 := ⟨by decide +kernel, rfl⟩
theorem dX7_dueAt_2 : Ins mX7_dueAt 2 (.iconst 0) 1 3 := ⟨by decide +kernel, rfl⟩
theorem dX7_dueAt_3 : Ins mX7_dueAt 3 (.istore_n 3) 1 4 := ⟨by decide +kernel, rfl⟩
theorem dX7_dueAt_4 : Ins mX7_dueAt 4 (.iload_n 3) 1 5 := ⟨by decide +kernel, rfl⟩
theorem dX7_dueAt_5 : Ins mX7_dueAt 5 (.aload_n 0) 1 6 := ⟨by decide +kernel, rfl⟩
theorem dX7_dueAt_6 : CalV mX7_dueAt 6 9 mX7_horses := ⟨31, by decide +kernel, rfl, tb_2 (List.mem_of_getElem? (i := 66) (by decide +kernel)) rfl, meX7_horses⟩
theorem dX7_dueAt_9 : Ins mX7_dueAt 9 (.if_icmp .ge 40) 3 12 := ⟨by decide +kernel, rfl⟩
theorem dX7_dueAt_12 : Ins mX7_dueAt 12 (.aload_n 0) 1 13 := ⟨by decide +kernel, rfl⟩
theorem dX7_dueAt_13 : Ins mX7_dueAt 13 (.iload_n 3) 1 14 := ⟨by decide +kernel, rfl⟩
theorem dX7_dueAt_14 : CalV mX7_dueAt 14 17 mX7_beatOf := ⟨56, by decide +kernel, rfl, tb_3 (List.mem_of_getElem? (i := 173) (by decide +kernel)) rfl, meX7_beatOf⟩
theorem dX7_dueAt_17 : Ins mX7_dueAt 17 (.istore 4) 2 19 := ⟨by decide +kernel, rfl⟩
theorem dX7_dueAt_19 : Ins mX7_dueAt 19 (.iload 4) 2 21 := ⟨by decide +kernel, rfl⟩
theorem dX7_dueAt_21 : Ins mX7_dueAt 21 (.ifCond .le 22) 3 24 := ⟨by decide +kernel, rfl⟩
theorem dX7_dueAt_24 : Ins mX7_dueAt 24 (.iload_n 1) 1 25 := ⟨by decide +kernel, rfl⟩
theorem dX7_dueAt_25 : Ins mX7_dueAt 25 (.aload_n 0) 1 26 := ⟨by decide +kernel, rfl⟩
theorem dX7_dueAt_26 : Ins mX7_dueAt 26 (.iload_n 3) 1 27 := ⟨by decide +kernel, rfl⟩
theorem dX7_dueAt_27 : CalV mX7_dueAt 27 30 mX7_shiftOf := ⟨59, by decide +kernel, rfl, tb_3 (List.mem_of_getElem? (i := 177) (by decide +kernel)) rfl, meX7_shiftOf⟩
theorem dX7_dueAt_30 : Ins mX7_dueAt 30 (.isub) 1 31 := ⟨by decide +kernel, rfl⟩
theorem dX7_dueAt_31 : Ins mX7_dueAt 31 (.iload 4) 2 33 := ⟨by decide +kernel, rfl⟩
theorem dX7_dueAt_33 : Ins mX7_dueAt 33 (.irem) 1 34 := ⟨by decide +kernel, rfl⟩
theorem dX7_dueAt_34 : Ins mX7_dueAt 34 (.ifCond .ne 9) 3 37 := ⟨by decide +kernel, rfl⟩
theorem dX7_dueAt_37 : Ins mX7_dueAt 37 (.iload_n 2) 1 38 := ⟨by decide +kernel, rfl⟩
theorem dX7_dueAt_38 : Ins mX7_dueAt 38 (.iconst 1) 1 39 := ⟨by decide +kernel, rfl⟩
theorem dX7_dueAt_39 : Ins mX7_dueAt 39 (.iload_n 3) 1 40 := ⟨by decide +kernel, rfl⟩
theorem dX7_dueAt_40 : Ins mX7_dueAt 40 (.ishl) 1 41 := ⟨by decide +kernel, rfl⟩
theorem dX7_dueAt_41 : Ins mX7_dueAt 41 (.ior) 1 42 := ⟨by decide +kernel, rfl⟩
theorem dX7_dueAt_42 : Ins mX7_dueAt 42 (.istore_n 2) 1 43 := ⟨by decide +kernel, rfl⟩
theorem dX7_dueAt_43 : Ins mX7_dueAt 43 (.iinc 3 1) 3 46 := ⟨by decide +kernel, rfl⟩
theorem dX7_dueAt_46 : Ins mX7_dueAt 46 (.goto (-42)) 3 49 := ⟨by decide +kernel, rfl⟩
theorem dX7_dueAt_49 : Ins mX7_dueAt 49 (.iload_n 2) 1 50 := ⟨by decide +kernel, rfl⟩
theorem dX7_dueAt_50 : Ins mX7_dueAt 50 (.ireturn) 1 51 := ⟨by decide +kernel, rfl⟩
theorem dX7_mannedSet_0 : Ins mX7_mannedSet 0 (.iconst 0) 1 1 := ⟨by decide +kernel, rfl⟩
theorem dX7_mannedSet_1 : Ins mX7_mannedSet 1 (.istore_n 1) 1 2 := ⟨by decide +kernel, rfl⟩
theorem dX7_mannedSet_2 : Ins mX7_mannedSet 2 (.iconst 0) 1 3 := ⟨by decide +kernel, rfl⟩
theorem dX7_mannedSet_3 : Ins mX7_mannedSet 3 (.istore_n 2) 1 4 := ⟨by decide +kernel, rfl⟩
theorem dX7_mannedSet_4 : Ins mX7_mannedSet 4 (.iload_n 2) 1 5 := ⟨by decide +kernel, rfl⟩
theorem dX7_mannedSet_5 : Ins mX7_mannedSet 5 (.aload_n 0) 1 6 := ⟨by decide +kernel, rfl⟩
theorem dX7_mannedSet_6 : CalV mX7_mannedSet 6 9 mX7_boys := ⟨39, by decide +kernel, rfl, tb_2 (List.mem_of_getElem? (i := 81) (by decide +kernel)) rfl, meX7_boys⟩
theorem dX7_mannedSet_9 : Ins mX7_mannedSet 9 (.if_icmp .ge 28) 3 12 := ⟨by decide +kernel, rfl⟩
theorem dX7_mannedSet_12 : Ins mX7_mannedSet 12 (.aload_n 0) 1 13 := ⟨by decide +kernel, rfl⟩
theorem dX7_mannedSet_13 : Ins mX7_mannedSet 13 (.iload_n 2) 1 14 := ⟨by decide +kernel, rfl⟩
theorem dX7_mannedSet_14 : CalV mX7_mannedSet 14 17 mX7_seatOf := ⟨62, by decide +kernel, rfl, tb_3 (List.mem_of_getElem? (i := 115) (by decide +kernel)) rfl, meX7_seatOf⟩
theorem dX7_mannedSet_17 : Ins mX7_mannedSet 17 (.iconst (-1)) 1 18 := ⟨by decide +kernel, rfl⟩
theorem dX7_mannedSet_18 : Ins mX7_mannedSet 18 (.if_icmp .eq 13) 3 21 := ⟨by decide +kernel, rfl⟩
theorem dX7_mannedSet_21 : Ins mX7_mannedSet 21 (.iload_n 1) 1 22 := ⟨by decide +kernel, rfl⟩
theorem dX7_mannedSet_22 : Ins mX7_mannedSet 22 (.iconst 1) 1 23 := ⟨by decide +kernel, rfl⟩
theorem dX7_mannedSet_23 : Ins mX7_mannedSet 23 (.aload_n 0) 1 24 := ⟨by decide +kernel, rfl⟩
theorem dX7_mannedSet_24 : Ins mX7_mannedSet 24 (.iload_n 2) 1 25 := ⟨by decide +kernel, rfl⟩
theorem dX7_mannedSet_25 : CalV mX7_mannedSet 25 28 mX7_seatOf := ⟨62, by decide +kernel, rfl, tb_3 (List.mem_of_getElem? (i := 115) (by decide +kernel)) rfl, meX7_seatOf⟩
theorem dX7_mannedSet_28 : Ins mX7_mannedSet 28 (.ishl) 1 29 := ⟨by decide +kernel, rfl⟩
theorem dX7_mannedSet_29 : Ins mX7_mannedSet 29 (.ior) 1 30 := ⟨by decide +kernel, rfl⟩
theorem dX7_mannedSet_30 : Ins mX7_mannedSet 30 (.istore_n 1) 1 31 := ⟨by decide +kernel, rfl⟩
theorem dX7_mannedSet_31 : Ins mX7_mannedSet 31 (.iinc 2 1) 3 34 := ⟨by decide +kernel, rfl⟩
theorem dX7_mannedSet_34 : Ins mX7_mannedSet 34 (.goto (-30)) 3 37 := ⟨by decide +kernel, rfl⟩
theorem dX7_mannedSet_37 : Ins mX7_mannedSet 37 (.iload_n 1) 1 38 := ⟨by decide +kernel, rfl⟩
theorem dX7_mannedSet_38 : Ins mX7_mannedSet 38 (.ireturn) 1 39 := ⟨by decide +kernel, rfl⟩
theorem dX7_canRock_0 : Ins mX7_canRock 0 (.aload_n 0) 1 1 := ⟨by decide +kernel, rfl⟩
theorem dX7_canRock_1 : Ins mX7_canRock 1 (.iload_n 1) 1 2 := ⟨by decide +kernel, rfl⟩
theorem dX7_canRock_2 : CalV mX7_canRock 2 5 mX7_isHorse := ⟨42, by decide +kernel, rfl, tb_3 (List.mem_of_getElem? (i := 111) (by decide +kernel)) rfl, meX7_isHorse⟩
theorem dX7_canRock_5 : Ins mX7_canRock 5 (.ifCond .eq 26) 3 8 := ⟨by decide +kernel, rfl⟩
theorem dX7_canRock_8 : Ins mX7_canRock 8 (.aload_n 0) 1 9 := ⟨by decide +kernel, rfl⟩
theorem dX7_canRock_9 : Ins mX7_canRock 9 (.iload_n 1) 1 10 := ⟨by decide +kernel, rfl⟩
theorem dX7_canRock_10 : CalV mX7_canRock 10 13 mX7_riderOf := ⟨65, by decide +kernel, rfl, tb_3 (List.mem_of_getElem? (i := 123) (by decide +kernel)) rfl, meX7_riderOf⟩
theorem dX7_canRock_13 : Ins mX7_canRock 13 (.iconst (-1)) 1 14 := ⟨by decide +kernel, rfl⟩
theorem dX7_canRock_14 : Ins mX7_canRock 14 (.if_icmp .eq 17) 3 17 := ⟨by decide +kernel, rfl⟩
theorem dX7_canRock_17 : Ins mX7_canRock 17 (.aload_n 0) 1 18 := ⟨by decide +kernel, rfl⟩
theorem dX7_canRock_18 : Ins mX7_canRock 18 (.iload_n 1) 1 19 := ⟨by decide +kernel, rfl⟩
theorem dX7_canRock_19 : CalV mX7_canRock 19 22 mX7_wearOf := ⟨52, by decide +kernel, rfl, tb_3 (List.mem_of_getElem? (i := 223) (by decide +kernel)) rfl, meX7_wearOf⟩
theorem dX7_canRock_22 : Ins mX7_canRock 22 (.bipush 99) 2 24 := ⟨by decide +kernel, rfl⟩
theorem dX7_canRock_24 : Ins mX7_canRock 24 (.if_icmp .ge 7) 3 27 := ⟨by decide +kernel, rfl⟩
theorem dX7_canRock_27 : Ins mX7_canRock 27 (.iconst 1) 1 28 := ⟨by decide +kernel, rfl⟩
theorem dX7_canRock_28 : Ins mX7_canRock 28 (.goto 4) 3 31 := ⟨by decide +kernel, rfl⟩
theorem dX7_canRock_31 : Ins mX7_canRock 31 (.iconst 0) 1 32 := ⟨by decide +kernel, rfl⟩
theorem dX7_canRock_32 : Ins mX7_canRock 32 (.ireturn) 1 33 := ⟨by decide +kernel, rfl⟩
theorem dX7_rockingAt_0 : Ins mX7_rockingAt 0 (.aload_n 0) 1 1 := ⟨by decide +kernel, rfl⟩
theorem dX7_rockingAt_1 : Ins mX7_rockingAt 1 (.iload_n 1) 1 2 := ⟨by decide +kernel, rfl⟩
theorem dX7_rockingAt_2 : CalV mX7_rockingAt 2 5 mX7_dueAt := ⟨68, by decide +kernel, rfl, tb_3 (List.mem_of_getElem? (i := 215) (by decide +kernel)) rfl, meX7_dueAt⟩
theorem dX7_rockingAt_5 : Ins mX7_rockingAt 5 (.aload_n 0) 1 6 := ⟨by decide +kernel, rfl⟩
theorem dX7_rockingAt_6 : CalV mX7_rockingAt 6 9 mX7_mannedSet := ⟨71, by decide +kernel, rfl, tb_3 (List.mem_of_getElem? (i := 219) (by decide +kernel)) rfl, meX7_mannedSet⟩
theorem dX7_rockingAt_9 : Ins mX7_rockingAt 9 (.iand) 1 10 := ⟨by decide +kernel, rfl⟩
theorem dX7_rockingAt_10 : Ins mX7_rockingAt 10 (.istore_n 2) 1 11 := ⟨by decide +kernel, rfl⟩
theorem dX7_rockingAt_11 : Ins mX7_rockingAt 11 (.iconst 0) 1 12 := ⟨by decide +kernel, rfl⟩
theorem dX7_rockingAt_12 : Ins mX7_rockingAt 12 (.istore_n 3) 1 13 := ⟨by decide +kernel, rfl⟩
theorem dX7_rockingAt_13 : Ins mX7_rockingAt 13 (.iload_n 3) 1 14 := ⟨by decide +kernel, rfl⟩
theorem dX7_rockingAt_14 : Ins mX7_rockingAt 14 (.aload_n 0) 1 15 := ⟨by decide +kernel, rfl⟩
theorem dX7_rockingAt_15 : CalV mX7_rockingAt 15 18 mX7_horses := ⟨31, by decide +kernel, rfl, tb_2 (List.mem_of_getElem? (i := 66) (by decide +kernel)) rfl, meX7_horses⟩
theorem dX7_rockingAt_18 : Ins mX7_rockingAt 18 (.if_icmp .ge 27) 3 21 := ⟨by decide +kernel, rfl⟩
theorem dX7_rockingAt_21 : Ins mX7_rockingAt 21 (.aload_n 0) 1 22 := ⟨by decide +kernel, rfl⟩
theorem dX7_rockingAt_22 : Ins mX7_rockingAt 22 (.iload_n 3) 1 23 := ⟨by decide +kernel, rfl⟩
theorem dX7_rockingAt_23 : CalV mX7_rockingAt 23 26 mX7_wearOf := ⟨52, by decide +kernel, rfl, tb_3 (List.mem_of_getElem? (i := 223) (by decide +kernel)) rfl, meX7_wearOf⟩
theorem dX7_rockingAt_26 : Ins mX7_rockingAt 26 (.bipush 99) 2 28 := ⟨by decide +kernel, rfl⟩
theorem dX7_rockingAt_28 : Ins mX7_rockingAt 28 (.if_icmp .lt 11) 3 31 := ⟨by decide +kernel, rfl⟩
theorem dX7_rockingAt_31 : Ins mX7_rockingAt 31 (.iload_n 2) 1 32 := ⟨by decide +kernel, rfl⟩
theorem dX7_rockingAt_32 : Ins mX7_rockingAt 32 (.iconst 1) 1 33 := ⟨by decide +kernel, rfl⟩
theorem dX7_rockingAt_33 : Ins mX7_rockingAt 33 (.iload_n 3) 1 34 := ⟨by decide +kernel, rfl⟩
theorem dX7_rockingAt_34 : Ins mX7_rockingAt 34 (.ishl) 1 35 := ⟨by decide +kernel, rfl⟩
theorem dX7_rockingAt_35 : Ins mX7_rockingAt 35 (.iconst (-1)) 1 36 := ⟨by decide +kernel, rfl⟩
theorem dX7_rockingAt_36 : Ins mX7_rockingAt 36 (.ixor) 1 37 := ⟨by decide +kernel, rfl⟩
theorem dX7_rockingAt_37 : Ins mX7_rockingAt 37 (.iand) 1 38 := ⟨by decide +kernel, rfl⟩
theorem dX7_rockingAt_38 : Ins mX7_rockingAt 38 (.istore_n 2) 1 39 := ⟨by decide +kernel, rfl⟩
theorem dX7_rockingAt_39 : Ins mX7_rockingAt 39 (.iinc 3 1) 3 42 := ⟨by decide +kernel, rfl⟩
theorem dX7_rockingAt_42 : Ins mX7_rockingAt 42 (.goto (-29)) 3 45 := ⟨by decide +kernel, rfl⟩
theorem dX7_rockingAt_45 : Ins mX7_rockingAt 45 (.iload_n 2) 1 46 := ⟨by decide +kernel, rfl⟩
theorem dX7_rockingAt_46 : Ins mX7_rockingAt 46 (.ireturn) 1 47 := ⟨by decide +kernel, rfl⟩
theorem dX7_rocksAt_0 : Ins mX7_rocksAt 0 (.aload_n 0) 1 1 := ⟨by decide +kernel, rfl⟩
theorem dX7_rocksAt_1 : Ins mX7_rocksAt 1 (.iload_n 1) 1 2 := ⟨by decide +kernel, rfl⟩
theorem dX7_rocksAt_2 : CalV mX7_rocksAt 2 5 mX7_isHorse := ⟨42, by decide +kernel, rfl, tb_3 (List.mem_of_getElem? (i := 111) (by decide +kernel)) rfl, meX7_isHorse⟩
theorem dX7_rocksAt_5 : Ins mX7_rocksAt 5 (.ifCond .eq 19) 3 8 := ⟨by decide +kernel, rfl⟩
theorem dX7_rocksAt_8 : Ins mX7_rocksAt 8 (.aload_n 0) 1 9 := ⟨by decide +kernel, rfl⟩
theorem dX7_rocksAt_9 : Ins mX7_rocksAt 9 (.iload_n 2) 1 10 := ⟨by decide +kernel, rfl⟩
theorem dX7_rocksAt_10 : CalV mX7_rocksAt 10 13 mX7_rockingAt := ⟨74, by decide +kernel, rfl, tb_3 (List.mem_of_getElem? (i := 211) (by decide +kernel)) rfl, meX7_rockingAt⟩
theorem dX7_rocksAt_13 : Ins mX7_rocksAt 13 (.iload_n 1) 1 14 := ⟨by decide +kernel, rfl⟩
theorem dX7_rocksAt_14 : Ins mX7_rocksAt 14 (.ishr) 1 15 := ⟨by decide +kernel, rfl⟩
theorem dX7_rocksAt_15 : Ins mX7_rocksAt 15 (.iconst 1) 1 16 := ⟨by decide +kernel, rfl⟩
theorem dX7_rocksAt_16 : Ins mX7_rocksAt 16 (.iand) 1 17 := ⟨by decide +kernel, rfl⟩
theorem dX7_rocksAt_17 : Ins mX7_rocksAt 17 (.ifCond .eq 7) 3 20 := ⟨by decide +kernel, rfl⟩
theorem dX7_rocksAt_20 : Ins mX7_rocksAt 20 (.iconst 1) 1 21 := ⟨by decide +kernel, rfl⟩
theorem dX7_rocksAt_21 : Ins mX7_rocksAt 21 (.goto 4) 3 24 := ⟨by decide +kernel, rfl⟩
theorem dX7_rocksAt_24 : Ins mX7_rocksAt 24 (.iconst 0) 1 25 := ⟨by decide +kernel, rfl⟩
theorem dX7_rocksAt_25 : Ins mX7_rocksAt 25 (.ireturn) 1 26 := ⟨by decide +kernel, rfl⟩
theorem dX7_canMount_0 : Ins mX7_canMount 0 (.aload_n 0) 1 1 := ⟨by decide +kernel, rfl⟩
theorem dX7_canMount_1 : Ins mX7_canMount 1 (.iload_n 1) 1 2 := ⟨by decide +kernel, rfl⟩
theorem dX7_canMount_2 : CalV mX7_canMount 2 5 mX7_isBoy := ⟨46, by decide +kernel, rfl, tb_3 (List.mem_of_getElem? (i := 107) (by decide +kernel)) rfl, meX7_isBoy⟩
theorem dX7_canMount_5 : Ins mX7_canMount 5 (.ifCond .eq 43) 3 8 := ⟨by decide +kernel, rfl⟩
theorem dX7_canMount_8 : Ins mX7_canMount 8 (.aload_n 0) 1 9 := ⟨by decide +kernel, rfl⟩
theorem dX7_canMount_9 : Ins mX7_canMount 9 (.iload_n 2) 1 10 := ⟨by decide +kernel, rfl⟩
theorem dX7_canMount_10 : CalV mX7_canMount 10 13 mX7_isHorse := ⟨42, by decide +kernel, rfl, tb_3 (List.mem_of_getElem? (i := 111) (by decide +kernel)) rfl, meX7_isHorse⟩
theorem dX7_canMount_13 : Ins mX7_canMount 13 (.ifCond .eq 35) 3 16 := ⟨by decide +kernel, rfl⟩
theorem dX7_canMount_16 : Ins mX7_canMount 16 (.aload_n 0) 1 17 := ⟨by decide +kernel, rfl⟩
theorem dX7_canMount_17 : Ins mX7_canMount 17 (.iload_n 1) 1 18 := ⟨by decide +kernel, rfl⟩
theorem dX7_canMount_18 : CalV mX7_canMount 18 21 mX7_seatOf := ⟨62, by decide +kernel, rfl, tb_3 (List.mem_of_getElem? (i := 115) (by decide +kernel)) rfl, meX7_seatOf⟩
theorem dX7_canMount_21 : Ins mX7_canMount 21 (.iconst (-1)) 1 22 := ⟨by decide +kernel, rfl⟩
theorem dX7_canMount_22 : Ins mX7_canMount 22 (.if_icmp .ne 26) 3 25 := ⟨by decide +kernel, rfl⟩
theorem dX7_canMount_25 : Ins mX7_canMount 25 (.aload_n 0) 1 26 := ⟨by decide +kernel, rfl⟩
theorem dX7_canMount_26 : Ins mX7_canMount 26 (.iload_n 1) 1 27 := ⟨by decide +kernel, rfl⟩
theorem dX7_canMount_27 : CalV mX7_canMount 27 30 mX7_tiredOf := ⟨77, by decide +kernel, rfl, tb_3 (List.mem_of_getElem? (i := 119) (by decide +kernel)) rfl, meX7_tiredOf⟩
theorem dX7_canMount_30 : Ins mX7_canMount 30 (.bipush 9) 2 32 := ⟨by decide +kernel, rfl⟩
theorem dX7_canMount_32 : Ins mX7_canMount 32 (.if_icmp .ge 16) 3 35 := ⟨by decide +kernel, rfl⟩
theorem dX7_canMount_35 : Ins mX7_canMount 35 (.aload_n 0) 1 36 := ⟨by decide +kernel, rfl⟩
theorem dX7_canMount_36 : Ins mX7_canMount 36 (.iload_n 2) 1 37 := ⟨by decide +kernel, rfl⟩
theorem dX7_canMount_37 : CalV mX7_canMount 37 40 mX7_riderOf := ⟨65, by decide +kernel, rfl, tb_3 (List.mem_of_getElem? (i := 123) (by decide +kernel)) rfl, meX7_riderOf⟩
theorem dX7_canMount_40 : Ins mX7_canMount 40 (.iconst (-1)) 1 41 := ⟨by decide +kernel, rfl⟩
theorem dX7_canMount_41 : Ins mX7_canMount 41 (.if_icmp .ne 7) 3 44 := ⟨by decide +kernel, rfl⟩
theorem dX7_canMount_44 : Ins mX7_canMount 44 (.iconst 1) 1 45 := ⟨by decide +kernel, rfl⟩
theorem dX7_canMount_45 : Ins mX7_canMount 45 (.goto 4) 3 48 := ⟨by decide +kernel, rfl⟩
theorem dX7_canMount_48 : Ins mX7_canMount 48 (.iconst 0) 1 49 := ⟨by decide +kernel, rfl⟩
theorem dX7_canMount_49 : Ins mX7_canMount 49 (.ireturn) 1 50 := ⟨by decide +kernel, rfl⟩
theorem dX7_seat_0 : Ins mX7_seat 0 (.aload_n 0) 1 1 := ⟨by decide +kernel, rfl⟩
theorem dX7_seat_1 : Ins mX7_seat 1 (.iload_n 1) 1 2 := ⟨by decide +kernel, rfl⟩
theorem dX7_seat_2 : Ins mX7_seat 2 (.iload_n 2) 1 3 := ⟨by decide +kernel, rfl⟩
theorem dX7_seat_3 : CalV mX7_seat 3 6 mX7_canMount := ⟨80, by decide +kernel, rfl, tb_3 (List.mem_of_getElem? (i := 138) (by decide +kernel)) rfl, meX7_canMount⟩
theorem dX7_seat_6 : Ins mX7_seat 6 (.ifCond .eq 13) 3 9 := ⟨by decide +kernel, rfl⟩
theorem dX7_seat_9 : Ins mX7_seat 9 (.aload_n 0) 1 10 := ⟨by decide +kernel, rfl⟩
theorem dX7_seat_10 : GgR mX7_seat 10 13 6 0 := ⟨0, rfl, ⟨11, _, by decide +kernel, rfl, rfl, by decide, tb_1 (List.mem_of_getElem? (i := 41) (by decide +kernel)) rfl⟩, by decide, rfl⟩
theorem dX7_seat_13 : Ins mX7_seat 13 (.bipush 22) 2 15 := ⟨by decide +kernel, rfl⟩
theorem dX7_seat_15 : Ins mX7_seat 15 (.iload_n 1) 1 16 := ⟨by decide +kernel, rfl⟩
theorem dX7_seat_16 : Ins mX7_seat 16 (.iadd) 1 17 := ⟨by decide +kernel, rfl⟩
theorem dX7_seat_17 : Ins mX7_seat 17 (.iload_n 2) 1 18 := ⟨by decide +kernel, rfl⟩
theorem dX7_seat_18 : Ins mX7_seat 18 (.iastore) 1 19 := ⟨by decide +kernel, rfl⟩
theorem dX7_seat_19 : Ins mX7_seat 19 (.return_) 1 20 := ⟨by decide +kernel, rfl⟩
theorem dX7_unseat_0 : Ins mX7_unseat 0 (.aload_n 0) 1 1 := ⟨by decide +kernel, rfl⟩
theorem dX7_unseat_1 : Ins mX7_unseat 1 (.iload_n 1) 1 2 := ⟨by decide +kernel, rfl⟩
theorem dX7_unseat_2 : CalV mX7_unseat 2 5 mX7_isBoy := ⟨46, by decide +kernel, rfl, tb_3 (List.mem_of_getElem? (i := 107) (by decide +kernel)) rfl, meX7_isBoy⟩
theorem dX7_unseat_5 : Ins mX7_unseat 5 (.ifCond .eq 13) 3 8 := ⟨by decide +kernel, rfl⟩
theorem dX7_unseat_8 : Ins mX7_unseat 8 (.aload_n 0) 1 9 := ⟨by decide +kernel, rfl⟩
theorem dX7_unseat_9 : GgR mX7_unseat 9 12 6 0 := ⟨0, rfl, ⟨11, _, by decide +kernel, rfl, rfl, by decide, tb_1 (List.mem_of_getElem? (i := 41) (by decide +kernel)) rfl⟩, by decide, rfl⟩
theorem dX7_unseat_12 : Ins mX7_unseat 12 (.bipush 22) 2 14 := ⟨by decide +kernel, rfl⟩
theorem dX7_unseat_14 : Ins mX7_unseat 14 (.iload_n 1) 1 15 := ⟨by decide +kernel, rfl⟩
theorem dX7_unseat_15 : Ins mX7_unseat 15 (.iadd) 1 16 := ⟨by decide +kernel, rfl⟩
theorem dX7_unseat_16 : Ins mX7_unseat 16 (.iconst (-1)) 1 17 := ⟨by decide +kernel, rfl⟩
theorem dX7_unseat_17 : Ins mX7_unseat 17 (.iastore) 1 18 := ⟨by decide +kernel, rfl⟩
theorem dX7_unseat_18 : Ins mX7_unseat 18 (.return_) 1 19 := ⟨by decide +kernel, rfl⟩
theorem dX7_canOil_0 : Ins mX7_canOil 0 (.aload_n 0) 1 1 := ⟨by decide +kernel, rfl⟩
theorem dX7_canOil_1 : Ins mX7_canOil 1 (.iload_n 1) 1 2 := ⟨by decide +kernel, rfl⟩
theorem dX7_canOil_2 : CalV mX7_canOil 2 5 mX7_isHorse := ⟨42, by decide +kernel, rfl, tb_3 (List.mem_of_getElem? (i := 111) (by decide +kernel)) rfl, meX7_isHorse⟩
theorem dX7_canOil_5 : Ins mX7_canOil 5 (.ifCond .eq 14) 3 8 := ⟨by decide +kernel, rfl⟩
theorem dX7_canOil_8 : Ins mX7_canOil 8 (.aload_n 0) 1 9 := ⟨by decide +kernel, rfl⟩
theorem dX7_canOil_9 : CalV mX7_canOil 9 12 mX7_oilLeft := ⟨84, by decide +kernel, rfl, tb_3 (List.mem_of_getElem? (i := 156) (by decide +kernel)) rfl, meX7_oilLeft⟩
theorem dX7_canOil_12 : Ins mX7_canOil 12 (.ifCond .le 7) 3 15 := ⟨by decide +kernel, rfl⟩
theorem dX7_canOil_15 : Ins mX7_canOil 15 (.iconst 1) 1 16 := ⟨by decide +kernel, rfl⟩
theorem dX7_canOil_16 : Ins mX7_canOil 16 (.goto 4) 3 19 := ⟨by decide +kernel, rfl⟩
theorem dX7_canOil_19 : Ins mX7_canOil 19 (.iconst 0) 1 20 := ⟨by decide +kernel, rfl⟩
theorem dX7_canOil_20 : Ins mX7_canOil 20 (.ireturn) 1 21 := ⟨by decide +kernel, rfl⟩
theorem dX7_grease_0 : Ins mX7_grease 0 (.aload_n 0) 1 1 := ⟨by decide +kernel, rfl⟩
theorem dX7_grease_1 : Ins mX7_grease 1 (.iload_n 1) 1 2 := ⟨by decide +kernel, rfl⟩
theorem dX7_grease_2 : CalV mX7_grease 2 5 mX7_canOil := ⟨87, by decide +kernel, rfl, tb_3 (List.mem_of_getElem? (i := 164) (by decide +kernel)) rfl, meX7_canOil⟩
theorem dX7_grease_5 : Ins mX7_grease 5 (.ifCond .eq 24) 3 8 := ⟨by decide +kernel, rfl⟩
theorem dX7_grease_8 : Ins mX7_grease 8 (.aload_n 0) 1 9 := ⟨by decide +kernel, rfl⟩
theorem dX7_grease_9 : GgR mX7_grease 9 12 6 0 := ⟨0, rfl, ⟨11, _, by decide +kernel, rfl, rfl, by decide, tb_1 (List.mem_of_getElem? (i := 41) (by decide +kernel)) rfl⟩, by decide, rfl⟩
theorem dX7_grease_12 : Ins mX7_grease 12 (.bipush 29) 2 14 := ⟨by decide +kernel, rfl⟩
theorem dX7_grease_14 : Ins mX7_grease 14 (.dup2) 1 15 := ⟨by decide +kernel, rfl⟩
theorem dX7_grease_15 : Ins mX7_grease 15 (.iaload) 1 16 := ⟨by decide +kernel, rfl⟩
theorem dX7_grease_16 : Ins mX7_grease 16 (.iconst 1) 1 17 := ⟨by decide +kernel, rfl⟩
theorem dX7_grease_17 : Ins mX7_grease 17 (.isub) 1 18 := ⟨by decide +kernel, rfl⟩
theorem dX7_grease_18 : Ins mX7_grease 18 (.iastore) 1 19 := ⟨by decide +kernel, rfl⟩
theorem dX7_grease_19 : Ins mX7_grease 19 (.aload_n 0) 1 20 := ⟨by decide +kernel, rfl⟩
theorem dX7_grease_20 : GgR mX7_grease 20 23 6 0 := ⟨0, rfl, ⟨11, _, by decide +kernel, rfl, rfl, by decide, tb_1 (List.mem_of_getElem? (i := 41) (by decide +kernel)) rfl⟩, by decide, rfl⟩
theorem dX7_grease_23 : Ins mX7_grease 23 (.bipush 8) 2 25 := ⟨by decide +kernel, rfl⟩
theorem dX7_grease_25 : Ins mX7_grease 25 (.iload_n 1) 1 26 := ⟨by decide +kernel, rfl⟩
theorem dX7_grease_26 : Ins mX7_grease 26 (.iadd) 1 27 := ⟨by decide +kernel, rfl⟩
theorem dX7_grease_27 : Ins mX7_grease 27 (.iconst 0) 1 28 := ⟨by decide +kernel, rfl⟩
theorem dX7_grease_28 : Ins mX7_grease 28 (.iastore) 1 29 := ⟨by decide +kernel, rfl⟩
theorem dX7_grease_29 : Ins mX7_grease 29 (.aload_n 0) 1 30 := ⟨by decide +kernel, rfl⟩
theorem dX7_grease_30 : CalV mX7_grease 30 33 mX7_oilLeft := ⟨84, by decide +kernel, rfl, tb_3 (List.mem_of_getElem? (i := 156) (by decide +kernel)) rfl, meX7_oilLeft⟩
theorem dX7_grease_33 : Ins mX7_grease 33 (.ireturn) 1 34 := ⟨by decide +kernel, rfl⟩
theorem dX7_canNail_0 : Ins mX7_canNail 0 (.aload_n 0) 1 1 := ⟨by decide +kernel, rfl⟩
theorem dX7_canNail_1 : Ins mX7_canNail 1 (.iload_n 1) 1 2 := ⟨by decide +kernel, rfl⟩
theorem dX7_canNail_2 : CalV mX7_canNail 2 5 mX7_isHorse := ⟨42, by decide +kernel, rfl, tb_3 (List.mem_of_getElem? (i := 111) (by decide +kernel)) rfl, meX7_isHorse⟩
theorem dX7_canNail_5 : Ins mX7_canNail 5 (.ifCond .eq 31) 3 8 := ⟨by decide +kernel, rfl⟩
theorem dX7_canNail_8 : Ins mX7_canNail 8 (.iload_n 2) 1 9 := ⟨by decide +kernel, rfl⟩
theorem dX7_canNail_9 : Ins mX7_canNail 9 (.iconst 0) 1 10 := ⟨by decide +kernel, rfl⟩
theorem dX7_canNail_10 : Ins mX7_canNail 10 (.aload_n 0) 1 11 := ⟨by decide +kernel, rfl⟩
theorem dX7_canNail_11 : Ins mX7_canNail 11 (.iload_n 1) 1 12 := ⟨by decide +kernel, rfl⟩
theorem dX7_canNail_12 : CalV mX7_canNail 12 15 mX7_beatOf := ⟨56, by decide +kernel, rfl, tb_3 (List.mem_of_getElem? (i := 173) (by decide +kernel)) rfl, meX7_beatOf⟩
theorem dX7_canNail_15 : Ins mX7_canNail 15 (.iconst 1) 1 16 := ⟨by decide +kernel, rfl⟩
theorem dX7_canNail_16 : Ins mX7_canNail 16 (.isub) 1 17 := ⟨by decide +kernel, rfl⟩
theorem dX7_canNail_17 : CalS mX7_canNail 17 20 mX10_isWithin := ⟨35, by decide +kernel, rfl, Or.inr ⟨"RockingGuard", List.mem_of_getElem? (i := 9) (by decide +kernel)⟩, meX10_isWithin⟩
theorem dX7_canNail_20 : Ins mX7_canNail 20 (.ifCond .eq 16) 3 23 := ⟨by decide +kernel, rfl⟩
theorem dX7_canNail_23 : Ins mX7_canNail 23 (.iload_n 2) 1 24 := ⟨by decide +kernel, rfl⟩
theorem dX7_canNail_24 : Ins mX7_canNail 24 (.aload_n 0) 1 25 := ⟨by decide +kernel, rfl⟩
theorem dX7_canNail_25 : Ins mX7_canNail 25 (.iload_n 1) 1 26 := ⟨by decide +kernel, rfl⟩
theorem dX7_canNail_26 : CalV mX7_canNail 26 29 mX7_shiftOf := ⟨59, by decide +kernel, rfl, tb_3 (List.mem_of_getElem? (i := 177) (by decide +kernel)) rfl, meX7_shiftOf⟩
theorem dX7_canNail_29 : Ins mX7_canNail 29 (.if_icmp .eq 7) 3 32 := ⟨by decide +kernel, rfl⟩
theorem dX7_canNail_32 : Ins mX7_canNail 32 (.iconst 1) 1 33 := ⟨by decide +kernel, rfl⟩
theorem dX7_canNail_33 : Ins mX7_canNail 33 (.goto 4) 3 36 := ⟨by decide +kernel, rfl⟩
theorem dX7_canNail_36 : Ins mX7_canNail 36 (.iconst 0) 1 37 := ⟨by decide +kernel, rfl⟩
theorem dX7_canNail_37 : Ins mX7_canNail 37 (.ireturn) 1 38 := ⟨by decide +kernel, rfl⟩
theorem dX7_shiftTo_0 : Ins mX7_shiftTo 0 (.aload_n 0) 1 1 := ⟨by decide +kernel, rfl⟩
theorem dX7_shiftTo_1 : Ins mX7_shiftTo 1 (.iload_n 1) 1 2 := ⟨by decide +kernel, rfl⟩
theorem dX7_shiftTo_2 : Ins mX7_shiftTo 2 (.iload_n 2) 1 3 := ⟨by decide +kernel, rfl⟩
theorem dX7_shiftTo_3 : CalV mX7_shiftTo 3 6 mX7_canNail := ⟨90, by decide +kernel, rfl, tb_3 (List.mem_of_getElem? (i := 185) (by decide +kernel)) rfl, meX7_canNail⟩
theorem dX7_shiftTo_6 : Ins mX7_shiftTo 6 (.ifCond .eq 12) 3 9 := ⟨by decide +kernel, rfl⟩
theorem dX7_shiftTo_9 : Ins mX7_shiftTo 9 (.aload_n 0) 1 10 := ⟨by decide +kernel, rfl⟩
theorem dX7_shiftTo_10 : GgR mX7_shiftTo 10 13 6 0 := ⟨0, rfl, ⟨11, _, by decide +kernel, rfl, rfl, by decide, tb_1 (List.mem_of_getElem? (i := 41) (by decide +kernel)) rfl⟩, by decide, rfl⟩
theorem dX7_shiftTo_13 : Ins mX7_shiftTo 13 (.iconst 0) 1 14 := ⟨by decide +kernel, rfl⟩
theorem dX7_shiftTo_14 : Ins mX7_shiftTo 14 (.iload_n 1) 1 15 := ⟨by decide +kernel, rfl⟩
theorem dX7_shiftTo_15 : Ins mX7_shiftTo 15 (.iadd) 1 16 := ⟨by decide +kernel, rfl⟩
theorem dX7_shiftTo_16 : Ins mX7_shiftTo 16 (.iload_n 2) 1 17 := ⟨by decide +kernel, rfl⟩
theorem dX7_shiftTo_17 : Ins mX7_shiftTo 17 (.iastore) 1 18 := ⟨by decide +kernel, rfl⟩
theorem dX7_shiftTo_18 : Ins mX7_shiftTo 18 (.return_) 1 19 := ⟨by decide +kernel, rfl⟩
theorem dX7_canPass_0 : Ins mX7_canPass 0 (.aload_n 0) 1 1 := ⟨by decide +kernel, rfl⟩
theorem dX7_canPass_1 : GgR mX7_canPass 1 4 6 0 := ⟨0, rfl, ⟨11, _, by decide +kernel, rfl, rfl, by decide, tb_1 (List.mem_of_getElem? (i := 41) (by decide +kernel)) rfl⟩, by decide, rfl⟩
theorem dX7_canPass_4 : Ins mX7_canPass 4 (.bipush 30) 2 6 := ⟨by decide +kernel, rfl⟩
theorem dX7_canPass_6 : Ins mX7_canPass 6 (.iaload) 1 7 := ⟨by decide +kernel, rfl⟩
theorem dX7_canPass_7 : Ins mX7_canPass 7 (.sipush 9999) 3 10 := ⟨by decide +kernel, rfl⟩
theorem dX7_canPass_10 : Ins mX7_canPass 10 (.if_icmp .ge 7) 3 13 := ⟨by decide +kernel, rfl⟩
theorem dX7_canPass_13 : Ins mX7_canPass 13 (.iconst 1) 1 14 := ⟨by decide +kernel, rfl⟩
theorem dX7_canPass_14 : Ins mX7_canPass 14 (.goto 4) 3 17 := ⟨by decide +kernel, rfl⟩
theorem dX7_canPass_17 : Ins mX7_canPass 17 (.iconst 0) 1 18 := ⟨by decide +kernel, rfl⟩
theorem dX7_canPass_18 : Ins mX7_canPass 18 (.ireturn) 1 19 := ⟨by decide +kernel, rfl⟩
theorem dX7_passMinute_0 : Ins mX7_passMinute 0 (.aload_n 0) 1 1 := ⟨by decide +kernel, rfl⟩
theorem dX7_passMinute_1 : CalV mX7_passMinute 1 4 mX7_canPass := ⟨93, by decide +kernel, rfl, tb_3 (List.mem_of_getElem? (i := 206) (by decide +kernel)) rfl, meX7_canPass⟩
theorem dX7_passMinute_4 : Ins mX7_passMinute 4 (.ifCond .ne 5) 3 7 := ⟨by decide +kernel, rfl⟩
theorem dX7_passMinute_7 : Ins mX7_passMinute 7 (.iconst 0) 1 8 := ⟨by decide +kernel, rfl⟩
theorem dX7_passMinute_8 : Ins mX7_passMinute 8 (.ireturn) 1 9 := ⟨by decide +kernel, rfl⟩
theorem dX7_passMinute_9 : Ins mX7_passMinute 9 (.aload_n 0) 1 10 := ⟨by decide +kernel, rfl⟩
theorem dX7_passMinute_10 : Ins mX7_passMinute 10 (.aload_n 0) 1 11 := ⟨by decide +kernel, rfl⟩
theorem dX7_passMinute_11 : CalV mX7_passMinute 11 14 mX7_thisMinute := ⟨97, by decide +kernel, rfl, tb_3 (List.mem_of_getElem? (i := 210) (by decide +kernel)) rfl, meX7_thisMinute⟩
theorem dX7_passMinute_14 : CalV mX7_passMinute 14 17 mX7_rockingAt := ⟨74, by decide +kernel, rfl, tb_3 (List.mem_of_getElem? (i := 211) (by decide +kernel)) rfl, meX7_rockingAt⟩
theorem dX7_passMinute_17 : Ins mX7_passMinute 17 (.istore_n 3) 1 18 := ⟨by decide +kernel, rfl⟩
theorem dX7_passMinute_18 : Ins mX7_passMinute 18 (.iload_n 3) 1 19 := ⟨by decide +kernel, rfl⟩
theorem dX7_passMinute_19 : CalS mX7_passMinute 19 22 mJ6_bitCount_0f7a4 := ⟨100, by decide +kernel, rfl, Or.inl (tb_3 (List.mem_of_getElem? (i := 227) (by decide +kernel)) rfl), meJ6_bitCount_0f7a4⟩
theorem dX7_passMinute_22 : Ins mX7_passMinute 22 (.istore 4) 2 24 := ⟨by decide +kernel, rfl⟩
theorem dX7_passMinute_24 : Ins mX7_passMinute 24 (.iconst 0) 1 25 := ⟨by decide +kernel, rfl⟩
theorem dX7_passMinute_25 : Ins mX7_passMinute 25 (.istore 5) 2 27 := ⟨by decide +kernel, rfl⟩
theorem dX7_passMinute_27 : Ins mX7_passMinute 27 (.iload 5) 2 29 := ⟨by decide +kernel, rfl⟩
theorem dX7_passMinute_29 : Ins mX7_passMinute 29 (.aload_n 0) 1 30 := ⟨by decide +kernel, rfl⟩
theorem dX7_passMinute_30 : CalV mX7_passMinute 30 33 mX7_horses := ⟨31, by decide +kernel, rfl, tb_2 (List.mem_of_getElem? (i := 66) (by decide +kernel)) rfl, meX7_horses⟩
theorem dX7_passMinute_33 : Ins mX7_passMinute 33 (.if_icmp .ge 50) 3 36 := ⟨by decide +kernel, rfl⟩
theorem dX7_passMinute_36 : Ins mX7_passMinute 36 (.iload_n 3) 1 37 := ⟨by decide +kernel, rfl⟩
theorem dX7_passMinute_37 : Ins mX7_passMinute 37 (.iload 5) 2 39 := ⟨by decide +kernel, rfl⟩
theorem dX7_passMinute_39 : Ins mX7_passMinute 39 (.ishr) 1 40 := ⟨by decide +kernel, rfl⟩
theorem dX7_passMinute_40 : Ins mX7_passMinute 40 (.iconst 1) 1 41 := ⟨by decide +kernel, rfl⟩
theorem dX7_passMinute_41 : Ins mX7_passMinute 41 (.iand) 1 42 := ⟨by decide +kernel, rfl⟩
theorem dX7_passMinute_42 : Ins mX7_passMinute 42 (.ifCond .eq 35) 3 45 := ⟨by decide +kernel, rfl⟩
theorem dX7_passMinute_45 : Ins mX7_passMinute 45 (.aload_n 0) 1 46 := ⟨by decide +kernel, rfl⟩
theorem dX7_passMinute_46 : GgR mX7_passMinute 46 49 6 0 := ⟨0, rfl, ⟨11, _, by decide +kernel, rfl, rfl, by decide, tb_1 (List.mem_of_getElem? (i := 41) (by decide +kernel)) rfl⟩, by decide, rfl⟩
theorem dX7_passMinute_49 : Ins mX7_passMinute 49 (.bipush 8) 2 51 := ⟨by decide +kernel, rfl⟩
theorem dX7_passMinute_51 : Ins mX7_passMinute 51 (.iload 5) 2 53 := ⟨by decide +kernel, rfl⟩
theorem dX7_passMinute_53 : Ins mX7_passMinute 53 (.iadd) 1 54 := ⟨by decide +kernel, rfl⟩
theorem dX7_passMinute_54 : Ins mX7_passMinute 54 (.bipush 99) 2 56 := ⟨by decide +kernel, rfl⟩
theorem dX7_passMinute_56 : Ins mX7_passMinute 56 (.aload_n 0) 1 57 := ⟨by decide +kernel, rfl⟩
theorem dX7_passMinute_57 : Ins mX7_passMinute 57 (.iload 5) 2 59 := ⟨by decide +kernel, rfl⟩
theorem dX7_passMinute_59 : CalV mX7_passMinute 59 62 mX7_wearOf := ⟨52, by decide +kernel, rfl, tb_3 (List.mem_of_getElem? (i := 223) (by decide +kernel)) rfl, meX7_wearOf⟩
theorem dX7_passMinute_62 : Ins mX7_passMinute 62 (.aload_n 1) 1 63 := ⟨by decide +kernel, rfl⟩
theorem dX7_passMinute_63 : Ins mX7_passMinute 63 (.aload_n 2) 1 64 := ⟨by decide +kernel, rfl⟩
theorem dX7_passMinute_64 : Ins mX7_passMinute 64 (.aload_n 0) 1 65 := ⟨by decide +kernel, rfl⟩
theorem dX7_passMinute_65 : Ins mX7_passMinute 65 (.iload 5) 2 67 := ⟨by decide +kernel, rfl⟩
theorem dX7_passMinute_67 : Ins mX7_passMinute 67 (.iload 4) 2 69 := ⟨by decide +kernel, rfl⟩
theorem dX7_passMinute_69 : CalV mX7_passMinute 69 72 mX1_wears := ⟨105, by decide +kernel, rfl, tb_3 (List.mem_of_getElem? (i := 233) (by decide +kernel)) rfl, meX1_wears⟩
theorem dX7_passMinute_72 : Ins mX7_passMinute 72 (.iadd) 1 73 := ⟨by decide +kernel, rfl⟩
theorem dX7_passMinute_73 : CalM mX7_passMinute 73 76 Lib.Math.min.name Lib.Math.min.code 2 (some .int) := ⟨111, by decide +kernel, rfl, tb_4 (List.mem_of_getElem? (i := 50) (by decide +kernel)) rfl, tb_1 (List.mem_of_getElem? (i := 83) (by decide +kernel)) rfl, tb_1 (List.mem_of_getElem? (i := 6) (by decide +kernel)) rfl, tb_1 (List.mem_of_getElem? (i := 84) rfl) rfl⟩
theorem dX7_passMinute_76 : Ins mX7_passMinute 76 (.iastore) 1 77 := ⟨by decide +kernel, rfl⟩
theorem dX7_passMinute_77 : Ins mX7_passMinute 77 (.iinc 5 1) 3 80 := ⟨by decide +kernel, rfl⟩
theorem dX7_passMinute_80 : Ins mX7_passMinute 80 (.goto (-53)) 3 83 := ⟨by decide +kernel, rfl⟩
theorem dX7_passMinute_83 : Ins mX7_passMinute 83 (.iconst 0) 1 84 := ⟨by decide +kernel, rfl⟩
theorem dX7_passMinute_84 : Ins mX7_passMinute 84 (.istore 5) 2 86 := ⟨by decide +kernel, rfl⟩
theorem dX7_passMinute_86 : Ins mX7_passMinute 86 (.iload 5) 2 88 := ⟨by decide +kernel, rfl⟩
theorem dX7_passMinute_88 : Ins mX7_passMinute 88 (.aload_n 0) 1 89 := ⟨by decide +kernel, rfl⟩
theorem dX7_passMinute_89 : CalV mX7_passMinute 89 92 mX7_boys := ⟨39, by decide +kernel, rfl, tb_2 (List.mem_of_getElem? (i := 81) (by decide +kernel)) rfl, meX7_boys⟩
theorem dX7_passMinute_92 : Ins mX7_passMinute 92 (.if_icmp .ge 92) 3 95 := ⟨by decide +kernel, rfl⟩
theorem dX7_passMinute_95 : Ins mX7_passMinute 95 (.aload_n 0) 1 96 := ⟨by decide +kernel, rfl⟩
theorem dX7_passMinute_96 : Ins mX7_passMinute 96 (.iload 5) 2 98 := ⟨by decide +kernel, rfl⟩
theorem dX7_passMinute_98 : CalV mX7_passMinute 98 101 mX7_seatOf := ⟨62, by decide +kernel, rfl, tb_3 (List.mem_of_getElem? (i := 115) (by decide +kernel)) rfl, meX7_seatOf⟩
theorem dX7_passMinute_101 : Ins mX7_passMinute 101 (.iconst (-1)) 1 102 := ⟨by decide +kernel, rfl⟩
theorem dX7_passMinute_102 : Ins mX7_passMinute 102 (.if_icmp .ne 28) 3 105 := ⟨by decide +kernel, rfl⟩
theorem dX7_passMinute_105 : Ins mX7_passMinute 105 (.aload_n 0) 1 106 := ⟨by decide +kernel, rfl⟩
theorem dX7_passMinute_106 : GgR mX7_passMinute 106 109 6 0 := ⟨0, rfl, ⟨11, _, by decide +kernel, rfl, rfl, by decide, tb_1 (List.mem_of_getElem? (i := 41) (by decide +kernel)) rfl⟩, by decide, rfl⟩
theorem dX7_passMinute_109 : Ins mX7_passMinute 109 (.bipush 16) 2 111 := ⟨by decide +kernel, rfl⟩
theorem dX7_passMinute_111 : Ins mX7_passMinute 111 (.iload 5) 2 113 := ⟨by decide +kernel, rfl⟩
theorem dX7_passMinute_113 : Ins mX7_passMinute 113 (.iadd) 1 114 := ⟨by decide +kernel, rfl⟩
theorem dX7_passMinute_114 : Ins mX7_passMinute 114 (.iconst 0) 1 115 := ⟨by decide +kernel, rfl⟩
theorem dX7_passMinute_115 : Ins mX7_passMinute 115 (.aload_n 0) 1 116 := ⟨by decide +kernel, rfl⟩
theorem dX7_passMinute_116 : Ins mX7_passMinute 116 (.iload 5) 2 118 := ⟨by decide +kernel, rfl⟩
theorem dX7_passMinute_118 : CalV mX7_passMinute 118 121 mX7_tiredOf := ⟨77, by decide +kernel, rfl, tb_3 (List.mem_of_getElem? (i := 119) (by decide +kernel)) rfl, meX7_tiredOf⟩
theorem dX7_passMinute_121 : Ins mX7_passMinute 121 (.iconst 1) 1 122 := ⟨by decide +kernel, rfl⟩
theorem dX7_passMinute_122 : Ins mX7_passMinute 122 (.isub) 1 123 := ⟨by decide +kernel, rfl⟩
theorem dX7_passMinute_123 : CalM mX7_passMinute 123 126 Lib.Math.max.name Lib.Math.max.code 2 (some .int) := ⟨117, by decide +kernel, rfl, tb_4 (List.mem_of_getElem? (i := 51) (by decide +kernel)) rfl, tb_2 (List.mem_of_getElem? (i := 206) (by decide +kernel)) rfl, tb_1 (List.mem_of_getElem? (i := 6) (by decide +kernel)) rfl, tb_2 (List.mem_of_getElem? (i := 207) rfl) rfl⟩
theorem dX7_passMinute_126 : Ins mX7_passMinute 126 (.iastore) 1 127 := ⟨by decide +kernel, rfl⟩
theorem dX7_passMinute_127 : Ins mX7_passMinute 127 (.goto 51) 3 130 := ⟨by decide +kernel, rfl⟩
theorem dX7_passMinute_130 : Ins mX7_passMinute 130 (.aload_n 0) 1 131 := ⟨by decide +kernel, rfl⟩
theorem dX7_passMinute_131 : GgR mX7_passMinute 131 134 6 0 := ⟨0, rfl, ⟨11, _, by decide +kernel, rfl, rfl, by decide, tb_1 (List.mem_of_getElem? (i := 41) (by decide +kernel)) rfl⟩, by decide, rfl⟩
theorem dX7_passMinute_134 : Ins mX7_passMinute 134 (.bipush 16) 2 136 := ⟨by decide +kernel, rfl⟩
theorem dX7_passMinute_136 : Ins mX7_passMinute 136 (.iload 5) 2 138 := ⟨by decide +kernel, rfl⟩
theorem dX7_passMinute_138 : Ins mX7_passMinute 138 (.iadd) 1 139 := ⟨by decide +kernel, rfl⟩
theorem dX7_passMinute_139 : Ins mX7_passMinute 139 (.bipush 9) 2 141 := ⟨by decide +kernel, rfl⟩
theorem dX7_passMinute_141 : Ins mX7_passMinute 141 (.aload_n 0) 1 142 := ⟨by decide +kernel, rfl⟩
theorem dX7_passMinute_142 : Ins mX7_passMinute 142 (.iload 5) 2 144 := ⟨by decide +kernel, rfl⟩
theorem dX7_passMinute_144 : CalV mX7_passMinute 144 147 mX7_tiredOf := ⟨77, by decide +kernel, rfl, tb_3 (List.mem_of_getElem? (i := 119) (by decide +kernel)) rfl, meX7_tiredOf⟩
theorem dX7_passMinute_147 : Ins mX7_passMinute 147 (.aload_n 1) 1 148 := ⟨by decide +kernel, rfl⟩
theorem dX7_passMinute_148 : Ins mX7_passMinute 148 (.aload_n 2) 1 149 := ⟨by decide +kernel, rfl⟩
theorem dX7_passMinute_149 : Ins mX7_passMinute 149 (.aload_n 0) 1 150 := ⟨by decide +kernel, rfl⟩
theorem dX7_passMinute_150 : Ins mX7_passMinute 150 (.iload 5) 2 152 := ⟨by decide +kernel, rfl⟩
theorem dX7_passMinute_152 : Ins mX7_passMinute 152 (.iload_n 3) 1 153 := ⟨by decide +kernel, rfl⟩
theorem dX7_passMinute_153 : CalV mX7_passMinute 153 156 mX1_tires := ⟨120, by decide +kernel, rfl, tb_4 (List.mem_of_getElem? (i := 52) (by decide +kernel)) rfl, meX1_tires⟩
theorem dX7_passMinute_156 : Ins mX7_passMinute 156 (.iadd) 1 157 := ⟨by decide +kernel, rfl⟩
theorem dX7_passMinute_157 : CalM mX7_passMinute 157 160 Lib.Math.min.name Lib.Math.min.code 2 (some .int) := ⟨111, by decide +kernel, rfl, tb_4 (List.mem_of_getElem? (i := 50) (by decide +kernel)) rfl, tb_1 (List.mem_of_getElem? (i := 83) (by decide +kernel)) rfl, tb_1 (List.mem_of_getElem? (i := 6) (by decide +kernel)) rfl, tb_1 (List.mem_of_getElem? (i := 84) rfl) rfl⟩
theorem dX7_passMinute_160 : Ins mX7_passMinute 160 (.iastore) 1 161 := ⟨by decide +kernel, rfl⟩
theorem dX7_passMinute_161 : Ins mX7_passMinute 161 (.aload_n 0) 1 162 := ⟨by decide +kernel, rfl⟩
theorem dX7_passMinute_162 : Ins mX7_passMinute 162 (.iload 5) 2 164 := ⟨by decide +kernel, rfl⟩
theorem dX7_passMinute_164 : CalV mX7_passMinute 164 167 mX7_tiredOf := ⟨77, by decide +kernel, rfl, tb_3 (List.mem_of_getElem? (i := 119) (by decide +kernel)) rfl, meX7_tiredOf⟩
theorem dX7_passMinute_167 : Ins mX7_passMinute 167 (.bipush 9) 2 169 := ⟨by decide +kernel, rfl⟩
theorem dX7_passMinute_169 : Ins mX7_passMinute 169 (.if_icmp .ne 9) 3 172 := ⟨by decide +kernel, rfl⟩
theorem dX7_passMinute_172 : Ins mX7_passMinute 172 (.aload_n 0) 1 173 := ⟨by decide +kernel, rfl⟩
theorem dX7_passMinute_173 : Ins mX7_passMinute 173 (.iload 5) 2 175 := ⟨by decide +kernel, rfl⟩
theorem dX7_passMinute_175 : CalV mX7_passMinute 175 178 mX7_unseat := ⟨123, by decide +kernel, rfl, tb_4 (List.mem_of_getElem? (i := 58) (by decide +kernel)) rfl, meX7_unseat⟩
theorem dX7_passMinute_178 : Ins mX7_passMinute 178 (.iinc 5 1) 3 181 := ⟨by decide +kernel, rfl⟩
theorem dX7_passMinute_181 : Ins mX7_passMinute 181 (.goto (-95)) 3 184 := ⟨by decide +kernel, rfl⟩
theorem dX7_passMinute_184 : Ins mX7_passMinute 184 (.aload_n 0) 1 185 := ⟨by decide +kernel, rfl⟩
theorem dX7_passMinute_185 : GgR mX7_passMinute 185 188 6 0 := ⟨0, rfl, ⟨11, _, by decide +kernel, rfl, rfl, by decide, tb_1 (List.mem_of_getElem? (i := 41) (by decide +kernel)) rfl⟩, by decide, rfl⟩
theorem dX7_passMinute_188 : Ins mX7_passMinute 188 (.bipush 28) 2 190 := ⟨by decide +kernel, rfl⟩
theorem dX7_passMinute_190 : Ins mX7_passMinute 190 (.sipush 999) 3 193 := ⟨by decide +kernel, rfl⟩
theorem dX7_passMinute_193 : Ins mX7_passMinute 193 (.aload_n 0) 1 194 := ⟨by decide +kernel, rfl⟩
theorem dX7_passMinute_194 : CalV mX7_passMinute 194 197 mX7_snow := ⟨127, by decide +kernel, rfl, tb_4 (List.mem_of_getElem? (i := 59) (by decide +kernel)) rfl, meX7_snow⟩
theorem dX7_passMinute_197 : Ins mX7_passMinute 197 (.iload 4) 2 199 := ⟨by decide +kernel, rfl⟩
theorem dX7_passMinute_199 : Ins mX7_passMinute 199 (.iadd) 1 200 := ⟨by decide +kernel, rfl⟩
theorem dX7_passMinute_200 : CalM mX7_passMinute 200 203 Lib.Math.min.name Lib.Math.min.code 2 (some .int) := ⟨111, by decide +kernel, rfl, tb_4 (List.mem_of_getElem? (i := 50) (by decide +kernel)) rfl, tb_1 (List.mem_of_getElem? (i := 83) (by decide +kernel)) rfl, tb_1 (List.mem_of_getElem? (i := 6) (by decide +kernel)) rfl, tb_1 (List.mem_of_getElem? (i := 84) rfl) rfl⟩
theorem dX7_passMinute_203 : Ins mX7_passMinute 203 (.iastore) 1 204 := ⟨by decide +kernel, rfl⟩
theorem dX7_passMinute_204 : Ins mX7_passMinute 204 (.iload 4) 2 206 := ⟨by decide +kernel, rfl⟩
theorem dX7_passMinute_206 : Ins mX7_passMinute 206 (.aload_n 0) 1 207 := ⟨by decide +kernel, rfl⟩
theorem dX7_passMinute_207 : GgI mX7_passMinute 207 210 6 3 := ⟨3, rfl, ⟨21, _, by decide +kernel, rfl, rfl, by decide, tb_1 (List.mem_of_getElem? (i := 45) (by decide +kernel)) rfl⟩, by decide, rfl⟩
theorem dX7_passMinute_210 : Ins mX7_passMinute 210 (.if_icmp .lt 7) 3 213 := ⟨by decide +kernel, rfl⟩
theorem dX7_passMinute_213 : Ins mX7_passMinute 213 (.iconst 1) 1 214 := ⟨by decide +kernel, rfl⟩
theorem dX7_passMinute_214 : Ins mX7_passMinute 214 (.goto 4) 3 217 := ⟨by decide +kernel, rfl⟩
theorem dX7_passMinute_217 : Ins mX7_passMinute 217 (.iconst 0) 1 218 := ⟨by decide +kernel, rfl⟩
theorem dX7_passMinute_218 : Ins mX7_passMinute 218 (.istore 5) 2 220 := ⟨by decide +kernel, rfl⟩
theorem dX7_passMinute_220 : Ins mX7_passMinute 220 (.iload 5) 2 222 := ⟨by decide +kernel, rfl⟩
theorem dX7_passMinute_222 : Ins mX7_passMinute 222 (.ifCond .eq 16) 3 225 := ⟨by decide +kernel, rfl⟩
theorem dX7_passMinute_225 : Ins mX7_passMinute 225 (.aload_n 0) 1 226 := ⟨by decide +kernel, rfl⟩
theorem dX7_passMinute_226 : Ins mX7_passMinute 226 (.iload_n 3) 1 227 := ⟨by decide +kernel, rfl⟩
theorem dX7_passMinute_227 : CalV mX7_passMinute 227 230 mX7_writeSlide := ⟨130, by decide +kernel, rfl, tb_4 (List.mem_of_getElem? (i := 60) (by decide +kernel)) rfl, meX7_writeSlide⟩
theorem dX7_passMinute_230 : Ins mX7_passMinute 230 (.aload_n 0) 1 231 := ⟨by decide +kernel, rfl⟩
theorem dX7_passMinute_231 : GgR mX7_passMinute 231 234 6 0 := ⟨0, rfl, ⟨11, _, by decide +kernel, rfl, rfl, by decide, tb_1 (List.mem_of_getElem? (i := 41) (by decide +kernel)) rfl⟩, by decide, rfl⟩
theorem dX7_passMinute_234 : Ins mX7_passMinute 234 (.bipush 28) 2 236 := ⟨by decide +kernel, rfl⟩
theorem dX7_passMinute_236 : Ins mX7_passMinute 236 (.iconst 0) 1 237 := ⟨by decide +kernel, rfl⟩
theorem dX7_passMinute_237 : Ins mX7_passMinute 237 (.iastore) 1 238 := ⟨by decide +kernel, rfl⟩
theorem dX7_passMinute_238 : Ins mX7_passMinute 238 (.aload_n 0) 1 239 := ⟨by decide +kernel, rfl⟩
theorem dX7_passMinute_239 : GgR mX7_passMinute 239 242 6 0 := ⟨0, rfl, ⟨11, _, by decide +kernel, rfl, rfl, by decide, tb_1 (List.mem_of_getElem? (i := 41) (by decide +kernel)) rfl⟩, by decide, rfl⟩
theorem dX7_passMinute_242 : Ins mX7_passMinute 242 (.bipush 30) 2 244 := ⟨by decide +kernel, rfl⟩
theorem dX7_passMinute_244 : Ins mX7_passMinute 244 (.dup2) 1 245 := ⟨by decide +kernel, rfl⟩
theorem dX7_passMinute_245 : Ins mX7_passMinute 245 (.iaload) 1 246 := ⟨by decide +kernel, rfl⟩
theorem dX7_passMinute_246 : Ins mX7_passMinute 246 (.iconst 1) 1 247 := ⟨by decide +kernel, rfl⟩
theorem dX7_passMinute_247 : Ins mX7_passMinute 247 (.iadd) 1 248 := ⟨by decide +kernel, rfl⟩
theorem dX7_passMinute_248 : Ins mX7_passMinute 248 (.iastore) 1 249 := ⟨by decide +kernel, rfl⟩
theorem dX7_passMinute_249 : Ins mX7_passMinute 249 (.iload 5) 2 251 := ⟨by decide +kernel, rfl⟩
theorem dX7_passMinute_251 : Ins mX7_passMinute 251 (.ireturn) 1 252 := ⟨by decide +kernel, rfl⟩
theorem dX7_beginDraws_0 : Ins mX7_beginDraws 0 (.aload_n 0) 1 1 := ⟨by decide +kernel, rfl⟩
theorem dX7_beginDraws_1 : GgR mX7_beginDraws 1 4 6 0 := ⟨0, rfl, ⟨11, _, by decide +kernel, rfl, rfl, by decide, tb_1 (List.mem_of_getElem? (i := 41) (by decide +kernel)) rfl⟩, by decide, rfl⟩
theorem dX7_beginDraws_4 : Ins mX7_beginDraws 4 (.bipush 31) 2 6 := ⟨by decide +kernel, rfl⟩
theorem dX7_beginDraws_6 : Ins mX7_beginDraws 6 (.iload_n 1) 1 7 := ⟨by decide +kernel, rfl⟩
theorem dX7_beginDraws_7 : Ins mX7_beginDraws 7 (.iconst 2) 1 8 := ⟨by decide +kernel, rfl⟩
theorem dX7_beginDraws_8 : Ins mX7_beginDraws 8 (.imul) 1 9 := ⟨by decide +kernel, rfl⟩
theorem dX7_beginDraws_9 : Ins mX7_beginDraws 9 (.sipush 151) 3 12 := ⟨by decide +kernel, rfl⟩
theorem dX7_beginDraws_12 : Ins mX7_beginDraws 12 (.iadd) 1 13 := ⟨by decide +kernel, rfl⟩
theorem dX7_beginDraws_13 : Ins mX7_beginDraws 13 (.iastore) 1 14 := ⟨by decide +kernel, rfl⟩
theorem dX7_beginDraws_14 : Ins mX7_beginDraws 14 (.return_) 1 15 := ⟨by decide +kernel, rfl⟩
theorem dX7_drawX_0 : Ins mX7_drawX 0 (.aload_n 0) 1 1 := ⟨by decide +kernel, rfl⟩
theorem dX7_drawX_1 : CalV mX7_drawX 1 4 mX7_x := ⟨133, by decide +kernel, rfl, tb_4 (List.mem_of_getElem? (i := 117) (by decide +kernel)) rfl, meX7_x⟩
theorem dX7_drawX_4 : Ins mX7_drawX 4 (.istore_n 1) 1 5 := ⟨by decide +kernel, rfl⟩
theorem dX7_drawX_5 : Ins mX7_drawX 5 (.aload_n 0) 1 6 := ⟨by decide +kernel, rfl⟩
theorem dX7_drawX_6 : GgR mX7_drawX 6 9 6 0 := ⟨0, rfl, ⟨11, _, by decide +kernel, rfl, rfl, by decide, tb_1 (List.mem_of_getElem? (i := 41) (by decide +kernel)) rfl⟩, by decide, rfl⟩
theorem dX7_drawX_9 : Ins mX7_drawX 9 (.bipush 31) 2 11 := ⟨by decide +kernel, rfl⟩
theorem dX7_drawX_11 : Ins mX7_drawX 11 (.iload_n 1) 1 12 := ⟨by decide +kernel, rfl⟩
theorem dX7_drawX_12 : Ins mX7_drawX 12 (.sipush 383) 3 15 := ⟨by decide +kernel, rfl⟩
theorem dX7_drawX_15 : Ins mX7_drawX 15 (.imul) 1 16 := ⟨by decide +kernel, rfl⟩
theorem dX7_drawX_16 : Ins mX7_drawX 16 (.sipush 263) 3 19 := ⟨by decide +kernel, rfl⟩
theorem dX7_drawX_19 : Ins mX7_drawX 19 (.iadd) 1 20 := ⟨by decide +kernel, rfl⟩
theorem dX7_drawX_20 : Ins mX7_drawX 20 (.sipush 30491) 3 23 := ⟨by decide +kernel, rfl⟩
theorem dX7_drawX_23 : Ins mX7_drawX 23 (.irem) 1 24 := ⟨by decide +kernel, rfl⟩
theorem dX7_drawX_24 : Ins mX7_drawX 24 (.iastore) 1 25 := ⟨by decide +kernel, rfl⟩
theorem dX7_drawX_25 : Ins mX7_drawX 25 (.iload_n 1) 1 26 := ⟨by decide +kernel, rfl⟩
theorem dX7_drawX_26 : Ins mX7_drawX 26 (.ireturn) 1 27 := ⟨by decide +kernel, rfl⟩
theorem dX7_writeSlide_0 : Ins mX7_writeSlide 0 (.aload_n 0) 1 1 := ⟨by decide +kernel, rfl⟩
theorem dX7_writeSlide_1 : CalV mX7_writeSlide 1 4 mX7_slides := ⟨49, by decide +kernel, rfl, tb_4 (List.mem_of_getElem? (i := 64) (by decide +kernel)) rfl, meX7_slides⟩
theorem dX7_writeSlide_4 : Ins mX7_writeSlide 4 (.istore_n 2) 1 5 := ⟨by decide +kernel, rfl⟩
theorem dX7_writeSlide_5 : Ins mX7_writeSlide 5 (.iload_n 2) 1 6 := ⟨by decide +kernel, rfl⟩
theorem dX7_writeSlide_6 : Ins mX7_writeSlide 6 (.bipush 30) 2 8 := ⟨by decide +kernel, rfl⟩
theorem dX7_writeSlide_8 : Ins mX7_writeSlide 8 (.if_icmp .lt 24) 3 11 := ⟨by decide +kernel, rfl⟩
theorem dX7_writeSlide_11 : Ins mX7_writeSlide 11 (.bipush 29) 2 13 := ⟨by decide +kernel, rfl⟩
theorem dX7_writeSlide_13 : Ins mX7_writeSlide 13 (.istore_n 2) 1 14 := ⟨by decide +kernel, rfl⟩
theorem dX7_writeSlide_14 : Ins mX7_writeSlide 14 (.aload_n 0) 1 15 := ⟨by decide +kernel, rfl⟩
theorem dX7_writeSlide_15 : GgR mX7_writeSlide 15 18 6 0 := ⟨0, rfl, ⟨11, _, by decide +kernel, rfl, rfl, by decide, tb_1 (List.mem_of_getElem? (i := 41) (by decide +kernel)) rfl⟩, by decide, rfl⟩
theorem dX7_writeSlide_18 : Ins mX7_writeSlide 18 (.bipush 38) 2 20 := ⟨by decide +kernel, rfl⟩
theorem dX7_writeSlide_20 : Ins mX7_writeSlide 20 (.aload_n 0) 1 21 := ⟨by decide +kernel, rfl⟩
theorem dX7_writeSlide_21 : GgR mX7_writeSlide 21 24 6 0 := ⟨0, rfl, ⟨11, _, by decide +kernel, rfl, rfl, by decide, tb_1 (List.mem_of_getElem? (i := 41) (by decide +kernel)) rfl⟩, by decide, rfl⟩
theorem dX7_writeSlide_24 : Ins mX7_writeSlide 24 (.bipush 35) 2 26 := ⟨by decide +kernel, rfl⟩
theorem dX7_writeSlide_26 : Ins mX7_writeSlide 26 (.iload_n 2) 1 27 := ⟨by decide +kernel, rfl⟩
theorem dX7_writeSlide_27 : Ins mX7_writeSlide 27 (.iconst 3) 1 28 := ⟨by decide +kernel, rfl⟩
theorem dX7_writeSlide_28 : Ins mX7_writeSlide 28 (.imul) 1 29 := ⟨by decide +kernel, rfl⟩
theorem dX7_writeSlide_29 : CalA mX7_writeSlide 29 32 := ⟨25, by decide +kernel, rfl, tb_4 (List.mem_of_getElem? (i := 68) (by decide +kernel)) rfl, tb_3 (List.mem_of_getElem? (i := 133) (by decide +kernel)) rfl, tb_3 (List.mem_of_getElem? (i := 132) (by decide +kernel)) rfl, tb_1 (List.mem_of_getElem? (i := 18) (by decide +kernel)) rfl⟩
theorem dX7_writeSlide_32 : Ins mX7_writeSlide 32 (.bipush 35) 2 34 := ⟨by decide +kernel, rfl⟩
theorem dX7_writeSlide_34 : Ins mX7_writeSlide 34 (.iload_n 2) 1 35 := ⟨by decide +kernel, rfl⟩
theorem dX7_writeSlide_35 : Ins mX7_writeSlide 35 (.iconst 3) 1 36 := ⟨by decide +kernel, rfl⟩
theorem dX7_writeSlide_36 : Ins mX7_writeSlide 36 (.imul) 1 37 := ⟨by decide +kernel, rfl⟩
theorem dX7_writeSlide_37 : Ins mX7_writeSlide 37 (.iadd) 1 38 := ⟨by decide +kernel, rfl⟩
theorem dX7_writeSlide_38 : Ins mX7_writeSlide 38 (.istore_n 3) 1 39 := ⟨by decide +kernel, rfl⟩
theorem dX7_writeSlide_39 : Ins mX7_writeSlide 39 (.aload_n 0) 1 40 := ⟨by decide +kernel, rfl⟩
theorem dX7_writeSlide_40 : GgR mX7_writeSlide 40 43 6 0 := ⟨0, rfl, ⟨11, _, by decide +kernel, rfl, rfl, by decide, tb_1 (List.mem_of_getElem? (i := 41) (by decide +kernel)) rfl⟩, by decide, rfl⟩
theorem dX7_writeSlide_43 : Ins mX7_writeSlide 43 (.iload_n 3) 1 44 := ⟨by decide +kernel, rfl⟩
theorem dX7_writeSlide_44 : Ins mX7_writeSlide 44 (.aload_n 0) 1 45 := ⟨by decide +kernel, rfl⟩
theorem dX7_writeSlide_45 : CalV mX7_writeSlide 45 48 mX7_thisMinute := ⟨97, by decide +kernel, rfl, tb_3 (List.mem_of_getElem? (i := 210) (by decide +kernel)) rfl, meX7_thisMinute⟩
theorem dX7_writeSlide_48 : Ins mX7_writeSlide 48 (.iastore) 1 49 := ⟨by decide +kernel, rfl⟩
theorem dX7_writeSlide_49 : Ins mX7_writeSlide 49 (.aload_n 0) 1 50 := ⟨by decide +kernel, rfl⟩
theorem dX7_writeSlide_50 : GgR mX7_writeSlide 50 53 6 0 := ⟨0, rfl, ⟨11, _, by decide +kernel, rfl, rfl, by decide, tb_1 (List.mem_of_getElem? (i := 41) (by decide +kernel)) rfl⟩, by decide, rfl⟩
theorem dX7_writeSlide_53 : Ins mX7_writeSlide 53 (.iload_n 3) 1 54 := ⟨by decide +kernel, rfl⟩
theorem dX7_writeSlide_54 : Ins mX7_writeSlide 54 (.iconst 1) 1 55 := ⟨by decide +kernel, rfl⟩
theorem dX7_writeSlide_55 : Ins mX7_writeSlide 55 (.iadd) 1 56 := ⟨by decide +kernel, rfl⟩
theorem dX7_writeSlide_56 : Ins mX7_writeSlide 56 (.aload_n 0) 1 57 := ⟨by decide +kernel, rfl⟩
theorem dX7_writeSlide_57 : CalV mX7_writeSlide 57 60 mX7_snow := ⟨127, by decide +kernel, rfl, tb_4 (List.mem_of_getElem? (i := 59) (by decide +kernel)) rfl, meX7_snow⟩
theorem dX7_writeSlide_60 : Ins mX7_writeSlide 60 (.iastore) 1 61 := ⟨by decide +kernel, rfl⟩
theorem dX7_writeSlide_61 : Ins mX7_writeSlide 61 (.aload_n 0) 1 62 := ⟨by decide +kernel, rfl⟩
theorem dX7_writeSlide_62 : GgR mX7_writeSlide 62 65 6 0 := ⟨0, rfl, ⟨11, _, by decide +kernel, rfl, rfl, by decide, tb_1 (List.mem_of_getElem? (i := 41) (by decide +kernel)) rfl⟩, by decide, rfl⟩
theorem dX7_writeSlide_65 : Ins mX7_writeSlide 65 (.iload_n 3) 1 66 := ⟨by decide +kernel, rfl⟩
theorem dX7_writeSlide_66 : Ins mX7_writeSlide 66 (.iconst 2) 1 67 := ⟨by decide +kernel, rfl⟩
theorem dX7_writeSlide_67 : Ins mX7_writeSlide 67 (.iadd) 1 68 := ⟨by decide +kernel, rfl⟩
theorem dX7_writeSlide_68 : Ins mX7_writeSlide 68 (.iload_n 1) 1 69 := ⟨by decide +kernel, rfl⟩
theorem dX7_writeSlide_69 : Ins mX7_writeSlide 69 (.iastore) 1 70 := ⟨by decide +kernel, rfl⟩
theorem dX7_writeSlide_70 : Ins mX7_writeSlide 70 (.aload_n 0) 1 71 := ⟨by decide +kernel, rfl⟩
theorem dX7_writeSlide_71 : GgR mX7_writeSlide 71 74 6 0 := ⟨0, rfl, ⟨11, _, by decide +kernel, rfl, rfl, by decide, tb_1 (List.mem_of_getElem? (i := 41) (by decide +kernel)) rfl⟩, by decide, rfl⟩
theorem dX7_writeSlide_74 : Ins mX7_writeSlide 74 (.bipush 34) 2 76 := ⟨by decide +kernel, rfl⟩
theorem dX7_writeSlide_76 : Ins mX7_writeSlide 76 (.iload_n 2) 1 77 := ⟨by decide +kernel, rfl⟩
theorem dX7_writeSlide_77 : Ins mX7_writeSlide 77 (.iconst 1) 1 78 := ⟨by decide +kernel, rfl⟩
theorem dX7_writeSlide_78 : Ins mX7_writeSlide 78 (.iadd) 1 79 := ⟨by decide +kernel, rfl⟩
theorem dX7_writeSlide_79 : Ins mX7_writeSlide 79 (.iastore) 1 80 := ⟨by decide +kernel, rfl⟩
theorem dX7_writeSlide_80 : Ins mX7_writeSlide 80 (.return_) 1 81 := ⟨by decide +kernel, rfl⟩
theorem dX8_init_0 : Ins mX8_init 0 (.aload_n 0) 1 1 := ⟨by decide +kernel, rfl⟩
theorem dX8_init_1 : Ins mX8_init 1 (.invokespecial 3) 3 4 := ⟨by decide +kernel, rfl⟩
theorem dX8_init_4 : Ins mX8_init 4 (.aload_n 0) 1 5 := ⟨by decide +kernel, rfl⟩
theorem dX8_init_5 : Ins mX8_init 5 (.bipush 8) 2 7 := ⟨by decide +kernel, rfl⟩
theorem dX8_init_7 : Ins mX8_init 7 (.newarray .int) 2 9 := ⟨by decide +kernel, rfl⟩
theorem dX8_init_9 : GpR mX8_init 9 12 7 0 := ⟨0, rfl, _, ⟨9, _, by decide +kernel, rfl, rfl, by decide, tb_1 (List.mem_of_getElem? (i := 85) (by decide +kernel)) rfl, tyX8_ok 0 (by decide), Or.inr ⟨rfl, rfl, rfl⟩⟩, by decide, rfl, Or.inr ⟨_, rfl⟩⟩
theorem dX8_init_12 : Ins mX8_init 12 (.aload_n 0) 1 13 := ⟨by decide +kernel, rfl⟩
theorem dX8_init_13 : Ins mX8_init 13 (.bipush 8) 2 15 := ⟨by decide +kernel, rfl⟩
theorem dX8_init_15 : Ins mX8_init 15 (.newarray .int) 2 17 := ⟨by decide +kernel, rfl⟩
theorem dX8_init_17 : GpR mX8_init 17 20 7 1 := ⟨1, rfl, _, ⟨15, _, by decide +kernel, rfl, rfl, by decide, tb_1 (List.mem_of_getElem? (i := 86) (by decide +kernel)) rfl, tyX8_ok 1 (by decide), Or.inr ⟨rfl, rfl, rfl⟩⟩, by decide, rfl, Or.inr ⟨_, rfl⟩⟩
theorem dX8_init_20 : Ins mX8_init 20 (.aload_n 0) 1 21 := ⟨by decide +kernel, rfl⟩
theorem dX8_init_21 : Ins mX8_init 21 (.bipush 8) 2 23 := ⟨by decide +kernel, rfl⟩
theorem dX8_init_23 : Ins mX8_init 23 (.newarray .int) 2 25 := ⟨by decide +kernel, rfl⟩
theorem dX8_init_25 : GpR mX8_init 25 28 7 2 := ⟨2, rfl, _, ⟨18, _, by decide +kernel, rfl, rfl, by decide, tb_1 (List.mem_of_getElem? (i := 87) (by decide +kernel)) rfl, tyX8_ok 2 (by decide), Or.inr ⟨rfl, rfl, rfl⟩⟩, by decide, rfl, Or.inr ⟨_, rfl⟩⟩
theorem dX8_init_28 : Ins mX8_init 28 (.aload_n 0) 1 29 := ⟨by decide +kernel, rfl⟩
theorem dX8_init_29 : Ins mX8_init 29 (.iconst 0) 1 30 := ⟨by decide +kernel, rfl⟩
theorem dX8_init_30 : GpI mX8_init 30 33 7 4 := ⟨4, rfl, ⟨21, _, by decide +kernel, rfl, rfl, by decide, tb_1 (List.mem_of_getElem? (i := 89) (by decide +kernel)) rfl, by decide +kernel, Or.inl rfl⟩, by decide, rfl⟩
theorem dX8_init_33 : Ins mX8_init 33 (.aload_n 0) 1 34 := ⟨by decide +kernel, rfl⟩
theorem dX8_init_34 : Ins mX8_init 34 (.iload_n 1) 1 35 := ⟨by decide +kernel, rfl⟩
theorem dX8_init_35 : Ins mX8_init 35 (.bipush 8) 2 37 := ⟨by decide +kernel, rfl⟩
theorem dX8_init_37 : CalM mX8_init 37 40 Lib.Math.min.name Lib.Math.min.code 2 (some .int) := ⟨25, by decide +kernel, rfl, tb_1 (List.mem_of_getElem? (i := 82) (by decide +kernel)) rfl, tb_1 (List.mem_of_getElem? (i := 83) (by decide +kernel)) rfl, tb_1 (List.mem_of_getElem? (i := 6) (by decide +kernel)) rfl, tb_1 (List.mem_of_getElem? (i := 84) rfl) rfl⟩
theorem dX8_init_40 : GpI mX8_init 40 43 7 3 := ⟨3, rfl, ⟨31, _, by decide +kernel, rfl, rfl, by decide, tb_1 (List.mem_of_getElem? (i := 88) (by decide +kernel)) rfl, by decide +kernel, Or.inr ⟨rfl, rfl, rfl⟩⟩, by decide, rfl⟩
theorem dX8_init_43 : Ins mX8_init 43 (.return_) 1 44 := ⟨by decide +kernel, rfl⟩
