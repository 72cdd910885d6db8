-- a fact for each instruction, by wip/whole/gen/ins.py
theorem dX8_add_0 : Ins mX8_add 0 (.aload_n 0) 1 1 := ⟨by decide +kernel, rfl⟩
theorem dX8_add_1 : GgI mX8_add 1 4 7 4 := ⟨4, rfl, ⟨21, _, by decide +kernel, rfl, rfl, by decide, tb_1 (List.mem_of_getElem? (i := 89) (by decide +kernel)) rfl⟩, by decide, rfl⟩
theorem dX8_add_4 : Ins mX8_add 4 (.aload_n 0) 1 5 := ⟨by decide +kernel, rfl⟩
theorem dX8_add_5 : GgI mX8_add 5 8 7 3 := ⟨3, rfl, ⟨31, _, by decide +kernel, rfl, rfl, by decide, tb_1 (List.mem_of_getElem? (i := 88) (by decide +kernel)) rfl⟩, by decide, rfl⟩
theorem dX8_add_8 : Ins mX8_add 8 (.if_icmp .lt 6) 3 11 := ⟨by decide +kernel, rfl⟩
theorem dX8_add_11 : Ins mX8_add 11 (.bipush (-2)) 2 13 := ⟨by decide +kernel, rfl⟩
theorem dX8_add_13 : Ins mX8_add 13 (.ireturn) 1 14 := ⟨by decide +kernel, rfl⟩
theorem dX8_add_14 : Ins mX8_add 14 (.aload_n 0) 1 15 := ⟨by decide +kernel, rfl⟩
theorem dX8_add_15 : GgR mX8_add 15 18 7 0 := ⟨0, rfl, ⟨9, _, by decide +kernel, rfl, rfl, by decide, tb_1 (List.mem_of_getElem? (i := 85) (by decide +kernel)) rfl⟩, by decide, rfl⟩
theorem dX8_add_18 : Ins mX8_add 18 (.aload_n 0) 1 19 := ⟨by decide +kernel, rfl⟩
theorem dX8_add_19 : GgI mX8_add 19 22 7 4 := ⟨4, rfl, ⟨21, _, by decide +kernel, rfl, rfl, by decide, tb_1 (List.mem_of_getElem? (i := 89) (by decide +kernel)) rfl⟩, by decide, rfl⟩
theorem dX8_add_22 : Ins mX8_add 22 (.iload_n 1) 1 23 := ⟨by decide +kernel, rfl⟩
theorem dX8_add_23 : Ins mX8_add 23 (.iastore) 1 24 := ⟨by decide +kernel, rfl⟩
theorem dX8_add_24 : Ins mX8_add 24 (.aload_n 0) 1 25 := ⟨by decide +kernel, rfl⟩
theorem dX8_add_25 : GgR mX8_add 25 28 7 1 := ⟨1, rfl, ⟨15, _, by decide +kernel, rfl, rfl, by decide, tb_1 (List.mem_of_getElem? (i := 86) (by decide +kernel)) rfl⟩, by decide, rfl⟩
theorem dX8_add_28 : Ins mX8_add 28 (.aload_n 0) 1 29 := ⟨by decide +kernel, rfl⟩
theorem dX8_add_29 : GgI mX8_add 29 32 7 4 := ⟨4, rfl, ⟨21, _, by decide +kernel, rfl, rfl, by decide, tb_1 (List.mem_of_getElem? (i := 89) (by decide +kernel)) rfl⟩, by decide, rfl⟩
theorem dX8_add_32 : Ins mX8_add 32 (.iload_n 2) 1 33 := ⟨by decide +kernel, rfl⟩
theorem dX8_add_33 : Ins mX8_add 33 (.iastore) 1 34 := ⟨by decide +kernel, rfl⟩
theorem dX8_add_34 : Ins mX8_add 34 (.aload_n 0) 1 35 := ⟨by decide +kernel, rfl⟩
theorem dX8_add_35 : GgR mX8_add 35 38 7 2 := ⟨2, rfl, ⟨18, _, by decide +kernel, rfl, rfl, by decide, tb_1 (List.mem_of_getElem? (i := 87) (by decide +kernel)) rfl⟩, by decide, rfl⟩
theorem dX8_add_38 : Ins mX8_add 38 (.aload_n 0) 1 39 := ⟨by decide +kernel, rfl⟩
theorem dX8_add_39 : GgI mX8_add 39 42 7 4 := ⟨4, rfl, ⟨21, _, by decide +kernel, rfl, rfl, by decide, tb_1 (List.mem_of_getElem? (i := 89) (by decide +kernel)) rfl⟩, by decide, rfl⟩
theorem dX8_add_42 : Ins mX8_add 42 (.iload_n 3) 1 43 := ⟨by decide +kernel, rfl⟩
theorem dX8_add_43 : Ins mX8_add 43 (.iastore) 1 44 := ⟨by decide +kernel, rfl⟩
theorem dX8_add_44 : Ins mX8_add 44 (.aload_n 0) 1 45 := ⟨by decide +kernel, rfl⟩
theorem dX8_add_45 : Ins mX8_add 45 (.dup) 1 46 := ⟨by decide +kernel, rfl⟩
theorem dX8_add_46 : GgI mX8_add 46 49 7 4 := ⟨4, rfl, ⟨21, _, by decide +kernel, rfl, rfl, by decide, tb_1 (List.mem_of_getElem? (i := 89) (by decide +kernel)) rfl⟩, by decide, rfl⟩
theorem dX8_add_49 : Ins mX8_add 49 (.iconst 1) 1 50 := ⟨by decide +kernel, rfl⟩
theorem dX8_add_50 : Ins mX8_add 50 (.iadd) 1 51 := ⟨by decide +kernel, rfl⟩
theorem dX8_add_51 : GpI mX8_add 51 54 7 4 := ⟨4, rfl, ⟨21, _, by decide +kernel, rfl, rfl, by decide, tb_1 (List.mem_of_getElem? (i := 89) (by decide +kernel)) rfl, by decide +kernel, Or.inl rfl⟩, by decide, rfl⟩
theorem dX8_add_54 : Ins mX8_add 54 (.aload_n 0) 1 55 := ⟨by decide +kernel, rfl⟩
theorem dX8_add_55 : GgI mX8_add 55 58 7 4 := ⟨4, rfl, ⟨21, _, by decide +kernel, rfl, rfl, by decide, tb_1 (List.mem_of_getElem? (i := 89) (by decide +kernel)) rfl⟩, by decide, rfl⟩
theorem dX8_add_58 : Ins mX8_add 58 (.ireturn) 1 59 := ⟨by decide +kernel, rfl⟩
theorem dX8_forget_0 : Ins mX8_forget 0 (.aload_n 0) 1 1 := ⟨by decide +kernel, rfl⟩
theorem dX8_forget_1 : Ins mX8_forget 1 (.iconst 0) 1 2 := ⟨by decide +kernel, rfl⟩
theorem dX8_forget_2 : GpI mX8_forget 2 5 7 4 := ⟨4, rfl, ⟨21, _, by decide +kernel, rfl, rfl, by decide, tb_1 (List.mem_of_getElem? (i := 89) (by decide +kernel)) rfl, by decide +kernel, Or.inl rfl⟩, by decide, rfl⟩
theorem dX8_forget_5 : Ins mX8_forget 5 (.aload_n 0) 1 6 := ⟨by decide +kernel, rfl⟩
theorem dX8_forget_6 : GgI mX8_forget 6 9 7 4 := ⟨4, rfl, ⟨21, _, by decide +kernel, rfl, rfl, by decide, tb_1 (List.mem_of_getElem? (i := 89) (by decide +kernel)) rfl⟩, by decide, rfl⟩
theorem dX8_forget_9 : Ins mX8_forget 9 (.ireturn) 1 10 := ⟨by decide +kernel, rfl⟩
theorem dX8_firstOf_0 : Ins mX8_firstOf 0 (.iload_n 1) 1 1 := ⟨by decide +kernel, rfl⟩
theorem dX8_firstOf_1 : Ins mX8_firstOf 1 (.ifCond .lt 20) 3 4 := ⟨by decide +kernel, rfl⟩
theorem dX8_firstOf_4 : Ins mX8_firstOf 4 (.iload_n 1) 1 5 := ⟨by decide +kernel, rfl⟩
theorem dX8_firstOf_5 : Ins mX8_firstOf 5 (.aload_n 0) 1 6 := ⟨by decide +kernel, rfl⟩
theorem dX8_firstOf_6 : GgI mX8_firstOf 6 9 7 4 := ⟨4, rfl, ⟨21, _, by decide +kernel, rfl, rfl, by decide, tb_1 (List.mem_of_getElem? (i := 89) (by decide +kernel)) rfl⟩, by decide, rfl⟩
theorem dX8_firstOf_9 : Ins mX8_firstOf 9 (.if_icmp .ge 12) 3 12 := ⟨by decide +kernel, rfl⟩
theorem dX8_firstOf_12 : Ins mX8_firstOf 12 (.aload_n 0) 1 13 := ⟨by decide +kernel, rfl⟩
theorem dX8_firstOf_13 : GgR mX8_firstOf 13 16 7 0 := ⟨0, rfl, ⟨9, _, by decide +kernel, rfl, rfl, by decide, tb_1 (List.mem_of_getElem? (i := 85) (by decide +kernel)) rfl⟩, by decide, rfl⟩
theorem dX8_firstOf_16 : Ins mX8_firstOf 16 (.iload_n 1) 1 17 := ⟨by decide +kernel, rfl⟩
theorem dX8_firstOf_17 : Ins mX8_firstOf 17 (.iaload) 1 18 := ⟨by decide +kernel, rfl⟩
theorem dX8_firstOf_18 : Ins mX8_firstOf 18 (.goto 4) 3 21 := ⟨by decide +kernel, rfl⟩
theorem dX8_firstOf_21 : Ins mX8_firstOf 21 (.iconst 0) 1 22 := ⟨by decide +kernel, rfl⟩
theorem dX8_firstOf_22 : Ins mX8_firstOf 22 (.ireturn) 1 23 := ⟨by decide +kernel, rfl⟩
theorem dX8_secondOf_0 : Ins mX8_secondOf 0 (.iload_n 1) 1 1 := ⟨by decide +kernel, rfl⟩
theorem dX8_secondOf_1 : Ins mX8_secondOf 1 (.ifCond .lt 20) 3 4 := ⟨by decide +kernel, rfl⟩
theorem dX8_secondOf_4 : Ins mX8_secondOf 4 (.iload_n 1) 1 5 := ⟨by decide +kernel, rfl⟩
theorem dX8_secondOf_5 : Ins mX8_secondOf 5 (.aload_n 0) 1 6 := ⟨by decide +kernel, rfl⟩
theorem dX8_secondOf_6 : GgI mX8_secondOf 6 9 7 4 := ⟨4, rfl, ⟨21, _, by decide +kernel, rfl, rfl, by decide, tb_1 (List.mem_of_getElem? (i := 89) (by decide +kernel)) rfl⟩, by decide, rfl⟩
theorem dX8_secondOf_9 : Ins mX8_secondOf 9 (.if_icmp .ge 12) 3 12 := ⟨by decide +kernel, rfl⟩
theorem dX8_secondOf_12 : Ins mX8_secondOf 12 (.aload_n 0) 1 13 := ⟨by decide +kernel, rfl⟩
theorem dX8_secondOf_13 : GgR mX8_secondOf 13 16 7 1 := ⟨1, rfl, ⟨15, _, by decide +kernel, rfl, rfl, by decide, tb_1 (List.mem_of_getElem? (i := 86) (by decide +kernel)) rfl⟩, by decide, rfl⟩
theorem dX8_secondOf_16 : Ins mX8_secondOf 16 (.iload_n 1) 1 17 := ⟨by decide +kernel, rfl⟩
theorem dX8_secondOf_17 : Ins mX8_secondOf 17 (.iaload) 1 18 := ⟨by decide +kernel, rfl⟩
theorem dX8_secondOf_18 : Ins mX8_secondOf 18 (.goto 4) 3 21 := ⟨by decide +kernel, rfl⟩
theorem dX8_secondOf_21 : Ins mX8_secondOf 21 (.iconst 0) 1 22 := ⟨by decide +kernel, rfl⟩
theorem dX8_secondOf_22 : Ins mX8_secondOf 22 (.ireturn) 1 23 := ⟨by decide +kernel, rfl⟩
theorem dX8_thirdOf_0 : Ins mX8_thirdOf 0 (.iload_n 1) 1 1 := ⟨by decide +kernel, rfl⟩
theorem dX8_thirdOf_1 : Ins mX8_thirdOf 1 (.ifCond .lt 20) 3 4 := ⟨by decide +kernel, rfl⟩
theorem dX8_thirdOf_4 : Ins mX8_thirdOf 4 (.iload_n 1) 1 5 := ⟨by decide +kernel, rfl⟩
theorem dX8_thirdOf_5 : Ins mX8_thirdOf 5 (.aload_n 0) 1 6 := ⟨by decide +kernel, rfl⟩
theorem dX8_thirdOf_6 : GgI mX8_thirdOf 6 9 7 4 := ⟨4, rfl, ⟨21, _, by decide +kernel, rfl, rfl, by decide, tb_1 (List.mem_of_getElem? (i := 89) (by decide +kernel)) rfl⟩, by decide, rfl⟩
theorem dX8_thirdOf_9 : Ins mX8_thirdOf 9 (.if_icmp .ge 12) 3 12 := ⟨by decide +kernel, rfl⟩
theorem dX8_thirdOf_12 : Ins mX8_thirdOf 12 (.aload_n 0) 1 13 := ⟨by decide +kernel, rfl⟩
theorem dX8_thirdOf_13 : GgR mX8_thirdOf 13 16 7 2 := ⟨2, rfl, ⟨18, _, by decide +kernel, rfl, rfl, by decide, tb_1 (List.mem_of_getElem? (i := 87) (by decide +kernel)) rfl⟩, by decide, rfl⟩
theorem dX8_thirdOf_16 : Ins mX8_thirdOf 16 (.iload_n 1) 1 17 := ⟨by decide +kernel, rfl⟩
theorem dX8_thirdOf_17 : Ins mX8_thirdOf 17 (.iaload) 1 18 := ⟨by decide +kernel, rfl⟩
theorem dX8_thirdOf_18 : Ins mX8_thirdOf 18 (.goto 4) 3 21 := ⟨by decide +kernel, rfl⟩
theorem dX8_thirdOf_21 : Ins mX8_thirdOf 21 (.iconst 0) 1 22 := ⟨by decide +kernel, rfl⟩
theorem dX8_thirdOf_22 : Ins mX8_thirdOf 22 (.ireturn) 1 23 := ⟨by decide +kernel, rfl⟩
theorem dX8_copyFrom_0 : Ins mX8_copyFrom 0 (.aload_n 1) 1 1 := ⟨by decide +kernel, rfl⟩
theorem dX8_copyFrom_1 : GgR mX8_copyFrom 1 4 7 0 := ⟨0, rfl, ⟨9, _, by decide +kernel, rfl, rfl, by decide, tb_1 (List.mem_of_getElem? (i := 85) (by decide +kernel)) rfl⟩, by decide, rfl⟩
theorem dX8_copyFrom_4 : Ins mX8_copyFrom 4 (.iconst 0) 1 5 := ⟨by decide +kernel, rfl⟩
theorem dX8_copyFrom_5 : Ins mX8_copyFrom 5 (.aload_n 0) 1 6 := ⟨by decide +kernel, rfl⟩
theorem dX8_copyFrom_6 : GgR mX8_copyFrom 6 9 7 0 := ⟨0, rfl, ⟨9, _, by decide +kernel, rfl, rfl, by decide, tb_1 (List.mem_of_getElem? (i := 85) (by decide +kernel)) rfl⟩, by decide, rfl⟩
theorem dX8_copyFrom_9 : Ins mX8_copyFrom 9 (.iconst 0) 1 10 := ⟨by decide +kernel, rfl⟩
theorem dX8_copyFrom_10 : Ins mX8_copyFrom 10 (.bipush 8) 2 12 := ⟨by decide +kernel, rfl⟩
theorem dX8_copyFrom_12 : CalA mX8_copyFrom 12 15 := ⟨34, by decide +kernel, rfl, tb_5 (List.mem_of_getElem? (i := 178) (by decide +kernel)) rfl, tb_3 (List.mem_of_getElem? (i := 133) (by decide +kernel)) rfl, tb_3 (List.mem_of_getElem? (i := 132) (by decide +kernel)) rfl, tb_1 (List.mem_of_getElem? (i := 18) (by decide +kernel)) rfl⟩
theorem dX8_copyFrom_15 : Ins mX8_copyFrom 15 (.aload_n 1) 1 16 := ⟨by decide +kernel, rfl⟩
theorem dX8_copyFrom_16 : GgR mX8_copyFrom 16 19 7 1 := ⟨1, rfl, ⟨15, _, by decide +kernel, rfl, rfl, by decide, tb_1 (List.mem_of_getElem? (i := 86) (by decide +kernel)) rfl⟩, by decide, rfl⟩
theorem dX8_copyFrom_19 : Ins mX8_copyFrom 19 (.iconst 0) 1 20 := ⟨by decide +kernel, rfl⟩
theorem dX8_copyFrom_20 : Ins mX8_copyFrom 20 (.aload_n 0) 1 21 := ⟨by decide +kernel, rfl⟩
theorem dX8_copyFrom_21 : GgR mX8_copyFrom 21 24 7 1 := ⟨1, rfl, ⟨15, _, by decide +kernel, rfl, rfl, by decide, tb_1 (List.mem_of_getElem? (i := 86) (by decide +kernel)) rfl⟩, by decide, rfl⟩
theorem dX8_copyFrom_24 : Ins mX8_copyFrom 24 (.iconst 0) 1 25 := ⟨by decide +kernel, rfl⟩
theorem dX8_copyFrom_25 : Ins mX8_copyFrom 25 (.bipush 8) 2 27 := ⟨by decide +kernel, rfl⟩
theorem dX8_copyFrom_27 : CalA mX8_copyFrom 27 30 := ⟨34, by decide +kernel, rfl, tb_5 (List.mem_of_getElem? (i := 178) (by decide +kernel)) rfl, tb_3 (List.mem_of_getElem? (i := 133) (by decide +kernel)) rfl, tb_3 (List.mem_of_getElem? (i := 132) (by decide +kernel)) rfl, tb_1 (List.mem_of_getElem? (i := 18) (by decide +kernel)) rfl⟩
theorem dX8_copyFrom_30 : Ins mX8_copyFrom 30 (.aload_n 1) 1 31 := ⟨by decide +kernel, rfl⟩
theorem dX8_copyFrom_31 : GgR mX8_copyFrom 31 34 7 2 := ⟨2, rfl, ⟨18, _, by decide +kernel, rfl, rfl, by decide, tb_1 (List.mem_of_getElem? (i := 87) (by decide +kernel)) rfl⟩, by decide, rfl⟩
theorem dX8_copyFrom_34 : Ins mX8_copyFrom 34 (.iconst 0) 1 35 := ⟨by decide +kernel, rfl⟩
theorem dX8_copyFrom_35 : Ins mX8_copyFrom 35 (.aload_n 0) 1 36 := ⟨by decide +kernel, rfl⟩
theorem dX8_copyFrom_36 : GgR mX8_copyFrom 36 39 7 2 := ⟨2, rfl, ⟨18, _, by decide +kernel, rfl, rfl, by decide, tb_1 (List.mem_of_getElem? (i := 87) (by decide +kernel)) rfl⟩, by decide, rfl⟩
theorem dX8_copyFrom_39 : Ins mX8_copyFrom 39 (.iconst 0) 1 40 := ⟨by decide +kernel, rfl⟩
theorem dX8_copyFrom_40 : Ins mX8_copyFrom 40 (.bipush 8) 2 42 := ⟨by decide +kernel, rfl⟩
theorem dX8_copyFrom_42 : CalA mX8_copyFrom 42 45 := ⟨34, by decide +kernel, rfl, tb_5 (List.mem_of_getElem? (i := 178) (by decide +kernel)) rfl, tb_3 (List.mem_of_getElem? (i := 133) (by decide +kernel)) rfl, tb_3 (List.mem_of_getElem? (i := 132) (by decide +kernel)) rfl, tb_1 (List.mem_of_getElem? (i := 18) (by decide +kernel)) rfl⟩
theorem dX8_copyFrom_45 : Ins mX8_copyFrom 45 (.aload_n 0) 1 46 := ⟨by decide +kernel, rfl⟩
theorem dX8_copyFrom_46 : Ins mX8_copyFrom 46 (.aload_n 1) 1 47 := ⟨by decide +kernel, rfl⟩
theorem dX8_copyFrom_47 : GgI mX8_copyFrom 47 50 7 4 := ⟨4, rfl, ⟨21, _, by decide +kernel, rfl, rfl, by decide, tb_1 (List.mem_of_getElem? (i := 89) (by decide +kernel)) rfl⟩, by decide, rfl⟩
theorem dX8_copyFrom_50 : GpI mX8_copyFrom 50 53 7 4 := ⟨4, rfl, ⟨21, _, by decide +kernel, rfl, rfl, by decide, tb_1 (List.mem_of_getElem? (i := 89) (by decide +kernel)) rfl, by decide +kernel, Or.inl rfl⟩, by decide, rfl⟩
theorem dX8_copyFrom_53 : Ins mX8_copyFrom 53 (.return_) 1 54 := ⟨by decide +kernel, rfl⟩
theorem dX9_init_0 : Ins mX9_init 0 (.aload_n 0) 1 1 := ⟨by decide +kernel, rfl⟩
theorem dX9_init_1 : Ins mX9_init 1 (.invokespecial 3) 3 4 := ⟨by decide +kernel, rfl⟩
theorem dX9_init_4 : Ins mX9_init 4 (.aload_n 0) 1 5 := ⟨by decide +kernel, rfl⟩
theorem dX9_init_5 : Ins mX9_init 5 (.new 9) 3 8 := ⟨by decide +kernel, rfl⟩
theorem dX9_init_8 : Ins mX9_init 8 (.dup) 1 9 := ⟨by decide +kernel, rfl⟩
theorem dX9_init_9 : CalC mX9_init 9 12 mX7_init := ⟨11, by decide +kernel, rfl, Or.inl (tb_1 (List.mem_of_getElem? (i := 37) (by decide +kernel)) rfl), meX7_init⟩
theorem dX9_init_12 : GpR mX9_init 12 15 8 0 := ⟨0, rfl, _, ⟨12, _, by decide +kernel, rfl, rfl, by decide, tb_1 (List.mem_of_getElem? (i := 104) (by decide +kernel)) rfl, tyX9_ok 0 (by decide), Or.inr ⟨rfl, rfl, rfl⟩⟩, by decide, rfl, Or.inl ⟨_, rfl⟩⟩
theorem dX9_init_15 : Ins mX9_init 15 (.aload_n 0) 1 16 := ⟨by decide +kernel, rfl⟩
theorem dX9_init_16 : Ins mX9_init 16 (.new 18) 3 19 := ⟨by decide +kernel, rfl⟩
theorem dX9_init_19 : Ins mX9_init 19 (.dup) 1 20 := ⟨by decide +kernel, rfl⟩
theorem dX9_init_20 : CalC mX9_init 20 23 mX6_init := ⟨20, by decide +kernel, rfl, Or.inr ⟨"RockingGuard", List.mem_of_getElem? (i := 10) (by decide +kernel)⟩, meX6_init⟩
theorem dX9_init_23 : GpR mX9_init 23 26 8 1 := ⟨1, rfl, _, ⟨21, _, by decide +kernel, rfl, rfl, by decide, tb_1 (List.mem_of_getElem? (i := 106) (by decide +kernel)) rfl, tyX9_ok 1 (by decide), Or.inr ⟨rfl, rfl, rfl⟩⟩, by decide, rfl, Or.inl ⟨_, rfl⟩⟩
theorem dX9_init_26 : Ins mX9_init 26 (.aload_n 0) 1 27 := ⟨by decide +kernel, rfl⟩
theorem dX9_init_27 : Ins mX9_init 27 (.new 25) 3 30 := ⟨by decide +kernel, rfl⟩
theorem dX9_init_30 : Ins mX9_init 30 (.dup) 1 31 := ⟨by decide +kernel, rfl⟩
theorem dX9_init_31 : Ins mX9_init 31 (.bipush 8) 2 33 := ⟨by decide +kernel, rfl⟩
theorem dX9_init_33 : CalC mX9_init 33 36 mX8_init := ⟨27, by decide +kernel, rfl, Or.inl (tb_1 (List.mem_of_getElem? (i := 78) (by decide +kernel)) rfl), meX8_init⟩
theorem dX9_init_36 : GpR mX9_init 36 39 8 2 := ⟨2, rfl, _, ⟨30, _, by decide +kernel, rfl, rfl, by decide, tb_1 (List.mem_of_getElem? (i := 108) (by decide +kernel)) rfl, tyX9_ok 2 (by decide), Or.inr ⟨rfl, rfl, rfl⟩⟩, by decide, rfl, Or.inl ⟨_, rfl⟩⟩
theorem dX9_init_39 : Ins mX9_init 39 (.aload_n 0) 1 40 := ⟨by decide +kernel, rfl⟩
theorem dX9_init_40 : Ins mX9_init 40 (.new 25) 3 43 := ⟨by decide +kernel, rfl⟩
theorem dX9_init_43 : Ins mX9_init 43 (.dup) 1 44 := ⟨by decide +kernel, rfl⟩
theorem dX9_init_44 : Ins mX9_init 44 (.bipush 6) 2 46 := ⟨by decide +kernel, rfl⟩
theorem dX9_init_46 : CalC mX9_init 46 49 mX8_init := ⟨27, by decide +kernel, rfl, Or.inl (tb_1 (List.mem_of_getElem? (i := 78) (by decide +kernel)) rfl), meX8_init⟩
theorem dX9_init_49 : GpR mX9_init 49 52 8 3 := ⟨3, rfl, _, ⟨34, _, by decide +kernel, rfl, rfl, by decide, tb_1 (List.mem_of_getElem? (i := 110) (by decide +kernel)) rfl, tyX9_ok 3 (by decide), Or.inr ⟨rfl, rfl, rfl⟩⟩, by decide, rfl, Or.inl ⟨_, rfl⟩⟩
theorem dX9_init_52 : Ins mX9_init 52 (.aload_n 0) 1 53 := ⟨by decide +kernel, rfl⟩
theorem dX9_init_53 : Ins mX9_init 53 (.new 25) 3 56 := ⟨by decide +kernel, rfl⟩
theorem dX9_init_56 : Ins mX9_init 56 (.dup) 1 57 := ⟨by decide +kernel, rfl⟩
theorem dX9_init_57 : Ins mX9_init 57 (.bipush 8) 2 59 := ⟨by decide +kernel, rfl⟩
theorem dX9_init_59 : CalC mX9_init 59 62 mX8_init := ⟨27, by decide +kernel, rfl, Or.inl (tb_1 (List.mem_of_getElem? (i := 78) (by decide +kernel)) rfl), meX8_init⟩
theorem dX9_init_62 : GpR mX9_init 62 65 8 4 := ⟨4, rfl, _, ⟨37, _, by decide +kernel, rfl, rfl, by decide, tb_1 (List.mem_of_getElem? (i := 112) (by decide +kernel)) rfl, tyX9_ok 4 (by decide), Or.inr ⟨rfl, rfl, rfl⟩⟩, by decide, rfl, Or.inl ⟨_, rfl⟩⟩
theorem dX9_init_65 : Ins mX9_init 65 (.aload_n 0) 1 66 := ⟨by decide +kernel, rfl⟩
theorem dX9_init_66 : Ins mX9_init 66 (.new 25) 3 69 := ⟨by decide +kernel, rfl⟩
theorem dX9_init_69 : Ins mX9_init 69 (.dup) 1 70 := ⟨by decide +kernel, rfl⟩
theorem dX9_init_70 : Ins mX9_init 70 (.bipush 8) 2 72 := ⟨by decide +kernel, rfl⟩
theorem dX9_init_72 : CalC mX9_init 72 75 mX8_init := ⟨27, by decide +kernel, rfl, Or.inl (tb_1 (List.mem_of_getElem? (i := 78) (by decide +kernel)) rfl), meX8_init⟩
theorem dX9_init_75 : GpR mX9_init 75 78 8 5 := ⟨5, rfl, _, ⟨40, _, by decide +kernel, rfl, rfl, by decide, tb_1 (List.mem_of_getElem? (i := 114) (by decide +kernel)) rfl, tyX9_ok 5 (by decide), Or.inr ⟨rfl, rfl, rfl⟩⟩, by decide, rfl, Or.inl ⟨_, rfl⟩⟩
theorem dX9_init_78 : Ins mX9_init 78 (.aload_n 0) 1 79 := ⟨by decide +kernel, rfl⟩
theorem dX9_init_79 : Ins mX9_init 79 (.iconst 0) 1 80 := ⟨by decide +kernel, rfl⟩
theorem dX9_init_80 : GpI mX9_init 80 83 8 6 := ⟨6, rfl, ⟨43, _, by decide +kernel, rfl, rfl, by decide, tb_1 (List.mem_of_getElem? (i := 116) (by decide +kernel)) rfl, by decide +kernel, Or.inl rfl⟩, by decide, rfl⟩
theorem dX9_init_83 : Ins mX9_init 83 (.aload_n 0) 1 84 := ⟨by decide +kernel, rfl⟩
theorem dX9_init_84 : Ins mX9_init 84 (.iconst (-1)) 1 85 := ⟨by decide +kernel, rfl⟩
theorem dX9_init_85 : GpI mX9_init 85 88 8 7 := ⟨7, rfl, ⟨47, _, by decide +kernel, rfl, rfl, by decide, tb_1 (List.mem_of_getElem? (i := 118) (by decide +kernel)) rfl, by decide +kernel, Or.inl rfl⟩, by decide, rfl⟩
theorem dX9_init_88 : Ins mX9_init 88 (.return_) 1 89 := ⟨by decide +kernel, rfl⟩
theorem dX9_copyFrom_0 : Ins mX9_copyFrom 0 (.aload_n 0) 1 1 := ⟨by decide +kernel, rfl⟩
theorem dX9_copyFrom_1 : GgR mX9_copyFrom 1 4 8 0 := ⟨0, rfl, ⟨12, _, by decide +kernel, rfl, rfl, by decide, tb_1 (List.mem_of_getElem? (i := 104) (by decide +kernel)) rfl⟩, by decide, rfl⟩
theorem dX9_copyFrom_4 : Ins mX9_copyFrom 4 (.aload_n 1) 1 5 := ⟨by decide +kernel, rfl⟩
theorem dX9_copyFrom_5 : GgR mX9_copyFrom 5 8 8 0 := ⟨0, rfl, ⟨12, _, by decide +kernel, rfl, rfl, by decide, tb_1 (List.mem_of_getElem? (i := 104) (by decide +kernel)) rfl⟩, by decide, rfl⟩
theorem dX9_copyFrom_8 : CalV mX9_copyFrom 8 11 mX7_copyFrom := ⟨50, by decide +kernel, rfl, tb_5 (List.mem_of_getElem? (i := 169) (by decide +kernel)) rfl, meX7_copyFrom⟩
theorem dX9_copyFrom_11 : Ins mX9_copyFrom 11 (.aload_n 0) 1 12 := ⟨by decide +kernel, rfl⟩
theorem dX9_copyFrom_12 : GgR mX9_copyFrom 12 15 8 1 := ⟨1, rfl, ⟨21, _, by decide +kernel, rfl, rfl, by decide, tb_1 (List.mem_of_getElem? (i := 106) (by decide +kernel)) rfl⟩, by decide, rfl⟩
theorem dX9_copyFrom_15 : Ins mX9_copyFrom 15 (.aload_n 1) 1 16 := ⟨by decide +kernel, rfl⟩
theorem dX9_copyFrom_16 : GgR mX9_copyFrom 16 19 8 1 := ⟨1, rfl, ⟨21, _, by decide +kernel, rfl, rfl, by decide, tb_1 (List.mem_of_getElem? (i := 106) (by decide +kernel)) rfl⟩, by decide, rfl⟩
theorem dX9_copyFrom_19 : CalV mX9_copyFrom 19 22 mX6_copyFrom := ⟨54, by decide +kernel, rfl, tb_5 (List.mem_of_getElem? (i := 170) (by decide +kernel)) rfl, meX6_copyFrom⟩
theorem dX9_copyFrom_22 : Ins mX9_copyFrom 22 (.aload_n 0) 1 23 := ⟨by decide +kernel, rfl⟩
theorem dX9_copyFrom_23 : GgR mX9_copyFrom 23 26 8 2 := ⟨2, rfl, ⟨30, _, by decide +kernel, rfl, rfl, by decide, tb_1 (List.mem_of_getElem? (i := 108) (by decide +kernel)) rfl⟩, by decide, rfl⟩
theorem dX9_copyFrom_26 : Ins mX9_copyFrom 26 (.aload_n 1) 1 27 := ⟨by decide +kernel, rfl⟩
theorem dX9_copyFrom_27 : GgR mX9_copyFrom 27 30 8 2 := ⟨2, rfl, ⟨30, _, by decide +kernel, rfl, rfl, by decide, tb_1 (List.mem_of_getElem? (i := 108) (by decide +kernel)) rfl⟩, by decide, rfl⟩
theorem dX9_copyFrom_30 : CalV mX9_copyFrom 30 33 mX8_copyFrom := ⟨57, by decide +kernel, rfl, tb_5 (List.mem_of_getElem? (i := 174) (by decide +kernel)) rfl, meX8_copyFrom⟩
theorem dX9_copyFrom_33 : Ins mX9_copyFrom 33 (.aload_n 0) 1 34 := ⟨by decide +kernel, rfl⟩
theorem dX9_copyFrom_34 : GgR mX9_copyFrom 34 37 8 3 := ⟨3, rfl, ⟨34, _, by decide +kernel, rfl, rfl, by decide, tb_1 (List.mem_of_getElem? (i := 110) (by decide +kernel)) rfl⟩, by decide, rfl⟩
theorem dX9_copyFrom_37 : Ins mX9_copyFrom 37 (.aload_n 1) 1 38 := ⟨by decide +kernel, rfl⟩
theorem dX9_copyFrom_38 : GgR mX9_copyFrom 38 41 8 3 := ⟨3, rfl, ⟨34, _, by decide +kernel, rfl, rfl, by decide, tb_1 (List.mem_of_getElem? (i := 110) (by decide +kernel)) rfl⟩, by decide, rfl⟩
theorem dX9_copyFrom_41 : CalV mX9_copyFrom 41 44 mX8_copyFrom := ⟨57, by decide +kernel, rfl, tb_5 (List.mem_of_getElem? (i := 174) (by decide +kernel)) rfl, meX8_copyFrom⟩
theorem dX9_copyFrom_44 : Ins mX9_copyFrom 44 (.aload_n 0) 1 45 := ⟨by decide +kernel, rfl⟩
theorem dX9_copyFrom_45 : GgR mX9_copyFrom 45 48 8 4 := ⟨4, rfl, ⟨37, _, by decide +kernel, rfl, rfl, by decide, tb_1 (List.mem_of_getElem? (i := 112) (by decide +kernel)) rfl⟩, by decide, rfl⟩
theorem dX9_copyFrom_48 : Ins mX9_copyFrom 48 (.aload_n 1) 1 49 := ⟨by decide +kernel, rfl⟩
theorem dX9_copyFrom_49 : GgR mX9_copyFrom 49 52 8 4 := ⟨4, rfl, ⟨37, _, by decide +kernel, rfl, rfl, by decide, tb_1 (List.mem_of_getElem? (i := 112) (by decide +kernel)) rfl⟩, by decide, rfl⟩
theorem dX9_copyFrom_52 : CalV mX9_copyFrom 52 55 mX8_copyFrom := ⟨57, by decide +kernel, rfl, tb_5 (List.mem_of_getElem? (i := 174) (by decide +kernel)) rfl, meX8_copyFrom⟩
theorem dX9_copyFrom_55 : Ins mX9_copyFrom 55 (.aload_n 0) 1 56 := ⟨by decide +kernel, rfl⟩
theorem dX9_copyFrom_56 : GgR mX9_copyFrom 56 59 8 5 := ⟨5, rfl, ⟨40, _, by decide +kernel, rfl, rfl, by decide, tb_1 (List.mem_of_getElem? (i := 114) (by decide +kernel)) rfl⟩, by decide, rfl⟩
theorem dX9_copyFrom_59 : Ins mX9_copyFrom 59 (.aload_n 1) 1 60 := ⟨by decide +kernel, rfl⟩
theorem dX9_copyFrom_60 : GgR mX9_copyFrom 60 63 8 5 := ⟨5, rfl, ⟨40, _, by decide +kernel, rfl, rfl, by decide, tb_1 (List.mem_of_getElem? (i := 114) (by decide +kernel)) rfl⟩, by decide, rfl⟩
theorem dX9_copyFrom_63 : CalV mX9_copyFrom 63 66 mX8_copyFrom := ⟨57, by decide +kernel, rfl, tb_5 (List.mem_of_getElem? (i := 174) (by decide +kernel)) rfl, meX8_copyFrom⟩
theorem dX9_copyFrom_66 : Ins mX9_copyFrom 66 (.aload_n 0) 1 67 := ⟨by decide +kernel, rfl⟩
theorem dX9_copyFrom_67 : Ins mX9_copyFrom 67 (.aload_n 1) 1 68 := ⟨by decide +kernel, rfl⟩
theorem dX9_copyFrom_68 : GgI mX9_copyFrom 68 71 8 6 := ⟨6, rfl, ⟨43, _, by decide +kernel, rfl, rfl, by decide, tb_1 (List.mem_of_getElem? (i := 116) (by decide +kernel)) rfl⟩, by decide, rfl⟩
theorem dX9_copyFrom_71 : GpI mX9_copyFrom 71 74 8 6 := ⟨6, rfl, ⟨43, _, by decide +kernel, rfl, rfl, by decide, tb_1 (List.mem_of_getElem? (i := 116) (by decide +kernel)) rfl, by decide +kernel, Or.inl rfl⟩, by decide, rfl⟩
theorem dX9_copyFrom_74 : Ins mX9_copyFrom 74 (.aload_n 0) 1 75 := ⟨by decide +kernel, rfl⟩
theorem dX9_copyFrom_75 : Ins mX9_copyFrom 75 (.aload_n 1) 1 76 := ⟨by decide +kernel, rfl⟩
theorem dX9_copyFrom_76 : GgI mX9_copyFrom 76 79 8 7 := ⟨7, rfl, ⟨47, _, by decide +kernel, rfl, rfl, by decide, tb_1 (List.mem_of_getElem? (i := 118) (by decide +kernel)) rfl⟩, by decide, rfl⟩
theorem dX9_copyFrom_79 : GpI mX9_copyFrom 79 82 8 7 := ⟨7, rfl, ⟨47, _, by decide +kernel, rfl, rfl, by decide, tb_1 (List.mem_of_getElem? (i := 118) (by decide +kernel)) rfl, by decide +kernel, Or.inl rfl⟩, by decide, rfl⟩
theorem dX9_copyFrom_82 : Ins mX9_copyFrom 82 (.return_) 1 83 := ⟨by decide +kernel, rfl⟩
theorem dX10_init_0 : Ins mX10_init 0 (.aload_n 0) 1 1 := ⟨by decide +kernel, rfl⟩
theorem dX10_init_1 : Ins mX10_init 1 (.invokespecial 1) 3 4 := ⟨by decide +kernel, rfl⟩
theorem dX10_init_4 : Ins mX10_init 4 (.aload_n 0) 1 5 := ⟨by decide +kernel, rfl⟩
theorem dX10_init_5 : Ins mX10_init 5 (.new 7) 3 8 := ⟨by decide +kernel, rfl⟩
theorem dX10_init_8 : Ins mX10_init 8 (.dup) 1 9 := ⟨by decide +kernel, rfl⟩
theorem dX10_init_9 : CalC mX10_init 9 12 mX9_init := ⟨9, by decide +kernel, rfl, Or.inr ⟨"RockingGuard", List.mem_of_getElem? (i := 5) (by decide +kernel)⟩, meX9_init⟩
theorem dX10_init_12 : GpR mX10_init 12 15 9 0 := ⟨0, rfl, _, ⟨10, _, by decide +kernel, rfl, rfl, by decide, tb_2 (List.mem_of_getElem? (i := 33) (by decide +kernel)) rfl, tyX10_ok 0 (by decide), Or.inr ⟨rfl, rfl, rfl⟩⟩, by decide, rfl, Or.inl ⟨_, rfl⟩⟩
theorem dX10_init_15 : Ins mX10_init 15 (.aload_n 0) 1 16 := ⟨by decide +kernel, rfl⟩
theorem dX10_init_16 : Ins mX10_init 16 (.new 7) 3 19 := ⟨by decide +kernel, rfl⟩
theorem dX10_init_19 : Ins mX10_init 19 (.dup) 1 20 := ⟨by decide +kernel, rfl⟩
theorem dX10_init_20 : CalC mX10_init 20 23 mX9_init := ⟨9, by decide +kernel, rfl, Or.inr ⟨"RockingGuard", List.mem_of_getElem? (i := 5) (by decide +kernel)⟩, meX9_init⟩
theorem dX10_init_23 : GpR mX10_init 23 26 9 1 := ⟨1, rfl, _, ⟨16, _, by decide +kernel, rfl, rfl, by decide, tb_2 (List.mem_of_getElem? (i := 34) (by decide +kernel)) rfl, tyX10_ok 1 (by decide), Or.inr ⟨rfl, rfl, rfl⟩⟩, by decide, rfl, Or.inl ⟨_, rfl⟩⟩
theorem dX10_init_26 : Ins mX10_init 26 (.aload_n 0) 1 27 := ⟨by decide +kernel, rfl⟩
theorem dX10_init_27 : Ins mX10_init 27 (.iconst 4) 1 28 := ⟨by decide +kernel, rfl⟩
theorem dX10_init_28 : Ins mX10_init 28 (.anewarray 19) 3 31 := ⟨by decide +kernel, rfl⟩
theorem dX10_init_31 : GpR mX10_init 31 34 9 2 := ⟨2, rfl, _, ⟨21, _, by decide +kernel, rfl, rfl, by decide, tb_2 (List.mem_of_getElem? (i := 35) (by decide +kernel)) rfl, tyX10_ok 2 (by decide), Or.inr ⟨rfl, rfl, rfl⟩⟩, by decide, rfl, Or.inr ⟨_, rfl⟩⟩
theorem dX10_init_34 : Ins mX10_init 34 (.aload_n 0) 1 35 := ⟨by decide +kernel, rfl⟩
theorem dX10_init_35 : Ins mX10_init 35 (.new 25) 3 38 := ⟨by decide +kernel, rfl⟩
theorem dX10_init_38 : Ins mX10_init 38 (.dup) 1 39 := ⟨by decide +kernel, rfl⟩
theorem dX10_init_39 : CalC mX10_init 39 42 mX3_init := ⟨27, by decide +kernel, rfl, Or.inr ⟨"RockingGuard", List.mem_of_getElem? (i := 0) (by decide +kernel)⟩, meX3_init⟩
theorem dX10_init_42 : GpR mX10_init 42 45 9 3 := ⟨3, rfl, _, ⟨28, _, by decide +kernel, rfl, rfl, by decide, tb_2 (List.mem_of_getElem? (i := 36) (by decide +kernel)) rfl, tyX10_ok 3 (by decide), Or.inr ⟨rfl, rfl, rfl⟩⟩, by decide, rfl, Or.inl ⟨_, rfl⟩⟩
theorem dX10_init_45 : Ins mX10_init 45 (.aload_n 0) 1 46 := ⟨by decide +kernel, rfl⟩
theorem dX10_init_46 : Ins mX10_init 46 (.new 32) 3 49 := ⟨by decide +kernel, rfl⟩
theorem dX10_init_49 : Ins mX10_init 49 (.dup) 1 50 := ⟨by decide +kernel, rfl⟩
theorem dX10_init_50 : CalC mX10_init 50 53 mX1_init := ⟨34, by decide +kernel, rfl, Or.inr ⟨"RockingGuard", List.mem_of_getElem? (i := 1) (by decide +kernel)⟩, meX1_init⟩
theorem dX10_init_53 : GpR mX10_init 53 56 9 4 := ⟨4, rfl, _, ⟨35, _, by decide +kernel, rfl, rfl, by decide, tb_2 (List.mem_of_getElem? (i := 37) (by decide +kernel)) rfl, tyX10_ok 4 (by decide), Or.inr ⟨rfl, rfl, rfl⟩⟩, by decide, rfl, Or.inl ⟨_, rfl⟩⟩
theorem dX10_init_56 : Ins mX10_init 56 (.aload_n 0) 1 57 := ⟨by decide +kernel, rfl⟩
theorem dX10_init_57 : Ins mX10_init 57 (.new 39) 3 60 := ⟨by decide +kernel, rfl⟩
theorem dX10_init_60 : Ins mX10_init 60 (.dup) 1 61 := ⟨by decide +kernel, rfl⟩
theorem dX10_init_61 : CalC mX10_init 61 64 mX7_init := ⟨41, by decide +kernel, rfl, Or.inl (tb_2 (List.mem_of_getElem? (i := 1) (by decide +kernel)) rfl), meX7_init⟩
theorem dX10_init_64 : GpR mX10_init 64 67 9 5 := ⟨5, rfl, _, ⟨42, _, by decide +kernel, rfl, rfl, by decide, tb_2 (List.mem_of_getElem? (i := 38) (by decide +kernel)) rfl, tyX10_ok 5 (by decide), Or.inr ⟨rfl, rfl, rfl⟩⟩, by decide, rfl, Or.inl ⟨_, rfl⟩⟩
theorem dX10_init_67 : Ins mX10_init 67 (.aload_n 0) 1 68 := ⟨by decide +kernel, rfl⟩
theorem dX10_init_68 : Ins mX10_init 68 (.new 46) 3 71 := ⟨by decide +kernel, rfl⟩
theorem dX10_init_71 : Ins mX10_init 71 (.dup) 1 72 := ⟨by decide +kernel, rfl⟩
theorem dX10_init_72 : CalC mX10_init 72 75 mX0_init := ⟨48, by decide +kernel, rfl, Or.inr ⟨"RockingGuard", List.mem_of_getElem? (i := 2) (by decide +kernel)⟩, meX0_init⟩
theorem dX10_init_75 : GpR mX10_init 75 78 9 6 := ⟨6, rfl, _, ⟨49, _, by decide +kernel, rfl, rfl, by decide, tb_2 (List.mem_of_getElem? (i := 39) (by decide +kernel)) rfl, tyX10_ok 6 (by decide), Or.inr ⟨rfl, rfl, rfl⟩⟩, by decide, rfl, Or.inl ⟨_, rfl⟩⟩
theorem dX10_init_78 : Ins mX10_init 78 (.aload_n 0) 1 79 := ⟨by decide +kernel, rfl⟩
theorem dX10_init_79 : Ins mX10_init 79 (.new 53) 3 82 := ⟨by decide +kernel, rfl⟩
theorem dX10_init_82 : Ins mX10_init 82 (.dup) 1 83 := ⟨by decide +kernel, rfl⟩
theorem dX10_init_83 : CalC mX10_init 83 86 mX4_init := ⟨55, by decide +kernel, rfl, Or.inr ⟨"RockingGuard", List.mem_of_getElem? (i := 3) (by decide +kernel)⟩, meX4_init⟩
theorem dX10_init_86 : GpR mX10_init 86 89 9 7 := ⟨7, rfl, _, ⟨56, _, by decide +kernel, rfl, rfl, by decide, tb_2 (List.mem_of_getElem? (i := 40) (by decide +kernel)) rfl, tyX10_ok 7 (by decide), Or.inr ⟨rfl, rfl, rfl⟩⟩, by decide, rfl, Or.inl ⟨_, rfl⟩⟩
theorem dX10_init_89 : Ins mX10_init 89 (.iconst 0) 1 90 := ⟨by decide +kernel, rfl⟩
theorem dX10_init_90 : Ins mX10_init 90 (.istore_n 1) 1 91 := ⟨by decide +kernel, rfl⟩
theorem dX10_init_91 : Ins mX10_init 91 (.iload_n 1) 1 92 := ⟨by decide +kernel, rfl⟩
theorem dX10_init_92 : Ins mX10_init 92 (.iconst 4) 1 93 := ⟨by decide +kernel, rfl⟩
theorem dX10_init_93 : Ins mX10_init 93 (.if_icmp .ge 22) 3 96 := ⟨by decide +kernel, rfl⟩
theorem dX10_init_96 : Ins mX10_init 96 (.aload_n 0) 1 97 := ⟨by decide +kernel, rfl⟩
theorem dX10_init_97 : GgR mX10_init 97 100 9 2 := ⟨2, rfl, ⟨21, _, by decide +kernel, rfl, rfl, by decide, tb_2 (List.mem_of_getElem? (i := 35) (by decide +kernel)) rfl⟩, by decide, rfl⟩
theorem dX10_init_100 : Ins mX10_init 100 (.iload_n 1) 1 101 := ⟨by decide +kernel, rfl⟩
theorem dX10_init_101 : Ins mX10_init 101 (.new 19) 3 104 := ⟨by decide +kernel, rfl⟩
theorem dX10_init_104 : Ins mX10_init 104 (.dup) 1 105 := ⟨by decide +kernel, rfl⟩
theorem dX10_init_105 : CalC mX10_init 105 108 mX5_init := ⟨60, by decide +kernel, rfl, Or.inr ⟨"RockingGuard", List.mem_of_getElem? (i := 4) (by decide +kernel)⟩, meX5_init⟩
theorem dX10_init_108 : Ins mX10_init 108 (.aastore) 1 109 := ⟨by decide +kernel, rfl⟩
theorem dX10_init_109 : Ins mX10_init 109 (.iinc 1 1) 3 112 := ⟨by decide +kernel, rfl⟩
theorem dX10_init_112 : Ins mX10_init 112 (.goto (-21)) 3 115 := ⟨by decide +kernel, rfl⟩
theorem dX10_init_115 : Ins mX10_init 115 (.return_) 1 116 := ⟨by decide +kernel, rfl⟩
theorem dX10_horse_0 : Ins mX10_horse 0 (.aload_n 0) 1 1 := ⟨by decide +kernel, rfl⟩
theorem dX10_horse_1 : GgR mX10_horse 1 4 9 0 := ⟨0, rfl, ⟨10, _, by decide +kernel, rfl, rfl, by decide, tb_2 (List.mem_of_getElem? (i := 33) (by decide +kernel)) rfl⟩, by decide, rfl⟩
theorem dX10_horse_4 : GgR mX10_horse 4 7 8 0 := ⟨0, rfl, ⟨61, _, by decide +kernel, rfl, rfl, by decide, tb_1 (List.mem_of_getElem? (i := 105) (by decide +kernel)) rfl⟩, by decide, rfl⟩
theorem dX10_horse_7 : Ins mX10_horse 7 (.iload_n 1) 1 8 := ⟨by decide +kernel, rfl⟩
theorem dX10_horse_8 : Ins mX10_horse 8 (.iload_n 2) 1 9 := ⟨by decide +kernel, rfl⟩
theorem dX10_horse_9 : CalV mX10_horse 9 12 mX7_addHorse := ⟨64, by decide +kernel, rfl, tb_2 (List.mem_of_getElem? (i := 62) (by decide +kernel)) rfl, meX7_addHorse⟩
theorem dX10_horse_12 : Ins mX10_horse 12 (.ireturn) 1 13 := ⟨by decide +kernel, rfl⟩
theorem dX10_boy_0 : Ins mX10_boy 0 (.aload_n 0) 1 1 := ⟨by decide +kernel, rfl⟩
theorem dX10_boy_1 : GgR mX10_boy 1 4 9 0 := ⟨0, rfl, ⟨10, _, by decide +kernel, rfl, rfl, by decide, tb_2 (List.mem_of_getElem? (i := 33) (by decide +kernel)) rfl⟩, by decide, rfl⟩
theorem dX10_boy_4 : GgR mX10_boy 4 7 8 0 := ⟨0, rfl, ⟨61, _, by decide +kernel, rfl, rfl, by decide, tb_1 (List.mem_of_getElem? (i := 105) (by decide +kernel)) rfl⟩, by decide, rfl⟩
theorem dX10_boy_7 : Ins mX10_boy 7 (.iload_n 1) 1 8 := ⟨by decide +kernel, rfl⟩
theorem dX10_boy_8 : CalV mX10_boy 8 11 mX7_addBoy := ⟨68, by decide +kernel, rfl, tb_2 (List.mem_of_getElem? (i := 77) (by decide +kernel)) rfl, meX7_addBoy⟩
theorem dX10_boy_11 : Ins mX10_boy 11 (.ireturn) 1 12 := ⟨by decide +kernel, rfl⟩
theorem dX10_limit_0 : Ins mX10_limit 0 (.iload_n 1) 1 1 := ⟨by decide +kernel, rfl⟩
theorem dX10_limit_1 : Ins mX10_limit 1 (.iconst 1) 1 2 := ⟨by decide +kernel, rfl⟩
theorem dX10_limit_2 : Ins mX10_limit 2 (.bipush 8) 2 4 := ⟨by decide +kernel, rfl⟩
theorem dX10_limit_4 : CalS mX10_limit 4 7 mX10_isWithin := ⟨72, by decide +kernel, rfl, Or.inl (tb_2 (List.mem_of_getElem? (i := 89) (by decide +kernel)) rfl), meX10_isWithin⟩
theorem dX10_limit_7 : Ins mX10_limit 7 (.ifCond .ne 5) 3 10 := ⟨by decide +kernel, rfl⟩
theorem dX10_limit_10 : Ins mX10_limit 10 (.iconst 0) 1 11 := ⟨by decide +kernel, rfl⟩
theorem dX10_limit_11 : Ins mX10_limit 11 (.ireturn) 1 12 := ⟨by decide +kernel, rfl⟩
theorem dX10_limit_12 : Ins mX10_limit 12 (.aload_n 0) 1 13 := ⟨by decide +kernel, rfl⟩
theorem dX10_limit_13 : GgR mX10_limit 13 16 9 0 := ⟨0, rfl, ⟨10, _, by decide +kernel, rfl, rfl, by decide, tb_2 (List.mem_of_getElem? (i := 33) (by decide +kernel)) rfl⟩, by decide, rfl⟩
theorem dX10_limit_16 : GgR mX10_limit 16 19 8 0 := ⟨0, rfl, ⟨61, _, by decide +kernel, rfl, rfl, by decide, tb_1 (List.mem_of_getElem? (i := 105) (by decide +kernel)) rfl⟩, by decide, rfl⟩
theorem dX10_limit_19 : Ins mX10_limit 19 (.iload_n 1) 1 20 := ⟨by decide +kernel, rfl⟩
theorem dX10_limit_20 : GpI mX10_limit 20 23 6 3 := ⟨3, rfl, ⟨76, _, by decide +kernel, rfl, rfl, by decide, tb_1 (List.mem_of_getElem? (i := 46) (by decide +kernel)) rfl, by decide +kernel, Or.inl rfl⟩, by decide, rfl⟩
theorem dX10_limit_23 : Ins mX10_limit 23 (.iconst 1) 1 24 := ⟨by decide +kernel, rfl⟩
theorem dX10_limit_24 : Ins mX10_limit 24 (.ireturn) 1 25 := ⟨by decide +kernel, rfl⟩
theorem dX10_feed_0 : Ins mX10_feed 0 (.aload_n 0) 1 1 := ⟨by decide +kernel, rfl⟩
theorem dX10_feed_1 : GgR mX10_feed 1 4 9 3 := ⟨3, rfl, ⟨28, _, by decide +kernel, rfl, rfl, by decide, tb_2 (List.mem_of_getElem? (i := 36) (by decide +kernel)) rfl⟩, by decide, rfl⟩
theorem dX10_feed_4 : Ins mX10_feed 4 (.iload_n 1) 1 5 := ⟨by decide +kernel, rfl⟩
theorem dX10_feed_5 : Ins mX10_feed 5 (.iload_n 2) 1 6 := ⟨by decide +kernel, rfl⟩
theorem dX10_feed_6 : Ins mX10_feed 6 (.iload_n 3) 1 7 := ⟨by decide +kernel, rfl⟩
theorem dX10_feed_7 : Ins mX10_feed 7 (.iload 4) 2 9 := ⟨by decide +kernel, rfl⟩
theorem dX10_feed_9 : Ins mX10_feed 9 (.iload 5) 2 11 := ⟨by decide +kernel, rfl⟩
theorem dX10_feed_11 : CalV mX10_feed 11 14 mX3_takeBytes := ⟨80, by decide +kernel, rfl, tb_2 (List.mem_of_getElem? (i := 94) (by decide +kernel)) rfl, meX3_takeBytes⟩
theorem dX10_feed_14 : Ins mX10_feed 14 (.ireturn) 1 15 := ⟨by decide +kernel, rfl⟩
theorem dX10_end_0 : Ins mX10_end 0 (.aload_n 0) 1 1 := ⟨by decide +kernel, rfl⟩
theorem dX10_end_1 : GgR mX10_end 1 4 9 3 := ⟨3, rfl, ⟨28, _, by decide +kernel, rfl, rfl, by decide, tb_2 (List.mem_of_getElem? (i := 36) (by decide +kernel)) rfl⟩, by decide, rfl⟩
theorem dX10_end_4 : Ins mX10_end 4 (.iload_n 1) 1 5 := ⟨by decide +kernel, rfl⟩
theorem dX10_end_5 : CalV mX10_end 5 8 mX3_cutTo := ⟨84, by decide +kernel, rfl, tb_2 (List.mem_of_getElem? (i := 106) (by decide +kernel)) rfl, meX3_cutTo⟩
theorem dX10_end_8 : Ins mX10_end 8 (.ireturn) 1 9 := ⟨by decide +kernel, rfl⟩
theorem dX10_text_0 : Ins mX10_text 0 (.aload_n 0) 1 1 := ⟨by decide +kernel, rfl⟩
theorem dX10_text_1 : GgR mX10_text 1 4 9 0 := ⟨0, rfl, ⟨10, _, by decide +kernel, rfl, rfl, by decide, tb_2 (List.mem_of_getElem? (i := 33) (by decide +kernel)) rfl⟩, by decide, rfl⟩
theorem dX10_text_4 : GgI mX10_text 4 7 8 6 := ⟨6, rfl, ⟨87, _, by decide +kernel, rfl, rfl, by decide, tb_1 (List.mem_of_getElem? (i := 117) (by decide +kernel)) rfl⟩, by decide, rfl⟩
theorem dX10_text_7 : Ins mX10_text 7 (.istore_n 1) 1 8 := ⟨by decide +kernel, rfl⟩
theorem dX10_text_8 : Ins mX10_text 8 (.iload_n 1) 1 9 := ⟨by decide +kernel, rfl⟩
theorem dX10_text_9 : Ins mX10_text 9 (.iconst 0) 1 10 := ⟨by decide +kernel, rfl⟩
theorem dX10_text_10 : Ins mX10_text 10 (.iconst 3) 1 11 := ⟨by decide +kernel, rfl⟩
theorem dX10_text_11 : CalS mX10_text 11 14 mX10_isWithin := ⟨72, by decide +kernel, rfl, Or.inl (tb_2 (List.mem_of_getElem? (i := 89) (by decide +kernel)) rfl), meX10_isWithin⟩
theorem dX10_text_14 : Ins mX10_text 14 (.ifCond .ne 5) 3 17 := ⟨by decide +kernel, rfl⟩
theorem dX10_text_17 : Ins mX10_text 17 (.iconst (-1)) 1 18 := ⟨by decide +kernel, rfl⟩
theorem dX10_text_18 : Ins mX10_text 18 (.ireturn) 1 19 := ⟨by decide +kernel, rfl⟩
theorem dX10_text_19 : Ins mX10_text 19 (.aload_n 0) 1 20 := ⟨by decide +kernel, rfl⟩
theorem dX10_text_20 : GgR mX10_text 20 23 9 3 := ⟨3, rfl, ⟨28, _, by decide +kernel, rfl, rfl, by decide, tb_2 (List.mem_of_getElem? (i := 36) (by decide +kernel)) rfl⟩, by decide, rfl⟩
theorem dX10_text_23 : CalV mX10_text 23 26 mX3_readTape := ⟨90, by decide +kernel, rfl, tb_2 (List.mem_of_getElem? (i := 114) (by decide +kernel)) rfl, meX3_readTape⟩
theorem dX10_text_26 : Ins mX10_text 26 (.aload_n 0) 1 27 := ⟨by decide +kernel, rfl⟩
theorem dX10_text_27 : GgR mX10_text 27 30 9 3 := ⟨3, rfl, ⟨28, _, by decide +kernel, rfl, rfl, by decide, tb_2 (List.mem_of_getElem? (i := 36) (by decide +kernel)) rfl⟩, by decide, rfl⟩
theorem dX10_text_30 : GgI mX10_text 30 33 2 10 := ⟨10, rfl, ⟨93, _, by decide +kernel, rfl, rfl, by decide, tb_1 (List.mem_of_getElem? (i := 199) (by decide +kernel)) rfl⟩, by decide, rfl⟩
theorem dX10_text_33 : Ins mX10_text 33 (.ifCond .eq 5) 3 36 := ⟨by decide +kernel, rfl⟩
theorem dX10_text_36 : Ins mX10_text 36 (.iconst (-1)) 1 37 := ⟨by decide +kernel, rfl⟩
theorem dX10_text_37 : Ins mX10_text 37 (.ireturn) 1 38 := ⟨by decide +kernel, rfl⟩
theorem dX10_text_38 : Ins mX10_text 38 (.aload_n 0) 1 39 := ⟨by decide +kernel, rfl⟩
theorem dX10_text_39 : GgR mX10_text 39 42 9 2 := ⟨2, rfl, ⟨21, _, by decide +kernel, rfl, rfl, by decide, tb_2 (List.mem_of_getElem? (i := 35) (by decide +kernel)) rfl⟩, by decide, rfl⟩
theorem dX10_text_42 : Ins mX10_text 42 (.iload_n 1) 1 43 := ⟨by decide +kernel, rfl⟩
theorem dX10_text_43 : Ins mX10_text 43 (.aaload) 1 44 := ⟨by decide +kernel, rfl⟩
theorem dX10_text_44 : Ins mX10_text 44 (.astore_n 2) 1 45 := ⟨by decide +kernel, rfl⟩
theorem dX10_text_45 : Ins mX10_text 45 (.aload_n 0) 1 46 := ⟨by decide +kernel, rfl⟩
theorem dX10_text_46 : GgR mX10_text 46 49 9 2 := ⟨2, rfl, ⟨21, _, by decide +kernel, rfl, rfl, by decide, tb_2 (List.mem_of_getElem? (i := 35) (by decide +kernel)) rfl⟩, by decide, rfl⟩
theorem dX10_text_49 : Ins mX10_text 49 (.iload_n 1) 1 50 := ⟨by decide +kernel, rfl⟩
theorem dX10_text_50 : Ins mX10_text 50 (.aload_n 0) 1 51 := ⟨by decide +kernel, rfl⟩
theorem dX10_text_51 : GgR mX10_text 51 54 9 3 := ⟨3, rfl, ⟨28, _, by decide +kernel, rfl, rfl, by decide, tb_2 (List.mem_of_getElem? (i := 36) (by decide +kernel)) rfl⟩, by decide, rfl⟩
theorem dX10_text_54 : GgR mX10_text 54 57 2 8 := ⟨8, rfl, ⟨96, _, by decide +kernel, rfl, rfl, by decide, tb_1 (List.mem_of_getElem? (i := 195) (by decide +kernel)) rfl⟩, by decide, rfl⟩
theorem dX10_text_57 : Ins mX10_text 57 (.aastore) 1 58 := ⟨by decide +kernel, rfl⟩
theorem dX10_text_58 : Ins mX10_text 58 (.aload_n 0) 1 59 := ⟨by decide +kernel, rfl⟩
theorem dX10_text_59 : GgR mX10_text 59 62 9 3 := ⟨3, rfl, ⟨28, _, by decide +kernel, rfl, rfl, by decide, tb_2 (List.mem_of_getElem? (i := 36) (by decide +kernel)) rfl⟩, by decide, rfl⟩
theorem dX10_text_62 : Ins mX10_text 62 (.aload_n 2) 1 63 := ⟨by decide +kernel, rfl⟩
theorem dX10_text_63 : GpR mX10_text 63 66 2 8 := ⟨8, rfl, _, ⟨96, _, by decide +kernel, rfl, rfl, by decide, tb_1 (List.mem_of_getElem? (i := 195) (by decide +kernel)) rfl, tyX3_ok 8 (by decide), Or.inl rfl⟩, by decide, rfl, Or.inl ⟨_, rfl⟩⟩
theorem dX10_text_66 : Ins mX10_text 66 (.aload_n 0) 1 67 := ⟨by decide +kernel, rfl⟩
theorem dX10_text_67 : GgR mX10_text 67 70 9 0 := ⟨0, rfl, ⟨10, _, by decide +kernel, rfl, rfl, by decide, tb_2 (List.mem_of_getElem? (i := 33) (by decide +kernel)) rfl⟩, by decide, rfl⟩
theorem dX10_text_70 : Ins mX10_text 70 (.iload_n 1) 1 71 := ⟨by decide +kernel, rfl⟩
theorem dX10_text_71 : Ins mX10_text 71 (.iconst 1) 1 72 := ⟨by decide +kernel, rfl⟩
theorem dX10_text_72 : Ins mX10_text 72 (.iadd) 1 73 := ⟨by decide +kernel, rfl⟩
theorem dX10_text_73 : GpI mX10_text 73 76 8 6 := ⟨6, rfl, ⟨87, _, by decide +kernel, rfl, rfl, by decide, tb_1 (List.mem_of_getElem? (i := 117) (by decide +kernel)) rfl, by decide +kernel, Or.inl rfl⟩, by decide, rfl⟩
theorem dX10_text_76 : Ins mX10_text 76 (.iload_n 1) 1 77 := ⟨by decide +kernel, rfl⟩
theorem dX10_text_77 : Ins mX10_text 77 (.ireturn) 1 78 := ⟨by decide +kernel, rfl⟩
theorem dX10_fault_0 : Ins mX10_fault 0 (.aload_n 0) 1 1 := ⟨by decide +kernel, rfl⟩
theorem dX10_fault_1 : GgR mX10_fault 1 4 9 3 := ⟨3, rfl, ⟨28, _, by decide +kernel, rfl, rfl, by decide, tb_2 (List.mem_of_getElem? (i := 36) (by decide +kernel)) rfl⟩, by decide, rfl⟩
theorem dX10_fault_4 : GgI mX10_fault 4 7 2 9 := ⟨9, rfl, ⟨100, _, by decide +kernel, rfl, rfl, by decide, tb_1 (List.mem_of_getElem? (i := 197) (by decide +kernel)) rfl⟩, by decide, rfl⟩
theorem dX10_fault_7 : Ins mX10_fault 7 (.ifCond .ne 5) 3 10 := ⟨by decide +kernel, rfl⟩
theorem dX10_fault_10 : Ins mX10_fault 10 (.iconst (-1)) 1 11 := ⟨by decide +kernel, rfl⟩
theorem dX10_fault_11 : Ins mX10_fault 11 (.ireturn) 1 12 := ⟨by decide +kernel, rfl⟩
theorem dX10_fault_12 : Ins mX10_fault 12 (.iload_n 1) 1 13 := ⟨by decide +kernel, rfl⟩
theorem dX10_fault_13 : Ins mX10_fault 13 (.lookupswitch 43 #[(0, 27), (1, 35)]) 27 40 := ⟨by decide +kernel, rfl⟩
theorem dX10_fault_40 : Ins mX10_fault 40 (.aload_n 0) 1 41 := ⟨by decide +kernel, rfl⟩
theorem dX10_fault_41 : GgR mX10_fault 41 44 9 3 := ⟨3, rfl, ⟨28, _, by decide +kernel, rfl, rfl, by decide, tb_2 (List.mem_of_getElem? (i := 36) (by decide +kernel)) rfl⟩, by decide, rfl⟩
theorem dX10_fault_44 : GgI mX10_fault 44 47 2 10 := ⟨10, rfl, ⟨93, _, by decide +kernel, rfl, rfl, by decide, tb_1 (List.mem_of_getElem? (i := 199) (by decide +kernel)) rfl⟩, by decide, rfl⟩
theorem dX10_fault_47 : Ins mX10_fault 47 (.ireturn) 1 48 := ⟨by decide +kernel, rfl⟩
theorem dX10_fault_48 : Ins mX10_fault 48 (.aload_n 0) 1 49 := ⟨by decide +kernel, rfl⟩
theorem dX10_fault_49 : GgR mX10_fault 49 52 9 3 := ⟨3, rfl, ⟨28, _, by decide +kernel, rfl, rfl, by decide, tb_2 (List.mem_of_getElem? (i := 36) (by decide +kernel)) rfl⟩, by decide, rfl⟩
theorem dX10_fault_52 : GgI mX10_fault 52 55 2 11 := ⟨11, rfl, ⟨104, _, by decide +kernel, rfl, rfl, by decide, tb_1 (List.mem_of_getElem? (i := 201) (by decide +kernel)) rfl⟩, by decide, rfl⟩
theorem dX10_fault_55 : Ins mX10_fault 55 (.ireturn) 1 56 := ⟨by decide +kernel, rfl⟩
theorem dX10_fault_56 : Ins mX10_fault 56 (.iconst (-1)) 1 57 := ⟨by decide +kernel, rfl⟩
theorem dX10_fault_57 : Ins mX10_fault 57 (.ireturn) 1 58 := ⟨by decide +kernel, rfl⟩
theorem dX10_by_0 : Ins mX10_by 0 (.iload_n 1) 1 1 := ⟨by decide +kernel, rfl⟩
theorem dX10_by_1 : Ins mX10_by 1 (.iconst (-1)) 1 2 := ⟨by decide +kernel, rfl⟩
theorem dX10_by_2 : Ins mX10_by 2 (.if_icmp .eq 13) 3 5 := ⟨by decide +kernel, rfl⟩
theorem dX10_by_5 : Ins mX10_by 5 (.aload_n 0) 1 6 := ⟨by decide +kernel, rfl⟩
theorem dX10_by_6 : Ins mX10_by 6 (.iload_n 1) 1 7 := ⟨by decide +kernel, rfl⟩
theorem dX10_by_7 : CalV mX10_by 7 10 mX10_isText := ⟨107, by decide +kernel, rfl, tb_3 (List.mem_of_getElem? (i := 95) (by decide +kernel)) rfl, meX10_isText⟩
theorem dX10_by_10 : Ins mX10_by 10 (.ifCond .ne 5) 3 13 := ⟨by decide +kernel, rfl⟩
theorem dX10_by_13 : Ins mX10_by 13 (.iconst 0) 1 14 := ⟨by decide +kernel, rfl⟩
theorem dX10_by_14 : Ins mX10_by 14 (.ireturn) 1 15 := ⟨by decide +kernel, rfl⟩
theorem dX10_by_15 : Ins mX10_by 15 (.aload_n 0) 1 16 := ⟨by decide +kernel, rfl⟩
theorem dX10_by_16 : GgR mX10_by 16 19 9 0 := ⟨0, rfl, ⟨10, _, by decide +kernel, rfl, rfl, by decide, tb_2 (List.mem_of_getElem? (i := 33) (by decide +kernel)) rfl⟩, by decide, rfl⟩
theorem dX10_by_19 : Ins mX10_by 19 (.iload_n 1) 1 20 := ⟨by decide +kernel, rfl⟩
theorem dX10_by_20 : GpI mX10_by 20 23 8 7 := ⟨7, rfl, ⟨111, _, by decide +kernel, rfl, rfl, by decide, tb_1 (List.mem_of_getElem? (i := 119) (by decide +kernel)) rfl, by decide +kernel, Or.inl rfl⟩, by decide, rfl⟩
theorem dX10_by_23 : Ins mX10_by 23 (.iconst 1) 1 24 := ⟨by decide +kernel, rfl⟩
theorem dX10_by_24 : Ins mX10_by 24 (.ireturn) 1 25 := ⟨by decide +kernel, rfl⟩
theorem dX10_mount_0 : Ins mX10_mount 0 (.aload_n 0) 1 1 := ⟨by decide +kernel, rfl⟩
theorem dX10_mount_1 : GgR mX10_mount 1 4 9 0 := ⟨0, rfl, ⟨10, _, by decide +kernel, rfl, rfl, by decide, tb_2 (List.mem_of_getElem? (i := 33) (by decide +kernel)) rfl⟩, by decide, rfl⟩
theorem dX10_mount_4 : GgR mX10_mount 4 7 8 0 := ⟨0, rfl, ⟨61, _, by decide +kernel, rfl, rfl, by decide, tb_1 (List.mem_of_getElem? (i := 105) (by decide +kernel)) rfl⟩, by decide, rfl⟩
theorem dX10_mount_7 : Ins mX10_mount 7 (.astore_n 3) 1 8 := ⟨by decide +kernel, rfl⟩
theorem dX10_mount_8 : Ins mX10_mount 8 (.aload_n 3) 1 9 := ⟨by decide +kernel, rfl⟩
theorem dX10_mount_9 : Ins mX10_mount 9 (.iload_n 1) 1 10 := ⟨by decide +kernel, rfl⟩
theorem dX10_mount_10 : Ins mX10_mount 10 (.iload_n 2) 1 11 := ⟨by decide +kernel, rfl⟩
theorem dX10_mount_11 : CalV mX10_mount 11 14 mX7_canMount := ⟨114, by decide +kernel, rfl, tb_3 (List.mem_of_getElem? (i := 103) (by decide +kernel)) rfl, meX7_canMount⟩
theorem dX10_mount_14 : Ins mX10_mount 14 (.ifCond .ne 5) 3 17 := ⟨by decide +kernel, rfl⟩
theorem dX10_mount_17 : Ins mX10_mount 17 (.iconst 0) 1 18 := ⟨by decide +kernel, rfl⟩
theorem dX10_mount_18 : Ins mX10_mount 18 (.ireturn) 1 19 := ⟨by decide +kernel, rfl⟩
theorem dX10_mount_19 : Ins mX10_mount 19 (.aload_n 0) 1 20 := ⟨by decide +kernel, rfl⟩
theorem dX10_mount_20 : GgR mX10_mount 20 23 9 0 := ⟨0, rfl, ⟨10, _, by decide +kernel, rfl, rfl, by decide, tb_2 (List.mem_of_getElem? (i := 33) (by decide +kernel)) rfl⟩, by decide, rfl⟩
theorem dX10_mount_23 : GgR mX10_mount 23 26 8 1 := ⟨1, rfl, ⟨118, _, by decide +kernel, rfl, rfl, by decide, tb_1 (List.mem_of_getElem? (i := 107) (by decide +kernel)) rfl⟩, by decide, rfl⟩
theorem dX10_mount_26 : Ins mX10_mount 26 (.aload_n 3) 1 27 := ⟨by decide +kernel, rfl⟩
theorem dX10_mount_27 : CalV mX10_mount 27 30 mX6_save := ⟨122, by decide +kernel, rfl, tb_3 (List.mem_of_getElem? (i := 127) (by decide +kernel)) rfl, meX6_save⟩
theorem dX10_mount_30 : Ins mX10_mount 30 (.aload_n 3) 1 31 := ⟨by decide +kernel, rfl⟩
theorem dX10_mount_31 : Ins mX10_mount 31 (.iload_n 1) 1 32 := ⟨by decide +kernel, rfl⟩
theorem dX10_mount_32 : Ins mX10_mount 32 (.iload_n 2) 1 33 := ⟨by decide +kernel, rfl⟩
theorem dX10_mount_33 : CalV mX10_mount 33 36 mX7_seat := ⟨128, by decide +kernel, rfl, tb_3 (List.mem_of_getElem? (i := 134) (by decide +kernel)) rfl, meX7_seat⟩
theorem dX10_mount_36 : Ins mX10_mount 36 (.iconst 1) 1 37 := ⟨by decide +kernel, rfl⟩
theorem dX10_mount_37 : Ins mX10_mount 37 (.ireturn) 1 38 := ⟨by decide +kernel, rfl⟩
theorem dX10_off_0 : Ins mX10_off 0 (.aload_n 0) 1 1 := ⟨by decide +kernel, rfl⟩
theorem dX10_off_1 : GgR mX10_off 1 4 9 0 := ⟨0, rfl, ⟨10, _, by decide +kernel, rfl, rfl, by decide, tb_2 (List.mem_of_getElem? (i := 33) (by decide +kernel)) rfl⟩, by decide, rfl⟩
theorem dX10_off_4 : GgR mX10_off 4 7 8 0 := ⟨0, rfl, ⟨61, _, by decide +kernel, rfl, rfl, by decide, tb_1 (List.mem_of_getElem? (i := 105) (by decide +kernel)) rfl⟩, by decide, rfl⟩
theorem dX10_off_7 : Ins mX10_off 7 (.astore_n 2) 1 8 := ⟨by decide +kernel, rfl⟩
theorem dX10_off_8 : Ins mX10_off 8 (.aload_n 2) 1 9 := ⟨by decide +kernel, rfl⟩
theorem dX10_off_9 : Ins mX10_off 9 (.iload_n 1) 1 10 := ⟨by decide +kernel, rfl⟩
theorem dX10_off_10 : CalV mX10_off 10 13 mX7_seatOf := ⟨132, by decide +kernel, rfl, tb_3 (List.mem_of_getElem? (i := 143) (by decide +kernel)) rfl, meX7_seatOf⟩
theorem dX10_off_13 : Ins mX10_off 13 (.istore_n 3) 1 14 := ⟨by decide +kernel, rfl⟩
theorem dX10_off_14 : Ins mX10_off 14 (.iload_n 3) 1 15 := ⟨by decide +kernel, rfl⟩
theorem dX10_off_15 : Ins mX10_off 15 (.iconst (-1)) 1 16 := ⟨by decide +kernel, rfl⟩
theorem dX10_off_16 : Ins mX10_off 16 (.if_icmp .ne 5) 3 19 := ⟨by decide +kernel, rfl⟩
theorem dX10_off_19 : Ins mX10_off 19 (.iconst (-1)) 1 20 := ⟨by decide +kernel, rfl⟩
theorem dX10_off_20 : Ins mX10_off 20 (.ireturn) 1 21 := ⟨by decide +kernel, rfl⟩
theorem dX10_off_21 : Ins mX10_off 21 (.aload_n 0) 1 22 := ⟨by decide +kernel, rfl⟩
theorem dX10_off_22 : GgR mX10_off 22 25 9 0 := ⟨0, rfl, ⟨10, _, by decide +kernel, rfl, rfl, by decide, tb_2 (List.mem_of_getElem? (i := 33) (by decide +kernel)) rfl⟩, by decide, rfl⟩
theorem dX10_off_25 : GgR mX10_off 25 28 8 1 := ⟨1, rfl, ⟨118, _, by decide +kernel, rfl, rfl, by decide, tb_1 (List.mem_of_getElem? (i := 107) (by decide +kernel)) rfl⟩, by decide, rfl⟩
theorem dX10_off_28 : Ins mX10_off 28 (.aload_n 2) 1 29 := ⟨by decide +kernel, rfl⟩
theorem dX10_off_29 : CalV mX10_off 29 32 mX6_save := ⟨122, by decide +kernel, rfl, tb_3 (List.mem_of_getElem? (i := 127) (by decide +kernel)) rfl, meX6_save⟩
theorem dX10_off_32 : Ins mX10_off 32 (.aload_n 2) 1 33 := ⟨by decide +kernel, rfl⟩
theorem dX10_off_33 : Ins mX10_off 33 (.iload_n 1) 1 34 := ⟨by decide +kernel, rfl⟩
theorem dX10_off_34 : CalV mX10_off 34 37 mX7_unseat := ⟨135, by decide +kernel, rfl, tb_3 (List.mem_of_getElem? (i := 144) (by decide +kernel)) rfl, meX7_unseat⟩
theorem dX10_off_37 : Ins mX10_off 37 (.iload_n 3) 1 38 := ⟨by decide +kernel, rfl⟩
theorem dX10_off_38 : Ins mX10_off 38 (.ireturn) 1 39 := ⟨by decide +kernel, rfl⟩
theorem dX10_oil_0 : Ins mX10_oil 0 (.aload_n 0) 1 1 := ⟨by decide +kernel, rfl⟩
theorem dX10_oil_1 : GgR mX10_oil 1 4 9 0 := ⟨0, rfl, ⟨10, _, by decide +kernel, rfl, rfl, by decide, tb_2 (List.mem_of_getElem? (i := 33) (by decide +kernel)) rfl⟩, by decide, rfl⟩
theorem dX10_oil_4 : GgR mX10_oil 4 7 8 0 := ⟨0, rfl, ⟨61, _, by decide +kernel, rfl, rfl, by decide, tb_1 (List.mem_of_getElem? (i := 105) (by decide +kernel)) rfl⟩, by decide, rfl⟩
theorem dX10_oil_7 : Ins mX10_oil 7 (.astore_n 2) 1 8 := ⟨by decide +kernel, rfl⟩
theorem dX10_oil_8 : Ins mX10_oil 8 (.aload_n 2) 1 9 := ⟨by decide +kernel, rfl⟩
theorem dX10_oil_9 : Ins mX10_oil 9 (.iload_n 1) 1 10 := ⟨by decide +kernel, rfl⟩
theorem dX10_oil_10 : CalV mX10_oil 10 13 mX7_canOil := ⟨139, by decide +kernel, rfl, tb_3 (List.mem_of_getElem? (i := 152) (by decide +kernel)) rfl, meX7_canOil⟩
theorem dX10_oil_13 : Ins mX10_oil 13 (.ifCond .ne 5) 3 16 := ⟨by decide +kernel, rfl⟩
theorem dX10_oil_16 : Ins mX10_oil 16 (.iconst (-1)) 1 17 := ⟨by decide +kernel, rfl⟩
theorem dX10_oil_17 : Ins mX10_oil 17 (.ireturn) 1 18 := ⟨by decide +kernel, rfl⟩
theorem dX10_oil_18 : Ins mX10_oil 18 (.aload_n 0) 1 19 := ⟨by decide +kernel, rfl⟩
theorem dX10_oil_19 : GgR mX10_oil 19 22 9 0 := ⟨0, rfl, ⟨10, _, by decide +kernel, rfl, rfl, by decide, tb_2 (List.mem_of_getElem? (i := 33) (by decide +kernel)) rfl⟩, by decide, rfl⟩
theorem dX10_oil_22 : GgR mX10_oil 22 25 8 1 := ⟨1, rfl, ⟨118, _, by decide +kernel, rfl, rfl, by decide, tb_1 (List.mem_of_getElem? (i := 107) (by decide +kernel)) rfl⟩, by decide, rfl⟩
theorem dX10_oil_25 : Ins mX10_oil 25 (.aload_n 2) 1 26 := ⟨by decide +kernel, rfl⟩
theorem dX10_oil_26 : CalV mX10_oil 26 29 mX6_save := ⟨122, by decide +kernel, rfl, tb_3 (List.mem_of_getElem? (i := 127) (by decide +kernel)) rfl, meX6_save⟩
theorem dX10_oil_29 : Ins mX10_oil 29 (.aload_n 2) 1 30 := ⟨by decide +kernel, rfl⟩
theorem dX10_oil_30 : Ins mX10_oil 30 (.iload_n 1) 1 31 := ⟨by decide +kernel, rfl⟩
theorem dX10_oil_31 : CalV mX10_oil 31 34 mX7_grease := ⟨142, by decide +kernel, rfl, tb_3 (List.mem_of_getElem? (i := 160) (by decide +kernel)) rfl, meX7_grease⟩
theorem dX10_oil_34 : Ins mX10_oil 34 (.ireturn) 1 35 := ⟨by decide +kernel, rfl⟩
theorem dX10_nail_0 : Ins mX10_nail 0 (.aload_n 0) 1 1 := ⟨by decide +kernel, rfl⟩
theorem dX10_nail_1 : GgR mX10_nail 1 4 9 0 := ⟨0, rfl, ⟨10, _, by decide +kernel, rfl, rfl, by decide, tb_2 (List.mem_of_getElem? (i := 33) (by decide +kernel)) rfl⟩, by decide, rfl⟩
theorem dX10_nail_4 : GgR mX10_nail 4 7 8 0 := ⟨0, rfl, ⟨61, _, by decide +kernel, rfl, rfl, by decide, tb_1 (List.mem_of_getElem? (i := 105) (by decide +kernel)) rfl⟩, by decide, rfl⟩
theorem dX10_nail_7 : Ins mX10_nail 7 (.astore_n 3) 1 8 := ⟨by decide +kernel, rfl⟩
theorem dX10_nail_8 : Ins mX10_nail 8 (.aload_n 3) 1 9 := ⟨by decide +kernel, rfl⟩
theorem dX10_nail_9 : Ins mX10_nail 9 (.iload_n 1) 1 10 := ⟨by decide +kernel, rfl⟩
theorem dX10_nail_10 : Ins mX10_nail 10 (.iload_n 2) 1 11 := ⟨by decide +kernel, rfl⟩
theorem dX10_nail_11 : CalV mX10_nail 11 14 mX7_canNail := ⟨145, by decide +kernel, rfl, tb_3 (List.mem_of_getElem? (i := 169) (by decide +kernel)) rfl, meX7_canNail⟩
theorem dX10_nail_14 : Ins mX10_nail 14 (.ifCond .ne 5) 3 17 := ⟨by decide +kernel, rfl⟩
theorem dX10_nail_17 : Ins mX10_nail 17 (.iconst 0) 1 18 := ⟨by decide +kernel, rfl⟩
theorem dX10_nail_18 : Ins mX10_nail 18 (.ireturn) 1 19 := ⟨by decide +kernel, rfl⟩
theorem dX10_nail_19 : Ins mX10_nail 19 (.aload_n 0) 1 20 := ⟨by decide +kernel, rfl⟩
theorem dX10_nail_20 : GgR mX10_nail 20 23 9 0 := ⟨0, rfl, ⟨10, _, by decide +kernel, rfl, rfl, by decide, tb_2 (List.mem_of_getElem? (i := 33) (by decide +kernel)) rfl⟩, by decide, rfl⟩
theorem dX10_nail_23 : GgR mX10_nail 23 26 8 1 := ⟨1, rfl, ⟨118, _, by decide +kernel, rfl, rfl, by decide, tb_1 (List.mem_of_getElem? (i := 107) (by decide +kernel)) rfl⟩, by decide, rfl⟩
theorem dX10_nail_26 : Ins mX10_nail 26 (.aload_n 3) 1 27 := ⟨by decide +kernel, rfl⟩
theorem dX10_nail_27 : CalV mX10_nail 27 30 mX6_save := ⟨122, by decide +kernel, rfl, tb_3 (List.mem_of_getElem? (i := 127) (by decide +kernel)) rfl, meX6_save⟩
theorem dX10_nail_30 : Ins mX10_nail 30 (.aload_n 3) 1 31 := ⟨by decide +kernel, rfl⟩
theorem dX10_nail_31 : Ins mX10_nail 31 (.iload_n 1) 1 32 := ⟨by decide +kernel, rfl⟩
theorem dX10_nail_32 : Ins mX10_nail 32 (.iload_n 2) 1 33 := ⟨by decide +kernel, rfl⟩
theorem dX10_nail_33 : CalV mX10_nail 33 36 mX7_shiftTo := ⟨148, by decide +kernel, rfl, tb_3 (List.mem_of_getElem? (i := 181) (by decide +kernel)) rfl, meX7_shiftTo⟩
theorem dX10_nail_36 : Ins mX10_nail 36 (.iconst 1) 1 37 := ⟨by decide +kernel, rfl⟩
theorem dX10_nail_37 : Ins mX10_nail 37 (.ireturn) 1 38 := ⟨by decide +kernel, rfl⟩
theorem dX10_minute_0 : Ins mX10_minute 0 (.iload_n 1) 1 1 := ⟨by decide +kernel, rfl⟩
theorem dX10_minute_1 : Ins mX10_minute 1 (.iconst 1) 1 2 := ⟨by decide +kernel, rfl⟩
theorem dX10_minute_2 : Ins mX10_minute 2 (.bipush 60) 2 4 := ⟨by decide +kernel, rfl⟩
theorem dX10_minute_4 : CalS mX10_minute 4 7 mX10_isWithin := ⟨72, by decide +kernel, rfl, Or.inl (tb_2 (List.mem_of_getElem? (i := 89) (by decide +kernel)) rfl), meX10_isWithin⟩
theorem dX10_minute_7 : Ins mX10_minute 7 (.ifCond .eq 21) 3 10 := ⟨by decide +kernel, rfl⟩
theorem dX10_minute_10 : Ins mX10_minute 10 (.aload_n 0) 1 11 := ⟨by decide +kernel, rfl⟩
theorem dX10_minute_11 : GgR mX10_minute 11 14 9 0 := ⟨0, rfl, ⟨10, _, by decide +kernel, rfl, rfl, by decide, tb_2 (List.mem_of_getElem? (i := 33) (by decide +kernel)) rfl⟩, by decide, rfl⟩
theorem dX10_minute_14 : GgR mX10_minute 14 17 8 0 := ⟨0, rfl, ⟨61, _, by decide +kernel, rfl, rfl, by decide, tb_1 (List.mem_of_getElem? (i := 105) (by decide +kernel)) rfl⟩, by decide, rfl⟩
theorem dX10_minute_17 : CalV mX10_minute 17 20 mX7_thisMinute := ⟨151, by decide +kernel, rfl, tb_3 (List.mem_of_getElem? (i := 190) (by decide +kernel)) rfl, meX7_thisMinute⟩
theorem dX10_minute_20 : Ins mX10_minute 20 (.iload_n 1) 1 21 := ⟨by decide +kernel, rfl⟩
theorem dX10_minute_21 : Ins mX10_minute 21 (.iadd) 1 22 := ⟨by decide +kernel, rfl⟩
theorem dX10_minute_22 : Ins mX10_minute 22 (.sipush 9999) 3 25 := ⟨by decide +kernel, rfl⟩
theorem dX10_minute_25 : Ins mX10_minute 25 (.if_icmp .le 5) 3 28 := ⟨by decide +kernel, rfl⟩
theorem dX10_minute_28 : Ins mX10_minute 28 (.iconst (-1)) 1 29 := ⟨by decide +kernel, rfl⟩
theorem dX10_minute_29 : Ins mX10_minute 29 (.ireturn) 1 30 := ⟨by decide +kernel, rfl⟩
theorem dX10_minute_30 : Ins mX10_minute 30 (.iconst 0) 1 31 := ⟨by decide +kernel, rfl⟩
theorem dX10_minute_31 : Ins mX10_minute 31 (.istore_n 2) 1 32 := ⟨by decide +kernel, rfl⟩
theorem dX10_minute_32 : Ins mX10_minute 32 (.iconst 0) 1 33 := ⟨by decide +kernel, rfl⟩
theorem dX10_minute_33 : Ins mX10_minute 33 (.istore_n 3) 1 34 := ⟨by decide +kernel, rfl⟩
theorem dX10_minute_34 : Ins mX10_minute 34 (.iload_n 3) 1 35 := ⟨by decide +kernel, rfl⟩
theorem dX10_minute_35 : Ins mX10_minute 35 (.iload_n 1) 1 36 := ⟨by decide +kernel, rfl⟩
theorem dX10_minute_36 : Ins mX10_minute 36 (.if_icmp .ge 55) 3 39 := ⟨by decide +kernel, rfl⟩
theorem dX10_minute_39 : Ins mX10_minute 39 (.aload_n 0) 1 40 := ⟨by decide +kernel, rfl⟩
theorem dX10_minute_40 : GgR mX10_minute 40 43 9 0 := ⟨0, rfl, ⟨10, _, by decide +kernel, rfl, rfl, by decide, tb_2 (List.mem_of_getElem? (i := 33) (by decide +kernel)) rfl⟩, by decide, rfl⟩
theorem dX10_minute_43 : GgR mX10_minute 43 46 8 1 := ⟨1, rfl, ⟨118, _, by decide +kernel, rfl, rfl, by decide, tb_1 (List.mem_of_getElem? (i := 107) (by decide +kernel)) rfl⟩, by decide, rfl⟩
theorem dX10_minute_46 : Ins mX10_minute 46 (.aload_n 0) 1 47 := ⟨by decide +kernel, rfl⟩
theorem dX10_minute_47 : GgR mX10_minute 47 50 9 0 := ⟨0, rfl, ⟨10, _, by decide +kernel, rfl, rfl, by decide, tb_2 (List.mem_of_getElem? (i := 33) (by decide +kernel)) rfl⟩, by decide, rfl⟩
theorem dX10_minute_50 : GgR mX10_minute 50 53 8 0 := ⟨0, rfl, ⟨61, _, by decide +kernel, rfl, rfl, by decide, tb_1 (List.mem_of_getElem? (i := 105) (by decide +kernel)) rfl⟩, by decide, rfl⟩
theorem dX10_minute_53 : CalV mX10_minute 53 56 mX6_save := ⟨122, by decide +kernel, rfl, tb_3 (List.mem_of_getElem? (i := 127) (by decide +kernel)) rfl, meX6_save⟩
theorem dX10_minute_56 : Ins mX10_minute 56 (.iload_n 2) 1 57 := ⟨by decide +kernel, rfl⟩
theorem dX10_minute_57 : Ins mX10_minute 57 (.aload_n 0) 1 58 := ⟨by decide +kernel, rfl⟩
theorem dX10_minute_58 : GgR mX10_minute 58 61 9 0 := ⟨0, rfl, ⟨10, _, by decide +kernel, rfl, rfl, by decide, tb_2 (List.mem_of_getElem? (i := 33) (by decide +kernel)) rfl⟩, by decide, rfl⟩
theorem dX10_minute_61 : GgR mX10_minute 61 64 8 0 := ⟨0, rfl, ⟨61, _, by decide +kernel, rfl, rfl, by decide, tb_1 (List.mem_of_getElem? (i := 105) (by decide +kernel)) rfl⟩, by decide, rfl⟩
theorem dX10_minute_64 : Ins mX10_minute 64 (.aload_n 0) 1 65 := ⟨by decide +kernel, rfl⟩
theorem dX10_minute_65 : GgR mX10_minute 65 68 9 4 := ⟨4, rfl, ⟨35, _, by decide +kernel, rfl, rfl, by decide, tb_2 (List.mem_of_getElem? (i := 37) (by decide +kernel)) rfl⟩, by decide, rfl⟩
theorem dX10_minute_68 : Ins mX10_minute 68 (.aload_n 0) 1 69 := ⟨by decide +kernel, rfl⟩
theorem dX10_minute_69 : CalV mX10_minute 69 72 mX10_ruling := ⟨155, by decide +kernel, rfl, tb_3 (List.mem_of_getElem? (i := 194) (by decide +kernel)) rfl, meX10_ruling⟩
theorem dX10_minute_72 : CalV mX10_minute 72 75 mX7_passMinute := ⟨158, by decide +kernel, rfl, tb_3 (List.mem_of_getElem? (i := 202) (by decide +kernel)) rfl, meX7_passMinute⟩
theorem dX10_minute_75 : Ins mX10_minute 75 (.ifCond .eq 7) 3 78 := ⟨by decide +kernel, rfl⟩
theorem dX10_minute_78 : Ins mX10_minute 78 (.iconst 1) 1 79 := ⟨by decide +kernel, rfl⟩
theorem dX10_minute_79 : Ins mX10_minute 79 (.goto 4) 3 82 := ⟨by decide +kernel, rfl⟩
theorem dX10_minute_82 : Ins mX10_minute 82 (.iconst 0) 1 83 := ⟨by decide +kernel, rfl⟩
theorem dX10_minute_83 : Ins mX10_minute 83 (.iadd) 1 84 := ⟨by decide +kernel, rfl⟩
theorem dX10_minute_84 : Ins mX10_minute 84 (.istore_n 2) 1 85 := ⟨by decide +kernel, rfl⟩
theorem dX10_minute_85 : Ins mX10_minute 85 (.iinc 3 1) 3 88 := ⟨by decide +kernel, rfl⟩
theorem dX10_minute_88 : Ins mX10_minute 88 (.goto (-54)) 3 91 := ⟨by decide +kernel, rfl⟩
theorem dX10_minute_91 : Ins mX10_minute 91 (.iload_n 2) 1 92 := ⟨by decide +kernel, rfl⟩
theorem dX10_minute_92 : Ins mX10_minute 92 (.ireturn) 1 93 := ⟨by decide +kernel, rfl⟩
theorem dX10_played_0 : Ins mX10_played 0 (.aload_n 0) 1 1 := ⟨by decide +kernel, rfl⟩
theorem dX10_played_1 : Ins mX10_played 1 (.iload_n 1) 1 2 := ⟨by decide +kernel, rfl⟩
theorem dX10_played_2 : CalV mX10_played 2 5 mX10_isText := ⟨107, by decide +kernel, rfl, tb_3 (List.mem_of_getElem? (i := 95) (by decide +kernel)) rfl, meX10_isText⟩
theorem dX10_played_5 : Ins mX10_played 5 (.ifCond .ne 6) 3 8 := ⟨by decide +kernel, rfl⟩
theorem dX10_played_8 : Ins mX10_played 8 (.bipush (-2)) 2 10 := ⟨by decide +kernel, rfl⟩
theorem dX10_played_10 : Ins mX10_played 10 (.ireturn) 1 11 := ⟨by decide +kernel, rfl⟩
theorem dX10_played_11 : Ins mX10_played 11 (.aload_n 0) 1 12 := ⟨by decide +kernel, rfl⟩
theorem dX10_played_12 : Ins mX10_played 12 (.iload_n 1) 1 13 := ⟨by decide +kernel, rfl⟩
theorem dX10_played_13 : CalV mX10_played 13 16 mX10_scriptAt := ⟨162, by decide +kernel, rfl, tb_3 (List.mem_of_getElem? (i := 198) (by decide +kernel)) rfl, meX10_scriptAt⟩
theorem dX10_played_16 : Ins mX10_played 16 (.astore_n 2) 1 17 := ⟨by decide +kernel, rfl⟩
theorem dX10_played_17 : Ins mX10_played 17 (.aload_n 2) 1 18 := ⟨by decide +kernel, rfl⟩
theorem dX10_played_18 : Ins mX10_played 18 (.ifnonnull 6) 3 21 := ⟨by decide +kernel, rfl⟩
theorem dX10_played_21 : Ins mX10_played 21 (.bipush (-2)) 2 23 := ⟨by decide +kernel, rfl⟩
theorem dX10_played_23 : Ins mX10_played 23 (.ireturn) 1 24 := ⟨by decide +kernel, rfl⟩
theorem dX10_played_24 : Ins mX10_played 24 (.iconst 0) 1 25 := ⟨by decide +kernel, rfl⟩
theorem dX10_played_25 : Ins mX10_played 25 (.istore_n 3) 1 26 := ⟨by decide +kernel, rfl⟩
theorem dX10_played_26 : Ins mX10_played 26 (.iload_n 3) 1 27 := ⟨by decide +kernel, rfl⟩
theorem dX10_played_27 : Ins mX10_played 27 (.aload_n 2) 1 28 := ⟨by decide +kernel, rfl⟩
theorem dX10_played_28 : GgI mX10_played 28 31 4 8 := ⟨8, rfl, ⟨166, _, by decide +kernel, rfl, rfl, by decide, tb_1 (List.mem_of_getElem? (i := 164) (by decide +kernel)) rfl⟩, by decide, rfl⟩
theorem dX10_played_31 : Ins mX10_played 31 (.if_icmp .ge 60) 3 34 := ⟨by decide +kernel, rfl⟩
theorem dX10_played_34 : Ins mX10_played 34 (.aload_n 2) 1 35 := ⟨by decide +kernel, rfl⟩
theorem dX10_played_35 : Ins mX10_played 35 (.iload_n 3) 1 36 := ⟨by decide +kernel, rfl⟩
theorem dX10_played_36 : CalV mX10_played 36 39 mX5_kindOf := ⟨169, by decide +kernel, rfl, tb_4 (List.mem_of_getElem? (i := 73) (by decide +kernel)) rfl, meX5_kindOf⟩
theorem dX10_played_39 : Ins mX10_played 39 (.istore 4) 2 41 := ⟨by decide +kernel, rfl⟩
theorem dX10_played_41 : Ins mX10_played 41 (.aload_n 2) 1 42 := ⟨by decide +kernel, rfl⟩
theorem dX10_played_42 : Ins mX10_played 42 (.iload_n 3) 1 43 := ⟨by decide +kernel, rfl⟩
theorem dX10_played_43 : CalV mX10_played 43 46 mX5_firstOf := ⟨172, by decide +kernel, rfl, tb_4 (List.mem_of_getElem? (i := 77) (by decide +kernel)) rfl, meX5_firstOf⟩
theorem dX10_played_46 : Ins mX10_played 46 (.istore 5) 2 48 := ⟨by decide +kernel, rfl⟩
theorem dX10_played_48 : Ins mX10_played 48 (.iload 4) 2 50 := ⟨by decide +kernel, rfl⟩
theorem dX10_played_50 : Ins mX10_played 50 (.bipush 10) 2 52 := ⟨by decide +kernel, rfl⟩
theorem dX10_played_52 : Ins mX10_played 52 (.if_icmp .ne 15) 3 55 := ⟨by decide +kernel, rfl⟩
theorem dX10_played_55 : Ins mX10_played 55 (.aload_n 0) 1 56 := ⟨by decide +kernel, rfl⟩
theorem dX10_played_56 : Ins mX10_played 56 (.iload 5) 2 58 := ⟨by decide +kernel, rfl⟩
theorem dX10_played_58 : CalV mX10_played 58 61 mX10_passAllThatCan := ⟨175, by decide +kernel, rfl, tb_4 (List.mem_of_getElem? (i := 81) (by decide +kernel)) rfl, meX10_passAllThatCan⟩
theorem dX10_played_61 : Ins mX10_played 61 (.ifCond .ne 24) 3 64 := ⟨by decide +kernel, rfl⟩
theorem dX10_played_64 : Ins mX10_played 64 (.goto 19) 3 67 := ⟨by decide +kernel, rfl⟩
theorem dX10_played_67 : Ins mX10_played 67 (.aload_n 0) 1 68 := ⟨by decide +kernel, rfl⟩
theorem dX10_played_68 : Ins mX10_played 68 (.iload 4) 2 70 := ⟨by decide +kernel, rfl⟩
theorem dX10_played_70 : Ins mX10_played 70 (.iload 5) 2 72 := ⟨by decide +kernel, rfl⟩
theorem dX10_played_72 : Ins mX10_played 72 (.aload_n 2) 1 73 := ⟨by decide +kernel, rfl⟩
theorem dX10_played_73 : Ins mX10_played 73 (.iload_n 3) 1 74 := ⟨by decide +kernel, rfl⟩
theorem dX10_played_74 : CalV mX10_played 74 77 mX5_secondOf := ⟨178, by decide +kernel, rfl, tb_4 (List.mem_of_getElem? (i := 86) (by decide +kernel)) rfl, meX5_secondOf⟩
theorem dX10_played_77 : CalV mX10_played 77 80 mX10_isDone := ⟨181, by decide +kernel, rfl, tb_4 (List.mem_of_getElem? (i := 90) (by decide +kernel)) rfl, meX10_isDone⟩
theorem dX10_played_80 : Ins mX10_played 80 (.ifCond .ne 5) 3 83 := ⟨by decide +kernel, rfl⟩
theorem dX10_played_83 : Ins mX10_played 83 (.iload_n 3) 1 84 := ⟨by decide +kernel, rfl⟩
theorem dX10_played_84 : Ins mX10_played 84 (.ireturn) 1 85 := ⟨by decide +kernel, rfl⟩
theorem dX10_played_85 : Ins mX10_played 85 (.iinc 3 1) 3 88 := ⟨by decide +kernel, rfl⟩
theorem dX10_played_88 : Ins mX10_played 88 (.goto (-62)) 3 91 := ⟨by decide +kernel, rfl⟩
theorem dX10_played_91 : Ins mX10_played 91 (.iconst (-1)) 1 92 := ⟨by decide +kernel, rfl⟩
theorem dX10_played_92 : Ins mX10_played 92 (.ireturn) 1 93 := ⟨by decide +kernel, rfl⟩
theorem dX10_winters_0 : Ins mX10_winters 0 (.iload_n 1) 1 1 := ⟨by decide +kernel, rfl⟩
theorem dX10_winters_1 : Ins mX10_winters 1 (.iconst 0) 1 2 := ⟨by decide +kernel, rfl⟩
theorem dX10_winters_2 : Ins mX10_winters 2 (.sipush 9999) 3 5 := ⟨by decide +kernel, rfl⟩
theorem dX10_winters_5 : CalS mX10_winters 5 8 mX10_isWithin := ⟨72, by decide +kernel, rfl, Or.inl (tb_2 (List.mem_of_getElem? (i := 89) (by decide +kernel)) rfl), meX10_isWithin⟩
theorem dX10_winters_8 : Ins mX10_winters 8 (.ifCond .eq 13) 3 11 := ⟨by decide +kernel, rfl⟩
theorem dX10_winters_11 : Ins mX10_winters 11 (.iload_n 2) 1 12 := ⟨by decide +kernel, rfl⟩
theorem dX10_winters_12 : Ins mX10_winters 12 (.iconst 1) 1 13 := ⟨by decide +kernel, rfl⟩
theorem dX10_winters_13 : Ins mX10_winters 13 (.bipush 40) 2 15 := ⟨by decide +kernel, rfl⟩
theorem dX10_winters_15 : CalS mX10_winters 15 18 mX10_isWithin := ⟨72, by decide +kernel, rfl, Or.inl (tb_2 (List.mem_of_getElem? (i := 89) (by decide +kernel)) rfl), meX10_isWithin⟩
theorem dX10_winters_18 : Ins mX10_winters 18 (.ifCond .ne 5) 3 21 := ⟨by decide +kernel, rfl⟩
theorem dX10_winters_21 : Ins mX10_winters 21 (.iconst (-1)) 1 22 := ⟨by decide +kernel, rfl⟩
theorem dX10_winters_22 : Ins mX10_winters 22 (.ireturn) 1 23 := ⟨by decide +kernel, rfl⟩
theorem dX10_winters_23 : Ins mX10_winters 23 (.aload_n 0) 1 24 := ⟨by decide +kernel, rfl⟩
theorem dX10_winters_24 : GgR mX10_winters 24 27 9 0 := ⟨0, rfl, ⟨10, _, by decide +kernel, rfl, rfl, by decide, tb_2 (List.mem_of_getElem? (i := 33) (by decide +kernel)) rfl⟩, by decide, rfl⟩
theorem dX10_winters_27 : GgR mX10_winters 27 30 8 1 := ⟨1, rfl, ⟨118, _, by decide +kernel, rfl, rfl, by decide, tb_1 (List.mem_of_getElem? (i := 107) (by decide +kernel)) rfl⟩, by decide, rfl⟩
theorem dX10_winters_30 : Ins mX10_winters 30 (.aload_n 0) 1 31 := ⟨by decide +kernel, rfl⟩
theorem dX10_winters_31 : GgR mX10_winters 31 34 9 0 := ⟨0, rfl, ⟨10, _, by decide +kernel, rfl, rfl, by decide, tb_2 (List.mem_of_getElem? (i := 33) (by decide +kernel)) rfl⟩, by decide, rfl⟩
theorem dX10_winters_34 : GgR mX10_winters 34 37 8 0 := ⟨0, rfl, ⟨61, _, by decide +kernel, rfl, rfl, by decide, tb_1 (List.mem_of_getElem? (i := 105) (by decide +kernel)) rfl⟩, by decide, rfl⟩
theorem dX10_winters_37 : CalV mX10_winters 37 40 mX6_save := ⟨122, by decide +kernel, rfl, tb_3 (List.mem_of_getElem? (i := 127) (by decide +kernel)) rfl, meX6_save⟩
theorem dX10_winters_40 : Ins mX10_winters 40 (.aload_n 0) 1 41 := ⟨by decide +kernel, rfl⟩
theorem dX10_winters_41 : GgR mX10_winters 41 44 9 0 := ⟨0, rfl, ⟨10, _, by decide +kernel, rfl, rfl, by decide, tb_2 (List.mem_of_getElem? (i := 33) (by decide +kernel)) rfl⟩, by decide, rfl⟩
theorem dX10_winters_44 : GgR mX10_winters 44 47 8 0 := ⟨0, rfl, ⟨61, _, by decide +kernel, rfl, rfl, by decide, tb_1 (List.mem_of_getElem? (i := 105) (by decide +kernel)) rfl⟩, by decide, rfl⟩
theorem dX10_winters_47 : Ins mX10_winters 47 (.iload_n 1) 1 48 := ⟨by decide +kernel, rfl⟩
theorem dX10_winters_48 : CalV mX10_winters 48 51 mX7_beginDraws := ⟨184, by decide +kernel, rfl, tb_4 (List.mem_of_getElem? (i := 105) (by decide +kernel)) rfl, meX7_beginDraws⟩
theorem dX10_winters_51 : Ins mX10_winters 51 (.iconst 0) 1 52 := ⟨by decide +kernel, rfl⟩
theorem dX10_winters_52 : Ins mX10_winters 52 (.istore_n 3) 1 53 := ⟨by decide +kernel, rfl⟩
theorem dX10_winters_53 : Ins mX10_winters 53 (.iload_n 3) 1 54 := ⟨by decide +kernel, rfl⟩
theorem dX10_winters_54 : Ins mX10_winters 54 (.iload_n 2) 1 55 := ⟨by decide +kernel, rfl⟩
theorem dX10_winters_55 : Ins mX10_winters 55 (.if_icmp .ge 13) 3 58 := ⟨by decide +kernel, rfl⟩
theorem dX10_winters_58 : Ins mX10_winters 58 (.aload_n 0) 1 59 := ⟨by decide +kernel, rfl⟩
theorem dX10_winters_59 : CalV mX10_winters 59 62 mX10_drawOne := ⟨187, by decide +kernel, rfl, tb_4 (List.mem_of_getElem? (i := 109) (by decide +kernel)) rfl, meX10_drawOne⟩
theorem dX10_winters_62 : Ins mX10_winters 62 (.iinc 3 1) 3 65 := ⟨by decide +kernel, rfl⟩
theorem dX10_winters_65 : Ins mX10_winters 65 (.goto (-12)) 3 68 := ⟨by decide +kernel, rfl⟩
theorem dX10_winters_68 : Ins mX10_winters 68 (.aload_n 0) 1 69 := ⟨by decide +kernel, rfl⟩
theorem dX10_winters_69 : GgR mX10_winters 69 72 9 0 := ⟨0, rfl, ⟨10, _, by decide +kernel, rfl, rfl, by decide, tb_2 (List.mem_of_getElem? (i := 33) (by decide +kernel)) rfl⟩, by decide, rfl⟩
theorem dX10_winters_72 : GgR mX10_winters 72 75 8 0 := ⟨0, rfl, ⟨61, _, by decide +kernel, rfl, rfl, by decide, tb_1 (List.mem_of_getElem? (i := 105) (by decide +kernel)) rfl⟩, by decide, rfl⟩
theorem dX10_winters_75 : CalV mX10_winters 75 78 mX7_thisMinute := ⟨151, by decide +kernel, rfl, tb_3 (List.mem_of_getElem? (i := 190) (by decide +kernel)) rfl, meX7_thisMinute⟩
theorem dX10_winters_78 : Ins mX10_winters 78 (.ireturn) 1 79 := ⟨by decide +kernel, rfl⟩
theorem dX10_undo_0 : Ins mX10_undo 0 (.aload_n 0) 1 1 := ⟨by decide +kernel, rfl⟩
theorem dX10_undo_1 : GgR mX10_undo 1 4 9 0 := ⟨0, rfl, ⟨10, _, by decide +kernel, rfl, rfl, by decide, tb_2 (List.mem_of_getElem? (i := 33) (by decide +kernel)) rfl⟩, by decide, rfl⟩
theorem dX10_undo_4 : GgR mX10_undo 4 7 8 1 := ⟨1, rfl, ⟨118, _, by decide +kernel, rfl, rfl, by decide, tb_1 (List.mem_of_getElem? (i := 107) (by decide +kernel)) rfl⟩, by decide, rfl⟩
theorem dX10_undo_7 : Ins mX10_undo 7 (.aload_n 0) 1 8 := ⟨by decide +kernel, rfl⟩
theorem dX10_undo_8 : GgR mX10_undo 8 11 9 0 := ⟨0, rfl, ⟨10, _, by decide +kernel, rfl, rfl, by decide, tb_2 (List.mem_of_getElem? (i := 33) (by decide +kernel)) rfl⟩, by decide, rfl⟩
theorem dX10_undo_11 : GgR mX10_undo 11 14 8 0 := ⟨0, rfl, ⟨61, _, by decide +kernel, rfl, rfl, by decide, tb_1 (List.mem_of_getElem? (i := 105) (by decide +kernel)) rfl⟩, by decide, rfl⟩
theorem dX10_undo_14 : CalV mX10_undo 14 17 mX6_takeBack := ⟨190, by decide +kernel, rfl, tb_4 (List.mem_of_getElem? (i := 127) (by decide +kernel)) rfl, meX6_takeBack⟩
theorem dX10_undo_17 : Ins mX10_undo 17 (.ireturn) 1 18 := ⟨by decide +kernel, rfl⟩
theorem dX10_ofHorse_0 : Ins mX10_ofHorse 0 (.aload_n 0) 1 1 := ⟨by decide +kernel, rfl⟩
theorem dX10_ofHorse_1 : GgR mX10_ofHorse 1 4 9 0 := ⟨0, rfl, ⟨10, _, by decide +kernel, rfl, rfl, by decide, tb_2 (List.mem_of_getElem? (i := 33) (by decide +kernel)) rfl⟩, by decide, rfl⟩
theorem dX10_ofHorse_4 : GgR mX10_ofHorse 4 7 8 0 := ⟨0, rfl, ⟨61, _, by decide +kernel, rfl, rfl, by decide, tb_1 (List.mem_of_getElem? (i := 105) (by decide +kernel)) rfl⟩, by decide, rfl⟩
theorem dX10_ofHorse_7 : Ins mX10_ofHorse 7 (.astore_n 3) 1 8 := ⟨by decide +kernel, rfl⟩
theorem dX10_ofHorse_8 : Ins mX10_ofHorse 8 (.aload_n 3) 1 9 := ⟨by decide +kernel, rfl⟩
theorem dX10_ofHorse_9 : Ins mX10_ofHorse 9 (.iload_n 1) 1 10 := ⟨by decide +kernel, rfl⟩
theorem dX10_ofHorse_10 : CalV mX10_ofHorse 10 13 mX7_isHorse := ⟨194, by decide +kernel, rfl, tb_4 (List.mem_of_getElem? (i := 137) (by decide +kernel)) rfl, meX7_isHorse⟩
theorem dX10_ofHorse_13 : Ins mX10_ofHorse 13 (.ifCond .ne 6) 3 16 := ⟨by decide +kernel, rfl⟩
theorem dX10_ofHorse_16 : Ins mX10_ofHorse 16 (.bipush (-2)) 2 18 := ⟨by decide +kernel, rfl⟩
theorem dX10_ofHorse_18 : Ins mX10_ofHorse 18 (.ireturn) 1 19 := ⟨by decide +kernel, rfl⟩
theorem dX10_ofHorse_19 : Ins mX10_ofHorse 19 (.aload_n 3) 1 20 := ⟨by decide +kernel, rfl⟩
theorem dX10_ofHorse_20 : CalV mX10_ofHorse 20 23 mX7_thisMinute := ⟨151, by decide +kernel, rfl, tb_3 (List.mem_of_getElem? (i := 190) (by decide +kernel)) rfl, meX7_thisMinute⟩
theorem dX10_ofHorse_23 : Ins mX10_ofHorse 23 (.istore 4) 2 25 := ⟨by decide +kernel, rfl⟩
theorem dX10_ofHorse_25 : Ins mX10_ofHorse 25 (.iload_n 2) 1 26 := ⟨by decide +kernel, rfl⟩
theorem dX10_ofHorse_26 : Ins mX10_ofHorse 26 (.tableswitch 101 0 5 #[38, 44, 50, 56, 62, 78]) 38 64 := ⟨by decide +kernel, rfl⟩
theorem dX10_ofHorse_64 : Ins mX10_ofHorse 64 (.aload_n 3) 1 65 := ⟨by decide +kernel, rfl⟩
theorem dX10_ofHorse_65 : Ins mX10_ofHorse 65 (.iload_n 1) 1 66 := ⟨by decide +kernel, rfl⟩
theorem dX10_ofHorse_66 : CalV mX10_ofHorse 66 69 mX7_beatOf := ⟨197, by decide +kernel, rfl, tb_4 (List.mem_of_getElem? (i := 138) (by decide +kernel)) rfl, meX7_beatOf⟩
theorem dX10_ofHorse_69 : Ins mX10_ofHorse 69 (.ireturn) 1 70 := ⟨by decide +kernel, rfl⟩
theorem dX10_ofHorse_70 : Ins mX10_ofHorse 70 (.aload_n 3) 1 71 := ⟨by decide +kernel, rfl⟩
theorem dX10_ofHorse_71 : Ins mX10_ofHorse 71 (.iload_n 1) 1 72 := ⟨by decide +kernel, rfl⟩
theorem dX10_ofHorse_72 : CalV mX10_ofHorse 72 75 mX7_shiftOf := ⟨200, by decide +kernel, rfl, tb_4 (List.mem_of_getElem? (i := 139) (by decide +kernel)) rfl, meX7_shiftOf⟩
theorem dX10_ofHorse_75 : Ins mX10_ofHorse 75 (.ireturn) 1 76 := ⟨by decide +kernel, rfl⟩
theorem dX10_ofHorse_76 : Ins mX10_ofHorse 76 (.aload_n 3) 1 77 := ⟨by decide +kernel, rfl⟩
theorem dX10_ofHorse_77 : Ins mX10_ofHorse 77 (.iload_n 1) 1 78 := ⟨by decide +kernel, rfl⟩
theorem dX10_ofHorse_78 : CalV mX10_ofHorse 78 81 mX7_wearOf := ⟨203, by decide +kernel, rfl, tb_4 (List.mem_of_getElem? (i := 140) (by decide +kernel)) rfl, meX7_wearOf⟩
theorem dX10_ofHorse_81 : Ins mX10_ofHorse 81 (.ireturn) 1 82 := ⟨by decide +kernel, rfl⟩
theorem dX10_ofHorse_82 : Ins mX10_ofHorse 82 (.aload_n 3) 1 83 := ⟨by decide +kernel, rfl⟩
theorem dX10_ofHorse_83 : Ins mX10_ofHorse 83 (.iload_n 1) 1 84 := ⟨by decide +kernel, rfl⟩
theorem dX10_ofHorse_84 : CalV mX10_ofHorse 84 87 mX7_riderOf := ⟨206, by decide +kernel, rfl, tb_4 (List.mem_of_getElem? (i := 141) (by decide +kernel)) rfl, meX7_riderOf⟩
theorem dX10_ofHorse_87 : Ins mX10_ofHorse 87 (.ireturn) 1 88 := ⟨by decide +kernel, rfl⟩
theorem dX10_ofHorse_88 : Ins mX10_ofHorse 88 (.aload_n 3) 1 89 := ⟨by decide +kernel, rfl⟩
theorem dX10_ofHorse_89 : Ins mX10_ofHorse 89 (.iload_n 1) 1 90 := ⟨by decide +kernel, rfl⟩
theorem dX10_ofHorse_90 : Ins mX10_ofHorse 90 (.iload 4) 2 92 := ⟨by decide +kernel, rfl⟩
theorem dX10_ofHorse_92 : CalV mX10_ofHorse 92 95 mX7_rocksAt := ⟨209, by decide +kernel, rfl, tb_4 (List.mem_of_getElem? (i := 142) (by decide +kernel)) rfl, meX7_rocksAt⟩
theorem dX10_ofHorse_95 : Ins mX10_ofHorse 95 (.ifCond .eq 7) 3 98 := ⟨by decide +kernel, rfl⟩
theorem dX10_ofHorse_98 : Ins mX10_ofHorse 98 (.iconst 1) 1 99 := ⟨by decide +kernel, rfl⟩
theorem dX10_ofHorse_99 : Ins mX10_ofHorse 99 (.goto 4) 3 102 := ⟨by decide +kernel, rfl⟩
theorem dX10_ofHorse_102 : Ins mX10_ofHorse 102 (.iconst 0) 1 103 := ⟨by decide +kernel, rfl⟩
theorem dX10_ofHorse_103 : Ins mX10_ofHorse 103 (.ireturn) 1 104 := ⟨by decide +kernel, rfl⟩
theorem dX10_ofHorse_104 : Ins mX10_ofHorse 104 (.aload_n 0) 1 105 := ⟨by decide +kernel, rfl⟩
theorem dX10_ofHorse_105 : GgR mX10_ofHorse 105 108 9 4 := ⟨4, rfl, ⟨35, _, by decide +kernel, rfl, rfl, by decide, tb_2 (List.mem_of_getElem? (i := 37) (by decide +kernel)) rfl⟩, by decide, rfl⟩
theorem dX10_ofHorse_108 : Ins mX10_ofHorse 108 (.aload_n 0) 1 109 := ⟨by decide +kernel, rfl⟩
theorem dX10_ofHorse_109 : CalV mX10_ofHorse 109 112 mX10_ruling := ⟨155, by decide +kernel, rfl, tb_3 (List.mem_of_getElem? (i := 194) (by decide +kernel)) rfl, meX10_ruling⟩
theorem dX10_ofHorse_112 : Ins mX10_ofHorse 112 (.aload_n 3) 1 113 := ⟨by decide +kernel, rfl⟩
theorem dX10_ofHorse_113 : Ins mX10_ofHorse 113 (.iload_n 1) 1 114 := ⟨by decide +kernel, rfl⟩
theorem dX10_ofHorse_114 : Ins mX10_ofHorse 114 (.aload_n 3) 1 115 := ⟨by decide +kernel, rfl⟩
theorem dX10_ofHorse_115 : Ins mX10_ofHorse 115 (.iload 4) 2 117 := ⟨by decide +kernel, rfl⟩
theorem dX10_ofHorse_117 : CalV mX10_ofHorse 117 120 mX7_rockingAt := ⟨212, by decide +kernel, rfl, tb_4 (List.mem_of_getElem? (i := 146) (by decide +kernel)) rfl, meX7_rockingAt⟩
theorem dX10_ofHorse_120 : CalS mX10_ofHorse 120 123 mJ6_bitCount_0f7a4 := ⟨215, by decide +kernel, rfl, Or.inl (tb_4 (List.mem_of_getElem? (i := 147) (by decide +kernel)) rfl), meJ6_bitCount_0f7a4⟩
theorem dX10_ofHorse_123 : CalV mX10_ofHorse 123 126 mX1_wears := ⟨220, by decide +kernel, rfl, tb_4 (List.mem_of_getElem? (i := 148) (by decide +kernel)) rfl, meX1_wears⟩
theorem dX10_ofHorse_126 : Ins mX10_ofHorse 126 (.ireturn) 1 127 := ⟨by decide +kernel, rfl⟩
theorem dX10_ofHorse_127 : Ins mX10_ofHorse 127 (.bipush (-2)) 2 129 := ⟨by decide +kernel, rfl⟩
theorem dX10_ofHorse_129 : Ins mX10_ofHorse 129 (.ireturn) 1 130 := ⟨by decide +kernel, rfl⟩
theorem dX10_ofBoy_0 : Ins mX10_ofBoy 0 (.aload_n 0) 1 1 := ⟨by decide +kernel, rfl⟩
theorem dX10_ofBoy_1 : GgR mX10_ofBoy 1 4 9 0 := ⟨0, rfl, ⟨10, _, by decide +kernel, rfl, rfl, by decide, tb_2 (List.mem_of_getElem? (i := 33) (by decide +kernel)) rfl⟩, by decide, rfl⟩
theorem dX10_ofBoy_4 : GgR mX10_ofBoy 4 7 8 0 := ⟨0, rfl, ⟨61, _, by decide +kernel, rfl, rfl, by decide, tb_1 (List.mem_of_getElem? (i := 105) (by decide +kernel)) rfl⟩, by decide, rfl⟩
theorem dX10_ofBoy_7 : Ins mX10_ofBoy 7 (.astore_n 3) 1 8 := ⟨by decide +kernel, rfl⟩
theorem dX10_ofBoy_8 : Ins mX10_ofBoy 8 (.aload_n 3) 1 9 := ⟨by decide +kernel, rfl⟩
theorem dX10_ofBoy_9 : Ins mX10_ofBoy 9 (.iload_n 1) 1 10 := ⟨by decide +kernel, rfl⟩
theorem dX10_ofBoy_10 : CalV mX10_ofBoy 10 13 mX7_isBoy := ⟨224, by decide +kernel, rfl, tb_4 (List.mem_of_getElem? (i := 153) (by decide +kernel)) rfl, meX7_isBoy⟩
theorem dX10_ofBoy_13 : Ins mX10_ofBoy 13 (.ifCond .ne 6) 3 16 := ⟨by decide +kernel, rfl⟩
theorem dX10_ofBoy_16 : Ins mX10_ofBoy 16 (.bipush (-2)) 2 18 := ⟨by decide +kernel, rfl⟩
theorem dX10_ofBoy_18 : Ins mX10_ofBoy 18 (.ireturn) 1 19 := ⟨by decide +kernel, rfl⟩
theorem dX10_ofBoy_19 : Ins mX10_ofBoy 19 (.iload_n 2) 1 20 := ⟨by decide +kernel, rfl⟩
theorem dX10_ofBoy_20 : Ins mX10_ofBoy 20 (.tableswitch 72 0 3 #[32, 38, 44, 50]) 32 52 := ⟨by decide +kernel, rfl⟩
theorem dX10_ofBoy_52 : Ins mX10_ofBoy 52 (.aload_n 3) 1 53 := ⟨by decide +kernel, rfl⟩
theorem dX10_ofBoy_53 : Ins mX10_ofBoy 53 (.iload_n 1) 1 54 := ⟨by decide +kernel, rfl⟩
theorem dX10_ofBoy_54 : CalV mX10_ofBoy 54 57 mX7_sizeOf := ⟨227, by decide +kernel, rfl, tb_4 (List.mem_of_getElem? (i := 154) (by decide +kernel)) rfl, meX7_sizeOf⟩
theorem dX10_ofBoy_57 : Ins mX10_ofBoy 57 (.ireturn) 1 58 := ⟨by decide +kernel, rfl⟩
theorem dX10_ofBoy_58 : Ins mX10_ofBoy 58 (.aload_n 3) 1 59 := ⟨by decide +kernel, rfl⟩
theorem dX10_ofBoy_59 : Ins mX10_ofBoy 59 (.iload_n 1) 1 60 := ⟨by decide +kernel, rfl⟩
theorem dX10_ofBoy_60 : CalV mX10_ofBoy 60 63 mX7_tiredOf := ⟨230, by decide +kernel, rfl, tb_4 (List.mem_of_getElem? (i := 155) (by decide +kernel)) rfl, meX7_tiredOf⟩
theorem dX10_ofBoy_63 : Ins mX10_ofBoy 63 (.ireturn) 1 64 := ⟨by decide +kernel, rfl⟩
theorem dX10_ofBoy_64 : Ins mX10_ofBoy 64 (.aload_n 3) 1 65 := ⟨by decide +kernel, rfl⟩
theorem dX10_ofBoy_65 : Ins mX10_ofBoy 65 (.iload_n 1) 1 66 := ⟨by decide +kernel, rfl⟩
theorem dX10_ofBoy_66 : CalV mX10_ofBoy 66 69 mX7_seatOf := ⟨132, by decide +kernel, rfl, tb_3 (List.mem_of_getElem? (i := 143) (by decide +kernel)) rfl, meX7_seatOf⟩
theorem dX10_ofBoy_69 : Ins mX10_ofBoy 69 (.ireturn) 1 70 := ⟨by decide +kernel, rfl⟩
theorem dX10_ofBoy_70 : Ins mX10_ofBoy 70 (.aload_n 0) 1 71 := ⟨by decide +kernel, rfl⟩
theorem dX10_ofBoy_71 : GgR mX10_ofBoy 71 74 9 4 := ⟨4, rfl, ⟨35, _, by decide +kernel, rfl, rfl, by decide, tb_2 (List.mem_of_getElem? (i := 37) (by decide +kernel)) rfl⟩, by decide, rfl⟩
theorem dX10_ofBoy_74 : Ins mX10_ofBoy 74 (.aload_n 0) 1 75 := ⟨by decide +kernel, rfl⟩
theorem dX10_ofBoy_75 : CalV mX10_ofBoy 75 78 mX10_ruling := ⟨155, by decide +kernel, rfl, tb_3 (List.mem_of_getElem? (i := 194) (by decide +kernel)) rfl, meX10_ruling⟩
theorem dX10_ofBoy_78 : Ins mX10_ofBoy 78 (.aload_n 3) 1 79 := ⟨by decide +kernel, rfl⟩
theorem dX10_ofBoy_79 : Ins mX10_ofBoy 79 (.iload_n 1) 1 80 := ⟨by decide +kernel, rfl⟩
theorem dX10_ofBoy_80 : Ins mX10_ofBoy 80 (.aload_n 3) 1 81 := ⟨by decide +kernel, rfl⟩
theorem dX10_ofBoy_81 : Ins mX10_ofBoy 81 (.aload_n 3) 1 82 := ⟨by decide +kernel, rfl⟩
theorem dX10_ofBoy_82 : CalV mX10_ofBoy 82 85 mX7_thisMinute := ⟨151, by decide +kernel, rfl, tb_3 (List.mem_of_getElem? (i := 190) (by decide +kernel)) rfl, meX7_thisMinute⟩
theorem dX10_ofBoy_85 : CalV mX10_ofBoy 85 88 mX7_rockingAt := ⟨212, by decide +kernel, rfl, tb_4 (List.mem_of_getElem? (i := 146) (by decide +kernel)) rfl, meX7_rockingAt⟩
theorem dX10_ofBoy_88 : CalV mX10_ofBoy 88 91 mX1_tires := ⟨233, by decide +kernel, rfl, tb_4 (List.mem_of_getElem? (i := 156) (by decide +kernel)) rfl, meX1_tires⟩
theorem dX10_ofBoy_91 : Ins mX10_ofBoy 91 (.ireturn) 1 92 := ⟨by decide +kernel, rfl⟩
theorem dX10_ofBoy_92 : Ins mX10_ofBoy 92 (.bipush (-2)) 2 94 := ⟨by decide +kernel, rfl⟩
theorem dX10_ofBoy_94 : Ins mX10_ofBoy 94 (.ireturn) 1 95 := ⟨by decide +kernel, rfl⟩
theorem dX10_is_0 : Ins mX10_is 0 (.aload_n 0) 1 1 := ⟨by decide +kernel, rfl⟩
theorem dX10_is_1 : GgR mX10_is 1 4 9 0 := ⟨0, rfl, ⟨10, _, by decide +kernel, rfl, rfl, by decide, tb_2 (List.mem_of_getElem? (i := 33) (by decide +kernel)) rfl⟩, by decide, rfl⟩
theorem dX10_is_4 : GgR mX10_is 4 7 8 0 := ⟨0, rfl, ⟨61, _, by decide +kernel, rfl, rfl, by decide, tb_1 (List.mem_of_getElem? (i := 105) (by decide +kernel)) rfl⟩, by decide, rfl⟩
theorem dX10_is_7 : Ins mX10_is 7 (.astore_n 2) 1 8 := ⟨by decide +kernel, rfl⟩
theorem dX10_is_8 : Ins mX10_is 8 (.aload_n 2) 1 9 := ⟨by decide +kernel, rfl⟩
theorem dX10_is_9 : Ins mX10_is 9 (.aload_n 2) 1 10 := ⟨by decide +kernel, rfl⟩
theorem dX10_is_10 : CalV mX10_is 10 13 mX7_thisMinute := ⟨151, by decide +kernel, rfl, tb_3 (List.mem_of_getElem? (i := 190) (by decide +kernel)) rfl, meX7_thisMinute⟩
theorem dX10_is_13 : CalV mX10_is 13 16 mX7_rockingAt := ⟨212, by decide +kernel, rfl, tb_4 (List.mem_of_getElem? (i := 146) (by decide +kernel)) rfl, meX7_rockingAt⟩
theorem dX10_is_16 : CalS mX10_is 16 19 mJ6_bitCount_0f7a4 := ⟨215, by decide +kernel, rfl, Or.inl (tb_4 (List.mem_of_getElem? (i := 147) (by decide +kernel)) rfl), meJ6_bitCount_0f7a4⟩
theorem dX10_is_19 : Ins mX10_is 19 (.istore_n 3) 1 20 := ⟨by decide +kernel, rfl⟩
theorem dX10_is_20 : Ins mX10_is 20 (.iload_n 1) 1 21 := ⟨by decide +kernel, rfl⟩
theorem dX10_is_21 : Ins mX10_is 21 (.tableswitch 84 0 6 #[43, 48, 53, 58, 63, 68, 82]) 43 64 := ⟨by decide +kernel, rfl⟩
theorem dX10_is_64 : Ins mX10_is 64 (.aload_n 2) 1 65 := ⟨by decide +kernel, rfl⟩
theorem dX10_is_65 : CalV mX10_is 65 68 mX7_thisMinute := ⟨151, by decide +kernel, rfl, tb_3 (List.mem_of_getElem? (i := 190) (by decide +kernel)) rfl, meX7_thisMinute⟩
theorem dX10_is_68 : Ins mX10_is 68 (.ireturn) 1 69 := ⟨by decide +kernel, rfl⟩
theorem dX10_is_69 : Ins mX10_is 69 (.aload_n 2) 1 70 := ⟨by decide +kernel, rfl⟩
theorem dX10_is_70 : CalV mX10_is 70 73 mX7_snow := ⟨236, by decide +kernel, rfl, tb_4 (List.mem_of_getElem? (i := 161) (by decide +kernel)) rfl, meX7_snow⟩
theorem dX10_is_73 : Ins mX10_is 73 (.ireturn) 1 74 := ⟨by decide +kernel, rfl⟩
theorem dX10_is_74 : Ins mX10_is 74 (.aload_n 2) 1 75 := ⟨by decide +kernel, rfl⟩
theorem dX10_is_75 : GgI mX10_is 75 78 6 3 := ⟨3, rfl, ⟨76, _, by decide +kernel, rfl, rfl, by decide, tb_1 (List.mem_of_getElem? (i := 46) (by decide +kernel)) rfl⟩, by decide, rfl⟩
theorem dX10_is_78 : Ins mX10_is 78 (.ireturn) 1 79 := ⟨by decide +kernel, rfl⟩
theorem dX10_is_79 : Ins mX10_is 79 (.aload_n 2) 1 80 := ⟨by decide +kernel, rfl⟩
theorem dX10_is_80 : CalV mX10_is 80 83 mX7_oilLeft := ⟨239, by decide +kernel, rfl, tb_4 (List.mem_of_getElem? (i := 162) (by decide +kernel)) rfl, meX7_oilLeft⟩
theorem dX10_is_83 : Ins mX10_is 83 (.ireturn) 1 84 := ⟨by decide +kernel, rfl⟩
theorem dX10_is_84 : Ins mX10_is 84 (.aload_n 2) 1 85 := ⟨by decide +kernel, rfl⟩
theorem dX10_is_85 : CalV mX10_is 85 88 mX7_x := ⟨242, by decide +kernel, rfl, tb_4 (List.mem_of_getElem? (i := 163) (by decide +kernel)) rfl, meX7_x⟩
theorem dX10_is_88 : Ins mX10_is 88 (.ireturn) 1 89 := ⟨by decide +kernel, rfl⟩
theorem dX10_is_89 : Ins mX10_is 89 (.aload_n 0) 1 90 := ⟨by decide +kernel, rfl⟩
theorem dX10_is_90 : GgR mX10_is 90 93 9 4 := ⟨4, rfl, ⟨35, _, by decide +kernel, rfl, rfl, by decide, tb_2 (List.mem_of_getElem? (i := 37) (by decide +kernel)) rfl⟩, by decide, rfl⟩
theorem dX10_is_93 : Ins mX10_is 93 (.aload_n 0) 1 94 := ⟨by decide +kernel, rfl⟩
theorem dX10_is_94 : CalV mX10_is 94 97 mX10_ruling := ⟨155, by decide +kernel, rfl, tb_3 (List.mem_of_getElem? (i := 194) (by decide +kernel)) rfl, meX10_ruling⟩
theorem dX10_is_97 : Ins mX10_is 97 (.aload_n 2) 1 98 := ⟨by decide +kernel, rfl⟩
theorem dX10_is_98 : Ins mX10_is 98 (.iload_n 3) 1 99 := ⟨by decide +kernel, rfl⟩
theorem dX10_is_99 : CalV mX10_is 99 102 mX1_seen := ⟨245, by decide +kernel, rfl, tb_4 (List.mem_of_getElem? (i := 164) (by decide +kernel)) rfl, meX1_seen⟩
theorem dX10_is_102 : Ins mX10_is 102 (.ireturn) 1 103 := ⟨by decide +kernel, rfl⟩
theorem dX10_is_103 : Ins mX10_is 103 (.iload_n 3) 1 104 := ⟨by decide +kernel, rfl⟩
theorem dX10_is_104 : Ins mX10_is 104 (.ireturn) 1 105 := ⟨by decide +kernel, rfl⟩
theorem dX10_is_105 : Ins mX10_is 105 (.bipush (-2)) 2 107 := ⟨by decide +kernel, rfl⟩
theorem dX10_is_107 : Ins mX10_is 107 (.ireturn) 1 108 := ⟨by decide +kernel, rfl⟩
theorem dX10_book_0 : Ins mX10_book 0 (.iload_n 1) 1 1 := ⟨by decide +kernel, rfl⟩
theorem dX10_book_1 : Ins mX10_book 1 (.iconst (-1)) 1 2 := ⟨by decide +kernel, rfl⟩
theorem dX10_book_2 : Ins mX10_book 2 (.if_icmp .ne 14) 3 5 := ⟨by decide +kernel, rfl⟩
theorem dX10_book_5 : Ins mX10_book 5 (.aload_n 0) 1 6 := ⟨by decide +kernel, rfl⟩
theorem dX10_book_6 : GgR mX10_book 6 9 9 0 := ⟨0, rfl, ⟨10, _, by decide +kernel, rfl, rfl, by decide, tb_2 (List.mem_of_getElem? (i := 33) (by decide +kernel)) rfl⟩, by decide, rfl⟩
theorem dX10_book_9 : GgR mX10_book 9 12 8 0 := ⟨0, rfl, ⟨61, _, by decide +kernel, rfl, rfl, by decide, tb_1 (List.mem_of_getElem? (i := 105) (by decide +kernel)) rfl⟩, by decide, rfl⟩
theorem dX10_book_12 : CalV mX10_book 12 15 mX7_slides := ⟨249, by decide +kernel, rfl, tb_4 (List.mem_of_getElem? (i := 172) (by decide +kernel)) rfl, meX7_slides⟩
theorem dX10_book_15 : Ins mX10_book 15 (.ireturn) 1 16 := ⟨by decide +kernel, rfl⟩
theorem dX10_book_16 : Ins mX10_book 16 (.aload_n 0) 1 17 := ⟨by decide +kernel, rfl⟩
theorem dX10_book_17 : GgR mX10_book 17 20 9 0 := ⟨0, rfl, ⟨10, _, by decide +kernel, rfl, rfl, by decide, tb_2 (List.mem_of_getElem? (i := 33) (by decide +kernel)) rfl⟩, by decide, rfl⟩
theorem dX10_book_20 : GgR mX10_book 20 23 8 0 := ⟨0, rfl, ⟨61, _, by decide +kernel, rfl, rfl, by decide, tb_1 (List.mem_of_getElem? (i := 105) (by decide +kernel)) rfl⟩, by decide, rfl⟩
theorem dX10_book_23 : Ins mX10_book 23 (.iload_n 1) 1 24 := ⟨by decide +kernel, rfl⟩
theorem dX10_book_24 : Ins mX10_book 24 (.iload_n 2) 1 25 := ⟨by decide +kernel, rfl⟩
theorem dX10_book_25 : CalV mX10_book 25 28 mX7_slideAt := ⟨252, by decide +kernel, rfl, tb_4 (List.mem_of_getElem? (i := 173) (by decide +kernel)) rfl, meX7_slideAt⟩
theorem dX10_book_28 : Ins mX10_book 28 (.ireturn) 1 29 := ⟨by decide +kernel, rfl⟩
theorem dX10_rocking_0 : Ins mX10_rocking 0 (.iload_n 1) 1 1 := ⟨by decide +kernel, rfl⟩
theorem dX10_rocking_1 : Ins mX10_rocking 1 (.iconst 0) 1 2 := ⟨by decide +kernel, rfl⟩
theorem dX10_rocking_2 : Ins mX10_rocking 2 (.sipush 9999) 3 5 := ⟨by decide +kernel, rfl⟩
theorem dX10_rocking_5 : CalS mX10_rocking 5 8 mX10_isWithin := ⟨72, by decide +kernel, rfl, Or.inl (tb_2 (List.mem_of_getElem? (i := 89) (by decide +kernel)) rfl), meX10_isWithin⟩
theorem dX10_rocking_8 : Ins mX10_rocking 8 (.ifCond .eq 17) 3 11 := ⟨by decide +kernel, rfl⟩
theorem dX10_rocking_11 : Ins mX10_rocking 11 (.aload_n 0) 1 12 := ⟨by decide +kernel, rfl⟩
theorem dX10_rocking_12 : GgR mX10_rocking 12 15 9 0 := ⟨0, rfl, ⟨10, _, by decide +kernel, rfl, rfl, by decide, tb_2 (List.mem_of_getElem? (i := 33) (by decide +kernel)) rfl⟩, by decide, rfl⟩
theorem dX10_rocking_15 : GgR mX10_rocking 15 18 8 0 := ⟨0, rfl, ⟨61, _, by decide +kernel, rfl, rfl, by decide, tb_1 (List.mem_of_getElem? (i := 105) (by decide +kernel)) rfl⟩, by decide, rfl⟩
theorem dX10_rocking_18 : Ins mX10_rocking 18 (.iload_n 1) 1 19 := ⟨by decide +kernel, rfl⟩
theorem dX10_rocking_19 : CalV mX10_rocking 19 22 mX7_rockingAt := ⟨212, by decide +kernel, rfl, tb_4 (List.mem_of_getElem? (i := 146) (by decide +kernel)) rfl, meX7_rockingAt⟩
theorem dX10_rocking_22 : Ins mX10_rocking 22 (.goto 4) 3 25 := ⟨by decide +kernel, rfl⟩
theorem dX10_rocking_25 : Ins mX10_rocking 25 (.iconst (-1)) 1 26 := ⟨by decide +kernel, rfl⟩
theorem dX10_rocking_26 : Ins mX10_rocking 26 (.ireturn) 1 27 := ⟨by decide +kernel, rfl⟩
theorem dX10_together_0 : Ins mX10_together 0 (.aload_n 0) 1 1 := ⟨by decide +kernel, rfl⟩
theorem dX10_together_1 : GgR mX10_together 1 4 9 0 := ⟨0, rfl, ⟨10, _, by decide +kernel, rfl, rfl, by decide, tb_2 (List.mem_of_getElem? (i := 33) (by decide +kernel)) rfl⟩, by decide, rfl⟩
theorem dX10_together_4 : GgR mX10_together 4 7 8 0 := ⟨0, rfl, ⟨61, _, by decide +kernel, rfl, rfl, by decide, tb_1 (List.mem_of_getElem? (i := 105) (by decide +kernel)) rfl⟩, by decide, rfl⟩
theorem dX10_together_7 : Ins mX10_together 7 (.astore_n 2) 1 8 := ⟨by decide +kernel, rfl⟩
theorem dX10_together_8 : Ins mX10_together 8 (.iload_n 1) 1 9 := ⟨by decide +kernel, rfl⟩
theorem dX10_together_9 : Ins mX10_together 9 (.ifCond .eq 11) 3 12 := ⟨by decide +kernel, rfl⟩
theorem dX10_together_12 : Ins mX10_together 12 (.aload_n 2) 1 13 := ⟨by decide +kernel, rfl⟩
theorem dX10_together_13 : Ins mX10_together 13 (.iload_n 1) 1 14 := ⟨by decide +kernel, rfl⟩
theorem dX10_together_14 : CalV mX10_together 14 17 mX7_isSet := ⟨255, by decide +kernel, rfl, tb_4 (List.mem_of_getElem? (i := 185) (by decide +kernel)) rfl, meX7_isSet⟩
theorem dX10_together_17 : Ins mX10_together 17 (.ifCond .ne 5) 3 20 := ⟨by decide +kernel, rfl⟩
theorem dX10_together_20 : Ins mX10_together 20 (.iconst (-1)) 1 21 := ⟨by decide +kernel, rfl⟩
theorem dX10_together_21 : Ins mX10_together 21 (.ireturn) 1 22 := ⟨by decide +kernel, rfl⟩
theorem dX10_together_22 : Ins mX10_together 22 (.aload_n 2) 1 23 := ⟨by decide +kernel, rfl⟩
theorem dX10_together_23 : CalV mX10_together 23 26 mX7_thisMinute := ⟨151, by decide +kernel, rfl, tb_3 (List.mem_of_getElem? (i := 190) (by decide +kernel)) rfl, meX7_thisMinute⟩
theorem dX10_together_26 : Ins mX10_together 26 (.istore_n 3) 1 27 := ⟨by decide +kernel, rfl⟩
theorem dX10_together_27 : Ins mX10_together 27 (.sipush 9999) 3 30 := ⟨by decide +kernel, rfl⟩
theorem dX10_together_30 : Ins mX10_together 30 (.iload_n 3) 1 31 := ⟨by decide +kernel, rfl⟩
theorem dX10_together_31 : Ins mX10_together 31 (.sipush 2520) 3 34 := ⟨by decide +kernel, rfl⟩
theorem dX10_together_34 : Ins mX10_together 34 (.iadd) 1 35 := ⟨by decide +kernel, rfl⟩
theorem dX10_together_35 : CalM mX10_together 35 38 Lib.Math.min.name Lib.Math.min.code 2 (some .int) := ⟨258, by decide +kernel, rfl, tb_4 (List.mem_of_getElem? (i := 189) (by decide +kernel)) rfl, tb_1 (List.mem_of_getElem? (i := 83) (by decide +kernel)) rfl, tb_1 (List.mem_of_getElem? (i := 6) (by decide +kernel)) rfl, tb_1 (List.mem_of_getElem? (i := 84) rfl) rfl⟩
theorem dX10_together_38 : Ins mX10_together 38 (.istore 4) 2 40 := ⟨by decide +kernel, rfl⟩
theorem dX10_together_40 : Ins mX10_together 40 (.iload_n 3) 1 41 := ⟨by decide +kernel, rfl⟩
theorem dX10_together_41 : Ins mX10_together 41 (.istore 5) 2 43 := ⟨by decide +kernel, rfl⟩
theorem dX10_together_43 : Ins mX10_together 43 (.iload 5) 2 45 := ⟨by decide +kernel, rfl⟩
theorem dX10_together_45 : Ins mX10_together 45 (.iload 4) 2 47 := ⟨by decide +kernel, rfl⟩
theorem dX10_together_47 : Ins mX10_together 47 (.if_icmp .gt 24) 3 50 := ⟨by decide +kernel, rfl⟩
theorem dX10_together_50 : Ins mX10_together 50 (.aload_n 2) 1 51 := ⟨by decide +kernel, rfl⟩
theorem dX10_together_51 : Ins mX10_together 51 (.iload 5) 2 53 := ⟨by decide +kernel, rfl⟩
theorem dX10_together_53 : CalV mX10_together 53 56 mX7_dueAt := ⟨263, by decide +kernel, rfl, tb_4 (List.mem_of_getElem? (i := 190) (by decide +kernel)) rfl, meX7_dueAt⟩
theorem dX10_together_56 : Ins mX10_together 56 (.iload_n 1) 1 57 := ⟨by decide +kernel, rfl⟩
theorem dX10_together_57 : Ins mX10_together 57 (.iand) 1 58 := ⟨by decide +kernel, rfl⟩
theorem dX10_together_58 : Ins mX10_together 58 (.iload_n 1) 1 59 := ⟨by decide +kernel, rfl⟩
theorem dX10_together_59 : Ins mX10_together 59 (.if_icmp .ne 6) 3 62 := ⟨by decide +kernel, rfl⟩
theorem dX10_together_62 : Ins mX10_together 62 (.iload 5) 2 64 := ⟨by decide +kernel, rfl⟩
theorem dX10_together_64 : Ins mX10_together 64 (.ireturn) 1 65 := ⟨by decide +kernel, rfl⟩
theorem dX10_together_65 : Ins mX10_together 65 (.iinc 5 1) 3 68 := ⟨by decide +kernel, rfl⟩
theorem dX10_together_68 : Ins mX10_together 68 (.goto (-25)) 3 71 := ⟨by decide +kernel, rfl⟩
theorem dX10_together_71 : Ins mX10_together 71 (.iconst (-1)) 1 72 := ⟨by decide +kernel, rfl⟩
theorem dX10_together_72 : Ins mX10_together 72 (.ireturn) 1 73 := ⟨by decide +kernel, rfl⟩
theorem dX10_foretold_0 : Ins mX10_foretold 0 (.iload_n 2) 1 1 := ⟨by decide +kernel, rfl⟩
theorem dX10_foretold_1 : Ins mX10_foretold 1 (.ifCond .eq 41) 3 4 := ⟨by decide +kernel, rfl⟩
theorem dX10_foretold_4 : Ins mX10_foretold 4 (.iload_n 2) 1 5 := ⟨by decide +kernel, rfl⟩
theorem dX10_foretold_5 : Ins mX10_foretold 5 (.iconst 1) 1 6 := ⟨by decide +kernel, rfl⟩
theorem dX10_foretold_6 : Ins mX10_foretold 6 (.if_icmp .ne 17) 3 9 := ⟨by decide +kernel, rfl⟩
theorem dX10_foretold_9 : Ins mX10_foretold 9 (.aload_n 0) 1 10 := ⟨by decide +kernel, rfl⟩
theorem dX10_foretold_10 : GgR mX10_foretold 10 13 9 0 := ⟨0, rfl, ⟨10, _, by decide +kernel, rfl, rfl, by decide, tb_2 (List.mem_of_getElem? (i := 33) (by decide +kernel)) rfl⟩, by decide, rfl⟩
theorem dX10_foretold_13 : GgR mX10_foretold 13 16 8 0 := ⟨0, rfl, ⟨61, _, by decide +kernel, rfl, rfl, by decide, tb_1 (List.mem_of_getElem? (i := 105) (by decide +kernel)) rfl⟩, by decide, rfl⟩
theorem dX10_foretold_16 : Ins mX10_foretold 16 (.iload_n 3) 1 17 := ⟨by decide +kernel, rfl⟩
theorem dX10_foretold_17 : CalV mX10_foretold 17 20 mX7_isHorse := ⟨194, by decide +kernel, rfl, tb_4 (List.mem_of_getElem? (i := 137) (by decide +kernel)) rfl, meX7_isHorse⟩
theorem dX10_foretold_20 : Ins mX10_foretold 20 (.ifCond .ne 22) 3 23 := ⟨by decide +kernel, rfl⟩
theorem dX10_foretold_23 : Ins mX10_foretold 23 (.iload_n 2) 1 24 := ⟨by decide +kernel, rfl⟩
theorem dX10_foretold_24 : Ins mX10_foretold 24 (.iconst 2) 1 25 := ⟨by decide +kernel, rfl⟩
theorem dX10_foretold_25 : Ins mX10_foretold 25 (.if_icmp .ne 21) 3 28 := ⟨by decide +kernel, rfl⟩
theorem dX10_foretold_28 : Ins mX10_foretold 28 (.aload_n 0) 1 29 := ⟨by decide +kernel, rfl⟩
theorem dX10_foretold_29 : GgR mX10_foretold 29 32 9 0 := ⟨0, rfl, ⟨10, _, by decide +kernel, rfl, rfl, by decide, tb_2 (List.mem_of_getElem? (i := 33) (by decide +kernel)) rfl⟩, by decide, rfl⟩
theorem dX10_foretold_32 : GgR mX10_foretold 32 35 8 0 := ⟨0, rfl, ⟨61, _, by decide +kernel, rfl, rfl, by decide, tb_1 (List.mem_of_getElem? (i := 105) (by decide +kernel)) rfl⟩, by decide, rfl⟩
theorem dX10_foretold_35 : Ins mX10_foretold 35 (.iload_n 3) 1 36 := ⟨by decide +kernel, rfl⟩
theorem dX10_foretold_36 : CalV mX10_foretold 36 39 mX7_isBoy := ⟨224, by decide +kernel, rfl, tb_4 (List.mem_of_getElem? (i := 153) (by decide +kernel)) rfl, meX7_isBoy⟩
theorem dX10_foretold_39 : Ins mX10_foretold 39 (.ifCond .eq 7) 3 42 := ⟨by decide +kernel, rfl⟩
theorem dX10_foretold_42 : Ins mX10_foretold 42 (.iconst 1) 1 43 := ⟨by decide +kernel, rfl⟩
theorem dX10_foretold_43 : Ins mX10_foretold 43 (.goto 4) 3 46 := ⟨by decide +kernel, rfl⟩
theorem dX10_foretold_46 : Ins mX10_foretold 46 (.iconst 0) 1 47 := ⟨by decide +kernel, rfl⟩
theorem dX10_foretold_47 : Ins mX10_foretold 47 (.istore 4) 2 49 := ⟨by decide +kernel, rfl⟩
theorem dX10_foretold_49 : Ins mX10_foretold 49 (.iload 4) 2 51 := ⟨by decide +kernel, rfl⟩
theorem dX10_foretold_51 : Ins mX10_foretold 51 (.ifCond .eq 13) 3 54 := ⟨by decide +kernel, rfl⟩
theorem dX10_foretold_54 : Ins mX10_foretold 54 (.iload_n 1) 1 55 := ⟨by decide +kernel, rfl⟩
theorem dX10_foretold_55 : Ins mX10_foretold 55 (.iconst 1) 1 56 := ⟨by decide +kernel, rfl⟩
theorem dX10_foretold_56 : Ins mX10_foretold 56 (.bipush 60) 2 58 := ⟨by decide +kernel, rfl⟩
theorem dX10_foretold_58 : CalS mX10_foretold 58 61 mX10_isWithin := ⟨72, by decide +kernel, rfl, Or.inl (tb_2 (List.mem_of_getElem? (i := 89) (by decide +kernel)) rfl), meX10_isWithin⟩
theorem dX10_foretold_61 : Ins mX10_foretold 61 (.ifCond .ne 5) 3 64 := ⟨by decide +kernel, rfl⟩
theorem dX10_foretold_64 : Ins mX10_foretold 64 (.iconst (-1)) 1 65 := ⟨by decide +kernel, rfl⟩
theorem dX10_foretold_65 : Ins mX10_foretold 65 (.ireturn) 1 66 := ⟨by decide +kernel, rfl⟩
theorem dX10_foretold_66 : Ins mX10_foretold 66 (.aload_n 0) 1 67 := ⟨by decide +kernel, rfl⟩
theorem dX10_foretold_67 : GgR mX10_foretold 67 70 9 5 := ⟨5, rfl, ⟨42, _, by decide +kernel, rfl, rfl, by decide, tb_2 (List.mem_of_getElem? (i := 38) (by decide +kernel)) rfl⟩, by decide, rfl⟩
theorem dX10_foretold_70 : Ins mX10_foretold 70 (.aload_n 0) 1 71 := ⟨by decide +kernel, rfl⟩
theorem dX10_foretold_71 : GgR mX10_foretold 71 74 9 0 := ⟨0, rfl, ⟨10, _, by decide +kernel, rfl, rfl, by decide, tb_2 (List.mem_of_getElem? (i := 33) (by decide +kernel)) rfl⟩, by decide, rfl⟩
theorem dX10_foretold_74 : GgR mX10_foretold 74 77 8 0 := ⟨0, rfl, ⟨61, _, by decide +kernel, rfl, rfl, by decide, tb_1 (List.mem_of_getElem? (i := 105) (by decide +kernel)) rfl⟩, by decide, rfl⟩
theorem dX10_foretold_77 : CalV mX10_foretold 77 80 mX7_copyFrom := ⟨266, by decide +kernel, rfl, tb_4 (List.mem_of_getElem? (i := 195) (by decide +kernel)) rfl, meX7_copyFrom⟩
theorem dX10_foretold_80 : Ins mX10_foretold 80 (.iconst 0) 1 81 := ⟨by decide +kernel, rfl⟩
theorem dX10_foretold_81 : Ins mX10_foretold 81 (.istore 5) 2 83 := ⟨by decide +kernel, rfl⟩
theorem dX10_foretold_83 : Ins mX10_foretold 83 (.iload 5) 2 85 := ⟨by decide +kernel, rfl⟩
theorem dX10_foretold_85 : Ins mX10_foretold 85 (.iload_n 1) 1 86 := ⟨by decide +kernel, rfl⟩
theorem dX10_foretold_86 : Ins mX10_foretold 86 (.if_icmp .ge 35) 3 89 := ⟨by decide +kernel, rfl⟩
theorem dX10_foretold_89 : Ins mX10_foretold 89 (.aload_n 0) 1 90 := ⟨by decide +kernel, rfl⟩
theorem dX10_foretold_90 : GgR mX10_foretold 90 93 9 5 := ⟨5, rfl, ⟨42, _, by decide +kernel, rfl, rfl, by decide, tb_2 (List.mem_of_getElem? (i := 38) (by decide +kernel)) rfl⟩, by decide, rfl⟩
theorem dX10_foretold_93 : CalV mX10_foretold 93 96 mX7_canPass := ⟨269, by decide +kernel, rfl, tb_4 (List.mem_of_getElem? (i := 85) (by decide +kernel)) rfl, meX7_canPass⟩
theorem dX10_foretold_96 : Ins mX10_foretold 96 (.ifCond .eq 25) 3 99 := ⟨by decide +kernel, rfl⟩
theorem dX10_foretold_99 : Ins mX10_foretold 99 (.aload_n 0) 1 100 := ⟨by decide +kernel, rfl⟩
theorem dX10_foretold_100 : GgR mX10_foretold 100 103 9 5 := ⟨5, rfl, ⟨42, _, by decide +kernel, rfl, rfl, by decide, tb_2 (List.mem_of_getElem? (i := 38) (by decide +kernel)) rfl⟩, by decide, rfl⟩
theorem dX10_foretold_103 : Ins mX10_foretold 103 (.aload_n 0) 1 104 := ⟨by decide +kernel, rfl⟩
theorem dX10_foretold_104 : GgR mX10_foretold 104 107 9 4 := ⟨4, rfl, ⟨35, _, by decide +kernel, rfl, rfl, by decide, tb_2 (List.mem_of_getElem? (i := 37) (by decide +kernel)) rfl⟩, by decide, rfl⟩
theorem dX10_foretold_107 : Ins mX10_foretold 107 (.aload_n 0) 1 108 := ⟨by decide +kernel, rfl⟩
theorem dX10_foretold_108 : CalV mX10_foretold 108 111 mX10_ruling := ⟨155, by decide +kernel, rfl, tb_3 (List.mem_of_getElem? (i := 194) (by decide +kernel)) rfl, meX10_ruling⟩
theorem dX10_foretold_111 : CalV mX10_foretold 111 114 mX7_passMinute := ⟨158, by decide +kernel, rfl, tb_3 (List.mem_of_getElem? (i := 202) (by decide +kernel)) rfl, meX7_passMinute⟩
theorem dX10_foretold_114 : Ins mX10_foretold 114 (.pop) 1 115 := ⟨by decide +kernel, rfl⟩
theorem dX10_foretold_115 : Ins mX10_foretold 115 (.iinc 5 1) 3 118 := ⟨by decide +kernel, rfl⟩
theorem dX10_foretold_118 : Ins mX10_foretold 118 (.goto (-35)) 3 121 := ⟨by decide +kernel, rfl⟩
theorem dX10_foretold_121 : Ins mX10_foretold 121 (.iload_n 2) 1 122 := ⟨by decide +kernel, rfl⟩
theorem dX10_foretold_122 : Ins mX10_foretold 122 (.ifCond .ne 11) 3 125 := ⟨by decide +kernel, rfl⟩
theorem dX10_foretold_125 : Ins mX10_foretold 125 (.aload_n 0) 1 126 := ⟨by decide +kernel, rfl⟩
theorem dX10_foretold_126 : GgR mX10_foretold 126 129 9 5 := ⟨5, rfl, ⟨42, _, by decide +kernel, rfl, rfl, by decide, tb_2 (List.mem_of_getElem? (i := 38) (by decide +kernel)) rfl⟩, by decide, rfl⟩
theorem dX10_foretold_129 : CalV mX10_foretold 129 132 mX7_snow := ⟨236, by decide +kernel, rfl, tb_4 (List.mem_of_getElem? (i := 161) (by decide +kernel)) rfl, meX7_snow⟩
theorem dX10_foretold_132 : Ins mX10_foretold 132 (.ireturn) 1 133 := ⟨by decide +kernel, rfl⟩
theorem dX10_foretold_133 : Ins mX10_foretold 133 (.iload_n 2) 1 134 := ⟨by decide +kernel, rfl⟩
theorem dX10_foretold_134 : Ins mX10_foretold 134 (.iconst 1) 1 135 := ⟨by decide +kernel, rfl⟩
theorem dX10_foretold_135 : Ins mX10_foretold 135 (.if_icmp .ne 14) 3 138 := ⟨by decide +kernel, rfl⟩
theorem dX10_foretold_138 : Ins mX10_foretold 138 (.aload_n 0) 1 139 := ⟨by decide +kernel, rfl⟩
theorem dX10_foretold_139 : GgR mX10_foretold 139 142 9 5 := ⟨5, rfl, ⟨42, _, by decide +kernel, rfl, rfl, by decide, tb_2 (List.mem_of_getElem? (i := 38) (by decide +kernel)) rfl⟩, by decide, rfl⟩
theorem dX10_foretold_142 : Ins mX10_foretold 142 (.iload_n 3) 1 143 := ⟨by decide +kernel, rfl⟩
theorem dX10_foretold_143 : CalV mX10_foretold 143 146 mX7_wearOf := ⟨203, by decide +kernel, rfl, tb_4 (List.mem_of_getElem? (i := 140) (by decide +kernel)) rfl, meX7_wearOf⟩
theorem dX10_foretold_146 : Ins mX10_foretold 146 (.goto 11) 3 149 := ⟨by decide +kernel, rfl⟩
theorem dX10_foretold_149 : Ins mX10_foretold 149 (.aload_n 0) 1 150 := ⟨by decide +kernel, rfl⟩
theorem dX10_foretold_150 : GgR mX10_foretold 150 153 9 5 := ⟨5, rfl, ⟨42, _, by decide +kernel, rfl, rfl, by decide, tb_2 (List.mem_of_getElem? (i := 38) (by decide +kernel)) rfl⟩, by decide, rfl⟩
theorem dX10_foretold_153 : Ins mX10_foretold 153 (.iload_n 3) 1 154 := ⟨by decide +kernel, rfl⟩
theorem dX10_foretold_154 : CalV mX10_foretold 154 157 mX7_tiredOf := ⟨230, by decide +kernel, rfl, tb_4 (List.mem_of_getElem? (i := 155) (by decide +kernel)) rfl, meX7_tiredOf⟩
theorem dX10_foretold_157 : Ins mX10_foretold 157 (.ireturn) 1 158 := ⟨by decide +kernel, rfl⟩
theorem dX10_firstSlide_0 : Ins mX10_firstSlide 0 (.aload_n 0) 1 1 := ⟨by decide +kernel, rfl⟩
theorem dX10_firstSlide_1 : GgR mX10_firstSlide 1 4 9 5 := ⟨5, rfl, ⟨42, _, by decide +kernel, rfl, rfl, by decide, tb_2 (List.mem_of_getElem? (i := 38) (by decide +kernel)) rfl⟩, by decide, rfl⟩
theorem dX10_firstSlide_4 : Ins mX10_firstSlide 4 (.aload_n 0) 1 5 := ⟨by decide +kernel, rfl⟩
theorem dX10_firstSlide_5 : GgR mX10_firstSlide 5 8 9 0 := ⟨0, rfl, ⟨10, _, by decide +kernel, rfl, rfl, by decide, tb_2 (List.mem_of_getElem? (i := 33) (by decide +kernel)) rfl⟩, by decide, rfl⟩
theorem dX10_firstSlide_8 : GgR mX10_firstSlide 8 11 8 0 := ⟨0, rfl, ⟨61, _, by decide +kernel, rfl, rfl, by decide, tb_1 (List.mem_of_getElem? (i := 105) (by decide +kernel)) rfl⟩, by decide, rfl⟩
theorem dX10_firstSlide_11 : CalV mX10_firstSlide 11 14 mX7_copyFrom := ⟨266, by decide +kernel, rfl, tb_4 (List.mem_of_getElem? (i := 195) (by decide +kernel)) rfl, meX7_copyFrom⟩
theorem dX10_firstSlide_14 : Ins mX10_firstSlide 14 (.iconst 1) 1 15 := ⟨by decide +kernel, rfl⟩
theorem dX10_firstSlide_15 : Ins mX10_firstSlide 15 (.istore_n 1) 1 16 := ⟨by decide +kernel, rfl⟩
theorem dX10_firstSlide_16 : Ins mX10_firstSlide 16 (.iload_n 1) 1 17 := ⟨by decide +kernel, rfl⟩
theorem dX10_firstSlide_17 : Ins mX10_firstSlide 17 (.bipush 60) 2 19 := ⟨by decide +kernel, rfl⟩
theorem dX10_firstSlide_19 : Ins mX10_firstSlide 19 (.if_icmp .gt 39) 3 22 := ⟨by decide +kernel, rfl⟩
theorem dX10_firstSlide_22 : Ins mX10_firstSlide 22 (.aload_n 0) 1 23 := ⟨by decide +kernel, rfl⟩
theorem dX10_firstSlide_23 : GgR mX10_firstSlide 23 26 9 5 := ⟨5, rfl, ⟨42, _, by decide +kernel, rfl, rfl, by decide, tb_2 (List.mem_of_getElem? (i := 38) (by decide +kernel)) rfl⟩, by decide, rfl⟩
theorem dX10_firstSlide_26 : CalV mX10_firstSlide 26 29 mX7_canPass := ⟨269, by decide +kernel, rfl, tb_4 (List.mem_of_getElem? (i := 85) (by decide +kernel)) rfl, meX7_canPass⟩
theorem dX10_firstSlide_29 : Ins mX10_firstSlide 29 (.ifCond .eq 29) 3 32 := ⟨by decide +kernel, rfl⟩
theorem dX10_firstSlide_32 : Ins mX10_firstSlide 32 (.aload_n 0) 1 33 := ⟨by decide +kernel, rfl⟩
theorem dX10_firstSlide_33 : GgR mX10_firstSlide 33 36 9 5 := ⟨5, rfl, ⟨42, _, by decide +kernel, rfl, rfl, by decide, tb_2 (List.mem_of_getElem? (i := 38) (by decide +kernel)) rfl⟩, by decide, rfl⟩
theorem dX10_firstSlide_36 : Ins mX10_firstSlide 36 (.aload_n 0) 1 37 := ⟨by decide +kernel, rfl⟩
theorem dX10_firstSlide_37 : GgR mX10_firstSlide 37 40 9 4 := ⟨4, rfl, ⟨35, _, by decide +kernel, rfl, rfl, by decide, tb_2 (List.mem_of_getElem? (i := 37) (by decide +kernel)) rfl⟩, by decide, rfl⟩
theorem dX10_firstSlide_40 : Ins mX10_firstSlide 40 (.aload_n 0) 1 41 := ⟨by decide +kernel, rfl⟩
theorem dX10_firstSlide_41 : CalV mX10_firstSlide 41 44 mX10_ruling := ⟨155, by decide +kernel, rfl, tb_3 (List.mem_of_getElem? (i := 194) (by decide +kernel)) rfl, meX10_ruling⟩
theorem dX10_firstSlide_44 : CalV mX10_firstSlide 44 47 mX7_passMinute := ⟨158, by decide +kernel, rfl, tb_3 (List.mem_of_getElem? (i := 202) (by decide +kernel)) rfl, meX7_passMinute⟩
theorem dX10_firstSlide_47 : Ins mX10_firstSlide 47 (.ifCond .eq 5) 3 50 := ⟨by decide +kernel, rfl⟩
theorem dX10_firstSlide_50 : Ins mX10_firstSlide 50 (.iload_n 1) 1 51 := ⟨by decide +kernel, rfl⟩
theorem dX10_firstSlide_51 : Ins mX10_firstSlide 51 (.ireturn) 1 52 := ⟨by decide +kernel, rfl⟩
theorem dX10_firstSlide_52 : Ins mX10_firstSlide 52 (.iinc 1 1) 3 55 := ⟨by decide +kernel, rfl⟩
theorem dX10_firstSlide_55 : Ins mX10_firstSlide 55 (.goto (-39)) 3 58 := ⟨by decide +kernel, rfl⟩
theorem dX10_firstSlide_58 : Ins mX10_firstSlide 58 (.iconst (-1)) 1 59 := ⟨by decide +kernel, rfl⟩
theorem dX10_firstSlide_59 : Ins mX10_firstSlide 59 (.ireturn) 1 60 := ⟨by decide +kernel, rfl⟩
theorem dX10_unmanned_0 : Ins mX10_unmanned 0 (.aload_n 0) 1 1 := ⟨by decide +kernel, rfl⟩
theorem dX10_unmanned_1 : GgR mX10_unmanned 1 4 9 5 := ⟨5, rfl, ⟨42, _, by decide +kernel, rfl, rfl, by decide, tb_2 (List.mem_of_getElem? (i := 38) (by decide +kernel)) rfl⟩, by decide, rfl⟩
theorem dX10_unmanned_4 : Ins mX10_unmanned 4 (.aload_n 0) 1 5 := ⟨by decide +kernel, rfl⟩
theorem dX10_unmanned_5 : GgR mX10_unmanned 5 8 9 0 := ⟨0, rfl, ⟨10, _, by decide +kernel, rfl, rfl, by decide, tb_2 (List.mem_of_getElem? (i := 33) (by decide +kernel)) rfl⟩, by decide, rfl⟩
theorem dX10_unmanned_8 : GgR mX10_unmanned 8 11 8 0 := ⟨0, rfl, ⟨61, _, by decide +kernel, rfl, rfl, by decide, tb_1 (List.mem_of_getElem? (i := 105) (by decide +kernel)) rfl⟩, by decide, rfl⟩
theorem dX10_unmanned_11 : CalV mX10_unmanned 11 14 mX7_copyFrom := ⟨266, by decide +kernel, rfl, tb_4 (List.mem_of_getElem? (i := 195) (by decide +kernel)) rfl, meX7_copyFrom⟩
theorem dX10_unmanned_14 : Ins mX10_unmanned 14 (.aload_n 0) 1 15 := ⟨by decide +kernel, rfl⟩
theorem dX10_unmanned_15 : GgR mX10_unmanned 15 18 9 5 := ⟨5, rfl, ⟨42, _, by decide +kernel, rfl, rfl, by decide, tb_2 (List.mem_of_getElem? (i := 38) (by decide +kernel)) rfl⟩, by decide, rfl⟩
theorem dX10_unmanned_18 : CalV mX10_unmanned 18 21 mX7_mannedSet := ⟨273, by decide +kernel, rfl, tb_4 (List.mem_of_getElem? (i := 207) (by decide +kernel)) rfl, meX7_mannedSet⟩
theorem dX10_unmanned_21 : Ins mX10_unmanned 21 (.ifCond .ne 5) 3 24 := ⟨by decide +kernel, rfl⟩
theorem dX10_unmanned_24 : Ins mX10_unmanned 24 (.iconst 0) 1 25 := ⟨by decide +kernel, rfl⟩
theorem dX10_unmanned_25 : Ins mX10_unmanned 25 (.ireturn) 1 26 := ⟨by decide +kernel, rfl⟩
theorem dX10_unmanned_26 : Ins mX10_unmanned 26 (.iconst 1) 1 27 := ⟨by decide +kernel, rfl⟩
theorem dX10_unmanned_27 : Ins mX10_unmanned 27 (.istore_n 1) 1 28 := ⟨by decide +kernel, rfl⟩
theorem dX10_unmanned_28 : Ins mX10_unmanned 28 (.iload_n 1) 1 29 := ⟨by decide +kernel, rfl⟩
theorem dX10_unmanned_29 : Ins mX10_unmanned 29 (.bipush 60) 2 31 := ⟨by decide +kernel, rfl⟩
theorem dX10_unmanned_31 : Ins mX10_unmanned 31 (.if_icmp .gt 47) 3 34 := ⟨by decide +kernel, rfl⟩
theorem dX10_unmanned_34 : Ins mX10_unmanned 34 (.aload_n 0) 1 35 := ⟨by decide +kernel, rfl⟩
theorem dX10_unmanned_35 : GgR mX10_unmanned 35 38 9 5 := ⟨5, rfl, ⟨42, _, by decide +kernel, rfl, rfl, by decide, tb_2 (List.mem_of_getElem? (i := 38) (by decide +kernel)) rfl⟩, by decide, rfl⟩
theorem dX10_unmanned_38 : CalV mX10_unmanned 38 41 mX7_canPass := ⟨269, by decide +kernel, rfl, tb_4 (List.mem_of_getElem? (i := 85) (by decide +kernel)) rfl, meX7_canPass⟩
theorem dX10_unmanned_41 : Ins mX10_unmanned 41 (.ifCond .eq 37) 3 44 := ⟨by decide +kernel, rfl⟩
theorem dX10_unmanned_44 : Ins mX10_unmanned 44 (.aload_n 0) 1 45 := ⟨by decide +kernel, rfl⟩
theorem dX10_unmanned_45 : GgR mX10_unmanned 45 48 9 5 := ⟨5, rfl, ⟨42, _, by decide +kernel, rfl, rfl, by decide, tb_2 (List.mem_of_getElem? (i := 38) (by decide +kernel)) rfl⟩, by decide, rfl⟩
theorem dX10_unmanned_48 : Ins mX10_unmanned 48 (.aload_n 0) 1 49 := ⟨by decide +kernel, rfl⟩
theorem dX10_unmanned_49 : GgR mX10_unmanned 49 52 9 4 := ⟨4, rfl, ⟨35, _, by decide +kernel, rfl, rfl, by decide, tb_2 (List.mem_of_getElem? (i := 37) (by decide +kernel)) rfl⟩, by decide, rfl⟩
theorem dX10_unmanned_52 : Ins mX10_unmanned 52 (.aload_n 0) 1 53 := ⟨by decide +kernel, rfl⟩
theorem dX10_unmanned_53 : CalV mX10_unmanned 53 56 mX10_ruling := ⟨155, by decide +kernel, rfl, tb_3 (List.mem_of_getElem? (i := 194) (by decide +kernel)) rfl, meX10_ruling⟩
theorem dX10_unmanned_56 : CalV mX10_unmanned 56 59 mX7_passMinute := ⟨158, by decide +kernel, rfl, tb_3 (List.mem_of_getElem? (i := 202) (by decide +kernel)) rfl, meX7_passMinute⟩
theorem dX10_unmanned_59 : Ins mX10_unmanned 59 (.pop) 1 60 := ⟨by decide +kernel, rfl⟩
theorem dX10_unmanned_60 : Ins mX10_unmanned 60 (.aload_n 0) 1 61 := ⟨by decide +kernel, rfl⟩
theorem dX10_unmanned_61 : GgR mX10_unmanned 61 64 9 5 := ⟨5, rfl, ⟨42, _, by decide +kernel, rfl, rfl, by decide, tb_2 (List.mem_of_getElem? (i := 38) (by decide +kernel)) rfl⟩, by decide, rfl⟩
theorem dX10_unmanned_64 : CalV mX10_unmanned 64 67 mX7_mannedSet := ⟨273, by decide +kernel, rfl, tb_4 (List.mem_of_getElem? (i := 207) (by decide +kernel)) rfl, meX7_mannedSet⟩
theorem dX10_unmanned_67 : Ins mX10_unmanned 67 (.ifCond .ne 5) 3 70 := ⟨by decide +kernel, rfl⟩
theorem dX10_unmanned_70 : Ins mX10_unmanned 70 (.iload_n 1) 1 71 := ⟨by decide +kernel, rfl⟩
theorem dX10_unmanned_71 : Ins mX10_unmanned 71 (.ireturn) 1 72 := ⟨by decide +kernel, rfl⟩
theorem dX10_unmanned_72 : Ins mX10_unmanned 72 (.iinc 1 1) 3 75 := ⟨by decide +kernel, rfl⟩
theorem dX10_unmanned_75 : Ins mX10_unmanned 75 (.goto (-47)) 3 78 := ⟨by decide +kernel, rfl⟩
theorem dX10_unmanned_78 : Ins mX10_unmanned 78 (.iconst (-1)) 1 79 := ⟨by decide +kernel, rfl⟩
theorem dX10_unmanned_79 : Ins mX10_unmanned 79 (.ireturn) 1 80 := ⟨by decide +kernel, rfl⟩
theorem dX10_safe_0 : Ins mX10_safe 0 (.iload_n 1) 1 1 := ⟨by decide +kernel, rfl⟩
theorem dX10_safe_1 : Ins mX10_safe 1 (.iconst 1) 1 2 := ⟨by decide +kernel, rfl⟩
theorem dX10_safe_2 : Ins mX10_safe 2 (.bipush 99) 2 4 := ⟨by decide +kernel, rfl⟩
theorem dX10_safe_4 : CalS mX10_safe 4 7 mX10_isWithin := ⟨72, by decide +kernel, rfl, Or.inl (tb_2 (List.mem_of_getElem? (i := 89) (by decide +kernel)) rfl), meX10_isWithin⟩
theorem dX10_safe_7 : Ins mX10_safe 7 (.ifCond .eq 13) 3 10 := ⟨by decide +kernel, rfl⟩
theorem dX10_safe_10 : Ins mX10_safe 10 (.iload_n 2) 1 11 := ⟨by decide +kernel, rfl⟩
theorem dX10_safe_11 : Ins mX10_safe 11 (.iconst 1) 1 12 := ⟨by decide +kernel, rfl⟩
theorem dX10_safe_12 : Ins mX10_safe 12 (.bipush 8) 2 14 := ⟨by decide +kernel, rfl⟩
theorem dX10_safe_14 : CalS mX10_safe 14 17 mX10_isWithin := ⟨72, by decide +kernel, rfl, Or.inl (tb_2 (List.mem_of_getElem? (i := 89) (by decide +kernel)) rfl), meX10_isWithin⟩
theorem dX10_safe_17 : Ins mX10_safe 17 (.ifCond .ne 5) 3 20 := ⟨by decide +kernel, rfl⟩
theorem dX10_safe_20 : Ins mX10_safe 20 (.iconst (-1)) 1 21 := ⟨by decide +kernel, rfl⟩
theorem dX10_safe_21 : Ins mX10_safe 21 (.ireturn) 1 22 := ⟨by decide +kernel, rfl⟩
theorem dX10_safe_22 : Ins mX10_safe 22 (.aload_n 0) 1 23 := ⟨by decide +kernel, rfl⟩
theorem dX10_safe_23 : GgR mX10_safe 23 26 9 6 := ⟨6, rfl, ⟨49, _, by decide +kernel, rfl, rfl, by decide, tb_2 (List.mem_of_getElem? (i := 39) (by decide +kernel)) rfl⟩, by decide, rfl⟩
theorem dX10_safe_26 : Ins mX10_safe 26 (.aload_n 0) 1 27 := ⟨by decide +kernel, rfl⟩
theorem dX10_safe_27 : GgR mX10_safe 27 30 9 0 := ⟨0, rfl, ⟨10, _, by decide +kernel, rfl, rfl, by decide, tb_2 (List.mem_of_getElem? (i := 33) (by decide +kernel)) rfl⟩, by decide, rfl⟩
theorem dX10_safe_30 : GgR mX10_safe 30 33 8 0 := ⟨0, rfl, ⟨61, _, by decide +kernel, rfl, rfl, by decide, tb_1 (List.mem_of_getElem? (i := 105) (by decide +kernel)) rfl⟩, by decide, rfl⟩
theorem dX10_safe_33 : Ins mX10_safe 33 (.iload_n 1) 1 34 := ⟨by decide +kernel, rfl⟩
theorem dX10_safe_34 : CalV mX10_safe 34 37 mX0_markDue := ⟨276, by decide +kernel, rfl, tb_4 (List.mem_of_getElem? (i := 212) (by decide +kernel)) rfl, meX0_markDue⟩
theorem dX10_safe_37 : Ins mX10_safe 37 (.iconst 1) 1 38 := ⟨by decide +kernel, rfl⟩
theorem dX10_safe_38 : Ins mX10_safe 38 (.aload_n 0) 1 39 := ⟨by decide +kernel, rfl⟩
theorem dX10_safe_39 : GgR mX10_safe 39 42 9 0 := ⟨0, rfl, ⟨10, _, by decide +kernel, rfl, rfl, by decide, tb_2 (List.mem_of_getElem? (i := 33) (by decide +kernel)) rfl⟩, by decide, rfl⟩
theorem dX10_safe_42 : GgR mX10_safe 42 45 8 0 := ⟨0, rfl, ⟨61, _, by decide +kernel, rfl, rfl, by decide, tb_1 (List.mem_of_getElem? (i := 105) (by decide +kernel)) rfl⟩, by decide, rfl⟩
theorem dX10_safe_45 : CalV mX10_safe 45 48 mX7_horses := ⟨280, by decide +kernel, rfl, tb_4 (List.mem_of_getElem? (i := 122) (by decide +kernel)) rfl, meX7_horses⟩
theorem dX10_safe_48 : Ins mX10_safe 48 (.ishl) 1 49 := ⟨by decide +kernel, rfl⟩
theorem dX10_safe_49 : Ins mX10_safe 49 (.istore_n 3) 1 50 := ⟨by decide +kernel, rfl⟩
theorem dX10_safe_50 : Ins mX10_safe 50 (.iconst 0) 1 51 := ⟨by decide +kernel, rfl⟩
theorem dX10_safe_51 : Ins mX10_safe 51 (.istore 4) 2 53 := ⟨by decide +kernel, rfl⟩
theorem dX10_safe_53 : Ins mX10_safe 53 (.iconst 1) 1 54 := ⟨by decide +kernel, rfl⟩
theorem dX10_safe_54 : Ins mX10_safe 54 (.istore 5) 2 56 := ⟨by decide +kernel, rfl⟩
theorem dX10_safe_56 : Ins mX10_safe 56 (.iload 5) 2 58 := ⟨by decide +kernel, rfl⟩
theorem dX10_safe_58 : Ins mX10_safe 58 (.iload_n 3) 1 59 := ⟨by decide +kernel, rfl⟩
theorem dX10_safe_59 : Ins mX10_safe 59 (.if_icmp .ge 40) 3 62 := ⟨by decide +kernel, rfl⟩
theorem dX10_safe_62 : Ins mX10_safe 62 (.iload 5) 2 64 := ⟨by decide +kernel, rfl⟩
theorem dX10_safe_64 : CalS mX10_safe 64 67 mJ6_bitCount_0f7a4 := ⟨215, by decide +kernel, rfl, Or.inl (tb_4 (List.mem_of_getElem? (i := 147) (by decide +kernel)) rfl), meJ6_bitCount_0f7a4⟩
theorem dX10_safe_67 : Ins mX10_safe 67 (.iload 4) 2 69 := ⟨by decide +kernel, rfl⟩
theorem dX10_safe_69 : CalS mX10_safe 69 72 mJ6_bitCount_0f7a4 := ⟨215, by decide +kernel, rfl, Or.inl (tb_4 (List.mem_of_getElem? (i := 147) (by decide +kernel)) rfl), meJ6_bitCount_0f7a4⟩
theorem dX10_safe_72 : Ins mX10_safe 72 (.if_icmp .le 21) 3 75 := ⟨by decide +kernel, rfl⟩
theorem dX10_safe_75 : Ins mX10_safe 75 (.aload_n 0) 1 76 := ⟨by decide +kernel, rfl⟩
theorem dX10_safe_76 : GgR mX10_safe 76 79 9 6 := ⟨6, rfl, ⟨49, _, by decide +kernel, rfl, rfl, by decide, tb_2 (List.mem_of_getElem? (i := 39) (by decide +kernel)) rfl⟩, by decide, rfl⟩
theorem dX10_safe_79 : Ins mX10_safe 79 (.iload 5) 2 81 := ⟨by decide +kernel, rfl⟩
theorem dX10_safe_81 : Ins mX10_safe 81 (.iload_n 1) 1 82 := ⟨by decide +kernel, rfl⟩
theorem dX10_safe_82 : Ins mX10_safe 82 (.iload_n 2) 1 83 := ⟨by decide +kernel, rfl⟩
theorem dX10_safe_83 : CalV mX10_safe 83 86 mX0_staysBelow := ⟨283, by decide +kernel, rfl, tb_4 (List.mem_of_getElem? (i := 218) (by decide +kernel)) rfl, meX0_staysBelow⟩
theorem dX10_safe_86 : Ins mX10_safe 86 (.ifCond .eq 7) 3 89 := ⟨by decide +kernel, rfl⟩
theorem dX10_safe_89 : Ins mX10_safe 89 (.iload 5) 2 91 := ⟨by decide +kernel, rfl⟩
theorem dX10_safe_91 : Ins mX10_safe 91 (.istore 4) 2 93 := ⟨by decide +kernel, rfl⟩
theorem dX10_safe_93 : Ins mX10_safe 93 (.iinc 5 1) 3 96 := ⟨by decide +kernel, rfl⟩
theorem dX10_safe_96 : Ins mX10_safe 96 (.goto (-40)) 3 99 := ⟨by decide +kernel, rfl⟩
theorem dX10_safe_99 : Ins mX10_safe 99 (.iload 4) 2 101 := ⟨by decide +kernel, rfl⟩
theorem dX10_safe_101 : Ins mX10_safe 101 (.ireturn) 1 102 := ⟨by decide +kernel, rfl⟩
theorem dX10_heard_0 : Ins mX10_heard 0 (.iload_n 1) 1 1 := ⟨by decide +kernel, rfl⟩
theorem dX10_heard_1 : Ins mX10_heard 1 (.iconst (-1)) 1 2 := ⟨by decide +kernel, rfl⟩
theorem dX10_heard_2 : Ins mX10_heard 2 (.if_icmp .ne 14) 3 5 := ⟨by decide +kernel, rfl⟩
theorem dX10_heard_5 : Ins mX10_heard 5 (.aload_n 0) 1 6 := ⟨by decide +kernel, rfl⟩
theorem dX10_heard_6 : GgR mX10_heard 6 9 9 0 := ⟨0, rfl, ⟨10, _, by decide +kernel, rfl, rfl, by decide, tb_2 (List.mem_of_getElem? (i := 33) (by decide +kernel)) rfl⟩, by decide, rfl⟩
theorem dX10_heard_9 : GgR mX10_heard 9 12 8 2 := ⟨2, rfl, ⟨286, _, by decide +kernel, rfl, rfl, by decide, tb_1 (List.mem_of_getElem? (i := 109) (by decide +kernel)) rfl⟩, by decide, rfl⟩
theorem dX10_heard_12 : CalV mX10_heard 12 15 mX8_forget := ⟨290, by decide +kernel, rfl, tb_4 (List.mem_of_getElem? (i := 227) (by decide +kernel)) rfl, meX8_forget⟩
theorem dX10_heard_15 : Ins mX10_heard 15 (.ireturn) 1 16 := ⟨by decide +kernel, rfl⟩
theorem dX10_heard_16 : Ins mX10_heard 16 (.iload_n 1) 1 17 := ⟨by decide +kernel, rfl⟩
theorem dX10_heard_17 : Ins mX10_heard 17 (.iconst 0) 1 18 := ⟨by decide +kernel, rfl⟩
theorem dX10_heard_18 : Ins mX10_heard 18 (.sipush 9999) 3 21 := ⟨by decide +kernel, rfl⟩
theorem dX10_heard_21 : CalS mX10_heard 21 24 mX10_isWithin := ⟨72, by decide +kernel, rfl, Or.inl (tb_2 (List.mem_of_getElem? (i := 89) (by decide +kernel)) rfl), meX10_isWithin⟩
theorem dX10_heard_24 : Ins mX10_heard 24 (.ifCond .eq 13) 3 27 := ⟨by decide +kernel, rfl⟩
theorem dX10_heard_27 : Ins mX10_heard 27 (.iload_n 2) 1 28 := ⟨by decide +kernel, rfl⟩
theorem dX10_heard_28 : Ins mX10_heard 28 (.iconst 0) 1 29 := ⟨by decide +kernel, rfl⟩
theorem dX10_heard_29 : Ins mX10_heard 29 (.bipush 8) 2 31 := ⟨by decide +kernel, rfl⟩
theorem dX10_heard_31 : CalS mX10_heard 31 34 mX10_isWithin := ⟨72, by decide +kernel, rfl, Or.inl (tb_2 (List.mem_of_getElem? (i := 89) (by decide +kernel)) rfl), meX10_isWithin⟩
theorem dX10_heard_34 : Ins mX10_heard 34 (.ifCond .ne 6) 3 37 := ⟨by decide +kernel, rfl⟩
theorem dX10_heard_37 : Ins mX10_heard 37 (.bipush (-2)) 2 39 := ⟨by decide +kernel, rfl⟩
theorem dX10_heard_39 : Ins mX10_heard 39 (.ireturn) 1 40 := ⟨by decide +kernel, rfl⟩
theorem dX10_heard_40 : Ins mX10_heard 40 (.aload_n 0) 1 41 := ⟨by decide +kernel, rfl⟩
theorem dX10_heard_41 : GgR mX10_heard 41 44 9 0 := ⟨0, rfl, ⟨10, _, by decide +kernel, rfl, rfl, by decide, tb_2 (List.mem_of_getElem? (i := 33) (by decide +kernel)) rfl⟩, by decide, rfl⟩
theorem dX10_heard_44 : GgR mX10_heard 44 47 8 2 := ⟨2, rfl, ⟨286, _, by decide +kernel, rfl, rfl, by decide, tb_1 (List.mem_of_getElem? (i := 109) (by decide +kernel)) rfl⟩, by decide, rfl⟩
theorem dX10_heard_47 : Ins mX10_heard 47 (.iload_n 1) 1 48 := ⟨by decide +kernel, rfl⟩
theorem dX10_heard_48 : Ins mX10_heard 48 (.iload_n 2) 1 49 := ⟨by decide +kernel, rfl⟩
theorem dX10_heard_49 : Ins mX10_heard 49 (.iconst 0) 1 50 := ⟨by decide +kernel, rfl⟩
theorem dX10_heard_50 : CalV mX10_heard 50 53 mX8_add := ⟨295, by decide +kernel, rfl, tb_4 (List.mem_of_getElem? (i := 231) (by decide +kernel)) rfl, meX8_add⟩
theorem dX10_heard_53 : Ins mX10_heard 53 (.ireturn) 1 54 := ⟨by decide +kernel, rfl⟩
theorem dX10_rode_0 : Ins mX10_rode 0 (.aload_n 0) 1 1 := ⟨by decide +kernel, rfl⟩
theorem dX10_rode_1 : GgR mX10_rode 1 4 9 6 := ⟨6, rfl, ⟨49, _, by decide +kernel, rfl, rfl, by decide, tb_2 (List.mem_of_getElem? (i := 39) (by decide +kernel)) rfl⟩, by decide, rfl⟩
theorem dX10_rode_4 : Ins mX10_rode 4 (.aload_n 0) 1 5 := ⟨by decide +kernel, rfl⟩
theorem dX10_rode_5 : GgR mX10_rode 5 8 9 0 := ⟨0, rfl, ⟨10, _, by decide +kernel, rfl, rfl, by decide, tb_2 (List.mem_of_getElem? (i := 33) (by decide +kernel)) rfl⟩, by decide, rfl⟩
theorem dX10_rode_8 : GgR mX10_rode 8 11 8 0 := ⟨0, rfl, ⟨61, _, by decide +kernel, rfl, rfl, by decide, tb_1 (List.mem_of_getElem? (i := 105) (by decide +kernel)) rfl⟩, by decide, rfl⟩
theorem dX10_rode_11 : Ins mX10_rode 11 (.aload_n 0) 1 12 := ⟨by decide +kernel, rfl⟩
theorem dX10_rode_12 : GgR mX10_rode 12 15 9 0 := ⟨0, rfl, ⟨10, _, by decide +kernel, rfl, rfl, by decide, tb_2 (List.mem_of_getElem? (i := 33) (by decide +kernel)) rfl⟩, by decide, rfl⟩
theorem dX10_rode_15 : GgR mX10_rode 15 18 8 2 := ⟨2, rfl, ⟨286, _, by decide +kernel, rfl, rfl, by decide, tb_1 (List.mem_of_getElem? (i := 109) (by decide +kernel)) rfl⟩, by decide, rfl⟩
theorem dX10_rode_18 : CalV mX10_rode 18 21 mX0_findSets := ⟨299, by decide +kernel, rfl, tb_4 (List.mem_of_getElem? (i := 239) (by decide +kernel)) rfl, meX0_findSets⟩
theorem dX10_rode_21 : Ins mX10_rode 21 (.iload_n 1) 1 22 := ⟨by decide +kernel, rfl⟩
theorem dX10_rode_22 : Ins mX10_rode 22 (.tableswitch 57 0 2 #[26, 34, 42]) 26 48 := ⟨by decide +kernel, rfl⟩
theorem dX10_rode_48 : Ins mX10_rode 48 (.aload_n 0) 1 49 := ⟨by decide +kernel, rfl⟩
theorem dX10_rode_49 : GgR mX10_rode 49 52 9 6 := ⟨6, rfl, ⟨49, _, by decide +kernel, rfl, rfl, by decide, tb_2 (List.mem_of_getElem? (i := 39) (by decide +kernel)) rfl⟩, by decide, rfl⟩
theorem dX10_rode_52 : GgI mX10_rode 52 55 0 2 := ⟨2, rfl, ⟨303, _, by decide +kernel, rfl, rfl, by decide, tb_2 (List.mem_of_getElem? (i := 11) (by decide +kernel)) rfl⟩, by decide, rfl⟩
theorem dX10_rode_55 : Ins mX10_rode 55 (.ireturn) 1 56 := ⟨by decide +kernel, rfl⟩
theorem dX10_rode_56 : Ins mX10_rode 56 (.aload_n 0) 1 57 := ⟨by decide +kernel, rfl⟩
theorem dX10_rode_57 : GgR mX10_rode 57 60 9 6 := ⟨6, rfl, ⟨49, _, by decide +kernel, rfl, rfl, by decide, tb_2 (List.mem_of_getElem? (i := 39) (by decide +kernel)) rfl⟩, by decide, rfl⟩
theorem dX10_rode_60 : CalV mX10_rode 60 63 mX0_sure := ⟨306, by decide +kernel, rfl, tb_5 (List.mem_of_getElem? (i := 17) (by decide +kernel)) rfl, meX0_sure⟩
theorem dX10_rode_63 : Ins mX10_rode 63 (.ireturn) 1 64 := ⟨by decide +kernel, rfl⟩
theorem dX10_rode_64 : Ins mX10_rode 64 (.aload_n 0) 1 65 := ⟨by decide +kernel, rfl⟩
theorem dX10_rode_65 : GgR mX10_rode 65 68 9 6 := ⟨6, rfl, ⟨49, _, by decide +kernel, rfl, rfl, by decide, tb_2 (List.mem_of_getElem? (i := 39) (by decide +kernel)) rfl⟩, by decide, rfl⟩
theorem dX10_rode_68 : Ins mX10_rode 68 (.aload_n 0) 1 69 := ⟨by decide +kernel, rfl⟩
theorem dX10_rode_69 : GgR mX10_rode 69 72 9 0 := ⟨0, rfl, ⟨10, _, by decide +kernel, rfl, rfl, by decide, tb_2 (List.mem_of_getElem? (i := 33) (by decide +kernel)) rfl⟩, by decide, rfl⟩
theorem dX10_rode_72 : GgR mX10_rode 72 75 8 0 := ⟨0, rfl, ⟨61, _, by decide +kernel, rfl, rfl, by decide, tb_1 (List.mem_of_getElem? (i := 105) (by decide +kernel)) rfl⟩, by decide, rfl⟩
theorem dX10_rode_75 : CalV mX10_rode 75 78 mX0_never := ⟨309, by decide +kernel, rfl, tb_5 (List.mem_of_getElem? (i := 21) (by decide +kernel)) rfl, meX0_never⟩
theorem dX10_rode_78 : Ins mX10_rode 78 (.ireturn) 1 79 := ⟨by decide +kernel, rfl⟩
theorem dX10_rode_79 : Ins mX10_rode 79 (.iconst (-1)) 1 80 := ⟨by decide +kernel, rfl⟩
theorem dX10_rode_80 : Ins mX10_rode 80 (.ireturn) 1 81 := ⟨by decide +kernel, rfl⟩
theorem dX10_listen_0 : Ins mX10_listen 0 (.iload_n 1) 1 1 := ⟨by decide +kernel, rfl⟩
theorem dX10_listen_1 : Ins mX10_listen 1 (.iconst 1) 1 2 := ⟨by decide +kernel, rfl⟩
theorem dX10_listen_2 : Ins mX10_listen 2 (.bipush 60) 2 4 := ⟨by decide +kernel, rfl⟩
theorem dX10_listen_4 : CalS mX10_listen 4 7 mX10_isWithin := ⟨72, by decide +kernel, rfl, Or.inl (tb_2 (List.mem_of_getElem? (i := 89) (by decide +kernel)) rfl), meX10_isWithin⟩
theorem dX10_listen_7 : Ins mX10_listen 7 (.ifCond .ne 5) 3 10 := ⟨by decide +kernel, rfl⟩
theorem dX10_listen_10 : Ins mX10_listen 10 (.iconst (-1)) 1 11 := ⟨by decide +kernel, rfl⟩
theorem dX10_listen_11 : Ins mX10_listen 11 (.ireturn) 1 12 := ⟨by decide +kernel, rfl⟩
theorem dX10_listen_12 : Ins mX10_listen 12 (.aload_n 0) 1 13 := ⟨by decide +kernel, rfl⟩
theorem dX10_listen_13 : GgR mX10_listen 13 16 9 6 := ⟨6, rfl, ⟨49, _, by decide +kernel, rfl, rfl, by decide, tb_2 (List.mem_of_getElem? (i := 39) (by decide +kernel)) rfl⟩, by decide, rfl⟩
theorem dX10_listen_16 : Ins mX10_listen 16 (.aload_n 0) 1 17 := ⟨by decide +kernel, rfl⟩
theorem dX10_listen_17 : GgR mX10_listen 17 20 9 0 := ⟨0, rfl, ⟨10, _, by decide +kernel, rfl, rfl, by decide, tb_2 (List.mem_of_getElem? (i := 33) (by decide +kernel)) rfl⟩, by decide, rfl⟩
theorem dX10_listen_20 : GgR mX10_listen 20 23 8 0 := ⟨0, rfl, ⟨61, _, by decide +kernel, rfl, rfl, by decide, tb_1 (List.mem_of_getElem? (i := 105) (by decide +kernel)) rfl⟩, by decide, rfl⟩
theorem dX10_listen_23 : Ins mX10_listen 23 (.aload_n 0) 1 24 := ⟨by decide +kernel, rfl⟩
theorem dX10_listen_24 : GgR mX10_listen 24 27 9 0 := ⟨0, rfl, ⟨10, _, by decide +kernel, rfl, rfl, by decide, tb_2 (List.mem_of_getElem? (i := 33) (by decide +kernel)) rfl⟩, by decide, rfl⟩
theorem dX10_listen_27 : GgR mX10_listen 27 30 8 2 := ⟨2, rfl, ⟨286, _, by decide +kernel, rfl, rfl, by decide, tb_1 (List.mem_of_getElem? (i := 109) (by decide +kernel)) rfl⟩, by decide, rfl⟩
theorem dX10_listen_30 : CalV mX10_listen 30 33 mX0_findSets := ⟨299, by decide +kernel, rfl, tb_4 (List.mem_of_getElem? (i := 239) (by decide +kernel)) rfl, meX0_findSets⟩
theorem dX10_listen_33 : Ins mX10_listen 33 (.aload_n 0) 1 34 := ⟨by decide +kernel, rfl⟩
theorem dX10_listen_34 : GgR mX10_listen 34 37 9 6 := ⟨6, rfl, ⟨49, _, by decide +kernel, rfl, rfl, by decide, tb_2 (List.mem_of_getElem? (i := 39) (by decide +kernel)) rfl⟩, by decide, rfl⟩
theorem dX10_listen_37 : Ins mX10_listen 37 (.aload_n 0) 1 38 := ⟨by decide +kernel, rfl⟩
theorem dX10_listen_38 : GgR mX10_listen 38 41 9 0 := ⟨0, rfl, ⟨10, _, by decide +kernel, rfl, rfl, by decide, tb_2 (List.mem_of_getElem? (i := 33) (by decide +kernel)) rfl⟩, by decide, rfl⟩
theorem dX10_listen_41 : GgR mX10_listen 41 44 8 0 := ⟨0, rfl, ⟨61, _, by decide +kernel, rfl, rfl, by decide, tb_1 (List.mem_of_getElem? (i := 105) (by decide +kernel)) rfl⟩, by decide, rfl⟩
theorem dX10_listen_44 : Ins mX10_listen 44 (.iload_n 1) 1 45 := ⟨by decide +kernel, rfl⟩
theorem dX10_listen_45 : CalV mX10_listen 45 48 mX0_markDue := ⟨276, by decide +kernel, rfl, tb_4 (List.mem_of_getElem? (i := 212) (by decide +kernel)) rfl, meX0_markDue⟩
theorem dX10_listen_48 : Ins mX10_listen 48 (.iconst (-1)) 1 49 := ⟨by decide +kernel, rfl⟩
theorem dX10_listen_49 : Ins mX10_listen 49 (.istore_n 2) 1 50 := ⟨by decide +kernel, rfl⟩
theorem dX10_listen_50 : Ins mX10_listen 50 (.iconst 0) 1 51 := ⟨by decide +kernel, rfl⟩
theorem dX10_listen_51 : Ins mX10_listen 51 (.istore_n 3) 1 52 := ⟨by decide +kernel, rfl⟩
theorem dX10_listen_52 : Ins mX10_listen 52 (.iconst 0) 1 53 := ⟨by decide +kernel, rfl⟩
theorem dX10_listen_53 : Ins mX10_listen 53 (.istore 4) 2 55 := ⟨by decide +kernel, rfl⟩
theorem dX10_listen_55 : Ins mX10_listen 55 (.iload 4) 2 57 := ⟨by decide +kernel, rfl⟩
theorem dX10_listen_57 : Ins mX10_listen 57 (.iload_n 1) 1 58 := ⟨by decide +kernel, rfl⟩
theorem dX10_listen_58 : Ins mX10_listen 58 (.if_icmp .ge 32) 3 61 := ⟨by decide +kernel, rfl⟩
theorem dX10_listen_61 : Ins mX10_listen 61 (.aload_n 0) 1 62 := ⟨by decide +kernel, rfl⟩
theorem dX10_listen_62 : GgR mX10_listen 62 65 9 6 := ⟨6, rfl, ⟨49, _, by decide +kernel, rfl, rfl, by decide, tb_2 (List.mem_of_getElem? (i := 39) (by decide +kernel)) rfl⟩, by decide, rfl⟩
theorem dX10_listen_65 : Ins mX10_listen 65 (.iload 4) 2 67 := ⟨by decide +kernel, rfl⟩
theorem dX10_listen_67 : CalV mX10_listen 67 70 mX0_unlikeCounts := ⟨312, by decide +kernel, rfl, tb_5 (List.mem_of_getElem? (i := 29) (by decide +kernel)) rfl, meX0_unlikeCounts⟩
theorem dX10_listen_70 : Ins mX10_listen 70 (.istore 5) 2 72 := ⟨by decide +kernel, rfl⟩
theorem dX10_listen_72 : Ins mX10_listen 72 (.iload 5) 2 74 := ⟨by decide +kernel, rfl⟩
theorem dX10_listen_74 : Ins mX10_listen 74 (.iload_n 3) 1 75 := ⟨by decide +kernel, rfl⟩
theorem dX10_listen_75 : Ins mX10_listen 75 (.if_icmp .le 9) 3 78 := ⟨by decide +kernel, rfl⟩
theorem dX10_listen_78 : Ins mX10_listen 78 (.iload 4) 2 80 := ⟨by decide +kernel, rfl⟩
theorem dX10_listen_80 : Ins mX10_listen 80 (.istore_n 2) 1 81 := ⟨by decide +kernel, rfl⟩
theorem dX10_listen_81 : Ins mX10_listen 81 (.iload 5) 2 83 := ⟨by decide +kernel, rfl⟩
theorem dX10_listen_83 : Ins mX10_listen 83 (.istore_n 3) 1 84 := ⟨by decide +kernel, rfl⟩
theorem dX10_listen_84 : Ins mX10_listen 84 (.iinc 4 1) 3 87 := ⟨by decide +kernel, rfl⟩
theorem dX10_listen_87 : Ins mX10_listen 87 (.goto (-32)) 3 90 := ⟨by decide +kernel, rfl⟩
theorem dX10_listen_90 : Ins mX10_listen 90 (.iload_n 2) 1 91 := ⟨by decide +kernel, rfl⟩
theorem dX10_listen_91 : Ins mX10_listen 91 (.ireturn) 1 92 := ⟨by decide +kernel, rfl⟩
theorem dX10_watch_0 : Ins mX10_watch 0 (.iload_n 1) 1 1 := ⟨by decide +kernel, rfl⟩
theorem dX10_watch_1 : Ins mX10_watch 1 (.iconst (-1)) 1 2 := ⟨by decide +kernel, rfl⟩
theorem dX10_watch_2 : Ins mX10_watch 2 (.if_icmp .ne 14) 3 5 := ⟨by decide +kernel, rfl⟩
theorem dX10_watch_5 : Ins mX10_watch 5 (.aload_n 0) 1 6 := ⟨by decide +kernel, rfl⟩
theorem dX10_watch_6 : GgR mX10_watch 6 9 9 0 := ⟨0, rfl, ⟨10, _, by decide +kernel, rfl, rfl, by decide, tb_2 (List.mem_of_getElem? (i := 33) (by decide +kernel)) rfl⟩, by decide, rfl⟩
theorem dX10_watch_9 : GgR mX10_watch 9 12 8 3 := ⟨3, rfl, ⟨315, _, by decide +kernel, rfl, rfl, by decide, tb_1 (List.mem_of_getElem? (i := 111) (by decide +kernel)) rfl⟩, by decide, rfl⟩
theorem dX10_watch_12 : CalV mX10_watch 12 15 mX8_forget := ⟨290, by decide +kernel, rfl, tb_4 (List.mem_of_getElem? (i := 227) (by decide +kernel)) rfl, meX8_forget⟩
theorem dX10_watch_15 : Ins mX10_watch 15 (.ireturn) 1 16 := ⟨by decide +kernel, rfl⟩
theorem dX10_watch_16 : Ins mX10_watch 16 (.aload_n 0) 1 17 := ⟨by decide +kernel, rfl⟩
theorem dX10_watch_17 : GgR mX10_watch 17 20 9 0 := ⟨0, rfl, ⟨10, _, by decide +kernel, rfl, rfl, by decide, tb_2 (List.mem_of_getElem? (i := 33) (by decide +kernel)) rfl⟩, by decide, rfl⟩
theorem dX10_watch_20 : GgR mX10_watch 20 23 8 0 := ⟨0, rfl, ⟨61, _, by decide +kernel, rfl, rfl, by decide, tb_1 (List.mem_of_getElem? (i := 105) (by decide +kernel)) rfl⟩, by decide, rfl⟩
theorem dX10_watch_23 : Ins mX10_watch 23 (.iload_n 1) 1 24 := ⟨by decide +kernel, rfl⟩
theorem dX10_watch_24 : CalV mX10_watch 24 27 mX7_isHorse := ⟨194, by decide +kernel, rfl, tb_4 (List.mem_of_getElem? (i := 137) (by decide +kernel)) rfl, meX7_isHorse⟩
theorem dX10_watch_27 : Ins mX10_watch 27 (.ifCond .eq 23) 3 30 := ⟨by decide +kernel, rfl⟩
theorem dX10_watch_30 : Ins mX10_watch 30 (.iload_n 2) 1 31 := ⟨by decide +kernel, rfl⟩
theorem dX10_watch_31 : Ins mX10_watch 31 (.iconst 1) 1 32 := ⟨by decide +kernel, rfl⟩
theorem dX10_watch_32 : Ins mX10_watch 32 (.bipush 9) 2 34 := ⟨by decide +kernel, rfl⟩
theorem dX10_watch_34 : CalS mX10_watch 34 37 mX10_isWithin := ⟨72, by decide +kernel, rfl, Or.inl (tb_2 (List.mem_of_getElem? (i := 89) (by decide +kernel)) rfl), meX10_isWithin⟩
theorem dX10_watch_37 : Ins mX10_watch 37 (.ifCond .eq 13) 3 40 := ⟨by decide +kernel, rfl⟩
theorem dX10_watch_40 : Ins mX10_watch 40 (.iload_n 3) 1 41 := ⟨by decide +kernel, rfl⟩
theorem dX10_watch_41 : Ins mX10_watch 41 (.iload_n 2) 1 42 := ⟨by decide +kernel, rfl⟩
theorem dX10_watch_42 : Ins mX10_watch 42 (.bipush 9) 2 44 := ⟨by decide +kernel, rfl⟩
theorem dX10_watch_44 : CalS mX10_watch 44 47 mX10_isWithin := ⟨72, by decide +kernel, rfl, Or.inl (tb_2 (List.mem_of_getElem? (i := 89) (by decide +kernel)) rfl), meX10_isWithin⟩
theorem dX10_watch_47 : Ins mX10_watch 47 (.ifCond .ne 6) 3 50 := ⟨by decide +kernel, rfl⟩
theorem dX10_watch_50 : Ins mX10_watch 50 (.bipush (-2)) 2 52 := ⟨by decide +kernel, rfl⟩
theorem dX10_watch_52 : Ins mX10_watch 52 (.ireturn) 1 53 := ⟨by decide +kernel, rfl⟩
theorem dX10_watch_53 : Ins mX10_watch 53 (.aload_n 0) 1 54 := ⟨by decide +kernel, rfl⟩
theorem dX10_watch_54 : GgR mX10_watch 54 57 9 0 := ⟨0, rfl, ⟨10, _, by decide +kernel, rfl, rfl, by decide, tb_2 (List.mem_of_getElem? (i := 33) (by decide +kernel)) rfl⟩, by decide, rfl⟩
theorem dX10_watch_57 : GgR mX10_watch 57 60 8 3 := ⟨3, rfl, ⟨315, _, by decide +kernel, rfl, rfl, by decide, tb_1 (List.mem_of_getElem? (i := 111) (by decide +kernel)) rfl⟩, by decide, rfl⟩
theorem dX10_watch_60 : Ins mX10_watch 60 (.iload_n 1) 1 61 := ⟨by decide +kernel, rfl⟩
theorem dX10_watch_61 : Ins mX10_watch 61 (.iload_n 2) 1 62 := ⟨by decide +kernel, rfl⟩
theorem dX10_watch_62 : Ins mX10_watch 62 (.iload_n 3) 1 63 := ⟨by decide +kernel, rfl⟩
theorem dX10_watch_63 : CalV mX10_watch 63 66 mX8_add := ⟨295, by decide +kernel, rfl, tb_4 (List.mem_of_getElem? (i := 231) (by decide +kernel)) rfl, meX8_add⟩
theorem dX10_watch_66 : Ins mX10_watch 66 (.ireturn) 1 67 := ⟨by decide +kernel, rfl⟩
