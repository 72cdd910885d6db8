-- a fact for each instruction, by wip/whole/gen/ins.py
theorem dX11_isBoy_0 : Ins mX11_isBoy 0 (.iload_n 1) 1 1 := ⟨by decide +kernel, rfl⟩
theorem dX11_isBoy_1 : Ins mX11_isBoy 1 (.iconst 0) 1 2 := ⟨by decide +kernel, rfl⟩
theorem dX11_isBoy_2 : Ins mX11_isBoy 2 (.aload_n 0) 1 3 := ⟨by decide +kernel, rfl⟩
theorem dX11_isBoy_3 : GgR mX11_isBoy 3 6 10 0 := ⟨0, rfl, ⟨7, _, by decide +kernel, rfl, rfl, by decide, tb_5 (List.mem_of_getElem? (i := 196) (by decide +kernel)) rfl⟩, by decide, rfl⟩
theorem dX11_isBoy_6 : Ins mX11_isBoy 6 (.iconst 1) 1 7 := ⟨by decide +kernel, rfl⟩
theorem dX11_isBoy_7 : Ins mX11_isBoy 7 (.iaload) 1 8 := ⟨by decide +kernel, rfl⟩
theorem dX11_isBoy_8 : Ins mX11_isBoy 8 (.iconst 1) 1 9 := ⟨by decide +kernel, rfl⟩
theorem dX11_isBoy_9 : Ins mX11_isBoy 9 (.isub) 1 10 := ⟨by decide +kernel, rfl⟩
theorem dX11_isBoy_10 : CalS mX11_isBoy 10 13 mX11_isIn := ⟨63, by decide +kernel, rfl, Or.inl (tb_6 (List.mem_of_getElem? (i := 50) (by decide +kernel)) rfl), meX11_isIn⟩
theorem dX11_isBoy_13 : Ins mX11_isBoy 13 (.ireturn) 1 14 := ⟨by decide +kernel, rfl⟩
theorem dX11_get_0 : Ins mX11_get 0 (.aload_n 0) 1 1 := ⟨by decide +kernel, rfl⟩
theorem dX11_get_1 : GgR mX11_get 1 4 10 0 := ⟨0, rfl, ⟨7, _, by decide +kernel, rfl, rfl, by decide, tb_5 (List.mem_of_getElem? (i := 196) (by decide +kernel)) rfl⟩, by decide, rfl⟩
theorem dX11_get_4 : Ins mX11_get 4 (.bipush 16) 2 6 := ⟨by decide +kernel, rfl⟩
theorem dX11_get_6 : Ins mX11_get 6 (.iconst 4) 1 7 := ⟨by decide +kernel, rfl⟩
theorem dX11_get_7 : Ins mX11_get 7 (.iload_n 1) 1 8 := ⟨by decide +kernel, rfl⟩
theorem dX11_get_8 : Ins mX11_get 8 (.imul) 1 9 := ⟨by decide +kernel, rfl⟩
theorem dX11_get_9 : Ins mX11_get 9 (.iadd) 1 10 := ⟨by decide +kernel, rfl⟩
theorem dX11_get_10 : Ins mX11_get 10 (.iload_n 2) 1 11 := ⟨by decide +kernel, rfl⟩
theorem dX11_get_11 : Ins mX11_get 11 (.iadd) 1 12 := ⟨by decide +kernel, rfl⟩
theorem dX11_get_12 : Ins mX11_get 12 (.iaload) 1 13 := ⟨by decide +kernel, rfl⟩
theorem dX11_get_13 : Ins mX11_get 13 (.ireturn) 1 14 := ⟨by decide +kernel, rfl⟩
theorem dX11_put_0 : Ins mX11_put 0 (.aload_n 0) 1 1 := ⟨by decide +kernel, rfl⟩
theorem dX11_put_1 : GgR mX11_put 1 4 10 0 := ⟨0, rfl, ⟨7, _, by decide +kernel, rfl, rfl, by decide, tb_5 (List.mem_of_getElem? (i := 196) (by decide +kernel)) rfl⟩, by decide, rfl⟩
theorem dX11_put_4 : Ins mX11_put 4 (.bipush 16) 2 6 := ⟨by decide +kernel, rfl⟩
theorem dX11_put_6 : Ins mX11_put 6 (.iconst 4) 1 7 := ⟨by decide +kernel, rfl⟩
theorem dX11_put_7 : Ins mX11_put 7 (.iload_n 1) 1 8 := ⟨by decide +kernel, rfl⟩
theorem dX11_put_8 : Ins mX11_put 8 (.imul) 1 9 := ⟨by decide +kernel, rfl⟩
theorem dX11_put_9 : Ins mX11_put 9 (.iadd) 1 10 := ⟨by decide +kernel, rfl⟩
theorem dX11_put_10 : Ins mX11_put 10 (.iload_n 2) 1 11 := ⟨by decide +kernel, rfl⟩
theorem dX11_put_11 : Ins mX11_put 11 (.iadd) 1 12 := ⟨by decide +kernel, rfl⟩
theorem dX11_put_12 : Ins mX11_put 12 (.iload_n 3) 1 13 := ⟨by decide +kernel, rfl⟩
theorem dX11_put_13 : Ins mX11_put 13 (.iastore) 1 14 := ⟨by decide +kernel, rfl⟩
theorem dX11_put_14 : Ins mX11_put 14 (.return_) 1 15 := ⟨by decide +kernel, rfl⟩
theorem dX11_of_0 : Ins mX11_of 0 (.aload_n 0) 1 1 := ⟨by decide +kernel, rfl⟩
theorem dX11_of_1 : GgR mX11_of 1 4 10 0 := ⟨0, rfl, ⟨7, _, by decide +kernel, rfl, rfl, by decide, tb_5 (List.mem_of_getElem? (i := 196) (by decide +kernel)) rfl⟩, by decide, rfl⟩
theorem dX11_of_4 : Ins mX11_of 4 (.bipush 48) 2 6 := ⟨by decide +kernel, rfl⟩
theorem dX11_of_6 : Ins mX11_of 6 (.iconst 4) 1 7 := ⟨by decide +kernel, rfl⟩
theorem dX11_of_7 : Ins mX11_of 7 (.iload_n 1) 1 8 := ⟨by decide +kernel, rfl⟩
theorem dX11_of_8 : Ins mX11_of 8 (.imul) 1 9 := ⟨by decide +kernel, rfl⟩
theorem dX11_of_9 : Ins mX11_of 9 (.iadd) 1 10 := ⟨by decide +kernel, rfl⟩
theorem dX11_of_10 : Ins mX11_of 10 (.iload_n 2) 1 11 := ⟨by decide +kernel, rfl⟩
theorem dX11_of_11 : Ins mX11_of 11 (.iadd) 1 12 := ⟨by decide +kernel, rfl⟩
theorem dX11_of_12 : Ins mX11_of 12 (.iaload) 1 13 := ⟨by decide +kernel, rfl⟩
theorem dX11_of_13 : Ins mX11_of 13 (.ireturn) 1 14 := ⟨by decide +kernel, rfl⟩
theorem dX11_lay_0 : Ins mX11_lay 0 (.aload_n 0) 1 1 := ⟨by decide +kernel, rfl⟩
theorem dX11_lay_1 : GgR mX11_lay 1 4 10 0 := ⟨0, rfl, ⟨7, _, by decide +kernel, rfl, rfl, by decide, tb_5 (List.mem_of_getElem? (i := 196) (by decide +kernel)) rfl⟩, by decide, rfl⟩
theorem dX11_lay_4 : Ins mX11_lay 4 (.bipush 48) 2 6 := ⟨by decide +kernel, rfl⟩
theorem dX11_lay_6 : Ins mX11_lay 6 (.iconst 4) 1 7 := ⟨by decide +kernel, rfl⟩
theorem dX11_lay_7 : Ins mX11_lay 7 (.iload_n 1) 1 8 := ⟨by decide +kernel, rfl⟩
theorem dX11_lay_8 : Ins mX11_lay 8 (.imul) 1 9 := ⟨by decide +kernel, rfl⟩
theorem dX11_lay_9 : Ins mX11_lay 9 (.iadd) 1 10 := ⟨by decide +kernel, rfl⟩
theorem dX11_lay_10 : Ins mX11_lay 10 (.iload_n 2) 1 11 := ⟨by decide +kernel, rfl⟩
theorem dX11_lay_11 : Ins mX11_lay 11 (.iadd) 1 12 := ⟨by decide +kernel, rfl⟩
theorem dX11_lay_12 : Ins mX11_lay 12 (.iload_n 3) 1 13 := ⟨by decide +kernel, rfl⟩
theorem dX11_lay_13 : Ins mX11_lay 13 (.iastore) 1 14 := ⟨by decide +kernel, rfl⟩
theorem dX11_lay_14 : Ins mX11_lay 14 (.return_) 1 15 := ⟨by decide +kernel, rfl⟩
theorem dX11_riderOf_0 : Ins mX11_riderOf 0 (.iconst 0) 1 1 := ⟨by decide +kernel, rfl⟩
theorem dX11_riderOf_1 : Ins mX11_riderOf 1 (.istore_n 2) 1 2 := ⟨by decide +kernel, rfl⟩
theorem dX11_riderOf_2 : Ins mX11_riderOf 2 (.iload_n 2) 1 3 := ⟨by decide +kernel, rfl⟩
theorem dX11_riderOf_3 : Ins mX11_riderOf 3 (.aload_n 0) 1 4 := ⟨by decide +kernel, rfl⟩
theorem dX11_riderOf_4 : GgR mX11_riderOf 4 7 10 0 := ⟨0, rfl, ⟨7, _, by decide +kernel, rfl, rfl, by decide, tb_5 (List.mem_of_getElem? (i := 196) (by decide +kernel)) rfl⟩, by decide, rfl⟩
theorem dX11_riderOf_7 : Ins mX11_riderOf 7 (.iconst 1) 1 8 := ⟨by decide +kernel, rfl⟩
theorem dX11_riderOf_8 : Ins mX11_riderOf 8 (.iaload) 1 9 := ⟨by decide +kernel, rfl⟩
theorem dX11_riderOf_9 : Ins mX11_riderOf 9 (.if_icmp .ge 21) 3 12 := ⟨by decide +kernel, rfl⟩
theorem dX11_riderOf_12 : Ins mX11_riderOf 12 (.aload_n 0) 1 13 := ⟨by decide +kernel, rfl⟩
theorem dX11_riderOf_13 : Ins mX11_riderOf 13 (.iload_n 2) 1 14 := ⟨by decide +kernel, rfl⟩
theorem dX11_riderOf_14 : Ins mX11_riderOf 14 (.iconst 1) 1 15 := ⟨by decide +kernel, rfl⟩
theorem dX11_riderOf_15 : CalV mX11_riderOf 15 18 mX11_of := ⟨67, by decide +kernel, rfl, tb_7 (List.mem_of_getElem? (i := 13) (by decide +kernel)) rfl, meX11_of⟩
theorem dX11_riderOf_18 : Ins mX11_riderOf 18 (.iload_n 1) 1 19 := ⟨by decide +kernel, rfl⟩
theorem dX11_riderOf_19 : Ins mX11_riderOf 19 (.if_icmp .ne 5) 3 22 := ⟨by decide +kernel, rfl⟩
theorem dX11_riderOf_22 : Ins mX11_riderOf 22 (.iload_n 2) 1 23 := ⟨by decide +kernel, rfl⟩
theorem dX11_riderOf_23 : Ins mX11_riderOf 23 (.ireturn) 1 24 := ⟨by decide +kernel, rfl⟩
theorem dX11_riderOf_24 : Ins mX11_riderOf 24 (.iinc 2 1) 3 27 := ⟨by decide +kernel, rfl⟩
theorem dX11_riderOf_27 : Ins mX11_riderOf 27 (.goto (-25)) 3 30 := ⟨by decide +kernel, rfl⟩
theorem dX11_riderOf_30 : Ins mX11_riderOf 30 (.iconst (-1)) 1 31 := ⟨by decide +kernel, rfl⟩
theorem dX11_riderOf_31 : Ins mX11_riderOf 31 (.ireturn) 1 32 := ⟨by decide +kernel, rfl⟩
theorem dX11_isDue_0 : Ins mX11_isDue 0 (.iload_n 2) 1 1 := ⟨by decide +kernel, rfl⟩
theorem dX11_isDue_1 : Ins mX11_isDue 1 (.aload_n 0) 1 2 := ⟨by decide +kernel, rfl⟩
theorem dX11_isDue_2 : Ins mX11_isDue 2 (.iload_n 1) 1 3 := ⟨by decide +kernel, rfl⟩
theorem dX11_isDue_3 : Ins mX11_isDue 3 (.iconst 0) 1 4 := ⟨by decide +kernel, rfl⟩
theorem dX11_isDue_4 : CalV mX11_isDue 4 7 mX11_get := ⟨71, by decide +kernel, rfl, tb_6 (List.mem_of_getElem? (i := 233) (by decide +kernel)) rfl, meX11_get⟩
theorem dX11_isDue_7 : Ins mX11_isDue 7 (.isub) 1 8 := ⟨by decide +kernel, rfl⟩
theorem dX11_isDue_8 : Ins mX11_isDue 8 (.aload_n 0) 1 9 := ⟨by decide +kernel, rfl⟩
theorem dX11_isDue_9 : Ins mX11_isDue 9 (.iload_n 1) 1 10 := ⟨by decide +kernel, rfl⟩
theorem dX11_isDue_10 : Ins mX11_isDue 10 (.iconst 2) 1 11 := ⟨by decide +kernel, rfl⟩
theorem dX11_isDue_11 : CalV mX11_isDue 11 14 mX11_get := ⟨71, by decide +kernel, rfl, tb_6 (List.mem_of_getElem? (i := 233) (by decide +kernel)) rfl, meX11_get⟩
theorem dX11_isDue_14 : Ins mX11_isDue 14 (.irem) 1 15 := ⟨by decide +kernel, rfl⟩
theorem dX11_isDue_15 : Ins mX11_isDue 15 (.ifCond .ne 7) 3 18 := ⟨by decide +kernel, rfl⟩
theorem dX11_isDue_18 : Ins mX11_isDue 18 (.iconst 1) 1 19 := ⟨by decide +kernel, rfl⟩
theorem dX11_isDue_19 : Ins mX11_isDue 19 (.goto 4) 3 22 := ⟨by decide +kernel, rfl⟩
theorem dX11_isDue_22 : Ins mX11_isDue 22 (.iconst 0) 1 23 := ⟨by decide +kernel, rfl⟩
theorem dX11_isDue_23 : Ins mX11_isDue 23 (.ireturn) 1 24 := ⟨by decide +kernel, rfl⟩
theorem dX11_dueOf_0 : Ins mX11_dueOf 0 (.iconst 0) 1 1 := ⟨by decide +kernel, rfl⟩
theorem dX11_dueOf_1 : Ins mX11_dueOf 1 (.istore_n 3) 1 2 := ⟨by decide +kernel, rfl⟩
theorem dX11_dueOf_2 : Ins mX11_dueOf 2 (.iconst 0) 1 3 := ⟨by decide +kernel, rfl⟩
theorem dX11_dueOf_3 : Ins mX11_dueOf 3 (.istore 4) 2 5 := ⟨by decide +kernel, rfl⟩
theorem dX11_dueOf_5 : Ins mX11_dueOf 5 (.iload 4) 2 7 := ⟨by decide +kernel, rfl⟩
theorem dX11_dueOf_7 : Ins mX11_dueOf 7 (.aload_n 0) 1 8 := ⟨by decide +kernel, rfl⟩
theorem dX11_dueOf_8 : GgR mX11_dueOf 8 11 10 0 := ⟨0, rfl, ⟨7, _, by decide +kernel, rfl, rfl, by decide, tb_5 (List.mem_of_getElem? (i := 196) (by decide +kernel)) rfl⟩, by decide, rfl⟩
theorem dX11_dueOf_11 : Ins mX11_dueOf 11 (.iconst 0) 1 12 := ⟨by decide +kernel, rfl⟩
theorem dX11_dueOf_12 : Ins mX11_dueOf 12 (.iaload) 1 13 := ⟨by decide +kernel, rfl⟩
theorem dX11_dueOf_13 : Ins mX11_dueOf 13 (.if_icmp .ge 39) 3 16 := ⟨by decide +kernel, rfl⟩
theorem dX11_dueOf_16 : Ins mX11_dueOf 16 (.iload_n 3) 1 17 := ⟨by decide +kernel, rfl⟩
theorem dX11_dueOf_17 : Ins mX11_dueOf 17 (.iload_n 1) 1 18 := ⟨by decide +kernel, rfl⟩
theorem dX11_dueOf_18 : Ins mX11_dueOf 18 (.iload 4) 2 20 := ⟨by decide +kernel, rfl⟩
theorem dX11_dueOf_20 : CalS mX11_dueOf 20 23 mX11_has := ⟨74, by decide +kernel, rfl, Or.inl (tb_6 (List.mem_of_getElem? (i := 135) (by decide +kernel)) rfl), meX11_has⟩
theorem dX11_dueOf_23 : Ins mX11_dueOf 23 (.ifCond .eq 20) 3 26 := ⟨by decide +kernel, rfl⟩
theorem dX11_dueOf_26 : Ins mX11_dueOf 26 (.aload_n 0) 1 27 := ⟨by decide +kernel, rfl⟩
theorem dX11_dueOf_27 : Ins mX11_dueOf 27 (.iload 4) 2 29 := ⟨by decide +kernel, rfl⟩
theorem dX11_dueOf_29 : Ins mX11_dueOf 29 (.iload_n 2) 1 30 := ⟨by decide +kernel, rfl⟩
theorem dX11_dueOf_30 : CalV mX11_dueOf 30 33 mX11_isDue := ⟨78, by decide +kernel, rfl, tb_7 (List.mem_of_getElem? (i := 73) (by decide +kernel)) rfl, meX11_isDue⟩
theorem dX11_dueOf_33 : Ins mX11_dueOf 33 (.ifCond .eq 10) 3 36 := ⟨by decide +kernel, rfl⟩
theorem dX11_dueOf_36 : Ins mX11_dueOf 36 (.iconst 1) 1 37 := ⟨by decide +kernel, rfl⟩
theorem dX11_dueOf_37 : Ins mX11_dueOf 37 (.iload 4) 2 39 := ⟨by decide +kernel, rfl⟩
theorem dX11_dueOf_39 : Ins mX11_dueOf 39 (.ishl) 1 40 := ⟨by decide +kernel, rfl⟩
theorem dX11_dueOf_40 : Ins mX11_dueOf 40 (.goto 4) 3 43 := ⟨by decide +kernel, rfl⟩
theorem dX11_dueOf_43 : Ins mX11_dueOf 43 (.iconst 0) 1 44 := ⟨by decide +kernel, rfl⟩
theorem dX11_dueOf_44 : Ins mX11_dueOf 44 (.ior) 1 45 := ⟨by decide +kernel, rfl⟩
theorem dX11_dueOf_45 : Ins mX11_dueOf 45 (.istore_n 3) 1 46 := ⟨by decide +kernel, rfl⟩
theorem dX11_dueOf_46 : Ins mX11_dueOf 46 (.iinc 4 1) 3 49 := ⟨by decide +kernel, rfl⟩
theorem dX11_dueOf_49 : Ins mX11_dueOf 49 (.goto (-44)) 3 52 := ⟨by decide +kernel, rfl⟩
theorem dX11_dueOf_52 : Ins mX11_dueOf 52 (.iload_n 3) 1 53 := ⟨by decide +kernel, rfl⟩
theorem dX11_dueOf_53 : Ins mX11_dueOf 53 (.ireturn) 1 54 := ⟨by decide +kernel, rfl⟩
theorem dX11_fit_0 : Ins mX11_fit 0 (.iconst 0) 1 1 := ⟨by decide +kernel, rfl⟩
theorem dX11_fit_1 : Ins mX11_fit 1 (.istore_n 1) 1 2 := ⟨by decide +kernel, rfl⟩
theorem dX11_fit_2 : Ins mX11_fit 2 (.iconst 0) 1 3 := ⟨by decide +kernel, rfl⟩
theorem dX11_fit_3 : Ins mX11_fit 3 (.istore_n 2) 1 4 := ⟨by decide +kernel, rfl⟩
theorem dX11_fit_4 : Ins mX11_fit 4 (.iload_n 2) 1 5 := ⟨by decide +kernel, rfl⟩
theorem dX11_fit_5 : Ins mX11_fit 5 (.aload_n 0) 1 6 := ⟨by decide +kernel, rfl⟩
theorem dX11_fit_6 : GgR mX11_fit 6 9 10 0 := ⟨0, rfl, ⟨7, _, by decide +kernel, rfl, rfl, by decide, tb_5 (List.mem_of_getElem? (i := 196) (by decide +kernel)) rfl⟩, by decide, rfl⟩
theorem dX11_fit_9 : Ins mX11_fit 9 (.iconst 0) 1 10 := ⟨by decide +kernel, rfl⟩
theorem dX11_fit_10 : Ins mX11_fit 10 (.iaload) 1 11 := ⟨by decide +kernel, rfl⟩
theorem dX11_fit_11 : Ins mX11_fit 11 (.if_icmp .ge 39) 3 14 := ⟨by decide +kernel, rfl⟩
theorem dX11_fit_14 : Ins mX11_fit 14 (.iload_n 1) 1 15 := ⟨by decide +kernel, rfl⟩
theorem dX11_fit_15 : Ins mX11_fit 15 (.aload_n 0) 1 16 := ⟨by decide +kernel, rfl⟩
theorem dX11_fit_16 : Ins mX11_fit 16 (.iload_n 2) 1 17 := ⟨by decide +kernel, rfl⟩
theorem dX11_fit_17 : CalV mX11_fit 17 20 mX11_riderOf := ⟨81, by decide +kernel, rfl, tb_7 (List.mem_of_getElem? (i := 17) (by decide +kernel)) rfl, meX11_riderOf⟩
theorem dX11_fit_20 : Ins mX11_fit 20 (.iconst (-1)) 1 21 := ⟨by decide +kernel, rfl⟩
theorem dX11_fit_21 : Ins mX11_fit 21 (.if_icmp .eq 20) 3 24 := ⟨by decide +kernel, rfl⟩
theorem dX11_fit_24 : Ins mX11_fit 24 (.aload_n 0) 1 25 := ⟨by decide +kernel, rfl⟩
theorem dX11_fit_25 : Ins mX11_fit 25 (.iload_n 2) 1 26 := ⟨by decide +kernel, rfl⟩
theorem dX11_fit_26 : Ins mX11_fit 26 (.iconst 1) 1 27 := ⟨by decide +kernel, rfl⟩
theorem dX11_fit_27 : CalV mX11_fit 27 30 mX11_get := ⟨71, by decide +kernel, rfl, tb_6 (List.mem_of_getElem? (i := 233) (by decide +kernel)) rfl, meX11_get⟩
theorem dX11_fit_30 : Ins mX11_fit 30 (.bipush 99) 2 32 := ⟨by decide +kernel, rfl⟩
theorem dX11_fit_32 : Ins mX11_fit 32 (.if_icmp .ge 9) 3 35 := ⟨by decide +kernel, rfl⟩
theorem dX11_fit_35 : Ins mX11_fit 35 (.iconst 1) 1 36 := ⟨by decide +kernel, rfl⟩
theorem dX11_fit_36 : Ins mX11_fit 36 (.iload_n 2) 1 37 := ⟨by decide +kernel, rfl⟩
theorem dX11_fit_37 : Ins mX11_fit 37 (.ishl) 1 38 := ⟨by decide +kernel, rfl⟩
theorem dX11_fit_38 : Ins mX11_fit 38 (.goto 4) 3 41 := ⟨by decide +kernel, rfl⟩
theorem dX11_fit_41 : Ins mX11_fit 41 (.iconst 0) 1 42 := ⟨by decide +kernel, rfl⟩
theorem dX11_fit_42 : Ins mX11_fit 42 (.ior) 1 43 := ⟨by decide +kernel, rfl⟩
theorem dX11_fit_43 : Ins mX11_fit 43 (.istore_n 1) 1 44 := ⟨by decide +kernel, rfl⟩
theorem dX11_fit_44 : Ins mX11_fit 44 (.iinc 2 1) 3 47 := ⟨by decide +kernel, rfl⟩
theorem dX11_fit_47 : Ins mX11_fit 47 (.goto (-43)) 3 50 := ⟨by decide +kernel, rfl⟩
theorem dX11_fit_50 : Ins mX11_fit 50 (.iload_n 1) 1 51 := ⟨by decide +kernel, rfl⟩
theorem dX11_fit_51 : Ins mX11_fit 51 (.ireturn) 1 52 := ⟨by decide +kernel, rfl⟩
theorem dX11_horse_0 : Ins mX11_horse 0 (.iload_n 1) 1 1 := ⟨by decide +kernel, rfl⟩
theorem dX11_horse_1 : Ins mX11_horse 1 (.iconst 1) 1 2 := ⟨by decide +kernel, rfl⟩
theorem dX11_horse_2 : Ins mX11_horse 2 (.bipush 9) 2 4 := ⟨by decide +kernel, rfl⟩
theorem dX11_horse_4 : CalS mX11_horse 4 7 mX11_isIn := ⟨63, by decide +kernel, rfl, Or.inl (tb_6 (List.mem_of_getElem? (i := 50) (by decide +kernel)) rfl), meX11_isIn⟩
theorem dX11_horse_7 : Ins mX11_horse 7 (.ifCond .eq 25) 3 10 := ⟨by decide +kernel, rfl⟩
theorem dX11_horse_10 : Ins mX11_horse 10 (.iload_n 2) 1 11 := ⟨by decide +kernel, rfl⟩
theorem dX11_horse_11 : Ins mX11_horse 11 (.iconst 0) 1 12 := ⟨by decide +kernel, rfl⟩
theorem dX11_horse_12 : Ins mX11_horse 12 (.iload_n 1) 1 13 := ⟨by decide +kernel, rfl⟩
theorem dX11_horse_13 : Ins mX11_horse 13 (.iconst 1) 1 14 := ⟨by decide +kernel, rfl⟩
theorem dX11_horse_14 : Ins mX11_horse 14 (.isub) 1 15 := ⟨by decide +kernel, rfl⟩
theorem dX11_horse_15 : CalS mX11_horse 15 18 mX11_isIn := ⟨63, by decide +kernel, rfl, Or.inl (tb_6 (List.mem_of_getElem? (i := 50) (by decide +kernel)) rfl), meX11_isIn⟩
theorem dX11_horse_18 : Ins mX11_horse 18 (.ifCond .eq 14) 3 21 := ⟨by decide +kernel, rfl⟩
theorem dX11_horse_21 : Ins mX11_horse 21 (.aload_n 0) 1 22 := ⟨by decide +kernel, rfl⟩
theorem dX11_horse_22 : GgR mX11_horse 22 25 10 0 := ⟨0, rfl, ⟨7, _, by decide +kernel, rfl, rfl, by decide, tb_5 (List.mem_of_getElem? (i := 196) (by decide +kernel)) rfl⟩, by decide, rfl⟩
theorem dX11_horse_25 : Ins mX11_horse 25 (.iconst 0) 1 26 := ⟨by decide +kernel, rfl⟩
theorem dX11_horse_26 : Ins mX11_horse 26 (.iaload) 1 27 := ⟨by decide +kernel, rfl⟩
theorem dX11_horse_27 : Ins mX11_horse 27 (.bipush 8) 2 29 := ⟨by decide +kernel, rfl⟩
theorem dX11_horse_29 : Ins mX11_horse 29 (.if_icmp .ne 5) 3 32 := ⟨by decide +kernel, rfl⟩
theorem dX11_horse_32 : Ins mX11_horse 32 (.iconst (-1)) 1 33 := ⟨by decide +kernel, rfl⟩
theorem dX11_horse_33 : Ins mX11_horse 33 (.ireturn) 1 34 := ⟨by decide +kernel, rfl⟩
theorem dX11_horse_34 : Ins mX11_horse 34 (.aload_n 0) 1 35 := ⟨by decide +kernel, rfl⟩
theorem dX11_horse_35 : GgR mX11_horse 35 38 10 0 := ⟨0, rfl, ⟨7, _, by decide +kernel, rfl, rfl, by decide, tb_5 (List.mem_of_getElem? (i := 196) (by decide +kernel)) rfl⟩, by decide, rfl⟩
theorem dX11_horse_38 : Ins mX11_horse 38 (.iconst 0) 1 39 := ⟨by decide +kernel, rfl⟩
theorem dX11_horse_39 : Ins mX11_horse 39 (.iaload) 1 40 := ⟨by decide +kernel, rfl⟩
theorem dX11_horse_40 : Ins mX11_horse 40 (.istore_n 3) 1 41 := ⟨by decide +kernel, rfl⟩
theorem dX11_horse_41 : Ins mX11_horse 41 (.aload_n 0) 1 42 := ⟨by decide +kernel, rfl⟩
theorem dX11_horse_42 : Ins mX11_horse 42 (.iload_n 3) 1 43 := ⟨by decide +kernel, rfl⟩
theorem dX11_horse_43 : Ins mX11_horse 43 (.iconst 2) 1 44 := ⟨by decide +kernel, rfl⟩
theorem dX11_horse_44 : Ins mX11_horse 44 (.iload_n 1) 1 45 := ⟨by decide +kernel, rfl⟩
theorem dX11_horse_45 : CalV mX11_horse 45 48 mX11_put := ⟨85, by decide +kernel, rfl, tb_6 (List.mem_of_getElem? (i := 53) (by decide +kernel)) rfl, meX11_put⟩
theorem dX11_horse_48 : Ins mX11_horse 48 (.aload_n 0) 1 49 := ⟨by decide +kernel, rfl⟩
theorem dX11_horse_49 : Ins mX11_horse 49 (.iload_n 3) 1 50 := ⟨by decide +kernel, rfl⟩
theorem dX11_horse_50 : Ins mX11_horse 50 (.iconst 3) 1 51 := ⟨by decide +kernel, rfl⟩
theorem dX11_horse_51 : Ins mX11_horse 51 (.iload_n 2) 1 52 := ⟨by decide +kernel, rfl⟩
theorem dX11_horse_52 : CalV mX11_horse 52 55 mX11_put := ⟨85, by decide +kernel, rfl, tb_6 (List.mem_of_getElem? (i := 53) (by decide +kernel)) rfl, meX11_put⟩
theorem dX11_horse_55 : Ins mX11_horse 55 (.aload_n 0) 1 56 := ⟨by decide +kernel, rfl⟩
theorem dX11_horse_56 : Ins mX11_horse 56 (.iload_n 3) 1 57 := ⟨by decide +kernel, rfl⟩
theorem dX11_horse_57 : Ins mX11_horse 57 (.iconst 0) 1 58 := ⟨by decide +kernel, rfl⟩
theorem dX11_horse_58 : Ins mX11_horse 58 (.iload_n 2) 1 59 := ⟨by decide +kernel, rfl⟩
theorem dX11_horse_59 : CalV mX11_horse 59 62 mX11_put := ⟨85, by decide +kernel, rfl, tb_6 (List.mem_of_getElem? (i := 53) (by decide +kernel)) rfl, meX11_put⟩
theorem dX11_horse_62 : Ins mX11_horse 62 (.aload_n 0) 1 63 := ⟨by decide +kernel, rfl⟩
theorem dX11_horse_63 : Ins mX11_horse 63 (.iload_n 3) 1 64 := ⟨by decide +kernel, rfl⟩
theorem dX11_horse_64 : Ins mX11_horse 64 (.iconst 1) 1 65 := ⟨by decide +kernel, rfl⟩
theorem dX11_horse_65 : Ins mX11_horse 65 (.iconst 0) 1 66 := ⟨by decide +kernel, rfl⟩
theorem dX11_horse_66 : CalV mX11_horse 66 69 mX11_put := ⟨85, by decide +kernel, rfl, tb_6 (List.mem_of_getElem? (i := 53) (by decide +kernel)) rfl, meX11_put⟩
theorem dX11_horse_69 : Ins mX11_horse 69 (.aload_n 0) 1 70 := ⟨by decide +kernel, rfl⟩
theorem dX11_horse_70 : GgR mX11_horse 70 73 10 0 := ⟨0, rfl, ⟨7, _, by decide +kernel, rfl, rfl, by decide, tb_5 (List.mem_of_getElem? (i := 196) (by decide +kernel)) rfl⟩, by decide, rfl⟩
theorem dX11_horse_73 : Ins mX11_horse 73 (.iconst 0) 1 74 := ⟨by decide +kernel, rfl⟩
theorem dX11_horse_74 : Ins mX11_horse 74 (.dup2) 1 75 := ⟨by decide +kernel, rfl⟩
theorem dX11_horse_75 : Ins mX11_horse 75 (.iaload) 1 76 := ⟨by decide +kernel, rfl⟩
theorem dX11_horse_76 : Ins mX11_horse 76 (.iconst 1) 1 77 := ⟨by decide +kernel, rfl⟩
theorem dX11_horse_77 : Ins mX11_horse 77 (.iadd) 1 78 := ⟨by decide +kernel, rfl⟩
theorem dX11_horse_78 : Ins mX11_horse 78 (.iastore) 1 79 := ⟨by decide +kernel, rfl⟩
theorem dX11_horse_79 : Ins mX11_horse 79 (.iload_n 3) 1 80 := ⟨by decide +kernel, rfl⟩
theorem dX11_horse_80 : Ins mX11_horse 80 (.ireturn) 1 81 := ⟨by decide +kernel, rfl⟩
theorem dX11_boy_0 : Ins mX11_boy 0 (.iload_n 1) 1 1 := ⟨by decide +kernel, rfl⟩
theorem dX11_boy_1 : Ins mX11_boy 1 (.iconst 1) 1 2 := ⟨by decide +kernel, rfl⟩
theorem dX11_boy_2 : Ins mX11_boy 2 (.bipush 9) 2 4 := ⟨by decide +kernel, rfl⟩
theorem dX11_boy_4 : CalS mX11_boy 4 7 mX11_isIn := ⟨63, by decide +kernel, rfl, Or.inl (tb_6 (List.mem_of_getElem? (i := 50) (by decide +kernel)) rfl), meX11_isIn⟩
theorem dX11_boy_7 : Ins mX11_boy 7 (.ifCond .eq 14) 3 10 := ⟨by decide +kernel, rfl⟩
theorem dX11_boy_10 : Ins mX11_boy 10 (.aload_n 0) 1 11 := ⟨by decide +kernel, rfl⟩
theorem dX11_boy_11 : GgR mX11_boy 11 14 10 0 := ⟨0, rfl, ⟨7, _, by decide +kernel, rfl, rfl, by decide, tb_5 (List.mem_of_getElem? (i := 196) (by decide +kernel)) rfl⟩, by decide, rfl⟩
theorem dX11_boy_14 : Ins mX11_boy 14 (.iconst 1) 1 15 := ⟨by decide +kernel, rfl⟩
theorem dX11_boy_15 : Ins mX11_boy 15 (.iaload) 1 16 := ⟨by decide +kernel, rfl⟩
theorem dX11_boy_16 : Ins mX11_boy 16 (.bipush 6) 2 18 := ⟨by decide +kernel, rfl⟩
theorem dX11_boy_18 : Ins mX11_boy 18 (.if_icmp .ne 5) 3 21 := ⟨by decide +kernel, rfl⟩
theorem dX11_boy_21 : Ins mX11_boy 21 (.iconst (-1)) 1 22 := ⟨by decide +kernel, rfl⟩
theorem dX11_boy_22 : Ins mX11_boy 22 (.ireturn) 1 23 := ⟨by decide +kernel, rfl⟩
theorem dX11_boy_23 : Ins mX11_boy 23 (.aload_n 0) 1 24 := ⟨by decide +kernel, rfl⟩
theorem dX11_boy_24 : GgR mX11_boy 24 27 10 0 := ⟨0, rfl, ⟨7, _, by decide +kernel, rfl, rfl, by decide, tb_5 (List.mem_of_getElem? (i := 196) (by decide +kernel)) rfl⟩, by decide, rfl⟩
theorem dX11_boy_27 : Ins mX11_boy 27 (.iconst 1) 1 28 := ⟨by decide +kernel, rfl⟩
theorem dX11_boy_28 : Ins mX11_boy 28 (.iaload) 1 29 := ⟨by decide +kernel, rfl⟩
theorem dX11_boy_29 : Ins mX11_boy 29 (.istore_n 2) 1 30 := ⟨by decide +kernel, rfl⟩
theorem dX11_boy_30 : Ins mX11_boy 30 (.aload_n 0) 1 31 := ⟨by decide +kernel, rfl⟩
theorem dX11_boy_31 : Ins mX11_boy 31 (.iload_n 2) 1 32 := ⟨by decide +kernel, rfl⟩
theorem dX11_boy_32 : Ins mX11_boy 32 (.iconst 2) 1 33 := ⟨by decide +kernel, rfl⟩
theorem dX11_boy_33 : Ins mX11_boy 33 (.iload_n 1) 1 34 := ⟨by decide +kernel, rfl⟩
theorem dX11_boy_34 : CalV mX11_boy 34 37 mX11_lay := ⟨89, by decide +kernel, rfl, tb_6 (List.mem_of_getElem? (i := 61) (by decide +kernel)) rfl, meX11_lay⟩
theorem dX11_boy_37 : Ins mX11_boy 37 (.aload_n 0) 1 38 := ⟨by decide +kernel, rfl⟩
theorem dX11_boy_38 : Ins mX11_boy 38 (.iload_n 2) 1 39 := ⟨by decide +kernel, rfl⟩
theorem dX11_boy_39 : Ins mX11_boy 39 (.iconst 0) 1 40 := ⟨by decide +kernel, rfl⟩
theorem dX11_boy_40 : Ins mX11_boy 40 (.iconst 0) 1 41 := ⟨by decide +kernel, rfl⟩
theorem dX11_boy_41 : CalV mX11_boy 41 44 mX11_lay := ⟨89, by decide +kernel, rfl, tb_6 (List.mem_of_getElem? (i := 61) (by decide +kernel)) rfl, meX11_lay⟩
theorem dX11_boy_44 : Ins mX11_boy 44 (.aload_n 0) 1 45 := ⟨by decide +kernel, rfl⟩
theorem dX11_boy_45 : Ins mX11_boy 45 (.iload_n 2) 1 46 := ⟨by decide +kernel, rfl⟩
theorem dX11_boy_46 : Ins mX11_boy 46 (.iconst 1) 1 47 := ⟨by decide +kernel, rfl⟩
theorem dX11_boy_47 : Ins mX11_boy 47 (.iconst (-1)) 1 48 := ⟨by decide +kernel, rfl⟩
theorem dX11_boy_48 : CalV mX11_boy 48 51 mX11_lay := ⟨89, by decide +kernel, rfl, tb_6 (List.mem_of_getElem? (i := 61) (by decide +kernel)) rfl, meX11_lay⟩
theorem dX11_boy_51 : Ins mX11_boy 51 (.aload_n 0) 1 52 := ⟨by decide +kernel, rfl⟩
theorem dX11_boy_52 : GgR mX11_boy 52 55 10 0 := ⟨0, rfl, ⟨7, _, by decide +kernel, rfl, rfl, by decide, tb_5 (List.mem_of_getElem? (i := 196) (by decide +kernel)) rfl⟩, by decide, rfl⟩
theorem dX11_boy_55 : Ins mX11_boy 55 (.iconst 1) 1 56 := ⟨by decide +kernel, rfl⟩
theorem dX11_boy_56 : Ins mX11_boy 56 (.dup2) 1 57 := ⟨by decide +kernel, rfl⟩
theorem dX11_boy_57 : Ins mX11_boy 57 (.iaload) 1 58 := ⟨by decide +kernel, rfl⟩
theorem dX11_boy_58 : Ins mX11_boy 58 (.iconst 1) 1 59 := ⟨by decide +kernel, rfl⟩
theorem dX11_boy_59 : Ins mX11_boy 59 (.iadd) 1 60 := ⟨by decide +kernel, rfl⟩
theorem dX11_boy_60 : Ins mX11_boy 60 (.iastore) 1 61 := ⟨by decide +kernel, rfl⟩
theorem dX11_boy_61 : Ins mX11_boy 61 (.iload_n 2) 1 62 := ⟨by decide +kernel, rfl⟩
theorem dX11_boy_62 : Ins mX11_boy 62 (.ireturn) 1 63 := ⟨by decide +kernel, rfl⟩
theorem dX11_limit_0 : Ins mX11_limit 0 (.iload_n 1) 1 1 := ⟨by decide +kernel, rfl⟩
theorem dX11_limit_1 : Ins mX11_limit 1 (.iconst 1) 1 2 := ⟨by decide +kernel, rfl⟩
theorem dX11_limit_2 : Ins mX11_limit 2 (.bipush 8) 2 4 := ⟨by decide +kernel, rfl⟩
theorem dX11_limit_4 : CalS mX11_limit 4 7 mX11_isIn := ⟨63, by decide +kernel, rfl, Or.inl (tb_6 (List.mem_of_getElem? (i := 50) (by decide +kernel)) rfl), meX11_isIn⟩
theorem dX11_limit_7 : Ins mX11_limit 7 (.ifCond .ne 5) 3 10 := ⟨by decide +kernel, rfl⟩
theorem dX11_limit_10 : Ins mX11_limit 10 (.iconst 0) 1 11 := ⟨by decide +kernel, rfl⟩
theorem dX11_limit_11 : Ins mX11_limit 11 (.ireturn) 1 12 := ⟨by decide +kernel, rfl⟩
theorem dX11_limit_12 : Ins mX11_limit 12 (.aload_n 0) 1 13 := ⟨by decide +kernel, rfl⟩
theorem dX11_limit_13 : GgR mX11_limit 13 16 10 0 := ⟨0, rfl, ⟨7, _, by decide +kernel, rfl, rfl, by decide, tb_5 (List.mem_of_getElem? (i := 196) (by decide +kernel)) rfl⟩, by decide, rfl⟩
theorem dX11_limit_16 : Ins mX11_limit 16 (.bipush 9) 2 18 := ⟨by decide +kernel, rfl⟩
theorem dX11_limit_18 : Ins mX11_limit 18 (.iload_n 1) 1 19 := ⟨by decide +kernel, rfl⟩
theorem dX11_limit_19 : Ins mX11_limit 19 (.iastore) 1 20 := ⟨by decide +kernel, rfl⟩
theorem dX11_limit_20 : Ins mX11_limit 20 (.iconst 1) 1 21 := ⟨by decide +kernel, rfl⟩
theorem dX11_limit_21 : Ins mX11_limit 21 (.ireturn) 1 22 := ⟨by decide +kernel, rfl⟩
theorem dX11_four_0 : Ins mX11_four 0 (.bipush 24) 2 2 := ⟨by decide +kernel, rfl⟩
theorem dX11_four_2 : Ins mX11_four 2 (.istore_n 2) 1 3 := ⟨by decide +kernel, rfl⟩
theorem dX11_four_3 : Ins mX11_four 3 (.iload_n 2) 1 4 := ⟨by decide +kernel, rfl⟩
theorem dX11_four_4 : Ins mX11_four 4 (.ifCond .lt 35) 3 7 := ⟨by decide +kernel, rfl⟩
theorem dX11_four_7 : Ins mX11_four 7 (.aload_n 0) 1 8 := ⟨by decide +kernel, rfl⟩
theorem dX11_four_8 : GgR mX11_four 8 11 10 3 := ⟨3, rfl, ⟨19, _, by decide +kernel, rfl, rfl, by decide, tb_5 (List.mem_of_getElem? (i := 199) (by decide +kernel)) rfl⟩, by decide, rfl⟩
theorem dX11_four_11 : Ins mX11_four 11 (.aload_n 0) 1 12 := ⟨by decide +kernel, rfl⟩
theorem dX11_four_12 : GgI mX11_four 12 15 10 4 := ⟨4, rfl, ⟨92, _, by decide +kernel, rfl, rfl, by decide, tb_5 (List.mem_of_getElem? (i := 200) (by decide +kernel)) rfl⟩, by decide, rfl⟩
theorem dX11_four_15 : Ins mX11_four 15 (.iload_n 1) 1 16 := ⟨by decide +kernel, rfl⟩
theorem dX11_four_16 : Ins mX11_four 16 (.iload_n 2) 1 17 := ⟨by decide +kernel, rfl⟩
theorem dX11_four_17 : Ins mX11_four 17 (.ishr) 1 18 := ⟨by decide +kernel, rfl⟩
theorem dX11_four_18 : Ins mX11_four 18 (.sipush 255) 3 21 := ⟨by decide +kernel, rfl⟩
theorem dX11_four_21 : Ins mX11_four 21 (.iand) 1 22 := ⟨by decide +kernel, rfl⟩
theorem dX11_four_22 : Ins mX11_four 22 (.iastore) 1 23 := ⟨by decide +kernel, rfl⟩
theorem dX11_four_23 : Ins mX11_four 23 (.aload_n 0) 1 24 := ⟨by decide +kernel, rfl⟩
theorem dX11_four_24 : Ins mX11_four 24 (.dup) 1 25 := ⟨by decide +kernel, rfl⟩
theorem dX11_four_25 : GgI mX11_four 25 28 10 4 := ⟨4, rfl, ⟨92, _, by decide +kernel, rfl, rfl, by decide, tb_5 (List.mem_of_getElem? (i := 200) (by decide +kernel)) rfl⟩, by decide, rfl⟩
theorem dX11_four_28 : Ins mX11_four 28 (.iconst 1) 1 29 := ⟨by decide +kernel, rfl⟩
theorem dX11_four_29 : Ins mX11_four 29 (.iadd) 1 30 := ⟨by decide +kernel, rfl⟩
theorem dX11_four_30 : GpI mX11_four 30 33 10 4 := ⟨4, rfl, ⟨92, _, by decide +kernel, rfl, rfl, by decide, tb_5 (List.mem_of_getElem? (i := 200) (by decide +kernel)) rfl, by decide +kernel, Or.inl rfl⟩, by decide, rfl⟩
theorem dX11_four_33 : Ins mX11_four 33 (.iinc 2 (-8)) 3 36 := ⟨by decide +kernel, rfl⟩
theorem dX11_four_36 : Ins mX11_four 36 (.goto (-33)) 3 39 := ⟨by decide +kernel, rfl⟩
theorem dX11_four_39 : Ins mX11_four 39 (.return_) 1 40 := ⟨by decide +kernel, rfl⟩
theorem dX11_feed_0 : Ins mX11_feed 0 (.aload_n 0) 1 1 := ⟨by decide +kernel, rfl⟩
theorem dX11_feed_1 : GgI mX11_feed 1 4 10 4 := ⟨4, rfl, ⟨92, _, by decide +kernel, rfl, rfl, by decide, tb_5 (List.mem_of_getElem? (i := 200) (by decide +kernel)) rfl⟩, by decide, rfl⟩
theorem dX11_feed_4 : Ins mX11_feed 4 (.bipush 20) 2 6 := ⟨by decide +kernel, rfl⟩
theorem dX11_feed_6 : Ins mX11_feed 6 (.iadd) 1 7 := ⟨by decide +kernel, rfl⟩
theorem dX11_feed_7 : Ins mX11_feed 7 (.sipush 300) 3 10 := ⟨by decide +kernel, rfl⟩
theorem dX11_feed_10 : Ins mX11_feed 10 (.if_icmp .le 5) 3 13 := ⟨by decide +kernel, rfl⟩
theorem dX11_feed_13 : Ins mX11_feed 13 (.iconst (-1)) 1 14 := ⟨by decide +kernel, rfl⟩
theorem dX11_feed_14 : Ins mX11_feed 14 (.ireturn) 1 15 := ⟨by decide +kernel, rfl⟩
theorem dX11_feed_15 : Ins mX11_feed 15 (.aload_n 0) 1 16 := ⟨by decide +kernel, rfl⟩
theorem dX11_feed_16 : Ins mX11_feed 16 (.iload_n 1) 1 17 := ⟨by decide +kernel, rfl⟩
theorem dX11_feed_17 : CalV mX11_feed 17 20 mX11_four := ⟨95, by decide +kernel, rfl, tb_6 (List.mem_of_getElem? (i := 73) (by decide +kernel)) rfl, meX11_four⟩
theorem dX11_feed_20 : Ins mX11_feed 20 (.aload_n 0) 1 21 := ⟨by decide +kernel, rfl⟩
theorem dX11_feed_21 : Ins mX11_feed 21 (.iload_n 2) 1 22 := ⟨by decide +kernel, rfl⟩
theorem dX11_feed_22 : CalV mX11_feed 22 25 mX11_four := ⟨95, by decide +kernel, rfl, tb_6 (List.mem_of_getElem? (i := 73) (by decide +kernel)) rfl, meX11_four⟩
theorem dX11_feed_25 : Ins mX11_feed 25 (.aload_n 0) 1 26 := ⟨by decide +kernel, rfl⟩
theorem dX11_feed_26 : Ins mX11_feed 26 (.iload_n 3) 1 27 := ⟨by decide +kernel, rfl⟩
theorem dX11_feed_27 : CalV mX11_feed 27 30 mX11_four := ⟨95, by decide +kernel, rfl, tb_6 (List.mem_of_getElem? (i := 73) (by decide +kernel)) rfl, meX11_four⟩
theorem dX11_feed_30 : Ins mX11_feed 30 (.aload_n 0) 1 31 := ⟨by decide +kernel, rfl⟩
theorem dX11_feed_31 : Ins mX11_feed 31 (.iload 4) 2 33 := ⟨by decide +kernel, rfl⟩
theorem dX11_feed_33 : CalV mX11_feed 33 36 mX11_four := ⟨95, by decide +kernel, rfl, tb_6 (List.mem_of_getElem? (i := 73) (by decide +kernel)) rfl, meX11_four⟩
theorem dX11_feed_36 : Ins mX11_feed 36 (.aload_n 0) 1 37 := ⟨by decide +kernel, rfl⟩
theorem dX11_feed_37 : Ins mX11_feed 37 (.iload 5) 2 39 := ⟨by decide +kernel, rfl⟩
theorem dX11_feed_39 : CalV mX11_feed 39 42 mX11_four := ⟨95, by decide +kernel, rfl, tb_6 (List.mem_of_getElem? (i := 73) (by decide +kernel)) rfl, meX11_four⟩
theorem dX11_feed_42 : Ins mX11_feed 42 (.aload_n 0) 1 43 := ⟨by decide +kernel, rfl⟩
theorem dX11_feed_43 : GgI mX11_feed 43 46 10 4 := ⟨4, rfl, ⟨92, _, by decide +kernel, rfl, rfl, by decide, tb_5 (List.mem_of_getElem? (i := 200) (by decide +kernel)) rfl⟩, by decide, rfl⟩
theorem dX11_feed_46 : Ins mX11_feed 46 (.ireturn) 1 47 := ⟨by decide +kernel, rfl⟩
theorem dX11_end_0 : Ins mX11_end 0 (.iload_n 1) 1 1 := ⟨by decide +kernel, rfl⟩
theorem dX11_end_1 : Ins mX11_end 1 (.iconst 0) 1 2 := ⟨by decide +kernel, rfl⟩
theorem dX11_end_2 : Ins mX11_end 2 (.aload_n 0) 1 3 := ⟨by decide +kernel, rfl⟩
theorem dX11_end_3 : GgI mX11_end 3 6 10 4 := ⟨4, rfl, ⟨92, _, by decide +kernel, rfl, rfl, by decide, tb_5 (List.mem_of_getElem? (i := 200) (by decide +kernel)) rfl⟩, by decide, rfl⟩
theorem dX11_end_6 : CalS mX11_end 6 9 mX11_isIn := ⟨63, by decide +kernel, rfl, Or.inl (tb_6 (List.mem_of_getElem? (i := 50) (by decide +kernel)) rfl), meX11_isIn⟩
theorem dX11_end_9 : Ins mX11_end 9 (.ifCond .ne 5) 3 12 := ⟨by decide +kernel, rfl⟩
theorem dX11_end_12 : Ins mX11_end 12 (.iconst (-1)) 1 13 := ⟨by decide +kernel, rfl⟩
theorem dX11_end_13 : Ins mX11_end 13 (.ireturn) 1 14 := ⟨by decide +kernel, rfl⟩
theorem dX11_end_14 : Ins mX11_end 14 (.aload_n 0) 1 15 := ⟨by decide +kernel, rfl⟩
theorem dX11_end_15 : Ins mX11_end 15 (.iload_n 1) 1 16 := ⟨by decide +kernel, rfl⟩
theorem dX11_end_16 : GpI mX11_end 16 19 10 4 := ⟨4, rfl, ⟨92, _, by decide +kernel, rfl, rfl, by decide, tb_5 (List.mem_of_getElem? (i := 200) (by decide +kernel)) rfl, by decide +kernel, Or.inl rfl⟩, by decide, rfl⟩
theorem dX11_end_19 : Ins mX11_end 19 (.iload_n 1) 1 20 := ⟨by decide +kernel, rfl⟩
theorem dX11_end_20 : Ins mX11_end 20 (.ireturn) 1 21 := ⟨by decide +kernel, rfl⟩
theorem dX11_byteAt_0 : Ins mX11_byteAt 0 (.iload_n 1) 1 1 := ⟨by decide +kernel, rfl⟩
theorem dX11_byteAt_1 : Ins mX11_byteAt 1 (.aload_n 0) 1 2 := ⟨by decide +kernel, rfl⟩
theorem dX11_byteAt_2 : GgI mX11_byteAt 2 5 10 4 := ⟨4, rfl, ⟨92, _, by decide +kernel, rfl, rfl, by decide, tb_5 (List.mem_of_getElem? (i := 200) (by decide +kernel)) rfl⟩, by decide, rfl⟩
theorem dX11_byteAt_5 : Ins mX11_byteAt 5 (.if_icmp .ge 12) 3 8 := ⟨by decide +kernel, rfl⟩
theorem dX11_byteAt_8 : Ins mX11_byteAt 8 (.aload_n 0) 1 9 := ⟨by decide +kernel, rfl⟩
theorem dX11_byteAt_9 : GgR mX11_byteAt 9 12 10 3 := ⟨3, rfl, ⟨19, _, by decide +kernel, rfl, rfl, by decide, tb_5 (List.mem_of_getElem? (i := 199) (by decide +kernel)) rfl⟩, by decide, rfl⟩
theorem dX11_byteAt_12 : Ins mX11_byteAt 12 (.iload_n 1) 1 13 := ⟨by decide +kernel, rfl⟩
theorem dX11_byteAt_13 : Ins mX11_byteAt 13 (.iaload) 1 14 := ⟨by decide +kernel, rfl⟩
theorem dX11_byteAt_14 : Ins mX11_byteAt 14 (.goto 4) 3 17 := ⟨by decide +kernel, rfl⟩
theorem dX11_byteAt_17 : Ins mX11_byteAt 17 (.iconst (-1)) 1 18 := ⟨by decide +kernel, rfl⟩
theorem dX11_byteAt_18 : Ins mX11_byteAt 18 (.ireturn) 1 19 := ⟨by decide +kernel, rfl⟩
theorem dX11_isLetterByte_0 : Ins mX11_isLetterByte 0 (.iload_n 0) 1 1 := ⟨by decide +kernel, rfl⟩
theorem dX11_isLetterByte_1 : Ins mX11_isLetterByte 1 (.bipush 97) 2 3 := ⟨by decide +kernel, rfl⟩
theorem dX11_isLetterByte_3 : Ins mX11_isLetterByte 3 (.if_icmp .lt 9) 3 6 := ⟨by decide +kernel, rfl⟩
theorem dX11_isLetterByte_6 : Ins mX11_isLetterByte 6 (.iload_n 0) 1 7 := ⟨by decide +kernel, rfl⟩
theorem dX11_isLetterByte_7 : Ins mX11_isLetterByte 7 (.bipush 122) 2 9 := ⟨by decide +kernel, rfl⟩
theorem dX11_isLetterByte_9 : Ins mX11_isLetterByte 9 (.if_icmp .le 15) 3 12 := ⟨by decide +kernel, rfl⟩
theorem dX11_isLetterByte_12 : Ins mX11_isLetterByte 12 (.iload_n 0) 1 13 := ⟨by decide +kernel, rfl⟩
theorem dX11_isLetterByte_13 : Ins mX11_isLetterByte 13 (.bipush 65) 2 15 := ⟨by decide +kernel, rfl⟩
theorem dX11_isLetterByte_15 : Ins mX11_isLetterByte 15 (.if_icmp .lt 13) 3 18 := ⟨by decide +kernel, rfl⟩
theorem dX11_isLetterByte_18 : Ins mX11_isLetterByte 18 (.iload_n 0) 1 19 := ⟨by decide +kernel, rfl⟩
theorem dX11_isLetterByte_19 : Ins mX11_isLetterByte 19 (.bipush 90) 2 21 := ⟨by decide +kernel, rfl⟩
theorem dX11_isLetterByte_21 : Ins mX11_isLetterByte 21 (.if_icmp .gt 7) 3 24 := ⟨by decide +kernel, rfl⟩
theorem dX11_isLetterByte_24 : Ins mX11_isLetterByte 24 (.iconst 1) 1 25 := ⟨by decide +kernel, rfl⟩
theorem dX11_isLetterByte_25 : Ins mX11_isLetterByte 25 (.goto 4) 3 28 := ⟨by decide +kernel, rfl⟩
theorem dX11_isLetterByte_28 : Ins mX11_isLetterByte 28 (.iconst 0) 1 29 := ⟨by decide +kernel, rfl⟩
theorem dX11_isLetterByte_29 : Ins mX11_isLetterByte 29 (.ireturn) 1 30 := ⟨by decide +kernel, rfl⟩
theorem dX11_isFigure_0 : Ins mX11_isFigure 0 (.iload_n 0) 1 1 := ⟨by decide +kernel, rfl⟩
theorem dX11_isFigure_1 : Ins mX11_isFigure 1 (.bipush 48) 2 3 := ⟨by decide +kernel, rfl⟩
theorem dX11_isFigure_3 : Ins mX11_isFigure 3 (.if_icmp .lt 13) 3 6 := ⟨by decide +kernel, rfl⟩
theorem dX11_isFigure_6 : Ins mX11_isFigure 6 (.iload_n 0) 1 7 := ⟨by decide +kernel, rfl⟩
theorem dX11_isFigure_7 : Ins mX11_isFigure 7 (.bipush 57) 2 9 := ⟨by decide +kernel, rfl⟩
theorem dX11_isFigure_9 : Ins mX11_isFigure 9 (.if_icmp .gt 7) 3 12 := ⟨by decide +kernel, rfl⟩
theorem dX11_isFigure_12 : Ins mX11_isFigure 12 (.iconst 1) 1 13 := ⟨by decide +kernel, rfl⟩
theorem dX11_isFigure_13 : Ins mX11_isFigure 13 (.goto 4) 3 16 := ⟨by decide +kernel, rfl⟩
theorem dX11_isFigure_16 : Ins mX11_isFigure 16 (.iconst 0) 1 17 := ⟨by decide +kernel, rfl⟩
theorem dX11_isFigure_17 : Ins mX11_isFigure 17 (.ireturn) 1 18 := ⟨by decide +kernel, rfl⟩
theorem dX11_isSign_0 : Ins mX11_isSign 0 (.iload_n 0) 1 1 := ⟨by decide +kernel, rfl⟩
theorem dX11_isSign_1 : Ins mX11_isSign 1 (.tableswitch 129 35 62 #[127, 129, 129, 129, 129, 127, 127, 127, 127, 129, 127, 129, 127, 129, 129, 129, 129, 129, 129, 129, 129, 129, 129, 127, 127, 127, 127, 127]) 127 128 := ⟨by decide +kernel, rfl⟩
theorem dX11_isSign_128 : Ins mX11_isSign 128 (.iconst 1) 1 129 := ⟨by decide +kernel, rfl⟩
theorem dX11_isSign_129 : Ins mX11_isSign 129 (.ireturn) 1 130 := ⟨by decide +kernel, rfl⟩
theorem dX11_isSign_130 : Ins mX11_isSign 130 (.iconst 0) 1 131 := ⟨by decide +kernel, rfl⟩
theorem dX11_isSign_131 : Ins mX11_isSign 131 (.ireturn) 1 132 := ⟨by decide +kernel, rfl⟩
theorem dX11_nextToken_0 : Ins mX11_nextToken 0 (.aload_n 0) 1 1 := ⟨by decide +kernel, rfl⟩
theorem dX11_nextToken_1 : Ins mX11_nextToken 1 (.aload_n 0) 1 2 := ⟨by decide +kernel, rfl⟩
theorem dX11_nextToken_2 : GgI mX11_nextToken 2 5 10 7 := ⟨7, rfl, ⟨99, _, by decide +kernel, rfl, rfl, by decide, tb_5 (List.mem_of_getElem? (i := 203) (by decide +kernel)) rfl⟩, by decide, rfl⟩
theorem dX11_nextToken_5 : CalV mX11_nextToken 5 8 mX11_byteAt := ⟨102, by decide +kernel, rfl, tb_6 (List.mem_of_getElem? (i := 93) (by decide +kernel)) rfl, meX11_byteAt⟩
theorem dX11_nextToken_8 : Ins mX11_nextToken 8 (.bipush 32) 2 10 := ⟨by decide +kernel, rfl⟩
theorem dX11_nextToken_10 : Ins mX11_nextToken 10 (.if_icmp .eq 16) 3 13 := ⟨by decide +kernel, rfl⟩
theorem dX11_nextToken_13 : Ins mX11_nextToken 13 (.aload_n 0) 1 14 := ⟨by decide +kernel, rfl⟩
theorem dX11_nextToken_14 : Ins mX11_nextToken 14 (.aload_n 0) 1 15 := ⟨by decide +kernel, rfl⟩
theorem dX11_nextToken_15 : GgI mX11_nextToken 15 18 10 7 := ⟨7, rfl, ⟨99, _, by decide +kernel, rfl, rfl, by decide, tb_5 (List.mem_of_getElem? (i := 203) (by decide +kernel)) rfl⟩, by decide, rfl⟩
theorem dX11_nextToken_18 : CalV mX11_nextToken 18 21 mX11_byteAt := ⟨102, by decide +kernel, rfl, tb_6 (List.mem_of_getElem? (i := 93) (by decide +kernel)) rfl, meX11_byteAt⟩
theorem dX11_nextToken_21 : Ins mX11_nextToken 21 (.bipush 10) 2 23 := ⟨by decide +kernel, rfl⟩
theorem dX11_nextToken_23 : Ins mX11_nextToken 23 (.if_icmp .ne 16) 3 26 := ⟨by decide +kernel, rfl⟩
theorem dX11_nextToken_26 : Ins mX11_nextToken 26 (.aload_n 0) 1 27 := ⟨by decide +kernel, rfl⟩
theorem dX11_nextToken_27 : Ins mX11_nextToken 27 (.dup) 1 28 := ⟨by decide +kernel, rfl⟩
theorem dX11_nextToken_28 : GgI mX11_nextToken 28 31 10 7 := ⟨7, rfl, ⟨99, _, by decide +kernel, rfl, rfl, by decide, tb_5 (List.mem_of_getElem? (i := 203) (by decide +kernel)) rfl⟩, by decide, rfl⟩
theorem dX11_nextToken_31 : Ins mX11_nextToken 31 (.iconst 1) 1 32 := ⟨by decide +kernel, rfl⟩
theorem dX11_nextToken_32 : Ins mX11_nextToken 32 (.iadd) 1 33 := ⟨by decide +kernel, rfl⟩
theorem dX11_nextToken_33 : GpI mX11_nextToken 33 36 10 7 := ⟨7, rfl, ⟨99, _, by decide +kernel, rfl, rfl, by decide, tb_5 (List.mem_of_getElem? (i := 203) (by decide +kernel)) rfl, by decide +kernel, Or.inl rfl⟩, by decide, rfl⟩
theorem dX11_nextToken_36 : Ins mX11_nextToken 36 (.goto (-36)) 3 39 := ⟨by decide +kernel, rfl⟩
theorem dX11_nextToken_39 : Ins mX11_nextToken 39 (.aload_n 0) 1 40 := ⟨by decide +kernel, rfl⟩
theorem dX11_nextToken_40 : Ins mX11_nextToken 40 (.aload_n 0) 1 41 := ⟨by decide +kernel, rfl⟩
theorem dX11_nextToken_41 : GgI mX11_nextToken 41 44 10 7 := ⟨7, rfl, ⟨99, _, by decide +kernel, rfl, rfl, by decide, tb_5 (List.mem_of_getElem? (i := 203) (by decide +kernel)) rfl⟩, by decide, rfl⟩
theorem dX11_nextToken_44 : GpI mX11_nextToken 44 47 10 8 := ⟨8, rfl, ⟨105, _, by decide +kernel, rfl, rfl, by decide, tb_5 (List.mem_of_getElem? (i := 204) (by decide +kernel)) rfl, by decide +kernel, Or.inl rfl⟩, by decide, rfl⟩
theorem dX11_nextToken_47 : Ins mX11_nextToken 47 (.aload_n 0) 1 48 := ⟨by decide +kernel, rfl⟩
theorem dX11_nextToken_48 : Ins mX11_nextToken 48 (.aload_n 0) 1 49 := ⟨by decide +kernel, rfl⟩
theorem dX11_nextToken_49 : GgI mX11_nextToken 49 52 10 7 := ⟨7, rfl, ⟨99, _, by decide +kernel, rfl, rfl, by decide, tb_5 (List.mem_of_getElem? (i := 203) (by decide +kernel)) rfl⟩, by decide, rfl⟩
theorem dX11_nextToken_52 : CalV mX11_nextToken 52 55 mX11_byteAt := ⟨102, by decide +kernel, rfl, tb_6 (List.mem_of_getElem? (i := 93) (by decide +kernel)) rfl, meX11_byteAt⟩
theorem dX11_nextToken_55 : Ins mX11_nextToken 55 (.istore_n 1) 1 56 := ⟨by decide +kernel, rfl⟩
theorem dX11_nextToken_56 : Ins mX11_nextToken 56 (.iload_n 1) 1 57 := ⟨by decide +kernel, rfl⟩
theorem dX11_nextToken_57 : Ins mX11_nextToken 57 (.ifCond .ge 11) 3 60 := ⟨by decide +kernel, rfl⟩
theorem dX11_nextToken_60 : Ins mX11_nextToken 60 (.aload_n 0) 1 61 := ⟨by decide +kernel, rfl⟩
theorem dX11_nextToken_61 : Ins mX11_nextToken 61 (.iconst 0) 1 62 := ⟨by decide +kernel, rfl⟩
theorem dX11_nextToken_62 : GpI mX11_nextToken 62 65 10 9 := ⟨9, rfl, ⟨108, _, by decide +kernel, rfl, rfl, by decide, tb_5 (List.mem_of_getElem? (i := 205) (by decide +kernel)) rfl, by decide +kernel, Or.inl rfl⟩, by decide, rfl⟩
theorem dX11_nextToken_65 : Ins mX11_nextToken 65 (.goto 245) 3 68 := ⟨by decide +kernel, rfl⟩
theorem dX11_nextToken_68 : Ins mX11_nextToken 68 (.iload_n 1) 1 69 := ⟨by decide +kernel, rfl⟩
theorem dX11_nextToken_69 : CalS mX11_nextToken 69 72 mX11_isFigure := ⟨111, by decide +kernel, rfl, Or.inl (tb_6 (List.mem_of_getElem? (i := 97) (by decide +kernel)) rfl), meX11_isFigure⟩
theorem dX11_nextToken_72 : Ins mX11_nextToken 72 (.ifCond .eq 79) 3 75 := ⟨by decide +kernel, rfl⟩
theorem dX11_nextToken_75 : Ins mX11_nextToken 75 (.aload_n 0) 1 76 := ⟨by decide +kernel, rfl⟩
theorem dX11_nextToken_76 : Ins mX11_nextToken 76 (.iconst 1) 1 77 := ⟨by decide +kernel, rfl⟩
theorem dX11_nextToken_77 : GpI mX11_nextToken 77 80 10 9 := ⟨9, rfl, ⟨108, _, by decide +kernel, rfl, rfl, by decide, tb_5 (List.mem_of_getElem? (i := 205) (by decide +kernel)) rfl, by decide +kernel, Or.inl rfl⟩, by decide, rfl⟩
theorem dX11_nextToken_80 : Ins mX11_nextToken 80 (.aload_n 0) 1 81 := ⟨by decide +kernel, rfl⟩
theorem dX11_nextToken_81 : Ins mX11_nextToken 81 (.iconst 0) 1 82 := ⟨by decide +kernel, rfl⟩
theorem dX11_nextToken_82 : GpI mX11_nextToken 82 85 10 10 := ⟨10, rfl, ⟨115, _, by decide +kernel, rfl, rfl, by decide, tb_5 (List.mem_of_getElem? (i := 206) (by decide +kernel)) rfl, by decide +kernel, Or.inl rfl⟩, by decide, rfl⟩
theorem dX11_nextToken_85 : Ins mX11_nextToken 85 (.aload_n 0) 1 86 := ⟨by decide +kernel, rfl⟩
theorem dX11_nextToken_86 : Ins mX11_nextToken 86 (.aload_n 0) 1 87 := ⟨by decide +kernel, rfl⟩
theorem dX11_nextToken_87 : GgI mX11_nextToken 87 90 10 7 := ⟨7, rfl, ⟨99, _, by decide +kernel, rfl, rfl, by decide, tb_5 (List.mem_of_getElem? (i := 203) (by decide +kernel)) rfl⟩, by decide, rfl⟩
theorem dX11_nextToken_90 : CalV mX11_nextToken 90 93 mX11_byteAt := ⟨102, by decide +kernel, rfl, tb_6 (List.mem_of_getElem? (i := 93) (by decide +kernel)) rfl, meX11_byteAt⟩
theorem dX11_nextToken_93 : CalS mX11_nextToken 93 96 mX11_isFigure := ⟨111, by decide +kernel, rfl, Or.inl (tb_6 (List.mem_of_getElem? (i := 97) (by decide +kernel)) rfl), meX11_isFigure⟩
theorem dX11_nextToken_96 : Ins mX11_nextToken 96 (.ifCond .eq 214) 3 99 := ⟨by decide +kernel, rfl⟩
theorem dX11_nextToken_99 : Ins mX11_nextToken 99 (.aload_n 0) 1 100 := ⟨by decide +kernel, rfl⟩
theorem dX11_nextToken_100 : Ins mX11_nextToken 100 (.aload_n 0) 1 101 := ⟨by decide +kernel, rfl⟩
theorem dX11_nextToken_101 : GgI mX11_nextToken 101 104 10 10 := ⟨10, rfl, ⟨115, _, by decide +kernel, rfl, rfl, by decide, tb_5 (List.mem_of_getElem? (i := 206) (by decide +kernel)) rfl⟩, by decide, rfl⟩
theorem dX11_nextToken_104 : LdcI mX11_nextToken 104 106 (99999) := ⟨118, _, Or.inl ⟨by decide +kernel, rfl⟩, tb_6 (List.mem_of_getElem? (i := 100) (by decide +kernel)) rfl, rfl⟩
theorem dX11_nextToken_106 : Ins mX11_nextToken 106 (.if_icmp .le 10) 3 109 := ⟨by decide +kernel, rfl⟩
theorem dX11_nextToken_109 : Ins mX11_nextToken 109 (.aload_n 0) 1 110 := ⟨by decide +kernel, rfl⟩
theorem dX11_nextToken_110 : GgI mX11_nextToken 110 113 10 10 := ⟨10, rfl, ⟨115, _, by decide +kernel, rfl, rfl, by decide, tb_5 (List.mem_of_getElem? (i := 206) (by decide +kernel)) rfl⟩, by decide, rfl⟩
theorem dX11_nextToken_113 : Ins mX11_nextToken 113 (.goto 22) 3 116 := ⟨by decide +kernel, rfl⟩
theorem dX11_nextToken_116 : Ins mX11_nextToken 116 (.bipush 10) 2 118 := ⟨by decide +kernel, rfl⟩
theorem dX11_nextToken_118 : Ins mX11_nextToken 118 (.aload_n 0) 1 119 := ⟨by decide +kernel, rfl⟩
theorem dX11_nextToken_119 : GgI mX11_nextToken 119 122 10 10 := ⟨10, rfl, ⟨115, _, by decide +kernel, rfl, rfl, by decide, tb_5 (List.mem_of_getElem? (i := 206) (by decide +kernel)) rfl⟩, by decide, rfl⟩
theorem dX11_nextToken_122 : Ins mX11_nextToken 122 (.imul) 1 123 := ⟨by decide +kernel, rfl⟩
theorem dX11_nextToken_123 : Ins mX11_nextToken 123 (.aload_n 0) 1 124 := ⟨by decide +kernel, rfl⟩
theorem dX11_nextToken_124 : Ins mX11_nextToken 124 (.aload_n 0) 1 125 := ⟨by decide +kernel, rfl⟩
theorem dX11_nextToken_125 : GgI mX11_nextToken 125 128 10 7 := ⟨7, rfl, ⟨99, _, by decide +kernel, rfl, rfl, by decide, tb_5 (List.mem_of_getElem? (i := 203) (by decide +kernel)) rfl⟩, by decide, rfl⟩
theorem dX11_nextToken_128 : CalV mX11_nextToken 128 131 mX11_byteAt := ⟨102, by decide +kernel, rfl, tb_6 (List.mem_of_getElem? (i := 93) (by decide +kernel)) rfl, meX11_byteAt⟩
theorem dX11_nextToken_131 : Ins mX11_nextToken 131 (.iadd) 1 132 := ⟨by decide +kernel, rfl⟩
theorem dX11_nextToken_132 : Ins mX11_nextToken 132 (.bipush 48) 2 134 := ⟨by decide +kernel, rfl⟩
theorem dX11_nextToken_134 : Ins mX11_nextToken 134 (.isub) 1 135 := ⟨by decide +kernel, rfl⟩
theorem dX11_nextToken_135 : GpI mX11_nextToken 135 138 10 10 := ⟨10, rfl, ⟨115, _, by decide +kernel, rfl, rfl, by decide, tb_5 (List.mem_of_getElem? (i := 206) (by decide +kernel)) rfl, by decide +kernel, Or.inl rfl⟩, by decide, rfl⟩
theorem dX11_nextToken_138 : Ins mX11_nextToken 138 (.aload_n 0) 1 139 := ⟨by decide +kernel, rfl⟩
theorem dX11_nextToken_139 : Ins mX11_nextToken 139 (.dup) 1 140 := ⟨by decide +kernel, rfl⟩
theorem dX11_nextToken_140 : GgI mX11_nextToken 140 143 10 7 := ⟨7, rfl, ⟨99, _, by decide +kernel, rfl, rfl, by decide, tb_5 (List.mem_of_getElem? (i := 203) (by decide +kernel)) rfl⟩, by decide, rfl⟩
theorem dX11_nextToken_143 : Ins mX11_nextToken 143 (.iconst 1) 1 144 := ⟨by decide +kernel, rfl⟩
theorem dX11_nextToken_144 : Ins mX11_nextToken 144 (.iadd) 1 145 := ⟨by decide +kernel, rfl⟩
theorem dX11_nextToken_145 : GpI mX11_nextToken 145 148 10 7 := ⟨7, rfl, ⟨99, _, by decide +kernel, rfl, rfl, by decide, tb_5 (List.mem_of_getElem? (i := 203) (by decide +kernel)) rfl, by decide +kernel, Or.inl rfl⟩, by decide, rfl⟩
theorem dX11_nextToken_148 : Ins mX11_nextToken 148 (.goto (-63)) 3 151 := ⟨by decide +kernel, rfl⟩
theorem dX11_nextToken_151 : Ins mX11_nextToken 151 (.iload_n 1) 1 152 := ⟨by decide +kernel, rfl⟩
theorem dX11_nextToken_152 : CalS mX11_nextToken 152 155 mX11_isLetterByte := ⟨119, by decide +kernel, rfl, Or.inl (tb_6 (List.mem_of_getElem? (i := 101) (by decide +kernel)) rfl), meX11_isLetterByte⟩
theorem dX11_nextToken_155 : Ins mX11_nextToken 155 (.ifCond .eq 79) 3 158 := ⟨by decide +kernel, rfl⟩
theorem dX11_nextToken_158 : Ins mX11_nextToken 158 (.aload_n 0) 1 159 := ⟨by decide +kernel, rfl⟩
theorem dX11_nextToken_159 : Ins mX11_nextToken 159 (.iconst 2) 1 160 := ⟨by decide +kernel, rfl⟩
theorem dX11_nextToken_160 : GpI mX11_nextToken 160 163 10 9 := ⟨9, rfl, ⟨108, _, by decide +kernel, rfl, rfl, by decide, tb_5 (List.mem_of_getElem? (i := 205) (by decide +kernel)) rfl, by decide +kernel, Or.inl rfl⟩, by decide, rfl⟩
theorem dX11_nextToken_163 : Ins mX11_nextToken 163 (.aload_n 0) 1 164 := ⟨by decide +kernel, rfl⟩
theorem dX11_nextToken_164 : Ins mX11_nextToken 164 (.lconst 0) 1 165 := ⟨by decide +kernel, rfl⟩
theorem dX11_nextToken_165 : GpL mX11_nextToken 165 168 10 11 := ⟨11, rfl, ⟨122, _, by decide +kernel, rfl, rfl, by decide, tb_5 (List.mem_of_getElem? (i := 207) (by decide +kernel)) rfl, by decide +kernel, Or.inl rfl⟩, by decide, rfl⟩
theorem dX11_nextToken_168 : Ins mX11_nextToken 168 (.aload_n 0) 1 169 := ⟨by decide +kernel, rfl⟩
theorem dX11_nextToken_169 : Ins mX11_nextToken 169 (.aload_n 0) 1 170 := ⟨by decide +kernel, rfl⟩
theorem dX11_nextToken_170 : GgI mX11_nextToken 170 173 10 7 := ⟨7, rfl, ⟨99, _, by decide +kernel, rfl, rfl, by decide, tb_5 (List.mem_of_getElem? (i := 203) (by decide +kernel)) rfl⟩, by decide, rfl⟩
theorem dX11_nextToken_173 : CalV mX11_nextToken 173 176 mX11_byteAt := ⟨102, by decide +kernel, rfl, tb_6 (List.mem_of_getElem? (i := 93) (by decide +kernel)) rfl, meX11_byteAt⟩
theorem dX11_nextToken_176 : CalS mX11_nextToken 176 179 mX11_isLetterByte := ⟨119, by decide +kernel, rfl, Or.inl (tb_6 (List.mem_of_getElem? (i := 101) (by decide +kernel)) rfl), meX11_isLetterByte⟩
theorem dX11_nextToken_179 : Ins mX11_nextToken 179 (.ifCond .eq 131) 3 182 := ⟨by decide +kernel, rfl⟩
theorem dX11_nextToken_182 : Ins mX11_nextToken 182 (.aload_n 0) 1 183 := ⟨by decide +kernel, rfl⟩
theorem dX11_nextToken_183 : Ins mX11_nextToken 183 (.aload_n 0) 1 184 := ⟨by decide +kernel, rfl⟩
theorem dX11_nextToken_184 : GgL mX11_nextToken 184 187 10 11 := ⟨11, rfl, ⟨122, _, by decide +kernel, rfl, rfl, by decide, tb_5 (List.mem_of_getElem? (i := 207) (by decide +kernel)) rfl⟩, by decide, rfl⟩
theorem dX11_nextToken_187 : Ins mX11_nextToken 187 (.bipush 48) 2 189 := ⟨by decide +kernel, rfl⟩
theorem dX11_nextToken_189 : Ins mX11_nextToken 189 (.lshr) 1 190 := ⟨by decide +kernel, rfl⟩
theorem dX11_nextToken_190 : Ins mX11_nextToken 190 (.lconst 0) 1 191 := ⟨by decide +kernel, rfl⟩
theorem dX11_nextToken_191 : Ins mX11_nextToken 191 (.lcmp) 1 192 := ⟨by decide +kernel, rfl⟩
theorem dX11_nextToken_192 : Ins mX11_nextToken 192 (.ifCond .eq 9) 3 195 := ⟨by decide +kernel, rfl⟩
theorem dX11_nextToken_195 : LdcL mX11_nextToken 195 198 (1152921504606846976) := ⟨126, _, by decide +kernel, rfl, tb_6 (List.mem_of_getElem? (i := 104) (by decide +kernel)) rfl, rfl⟩
theorem dX11_nextToken_198 : Ins mX11_nextToken 198 (.goto 20) 3 201 := ⟨by decide +kernel, rfl⟩
theorem dX11_nextToken_201 : Ins mX11_nextToken 201 (.aload_n 0) 1 202 := ⟨by decide +kernel, rfl⟩
theorem dX11_nextToken_202 : GgL mX11_nextToken 202 205 10 11 := ⟨11, rfl, ⟨122, _, by decide +kernel, rfl, rfl, by decide, tb_5 (List.mem_of_getElem? (i := 207) (by decide +kernel)) rfl⟩, by decide, rfl⟩
theorem dX11_nextToken_205 : Ins mX11_nextToken 205 (.bipush 8) 2 207 := ⟨by decide +kernel, rfl⟩
theorem dX11_nextToken_207 : Ins mX11_nextToken 207 (.lshl) 1 208 := ⟨by decide +kernel, rfl⟩
theorem dX11_nextToken_208 : Ins mX11_nextToken 208 (.aload_n 0) 1 209 := ⟨by decide +kernel, rfl⟩
theorem dX11_nextToken_209 : Ins mX11_nextToken 209 (.aload_n 0) 1 210 := ⟨by decide +kernel, rfl⟩
theorem dX11_nextToken_210 : GgI mX11_nextToken 210 213 10 7 := ⟨7, rfl, ⟨99, _, by decide +kernel, rfl, rfl, by decide, tb_5 (List.mem_of_getElem? (i := 203) (by decide +kernel)) rfl⟩, by decide, rfl⟩
theorem dX11_nextToken_213 : CalV mX11_nextToken 213 216 mX11_byteAt := ⟨102, by decide +kernel, rfl, tb_6 (List.mem_of_getElem? (i := 93) (by decide +kernel)) rfl, meX11_byteAt⟩
theorem dX11_nextToken_216 : Ins mX11_nextToken 216 (.i2l) 1 217 := ⟨by decide +kernel, rfl⟩
theorem dX11_nextToken_217 : Ins mX11_nextToken 217 (.lor) 1 218 := ⟨by decide +kernel, rfl⟩
theorem dX11_nextToken_218 : GpL mX11_nextToken 218 221 10 11 := ⟨11, rfl, ⟨122, _, by decide +kernel, rfl, rfl, by decide, tb_5 (List.mem_of_getElem? (i := 207) (by decide +kernel)) rfl, by decide +kernel, Or.inl rfl⟩, by decide, rfl⟩
theorem dX11_nextToken_221 : Ins mX11_nextToken 221 (.aload_n 0) 1 222 := ⟨by decide +kernel, rfl⟩
theorem dX11_nextToken_222 : Ins mX11_nextToken 222 (.dup) 1 223 := ⟨by decide +kernel, rfl⟩
theorem dX11_nextToken_223 : GgI mX11_nextToken 223 226 10 7 := ⟨7, rfl, ⟨99, _, by decide +kernel, rfl, rfl, by decide, tb_5 (List.mem_of_getElem? (i := 203) (by decide +kernel)) rfl⟩, by decide, rfl⟩
theorem dX11_nextToken_226 : Ins mX11_nextToken 226 (.iconst 1) 1 227 := ⟨by decide +kernel, rfl⟩
theorem dX11_nextToken_227 : Ins mX11_nextToken 227 (.iadd) 1 228 := ⟨by decide +kernel, rfl⟩
theorem dX11_nextToken_228 : GpI mX11_nextToken 228 231 10 7 := ⟨7, rfl, ⟨99, _, by decide +kernel, rfl, rfl, by decide, tb_5 (List.mem_of_getElem? (i := 203) (by decide +kernel)) rfl, by decide +kernel, Or.inl rfl⟩, by decide, rfl⟩
theorem dX11_nextToken_231 : Ins mX11_nextToken 231 (.goto (-63)) 3 234 := ⟨by decide +kernel, rfl⟩
theorem dX11_nextToken_234 : Ins mX11_nextToken 234 (.aload_n 0) 1 235 := ⟨by decide +kernel, rfl⟩
theorem dX11_nextToken_235 : Ins mX11_nextToken 235 (.iload_n 1) 1 236 := ⟨by decide +kernel, rfl⟩
theorem dX11_nextToken_236 : CalS mX11_nextToken 236 239 mX11_isSign := ⟨128, by decide +kernel, rfl, Or.inl (tb_6 (List.mem_of_getElem? (i := 105) (by decide +kernel)) rfl), meX11_isSign⟩
theorem dX11_nextToken_239 : Ins mX11_nextToken 239 (.ifCond .eq 7) 3 242 := ⟨by decide +kernel, rfl⟩
theorem dX11_nextToken_242 : Ins mX11_nextToken 242 (.iload_n 1) 1 243 := ⟨by decide +kernel, rfl⟩
theorem dX11_nextToken_243 : Ins mX11_nextToken 243 (.goto 4) 3 246 := ⟨by decide +kernel, rfl⟩
theorem dX11_nextToken_246 : Ins mX11_nextToken 246 (.iconst 3) 1 247 := ⟨by decide +kernel, rfl⟩
theorem dX11_nextToken_247 : GpI mX11_nextToken 247 250 10 9 := ⟨9, rfl, ⟨108, _, by decide +kernel, rfl, rfl, by decide, tb_5 (List.mem_of_getElem? (i := 205) (by decide +kernel)) rfl, by decide +kernel, Or.inl rfl⟩, by decide, rfl⟩
theorem dX11_nextToken_250 : Ins mX11_nextToken 250 (.aload_n 0) 1 251 := ⟨by decide +kernel, rfl⟩
theorem dX11_nextToken_251 : Ins mX11_nextToken 251 (.dup) 1 252 := ⟨by decide +kernel, rfl⟩
theorem dX11_nextToken_252 : GgI mX11_nextToken 252 255 10 7 := ⟨7, rfl, ⟨99, _, by decide +kernel, rfl, rfl, by decide, tb_5 (List.mem_of_getElem? (i := 203) (by decide +kernel)) rfl⟩, by decide, rfl⟩
theorem dX11_nextToken_255 : Ins mX11_nextToken 255 (.iconst 1) 1 256 := ⟨by decide +kernel, rfl⟩
theorem dX11_nextToken_256 : Ins mX11_nextToken 256 (.iadd) 1 257 := ⟨by decide +kernel, rfl⟩
theorem dX11_nextToken_257 : GpI mX11_nextToken 257 260 10 7 := ⟨7, rfl, ⟨99, _, by decide +kernel, rfl, rfl, by decide, tb_5 (List.mem_of_getElem? (i := 203) (by decide +kernel)) rfl, by decide +kernel, Or.inl rfl⟩, by decide, rfl⟩
theorem dX11_nextToken_260 : Ins mX11_nextToken 260 (.iload_n 1) 1 261 := ⟨by decide +kernel, rfl⟩
theorem dX11_nextToken_261 : Ins mX11_nextToken 261 (.bipush 60) 2 263 := ⟨by decide +kernel, rfl⟩
theorem dX11_nextToken_263 : Ins mX11_nextToken 263 (.if_icmp .eq 9) 3 266 := ⟨by decide +kernel, rfl⟩
theorem dX11_nextToken_266 : Ins mX11_nextToken 266 (.iload_n 1) 1 267 := ⟨by decide +kernel, rfl⟩
theorem dX11_nextToken_267 : Ins mX11_nextToken 267 (.bipush 62) 2 269 := ⟨by decide +kernel, rfl⟩
theorem dX11_nextToken_269 : Ins mX11_nextToken 269 (.if_icmp .ne 41) 3 272 := ⟨by decide +kernel, rfl⟩
theorem dX11_nextToken_272 : Ins mX11_nextToken 272 (.aload_n 0) 1 273 := ⟨by decide +kernel, rfl⟩
theorem dX11_nextToken_273 : Ins mX11_nextToken 273 (.aload_n 0) 1 274 := ⟨by decide +kernel, rfl⟩
theorem dX11_nextToken_274 : GgI mX11_nextToken 274 277 10 7 := ⟨7, rfl, ⟨99, _, by decide +kernel, rfl, rfl, by decide, tb_5 (List.mem_of_getElem? (i := 203) (by decide +kernel)) rfl⟩, by decide, rfl⟩
theorem dX11_nextToken_277 : CalV mX11_nextToken 277 280 mX11_byteAt := ⟨102, by decide +kernel, rfl, tb_6 (List.mem_of_getElem? (i := 93) (by decide +kernel)) rfl, meX11_byteAt⟩
theorem dX11_nextToken_280 : Ins mX11_nextToken 280 (.bipush 61) 2 282 := ⟨by decide +kernel, rfl⟩
theorem dX11_nextToken_282 : Ins mX11_nextToken 282 (.if_icmp .ne 28) 3 285 := ⟨by decide +kernel, rfl⟩
theorem dX11_nextToken_285 : Ins mX11_nextToken 285 (.aload_n 0) 1 286 := ⟨by decide +kernel, rfl⟩
theorem dX11_nextToken_286 : Ins mX11_nextToken 286 (.iload_n 1) 1 287 := ⟨by decide +kernel, rfl⟩
theorem dX11_nextToken_287 : Ins mX11_nextToken 287 (.bipush 60) 2 289 := ⟨by decide +kernel, rfl⟩
theorem dX11_nextToken_289 : Ins mX11_nextToken 289 (.if_icmp .ne 7) 3 292 := ⟨by decide +kernel, rfl⟩
theorem dX11_nextToken_292 : Ins mX11_nextToken 292 (.iconst 4) 1 293 := ⟨by decide +kernel, rfl⟩
theorem dX11_nextToken_293 : Ins mX11_nextToken 293 (.goto 4) 3 296 := ⟨by decide +kernel, rfl⟩
theorem dX11_nextToken_296 : Ins mX11_nextToken 296 (.iconst 5) 1 297 := ⟨by decide +kernel, rfl⟩
theorem dX11_nextToken_297 : GpI mX11_nextToken 297 300 10 9 := ⟨9, rfl, ⟨108, _, by decide +kernel, rfl, rfl, by decide, tb_5 (List.mem_of_getElem? (i := 205) (by decide +kernel)) rfl, by decide +kernel, Or.inl rfl⟩, by decide, rfl⟩
theorem dX11_nextToken_300 : Ins mX11_nextToken 300 (.aload_n 0) 1 301 := ⟨by decide +kernel, rfl⟩
theorem dX11_nextToken_301 : Ins mX11_nextToken 301 (.dup) 1 302 := ⟨by decide +kernel, rfl⟩
theorem dX11_nextToken_302 : GgI mX11_nextToken 302 305 10 7 := ⟨7, rfl, ⟨99, _, by decide +kernel, rfl, rfl, by decide, tb_5 (List.mem_of_getElem? (i := 203) (by decide +kernel)) rfl⟩, by decide, rfl⟩
theorem dX11_nextToken_305 : Ins mX11_nextToken 305 (.iconst 1) 1 306 := ⟨by decide +kernel, rfl⟩
theorem dX11_nextToken_306 : Ins mX11_nextToken 306 (.iadd) 1 307 := ⟨by decide +kernel, rfl⟩
theorem dX11_nextToken_307 : GpI mX11_nextToken 307 310 10 7 := ⟨7, rfl, ⟨99, _, by decide +kernel, rfl, rfl, by decide, tb_5 (List.mem_of_getElem? (i := 203) (by decide +kernel)) rfl, by decide +kernel, Or.inl rfl⟩, by decide, rfl⟩
theorem dX11_nextToken_310 : Ins mX11_nextToken 310 (.return_) 1 311 := ⟨by decide +kernel, rfl⟩
theorem dX11_w2_0 : Ins mX11_w2 0 (.iload_n 0) 1 1 := ⟨by decide +kernel, rfl⟩
theorem dX11_w2_1 : Ins mX11_w2 1 (.i2l) 1 2 := ⟨by decide +kernel, rfl⟩
theorem dX11_w2_2 : Ins mX11_w2 2 (.bipush 8) 2 4 := ⟨by decide +kernel, rfl⟩
theorem dX11_w2_4 : Ins mX11_w2 4 (.lshl) 1 5 := ⟨by decide +kernel, rfl⟩
theorem dX11_w2_5 : Ins mX11_w2 5 (.iload_n 1) 1 6 := ⟨by decide +kernel, rfl⟩
theorem dX11_w2_6 : Ins mX11_w2 6 (.i2l) 1 7 := ⟨by decide +kernel, rfl⟩
theorem dX11_w2_7 : Ins mX11_w2 7 (.lor) 1 8 := ⟨by decide +kernel, rfl⟩
theorem dX11_w2_8 : Ins mX11_w2 8 (.lreturn) 1 9 := ⟨by decide +kernel, rfl⟩
theorem dX11_w3_0 : Ins mX11_w3 0 (.iload_n 0) 1 1 := ⟨by decide +kernel, rfl⟩
theorem dX11_w3_1 : Ins mX11_w3 1 (.iload_n 1) 1 2 := ⟨by decide +kernel, rfl⟩
theorem dX11_w3_2 : CalS mX11_w3 2 5 mX11_w2 := ⟨131, by decide +kernel, rfl, Or.inl (tb_6 (List.mem_of_getElem? (i := 125) (by decide +kernel)) rfl), meX11_w2⟩
theorem dX11_w3_5 : Ins mX11_w3 5 (.bipush 8) 2 7 := ⟨by decide +kernel, rfl⟩
theorem dX11_w3_7 : Ins mX11_w3 7 (.lshl) 1 8 := ⟨by decide +kernel, rfl⟩
theorem dX11_w3_8 : Ins mX11_w3 8 (.iload_n 2) 1 9 := ⟨by decide +kernel, rfl⟩
theorem dX11_w3_9 : Ins mX11_w3 9 (.i2l) 1 10 := ⟨by decide +kernel, rfl⟩
theorem dX11_w3_10 : Ins mX11_w3 10 (.lor) 1 11 := ⟨by decide +kernel, rfl⟩
theorem dX11_w3_11 : Ins mX11_w3 11 (.lreturn) 1 12 := ⟨by decide +kernel, rfl⟩
theorem dX11_w4_0 : Ins mX11_w4 0 (.iload_n 0) 1 1 := ⟨by decide +kernel, rfl⟩
theorem dX11_w4_1 : Ins mX11_w4 1 (.iload_n 1) 1 2 := ⟨by decide +kernel, rfl⟩
theorem dX11_w4_2 : Ins mX11_w4 2 (.iload_n 2) 1 3 := ⟨by decide +kernel, rfl⟩
theorem dX11_w4_3 : CalS mX11_w4 3 6 mX11_w3 := ⟨135, by decide +kernel, rfl, Or.inl (tb_6 (List.mem_of_getElem? (i := 122) (by decide +kernel)) rfl), meX11_w3⟩
theorem dX11_w4_6 : Ins mX11_w4 6 (.bipush 8) 2 8 := ⟨by decide +kernel, rfl⟩
theorem dX11_w4_8 : Ins mX11_w4 8 (.lshl) 1 9 := ⟨by decide +kernel, rfl⟩
theorem dX11_w4_9 : Ins mX11_w4 9 (.iload_n 3) 1 10 := ⟨by decide +kernel, rfl⟩
theorem dX11_w4_10 : Ins mX11_w4 10 (.i2l) 1 11 := ⟨by decide +kernel, rfl⟩
theorem dX11_w4_11 : Ins mX11_w4 11 (.lor) 1 12 := ⟨by decide +kernel, rfl⟩
theorem dX11_w4_12 : Ins mX11_w4 12 (.lreturn) 1 13 := ⟨by decide +kernel, rfl⟩
theorem dX11_w5_0 : Ins mX11_w5 0 (.iload_n 0) 1 1 := ⟨by decide +kernel, rfl⟩
theorem dX11_w5_1 : Ins mX11_w5 1 (.iload_n 1) 1 2 := ⟨by decide +kernel, rfl⟩
theorem dX11_w5_2 : Ins mX11_w5 2 (.iload_n 2) 1 3 := ⟨by decide +kernel, rfl⟩
theorem dX11_w5_3 : Ins mX11_w5 3 (.iload_n 3) 1 4 := ⟨by decide +kernel, rfl⟩
theorem dX11_w5_4 : CalS mX11_w5 4 7 mX11_w4 := ⟨139, by decide +kernel, rfl, Or.inl (tb_6 (List.mem_of_getElem? (i := 119) (by decide +kernel)) rfl), meX11_w4⟩
theorem dX11_w5_7 : Ins mX11_w5 7 (.bipush 8) 2 9 := ⟨by decide +kernel, rfl⟩
theorem dX11_w5_9 : Ins mX11_w5 9 (.lshl) 1 10 := ⟨by decide +kernel, rfl⟩
theorem dX11_w5_10 : Ins mX11_w5 10 (.iload 4) 2 12 := ⟨by decide +kernel, rfl⟩
theorem dX11_w5_12 : Ins mX11_w5 12 (.i2l) 1 13 := ⟨by decide +kernel, rfl⟩
theorem dX11_w5_13 : Ins mX11_w5 13 (.lor) 1 14 := ⟨by decide +kernel, rfl⟩
theorem dX11_w5_14 : Ins mX11_w5 14 (.lreturn) 1 15 := ⟨by decide +kernel, rfl⟩
theorem dX11_w6_0 : Ins mX11_w6 0 (.iload_n 0) 1 1 := ⟨by decide +kernel, rfl⟩
theorem dX11_w6_1 : Ins mX11_w6 1 (.iload_n 1) 1 2 := ⟨by decide +kernel, rfl⟩
theorem dX11_w6_2 : Ins mX11_w6 2 (.iload_n 2) 1 3 := ⟨by decide +kernel, rfl⟩
theorem dX11_w6_3 : Ins mX11_w6 3 (.iload_n 3) 1 4 := ⟨by decide +kernel, rfl⟩
theorem dX11_w6_4 : Ins mX11_w6 4 (.iload 4) 2 6 := ⟨by decide +kernel, rfl⟩
theorem dX11_w6_6 : CalS mX11_w6 6 9 mX11_w5 := ⟨143, by decide +kernel, rfl, Or.inl (tb_6 (List.mem_of_getElem? (i := 116) (by decide +kernel)) rfl), meX11_w5⟩
theorem dX11_w6_9 : Ins mX11_w6 9 (.bipush 8) 2 11 := ⟨by decide +kernel, rfl⟩
theorem dX11_w6_11 : Ins mX11_w6 11 (.lshl) 1 12 := ⟨by decide +kernel, rfl⟩
theorem dX11_w6_12 : Ins mX11_w6 12 (.iload 5) 2 14 := ⟨by decide +kernel, rfl⟩
theorem dX11_w6_14 : Ins mX11_w6 14 (.i2l) 1 15 := ⟨by decide +kernel, rfl⟩
theorem dX11_w6_15 : Ins mX11_w6 15 (.lor) 1 16 := ⟨by decide +kernel, rfl⟩
theorem dX11_w6_16 : Ins mX11_w6 16 (.lreturn) 1 17 := ⟨by decide +kernel, rfl⟩
theorem dX11_isWord_0 : Ins mX11_isWord 0 (.aload_n 0) 1 1 := ⟨by decide +kernel, rfl⟩
theorem dX11_isWord_1 : GgI mX11_isWord 1 4 10 9 := ⟨9, rfl, ⟨108, _, by decide +kernel, rfl, rfl, by decide, tb_5 (List.mem_of_getElem? (i := 205) (by decide +kernel)) rfl⟩, by decide, rfl⟩
theorem dX11_isWord_4 : Ins mX11_isWord 4 (.iconst 2) 1 5 := ⟨by decide +kernel, rfl⟩
theorem dX11_isWord_5 : Ins mX11_isWord 5 (.if_icmp .ne 16) 3 8 := ⟨by decide +kernel, rfl⟩
theorem dX11_isWord_8 : Ins mX11_isWord 8 (.aload_n 0) 1 9 := ⟨by decide +kernel, rfl⟩
theorem dX11_isWord_9 : GgL mX11_isWord 9 12 10 11 := ⟨11, rfl, ⟨122, _, by decide +kernel, rfl, rfl, by decide, tb_5 (List.mem_of_getElem? (i := 207) (by decide +kernel)) rfl⟩, by decide, rfl⟩
theorem dX11_isWord_12 : Ins mX11_isWord 12 (.lload_n 1) 1 13 := ⟨by decide +kernel, rfl⟩
theorem dX11_isWord_13 : Ins mX11_isWord 13 (.lcmp) 1 14 := ⟨by decide +kernel, rfl⟩
theorem dX11_isWord_14 : Ins mX11_isWord 14 (.ifCond .ne 7) 3 17 := ⟨by decide +kernel, rfl⟩
theorem dX11_isWord_17 : Ins mX11_isWord 17 (.iconst 1) 1 18 := ⟨by decide +kernel, rfl⟩
theorem dX11_isWord_18 : Ins mX11_isWord 18 (.goto 4) 3 21 := ⟨by decide +kernel, rfl⟩
theorem dX11_isWord_21 : Ins mX11_isWord 21 (.iconst 0) 1 22 := ⟨by decide +kernel, rfl⟩
theorem dX11_isWord_22 : Ins mX11_isWord 22 (.ireturn) 1 23 := ⟨by decide +kernel, rfl⟩
theorem dX11_emit_0 : Ins mX11_emit 0 (.aload_n 0) 1 1 := ⟨by decide +kernel, rfl⟩
theorem dX11_emit_1 : GgR mX11_emit 1 4 10 2 := ⟨2, rfl, ⟨16, _, by decide +kernel, rfl, rfl, by decide, tb_5 (List.mem_of_getElem? (i := 198) (by decide +kernel)) rfl⟩, by decide, rfl⟩
theorem dX11_emit_4 : Ins mX11_emit 4 (.aload_n 0) 1 5 := ⟨by decide +kernel, rfl⟩
theorem dX11_emit_5 : GgI mX11_emit 5 8 10 12 := ⟨12, rfl, ⟨147, _, by decide +kernel, rfl, rfl, by decide, tb_5 (List.mem_of_getElem? (i := 208) (by decide +kernel)) rfl⟩, by decide, rfl⟩
theorem dX11_emit_8 : Ins mX11_emit 8 (.bipush 97) 2 10 := ⟨by decide +kernel, rfl⟩
theorem dX11_emit_10 : Ins mX11_emit 10 (.iadd) 1 11 := ⟨by decide +kernel, rfl⟩
theorem dX11_emit_11 : Ins mX11_emit 11 (.iconst 2) 1 12 := ⟨by decide +kernel, rfl⟩
theorem dX11_emit_12 : Ins mX11_emit 12 (.aload_n 0) 1 13 := ⟨by decide +kernel, rfl⟩
theorem dX11_emit_13 : GgI mX11_emit 13 16 10 13 := ⟨13, rfl, ⟨150, _, by decide +kernel, rfl, rfl, by decide, tb_5 (List.mem_of_getElem? (i := 209) (by decide +kernel)) rfl⟩, by decide, rfl⟩
theorem dX11_emit_16 : Ins mX11_emit 16 (.imul) 1 17 := ⟨by decide +kernel, rfl⟩
theorem dX11_emit_17 : Ins mX11_emit 17 (.iadd) 1 18 := ⟨by decide +kernel, rfl⟩
theorem dX11_emit_18 : Ins mX11_emit 18 (.iload_n 1) 1 19 := ⟨by decide +kernel, rfl⟩
theorem dX11_emit_19 : Ins mX11_emit 19 (.iastore) 1 20 := ⟨by decide +kernel, rfl⟩
theorem dX11_emit_20 : Ins mX11_emit 20 (.aload_n 0) 1 21 := ⟨by decide +kernel, rfl⟩
theorem dX11_emit_21 : GgR mX11_emit 21 24 10 2 := ⟨2, rfl, ⟨16, _, by decide +kernel, rfl, rfl, by decide, tb_5 (List.mem_of_getElem? (i := 198) (by decide +kernel)) rfl⟩, by decide, rfl⟩
theorem dX11_emit_24 : Ins mX11_emit 24 (.aload_n 0) 1 25 := ⟨by decide +kernel, rfl⟩
theorem dX11_emit_25 : GgI mX11_emit 25 28 10 12 := ⟨12, rfl, ⟨147, _, by decide +kernel, rfl, rfl, by decide, tb_5 (List.mem_of_getElem? (i := 208) (by decide +kernel)) rfl⟩, by decide, rfl⟩
theorem dX11_emit_28 : Ins mX11_emit 28 (.bipush 97) 2 30 := ⟨by decide +kernel, rfl⟩
theorem dX11_emit_30 : Ins mX11_emit 30 (.iadd) 1 31 := ⟨by decide +kernel, rfl⟩
theorem dX11_emit_31 : Ins mX11_emit 31 (.iconst 2) 1 32 := ⟨by decide +kernel, rfl⟩
theorem dX11_emit_32 : Ins mX11_emit 32 (.aload_n 0) 1 33 := ⟨by decide +kernel, rfl⟩
theorem dX11_emit_33 : GgI mX11_emit 33 36 10 13 := ⟨13, rfl, ⟨150, _, by decide +kernel, rfl, rfl, by decide, tb_5 (List.mem_of_getElem? (i := 209) (by decide +kernel)) rfl⟩, by decide, rfl⟩
theorem dX11_emit_36 : Ins mX11_emit 36 (.imul) 1 37 := ⟨by decide +kernel, rfl⟩
theorem dX11_emit_37 : Ins mX11_emit 37 (.iadd) 1 38 := ⟨by decide +kernel, rfl⟩
theorem dX11_emit_38 : Ins mX11_emit 38 (.iconst 1) 1 39 := ⟨by decide +kernel, rfl⟩
theorem dX11_emit_39 : Ins mX11_emit 39 (.iadd) 1 40 := ⟨by decide +kernel, rfl⟩
theorem dX11_emit_40 : Ins mX11_emit 40 (.iload_n 2) 1 41 := ⟨by decide +kernel, rfl⟩
theorem dX11_emit_41 : Ins mX11_emit 41 (.iastore) 1 42 := ⟨by decide +kernel, rfl⟩
theorem dX11_emit_42 : Ins mX11_emit 42 (.aload_n 0) 1 43 := ⟨by decide +kernel, rfl⟩
theorem dX11_emit_43 : Ins mX11_emit 43 (.dup) 1 44 := ⟨by decide +kernel, rfl⟩
theorem dX11_emit_44 : GgI mX11_emit 44 47 10 13 := ⟨13, rfl, ⟨150, _, by decide +kernel, rfl, rfl, by decide, tb_5 (List.mem_of_getElem? (i := 209) (by decide +kernel)) rfl⟩, by decide, rfl⟩
theorem dX11_emit_47 : Ins mX11_emit 47 (.iconst 1) 1 48 := ⟨by decide +kernel, rfl⟩
theorem dX11_emit_48 : Ins mX11_emit 48 (.iadd) 1 49 := ⟨by decide +kernel, rfl⟩
theorem dX11_emit_49 : GpI mX11_emit 49 52 10 13 := ⟨13, rfl, ⟨150, _, by decide +kernel, rfl, rfl, by decide, tb_5 (List.mem_of_getElem? (i := 209) (by decide +kernel)) rfl, by decide +kernel, Or.inl rfl⟩, by decide, rfl⟩
theorem dX11_emit_52 : Ins mX11_emit 52 (.return_) 1 53 := ⟨by decide +kernel, rfl⟩
theorem dX11_isRocking_0 : Ins mX11_isRocking 0 (.aload_n 0) 1 1 := ⟨by decide +kernel, rfl⟩
theorem dX11_isRocking_1 : GgI mX11_isRocking 1 4 10 9 := ⟨9, rfl, ⟨108, _, by decide +kernel, rfl, rfl, by decide, tb_5 (List.mem_of_getElem? (i := 205) (by decide +kernel)) rfl⟩, by decide, rfl⟩
theorem dX11_isRocking_4 : Ins mX11_isRocking 4 (.iconst 2) 1 5 := ⟨by decide +kernel, rfl⟩
theorem dX11_isRocking_5 : Ins mX11_isRocking 5 (.if_icmp .ne 124) 3 8 := ⟨by decide +kernel, rfl⟩
theorem dX11_isRocking_8 : Ins mX11_isRocking 8 (.aload_n 0) 1 9 := ⟨by decide +kernel, rfl⟩
theorem dX11_isRocking_9 : GgI mX11_isRocking 9 12 10 7 := ⟨7, rfl, ⟨99, _, by decide +kernel, rfl, rfl, by decide, tb_5 (List.mem_of_getElem? (i := 203) (by decide +kernel)) rfl⟩, by decide, rfl⟩
theorem dX11_isRocking_12 : Ins mX11_isRocking 12 (.aload_n 0) 1 13 := ⟨by decide +kernel, rfl⟩
theorem dX11_isRocking_13 : GgI mX11_isRocking 13 16 10 8 := ⟨8, rfl, ⟨105, _, by decide +kernel, rfl, rfl, by decide, tb_5 (List.mem_of_getElem? (i := 204) (by decide +kernel)) rfl⟩, by decide, rfl⟩
theorem dX11_isRocking_16 : Ins mX11_isRocking 16 (.isub) 1 17 := ⟨by decide +kernel, rfl⟩
theorem dX11_isRocking_17 : Ins mX11_isRocking 17 (.bipush 7) 2 19 := ⟨by decide +kernel, rfl⟩
theorem dX11_isRocking_19 : Ins mX11_isRocking 19 (.if_icmp .ne 110) 3 22 := ⟨by decide +kernel, rfl⟩
theorem dX11_isRocking_22 : Ins mX11_isRocking 22 (.aload_n 0) 1 23 := ⟨by decide +kernel, rfl⟩
theorem dX11_isRocking_23 : Ins mX11_isRocking 23 (.aload_n 0) 1 24 := ⟨by decide +kernel, rfl⟩
theorem dX11_isRocking_24 : GgI mX11_isRocking 24 27 10 8 := ⟨8, rfl, ⟨105, _, by decide +kernel, rfl, rfl, by decide, tb_5 (List.mem_of_getElem? (i := 204) (by decide +kernel)) rfl⟩, by decide, rfl⟩
theorem dX11_isRocking_27 : CalV mX11_isRocking 27 30 mX11_byteAt := ⟨102, by decide +kernel, rfl, tb_6 (List.mem_of_getElem? (i := 93) (by decide +kernel)) rfl, meX11_byteAt⟩
theorem dX11_isRocking_30 : Ins mX11_isRocking 30 (.aload_n 0) 1 31 := ⟨by decide +kernel, rfl⟩
theorem dX11_isRocking_31 : Ins mX11_isRocking 31 (.aload_n 0) 1 32 := ⟨by decide +kernel, rfl⟩
theorem dX11_isRocking_32 : GgI mX11_isRocking 32 35 10 8 := ⟨8, rfl, ⟨105, _, by decide +kernel, rfl, rfl, by decide, tb_5 (List.mem_of_getElem? (i := 204) (by decide +kernel)) rfl⟩, by decide, rfl⟩
theorem dX11_isRocking_35 : Ins mX11_isRocking 35 (.iconst 1) 1 36 := ⟨by decide +kernel, rfl⟩
theorem dX11_isRocking_36 : Ins mX11_isRocking 36 (.iadd) 1 37 := ⟨by decide +kernel, rfl⟩
theorem dX11_isRocking_37 : CalV mX11_isRocking 37 40 mX11_byteAt := ⟨102, by decide +kernel, rfl, tb_6 (List.mem_of_getElem? (i := 93) (by decide +kernel)) rfl, meX11_byteAt⟩
theorem dX11_isRocking_40 : Ins mX11_isRocking 40 (.aload_n 0) 1 41 := ⟨by decide +kernel, rfl⟩
theorem dX11_isRocking_41 : Ins mX11_isRocking 41 (.aload_n 0) 1 42 := ⟨by decide +kernel, rfl⟩
theorem dX11_isRocking_42 : GgI mX11_isRocking 42 45 10 8 := ⟨8, rfl, ⟨105, _, by decide +kernel, rfl, rfl, by decide, tb_5 (List.mem_of_getElem? (i := 204) (by decide +kernel)) rfl⟩, by decide, rfl⟩
theorem dX11_isRocking_45 : Ins mX11_isRocking 45 (.iconst 2) 1 46 := ⟨by decide +kernel, rfl⟩
theorem dX11_isRocking_46 : Ins mX11_isRocking 46 (.iadd) 1 47 := ⟨by decide +kernel, rfl⟩
theorem dX11_isRocking_47 : CalV mX11_isRocking 47 50 mX11_byteAt := ⟨102, by decide +kernel, rfl, tb_6 (List.mem_of_getElem? (i := 93) (by decide +kernel)) rfl, meX11_byteAt⟩
theorem dX11_isRocking_50 : Ins mX11_isRocking 50 (.aload_n 0) 1 51 := ⟨by decide +kernel, rfl⟩
theorem dX11_isRocking_51 : Ins mX11_isRocking 51 (.aload_n 0) 1 52 := ⟨by decide +kernel, rfl⟩
theorem dX11_isRocking_52 : GgI mX11_isRocking 52 55 10 8 := ⟨8, rfl, ⟨105, _, by decide +kernel, rfl, rfl, by decide, tb_5 (List.mem_of_getElem? (i := 204) (by decide +kernel)) rfl⟩, by decide, rfl⟩
theorem dX11_isRocking_55 : Ins mX11_isRocking 55 (.iconst 3) 1 56 := ⟨by decide +kernel, rfl⟩
theorem dX11_isRocking_56 : Ins mX11_isRocking 56 (.iadd) 1 57 := ⟨by decide +kernel, rfl⟩
theorem dX11_isRocking_57 : CalV mX11_isRocking 57 60 mX11_byteAt := ⟨102, by decide +kernel, rfl, tb_6 (List.mem_of_getElem? (i := 93) (by decide +kernel)) rfl, meX11_byteAt⟩
theorem dX11_isRocking_60 : CalS mX11_isRocking 60 63 mX11_w4 := ⟨139, by decide +kernel, rfl, Or.inl (tb_6 (List.mem_of_getElem? (i := 119) (by decide +kernel)) rfl), meX11_w4⟩
theorem dX11_isRocking_63 : Ins mX11_isRocking 63 (.bipush 114) 2 65 := ⟨by decide +kernel, rfl⟩
theorem dX11_isRocking_65 : Ins mX11_isRocking 65 (.bipush 111) 2 67 := ⟨by decide +kernel, rfl⟩
theorem dX11_isRocking_67 : Ins mX11_isRocking 67 (.bipush 99) 2 69 := ⟨by decide +kernel, rfl⟩
theorem dX11_isRocking_69 : Ins mX11_isRocking 69 (.bipush 107) 2 71 := ⟨by decide +kernel, rfl⟩
theorem dX11_isRocking_71 : CalS mX11_isRocking 71 74 mX11_w4 := ⟨139, by decide +kernel, rfl, Or.inl (tb_6 (List.mem_of_getElem? (i := 119) (by decide +kernel)) rfl), meX11_w4⟩
theorem dX11_isRocking_74 : Ins mX11_isRocking 74 (.lcmp) 1 75 := ⟨by decide +kernel, rfl⟩
theorem dX11_isRocking_75 : Ins mX11_isRocking 75 (.ifCond .ne 54) 3 78 := ⟨by decide +kernel, rfl⟩
theorem dX11_isRocking_78 : Ins mX11_isRocking 78 (.aload_n 0) 1 79 := ⟨by decide +kernel, rfl⟩
theorem dX11_isRocking_79 : Ins mX11_isRocking 79 (.aload_n 0) 1 80 := ⟨by decide +kernel, rfl⟩
theorem dX11_isRocking_80 : GgI mX11_isRocking 80 83 10 8 := ⟨8, rfl, ⟨105, _, by decide +kernel, rfl, rfl, by decide, tb_5 (List.mem_of_getElem? (i := 204) (by decide +kernel)) rfl⟩, by decide, rfl⟩
theorem dX11_isRocking_83 : Ins mX11_isRocking 83 (.iconst 4) 1 84 := ⟨by decide +kernel, rfl⟩
theorem dX11_isRocking_84 : Ins mX11_isRocking 84 (.iadd) 1 85 := ⟨by decide +kernel, rfl⟩
theorem dX11_isRocking_85 : CalV mX11_isRocking 85 88 mX11_byteAt := ⟨102, by decide +kernel, rfl, tb_6 (List.mem_of_getElem? (i := 93) (by decide +kernel)) rfl, meX11_byteAt⟩
theorem dX11_isRocking_88 : Ins mX11_isRocking 88 (.aload_n 0) 1 89 := ⟨by decide +kernel, rfl⟩
theorem dX11_isRocking_89 : Ins mX11_isRocking 89 (.aload_n 0) 1 90 := ⟨by decide +kernel, rfl⟩
theorem dX11_isRocking_90 : GgI mX11_isRocking 90 93 10 8 := ⟨8, rfl, ⟨105, _, by decide +kernel, rfl, rfl, by decide, tb_5 (List.mem_of_getElem? (i := 204) (by decide +kernel)) rfl⟩, by decide, rfl⟩
theorem dX11_isRocking_93 : Ins mX11_isRocking 93 (.iconst 5) 1 94 := ⟨by decide +kernel, rfl⟩
theorem dX11_isRocking_94 : Ins mX11_isRocking 94 (.iadd) 1 95 := ⟨by decide +kernel, rfl⟩
theorem dX11_isRocking_95 : CalV mX11_isRocking 95 98 mX11_byteAt := ⟨102, by decide +kernel, rfl, tb_6 (List.mem_of_getElem? (i := 93) (by decide +kernel)) rfl, meX11_byteAt⟩
theorem dX11_isRocking_98 : Ins mX11_isRocking 98 (.aload_n 0) 1 99 := ⟨by decide +kernel, rfl⟩
theorem dX11_isRocking_99 : Ins mX11_isRocking 99 (.aload_n 0) 1 100 := ⟨by decide +kernel, rfl⟩
theorem dX11_isRocking_100 : GgI mX11_isRocking 100 103 10 8 := ⟨8, rfl, ⟨105, _, by decide +kernel, rfl, rfl, by decide, tb_5 (List.mem_of_getElem? (i := 204) (by decide +kernel)) rfl⟩, by decide, rfl⟩
theorem dX11_isRocking_103 : Ins mX11_isRocking 103 (.bipush 6) 2 105 := ⟨by decide +kernel, rfl⟩
theorem dX11_isRocking_105 : Ins mX11_isRocking 105 (.iadd) 1 106 := ⟨by decide +kernel, rfl⟩
theorem dX11_isRocking_106 : CalV mX11_isRocking 106 109 mX11_byteAt := ⟨102, by decide +kernel, rfl, tb_6 (List.mem_of_getElem? (i := 93) (by decide +kernel)) rfl, meX11_byteAt⟩
theorem dX11_isRocking_109 : CalS mX11_isRocking 109 112 mX11_w3 := ⟨135, by decide +kernel, rfl, Or.inl (tb_6 (List.mem_of_getElem? (i := 122) (by decide +kernel)) rfl), meX11_w3⟩
theorem dX11_isRocking_112 : Ins mX11_isRocking 112 (.bipush 105) 2 114 := ⟨by decide +kernel, rfl⟩
theorem dX11_isRocking_114 : Ins mX11_isRocking 114 (.bipush 110) 2 116 := ⟨by decide +kernel, rfl⟩
theorem dX11_isRocking_116 : Ins mX11_isRocking 116 (.bipush 103) 2 118 := ⟨by decide +kernel, rfl⟩
theorem dX11_isRocking_118 : CalS mX11_isRocking 118 121 mX11_w3 := ⟨135, by decide +kernel, rfl, Or.inl (tb_6 (List.mem_of_getElem? (i := 122) (by decide +kernel)) rfl), meX11_w3⟩
theorem dX11_isRocking_121 : Ins mX11_isRocking 121 (.lcmp) 1 122 := ⟨by decide +kernel, rfl⟩
theorem dX11_isRocking_122 : Ins mX11_isRocking 122 (.ifCond .ne 7) 3 125 := ⟨by decide +kernel, rfl⟩
theorem dX11_isRocking_125 : Ins mX11_isRocking 125 (.iconst 1) 1 126 := ⟨by decide +kernel, rfl⟩
theorem dX11_isRocking_126 : Ins mX11_isRocking 126 (.goto 4) 3 129 := ⟨by decide +kernel, rfl⟩
theorem dX11_isRocking_129 : Ins mX11_isRocking 129 (.iconst 0) 1 130 := ⟨by decide +kernel, rfl⟩
theorem dX11_isRocking_130 : Ins mX11_isRocking 130 (.ireturn) 1 131 := ⟨by decide +kernel, rfl⟩
theorem dX11_nameOf_0 : Ins mX11_nameOf 0 (.aload_n 0) 1 1 := ⟨by decide +kernel, rfl⟩
theorem dX11_nameOf_1 : GgI mX11_nameOf 1 4 10 9 := ⟨9, rfl, ⟨108, _, by decide +kernel, rfl, rfl, by decide, tb_5 (List.mem_of_getElem? (i := 205) (by decide +kernel)) rfl⟩, by decide, rfl⟩
theorem dX11_nameOf_4 : Ins mX11_nameOf 4 (.iconst 2) 1 5 := ⟨by decide +kernel, rfl⟩
theorem dX11_nameOf_5 : Ins mX11_nameOf 5 (.if_icmp .eq 5) 3 8 := ⟨by decide +kernel, rfl⟩
theorem dX11_nameOf_8 : Ins mX11_nameOf 8 (.iconst (-1)) 1 9 := ⟨by decide +kernel, rfl⟩
theorem dX11_nameOf_9 : Ins mX11_nameOf 9 (.ireturn) 1 10 := ⟨by decide +kernel, rfl⟩
theorem dX11_nameOf_10 : Ins mX11_nameOf 10 (.aload_n 0) 1 11 := ⟨by decide +kernel, rfl⟩
theorem dX11_nameOf_11 : GgL mX11_nameOf 11 14 10 11 := ⟨11, rfl, ⟨122, _, by decide +kernel, rfl, rfl, by decide, tb_5 (List.mem_of_getElem? (i := 207) (by decide +kernel)) rfl⟩, by decide, rfl⟩
theorem dX11_nameOf_14 : Ins mX11_nameOf 14 (.bipush 109) 2 16 := ⟨by decide +kernel, rfl⟩
theorem dX11_nameOf_16 : Ins mX11_nameOf 16 (.bipush 105) 2 18 := ⟨by decide +kernel, rfl⟩
theorem dX11_nameOf_18 : Ins mX11_nameOf 18 (.bipush 110) 2 20 := ⟨by decide +kernel, rfl⟩
theorem dX11_nameOf_20 : Ins mX11_nameOf 20 (.bipush 117) 2 22 := ⟨by decide +kernel, rfl⟩
theorem dX11_nameOf_22 : Ins mX11_nameOf 22 (.bipush 116) 2 24 := ⟨by decide +kernel, rfl⟩
theorem dX11_nameOf_24 : Ins mX11_nameOf 24 (.bipush 101) 2 26 := ⟨by decide +kernel, rfl⟩
theorem dX11_nameOf_26 : CalS mX11_nameOf 26 29 mX11_w6 := ⟨153, by decide +kernel, rfl, Or.inl (tb_6 (List.mem_of_getElem? (i := 132) (by decide +kernel)) rfl), meX11_w6⟩
theorem dX11_nameOf_29 : Ins mX11_nameOf 29 (.lcmp) 1 30 := ⟨by decide +kernel, rfl⟩
theorem dX11_nameOf_30 : Ins mX11_nameOf 30 (.ifCond .ne 5) 3 33 := ⟨by decide +kernel, rfl⟩
theorem dX11_nameOf_33 : Ins mX11_nameOf 33 (.iconst 0) 1 34 := ⟨by decide +kernel, rfl⟩
theorem dX11_nameOf_34 : Ins mX11_nameOf 34 (.ireturn) 1 35 := ⟨by decide +kernel, rfl⟩
theorem dX11_nameOf_35 : Ins mX11_nameOf 35 (.aload_n 0) 1 36 := ⟨by decide +kernel, rfl⟩
theorem dX11_nameOf_36 : GgL mX11_nameOf 36 39 10 11 := ⟨11, rfl, ⟨122, _, by decide +kernel, rfl, rfl, by decide, tb_5 (List.mem_of_getElem? (i := 207) (by decide +kernel)) rfl⟩, by decide, rfl⟩
theorem dX11_nameOf_39 : Ins mX11_nameOf 39 (.bipush 115) 2 41 := ⟨by decide +kernel, rfl⟩
theorem dX11_nameOf_41 : Ins mX11_nameOf 41 (.bipush 110) 2 43 := ⟨by decide +kernel, rfl⟩
theorem dX11_nameOf_43 : Ins mX11_nameOf 43 (.bipush 111) 2 45 := ⟨by decide +kernel, rfl⟩
theorem dX11_nameOf_45 : Ins mX11_nameOf 45 (.bipush 119) 2 47 := ⟨by decide +kernel, rfl⟩
theorem dX11_nameOf_47 : CalS mX11_nameOf 47 50 mX11_w4 := ⟨139, by decide +kernel, rfl, Or.inl (tb_6 (List.mem_of_getElem? (i := 119) (by decide +kernel)) rfl), meX11_w4⟩
theorem dX11_nameOf_50 : Ins mX11_nameOf 50 (.lcmp) 1 51 := ⟨by decide +kernel, rfl⟩
theorem dX11_nameOf_51 : Ins mX11_nameOf 51 (.ifCond .ne 5) 3 54 := ⟨by decide +kernel, rfl⟩
theorem dX11_nameOf_54 : Ins mX11_nameOf 54 (.iconst 1) 1 55 := ⟨by decide +kernel, rfl⟩
theorem dX11_nameOf_55 : Ins mX11_nameOf 55 (.ireturn) 1 56 := ⟨by decide +kernel, rfl⟩
theorem dX11_nameOf_56 : Ins mX11_nameOf 56 (.aload_n 0) 1 57 := ⟨by decide +kernel, rfl⟩
theorem dX11_nameOf_57 : CalV mX11_nameOf 57 60 mX11_isRocking := ⟨157, by decide +kernel, rfl, tb_6 (List.mem_of_getElem? (i := 205) (by decide +kernel)) rfl, meX11_isRocking⟩
theorem dX11_nameOf_60 : Ins mX11_nameOf 60 (.ifCond .eq 5) 3 63 := ⟨by decide +kernel, rfl⟩
theorem dX11_nameOf_63 : Ins mX11_nameOf 63 (.iconst 2) 1 64 := ⟨by decide +kernel, rfl⟩
theorem dX11_nameOf_64 : Ins mX11_nameOf 64 (.ireturn) 1 65 := ⟨by decide +kernel, rfl⟩
theorem dX11_nameOf_65 : Ins mX11_nameOf 65 (.aload_n 0) 1 66 := ⟨by decide +kernel, rfl⟩
theorem dX11_nameOf_66 : GgL mX11_nameOf 66 69 10 11 := ⟨11, rfl, ⟨122, _, by decide +kernel, rfl, rfl, by decide, tb_5 (List.mem_of_getElem? (i := 207) (by decide +kernel)) rfl⟩, by decide, rfl⟩
theorem dX11_nameOf_69 : Ins mX11_nameOf 69 (.bipush 104) 2 71 := ⟨by decide +kernel, rfl⟩
theorem dX11_nameOf_71 : Ins mX11_nameOf 71 (.bipush 111) 2 73 := ⟨by decide +kernel, rfl⟩
theorem dX11_nameOf_73 : Ins mX11_nameOf 73 (.bipush 114) 2 75 := ⟨by decide +kernel, rfl⟩
theorem dX11_nameOf_75 : Ins mX11_nameOf 75 (.bipush 115) 2 77 := ⟨by decide +kernel, rfl⟩
theorem dX11_nameOf_77 : Ins mX11_nameOf 77 (.bipush 101) 2 79 := ⟨by decide +kernel, rfl⟩
theorem dX11_nameOf_79 : CalS mX11_nameOf 79 82 mX11_w5 := ⟨143, by decide +kernel, rfl, Or.inl (tb_6 (List.mem_of_getElem? (i := 116) (by decide +kernel)) rfl), meX11_w5⟩
theorem dX11_nameOf_82 : Ins mX11_nameOf 82 (.lcmp) 1 83 := ⟨by decide +kernel, rfl⟩
theorem dX11_nameOf_83 : Ins mX11_nameOf 83 (.ifCond .ne 5) 3 86 := ⟨by decide +kernel, rfl⟩
theorem dX11_nameOf_86 : Ins mX11_nameOf 86 (.iconst 3) 1 87 := ⟨by decide +kernel, rfl⟩
theorem dX11_nameOf_87 : Ins mX11_nameOf 87 (.ireturn) 1 88 := ⟨by decide +kernel, rfl⟩
theorem dX11_nameOf_88 : Ins mX11_nameOf 88 (.aload_n 0) 1 89 := ⟨by decide +kernel, rfl⟩
theorem dX11_nameOf_89 : GgL mX11_nameOf 89 92 10 11 := ⟨11, rfl, ⟨122, _, by decide +kernel, rfl, rfl, by decide, tb_5 (List.mem_of_getElem? (i := 207) (by decide +kernel)) rfl⟩, by decide, rfl⟩
theorem dX11_nameOf_92 : Ins mX11_nameOf 92 (.bipush 119) 2 94 := ⟨by decide +kernel, rfl⟩
theorem dX11_nameOf_94 : Ins mX11_nameOf 94 (.bipush 101) 2 96 := ⟨by decide +kernel, rfl⟩
theorem dX11_nameOf_96 : Ins mX11_nameOf 96 (.bipush 97) 2 98 := ⟨by decide +kernel, rfl⟩
theorem dX11_nameOf_98 : Ins mX11_nameOf 98 (.bipush 114) 2 100 := ⟨by decide +kernel, rfl⟩
theorem dX11_nameOf_100 : CalS mX11_nameOf 100 103 mX11_w4 := ⟨139, by decide +kernel, rfl, Or.inl (tb_6 (List.mem_of_getElem? (i := 119) (by decide +kernel)) rfl), meX11_w4⟩
theorem dX11_nameOf_103 : Ins mX11_nameOf 103 (.lcmp) 1 104 := ⟨by decide +kernel, rfl⟩
theorem dX11_nameOf_104 : Ins mX11_nameOf 104 (.ifCond .ne 5) 3 107 := ⟨by decide +kernel, rfl⟩
theorem dX11_nameOf_107 : Ins mX11_nameOf 107 (.iconst 4) 1 108 := ⟨by decide +kernel, rfl⟩
theorem dX11_nameOf_108 : Ins mX11_nameOf 108 (.ireturn) 1 109 := ⟨by decide +kernel, rfl⟩
theorem dX11_nameOf_109 : Ins mX11_nameOf 109 (.aload_n 0) 1 110 := ⟨by decide +kernel, rfl⟩
theorem dX11_nameOf_110 : GgL mX11_nameOf 110 113 10 11 := ⟨11, rfl, ⟨122, _, by decide +kernel, rfl, rfl, by decide, tb_5 (List.mem_of_getElem? (i := 207) (by decide +kernel)) rfl⟩, by decide, rfl⟩
theorem dX11_nameOf_113 : Ins mX11_nameOf 113 (.bipush 114) 2 115 := ⟨by decide +kernel, rfl⟩
theorem dX11_nameOf_115 : Ins mX11_nameOf 115 (.bipush 105) 2 117 := ⟨by decide +kernel, rfl⟩
theorem dX11_nameOf_117 : Ins mX11_nameOf 117 (.bipush 100) 2 119 := ⟨by decide +kernel, rfl⟩
theorem dX11_nameOf_119 : Ins mX11_nameOf 119 (.bipush 101) 2 121 := ⟨by decide +kernel, rfl⟩
theorem dX11_nameOf_121 : Ins mX11_nameOf 121 (.bipush 114) 2 123 := ⟨by decide +kernel, rfl⟩
theorem dX11_nameOf_123 : CalS mX11_nameOf 123 126 mX11_w5 := ⟨143, by decide +kernel, rfl, Or.inl (tb_6 (List.mem_of_getElem? (i := 116) (by decide +kernel)) rfl), meX11_w5⟩
theorem dX11_nameOf_126 : Ins mX11_nameOf 126 (.lcmp) 1 127 := ⟨by decide +kernel, rfl⟩
theorem dX11_nameOf_127 : Ins mX11_nameOf 127 (.ifCond .ne 5) 3 130 := ⟨by decide +kernel, rfl⟩
theorem dX11_nameOf_130 : Ins mX11_nameOf 130 (.iconst 5) 1 131 := ⟨by decide +kernel, rfl⟩
theorem dX11_nameOf_131 : Ins mX11_nameOf 131 (.ireturn) 1 132 := ⟨by decide +kernel, rfl⟩
theorem dX11_nameOf_132 : Ins mX11_nameOf 132 (.aload_n 0) 1 133 := ⟨by decide +kernel, rfl⟩
theorem dX11_nameOf_133 : GgL mX11_nameOf 133 136 10 11 := ⟨11, rfl, ⟨122, _, by decide +kernel, rfl, rfl, by decide, tb_5 (List.mem_of_getElem? (i := 207) (by decide +kernel)) rfl⟩, by decide, rfl⟩
theorem dX11_nameOf_136 : Ins mX11_nameOf 136 (.bipush 115) 2 138 := ⟨by decide +kernel, rfl⟩
theorem dX11_nameOf_138 : Ins mX11_nameOf 138 (.bipush 105) 2 140 := ⟨by decide +kernel, rfl⟩
theorem dX11_nameOf_140 : Ins mX11_nameOf 140 (.bipush 122) 2 142 := ⟨by decide +kernel, rfl⟩
theorem dX11_nameOf_142 : Ins mX11_nameOf 142 (.bipush 101) 2 144 := ⟨by decide +kernel, rfl⟩
theorem dX11_nameOf_144 : CalS mX11_nameOf 144 147 mX11_w4 := ⟨139, by decide +kernel, rfl, Or.inl (tb_6 (List.mem_of_getElem? (i := 119) (by decide +kernel)) rfl), meX11_w4⟩
theorem dX11_nameOf_147 : Ins mX11_nameOf 147 (.lcmp) 1 148 := ⟨by decide +kernel, rfl⟩
theorem dX11_nameOf_148 : Ins mX11_nameOf 148 (.ifCond .ne 6) 3 151 := ⟨by decide +kernel, rfl⟩
theorem dX11_nameOf_151 : Ins mX11_nameOf 151 (.bipush 6) 2 153 := ⟨by decide +kernel, rfl⟩
theorem dX11_nameOf_153 : Ins mX11_nameOf 153 (.ireturn) 1 154 := ⟨by decide +kernel, rfl⟩
theorem dX11_nameOf_154 : Ins mX11_nameOf 154 (.aload_n 0) 1 155 := ⟨by decide +kernel, rfl⟩
theorem dX11_nameOf_155 : GgL mX11_nameOf 155 158 10 11 := ⟨11, rfl, ⟨122, _, by decide +kernel, rfl, rfl, by decide, tb_5 (List.mem_of_getElem? (i := 207) (by decide +kernel)) rfl⟩, by decide, rfl⟩
theorem dX11_nameOf_158 : Ins mX11_nameOf 158 (.bipush 116) 2 160 := ⟨by decide +kernel, rfl⟩
theorem dX11_nameOf_160 : Ins mX11_nameOf 160 (.bipush 105) 2 162 := ⟨by decide +kernel, rfl⟩
theorem dX11_nameOf_162 : Ins mX11_nameOf 162 (.bipush 114) 2 164 := ⟨by decide +kernel, rfl⟩
theorem dX11_nameOf_164 : Ins mX11_nameOf 164 (.bipush 101) 2 166 := ⟨by decide +kernel, rfl⟩
theorem dX11_nameOf_166 : Ins mX11_nameOf 166 (.bipush 100) 2 168 := ⟨by decide +kernel, rfl⟩
theorem dX11_nameOf_168 : CalS mX11_nameOf 168 171 mX11_w5 := ⟨143, by decide +kernel, rfl, Or.inl (tb_6 (List.mem_of_getElem? (i := 116) (by decide +kernel)) rfl), meX11_w5⟩
theorem dX11_nameOf_171 : Ins mX11_nameOf 171 (.lcmp) 1 172 := ⟨by decide +kernel, rfl⟩
theorem dX11_nameOf_172 : Ins mX11_nameOf 172 (.ifCond .ne 8) 3 175 := ⟨by decide +kernel, rfl⟩
theorem dX11_nameOf_175 : Ins mX11_nameOf 175 (.bipush 7) 2 177 := ⟨by decide +kernel, rfl⟩
theorem dX11_nameOf_177 : Ins mX11_nameOf 177 (.goto 26) 3 180 := ⟨by decide +kernel, rfl⟩
theorem dX11_nameOf_180 : Ins mX11_nameOf 180 (.aload_n 0) 1 181 := ⟨by decide +kernel, rfl⟩
theorem dX11_nameOf_181 : GgL mX11_nameOf 181 184 10 11 := ⟨11, rfl, ⟨122, _, by decide +kernel, rfl, rfl, by decide, tb_5 (List.mem_of_getElem? (i := 207) (by decide +kernel)) rfl⟩, by decide, rfl⟩
theorem dX11_nameOf_184 : Ins mX11_nameOf 184 (.bipush 119) 2 186 := ⟨by decide +kernel, rfl⟩
theorem dX11_nameOf_186 : Ins mX11_nameOf 186 (.bipush 104) 2 188 := ⟨by decide +kernel, rfl⟩
theorem dX11_nameOf_188 : Ins mX11_nameOf 188 (.bipush 111) 2 190 := ⟨by decide +kernel, rfl⟩
theorem dX11_nameOf_190 : CalS mX11_nameOf 190 193 mX11_w3 := ⟨135, by decide +kernel, rfl, Or.inl (tb_6 (List.mem_of_getElem? (i := 122) (by decide +kernel)) rfl), meX11_w3⟩
theorem dX11_nameOf_193 : Ins mX11_nameOf 193 (.lcmp) 1 194 := ⟨by decide +kernel, rfl⟩
theorem dX11_nameOf_194 : Ins mX11_nameOf 194 (.ifCond .ne 8) 3 197 := ⟨by decide +kernel, rfl⟩
theorem dX11_nameOf_197 : Ins mX11_nameOf 197 (.bipush 8) 2 199 := ⟨by decide +kernel, rfl⟩
theorem dX11_nameOf_199 : Ins mX11_nameOf 199 (.goto 4) 3 202 := ⟨by decide +kernel, rfl⟩
theorem dX11_nameOf_202 : Ins mX11_nameOf 202 (.iconst (-1)) 1 203 := ⟨by decide +kernel, rfl⟩
theorem dX11_nameOf_203 : Ins mX11_nameOf 203 (.ireturn) 1 204 := ⟨by decide +kernel, rfl⟩
theorem dX11_isOf_0 : Ins mX11_isOf 0 (.iload_n 1) 1 1 := ⟨by decide +kernel, rfl⟩
theorem dX11_isOf_1 : Ins mX11_isOf 1 (.iconst 3) 1 2 := ⟨by decide +kernel, rfl⟩
theorem dX11_isOf_2 : Ins mX11_isOf 2 (.if_icmp .lt 28) 3 5 := ⟨by decide +kernel, rfl⟩
theorem dX11_isOf_5 : Ins mX11_isOf 5 (.iload_n 1) 1 6 := ⟨by decide +kernel, rfl⟩
theorem dX11_isOf_6 : Ins mX11_isOf 6 (.bipush 7) 2 8 := ⟨by decide +kernel, rfl⟩
theorem dX11_isOf_8 : Ins mX11_isOf 8 (.if_icmp .ge 14) 3 11 := ⟨by decide +kernel, rfl⟩
theorem dX11_isOf_11 : Ins mX11_isOf 11 (.aload_n 0) 1 12 := ⟨by decide +kernel, rfl⟩
theorem dX11_isOf_12 : GgI mX11_isOf 12 15 10 14 := ⟨14, rfl, ⟨161, _, by decide +kernel, rfl, rfl, by decide, tb_5 (List.mem_of_getElem? (i := 210) (by decide +kernel)) rfl⟩, by decide, rfl⟩
theorem dX11_isOf_15 : Ins mX11_isOf 15 (.iconst 2) 1 16 := ⟨by decide +kernel, rfl⟩
theorem dX11_isOf_16 : Ins mX11_isOf 16 (.if_icmp .eq 18) 3 19 := ⟨by decide +kernel, rfl⟩
theorem dX11_isOf_19 : Ins mX11_isOf 19 (.goto 11) 3 22 := ⟨by decide +kernel, rfl⟩
theorem dX11_isOf_22 : Ins mX11_isOf 22 (.aload_n 0) 1 23 := ⟨by decide +kernel, rfl⟩
theorem dX11_isOf_23 : GgI mX11_isOf 23 26 10 14 := ⟨14, rfl, ⟨161, _, by decide +kernel, rfl, rfl, by decide, tb_5 (List.mem_of_getElem? (i := 210) (by decide +kernel)) rfl⟩, by decide, rfl⟩
theorem dX11_isOf_26 : Ins mX11_isOf 26 (.iconst 1) 1 27 := ⟨by decide +kernel, rfl⟩
theorem dX11_isOf_27 : Ins mX11_isOf 27 (.if_icmp .ne 7) 3 30 := ⟨by decide +kernel, rfl⟩
theorem dX11_isOf_30 : Ins mX11_isOf 30 (.iconst 1) 1 31 := ⟨by decide +kernel, rfl⟩
theorem dX11_isOf_31 : Ins mX11_isOf 31 (.goto 4) 3 34 := ⟨by decide +kernel, rfl⟩
theorem dX11_isOf_34 : Ins mX11_isOf 34 (.iconst 0) 1 35 := ⟨by decide +kernel, rfl⟩
theorem dX11_isOf_35 : Ins mX11_isOf 35 (.ireturn) 1 36 := ⟨by decide +kernel, rfl⟩
theorem dX11_rank_0 : Ins mX11_rank 0 (.iload_n 0) 1 1 := ⟨by decide +kernel, rfl⟩
theorem dX11_rank_1 : Ins mX11_rank 1 (.bipush 40) 2 3 := ⟨by decide +kernel, rfl⟩
theorem dX11_rank_3 : Ins mX11_rank 3 (.if_icmp .lt 7) 3 6 := ⟨by decide +kernel, rfl⟩
theorem dX11_rank_6 : Ins mX11_rank 6 (.iconst 0) 1 7 := ⟨by decide +kernel, rfl⟩
theorem dX11_rank_7 : Ins mX11_rank 7 (.goto 75) 3 10 := ⟨by decide +kernel, rfl⟩
theorem dX11_rank_10 : Ins mX11_rank 10 (.iload_n 0) 1 11 := ⟨by decide +kernel, rfl⟩
theorem dX11_rank_11 : Ins mX11_rank 11 (.bipush 22) 2 13 := ⟨by decide +kernel, rfl⟩
theorem dX11_rank_13 : Ins mX11_rank 13 (.if_icmp .ne 7) 3 16 := ⟨by decide +kernel, rfl⟩
theorem dX11_rank_16 : Ins mX11_rank 16 (.iconst 1) 1 17 := ⟨by decide +kernel, rfl⟩
theorem dX11_rank_17 : Ins mX11_rank 17 (.goto 65) 3 20 := ⟨by decide +kernel, rfl⟩
theorem dX11_rank_20 : Ins mX11_rank 20 (.iload_n 0) 1 21 := ⟨by decide +kernel, rfl⟩
theorem dX11_rank_21 : Ins mX11_rank 21 (.bipush 21) 2 23 := ⟨by decide +kernel, rfl⟩
theorem dX11_rank_23 : Ins mX11_rank 23 (.if_icmp .ne 7) 3 26 := ⟨by decide +kernel, rfl⟩
theorem dX11_rank_26 : Ins mX11_rank 26 (.iconst 2) 1 27 := ⟨by decide +kernel, rfl⟩
theorem dX11_rank_27 : Ins mX11_rank 27 (.goto 55) 3 30 := ⟨by decide +kernel, rfl⟩
theorem dX11_rank_30 : Ins mX11_rank 30 (.iload_n 0) 1 31 := ⟨by decide +kernel, rfl⟩
theorem dX11_rank_31 : Ins mX11_rank 31 (.bipush 20) 2 33 := ⟨by decide +kernel, rfl⟩
theorem dX11_rank_33 : Ins mX11_rank 33 (.if_icmp .ne 7) 3 36 := ⟨by decide +kernel, rfl⟩
theorem dX11_rank_36 : Ins mX11_rank 36 (.iconst 3) 1 37 := ⟨by decide +kernel, rfl⟩
theorem dX11_rank_37 : Ins mX11_rank 37 (.goto 45) 3 40 := ⟨by decide +kernel, rfl⟩
theorem dX11_rank_40 : Ins mX11_rank 40 (.iload_n 0) 1 41 := ⟨by decide +kernel, rfl⟩
theorem dX11_rank_41 : Ins mX11_rank 41 (.bipush 10) 2 43 := ⟨by decide +kernel, rfl⟩
theorem dX11_rank_43 : Ins mX11_rank 43 (.if_icmp .lt 7) 3 46 := ⟨by decide +kernel, rfl⟩
theorem dX11_rank_46 : Ins mX11_rank 46 (.iconst 4) 1 47 := ⟨by decide +kernel, rfl⟩
theorem dX11_rank_47 : Ins mX11_rank 47 (.goto 35) 3 50 := ⟨by decide +kernel, rfl⟩
theorem dX11_rank_50 : Ins mX11_rank 50 (.iload_n 0) 1 51 := ⟨by decide +kernel, rfl⟩
theorem dX11_rank_51 : Ins mX11_rank 51 (.iconst 5) 1 52 := ⟨by decide +kernel, rfl⟩
theorem dX11_rank_52 : Ins mX11_rank 52 (.if_icmp .eq 13) 3 55 := ⟨by decide +kernel, rfl⟩
theorem dX11_rank_55 : Ins mX11_rank 55 (.iload_n 0) 1 56 := ⟨by decide +kernel, rfl⟩
theorem dX11_rank_56 : Ins mX11_rank 56 (.iconst 2) 1 57 := ⟨by decide +kernel, rfl⟩
theorem dX11_rank_57 : Ins mX11_rank 57 (.if_icmp .eq 8) 3 60 := ⟨by decide +kernel, rfl⟩
theorem dX11_rank_60 : Ins mX11_rank 60 (.iload_n 0) 1 61 := ⟨by decide +kernel, rfl⟩
theorem dX11_rank_61 : Ins mX11_rank 61 (.iconst 3) 1 62 := ⟨by decide +kernel, rfl⟩
theorem dX11_rank_62 : Ins mX11_rank 62 (.if_icmp .ne 8) 3 65 := ⟨by decide +kernel, rfl⟩
theorem dX11_rank_65 : Ins mX11_rank 65 (.bipush 7) 2 67 := ⟨by decide +kernel, rfl⟩
theorem dX11_rank_67 : Ins mX11_rank 67 (.goto 15) 3 70 := ⟨by decide +kernel, rfl⟩
theorem dX11_rank_70 : Ins mX11_rank 70 (.iload_n 0) 1 71 := ⟨by decide +kernel, rfl⟩
theorem dX11_rank_71 : Ins mX11_rank 71 (.bipush 8) 2 73 := ⟨by decide +kernel, rfl⟩
theorem dX11_rank_73 : Ins mX11_rank 73 (.if_icmp .lt 8) 3 76 := ⟨by decide +kernel, rfl⟩
theorem dX11_rank_76 : Ins mX11_rank 76 (.bipush 6) 2 78 := ⟨by decide +kernel, rfl⟩
theorem dX11_rank_78 : Ins mX11_rank 78 (.goto 4) 3 81 := ⟨by decide +kernel, rfl⟩
theorem dX11_rank_81 : Ins mX11_rank 81 (.iconst 5) 1 82 := ⟨by decide +kernel, rfl⟩
theorem dX11_rank_82 : Ins mX11_rank 82 (.ireturn) 1 83 := ⟨by decide +kernel, rfl⟩
theorem dX11_settle_0 : Ins mX11_settle 0 (.aload_n 0) 1 1 := ⟨by decide +kernel, rfl⟩
theorem dX11_settle_1 : GgI mX11_settle 1 4 10 16 := ⟨16, rfl, ⟨164, _, by decide +kernel, rfl, rfl, by decide, tb_5 (List.mem_of_getElem? (i := 212) (by decide +kernel)) rfl⟩, by decide, rfl⟩
theorem dX11_settle_4 : Ins mX11_settle 4 (.ifCond .le 89) 3 7 := ⟨by decide +kernel, rfl⟩
theorem dX11_settle_7 : Ins mX11_settle 7 (.aload_n 0) 1 8 := ⟨by decide +kernel, rfl⟩
theorem dX11_settle_8 : GgR mX11_settle 8 11 10 15 := ⟨15, rfl, ⟨29, _, by decide +kernel, rfl, rfl, by decide, tb_5 (List.mem_of_getElem? (i := 211) (by decide +kernel)) rfl⟩, by decide, rfl⟩
theorem dX11_settle_11 : Ins mX11_settle 11 (.aload_n 0) 1 12 := ⟨by decide +kernel, rfl⟩
theorem dX11_settle_12 : GgI mX11_settle 12 15 10 16 := ⟨16, rfl, ⟨164, _, by decide +kernel, rfl, rfl, by decide, tb_5 (List.mem_of_getElem? (i := 212) (by decide +kernel)) rfl⟩, by decide, rfl⟩
theorem dX11_settle_15 : Ins mX11_settle 15 (.iconst 1) 1 16 := ⟨by decide +kernel, rfl⟩
theorem dX11_settle_16 : Ins mX11_settle 16 (.isub) 1 17 := ⟨by decide +kernel, rfl⟩
theorem dX11_settle_17 : Ins mX11_settle 17 (.iaload) 1 18 := ⟨by decide +kernel, rfl⟩
theorem dX11_settle_18 : CalS mX11_settle 18 21 mX11_rank := ⟨167, by decide +kernel, rfl, Or.inl (tb_6 (List.mem_of_getElem? (i := 178) (by decide +kernel)) rfl), meX11_rank⟩
theorem dX11_settle_21 : Ins mX11_settle 21 (.iload_n 1) 1 22 := ⟨by decide +kernel, rfl⟩
theorem dX11_settle_22 : Ins mX11_settle 22 (.if_icmp .lt 71) 3 25 := ⟨by decide +kernel, rfl⟩
theorem dX11_settle_25 : Ins mX11_settle 25 (.aload_n 0) 1 26 := ⟨by decide +kernel, rfl⟩
theorem dX11_settle_26 : Ins mX11_settle 26 (.dup) 1 27 := ⟨by decide +kernel, rfl⟩
theorem dX11_settle_27 : GgI mX11_settle 27 30 10 16 := ⟨16, rfl, ⟨164, _, by decide +kernel, rfl, rfl, by decide, tb_5 (List.mem_of_getElem? (i := 212) (by decide +kernel)) rfl⟩, by decide, rfl⟩
theorem dX11_settle_30 : Ins mX11_settle 30 (.iconst 1) 1 31 := ⟨by decide +kernel, rfl⟩
theorem dX11_settle_31 : Ins mX11_settle 31 (.isub) 1 32 := ⟨by decide +kernel, rfl⟩
theorem dX11_settle_32 : GpI mX11_settle 32 35 10 16 := ⟨16, rfl, ⟨164, _, by decide +kernel, rfl, rfl, by decide, tb_5 (List.mem_of_getElem? (i := 212) (by decide +kernel)) rfl, by decide +kernel, Or.inl rfl⟩, by decide, rfl⟩
theorem dX11_settle_35 : Ins mX11_settle 35 (.aload_n 0) 1 36 := ⟨by decide +kernel, rfl⟩
theorem dX11_settle_36 : Ins mX11_settle 36 (.aload_n 0) 1 37 := ⟨by decide +kernel, rfl⟩
theorem dX11_settle_37 : GgR mX11_settle 37 40 10 15 := ⟨15, rfl, ⟨29, _, by decide +kernel, rfl, rfl, by decide, tb_5 (List.mem_of_getElem? (i := 211) (by decide +kernel)) rfl⟩, by decide, rfl⟩
theorem dX11_settle_40 : Ins mX11_settle 40 (.aload_n 0) 1 41 := ⟨by decide +kernel, rfl⟩
theorem dX11_settle_41 : GgI mX11_settle 41 44 10 16 := ⟨16, rfl, ⟨164, _, by decide +kernel, rfl, rfl, by decide, tb_5 (List.mem_of_getElem? (i := 212) (by decide +kernel)) rfl⟩, by decide, rfl⟩
theorem dX11_settle_44 : Ins mX11_settle 44 (.iaload) 1 45 := ⟨by decide +kernel, rfl⟩
theorem dX11_settle_45 : Ins mX11_settle 45 (.iconst 0) 1 46 := ⟨by decide +kernel, rfl⟩
theorem dX11_settle_46 : CalV mX11_settle 46 49 mX11_emit := ⟨170, by decide +kernel, rfl, tb_6 (List.mem_of_getElem? (i := 189) (by decide +kernel)) rfl, meX11_emit⟩
theorem dX11_settle_49 : Ins mX11_settle 49 (.aload_n 0) 1 50 := ⟨by decide +kernel, rfl⟩
theorem dX11_settle_50 : GgR mX11_settle 50 53 10 15 := ⟨15, rfl, ⟨29, _, by decide +kernel, rfl, rfl, by decide, tb_5 (List.mem_of_getElem? (i := 211) (by decide +kernel)) rfl⟩, by decide, rfl⟩
theorem dX11_settle_53 : Ins mX11_settle 53 (.aload_n 0) 1 54 := ⟨by decide +kernel, rfl⟩
theorem dX11_settle_54 : GgI mX11_settle 54 57 10 16 := ⟨16, rfl, ⟨164, _, by decide +kernel, rfl, rfl, by decide, tb_5 (List.mem_of_getElem? (i := 212) (by decide +kernel)) rfl⟩, by decide, rfl⟩
theorem dX11_settle_57 : Ins mX11_settle 57 (.iaload) 1 58 := ⟨by decide +kernel, rfl⟩
theorem dX11_settle_58 : CalS mX11_settle 58 61 mX11_rank := ⟨167, by decide +kernel, rfl, Or.inl (tb_6 (List.mem_of_getElem? (i := 178) (by decide +kernel)) rfl), meX11_rank⟩
theorem dX11_settle_61 : Ins mX11_settle 61 (.bipush 7) 2 63 := ⟨by decide +kernel, rfl⟩
theorem dX11_settle_63 : Ins mX11_settle 63 (.if_icmp .eq 17) 3 66 := ⟨by decide +kernel, rfl⟩
theorem dX11_settle_66 : Ins mX11_settle 66 (.aload_n 0) 1 67 := ⟨by decide +kernel, rfl⟩
theorem dX11_settle_67 : GgR mX11_settle 67 70 10 15 := ⟨15, rfl, ⟨29, _, by decide +kernel, rfl, rfl, by decide, tb_5 (List.mem_of_getElem? (i := 211) (by decide +kernel)) rfl⟩, by decide, rfl⟩
theorem dX11_settle_70 : Ins mX11_settle 70 (.aload_n 0) 1 71 := ⟨by decide +kernel, rfl⟩
theorem dX11_settle_71 : GgI mX11_settle 71 74 10 16 := ⟨16, rfl, ⟨164, _, by decide +kernel, rfl, rfl, by decide, tb_5 (List.mem_of_getElem? (i := 212) (by decide +kernel)) rfl⟩, by decide, rfl⟩
theorem dX11_settle_74 : Ins mX11_settle 74 (.iaload) 1 75 := ⟨by decide +kernel, rfl⟩
theorem dX11_settle_75 : Ins mX11_settle 75 (.bipush 20) 2 77 := ⟨by decide +kernel, rfl⟩
theorem dX11_settle_77 : Ins mX11_settle 77 (.if_icmp .ne (-77)) 3 80 := ⟨by decide +kernel, rfl⟩
theorem dX11_settle_80 : Ins mX11_settle 80 (.aload_n 0) 1 81 := ⟨by decide +kernel, rfl⟩
theorem dX11_settle_81 : Ins mX11_settle 81 (.dup) 1 82 := ⟨by decide +kernel, rfl⟩
theorem dX11_settle_82 : GgI mX11_settle 82 85 10 17 := ⟨17, rfl, ⟨174, _, by decide +kernel, rfl, rfl, by decide, tb_5 (List.mem_of_getElem? (i := 213) (by decide +kernel)) rfl⟩, by decide, rfl⟩
theorem dX11_settle_85 : Ins mX11_settle 85 (.iconst 1) 1 86 := ⟨by decide +kernel, rfl⟩
theorem dX11_settle_86 : Ins mX11_settle 86 (.isub) 1 87 := ⟨by decide +kernel, rfl⟩
theorem dX11_settle_87 : GpI mX11_settle 87 90 10 17 := ⟨17, rfl, ⟨174, _, by decide +kernel, rfl, rfl, by decide, tb_5 (List.mem_of_getElem? (i := 213) (by decide +kernel)) rfl, by decide +kernel, Or.inl rfl⟩, by decide, rfl⟩
theorem dX11_settle_90 : Ins mX11_settle 90 (.goto (-90)) 3 93 := ⟨by decide +kernel, rfl⟩
theorem dX11_settle_93 : Ins mX11_settle 93 (.return_) 1 94 := ⟨by decide +kernel, rfl⟩
theorem dX11_openAt_0 : Ins mX11_openAt 0 (.aload_n 0) 1 1 := ⟨by decide +kernel, rfl⟩
theorem dX11_openAt_1 : GgI mX11_openAt 1 4 10 16 := ⟨16, rfl, ⟨164, _, by decide +kernel, rfl, rfl, by decide, tb_5 (List.mem_of_getElem? (i := 212) (by decide +kernel)) rfl⟩, by decide, rfl⟩
theorem dX11_openAt_4 : Ins mX11_openAt 4 (.iconst 1) 1 5 := ⟨by decide +kernel, rfl⟩
theorem dX11_openAt_5 : Ins mX11_openAt 5 (.isub) 1 6 := ⟨by decide +kernel, rfl⟩
theorem dX11_openAt_6 : Ins mX11_openAt 6 (.istore_n 1) 1 7 := ⟨by decide +kernel, rfl⟩
theorem dX11_openAt_7 : Ins mX11_openAt 7 (.iload_n 1) 1 8 := ⟨by decide +kernel, rfl⟩
theorem dX11_openAt_8 : Ins mX11_openAt 8 (.ifCond .lt 20) 3 11 := ⟨by decide +kernel, rfl⟩
theorem dX11_openAt_11 : Ins mX11_openAt 11 (.aload_n 0) 1 12 := ⟨by decide +kernel, rfl⟩
theorem dX11_openAt_12 : GgR mX11_openAt 12 15 10 15 := ⟨15, rfl, ⟨29, _, by decide +kernel, rfl, rfl, by decide, tb_5 (List.mem_of_getElem? (i := 211) (by decide +kernel)) rfl⟩, by decide, rfl⟩
theorem dX11_openAt_15 : Ins mX11_openAt 15 (.iload_n 1) 1 16 := ⟨by decide +kernel, rfl⟩
theorem dX11_openAt_16 : Ins mX11_openAt 16 (.iaload) 1 17 := ⟨by decide +kernel, rfl⟩
theorem dX11_openAt_17 : Ins mX11_openAt 17 (.bipush 40) 2 19 := ⟨by decide +kernel, rfl⟩
theorem dX11_openAt_19 : Ins mX11_openAt 19 (.if_icmp .ge 9) 3 22 := ⟨by decide +kernel, rfl⟩
theorem dX11_openAt_22 : Ins mX11_openAt 22 (.iinc 1 (-1)) 3 25 := ⟨by decide +kernel, rfl⟩
theorem dX11_openAt_25 : Ins mX11_openAt 25 (.goto (-18)) 3 28 := ⟨by decide +kernel, rfl⟩
theorem dX11_openAt_28 : Ins mX11_openAt 28 (.iload_n 1) 1 29 := ⟨by decide +kernel, rfl⟩
theorem dX11_openAt_29 : Ins mX11_openAt 29 (.ireturn) 1 30 := ⟨by decide +kernel, rfl⟩
theorem dX11_openNow_0 : Ins mX11_openNow 0 (.aload_n 0) 1 1 := ⟨by decide +kernel, rfl⟩
theorem dX11_openNow_1 : CalV mX11_openNow 1 4 mX11_openAt := ⟨177, by decide +kernel, rfl, tb_6 (List.mem_of_getElem? (i := 170) (by decide +kernel)) rfl, meX11_openAt⟩
theorem dX11_openNow_4 : Ins mX11_openNow 4 (.ifCond .ge 7) 3 7 := ⟨by decide +kernel, rfl⟩
theorem dX11_openNow_7 : Ins mX11_openNow 7 (.iconst (-1)) 1 8 := ⟨by decide +kernel, rfl⟩
theorem dX11_openNow_8 : Ins mX11_openNow 8 (.goto 12) 3 11 := ⟨by decide +kernel, rfl⟩
theorem dX11_openNow_11 : Ins mX11_openNow 11 (.aload_n 0) 1 12 := ⟨by decide +kernel, rfl⟩
theorem dX11_openNow_12 : GgR mX11_openNow 12 15 10 15 := ⟨15, rfl, ⟨29, _, by decide +kernel, rfl, rfl, by decide, tb_5 (List.mem_of_getElem? (i := 211) (by decide +kernel)) rfl⟩, by decide, rfl⟩
theorem dX11_openNow_15 : Ins mX11_openNow 15 (.aload_n 0) 1 16 := ⟨by decide +kernel, rfl⟩
theorem dX11_openNow_16 : CalV mX11_openNow 16 19 mX11_openAt := ⟨177, by decide +kernel, rfl, tb_6 (List.mem_of_getElem? (i := 170) (by decide +kernel)) rfl, meX11_openAt⟩
theorem dX11_openNow_19 : Ins mX11_openNow 19 (.iaload) 1 20 := ⟨by decide +kernel, rfl⟩
theorem dX11_openNow_20 : Ins mX11_openNow 20 (.ireturn) 1 21 := ⟨by decide +kernel, rfl⟩
theorem dX11_isCompared_0 : Ins mX11_isCompared 0 (.aload_n 0) 1 1 := ⟨by decide +kernel, rfl⟩
theorem dX11_isCompared_1 : GgI mX11_isCompared 1 4 10 16 := ⟨16, rfl, ⟨164, _, by decide +kernel, rfl, rfl, by decide, tb_5 (List.mem_of_getElem? (i := 212) (by decide +kernel)) rfl⟩, by decide, rfl⟩
theorem dX11_isCompared_4 : Ins mX11_isCompared 4 (.iconst 1) 1 5 := ⟨by decide +kernel, rfl⟩
theorem dX11_isCompared_5 : Ins mX11_isCompared 5 (.isub) 1 6 := ⟨by decide +kernel, rfl⟩
theorem dX11_isCompared_6 : Ins mX11_isCompared 6 (.istore_n 1) 1 7 := ⟨by decide +kernel, rfl⟩
theorem dX11_isCompared_7 : Ins mX11_isCompared 7 (.iload_n 1) 1 8 := ⟨by decide +kernel, rfl⟩
theorem dX11_isCompared_8 : Ins mX11_isCompared 8 (.ifCond .lt 22) 3 11 := ⟨by decide +kernel, rfl⟩
theorem dX11_isCompared_11 : Ins mX11_isCompared 11 (.aload_n 0) 1 12 := ⟨by decide +kernel, rfl⟩
theorem dX11_isCompared_12 : GgR mX11_isCompared 12 15 10 15 := ⟨15, rfl, ⟨29, _, by decide +kernel, rfl, rfl, by decide, tb_5 (List.mem_of_getElem? (i := 211) (by decide +kernel)) rfl⟩, by decide, rfl⟩
theorem dX11_isCompared_15 : Ins mX11_isCompared 15 (.iload_n 1) 1 16 := ⟨by decide +kernel, rfl⟩
theorem dX11_isCompared_16 : Ins mX11_isCompared 16 (.iaload) 1 17 := ⟨by decide +kernel, rfl⟩
theorem dX11_isCompared_17 : CalS mX11_isCompared 17 20 mX11_rank := ⟨167, by decide +kernel, rfl, Or.inl (tb_6 (List.mem_of_getElem? (i := 178) (by decide +kernel)) rfl), meX11_rank⟩
theorem dX11_isCompared_20 : Ins mX11_isCompared 20 (.iconst 4) 1 21 := ⟨by decide +kernel, rfl⟩
theorem dX11_isCompared_21 : Ins mX11_isCompared 21 (.if_icmp .le 9) 3 24 := ⟨by decide +kernel, rfl⟩
theorem dX11_isCompared_24 : Ins mX11_isCompared 24 (.iinc 1 (-1)) 3 27 := ⟨by decide +kernel, rfl⟩
theorem dX11_isCompared_27 : Ins mX11_isCompared 27 (.goto (-20)) 3 30 := ⟨by decide +kernel, rfl⟩
theorem dX11_isCompared_30 : Ins mX11_isCompared 30 (.iload_n 1) 1 31 := ⟨by decide +kernel, rfl⟩
theorem dX11_isCompared_31 : Ins mX11_isCompared 31 (.ifCond .lt 20) 3 34 := ⟨by decide +kernel, rfl⟩
theorem dX11_isCompared_34 : Ins mX11_isCompared 34 (.aload_n 0) 1 35 := ⟨by decide +kernel, rfl⟩
theorem dX11_isCompared_35 : GgR mX11_isCompared 35 38 10 15 := ⟨15, rfl, ⟨29, _, by decide +kernel, rfl, rfl, by decide, tb_5 (List.mem_of_getElem? (i := 211) (by decide +kernel)) rfl⟩, by decide, rfl⟩
theorem dX11_isCompared_38 : Ins mX11_isCompared 38 (.iload_n 1) 1 39 := ⟨by decide +kernel, rfl⟩
theorem dX11_isCompared_39 : Ins mX11_isCompared 39 (.iaload) 1 40 := ⟨by decide +kernel, rfl⟩
theorem dX11_isCompared_40 : CalS mX11_isCompared 40 43 mX11_rank := ⟨167, by decide +kernel, rfl, Or.inl (tb_6 (List.mem_of_getElem? (i := 178) (by decide +kernel)) rfl), meX11_rank⟩
theorem dX11_isCompared_43 : Ins mX11_isCompared 43 (.iconst 4) 1 44 := ⟨by decide +kernel, rfl⟩
theorem dX11_isCompared_44 : Ins mX11_isCompared 44 (.if_icmp .ne 7) 3 47 := ⟨by decide +kernel, rfl⟩
theorem dX11_isCompared_47 : Ins mX11_isCompared 47 (.iconst 1) 1 48 := ⟨by decide +kernel, rfl⟩
theorem dX11_isCompared_48 : Ins mX11_isCompared 48 (.goto 4) 3 51 := ⟨by decide +kernel, rfl⟩
theorem dX11_isCompared_51 : Ins mX11_isCompared 51 (.iconst 0) 1 52 := ⟨by decide +kernel, rfl⟩
theorem dX11_isCompared_52 : Ins mX11_isCompared 52 (.ireturn) 1 53 := ⟨by decide +kernel, rfl⟩
theorem dX11_isAskAhead_0 : Ins mX11_isAskAhead 0 (.aload_n 0) 1 1 := ⟨by decide +kernel, rfl⟩
theorem dX11_isAskAhead_1 : CalV mX11_isAskAhead 1 4 mX11_openNow := ⟨181, by decide +kernel, rfl, tb_6 (List.mem_of_getElem? (i := 166) (by decide +kernel)) rfl, meX11_openNow⟩
theorem dX11_isAskAhead_4 : Ins mX11_isAskAhead 4 (.bipush 41) 2 6 := ⟨by decide +kernel, rfl⟩
theorem dX11_isAskAhead_6 : Ins mX11_isAskAhead 6 (.if_icmp .ne 45) 3 9 := ⟨by decide +kernel, rfl⟩
theorem dX11_isAskAhead_9 : Ins mX11_isAskAhead 9 (.aload_n 0) 1 10 := ⟨by decide +kernel, rfl⟩
theorem dX11_isAskAhead_10 : GgR mX11_isAskAhead 10 13 10 15 := ⟨15, rfl, ⟨29, _, by decide +kernel, rfl, rfl, by decide, tb_5 (List.mem_of_getElem? (i := 211) (by decide +kernel)) rfl⟩, by decide, rfl⟩
theorem dX11_isAskAhead_13 : Ins mX11_isAskAhead 13 (.aload_n 0) 1 14 := ⟨by decide +kernel, rfl⟩
theorem dX11_isAskAhead_14 : GgI mX11_isAskAhead 14 17 10 16 := ⟨16, rfl, ⟨164, _, by decide +kernel, rfl, rfl, by decide, tb_5 (List.mem_of_getElem? (i := 212) (by decide +kernel)) rfl⟩, by decide, rfl⟩
theorem dX11_isAskAhead_17 : Ins mX11_isAskAhead 17 (.iconst 1) 1 18 := ⟨by decide +kernel, rfl⟩
theorem dX11_isAskAhead_18 : Ins mX11_isAskAhead 18 (.isub) 1 19 := ⟨by decide +kernel, rfl⟩
theorem dX11_isAskAhead_19 : Ins mX11_isAskAhead 19 (.iaload) 1 20 := ⟨by decide +kernel, rfl⟩
theorem dX11_isAskAhead_20 : Ins mX11_isAskAhead 20 (.bipush 40) 2 22 := ⟨by decide +kernel, rfl⟩
theorem dX11_isAskAhead_22 : Ins mX11_isAskAhead 22 (.if_icmp .ge 25) 3 25 := ⟨by decide +kernel, rfl⟩
theorem dX11_isAskAhead_25 : Ins mX11_isAskAhead 25 (.aload_n 0) 1 26 := ⟨by decide +kernel, rfl⟩
theorem dX11_isAskAhead_26 : GgR mX11_isAskAhead 26 29 10 15 := ⟨15, rfl, ⟨29, _, by decide +kernel, rfl, rfl, by decide, tb_5 (List.mem_of_getElem? (i := 211) (by decide +kernel)) rfl⟩, by decide, rfl⟩
theorem dX11_isAskAhead_29 : Ins mX11_isAskAhead 29 (.aload_n 0) 1 30 := ⟨by decide +kernel, rfl⟩
theorem dX11_isAskAhead_30 : GgI mX11_isAskAhead 30 33 10 16 := ⟨16, rfl, ⟨164, _, by decide +kernel, rfl, rfl, by decide, tb_5 (List.mem_of_getElem? (i := 212) (by decide +kernel)) rfl⟩, by decide, rfl⟩
theorem dX11_isAskAhead_33 : Ins mX11_isAskAhead 33 (.iconst 1) 1 34 := ⟨by decide +kernel, rfl⟩
theorem dX11_isAskAhead_34 : Ins mX11_isAskAhead 34 (.isub) 1 35 := ⟨by decide +kernel, rfl⟩
theorem dX11_isAskAhead_35 : Ins mX11_isAskAhead 35 (.iaload) 1 36 := ⟨by decide +kernel, rfl⟩
theorem dX11_isAskAhead_36 : CalS mX11_isAskAhead 36 39 mX11_rank := ⟨167, by decide +kernel, rfl, Or.inl (tb_6 (List.mem_of_getElem? (i := 178) (by decide +kernel)) rfl), meX11_rank⟩
theorem dX11_isAskAhead_39 : Ins mX11_isAskAhead 39 (.iconst 1) 1 40 := ⟨by decide +kernel, rfl⟩
theorem dX11_isAskAhead_40 : Ins mX11_isAskAhead 40 (.iconst 3) 1 41 := ⟨by decide +kernel, rfl⟩
theorem dX11_isAskAhead_41 : CalS mX11_isAskAhead 41 44 mX11_isIn := ⟨63, by decide +kernel, rfl, Or.inl (tb_6 (List.mem_of_getElem? (i := 50) (by decide +kernel)) rfl), meX11_isIn⟩
theorem dX11_isAskAhead_44 : Ins mX11_isAskAhead 44 (.ifCond .eq 7) 3 47 := ⟨by decide +kernel, rfl⟩
theorem dX11_isAskAhead_47 : Ins mX11_isAskAhead 47 (.iconst 1) 1 48 := ⟨by decide +kernel, rfl⟩
theorem dX11_isAskAhead_48 : Ins mX11_isAskAhead 48 (.goto 4) 3 51 := ⟨by decide +kernel, rfl⟩
theorem dX11_isAskAhead_51 : Ins mX11_isAskAhead 51 (.iconst 0) 1 52 := ⟨by decide +kernel, rfl⟩
theorem dX11_isAskAhead_52 : Ins mX11_isAskAhead 52 (.ireturn) 1 53 := ⟨by decide +kernel, rfl⟩
theorem dX11_opened_0 : Ins mX11_opened 0 (.aload_n 0) 1 1 := ⟨by decide +kernel, rfl⟩
theorem dX11_opened_1 : GgI mX11_opened 1 4 10 17 := ⟨17, rfl, ⟨174, _, by decide +kernel, rfl, rfl, by decide, tb_5 (List.mem_of_getElem? (i := 213) (by decide +kernel)) rfl⟩, by decide, rfl⟩
theorem dX11_opened_4 : Ins mX11_opened 4 (.bipush 8) 2 6 := ⟨by decide +kernel, rfl⟩
theorem dX11_opened_6 : Ins mX11_opened 6 (.if_icmp .ne 5) 3 9 := ⟨by decide +kernel, rfl⟩
theorem dX11_opened_9 : Ins mX11_opened 9 (.iconst 3) 1 10 := ⟨by decide +kernel, rfl⟩
theorem dX11_opened_10 : Ins mX11_opened 10 (.ireturn) 1 11 := ⟨by decide +kernel, rfl⟩
theorem dX11_opened_11 : Ins mX11_opened 11 (.aload_n 0) 1 12 := ⟨by decide +kernel, rfl⟩
theorem dX11_opened_12 : Ins mX11_opened 12 (.dup) 1 13 := ⟨by decide +kernel, rfl⟩
theorem dX11_opened_13 : GgI mX11_opened 13 16 10 17 := ⟨17, rfl, ⟨174, _, by decide +kernel, rfl, rfl, by decide, tb_5 (List.mem_of_getElem? (i := 213) (by decide +kernel)) rfl⟩, by decide, rfl⟩
theorem dX11_opened_16 : Ins mX11_opened 16 (.iconst 1) 1 17 := ⟨by decide +kernel, rfl⟩
theorem dX11_opened_17 : Ins mX11_opened 17 (.iadd) 1 18 := ⟨by decide +kernel, rfl⟩
theorem dX11_opened_18 : GpI mX11_opened 18 21 10 17 := ⟨17, rfl, ⟨174, _, by decide +kernel, rfl, rfl, by decide, tb_5 (List.mem_of_getElem? (i := 213) (by decide +kernel)) rfl, by decide +kernel, Or.inl rfl⟩, by decide, rfl⟩
theorem dX11_opened_21 : Ins mX11_opened 21 (.aload_n 0) 1 22 := ⟨by decide +kernel, rfl⟩
theorem dX11_opened_22 : GgR mX11_opened 22 25 10 15 := ⟨15, rfl, ⟨29, _, by decide +kernel, rfl, rfl, by decide, tb_5 (List.mem_of_getElem? (i := 211) (by decide +kernel)) rfl⟩, by decide, rfl⟩
theorem dX11_opened_25 : Ins mX11_opened 25 (.aload_n 0) 1 26 := ⟨by decide +kernel, rfl⟩
theorem dX11_opened_26 : GgI mX11_opened 26 29 10 16 := ⟨16, rfl, ⟨164, _, by decide +kernel, rfl, rfl, by decide, tb_5 (List.mem_of_getElem? (i := 212) (by decide +kernel)) rfl⟩, by decide, rfl⟩
theorem dX11_opened_29 : Ins mX11_opened 29 (.iload_n 1) 1 30 := ⟨by decide +kernel, rfl⟩
theorem dX11_opened_30 : Ins mX11_opened 30 (.iastore) 1 31 := ⟨by decide +kernel, rfl⟩
theorem dX11_opened_31 : Ins mX11_opened 31 (.aload_n 0) 1 32 := ⟨by decide +kernel, rfl⟩
theorem dX11_opened_32 : Ins mX11_opened 32 (.dup) 1 33 := ⟨by decide +kernel, rfl⟩
theorem dX11_opened_33 : GgI mX11_opened 33 36 10 16 := ⟨16, rfl, ⟨164, _, by decide +kernel, rfl, rfl, by decide, tb_5 (List.mem_of_getElem? (i := 212) (by decide +kernel)) rfl⟩, by decide, rfl⟩
theorem dX11_opened_36 : Ins mX11_opened 36 (.iconst 1) 1 37 := ⟨by decide +kernel, rfl⟩
theorem dX11_opened_37 : Ins mX11_opened 37 (.iadd) 1 38 := ⟨by decide +kernel, rfl⟩
theorem dX11_opened_38 : GpI mX11_opened 38 41 10 16 := ⟨16, rfl, ⟨164, _, by decide +kernel, rfl, rfl, by decide, tb_5 (List.mem_of_getElem? (i := 212) (by decide +kernel)) rfl, by decide +kernel, Or.inl rfl⟩, by decide, rfl⟩
theorem dX11_opened_41 : Ins mX11_opened 41 (.aload_n 0) 1 42 := ⟨by decide +kernel, rfl⟩
theorem dX11_opened_42 : CalV mX11_opened 42 45 mX11_nextToken := ⟨184, by decide +kernel, rfl, tb_6 (List.mem_of_getElem? (i := 89) (by decide +kernel)) rfl, meX11_nextToken⟩
theorem dX11_opened_45 : Ins mX11_opened 45 (.iconst 0) 1 46 := ⟨by decide +kernel, rfl⟩
theorem dX11_opened_46 : Ins mX11_opened 46 (.ireturn) 1 47 := ⟨by decide +kernel, rfl⟩
theorem dX11_beginOne_0 : Ins mX11_beginOne 0 (.aload_n 0) 1 1 := ⟨by decide +kernel, rfl⟩
theorem dX11_beginOne_1 : GgI mX11_beginOne 1 4 10 9 := ⟨9, rfl, ⟨108, _, by decide +kernel, rfl, rfl, by decide, tb_5 (List.mem_of_getElem? (i := 205) (by decide +kernel)) rfl⟩, by decide, rfl⟩
theorem dX11_beginOne_4 : Ins mX11_beginOne 4 (.iconst 1) 1 5 := ⟨by decide +kernel, rfl⟩
theorem dX11_beginOne_5 : Ins mX11_beginOne 5 (.if_icmp .ne 15) 3 8 := ⟨by decide +kernel, rfl⟩
theorem dX11_beginOne_8 : Ins mX11_beginOne 8 (.aload_n 0) 1 9 := ⟨by decide +kernel, rfl⟩
theorem dX11_beginOne_9 : GgI mX11_beginOne 9 12 10 10 := ⟨10, rfl, ⟨115, _, by decide +kernel, rfl, rfl, by decide, tb_5 (List.mem_of_getElem? (i := 206) (by decide +kernel)) rfl⟩, by decide, rfl⟩
theorem dX11_beginOne_12 : Ins mX11_beginOne 12 (.sipush 9999) 3 15 := ⟨by decide +kernel, rfl⟩
theorem dX11_beginOne_15 : Ins mX11_beginOne 15 (.if_icmp .le 5) 3 18 := ⟨by decide +kernel, rfl⟩
theorem dX11_beginOne_18 : Ins mX11_beginOne 18 (.iconst 2) 1 19 := ⟨by decide +kernel, rfl⟩
theorem dX11_beginOne_19 : Ins mX11_beginOne 19 (.ireturn) 1 20 := ⟨by decide +kernel, rfl⟩
theorem dX11_beginOne_20 : Ins mX11_beginOne 20 (.aload_n 0) 1 21 := ⟨by decide +kernel, rfl⟩
theorem dX11_beginOne_21 : CalV mX11_beginOne 21 24 mX11_nameOf := ⟨187, by decide +kernel, rfl, tb_6 (List.mem_of_getElem? (i := 201) (by decide +kernel)) rfl, meX11_nameOf⟩
theorem dX11_beginOne_24 : Ins mX11_beginOne 24 (.istore_n 1) 1 25 := ⟨by decide +kernel, rfl⟩
theorem dX11_beginOne_25 : Ins mX11_beginOne 25 (.iload_n 1) 1 26 := ⟨by decide +kernel, rfl⟩
theorem dX11_beginOne_26 : Ins mX11_beginOne 26 (.ifCond .lt 13) 3 29 := ⟨by decide +kernel, rfl⟩
theorem dX11_beginOne_29 : Ins mX11_beginOne 29 (.aload_n 0) 1 30 := ⟨by decide +kernel, rfl⟩
theorem dX11_beginOne_30 : Ins mX11_beginOne 30 (.iload_n 1) 1 31 := ⟨by decide +kernel, rfl⟩
theorem dX11_beginOne_31 : CalV mX11_beginOne 31 34 mX11_isOf := ⟨190, by decide +kernel, rfl, tb_6 (List.mem_of_getElem? (i := 209) (by decide +kernel)) rfl, meX11_isOf⟩
theorem dX11_beginOne_34 : Ins mX11_beginOne 34 (.ifCond .ne 5) 3 37 := ⟨by decide +kernel, rfl⟩
theorem dX11_beginOne_37 : Ins mX11_beginOne 37 (.iconst 5) 1 38 := ⟨by decide +kernel, rfl⟩
theorem dX11_beginOne_38 : Ins mX11_beginOne 38 (.ireturn) 1 39 := ⟨by decide +kernel, rfl⟩
theorem dX11_beginOne_39 : Ins mX11_beginOne 39 (.aload_n 0) 1 40 := ⟨by decide +kernel, rfl⟩
theorem dX11_beginOne_40 : GgI mX11_beginOne 40 43 10 9 := ⟨9, rfl, ⟨108, _, by decide +kernel, rfl, rfl, by decide, tb_5 (List.mem_of_getElem? (i := 205) (by decide +kernel)) rfl⟩, by decide, rfl⟩
theorem dX11_beginOne_43 : Ins mX11_beginOne 43 (.iconst 1) 1 44 := ⟨by decide +kernel, rfl⟩
theorem dX11_beginOne_44 : Ins mX11_beginOne 44 (.if_icmp .eq 7) 3 47 := ⟨by decide +kernel, rfl⟩
theorem dX11_beginOne_47 : Ins mX11_beginOne 47 (.iload_n 1) 1 48 := ⟨by decide +kernel, rfl⟩
theorem dX11_beginOne_48 : Ins mX11_beginOne 48 (.ifCond .lt 53) 3 51 := ⟨by decide +kernel, rfl⟩
theorem dX11_beginOne_51 : Ins mX11_beginOne 51 (.aload_n 0) 1 52 := ⟨by decide +kernel, rfl⟩
theorem dX11_beginOne_52 : Ins mX11_beginOne 52 (.aload_n 0) 1 53 := ⟨by decide +kernel, rfl⟩
theorem dX11_beginOne_53 : GgI mX11_beginOne 53 56 10 9 := ⟨9, rfl, ⟨108, _, by decide +kernel, rfl, rfl, by decide, tb_5 (List.mem_of_getElem? (i := 205) (by decide +kernel)) rfl⟩, by decide, rfl⟩
theorem dX11_beginOne_56 : Ins mX11_beginOne 56 (.iconst 1) 1 57 := ⟨by decide +kernel, rfl⟩
theorem dX11_beginOne_57 : Ins mX11_beginOne 57 (.if_icmp .ne 7) 3 60 := ⟨by decide +kernel, rfl⟩
theorem dX11_beginOne_60 : Ins mX11_beginOne 60 (.iconst 0) 1 61 := ⟨by decide +kernel, rfl⟩
theorem dX11_beginOne_61 : Ins mX11_beginOne 61 (.goto 4) 3 64 := ⟨by decide +kernel, rfl⟩
theorem dX11_beginOne_64 : Ins mX11_beginOne 64 (.iconst 1) 1 65 := ⟨by decide +kernel, rfl⟩
theorem dX11_beginOne_65 : Ins mX11_beginOne 65 (.aload_n 0) 1 66 := ⟨by decide +kernel, rfl⟩
theorem dX11_beginOne_66 : GgI mX11_beginOne 66 69 10 9 := ⟨9, rfl, ⟨108, _, by decide +kernel, rfl, rfl, by decide, tb_5 (List.mem_of_getElem? (i := 205) (by decide +kernel)) rfl⟩, by decide, rfl⟩
theorem dX11_beginOne_69 : Ins mX11_beginOne 69 (.iconst 1) 1 70 := ⟨by decide +kernel, rfl⟩
theorem dX11_beginOne_70 : Ins mX11_beginOne 70 (.if_icmp .ne 10) 3 73 := ⟨by decide +kernel, rfl⟩
theorem dX11_beginOne_73 : Ins mX11_beginOne 73 (.aload_n 0) 1 74 := ⟨by decide +kernel, rfl⟩
theorem dX11_beginOne_74 : GgI mX11_beginOne 74 77 10 10 := ⟨10, rfl, ⟨115, _, by decide +kernel, rfl, rfl, by decide, tb_5 (List.mem_of_getElem? (i := 206) (by decide +kernel)) rfl⟩, by decide, rfl⟩
theorem dX11_beginOne_77 : Ins mX11_beginOne 77 (.goto 4) 3 80 := ⟨by decide +kernel, rfl⟩
theorem dX11_beginOne_80 : Ins mX11_beginOne 80 (.iload_n 1) 1 81 := ⟨by decide +kernel, rfl⟩
theorem dX11_beginOne_81 : CalV mX11_beginOne 81 84 mX11_emit := ⟨170, by decide +kernel, rfl, tb_6 (List.mem_of_getElem? (i := 189) (by decide +kernel)) rfl, meX11_emit⟩
theorem dX11_beginOne_84 : Ins mX11_beginOne 84 (.aload_n 0) 1 85 := ⟨by decide +kernel, rfl⟩
theorem dX11_beginOne_85 : CalV mX11_beginOne 85 88 mX11_nextToken := ⟨184, by decide +kernel, rfl, tb_6 (List.mem_of_getElem? (i := 89) (by decide +kernel)) rfl, meX11_nextToken⟩
theorem dX11_beginOne_88 : Ins mX11_beginOne 88 (.aload_n 0) 1 89 := ⟨by decide +kernel, rfl⟩
theorem dX11_beginOne_89 : Ins mX11_beginOne 89 (.iconst 1) 1 90 := ⟨by decide +kernel, rfl⟩
theorem dX11_beginOne_90 : GpZ mX11_beginOne 90 93 10 18 := ⟨18, rfl, ⟨193, _, by decide +kernel, rfl, rfl, by decide, tb_5 (List.mem_of_getElem? (i := 214) (by decide +kernel)) rfl, by decide +kernel, Or.inl rfl⟩, by decide, rfl⟩
theorem dX11_beginOne_93 : Ins mX11_beginOne 93 (.aload_n 0) 1 94 := ⟨by decide +kernel, rfl⟩
theorem dX11_beginOne_94 : Ins mX11_beginOne 94 (.bipush 7) 2 96 := ⟨by decide +kernel, rfl⟩
theorem dX11_beginOne_96 : CalV mX11_beginOne 96 99 mX11_settle := ⟨196, by decide +kernel, rfl, tb_6 (List.mem_of_getElem? (i := 185) (by decide +kernel)) rfl, meX11_settle⟩
theorem dX11_beginOne_99 : Ins mX11_beginOne 99 (.iconst 0) 1 100 := ⟨by decide +kernel, rfl⟩
theorem dX11_beginOne_100 : Ins mX11_beginOne 100 (.ireturn) 1 101 := ⟨by decide +kernel, rfl⟩
theorem dX11_beginOne_101 : Ins mX11_beginOne 101 (.aload_n 0) 1 102 := ⟨by decide +kernel, rfl⟩
theorem dX11_beginOne_102 : GgI mX11_beginOne 102 105 10 9 := ⟨9, rfl, ⟨108, _, by decide +kernel, rfl, rfl, by decide, tb_5 (List.mem_of_getElem? (i := 205) (by decide +kernel)) rfl⟩, by decide, rfl⟩
theorem dX11_beginOne_105 : Ins mX11_beginOne 105 (.bipush 40) 2 107 := ⟨by decide +kernel, rfl⟩
theorem dX11_beginOne_107 : Ins mX11_beginOne 107 (.if_icmp .ne 10) 3 110 := ⟨by decide +kernel, rfl⟩
theorem dX11_beginOne_110 : Ins mX11_beginOne 110 (.aload_n 0) 1 111 := ⟨by decide +kernel, rfl⟩
theorem dX11_beginOne_111 : Ins mX11_beginOne 111 (.bipush 40) 2 113 := ⟨by decide +kernel, rfl⟩
theorem dX11_beginOne_113 : CalV mX11_beginOne 113 116 mX11_opened := ⟨199, by decide +kernel, rfl, tb_6 (List.mem_of_getElem? (i := 213) (by decide +kernel)) rfl, meX11_opened⟩
theorem dX11_beginOne_116 : Ins mX11_beginOne 116 (.ireturn) 1 117 := ⟨by decide +kernel, rfl⟩
theorem dX11_beginOne_117 : Ins mX11_beginOne 117 (.aload_n 0) 1 118 := ⟨by decide +kernel, rfl⟩
theorem dX11_beginOne_118 : GgI mX11_beginOne 118 121 10 9 := ⟨9, rfl, ⟨108, _, by decide +kernel, rfl, rfl, by decide, tb_5 (List.mem_of_getElem? (i := 205) (by decide +kernel)) rfl⟩, by decide, rfl⟩
theorem dX11_beginOne_121 : Ins mX11_beginOne 121 (.bipush 45) 2 123 := ⟨by decide +kernel, rfl⟩
theorem dX11_beginOne_123 : Ins mX11_beginOne 123 (.if_icmp .ne 9) 3 126 := ⟨by decide +kernel, rfl⟩
theorem dX11_beginOne_126 : Ins mX11_beginOne 126 (.aload_n 0) 1 127 := ⟨by decide +kernel, rfl⟩
theorem dX11_beginOne_127 : Ins mX11_beginOne 127 (.iconst 5) 1 128 := ⟨by decide +kernel, rfl⟩
theorem dX11_beginOne_128 : CalV mX11_beginOne 128 131 mX11_opened := ⟨199, by decide +kernel, rfl, tb_6 (List.mem_of_getElem? (i := 213) (by decide +kernel)) rfl, meX11_opened⟩
theorem dX11_beginOne_131 : Ins mX11_beginOne 131 (.ireturn) 1 132 := ⟨by decide +kernel, rfl⟩
theorem dX11_beginOne_132 : Ins mX11_beginOne 132 (.aload_n 0) 1 133 := ⟨by decide +kernel, rfl⟩
theorem dX11_beginOne_133 : Ins mX11_beginOne 133 (.bipush 115) 2 135 := ⟨by decide +kernel, rfl⟩
theorem dX11_beginOne_135 : Ins mX11_beginOne 135 (.bipush 105) 2 137 := ⟨by decide +kernel, rfl⟩
theorem dX11_beginOne_137 : Ins mX11_beginOne 137 (.bipush 103) 2 139 := ⟨by decide +kernel, rfl⟩
theorem dX11_beginOne_139 : Ins mX11_beginOne 139 (.bipush 110) 2 141 := ⟨by decide +kernel, rfl⟩
theorem dX11_beginOne_141 : CalS mX11_beginOne 141 144 mX11_w4 := ⟨139, by decide +kernel, rfl, Or.inl (tb_6 (List.mem_of_getElem? (i := 119) (by decide +kernel)) rfl), meX11_w4⟩
theorem dX11_beginOne_144 : CalV mX11_beginOne 144 147 mX11_isWord := ⟨202, by decide +kernel, rfl, tb_6 (List.mem_of_getElem? (i := 128) (by decide +kernel)) rfl, meX11_isWord⟩
theorem dX11_beginOne_147 : Ins mX11_beginOne 147 (.ifCond .eq 9) 3 150 := ⟨by decide +kernel, rfl⟩
theorem dX11_beginOne_150 : Ins mX11_beginOne 150 (.aload_n 0) 1 151 := ⟨by decide +kernel, rfl⟩
theorem dX11_beginOne_151 : Ins mX11_beginOne 151 (.iconst 2) 1 152 := ⟨by decide +kernel, rfl⟩
theorem dX11_beginOne_152 : CalV mX11_beginOne 152 155 mX11_opened := ⟨199, by decide +kernel, rfl, tb_6 (List.mem_of_getElem? (i := 213) (by decide +kernel)) rfl, meX11_opened⟩
theorem dX11_beginOne_155 : Ins mX11_beginOne 155 (.ireturn) 1 156 := ⟨by decide +kernel, rfl⟩
theorem dX11_beginOne_156 : Ins mX11_beginOne 156 (.aload_n 0) 1 157 := ⟨by decide +kernel, rfl⟩
theorem dX11_beginOne_157 : Ins mX11_beginOne 157 (.bipush 98) 2 159 := ⟨by decide +kernel, rfl⟩
theorem dX11_beginOne_159 : Ins mX11_beginOne 159 (.bipush 101) 2 161 := ⟨by decide +kernel, rfl⟩
theorem dX11_beginOne_161 : Ins mX11_beginOne 161 (.bipush 97) 2 163 := ⟨by decide +kernel, rfl⟩
theorem dX11_beginOne_163 : Ins mX11_beginOne 163 (.bipush 116) 2 165 := ⟨by decide +kernel, rfl⟩
theorem dX11_beginOne_165 : CalS mX11_beginOne 165 168 mX11_w4 := ⟨139, by decide +kernel, rfl, Or.inl (tb_6 (List.mem_of_getElem? (i := 119) (by decide +kernel)) rfl), meX11_w4⟩
theorem dX11_beginOne_168 : CalV mX11_beginOne 168 171 mX11_isWord := ⟨202, by decide +kernel, rfl, tb_6 (List.mem_of_getElem? (i := 128) (by decide +kernel)) rfl, meX11_isWord⟩
theorem dX11_beginOne_171 : Ins mX11_beginOne 171 (.ifCond .eq 9) 3 174 := ⟨by decide +kernel, rfl⟩
theorem dX11_beginOne_174 : Ins mX11_beginOne 174 (.aload_n 0) 1 175 := ⟨by decide +kernel, rfl⟩
theorem dX11_beginOne_175 : Ins mX11_beginOne 175 (.iconst 3) 1 176 := ⟨by decide +kernel, rfl⟩
theorem dX11_beginOne_176 : CalV mX11_beginOne 176 179 mX11_opened := ⟨199, by decide +kernel, rfl, tb_6 (List.mem_of_getElem? (i := 213) (by decide +kernel)) rfl, meX11_opened⟩
theorem dX11_beginOne_179 : Ins mX11_beginOne 179 (.ireturn) 1 180 := ⟨by decide +kernel, rfl⟩
theorem dX11_beginOne_180 : Ins mX11_beginOne 180 (.aload_n 0) 1 181 := ⟨by decide +kernel, rfl⟩
theorem dX11_beginOne_181 : Ins mX11_beginOne 181 (.bipush 105) 2 183 := ⟨by decide +kernel, rfl⟩
theorem dX11_beginOne_183 : Ins mX11_beginOne 183 (.bipush 102) 2 185 := ⟨by decide +kernel, rfl⟩
theorem dX11_beginOne_185 : CalS mX11_beginOne 185 188 mX11_w2 := ⟨131, by decide +kernel, rfl, Or.inl (tb_6 (List.mem_of_getElem? (i := 125) (by decide +kernel)) rfl), meX11_w2⟩
theorem dX11_beginOne_188 : CalV mX11_beginOne 188 191 mX11_isWord := ⟨202, by decide +kernel, rfl, tb_6 (List.mem_of_getElem? (i := 128) (by decide +kernel)) rfl, meX11_isWord⟩
theorem dX11_beginOne_191 : Ins mX11_beginOne 191 (.ifCond .eq 10) 3 194 := ⟨by decide +kernel, rfl⟩
theorem dX11_beginOne_194 : Ins mX11_beginOne 194 (.aload_n 0) 1 195 := ⟨by decide +kernel, rfl⟩
theorem dX11_beginOne_195 : Ins mX11_beginOne 195 (.bipush 41) 2 197 := ⟨by decide +kernel, rfl⟩
theorem dX11_beginOne_197 : CalV mX11_beginOne 197 200 mX11_opened := ⟨199, by decide +kernel, rfl, tb_6 (List.mem_of_getElem? (i := 213) (by decide +kernel)) rfl, meX11_opened⟩
theorem dX11_beginOne_200 : Ins mX11_beginOne 200 (.ireturn) 1 201 := ⟨by decide +kernel, rfl⟩
theorem dX11_beginOne_201 : Ins mX11_beginOne 201 (.aload_n 0) 1 202 := ⟨by decide +kernel, rfl⟩
theorem dX11_beginOne_202 : Ins mX11_beginOne 202 (.bipush 110) 2 204 := ⟨by decide +kernel, rfl⟩
theorem dX11_beginOne_204 : Ins mX11_beginOne 204 (.bipush 111) 2 206 := ⟨by decide +kernel, rfl⟩
theorem dX11_beginOne_206 : Ins mX11_beginOne 206 (.bipush 116) 2 208 := ⟨by decide +kernel, rfl⟩
theorem dX11_beginOne_208 : CalS mX11_beginOne 208 211 mX11_w3 := ⟨135, by decide +kernel, rfl, Or.inl (tb_6 (List.mem_of_getElem? (i := 122) (by decide +kernel)) rfl), meX11_w3⟩
theorem dX11_beginOne_211 : CalV mX11_beginOne 211 214 mX11_isWord := ⟨202, by decide +kernel, rfl, tb_6 (List.mem_of_getElem? (i := 128) (by decide +kernel)) rfl, meX11_isWord⟩
theorem dX11_beginOne_214 : Ins mX11_beginOne 214 (.ifCond .eq 19) 3 217 := ⟨by decide +kernel, rfl⟩
theorem dX11_beginOne_217 : Ins mX11_beginOne 217 (.aload_n 0) 1 218 := ⟨by decide +kernel, rfl⟩
theorem dX11_beginOne_218 : CalV mX11_beginOne 218 221 mX11_isAskAhead := ⟨206, by decide +kernel, rfl, tb_6 (List.mem_of_getElem? (i := 217) (by decide +kernel)) rfl, meX11_isAskAhead⟩
theorem dX11_beginOne_221 : Ins mX11_beginOne 221 (.ifCond .eq 12) 3 224 := ⟨by decide +kernel, rfl⟩
theorem dX11_beginOne_224 : Ins mX11_beginOne 224 (.aload_n 0) 1 225 := ⟨by decide +kernel, rfl⟩
theorem dX11_beginOne_225 : Ins mX11_beginOne 225 (.bipush 20) 2 227 := ⟨by decide +kernel, rfl⟩
theorem dX11_beginOne_227 : CalV mX11_beginOne 227 230 mX11_opened := ⟨199, by decide +kernel, rfl, tb_6 (List.mem_of_getElem? (i := 213) (by decide +kernel)) rfl, meX11_opened⟩
theorem dX11_beginOne_230 : Ins mX11_beginOne 230 (.goto 4) 3 233 := ⟨by decide +kernel, rfl⟩
theorem dX11_beginOne_233 : Ins mX11_beginOne 233 (.iconst 1) 1 234 := ⟨by decide +kernel, rfl⟩
theorem dX11_beginOne_234 : Ins mX11_beginOne 234 (.ireturn) 1 235 := ⟨by decide +kernel, rfl⟩
