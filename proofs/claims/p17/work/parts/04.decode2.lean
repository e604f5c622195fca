theorem dX5_wantWithin_7 : decode cX5_wantWithin 7 = .ok (.if_icmp .le 11, 3) := by decide +kernel
theorem dX5_wantWithin_10 : decode cX5_wantWithin 10 = .ok (.new 160, 3) := by decide +kernel
theorem dX5_wantWithin_13 : decode cX5_wantWithin 13 = .ok (.dup, 1) := by decide +kernel
theorem dX5_wantWithin_14 : decode cX5_wantWithin 14 = .ok (.invokespecial 162, 3) := by decide +kernel
theorem dX5_wantWithin_17 : decode cX5_wantWithin 17 = .ok (.athrow, 1) := by decide +kernel
theorem dX5_wantWithin_18 : decode cX5_wantWithin 18 = .ok (.return_, 1) := by decide +kernel
theorem dX5_wantBounds_0 : decode cX5_wantBounds 0 = .ok (.iload_n 0, 1) := by decide +kernel
theorem dX5_wantBounds_1 : decode cX5_wantBounds 1 = .ok (.iconst 0, 1) := by decide +kernel
theorem dX5_wantBounds_2 : decode cX5_wantBounds 2 = .ok (.iconst 2, 1) := by decide +kernel
theorem dX5_wantBounds_3 : decode cX5_wantBounds 3 = .ok (.invokestatic 65, 3) := by decide +kernel
theorem dX5_wantBounds_6 : decode cX5_wantBounds 6 = .ok (.iload_n 1, 1) := by decide +kernel
theorem dX5_wantBounds_7 : decode cX5_wantBounds 7 = .ok (.iconst 0, 1) := by decide +kernel
theorem dX5_wantBounds_8 : decode cX5_wantBounds 8 = .ok (.bipush 50, 2) := by decide +kernel
theorem dX5_wantBounds_10 : decode cX5_wantBounds 10 = .ok (.invokestatic 65, 3) := by decide +kernel
theorem dX5_wantBounds_13 : decode cX5_wantBounds 13 = .ok (.iload_n 2, 1) := by decide +kernel
theorem dX5_wantBounds_14 : decode cX5_wantBounds 14 = .ok (.iconst 1, 1) := by decide +kernel
theorem dX5_wantBounds_15 : decode cX5_wantBounds 15 = .ok (.sipush 1000, 3) := by decide +kernel
theorem dX5_wantBounds_18 : decode cX5_wantBounds 18 = .ok (.invokestatic 65, 3) := by decide +kernel
theorem dX5_wantBounds_21 : decode cX5_wantBounds 21 = .ok (.return_, 1) := by decide +kernel
theorem dX5_wantState_0 : decode cX5_wantState 0 = .ok (.iload_n 0, 1) := by decide +kernel
theorem dX5_wantState_1 : decode cX5_wantState 1 = .ok (.ifCond .ne 11, 3) := by decide +kernel
theorem dX5_wantState_4 : decode cX5_wantState 4 = .ok (.new 177, 3) := by decide +kernel
theorem dX5_wantState_7 : decode cX5_wantState 7 = .ok (.dup, 1) := by decide +kernel
theorem dX5_wantState_8 : decode cX5_wantState 8 = .ok (.invokespecial 179, 3) := by decide +kernel
theorem dX5_wantState_11 : decode cX5_wantState 11 = .ok (.athrow, 1) := by decide +kernel
theorem dX5_wantState_12 : decode cX5_wantState 12 = .ok (.return_, 1) := by decide +kernel
theorem dX5_madeNode_0 : decode cX5_madeNode 0 = .ok (.iload_n 1, 1) := by decide +kernel
theorem dX5_madeNode_1 : decode cX5_madeNode 1 = .ok (.iconst 0, 1) := by decide +kernel
theorem dX5_madeNode_2 : decode cX5_madeNode 2 = .ok (.bipush 79, 2) := by decide +kernel
theorem dX5_madeNode_4 : decode cX5_madeNode 4 = .ok (.invokestatic 65, 3) := by decide +kernel
theorem dX5_madeNode_7 : decode cX5_madeNode 7 = .ok (.aload_n 0, 1) := by decide +kernel
theorem dX5_madeNode_8 : decode cX5_madeNode 8 = .ok (.getfield 18, 3) := by decide +kernel
theorem dX5_madeNode_11 : decode cX5_madeNode 11 = .ok (.iload_n 1, 1) := by decide +kernel
theorem dX5_madeNode_12 : decode cX5_madeNode 12 = .ok (.aaload, 1) := by decide +kernel
theorem dX5_madeNode_13 : decode cX5_madeNode 13 = .ok (.astore_n 2, 1) := by decide +kernel
theorem dX5_madeNode_14 : decode cX5_madeNode 14 = .ok (.aload_n 2, 1) := by decide +kernel
theorem dX5_madeNode_15 : decode cX5_madeNode 15 = .ok (.ifnonnull 11, 3) := by decide +kernel
theorem dX5_madeNode_18 : decode cX5_madeNode 18 = .ok (.new 160, 3) := by decide +kernel
theorem dX5_madeNode_21 : decode cX5_madeNode 21 = .ok (.dup, 1) := by decide +kernel
theorem dX5_madeNode_22 : decode cX5_madeNode 22 = .ok (.invokespecial 162, 3) := by decide +kernel
theorem dX5_madeNode_25 : decode cX5_madeNode 25 = .ok (.athrow, 1) := by decide +kernel
theorem dX5_madeNode_26 : decode cX5_madeNode 26 = .ok (.aload_n 2, 1) := by decide +kernel
theorem dX5_madeNode_27 : decode cX5_madeNode 27 = .ok (.areturn, 1) := by decide +kernel
theorem dX5_nodeAt_0 : decode cX5_nodeAt 0 = .ok (.aload_n 0, 1) := by decide +kernel
theorem dX5_nodeAt_1 : decode cX5_nodeAt 1 = .ok (.iload_n 1, 1) := by decide +kernel
theorem dX5_nodeAt_2 : decode cX5_nodeAt 2 = .ok (.invokevirtual 130, 3) := by decide +kernel
theorem dX5_nodeAt_5 : decode cX5_nodeAt 5 = .ok (.astore_n 2, 1) := by decide +kernel
theorem dX5_nodeAt_6 : decode cX5_nodeAt 6 = .ok (.aload_n 2, 1) := by decide +kernel
theorem dX5_nodeAt_7 : decode cX5_nodeAt 7 = .ok (.getfield 113, 3) := by decide +kernel
theorem dX5_nodeAt_10 : decode cX5_nodeAt 10 = .ok (.iconst 2, 1) := by decide +kernel
theorem dX5_nodeAt_11 : decode cX5_nodeAt 11 = .ok (.if_icmp .ne 11, 3) := by decide +kernel
theorem dX5_nodeAt_14 : decode cX5_nodeAt 14 = .ok (.new 160, 3) := by decide +kernel
theorem dX5_nodeAt_17 : decode cX5_nodeAt 17 = .ok (.dup, 1) := by decide +kernel
theorem dX5_nodeAt_18 : decode cX5_nodeAt 18 = .ok (.invokespecial 162, 3) := by decide +kernel
theorem dX5_nodeAt_21 : decode cX5_nodeAt 21 = .ok (.athrow, 1) := by decide +kernel
theorem dX5_nodeAt_22 : decode cX5_nodeAt 22 = .ok (.aload_n 2, 1) := by decide +kernel
theorem dX5_nodeAt_23 : decode cX5_nodeAt 23 = .ok (.areturn, 1) := by decide +kernel
theorem dX5_keeperAt_0 : decode cX5_keeperAt 0 = .ok (.aload_n 0, 1) := by decide +kernel
theorem dX5_keeperAt_1 : decode cX5_keeperAt 1 = .ok (.iload_n 1, 1) := by decide +kernel
theorem dX5_keeperAt_2 : decode cX5_keeperAt 2 = .ok (.invokevirtual 109, 3) := by decide +kernel
theorem dX5_keeperAt_5 : decode cX5_keeperAt 5 = .ok (.astore_n 3, 1) := by decide +kernel
theorem dX5_keeperAt_6 : decode cX5_keeperAt 6 = .ok (.aload_n 3, 1) := by decide +kernel
theorem dX5_keeperAt_7 : decode cX5_keeperAt 7 = .ok (.instanceof 22, 3) := by decide +kernel
theorem dX5_keeperAt_10 : decode cX5_keeperAt 10 = .ok (.ifCond .eq 10, 3) := by decide +kernel
theorem dX5_keeperAt_13 : decode cX5_keeperAt 13 = .ok (.aload_n 3, 1) := by decide +kernel
theorem dX5_keeperAt_14 : decode cX5_keeperAt 14 = .ok (.checkcast 22, 3) := by decide +kernel
theorem dX5_keeperAt_17 : decode cX5_keeperAt 17 = .ok (.astore_n 2, 1) := by decide +kernel
theorem dX5_keeperAt_18 : decode cX5_keeperAt 18 = .ok (.aload_n 2, 1) := by decide +kernel
theorem dX5_keeperAt_19 : decode cX5_keeperAt 19 = .ok (.areturn, 1) := by decide +kernel
theorem dX5_keeperAt_20 : decode cX5_keeperAt 20 = .ok (.new 160, 3) := by decide +kernel
theorem dX5_keeperAt_23 : decode cX5_keeperAt 23 = .ok (.dup, 1) := by decide +kernel
theorem dX5_keeperAt_24 : decode cX5_keeperAt 24 = .ok (.invokespecial 162, 3) := by decide +kernel
theorem dX5_keeperAt_27 : decode cX5_keeperAt 27 = .ok (.athrow, 1) := by decide +kernel
theorem dX5_workerAt_0 : decode cX5_workerAt 0 = .ok (.aload_n 0, 1) := by decide +kernel
theorem dX5_workerAt_1 : decode cX5_workerAt 1 = .ok (.iload_n 1, 1) := by decide +kernel
theorem dX5_workerAt_2 : decode cX5_workerAt 2 = .ok (.invokevirtual 109, 3) := by decide +kernel
theorem dX5_workerAt_5 : decode cX5_workerAt 5 = .ok (.astore_n 3, 1) := by decide +kernel
theorem dX5_workerAt_6 : decode cX5_workerAt 6 = .ok (.aload_n 3, 1) := by decide +kernel
theorem dX5_workerAt_7 : decode cX5_workerAt 7 = .ok (.instanceof 83, 3) := by decide +kernel
theorem dX5_workerAt_10 : decode cX5_workerAt 10 = .ok (.ifCond .eq 10, 3) := by decide +kernel
theorem dX5_workerAt_13 : decode cX5_workerAt 13 = .ok (.aload_n 3, 1) := by decide +kernel
theorem dX5_workerAt_14 : decode cX5_workerAt 14 = .ok (.checkcast 83, 3) := by decide +kernel
theorem dX5_workerAt_17 : decode cX5_workerAt 17 = .ok (.astore_n 2, 1) := by decide +kernel
theorem dX5_workerAt_18 : decode cX5_workerAt 18 = .ok (.aload_n 2, 1) := by decide +kernel
theorem dX5_workerAt_19 : decode cX5_workerAt 19 = .ok (.areturn, 1) := by decide +kernel
theorem dX5_workerAt_20 : decode cX5_workerAt 20 = .ok (.new 160, 3) := by decide +kernel
theorem dX5_workerAt_23 : decode cX5_workerAt 23 = .ok (.dup, 1) := by decide +kernel
theorem dX5_workerAt_24 : decode cX5_workerAt 24 = .ok (.invokespecial 162, 3) := by decide +kernel
theorem dX5_workerAt_27 : decode cX5_workerAt 27 = .ok (.athrow, 1) := by decide +kernel
theorem dX5_ownerOf_0 : decode cX5_ownerOf 0 = .ok (.aload_n 0, 1) := by decide +kernel
theorem dX5_ownerOf_1 : decode cX5_ownerOf 1 = .ok (.getfield 133, 3) := by decide +kernel
theorem dX5_ownerOf_4 : decode cX5_ownerOf 4 = .ok (.ifnonnull 11, 3) := by decide +kernel
theorem dX5_ownerOf_7 : decode cX5_ownerOf 7 = .ok (.new 160, 3) := by decide +kernel
theorem dX5_ownerOf_10 : decode cX5_ownerOf 10 = .ok (.dup, 1) := by decide +kernel
theorem dX5_ownerOf_11 : decode cX5_ownerOf 11 = .ok (.invokespecial 162, 3) := by decide +kernel
theorem dX5_ownerOf_14 : decode cX5_ownerOf 14 = .ok (.athrow, 1) := by decide +kernel
theorem dX5_ownerOf_15 : decode cX5_ownerOf 15 = .ok (.aload_n 0, 1) := by decide +kernel
theorem dX5_ownerOf_16 : decode cX5_ownerOf 16 = .ok (.getfield 133, 3) := by decide +kernel
theorem dX5_ownerOf_19 : decode cX5_ownerOf 19 = .ok (.areturn, 1) := by decide +kernel
theorem dX5_hasRoomBelow_0 : decode cX5_hasRoomBelow 0 = .ok (.aload_n 0, 1) := by decide +kernel
theorem dX5_hasRoomBelow_1 : decode cX5_hasRoomBelow 1 = .ok (.getfield 31, 3) := by decide +kernel
theorem dX5_hasRoomBelow_4 : decode cX5_hasRoomBelow 4 = .ok (.bipush 80, 2) := by decide +kernel
theorem dX5_hasRoomBelow_6 : decode cX5_hasRoomBelow 6 = .ok (.if_icmp .ge 16, 3) := by decide +kernel
theorem dX5_hasRoomBelow_9 : decode cX5_hasRoomBelow 9 = .ok (.aload_n 1, 1) := by decide +kernel
theorem dX5_hasRoomBelow_10 : decode cX5_hasRoomBelow 10 = .ok (.getfield 180, 3) := by decide +kernel
theorem dX5_hasRoomBelow_13 : decode cX5_hasRoomBelow 13 = .ok (.bipush 8, 2) := by decide +kernel
theorem dX5_hasRoomBelow_15 : decode cX5_hasRoomBelow 15 = .ok (.if_icmp .ge 7, 3) := by decide +kernel
theorem dX5_hasRoomBelow_18 : decode cX5_hasRoomBelow 18 = .ok (.iconst 1, 1) := by decide +kernel
theorem dX5_hasRoomBelow_19 : decode cX5_hasRoomBelow 19 = .ok (.goto 4, 3) := by decide +kernel
theorem dX5_hasRoomBelow_22 : decode cX5_hasRoomBelow 22 = .ok (.iconst 0, 1) := by decide +kernel
theorem dX5_hasRoomBelow_23 : decode cX5_hasRoomBelow 23 = .ok (.ireturn, 1) := by decide +kernel
theorem dX5_join_0 : decode cX5_join 0 = .ok (.aload_n 0, 1) := by decide +kernel
theorem dX5_join_1 : decode cX5_join 1 = .ok (.getfield 18, 3) := by decide +kernel
theorem dX5_join_4 : decode cX5_join 4 = .ok (.aload_n 1, 1) := by decide +kernel
theorem dX5_join_5 : decode cX5_join 5 = .ok (.getfield 167, 3) := by decide +kernel
theorem dX5_join_8 : decode cX5_join 8 = .ok (.aload_n 1, 1) := by decide +kernel
theorem dX5_join_9 : decode cX5_join 9 = .ok (.aastore, 1) := by decide +kernel
theorem dX5_join_10 : decode cX5_join 10 = .ok (.aload_n 2, 1) := by decide +kernel
theorem dX5_join_11 : decode cX5_join 11 = .ok (.getfield 146, 3) := by decide +kernel
theorem dX5_join_14 : decode cX5_join 14 = .ok (.aload_n 1, 1) := by decide +kernel
theorem dX5_join_15 : decode cX5_join 15 = .ok (.invokevirtual 181, 3) := by decide +kernel
theorem dX5_join_18 : decode cX5_join 18 = .ok (.pop, 1) := by decide +kernel
theorem dX5_join_19 : decode cX5_join 19 = .ok (.aload_n 0, 1) := by decide +kernel
theorem dX5_join_20 : decode cX5_join 20 = .ok (.dup, 1) := by decide +kernel
theorem dX5_join_21 : decode cX5_join 21 = .ok (.getfield 31, 3) := by decide +kernel
theorem dX5_join_24 : decode cX5_join 24 = .ok (.iconst 1, 1) := by decide +kernel
theorem dX5_join_25 : decode cX5_join 25 = .ok (.iadd, 1) := by decide +kernel
theorem dX5_join_26 : decode cX5_join 26 = .ok (.putfield 31, 3) := by decide +kernel
theorem dX5_join_29 : decode cX5_join 29 = .ok (.return_, 1) := by decide +kernel
theorem dX5_countIn_0 : decode cX5_countIn 0 = .ok (.iconst 0, 1) := by decide +kernel
theorem dX5_countIn_1 : decode cX5_countIn 1 = .ok (.istore_n 2, 1) := by decide +kernel
theorem dX5_countIn_2 : decode cX5_countIn 2 = .ok (.iconst 0, 1) := by decide +kernel
theorem dX5_countIn_3 : decode cX5_countIn 3 = .ok (.istore_n 3, 1) := by decide +kernel
theorem dX5_countIn_4 : decode cX5_countIn 4 = .ok (.iload_n 3, 1) := by decide +kernel
theorem dX5_countIn_5 : decode cX5_countIn 5 = .ok (.bipush 80, 2) := by decide +kernel
theorem dX5_countIn_7 : decode cX5_countIn 7 = .ok (.if_icmp .ge 34, 3) := by decide +kernel
theorem dX5_countIn_10 : decode cX5_countIn 10 = .ok (.aload_n 0, 1) := by decide +kernel
theorem dX5_countIn_11 : decode cX5_countIn 11 = .ok (.getfield 18, 3) := by decide +kernel
theorem dX5_countIn_14 : decode cX5_countIn 14 = .ok (.iload_n 3, 1) := by decide +kernel
theorem dX5_countIn_15 : decode cX5_countIn 15 = .ok (.aaload, 1) := by decide +kernel
theorem dX5_countIn_16 : decode cX5_countIn 16 = .ok (.astore 4, 2) := by decide +kernel
theorem dX5_countIn_18 : decode cX5_countIn 18 = .ok (.aload 4, 2) := by decide +kernel
theorem dX5_countIn_20 : decode cX5_countIn 20 = .ok (.ifnull 15, 3) := by decide +kernel
theorem dX5_countIn_23 : decode cX5_countIn 23 = .ok (.aload 4, 2) := by decide +kernel
theorem dX5_countIn_25 : decode cX5_countIn 25 = .ok (.getfield 113, 3) := by decide +kernel
theorem dX5_countIn_28 : decode cX5_countIn 28 = .ok (.iload_n 1, 1) := by decide +kernel
theorem dX5_countIn_29 : decode cX5_countIn 29 = .ok (.if_icmp .ne 6, 3) := by decide +kernel
theorem dX5_countIn_32 : decode cX5_countIn 32 = .ok (.iinc 2 1, 3) := by decide +kernel
theorem dX5_countIn_35 : decode cX5_countIn 35 = .ok (.iinc 3 1, 3) := by decide +kernel
theorem dX5_countIn_38 : decode cX5_countIn 38 = .ok (.goto (-34), 3) := by decide +kernel
theorem dX5_countIn_41 : decode cX5_countIn 41 = .ok (.iload_n 2, 1) := by decide +kernel
theorem dX5_countIn_42 : decode cX5_countIn 42 = .ok (.ireturn, 1) := by decide +kernel
theorem dX5_handleEnd_0 : decode cX5_handleEnd 0 = .ok (.aload_n 1, 1) := by decide +kernel
theorem dX5_handleEnd_1 : decode cX5_handleEnd 1 = .ok (.astore_n 3, 1) := by decide +kernel
theorem dX5_handleEnd_2 : decode cX5_handleEnd 2 = .ok (.iload_n 2, 1) := by decide +kernel
theorem dX5_handleEnd_3 : decode cX5_handleEnd 3 = .ok (.istore 4, 2) := by decide +kernel
theorem dX5_handleEnd_5 : decode cX5_handleEnd 5 = .ok (.iconst 0, 1) := by decide +kernel
theorem dX5_handleEnd_6 : decode cX5_handleEnd 6 = .ok (.istore 5, 2) := by decide +kernel
theorem dX5_handleEnd_8 : decode cX5_handleEnd 8 = .ok (.iload 5, 2) := by decide +kernel
theorem dX5_handleEnd_10 : decode cX5_handleEnd 10 = .ok (.bipush 8, 2) := by decide +kernel
theorem dX5_handleEnd_12 : decode cX5_handleEnd 12 = .ok (.if_icmp .gt 73, 3) := by decide +kernel
theorem dX5_handleEnd_15 : decode cX5_handleEnd 15 = .ok (.aload_n 3, 1) := by decide +kernel
theorem dX5_handleEnd_16 : decode cX5_handleEnd 16 = .ok (.getfield 133, 3) := by decide +kernel
theorem dX5_handleEnd_19 : decode cX5_handleEnd 19 = .ok (.astore 6, 2) := by decide +kernel
theorem dX5_handleEnd_21 : decode cX5_handleEnd 21 = .ok (.aload 6, 2) := by decide +kernel
theorem dX5_handleEnd_23 : decode cX5_handleEnd 23 = .ok (.ifnonnull 4, 3) := by decide +kernel
theorem dX5_handleEnd_26 : decode cX5_handleEnd 26 = .ok (.return_, 1) := by decide +kernel
theorem dX5_handleEnd_27 : decode cX5_handleEnd 27 = .ok (.aload_n 3, 1) := by decide +kernel
theorem dX5_handleEnd_28 : decode cX5_handleEnd 28 = .ok (.getfield 143, 3) := by decide +kernel
theorem dX5_handleEnd_31 : decode cX5_handleEnd 31 = .ok (.iconst 2, 1) := by decide +kernel
theorem dX5_handleEnd_32 : decode cX5_handleEnd 32 = .ok (.if_icmp .ne 15, 3) := by decide +kernel
theorem dX5_handleEnd_35 : decode cX5_handleEnd 35 = .ok (.aload 6, 2) := by decide +kernel
theorem dX5_handleEnd_37 : decode cX5_handleEnd 37 = .ok (.aload_n 3, 1) := by decide +kernel
theorem dX5_handleEnd_38 : decode cX5_handleEnd 38 = .ok (.aload_n 0, 1) := by decide +kernel
theorem dX5_handleEnd_39 : decode cX5_handleEnd 39 = .ok (.getfield 10, 3) := by decide +kernel
theorem dX5_handleEnd_42 : decode cX5_handleEnd 42 = .ok (.invokevirtual 89, 3) := by decide +kernel
theorem dX5_handleEnd_45 : decode cX5_handleEnd 45 = .ok (.pop, 1) := by decide +kernel
theorem dX5_handleEnd_46 : decode cX5_handleEnd 46 = .ok (.return_, 1) := by decide +kernel
theorem dX5_handleEnd_47 : decode cX5_handleEnd 47 = .ok (.aload_n 3, 1) := by decide +kernel
theorem dX5_handleEnd_48 : decode cX5_handleEnd 48 = .ok (.getfield 143, 3) := by decide +kernel
theorem dX5_handleEnd_51 : decode cX5_handleEnd 51 = .ok (.iconst 1, 1) := by decide +kernel
theorem dX5_handleEnd_52 : decode cX5_handleEnd 52 = .ok (.if_icmp .ne 10, 3) := by decide +kernel
theorem dX5_handleEnd_55 : decode cX5_handleEnd 55 = .ok (.iload 4, 2) := by decide +kernel
theorem dX5_handleEnd_57 : decode cX5_handleEnd 57 = .ok (.iconst 1, 1) := by decide +kernel
theorem dX5_handleEnd_58 : decode cX5_handleEnd 58 = .ok (.if_icmp .gt 4, 3) := by decide +kernel
theorem dX5_handleEnd_61 : decode cX5_handleEnd 61 = .ok (.return_, 1) := by decide +kernel
theorem dX5_handleEnd_62 : decode cX5_handleEnd 62 = .ok (.aload_n 0, 1) := by decide +kernel
theorem dX5_handleEnd_63 : decode cX5_handleEnd 63 = .ok (.aload 6, 2) := by decide +kernel
theorem dX5_handleEnd_65 : decode cX5_handleEnd 65 = .ok (.aload_n 3, 1) := by decide +kernel
theorem dX5_handleEnd_66 : decode cX5_handleEnd 66 = .ok (.invokevirtual 185, 3) := by decide +kernel
theorem dX5_handleEnd_69 : decode cX5_handleEnd 69 = .ok (.ifCond .eq 4, 3) := by decide +kernel
theorem dX5_handleEnd_72 : decode cX5_handleEnd 72 = .ok (.return_, 1) := by decide +kernel
theorem dX5_handleEnd_73 : decode cX5_handleEnd 73 = .ok (.aload 6, 2) := by decide +kernel
theorem dX5_handleEnd_75 : decode cX5_handleEnd 75 = .ok (.astore_n 3, 1) := by decide +kernel
theorem dX5_handleEnd_76 : decode cX5_handleEnd 76 = .ok (.iconst 1, 1) := by decide +kernel
theorem dX5_handleEnd_77 : decode cX5_handleEnd 77 = .ok (.istore 4, 2) := by decide +kernel
theorem dX5_handleEnd_79 : decode cX5_handleEnd 79 = .ok (.iinc 5 1, 3) := by decide +kernel
theorem dX5_handleEnd_82 : decode cX5_handleEnd 82 = .ok (.goto (-74), 3) := by decide +kernel
theorem dX5_handleEnd_85 : decode cX5_handleEnd 85 = .ok (.return_, 1) := by decide +kernel
theorem dX5_restartOrGiveUp_0 : decode cX5_restartOrGiveUp 0 = .ok (.aload_n 2, 1) := by decide +kernel
theorem dX5_restartOrGiveUp_1 : decode cX5_restartOrGiveUp 1 = .ok (.astore_n 3, 1) := by decide +kernel
theorem dX5_restartOrGiveUp_2 : decode cX5_restartOrGiveUp 2 = .ok (.iconst 0, 1) := by decide +kernel
theorem dX5_restartOrGiveUp_3 : decode cX5_restartOrGiveUp 3 = .ok (.istore 4, 2) := by decide +kernel
theorem dX5_restartOrGiveUp_5 : decode cX5_restartOrGiveUp 5 = .ok (.iload 4, 2) := by decide +kernel
theorem dX5_restartOrGiveUp_7 : decode cX5_restartOrGiveUp 7 = .ok (.ldc 189, 2) := by decide +kernel
theorem dX5_restartOrGiveUp_9 : decode cX5_restartOrGiveUp 9 = .ok (.if_icmp .ge 144, 3) := by decide +kernel
theorem dX5_restartOrGiveUp_12 : decode cX5_restartOrGiveUp 12 = .ok (.aload_n 0, 1) := by decide +kernel
theorem dX5_restartOrGiveUp_13 : decode cX5_restartOrGiveUp 13 = .ok (.dup, 1) := by decide +kernel
theorem dX5_restartOrGiveUp_14 : decode cX5_restartOrGiveUp 14 = .ok (.getfield 35, 3) := by decide +kernel
theorem dX5_restartOrGiveUp_17 : decode cX5_restartOrGiveUp 17 = .ok (.iconst 1, 1) := by decide +kernel
theorem dX5_restartOrGiveUp_18 : decode cX5_restartOrGiveUp 18 = .ok (.iadd, 1) := by decide +kernel
theorem dX5_restartOrGiveUp_19 : decode cX5_restartOrGiveUp 19 = .ok (.putfield 35, 3) := by decide +kernel
theorem dX5_restartOrGiveUp_22 : decode cX5_restartOrGiveUp 22 = .ok (.aload_n 1, 1) := by decide +kernel
theorem dX5_restartOrGiveUp_23 : decode cX5_restartOrGiveUp 23 = .ok (.getfield 190, 3) := by decide +kernel
theorem dX5_restartOrGiveUp_26 : decode cX5_restartOrGiveUp 26 = .ok (.aload_n 0, 1) := by decide +kernel
theorem dX5_restartOrGiveUp_27 : decode cX5_restartOrGiveUp 27 = .ok (.getfield 10, 3) := by decide +kernel
theorem dX5_restartOrGiveUp_30 : decode cX5_restartOrGiveUp 30 = .ok (.getfield 127, 3) := by decide +kernel
theorem dX5_restartOrGiveUp_33 : decode cX5_restartOrGiveUp 33 = .ok (.invokevirtual 194, 3) := by decide +kernel
theorem dX5_restartOrGiveUp_36 : decode cX5_restartOrGiveUp 36 = .ok (.aload_n 1, 1) := by decide +kernel
theorem dX5_restartOrGiveUp_37 : decode cX5_restartOrGiveUp 37 = .ok (.aload_n 0, 1) := by decide +kernel
theorem dX5_restartOrGiveUp_38 : decode cX5_restartOrGiveUp 38 = .ok (.getfield 10, 3) := by decide +kernel
theorem dX5_restartOrGiveUp_41 : decode cX5_restartOrGiveUp 41 = .ok (.getfield 127, 3) := by decide +kernel
theorem dX5_restartOrGiveUp_44 : decode cX5_restartOrGiveUp 44 = .ok (.invokevirtual 156, 3) := by decide +kernel
theorem dX5_restartOrGiveUp_47 : decode cX5_restartOrGiveUp 47 = .ok (.aload_n 1, 1) := by decide +kernel
theorem dX5_restartOrGiveUp_48 : decode cX5_restartOrGiveUp 48 = .ok (.getfield 55, 3) := by decide +kernel
theorem dX5_restartOrGiveUp_51 : decode cX5_restartOrGiveUp 51 = .ok (.if_icmp .le 23, 3) := by decide +kernel
theorem dX5_restartOrGiveUp_54 : decode cX5_restartOrGiveUp 54 = .ok (.aload_n 0, 1) := by decide +kernel
theorem dX5_restartOrGiveUp_55 : decode cX5_restartOrGiveUp 55 = .ok (.dup, 1) := by decide +kernel
theorem dX5_restartOrGiveUp_56 : decode cX5_restartOrGiveUp 56 = .ok (.getfield 38, 3) := by decide +kernel
theorem dX5_restartOrGiveUp_59 : decode cX5_restartOrGiveUp 59 = .ok (.iconst 1, 1) := by decide +kernel
theorem dX5_restartOrGiveUp_60 : decode cX5_restartOrGiveUp 60 = .ok (.iadd, 1) := by decide +kernel
theorem dX5_restartOrGiveUp_61 : decode cX5_restartOrGiveUp 61 = .ok (.putfield 38, 3) := by decide +kernel
theorem dX5_restartOrGiveUp_64 : decode cX5_restartOrGiveUp 64 = .ok (.aload_n 1, 1) := by decide +kernel
theorem dX5_restartOrGiveUp_65 : decode cX5_restartOrGiveUp 65 = .ok (.aload_n 0, 1) := by decide +kernel
theorem dX5_restartOrGiveUp_66 : decode cX5_restartOrGiveUp 66 = .ok (.getfield 10, 3) := by decide +kernel
theorem dX5_restartOrGiveUp_69 : decode cX5_restartOrGiveUp 69 = .ok (.invokevirtual 199, 3) := by decide +kernel
theorem dX5_restartOrGiveUp_72 : decode cX5_restartOrGiveUp 72 = .ok (.iconst 0, 1) := by decide +kernel
theorem dX5_restartOrGiveUp_73 : decode cX5_restartOrGiveUp 73 = .ok (.ireturn, 1) := by decide +kernel
theorem dX5_restartOrGiveUp_74 : decode cX5_restartOrGiveUp 74 = .ok (.aload_n 1, 1) := by decide +kernel
theorem dX5_restartOrGiveUp_75 : decode cX5_restartOrGiveUp 75 = .ok (.getfield 52, 3) := by decide +kernel
theorem dX5_restartOrGiveUp_78 : decode cX5_restartOrGiveUp 78 = .ok (.ifCond .ne 23, 3) := by decide +kernel
theorem dX5_restartOrGiveUp_81 : decode cX5_restartOrGiveUp 81 = .ok (.aload_n 3, 1) := by decide +kernel
theorem dX5_restartOrGiveUp_82 : decode cX5_restartOrGiveUp 82 = .ok (.aload_n 0, 1) := by decide +kernel
theorem dX5_restartOrGiveUp_83 : decode cX5_restartOrGiveUp 83 = .ok (.getfield 10, 3) := by decide +kernel
theorem dX5_restartOrGiveUp_86 : decode cX5_restartOrGiveUp 86 = .ok (.invokevirtual 126, 3) := by decide +kernel
theorem dX5_restartOrGiveUp_89 : decode cX5_restartOrGiveUp 89 = .ok (.ifCond .eq 7, 3) := by decide +kernel
theorem dX5_restartOrGiveUp_92 : decode cX5_restartOrGiveUp 92 = .ok (.aconst_null, 1) := by decide +kernel
theorem dX5_restartOrGiveUp_93 : decode cX5_restartOrGiveUp 93 = .ok (.goto 4, 3) := by decide +kernel
theorem dX5_restartOrGiveUp_96 : decode cX5_restartOrGiveUp 96 = .ok (.aload_n 3, 1) := by decide +kernel
theorem dX5_restartOrGiveUp_97 : decode cX5_restartOrGiveUp 97 = .ok (.astore_n 3, 1) := by decide +kernel
theorem dX5_restartOrGiveUp_98 : decode cX5_restartOrGiveUp 98 = .ok (.goto 43, 3) := by decide +kernel
theorem dX5_restartOrGiveUp_101 : decode cX5_restartOrGiveUp 101 = .ok (.aload_n 1, 1) := by decide +kernel
theorem dX5_restartOrGiveUp_102 : decode cX5_restartOrGiveUp 102 = .ok (.getfield 52, 3) := by decide +kernel
theorem dX5_restartOrGiveUp_105 : decode cX5_restartOrGiveUp 105 = .ok (.iconst 1, 1) := by decide +kernel
theorem dX5_restartOrGiveUp_106 : decode cX5_restartOrGiveUp 106 = .ok (.if_icmp .ne 7, 3) := by decide +kernel
theorem dX5_restartOrGiveUp_109 : decode cX5_restartOrGiveUp 109 = .ok (.iconst 0, 1) := by decide +kernel
theorem dX5_restartOrGiveUp_110 : decode cX5_restartOrGiveUp 110 = .ok (.goto 8, 3) := by decide +kernel
theorem dX5_restartOrGiveUp_113 : decode cX5_restartOrGiveUp 113 = .ok (.aload_n 1, 1) := by decide +kernel
theorem dX5_restartOrGiveUp_114 : decode cX5_restartOrGiveUp 114 = .ok (.aload_n 3, 1) := by decide +kernel
theorem dX5_restartOrGiveUp_115 : decode cX5_restartOrGiveUp 115 = .ok (.invokevirtual 136, 3) := by decide +kernel
theorem dX5_restartOrGiveUp_118 : decode cX5_restartOrGiveUp 118 = .ok (.istore 5, 2) := by decide +kernel
theorem dX5_restartOrGiveUp_120 : decode cX5_restartOrGiveUp 120 = .ok (.aload_n 1, 1) := by decide +kernel
theorem dX5_restartOrGiveUp_121 : decode cX5_restartOrGiveUp 121 = .ok (.iload 5, 2) := by decide +kernel
theorem dX5_restartOrGiveUp_123 : decode cX5_restartOrGiveUp 123 = .ok (.aload_n 0, 1) := by decide +kernel
theorem dX5_restartOrGiveUp_124 : decode cX5_restartOrGiveUp 124 = .ok (.getfield 10, 3) := by decide +kernel
theorem dX5_restartOrGiveUp_127 : decode cX5_restartOrGiveUp 127 = .ok (.invokevirtual 203, 3) := by decide +kernel
theorem dX5_restartOrGiveUp_130 : decode cX5_restartOrGiveUp 130 = .ok (.aload_n 1, 1) := by decide +kernel
theorem dX5_restartOrGiveUp_131 : decode cX5_restartOrGiveUp 131 = .ok (.iload 5, 2) := by decide +kernel
theorem dX5_restartOrGiveUp_133 : decode cX5_restartOrGiveUp 133 = .ok (.aload_n 0, 1) := by decide +kernel
theorem dX5_restartOrGiveUp_134 : decode cX5_restartOrGiveUp 134 = .ok (.getfield 10, 3) := by decide +kernel
theorem dX5_restartOrGiveUp_137 : decode cX5_restartOrGiveUp 137 = .ok (.invokevirtual 207, 3) := by decide +kernel
theorem dX5_restartOrGiveUp_140 : decode cX5_restartOrGiveUp 140 = .ok (.astore_n 3, 1) := by decide +kernel
theorem dX5_restartOrGiveUp_141 : decode cX5_restartOrGiveUp 141 = .ok (.aload_n 3, 1) := by decide +kernel
theorem dX5_restartOrGiveUp_142 : decode cX5_restartOrGiveUp 142 = .ok (.ifnonnull 5, 3) := by decide +kernel
theorem dX5_restartOrGiveUp_145 : decode cX5_restartOrGiveUp 145 = .ok (.iconst 1, 1) := by decide +kernel
theorem dX5_restartOrGiveUp_146 : decode cX5_restartOrGiveUp 146 = .ok (.ireturn, 1) := by decide +kernel
theorem dX5_restartOrGiveUp_147 : decode cX5_restartOrGiveUp 147 = .ok (.iinc 4 1, 3) := by decide +kernel
theorem dX5_restartOrGiveUp_150 : decode cX5_restartOrGiveUp 150 = .ok (.goto (-145), 3) := by decide +kernel
theorem dX5_restartOrGiveUp_153 : decode cX5_restartOrGiveUp 153 = .ok (.iconst 1, 1) := by decide +kernel
theorem dX5_restartOrGiveUp_154 : decode cX5_restartOrGiveUp 154 = .ok (.ireturn, 1) := by decide +kernel
theorem dX6_init_0 : decode cX6_init 0 = .ok (.aload_n 0, 1) := by decide +kernel
theorem dX6_init_1 : decode cX6_init 1 = .ok (.invokespecial 1, 3) := by decide +kernel
theorem dX6_init_4 : decode cX6_init 4 = .ok (.aload_n 0, 1) := by decide +kernel
theorem dX6_init_5 : decode cX6_init 5 = .ok (.bipush 80, 2) := by decide +kernel
theorem dX6_init_7 : decode cX6_init 7 = .ok (.newarray .boolean, 2) := by decide +kernel
theorem dX6_init_9 : decode cX6_init 9 = .ok (.putfield 7, 3) := by decide +kernel
theorem dX6_init_12 : decode cX6_init 12 = .ok (.aload_n 0, 1) := by decide +kernel
theorem dX6_init_13 : decode cX6_init 13 = .ok (.bipush 80, 2) := by decide +kernel
theorem dX6_init_15 : decode cX6_init 15 = .ok (.newarray .int, 2) := by decide +kernel
theorem dX6_init_17 : decode cX6_init 17 = .ok (.putfield 13, 3) := by decide +kernel
theorem dX6_init_20 : decode cX6_init 20 = .ok (.aload_n 0, 1) := by decide +kernel
theorem dX6_init_21 : decode cX6_init 21 = .ok (.bipush 80, 2) := by decide +kernel
theorem dX6_init_23 : decode cX6_init 23 = .ok (.newarray .int, 2) := by decide +kernel
theorem dX6_init_25 : decode cX6_init 25 = .ok (.putfield 17, 3) := by decide +kernel
theorem dX6_init_28 : decode cX6_init 28 = .ok (.aload_n 0, 1) := by decide +kernel
theorem dX6_init_29 : decode cX6_init 29 = .ok (.bipush 80, 2) := by decide +kernel
theorem dX6_init_31 : decode cX6_init 31 = .ok (.newarray .int, 2) := by decide +kernel
theorem dX6_init_33 : decode cX6_init 33 = .ok (.putfield 20, 3) := by decide +kernel
theorem dX6_init_36 : decode cX6_init 36 = .ok (.aload_n 0, 1) := by decide +kernel
theorem dX6_init_37 : decode cX6_init 37 = .ok (.bipush 80, 2) := by decide +kernel
theorem dX6_init_39 : decode cX6_init 39 = .ok (.newarray .int, 2) := by decide +kernel
theorem dX6_init_41 : decode cX6_init 41 = .ok (.putfield 23, 3) := by decide +kernel
theorem dX6_init_44 : decode cX6_init 44 = .ok (.aload_n 0, 1) := by decide +kernel
theorem dX6_init_45 : decode cX6_init 45 = .ok (.bipush 80, 2) := by decide +kernel
theorem dX6_init_47 : decode cX6_init 47 = .ok (.newarray .int, 2) := by decide +kernel
theorem dX6_init_49 : decode cX6_init 49 = .ok (.putfield 26, 3) := by decide +kernel
theorem dX6_init_52 : decode cX6_init 52 = .ok (.aload_n 0, 1) := by decide +kernel
theorem dX6_init_53 : decode cX6_init 53 = .ok (.bipush 80, 2) := by decide +kernel
theorem dX6_init_55 : decode cX6_init 55 = .ok (.newarray .int, 2) := by decide +kernel
theorem dX6_init_57 : decode cX6_init 57 = .ok (.putfield 29, 3) := by decide +kernel
theorem dX6_init_60 : decode cX6_init 60 = .ok (.aload_n 0, 1) := by decide +kernel
theorem dX6_init_61 : decode cX6_init 61 = .ok (.bipush 80, 2) := by decide +kernel
theorem dX6_init_63 : decode cX6_init 63 = .ok (.newarray .int, 2) := by decide +kernel
theorem dX6_init_65 : decode cX6_init 65 = .ok (.putfield 32, 3) := by decide +kernel
theorem dX6_init_68 : decode cX6_init 68 = .ok (.aload_n 0, 1) := by decide +kernel
theorem dX6_init_69 : decode cX6_init 69 = .ok (.bipush 80, 2) := by decide +kernel
theorem dX6_init_71 : decode cX6_init 71 = .ok (.newarray .int, 2) := by decide +kernel
theorem dX6_init_73 : decode cX6_init 73 = .ok (.putfield 35, 3) := by decide +kernel
theorem dX6_init_76 : decode cX6_init 76 = .ok (.aload_n 0, 1) := by decide +kernel
theorem dX6_init_77 : decode cX6_init 77 = .ok (.bipush 80, 2) := by decide +kernel
theorem dX6_init_79 : decode cX6_init 79 = .ok (.newarray .int, 2) := by decide +kernel
theorem dX6_init_81 : decode cX6_init 81 = .ok (.putfield 38, 3) := by decide +kernel
theorem dX6_init_84 : decode cX6_init 84 = .ok (.aload_n 0, 1) := by decide +kernel
theorem dX6_init_85 : decode cX6_init 85 = .ok (.bipush 80, 2) := by decide +kernel
theorem dX6_init_87 : decode cX6_init 87 = .ok (.newarray .int, 2) := by decide +kernel
theorem dX6_init_89 : decode cX6_init 89 = .ok (.putfield 41, 3) := by decide +kernel
theorem dX6_init_92 : decode cX6_init 92 = .ok (.aload_n 0, 1) := by decide +kernel
theorem dX6_init_93 : decode cX6_init 93 = .ok (.bipush 80, 2) := by decide +kernel
theorem dX6_init_95 : decode cX6_init 95 = .ok (.newarray .int, 2) := by decide +kernel
theorem dX6_init_97 : decode cX6_init 97 = .ok (.putfield 44, 3) := by decide +kernel
theorem dX6_init_100 : decode cX6_init 100 = .ok (.aload_n 0, 1) := by decide +kernel
theorem dX6_init_101 : decode cX6_init 101 = .ok (.sipush 6400, 3) := by decide +kernel
theorem dX6_init_104 : decode cX6_init 104 = .ok (.newarray .int, 2) := by decide +kernel
theorem dX6_init_106 : decode cX6_init 106 = .ok (.putfield 47, 3) := by decide +kernel
theorem dX6_init_109 : decode cX6_init 109 = .ok (.aload_n 0, 1) := by decide +kernel
theorem dX6_init_110 : decode cX6_init 110 = .ok (.bipush 80, 2) := by decide +kernel
theorem dX6_init_112 : decode cX6_init 112 = .ok (.newarray .int, 2) := by decide +kernel
theorem dX6_init_114 : decode cX6_init 114 = .ok (.putfield 50, 3) := by decide +kernel
theorem dX6_init_117 : decode cX6_init 117 = .ok (.aload_n 0, 1) := by decide +kernel
theorem dX6_init_118 : decode cX6_init 118 = .ok (.sipush 4160, 3) := by decide +kernel
theorem dX6_init_121 : decode cX6_init 121 = .ok (.newarray .int, 2) := by decide +kernel
theorem dX6_init_123 : decode cX6_init 123 = .ok (.putfield 53, 3) := by decide +kernel
theorem dX6_init_126 : decode cX6_init 126 = .ok (.aload_n 0, 1) := by decide +kernel
theorem dX6_init_127 : decode cX6_init 127 = .ok (.bipush 80, 2) := by decide +kernel
theorem dX6_init_129 : decode cX6_init 129 = .ok (.newarray .int, 2) := by decide +kernel
theorem dX6_init_131 : decode cX6_init 131 = .ok (.putfield 56, 3) := by decide +kernel
theorem dX6_init_134 : decode cX6_init 134 = .ok (.aload_n 0, 1) := by decide +kernel
theorem dX6_init_135 : decode cX6_init 135 = .ok (.sipush 2400, 3) := by decide +kernel
theorem dX6_init_138 : decode cX6_init 138 = .ok (.newarray .int, 2) := by decide +kernel
theorem dX6_init_140 : decode cX6_init 140 = .ok (.putfield 59, 3) := by decide +kernel
theorem dX6_init_143 : decode cX6_init 143 = .ok (.aload_n 0, 1) := by decide +kernel
theorem dX6_init_144 : decode cX6_init 144 = .ok (.bipush 10, 2) := by decide +kernel
theorem dX6_init_146 : decode cX6_init 146 = .ok (.newarray .int, 2) := by decide +kernel
theorem dX6_init_148 : decode cX6_init 148 = .ok (.putfield 62, 3) := by decide +kernel
theorem dX6_init_151 : decode cX6_init 151 = .ok (.aload_n 0, 1) := by decide +kernel
theorem dX6_init_152 : decode cX6_init 152 = .ok (.bipush 10, 2) := by decide +kernel
theorem dX6_init_154 : decode cX6_init 154 = .ok (.newarray .int, 2) := by decide +kernel
theorem dX6_init_156 : decode cX6_init 156 = .ok (.putfield 65, 3) := by decide +kernel
theorem dX6_init_159 : decode cX6_init 159 = .ok (.aload_n 0, 1) := by decide +kernel
theorem dX6_init_160 : decode cX6_init 160 = .ok (.getfield 7, 3) := by decide +kernel
theorem dX6_init_163 : decode cX6_init 163 = .ok (.iconst 0, 1) := by decide +kernel
theorem dX6_init_164 : decode cX6_init 164 = .ok (.iconst 1, 1) := by decide +kernel
theorem dX6_init_165 : decode cX6_init 165 = .ok (.bastore, 1) := by decide +kernel
theorem dX6_init_166 : decode cX6_init 166 = .ok (.aload_n 0, 1) := by decide +kernel
theorem dX6_init_167 : decode cX6_init 167 = .ok (.getfield 13, 3) := by decide +kernel
theorem dX6_init_170 : decode cX6_init 170 = .ok (.iconst 0, 1) := by decide +kernel
theorem dX6_init_171 : decode cX6_init 171 = .ok (.iconst (-1), 1) := by decide +kernel
theorem dX6_init_172 : decode cX6_init 172 = .ok (.iastore, 1) := by decide +kernel
theorem dX6_init_173 : decode cX6_init 173 = .ok (.aload_n 0, 1) := by decide +kernel
theorem dX6_init_174 : decode cX6_init 174 = .ok (.getfield 29, 3) := by decide +kernel
theorem dX6_init_177 : decode cX6_init 177 = .ok (.iconst 0, 1) := by decide +kernel
theorem dX6_init_178 : decode cX6_init 178 = .ok (.iconst 1, 1) := by decide +kernel
theorem dX6_init_179 : decode cX6_init 179 = .ok (.iastore, 1) := by decide +kernel
theorem dX6_init_180 : decode cX6_init 180 = .ok (.aload_n 0, 1) := by decide +kernel
theorem dX6_init_181 : decode cX6_init 181 = .ok (.getfield 32, 3) := by decide +kernel
theorem dX6_init_184 : decode cX6_init 184 = .ok (.iconst 0, 1) := by decide +kernel
theorem dX6_init_185 : decode cX6_init 185 = .ok (.iconst 5, 1) := by decide +kernel
theorem dX6_init_186 : decode cX6_init 186 = .ok (.iastore, 1) := by decide +kernel
theorem dX6_init_187 : decode cX6_init 187 = .ok (.aload_n 0, 1) := by decide +kernel
theorem dX6_init_188 : decode cX6_init 188 = .ok (.iconst 1, 1) := by decide +kernel
theorem dX6_init_189 : decode cX6_init 189 = .ok (.putfield 68, 3) := by decide +kernel
theorem dX6_init_192 : decode cX6_init 192 = .ok (.return_, 1) := by decide +kernel
theorem dX6_thrown_0 : decode cX6_thrown 0 = .ok (.aload_n 0, 1) := by decide +kernel
theorem dX6_thrown_1 : decode cX6_thrown 1 = .ok (.getfield 72, 3) := by decide +kernel
theorem dX6_thrown_4 : decode cX6_thrown 4 = .ok (.ireturn, 1) := by decide +kernel
theorem dX6_refuses_0 : decode cX6_refuses 0 = .ok (.aload_n 0, 1) := by decide +kernel
theorem dX6_refuses_1 : decode cX6_refuses 1 = .ok (.iload_n 1, 1) := by decide +kernel
theorem dX6_refuses_2 : decode cX6_refuses 2 = .ok (.putfield 72, 3) := by decide +kernel
theorem dX6_refuses_5 : decode cX6_refuses 5 = .ok (.iload_n 1, 1) := by decide +kernel
theorem dX6_refuses_6 : decode cX6_refuses 6 = .ok (.ifCond .le 7, 3) := by decide +kernel
theorem dX6_refuses_9 : decode cX6_refuses 9 = .ok (.iconst 1, 1) := by decide +kernel
theorem dX6_refuses_10 : decode cX6_refuses 10 = .ok (.goto 4, 3) := by decide +kernel
theorem dX6_refuses_13 : decode cX6_refuses 13 = .ok (.iconst 0, 1) := by decide +kernel
theorem dX6_refuses_14 : decode cX6_refuses 14 = .ok (.ireturn, 1) := by decide +kernel
theorem dX6_isNode_0 : decode cX6_isNode 0 = .ok (.iload_n 1, 1) := by decide +kernel
theorem dX6_isNode_1 : decode cX6_isNode 1 = .ok (.ifCond .lt 25, 3) := by decide +kernel
theorem dX6_isNode_4 : decode cX6_isNode 4 = .ok (.iload_n 1, 1) := by decide +kernel
theorem dX6_isNode_5 : decode cX6_isNode 5 = .ok (.aload_n 0, 1) := by decide +kernel
theorem dX6_isNode_6 : decode cX6_isNode 6 = .ok (.getfield 68, 3) := by decide +kernel
theorem dX6_isNode_9 : decode cX6_isNode 9 = .ok (.if_icmp .ge 17, 3) := by decide +kernel
theorem dX6_isNode_12 : decode cX6_isNode 12 = .ok (.aload_n 0, 1) := by decide +kernel
theorem dX6_isNode_13 : decode cX6_isNode 13 = .ok (.getfield 20, 3) := by decide +kernel
theorem dX6_isNode_16 : decode cX6_isNode 16 = .ok (.iload_n 1, 1) := by decide +kernel
theorem dX6_isNode_17 : decode cX6_isNode 17 = .ok (.iaload, 1) := by decide +kernel
theorem dX6_isNode_18 : decode cX6_isNode 18 = .ok (.iconst 2, 1) := by decide +kernel
theorem dX6_isNode_19 : decode cX6_isNode 19 = .ok (.if_icmp .eq 7, 3) := by decide +kernel
theorem dX6_isNode_22 : decode cX6_isNode 22 = .ok (.iconst 1, 1) := by decide +kernel
theorem dX6_isNode_23 : decode cX6_isNode 23 = .ok (.goto 4, 3) := by decide +kernel
theorem dX6_isNode_26 : decode cX6_isNode 26 = .ok (.iconst 0, 1) := by decide +kernel
theorem dX6_isNode_27 : decode cX6_isNode 27 = .ok (.ireturn, 1) := by decide +kernel
theorem dX6_isKeeper_0 : decode cX6_isKeeper 0 = .ok (.aload_n 0, 1) := by decide +kernel
theorem dX6_isKeeper_1 : decode cX6_isKeeper 1 = .ok (.iload_n 1, 1) := by decide +kernel
theorem dX6_isKeeper_2 : decode cX6_isKeeper 2 = .ok (.invokevirtual 75, 3) := by decide +kernel
theorem dX6_isKeeper_5 : decode cX6_isKeeper 5 = .ok (.ifCond .eq 16, 3) := by decide +kernel
theorem dX6_isKeeper_8 : decode cX6_isKeeper 8 = .ok (.aload_n 0, 1) := by decide +kernel
theorem dX6_isKeeper_9 : decode cX6_isKeeper 9 = .ok (.getfield 7, 3) := by decide +kernel
theorem dX6_isKeeper_12 : decode cX6_isKeeper 12 = .ok (.iload_n 1, 1) := by decide +kernel
theorem dX6_isKeeper_13 : decode cX6_isKeeper 13 = .ok (.baload, 1) := by decide +kernel
theorem dX6_isKeeper_14 : decode cX6_isKeeper 14 = .ok (.ifCond .eq 7, 3) := by decide +kernel
theorem dX6_isKeeper_17 : decode cX6_isKeeper 17 = .ok (.iconst 1, 1) := by decide +kernel
theorem dX6_isKeeper_18 : decode cX6_isKeeper 18 = .ok (.goto 4, 3) := by decide +kernel
theorem dX6_isKeeper_21 : decode cX6_isKeeper 21 = .ok (.iconst 0, 1) := by decide +kernel
theorem dX6_isKeeper_22 : decode cX6_isKeeper 22 = .ok (.ireturn, 1) := by decide +kernel
theorem dX6_isWorker_0 : decode cX6_isWorker 0 = .ok (.aload_n 0, 1) := by decide +kernel
theorem dX6_isWorker_1 : decode cX6_isWorker 1 = .ok (.iload_n 1, 1) := by decide +kernel
theorem dX6_isWorker_2 : decode cX6_isWorker 2 = .ok (.invokevirtual 75, 3) := by decide +kernel
theorem dX6_isWorker_5 : decode cX6_isWorker 5 = .ok (.ifCond .eq 16, 3) := by decide +kernel
theorem dX6_isWorker_8 : decode cX6_isWorker 8 = .ok (.aload_n 0, 1) := by decide +kernel
theorem dX6_isWorker_9 : decode cX6_isWorker 9 = .ok (.getfield 7, 3) := by decide +kernel
theorem dX6_isWorker_12 : decode cX6_isWorker 12 = .ok (.iload_n 1, 1) := by decide +kernel
theorem dX6_isWorker_13 : decode cX6_isWorker 13 = .ok (.baload, 1) := by decide +kernel
theorem dX6_isWorker_14 : decode cX6_isWorker 14 = .ok (.ifCond .ne 7, 3) := by decide +kernel
theorem dX6_isWorker_17 : decode cX6_isWorker 17 = .ok (.iconst 1, 1) := by decide +kernel
theorem dX6_isWorker_18 : decode cX6_isWorker 18 = .ok (.goto 4, 3) := by decide +kernel
theorem dX6_isWorker_21 : decode cX6_isWorker 21 = .ok (.iconst 0, 1) := by decide +kernel
theorem dX6_isWorker_22 : decode cX6_isWorker 22 = .ok (.ireturn, 1) := by decide +kernel
theorem dX6_in_0 : decode cX6_in 0 = .ok (.iload_n 0, 1) := by decide +kernel
theorem dX6_in_1 : decode cX6_in 1 = .ok (.iload_n 1, 1) := by decide +kernel
theorem dX6_in_2 : decode cX6_in 2 = .ok (.if_icmp .lt 12, 3) := by decide +kernel
theorem dX6_in_5 : decode cX6_in 5 = .ok (.iload_n 0, 1) := by decide +kernel
theorem dX6_in_6 : decode cX6_in 6 = .ok (.iload_n 2, 1) := by decide +kernel
theorem dX6_in_7 : decode cX6_in 7 = .ok (.if_icmp .gt 7, 3) := by decide +kernel
theorem dX6_in_10 : decode cX6_in 10 = .ok (.iconst 1, 1) := by decide +kernel
theorem dX6_in_11 : decode cX6_in 11 = .ok (.goto 4, 3) := by decide +kernel
theorem dX6_in_14 : decode cX6_in 14 = .ok (.iconst 0, 1) := by decide +kernel
theorem dX6_in_15 : decode cX6_in 15 = .ok (.ireturn, 1) := by decide +kernel
theorem dX6_note_0 : decode cX6_note 0 = .ok (.aload_n 0, 1) := by decide +kernel
theorem dX6_note_1 : decode cX6_note 1 = .ok (.getfield 79, 3) := by decide +kernel
theorem dX6_note_4 : decode cX6_note 4 = .ok (.sipush 600, 3) := by decide +kernel
theorem dX6_note_7 : decode cX6_note 7 = .ok (.if_icmp .ge 60, 3) := by decide +kernel
theorem dX6_note_10 : decode cX6_note 10 = .ok (.aload_n 0, 1) := by decide +kernel
theorem dX6_note_11 : decode cX6_note 11 = .ok (.getfield 59, 3) := by decide +kernel
theorem dX6_note_14 : decode cX6_note 14 = .ok (.iconst 4, 1) := by decide +kernel
theorem dX6_note_15 : decode cX6_note 15 = .ok (.aload_n 0, 1) := by decide +kernel
theorem dX6_note_16 : decode cX6_note 16 = .ok (.getfield 79, 3) := by decide +kernel
theorem dX6_note_19 : decode cX6_note 19 = .ok (.imul, 1) := by decide +kernel
theorem dX6_note_20 : decode cX6_note 20 = .ok (.iload_n 1, 1) := by decide +kernel
theorem dX6_note_21 : decode cX6_note 21 = .ok (.iastore, 1) := by decide +kernel
theorem dX6_note_22 : decode cX6_note 22 = .ok (.aload_n 0, 1) := by decide +kernel
theorem dX6_note_23 : decode cX6_note 23 = .ok (.getfield 59, 3) := by decide +kernel
theorem dX6_note_26 : decode cX6_note 26 = .ok (.iconst 4, 1) := by decide +kernel
theorem dX6_note_27 : decode cX6_note 27 = .ok (.aload_n 0, 1) := by decide +kernel
theorem dX6_note_28 : decode cX6_note 28 = .ok (.getfield 79, 3) := by decide +kernel
theorem dX6_note_31 : decode cX6_note 31 = .ok (.imul, 1) := by decide +kernel
theorem dX6_note_32 : decode cX6_note 32 = .ok (.iconst 1, 1) := by decide +kernel
theorem dX6_note_33 : decode cX6_note 33 = .ok (.iadd, 1) := by decide +kernel
theorem dX6_note_34 : decode cX6_note 34 = .ok (.iload_n 2, 1) := by decide +kernel
theorem dX6_note_35 : decode cX6_note 35 = .ok (.iastore, 1) := by decide +kernel
theorem dX6_note_36 : decode cX6_note 36 = .ok (.aload_n 0, 1) := by decide +kernel
theorem dX6_note_37 : decode cX6_note 37 = .ok (.getfield 59, 3) := by decide +kernel
theorem dX6_note_40 : decode cX6_note 40 = .ok (.iconst 4, 1) := by decide +kernel
theorem dX6_note_41 : decode cX6_note 41 = .ok (.aload_n 0, 1) := by decide +kernel
theorem dX6_note_42 : decode cX6_note 42 = .ok (.getfield 79, 3) := by decide +kernel
theorem dX6_note_45 : decode cX6_note 45 = .ok (.imul, 1) := by decide +kernel
theorem dX6_note_46 : decode cX6_note 46 = .ok (.iconst 2, 1) := by decide +kernel
theorem dX6_note_47 : decode cX6_note 47 = .ok (.iadd, 1) := by decide +kernel
theorem dX6_note_48 : decode cX6_note 48 = .ok (.aload_n 0, 1) := by decide +kernel
theorem dX6_note_49 : decode cX6_note 49 = .ok (.getfield 82, 3) := by decide +kernel
theorem dX6_note_52 : decode cX6_note 52 = .ok (.iastore, 1) := by decide +kernel
theorem dX6_note_53 : decode cX6_note 53 = .ok (.aload_n 0, 1) := by decide +kernel
theorem dX6_note_54 : decode cX6_note 54 = .ok (.getfield 59, 3) := by decide +kernel
theorem dX6_note_57 : decode cX6_note 57 = .ok (.iconst 4, 1) := by decide +kernel
theorem dX6_note_58 : decode cX6_note 58 = .ok (.aload_n 0, 1) := by decide +kernel
theorem dX6_note_59 : decode cX6_note 59 = .ok (.getfield 79, 3) := by decide +kernel
theorem dX6_note_62 : decode cX6_note 62 = .ok (.imul, 1) := by decide +kernel
theorem dX6_note_63 : decode cX6_note 63 = .ok (.iconst 3, 1) := by decide +kernel
theorem dX6_note_64 : decode cX6_note 64 = .ok (.iadd, 1) := by decide +kernel
theorem dX6_note_65 : decode cX6_note 65 = .ok (.iload_n 3, 1) := by decide +kernel
theorem dX6_note_66 : decode cX6_note 66 = .ok (.iastore, 1) := by decide +kernel
theorem dX6_note_67 : decode cX6_note 67 = .ok (.aload_n 0, 1) := by decide +kernel
theorem dX6_note_68 : decode cX6_note 68 = .ok (.dup, 1) := by decide +kernel
theorem dX6_note_69 : decode cX6_note 69 = .ok (.getfield 79, 3) := by decide +kernel
theorem dX6_note_72 : decode cX6_note 72 = .ok (.iconst 1, 1) := by decide +kernel
theorem dX6_note_73 : decode cX6_note 73 = .ok (.iadd, 1) := by decide +kernel
theorem dX6_note_74 : decode cX6_note 74 = .ok (.putfield 79, 3) := by decide +kernel
theorem dX6_note_77 : decode cX6_note 77 = .ok (.return_, 1) := by decide +kernel
theorem dX6_starts_0 : decode cX6_starts 0 = .ok (.iconst 0, 1) := by decide +kernel
theorem dX6_starts_1 : decode cX6_starts 1 = .ok (.istore_n 2, 1) := by decide +kernel
theorem dX6_starts_2 : decode cX6_starts 2 = .ok (.aload_n 0, 1) := by decide +kernel
theorem dX6_starts_3 : decode cX6_starts 3 = .ok (.getfield 62, 3) := by decide +kernel
theorem dX6_starts_6 : decode cX6_starts 6 = .ok (.iconst 0, 1) := by decide +kernel
theorem dX6_starts_7 : decode cX6_starts 7 = .ok (.iload_n 1, 1) := by decide +kernel
theorem dX6_starts_8 : decode cX6_starts 8 = .ok (.iastore, 1) := by decide +kernel
theorem dX6_starts_9 : decode cX6_starts 9 = .ok (.aload_n 0, 1) := by decide +kernel
theorem dX6_starts_10 : decode cX6_starts 10 = .ok (.getfield 65, 3) := by decide +kernel
theorem dX6_starts_13 : decode cX6_starts 13 = .ok (.iconst 0, 1) := by decide +kernel
theorem dX6_starts_14 : decode cX6_starts 14 = .ok (.iconst 0, 1) := by decide +kernel
theorem dX6_starts_15 : decode cX6_starts 15 = .ok (.iastore, 1) := by decide +kernel
theorem dX6_starts_16 : decode cX6_starts 16 = .ok (.iconst (-1), 1) := by decide +kernel
theorem dX6_starts_17 : decode cX6_starts 17 = .ok (.istore_n 3, 1) := by decide +kernel
theorem dX6_starts_18 : decode cX6_starts 18 = .ok (.iload_n 2, 1) := by decide +kernel
theorem dX6_starts_19 : decode cX6_starts 19 = .ok (.ifCond .lt 260, 3) := by decide +kernel
theorem dX6_starts_22 : decode cX6_starts 22 = .ok (.aload_n 0, 1) := by decide +kernel
theorem dX6_starts_23 : decode cX6_starts 23 = .ok (.getfield 62, 3) := by decide +kernel
theorem dX6_starts_26 : decode cX6_starts 26 = .ok (.iload_n 2, 1) := by decide +kernel
theorem dX6_starts_27 : decode cX6_starts 27 = .ok (.iaload, 1) := by decide +kernel
theorem dX6_starts_28 : decode cX6_starts 28 = .ok (.istore 4, 2) := by decide +kernel
theorem dX6_starts_30 : decode cX6_starts 30 = .ok (.iconst 1, 1) := by decide +kernel
theorem dX6_starts_31 : decode cX6_starts 31 = .ok (.istore 5, 2) := by decide +kernel
theorem dX6_starts_33 : decode cX6_starts 33 = .ok (.aload_n 0, 1) := by decide +kernel
theorem dX6_starts_34 : decode cX6_starts 34 = .ok (.getfield 7, 3) := by decide +kernel
theorem dX6_starts_37 : decode cX6_starts 37 = .ok (.iload 4, 2) := by decide +kernel
theorem dX6_starts_39 : decode cX6_starts 39 = .ok (.baload, 1) := by decide +kernel
theorem dX6_starts_40 : decode cX6_starts 40 = .ok (.ifCond .ne 57, 3) := by decide +kernel
theorem dX6_starts_43 : decode cX6_starts 43 = .ok (.aload_n 0, 1) := by decide +kernel
theorem dX6_starts_44 : decode cX6_starts 44 = .ok (.dup, 1) := by decide +kernel
theorem dX6_starts_45 : decode cX6_starts 45 = .ok (.getfield 82, 3) := by decide +kernel
theorem dX6_starts_48 : decode cX6_starts 48 = .ok (.aload_n 0, 1) := by decide +kernel
theorem dX6_starts_49 : decode cX6_starts 49 = .ok (.getfield 38, 3) := by decide +kernel
theorem dX6_starts_52 : decode cX6_starts 52 = .ok (.iload 4, 2) := by decide +kernel
theorem dX6_starts_54 : decode cX6_starts 54 = .ok (.iaload, 1) := by decide +kernel
theorem dX6_starts_55 : decode cX6_starts 55 = .ok (.iadd, 1) := by decide +kernel
theorem dX6_starts_56 : decode cX6_starts 56 = .ok (.putfield 82, 3) := by decide +kernel
theorem dX6_starts_59 : decode cX6_starts 59 = .ok (.aload_n 0, 1) := by decide +kernel
theorem dX6_starts_60 : decode cX6_starts 60 = .ok (.getfield 44, 3) := by decide +kernel
theorem dX6_starts_63 : decode cX6_starts 63 = .ok (.iload 4, 2) := by decide +kernel
theorem dX6_starts_65 : decode cX6_starts 65 = .ok (.iaload, 1) := by decide +kernel
theorem dX6_starts_66 : decode cX6_starts 66 = .ok (.ifCond .le 7, 3) := by decide +kernel
theorem dX6_starts_69 : decode cX6_starts 69 = .ok (.iconst 0, 1) := by decide +kernel
theorem dX6_starts_70 : decode cX6_starts 70 = .ok (.goto 4, 3) := by decide +kernel
theorem dX6_starts_73 : decode cX6_starts 73 = .ok (.iconst 1, 1) := by decide +kernel
theorem dX6_starts_74 : decode cX6_starts 74 = .ok (.istore_n 3, 1) := by decide +kernel
theorem dX6_starts_75 : decode cX6_starts 75 = .ok (.aload_n 0, 1) := by decide +kernel
theorem dX6_starts_76 : decode cX6_starts 76 = .ok (.getfield 44, 3) := by decide +kernel
theorem dX6_starts_79 : decode cX6_starts 79 = .ok (.iload 4, 2) := by decide +kernel
theorem dX6_starts_81 : decode cX6_starts 81 = .ok (.dup2, 1) := by decide +kernel
theorem dX6_starts_82 : decode cX6_starts 82 = .ok (.iaload, 1) := by decide +kernel
theorem dX6_starts_83 : decode cX6_starts 83 = .ok (.iload_n 3, 1) := by decide +kernel
theorem dX6_starts_84 : decode cX6_starts 84 = .ok (.ifCond .ne 7, 3) := by decide +kernel
theorem dX6_starts_87 : decode cX6_starts 87 = .ok (.iconst 1, 1) := by decide +kernel
theorem dX6_starts_88 : decode cX6_starts 88 = .ok (.goto 4, 3) := by decide +kernel
theorem dX6_starts_91 : decode cX6_starts 91 = .ok (.iconst 0, 1) := by decide +kernel
theorem dX6_starts_92 : decode cX6_starts 92 = .ok (.isub, 1) := by decide +kernel
theorem dX6_starts_93 : decode cX6_starts 93 = .ok (.iastore, 1) := by decide +kernel
theorem dX6_starts_94 : decode cX6_starts 94 = .ok (.goto 130, 3) := by decide +kernel
theorem dX6_starts_97 : decode cX6_starts 97 = .ok (.iload_n 3, 1) := by decide +kernel
theorem dX6_starts_98 : decode cX6_starts 98 = .ok (.ifCond .ne 16, 3) := by decide +kernel
theorem dX6_starts_101 : decode cX6_starts 101 = .ok (.aload_n 0, 1) := by decide +kernel
theorem dX6_starts_102 : decode cX6_starts 102 = .ok (.iload 4, 2) := by decide +kernel
theorem dX6_starts_104 : decode cX6_starts 104 = .ok (.iload_n 2, 1) := by decide +kernel
theorem dX6_starts_105 : decode cX6_starts 105 = .ok (.iconst 1, 1) := by decide +kernel
theorem dX6_starts_106 : decode cX6_starts 106 = .ok (.iadd, 1) := by decide +kernel
theorem dX6_starts_107 : decode cX6_starts 107 = .ok (.iconst 0, 1) := by decide +kernel
theorem dX6_starts_108 : decode cX6_starts 108 = .ok (.invokevirtual 85, 3) := by decide +kernel
theorem dX6_starts_111 : decode cX6_starts 111 = .ok (.goto 113, 3) := by decide +kernel
theorem dX6_starts_114 : decode cX6_starts 114 = .ok (.aload_n 0, 1) := by decide +kernel
theorem dX6_starts_115 : decode cX6_starts 115 = .ok (.getfield 56, 3) := by decide +kernel
theorem dX6_starts_118 : decode cX6_starts 118 = .ok (.iload 4, 2) := by decide +kernel
theorem dX6_starts_120 : decode cX6_starts 120 = .ok (.aload_n 0, 1) := by decide +kernel
theorem dX6_starts_121 : decode cX6_starts 121 = .ok (.getfield 65, 3) := by decide +kernel
theorem dX6_starts_124 : decode cX6_starts 124 = .ok (.iload_n 2, 1) := by decide +kernel
theorem dX6_starts_125 : decode cX6_starts 125 = .ok (.iaload, 1) := by decide +kernel
theorem dX6_starts_126 : decode cX6_starts 126 = .ok (.ifCond .ne 7, 3) := by decide +kernel
theorem dX6_starts_129 : decode cX6_starts 129 = .ok (.iconst 0, 1) := by decide +kernel
theorem dX6_starts_130 : decode cX6_starts 130 = .ok (.goto 10, 3) := by decide +kernel
theorem dX6_starts_133 : decode cX6_starts 133 = .ok (.aload_n 0, 1) := by decide +kernel
theorem dX6_starts_134 : decode cX6_starts 134 = .ok (.getfield 56, 3) := by decide +kernel
theorem dX6_starts_137 : decode cX6_starts 137 = .ok (.iload 4, 2) := by decide +kernel
theorem dX6_starts_139 : decode cX6_starts 139 = .ok (.iaload, 1) := by decide +kernel
theorem dX6_starts_140 : decode cX6_starts 140 = .ok (.iastore, 1) := by decide +kernel
theorem dX6_starts_141 : decode cX6_starts 141 = .ok (.aload_n 0, 1) := by decide +kernel
theorem dX6_starts_142 : decode cX6_starts 142 = .ok (.getfield 65, 3) := by decide +kernel
theorem dX6_starts_145 : decode cX6_starts 145 = .ok (.iload_n 2, 1) := by decide +kernel
theorem dX6_starts_146 : decode cX6_starts 146 = .ok (.iaload, 1) := by decide +kernel
theorem dX6_starts_147 : decode cX6_starts 147 = .ok (.aload_n 0, 1) := by decide +kernel
theorem dX6_starts_148 : decode cX6_starts 148 = .ok (.getfield 50, 3) := by decide +kernel
theorem dX6_starts_151 : decode cX6_starts 151 = .ok (.iload 4, 2) := by decide +kernel
theorem dX6_starts_153 : decode cX6_starts 153 = .ok (.iaload, 1) := by decide +kernel
theorem dX6_starts_154 : decode cX6_starts 154 = .ok (.if_icmp .ne 7, 3) := by decide +kernel
theorem dX6_starts_157 : decode cX6_starts 157 = .ok (.iconst 1, 1) := by decide +kernel
theorem dX6_starts_158 : decode cX6_starts 158 = .ok (.goto 4, 3) := by decide +kernel
theorem dX6_starts_161 : decode cX6_starts 161 = .ok (.iconst 0, 1) := by decide +kernel
theorem dX6_starts_162 : decode cX6_starts 162 = .ok (.istore 5, 2) := by decide +kernel
theorem dX6_starts_164 : decode cX6_starts 164 = .ok (.iload 5, 2) := by decide +kernel
theorem dX6_starts_166 : decode cX6_starts 166 = .ok (.ifCond .eq 7, 3) := by decide +kernel
theorem dX6_starts_169 : decode cX6_starts 169 = .ok (.iconst 1, 1) := by decide +kernel
theorem dX6_starts_170 : decode cX6_starts 170 = .ok (.goto 4, 3) := by decide +kernel
theorem dX6_starts_173 : decode cX6_starts 173 = .ok (.iconst (-1), 1) := by decide +kernel
theorem dX6_starts_174 : decode cX6_starts 174 = .ok (.istore_n 3, 1) := by decide +kernel
theorem dX6_starts_175 : decode cX6_starts 175 = .ok (.iload 5, 2) := by decide +kernel
theorem dX6_starts_177 : decode cX6_starts 177 = .ok (.ifCond .ne 47, 3) := by decide +kernel
theorem dX6_starts_180 : decode cX6_starts 180 = .ok (.aload_n 0, 1) := by decide +kernel
theorem dX6_starts_181 : decode cX6_starts 181 = .ok (.getfield 62, 3) := by decide +kernel
theorem dX6_starts_184 : decode cX6_starts 184 = .ok (.iload_n 2, 1) := by decide +kernel
theorem dX6_starts_185 : decode cX6_starts 185 = .ok (.iconst 1, 1) := by decide +kernel
theorem dX6_starts_186 : decode cX6_starts 186 = .ok (.iadd, 1) := by decide +kernel
theorem dX6_starts_187 : decode cX6_starts 187 = .ok (.aload_n 0, 1) := by decide +kernel
theorem dX6_starts_188 : decode cX6_starts 188 = .ok (.getfield 47, 3) := by decide +kernel
theorem dX6_starts_191 : decode cX6_starts 191 = .ok (.bipush 80, 2) := by decide +kernel
theorem dX6_starts_193 : decode cX6_starts 193 = .ok (.iload 4, 2) := by decide +kernel
theorem dX6_starts_195 : decode cX6_starts 195 = .ok (.imul, 1) := by decide +kernel
theorem dX6_starts_196 : decode cX6_starts 196 = .ok (.aload_n 0, 1) := by decide +kernel
theorem dX6_starts_197 : decode cX6_starts 197 = .ok (.getfield 65, 3) := by decide +kernel
theorem dX6_starts_200 : decode cX6_starts 200 = .ok (.iload_n 2, 1) := by decide +kernel
theorem dX6_starts_201 : decode cX6_starts 201 = .ok (.iaload, 1) := by decide +kernel
theorem dX6_starts_202 : decode cX6_starts 202 = .ok (.iadd, 1) := by decide +kernel
theorem dX6_starts_203 : decode cX6_starts 203 = .ok (.iaload, 1) := by decide +kernel
theorem dX6_starts_204 : decode cX6_starts 204 = .ok (.iastore, 1) := by decide +kernel
theorem dX6_starts_205 : decode cX6_starts 205 = .ok (.aload_n 0, 1) := by decide +kernel
theorem dX6_starts_206 : decode cX6_starts 206 = .ok (.getfield 65, 3) := by decide +kernel
theorem dX6_starts_209 : decode cX6_starts 209 = .ok (.iload_n 2, 1) := by decide +kernel
theorem dX6_starts_210 : decode cX6_starts 210 = .ok (.iconst 1, 1) := by decide +kernel
theorem dX6_starts_211 : decode cX6_starts 211 = .ok (.iadd, 1) := by decide +kernel
theorem dX6_starts_212 : decode cX6_starts 212 = .ok (.iconst 0, 1) := by decide +kernel
theorem dX6_starts_213 : decode cX6_starts 213 = .ok (.iastore, 1) := by decide +kernel
theorem dX6_starts_214 : decode cX6_starts 214 = .ok (.aload_n 0, 1) := by decide +kernel
theorem dX6_starts_215 : decode cX6_starts 215 = .ok (.getfield 65, 3) := by decide +kernel
theorem dX6_starts_218 : decode cX6_starts 218 = .ok (.iload_n 2, 1) := by decide +kernel
theorem dX6_starts_219 : decode cX6_starts 219 = .ok (.dup2, 1) := by decide +kernel
theorem dX6_starts_220 : decode cX6_starts 220 = .ok (.iaload, 1) := by decide +kernel
theorem dX6_starts_221 : decode cX6_starts 221 = .ok (.iconst 1, 1) := by decide +kernel
theorem dX6_starts_222 : decode cX6_starts 222 = .ok (.iadd, 1) := by decide +kernel
theorem dX6_starts_223 : decode cX6_starts 223 = .ok (.iastore, 1) := by decide +kernel
theorem dX6_starts_224 : decode cX6_starts 224 = .ok (.iload 5, 2) := by decide +kernel
theorem dX6_starts_226 : decode cX6_starts 226 = .ok (.ifCond .eq 37, 3) := by decide +kernel
theorem dX6_starts_229 : decode cX6_starts 229 = .ok (.aload_n 0, 1) := by decide +kernel
theorem dX6_starts_230 : decode cX6_starts 230 = .ok (.getfield 20, 3) := by decide +kernel
theorem dX6_starts_233 : decode cX6_starts 233 = .ok (.iload 4, 2) := by decide +kernel
theorem dX6_starts_235 : decode cX6_starts 235 = .ok (.iload_n 3, 1) := by decide +kernel
theorem dX6_starts_236 : decode cX6_starts 236 = .ok (.iconst 1, 1) := by decide +kernel
theorem dX6_starts_237 : decode cX6_starts 237 = .ok (.if_icmp .ne 7, 3) := by decide +kernel
theorem dX6_starts_240 : decode cX6_starts 240 = .ok (.iconst 1, 1) := by decide +kernel
theorem dX6_starts_241 : decode cX6_starts 241 = .ok (.goto 4, 3) := by decide +kernel
theorem dX6_starts_244 : decode cX6_starts 244 = .ok (.iconst 0, 1) := by decide +kernel
theorem dX6_starts_245 : decode cX6_starts 245 = .ok (.iastore, 1) := by decide +kernel
theorem dX6_starts_246 : decode cX6_starts 246 = .ok (.aload_n 0, 1) := by decide +kernel
theorem dX6_starts_247 : decode cX6_starts 247 = .ok (.iload_n 3, 1) := by decide +kernel
theorem dX6_starts_248 : decode cX6_starts 248 = .ok (.iconst 1, 1) := by decide +kernel
theorem dX6_starts_249 : decode cX6_starts 249 = .ok (.if_icmp .ne 7, 3) := by decide +kernel
theorem dX6_starts_252 : decode cX6_starts 252 = .ok (.iconst 1, 1) := by decide +kernel
theorem dX6_starts_253 : decode cX6_starts 253 = .ok (.goto 4, 3) := by decide +kernel
theorem dX6_starts_256 : decode cX6_starts 256 = .ok (.iconst 2, 1) := by decide +kernel
theorem dX6_starts_257 : decode cX6_starts 257 = .ok (.iload 4, 2) := by decide +kernel
theorem dX6_starts_259 : decode cX6_starts 259 = .ok (.iconst 0, 1) := by decide +kernel
theorem dX6_starts_260 : decode cX6_starts 260 = .ok (.invokevirtual 89, 3) := by decide +kernel
theorem dX6_starts_263 : decode cX6_starts 263 = .ok (.iload_n 2, 1) := by decide +kernel
theorem dX6_starts_264 : decode cX6_starts 264 = .ok (.iload 5, 2) := by decide +kernel
theorem dX6_starts_266 : decode cX6_starts 266 = .ok (.ifCond .eq 7, 3) := by decide +kernel
theorem dX6_starts_269 : decode cX6_starts 269 = .ok (.iconst (-1), 1) := by decide +kernel
theorem dX6_starts_270 : decode cX6_starts 270 = .ok (.goto 4, 3) := by decide +kernel
theorem dX6_starts_273 : decode cX6_starts 273 = .ok (.iconst 1, 1) := by decide +kernel
theorem dX6_starts_274 : decode cX6_starts 274 = .ok (.iadd, 1) := by decide +kernel
theorem dX6_starts_275 : decode cX6_starts 275 = .ok (.istore_n 2, 1) := by decide +kernel
theorem dX6_starts_276 : decode cX6_starts 276 = .ok (.goto (-258), 3) := by decide +kernel
theorem dX6_starts_279 : decode cX6_starts 279 = .ok (.iload_n 3, 1) := by decide +kernel
theorem dX6_starts_280 : decode cX6_starts 280 = .ok (.iconst 1, 1) := by decide +kernel
theorem dX6_starts_281 : decode cX6_starts 281 = .ok (.if_icmp .ne 7, 3) := by decide +kernel
theorem dX6_starts_284 : decode cX6_starts 284 = .ok (.iconst 1, 1) := by decide +kernel
theorem dX6_starts_285 : decode cX6_starts 285 = .ok (.goto 4, 3) := by decide +kernel
theorem dX6_starts_288 : decode cX6_starts 288 = .ok (.iconst 0, 1) := by decide +kernel
theorem dX6_starts_289 : decode cX6_starts 289 = .ok (.ireturn, 1) := by decide +kernel
theorem dX6_stopsBelow_0 : decode cX6_stopsBelow 0 = .ok (.aload_n 0, 1) := by decide +kernel
theorem dX6_stopsBelow_1 : decode cX6_stopsBelow 1 = .ok (.getfield 50, 3) := by decide +kernel
theorem dX6_stopsBelow_4 : decode cX6_stopsBelow 4 = .ok (.iload_n 1, 1) := by decide +kernel
theorem dX6_stopsBelow_5 : decode cX6_stopsBelow 5 = .ok (.iaload, 1) := by decide +kernel
theorem dX6_stopsBelow_6 : decode cX6_stopsBelow 6 = .ok (.iconst 1, 1) := by decide +kernel
theorem dX6_stopsBelow_7 : decode cX6_stopsBelow 7 = .ok (.isub, 1) := by decide +kernel
theorem dX6_stopsBelow_8 : decode cX6_stopsBelow 8 = .ok (.istore 4, 2) := by decide +kernel
theorem dX6_stopsBelow_10 : decode cX6_stopsBelow 10 = .ok (.iload 4, 2) := by decide +kernel
theorem dX6_stopsBelow_12 : decode cX6_stopsBelow 12 = .ok (.iload_n 3, 1) := by decide +kernel
theorem dX6_stopsBelow_13 : decode cX6_stopsBelow 13 = .ok (.if_icmp .lt 43, 3) := by decide +kernel
theorem dX6_stopsBelow_16 : decode cX6_stopsBelow 16 = .ok (.aload_n 0, 1) := by decide +kernel
theorem dX6_stopsBelow_17 : decode cX6_stopsBelow 17 = .ok (.getfield 47, 3) := by decide +kernel
theorem dX6_stopsBelow_20 : decode cX6_stopsBelow 20 = .ok (.bipush 80, 2) := by decide +kernel
theorem dX6_stopsBelow_22 : decode cX6_stopsBelow 22 = .ok (.iload_n 1, 1) := by decide +kernel
theorem dX6_stopsBelow_23 : decode cX6_stopsBelow 23 = .ok (.imul, 1) := by decide +kernel
theorem dX6_stopsBelow_24 : decode cX6_stopsBelow 24 = .ok (.iload 4, 2) := by decide +kernel
theorem dX6_stopsBelow_26 : decode cX6_stopsBelow 26 = .ok (.iadd, 1) := by decide +kernel
theorem dX6_stopsBelow_27 : decode cX6_stopsBelow 27 = .ok (.iaload, 1) := by decide +kernel
theorem dX6_stopsBelow_28 : decode cX6_stopsBelow 28 = .ok (.istore 5, 2) := by decide +kernel
theorem dX6_stopsBelow_30 : decode cX6_stopsBelow 30 = .ok (.aload_n 0, 1) := by decide +kernel
theorem dX6_stopsBelow_31 : decode cX6_stopsBelow 31 = .ok (.getfield 20, 3) := by decide +kernel
theorem dX6_stopsBelow_34 : decode cX6_stopsBelow 34 = .ok (.iload 5, 2) := by decide +kernel
theorem dX6_stopsBelow_36 : decode cX6_stopsBelow 36 = .ok (.iaload, 1) := by decide +kernel
theorem dX6_stopsBelow_37 : decode cX6_stopsBelow 37 = .ok (.iconst 1, 1) := by decide +kernel
theorem dX6_stopsBelow_38 : decode cX6_stopsBelow 38 = .ok (.if_icmp .ne 12, 3) := by decide +kernel
theorem dX6_stopsBelow_41 : decode cX6_stopsBelow 41 = .ok (.aload_n 0, 1) := by decide +kernel
theorem dX6_stopsBelow_42 : decode cX6_stopsBelow 42 = .ok (.iload 5, 2) := by decide +kernel
theorem dX6_stopsBelow_44 : decode cX6_stopsBelow 44 = .ok (.iload_n 2, 1) := by decide +kernel
theorem dX6_stopsBelow_45 : decode cX6_stopsBelow 45 = .ok (.iconst 0, 1) := by decide +kernel
theorem dX6_stopsBelow_46 : decode cX6_stopsBelow 46 = .ok (.invokevirtual 92, 3) := by decide +kernel
theorem dX6_stopsBelow_49 : decode cX6_stopsBelow 49 = .ok (.pop, 1) := by decide +kernel
theorem dX6_stopsBelow_50 : decode cX6_stopsBelow 50 = .ok (.iinc 4 (-1), 3) := by decide +kernel
theorem dX6_stopsBelow_53 : decode cX6_stopsBelow 53 = .ok (.goto (-43), 3) := by decide +kernel
theorem dX6_stopsBelow_56 : decode cX6_stopsBelow 56 = .ok (.return_, 1) := by decide +kernel
theorem dX6_ceases_0 : decode cX6_ceases 0 = .ok (.iload_n 2, 1) := by decide +kernel
theorem dX6_ceases_1 : decode cX6_ceases 1 = .ok (.istore 4, 2) := by decide +kernel
theorem dX6_ceases_3 : decode cX6_ceases 3 = .ok (.iconst 0, 1) := by decide +kernel
theorem dX6_ceases_4 : decode cX6_ceases 4 = .ok (.istore 5, 2) := by decide +kernel
theorem dX6_ceases_6 : decode cX6_ceases 6 = .ok (.aload_n 0, 1) := by decide +kernel
theorem dX6_ceases_7 : decode cX6_ceases 7 = .ok (.getfield 62, 3) := by decide +kernel
theorem dX6_ceases_10 : decode cX6_ceases 10 = .ok (.iload 4, 2) := by decide +kernel
theorem dX6_ceases_12 : decode cX6_ceases 12 = .ok (.iload_n 1, 1) := by decide +kernel
theorem dX6_ceases_13 : decode cX6_ceases 13 = .ok (.iastore, 1) := by decide +kernel
theorem dX6_ceases_14 : decode cX6_ceases 14 = .ok (.aload_n 0, 1) := by decide +kernel
theorem dX6_ceases_15 : decode cX6_ceases 15 = .ok (.getfield 65, 3) := by decide +kernel
theorem dX6_ceases_18 : decode cX6_ceases 18 = .ok (.iload 4, 2) := by decide +kernel
theorem dX6_ceases_20 : decode cX6_ceases 20 = .ok (.aload_n 0, 1) := by decide +kernel
theorem dX6_ceases_21 : decode cX6_ceases 21 = .ok (.getfield 50, 3) := by decide +kernel
theorem dX6_ceases_24 : decode cX6_ceases 24 = .ok (.iload_n 1, 1) := by decide +kernel
theorem dX6_ceases_25 : decode cX6_ceases 25 = .ok (.iaload, 1) := by decide +kernel
theorem dX6_ceases_26 : decode cX6_ceases 26 = .ok (.iconst 1, 1) := by decide +kernel
theorem dX6_ceases_27 : decode cX6_ceases 27 = .ok (.isub, 1) := by decide +kernel
theorem dX6_ceases_28 : decode cX6_ceases 28 = .ok (.iastore, 1) := by decide +kernel
theorem dX6_ceases_29 : decode cX6_ceases 29 = .ok (.iload 4, 2) := by decide +kernel
theorem dX6_ceases_31 : decode cX6_ceases 31 = .ok (.iload_n 2, 1) := by decide +kernel
theorem dX6_ceases_32 : decode cX6_ceases 32 = .ok (.if_icmp .lt 303, 3) := by decide +kernel
theorem dX6_ceases_35 : decode cX6_ceases 35 = .ok (.aload_n 0, 1) := by decide +kernel
theorem dX6_ceases_36 : decode cX6_ceases 36 = .ok (.getfield 62, 3) := by decide +kernel
theorem dX6_ceases_39 : decode cX6_ceases 39 = .ok (.iload 4, 2) := by decide +kernel
theorem dX6_ceases_41 : decode cX6_ceases 41 = .ok (.iaload, 1) := by decide +kernel
theorem dX6_ceases_42 : decode cX6_ceases 42 = .ok (.istore 6, 2) := by decide +kernel
theorem dX6_ceases_44 : decode cX6_ceases 44 = .ok (.aload_n 0, 1) := by decide +kernel
theorem dX6_ceases_45 : decode cX6_ceases 45 = .ok (.getfield 7, 3) := by decide +kernel
theorem dX6_ceases_48 : decode cX6_ceases 48 = .ok (.iload 6, 2) := by decide +kernel
theorem dX6_ceases_50 : decode cX6_ceases 50 = .ok (.baload, 1) := by decide +kernel
theorem dX6_ceases_51 : decode cX6_ceases 51 = .ok (.ifCond .eq 54, 3) := by decide +kernel
theorem dX6_ceases_54 : decode cX6_ceases 54 = .ok (.aload_n 0, 1) := by decide +kernel
theorem dX6_ceases_55 : decode cX6_ceases 55 = .ok (.getfield 65, 3) := by decide +kernel
theorem dX6_ceases_58 : decode cX6_ceases 58 = .ok (.iload 4, 2) := by decide +kernel
theorem dX6_ceases_60 : decode cX6_ceases 60 = .ok (.iaload, 1) := by decide +kernel
theorem dX6_ceases_61 : decode cX6_ceases 61 = .ok (.ifCond .lt 44, 3) := by decide +kernel
theorem dX6_ceases_64 : decode cX6_ceases 64 = .ok (.aload_n 0, 1) := by decide +kernel
theorem dX6_ceases_65 : decode cX6_ceases 65 = .ok (.getfield 20, 3) := by decide +kernel
theorem dX6_ceases_68 : decode cX6_ceases 68 = .ok (.aload_n 0, 1) := by decide +kernel
theorem dX6_ceases_69 : decode cX6_ceases 69 = .ok (.getfield 47, 3) := by decide +kernel
theorem dX6_ceases_72 : decode cX6_ceases 72 = .ok (.bipush 80, 2) := by decide +kernel
theorem dX6_ceases_74 : decode cX6_ceases 74 = .ok (.iload 6, 2) := by decide +kernel
theorem dX6_ceases_76 : decode cX6_ceases 76 = .ok (.imul, 1) := by decide +kernel
theorem dX6_ceases_77 : decode cX6_ceases 77 = .ok (.aload_n 0, 1) := by decide +kernel
theorem dX6_ceases_78 : decode cX6_ceases 78 = .ok (.getfield 65, 3) := by decide +kernel
theorem dX6_ceases_81 : decode cX6_ceases 81 = .ok (.iload 4, 2) := by decide +kernel
theorem dX6_ceases_83 : decode cX6_ceases 83 = .ok (.iaload, 1) := by decide +kernel
theorem dX6_ceases_84 : decode cX6_ceases 84 = .ok (.iadd, 1) := by decide +kernel
theorem dX6_ceases_85 : decode cX6_ceases 85 = .ok (.iaload, 1) := by decide +kernel
theorem dX6_ceases_86 : decode cX6_ceases 86 = .ok (.iaload, 1) := by decide +kernel
theorem dX6_ceases_87 : decode cX6_ceases 87 = .ok (.iconst 1, 1) := by decide +kernel
theorem dX6_ceases_88 : decode cX6_ceases 88 = .ok (.if_icmp .eq 17, 3) := by decide +kernel
theorem dX6_ceases_91 : decode cX6_ceases 91 = .ok (.aload_n 0, 1) := by decide +kernel
theorem dX6_ceases_92 : decode cX6_ceases 92 = .ok (.getfield 65, 3) := by decide +kernel
theorem dX6_ceases_95 : decode cX6_ceases 95 = .ok (.iload 4, 2) := by decide +kernel
theorem dX6_ceases_97 : decode cX6_ceases 97 = .ok (.dup2, 1) := by decide +kernel
theorem dX6_ceases_98 : decode cX6_ceases 98 = .ok (.iaload, 1) := by decide +kernel
theorem dX6_ceases_99 : decode cX6_ceases 99 = .ok (.iconst 1, 1) := by decide +kernel
theorem dX6_ceases_100 : decode cX6_ceases 100 = .ok (.isub, 1) := by decide +kernel
theorem dX6_ceases_101 : decode cX6_ceases 101 = .ok (.iastore, 1) := by decide +kernel
theorem dX6_ceases_102 : decode cX6_ceases 102 = .ok (.goto (-58), 3) := by decide +kernel
theorem dX6_ceases_105 : decode cX6_ceases 105 = .ok (.aload_n 0, 1) := by decide +kernel
theorem dX6_ceases_106 : decode cX6_ceases 106 = .ok (.getfield 7, 3) := by decide +kernel
theorem dX6_ceases_109 : decode cX6_ceases 109 = .ok (.iload 6, 2) := by decide +kernel
theorem dX6_ceases_111 : decode cX6_ceases 111 = .ok (.baload, 1) := by decide +kernel
theorem dX6_ceases_112 : decode cX6_ceases 112 = .ok (.ifCond .eq 75, 3) := by decide +kernel
theorem dX6_ceases_115 : decode cX6_ceases 115 = .ok (.aload_n 0, 1) := by decide +kernel
theorem dX6_ceases_116 : decode cX6_ceases 116 = .ok (.getfield 65, 3) := by decide +kernel
theorem dX6_ceases_119 : decode cX6_ceases 119 = .ok (.iload 4, 2) := by decide +kernel
theorem dX6_ceases_121 : decode cX6_ceases 121 = .ok (.iaload, 1) := by decide +kernel
theorem dX6_ceases_122 : decode cX6_ceases 122 = .ok (.ifCond .lt 65, 3) := by decide +kernel
theorem dX6_ceases_125 : decode cX6_ceases 125 = .ok (.aload_n 0, 1) := by decide +kernel
theorem dX6_ceases_126 : decode cX6_ceases 126 = .ok (.getfield 47, 3) := by decide +kernel
theorem dX6_ceases_129 : decode cX6_ceases 129 = .ok (.bipush 80, 2) := by decide +kernel
theorem dX6_ceases_131 : decode cX6_ceases 131 = .ok (.iload 6, 2) := by decide +kernel
theorem dX6_ceases_133 : decode cX6_ceases 133 = .ok (.imul, 1) := by decide +kernel
theorem dX6_ceases_134 : decode cX6_ceases 134 = .ok (.aload_n 0, 1) := by decide +kernel
theorem dX6_ceases_135 : decode cX6_ceases 135 = .ok (.getfield 65, 3) := by decide +kernel
theorem dX6_ceases_138 : decode cX6_ceases 138 = .ok (.iload 4, 2) := by decide +kernel
theorem dX6_ceases_140 : decode cX6_ceases 140 = .ok (.iaload, 1) := by decide +kernel
theorem dX6_ceases_141 : decode cX6_ceases 141 = .ok (.iadd, 1) := by decide +kernel
theorem dX6_ceases_142 : decode cX6_ceases 142 = .ok (.iaload, 1) := by decide +kernel
theorem dX6_ceases_143 : decode cX6_ceases 143 = .ok (.istore 7, 2) := by decide +kernel
theorem dX6_ceases_145 : decode cX6_ceases 145 = .ok (.aload_n 0, 1) := by decide +kernel
theorem dX6_ceases_146 : decode cX6_ceases 146 = .ok (.getfield 65, 3) := by decide +kernel
theorem dX6_ceases_149 : decode cX6_ceases 149 = .ok (.iload 4, 2) := by decide +kernel
theorem dX6_ceases_151 : decode cX6_ceases 151 = .ok (.dup2, 1) := by decide +kernel
theorem dX6_ceases_152 : decode cX6_ceases 152 = .ok (.iaload, 1) := by decide +kernel
theorem dX6_ceases_153 : decode cX6_ceases 153 = .ok (.iconst 1, 1) := by decide +kernel
theorem dX6_ceases_154 : decode cX6_ceases 154 = .ok (.isub, 1) := by decide +kernel
theorem dX6_ceases_155 : decode cX6_ceases 155 = .ok (.iastore, 1) := by decide +kernel
theorem dX6_ceases_156 : decode cX6_ceases 156 = .ok (.iinc 4 1, 3) := by decide +kernel
theorem dX6_ceases_159 : decode cX6_ceases 159 = .ok (.aload_n 0, 1) := by decide +kernel
theorem dX6_ceases_160 : decode cX6_ceases 160 = .ok (.getfield 62, 3) := by decide +kernel
theorem dX6_ceases_163 : decode cX6_ceases 163 = .ok (.iload 4, 2) := by decide +kernel
theorem dX6_ceases_165 : decode cX6_ceases 165 = .ok (.iload 7, 2) := by decide +kernel
theorem dX6_ceases_167 : decode cX6_ceases 167 = .ok (.iastore, 1) := by decide +kernel
theorem dX6_ceases_168 : decode cX6_ceases 168 = .ok (.aload_n 0, 1) := by decide +kernel
theorem dX6_ceases_169 : decode cX6_ceases 169 = .ok (.getfield 65, 3) := by decide +kernel
theorem dX6_ceases_172 : decode cX6_ceases 172 = .ok (.iload 4, 2) := by decide +kernel
theorem dX6_ceases_174 : decode cX6_ceases 174 = .ok (.aload_n 0, 1) := by decide +kernel
theorem dX6_ceases_175 : decode cX6_ceases 175 = .ok (.getfield 50, 3) := by decide +kernel
theorem dX6_ceases_178 : decode cX6_ceases 178 = .ok (.iload 7, 2) := by decide +kernel
theorem dX6_ceases_180 : decode cX6_ceases 180 = .ok (.iaload, 1) := by decide +kernel
theorem dX6_ceases_181 : decode cX6_ceases 181 = .ok (.iconst 1, 1) := by decide +kernel
theorem dX6_ceases_182 : decode cX6_ceases 182 = .ok (.isub, 1) := by decide +kernel
theorem dX6_ceases_183 : decode cX6_ceases 183 = .ok (.iastore, 1) := by decide +kernel
theorem dX6_ceases_184 : decode cX6_ceases 184 = .ok (.goto (-155), 3) := by decide +kernel
theorem dX6_ceases_187 : decode cX6_ceases 187 = .ok (.iload_n 3, 1) := by decide +kernel
theorem dX6_ceases_188 : decode cX6_ceases 188 = .ok (.istore 7, 2) := by decide +kernel
theorem dX6_ceases_190 : decode cX6_ceases 190 = .ok (.aload_n 0, 1) := by decide +kernel
theorem dX6_ceases_191 : decode cX6_ceases 191 = .ok (.getfield 7, 3) := by decide +kernel
theorem dX6_ceases_194 : decode cX6_ceases 194 = .ok (.iload 6, 2) := by decide +kernel
theorem dX6_ceases_196 : decode cX6_ceases 196 = .ok (.baload, 1) := by decide +kernel
theorem dX6_ceases_197 : decode cX6_ceases 197 = .ok (.ifCond .ne 104, 3) := by decide +kernel
theorem dX6_ceases_200 : decode cX6_ceases 200 = .ok (.iload_n 3, 1) := by decide +kernel
theorem dX6_ceases_201 : decode cX6_ceases 201 = .ok (.ifCond .ne 100, 3) := by decide +kernel
theorem dX6_ceases_204 : decode cX6_ceases 204 = .ok (.aload_n 0, 1) := by decide +kernel
theorem dX6_ceases_205 : decode cX6_ceases 205 = .ok (.getfield 35, 3) := by decide +kernel
theorem dX6_ceases_208 : decode cX6_ceases 208 = .ok (.iload 6, 2) := by decide +kernel
theorem dX6_ceases_210 : decode cX6_ceases 210 = .ok (.iaload, 1) := by decide +kernel
theorem dX6_ceases_211 : decode cX6_ceases 211 = .ok (.ifCond .eq 30, 3) := by decide +kernel
theorem dX6_ceases_214 : decode cX6_ceases 214 = .ok (.aload_n 0, 1) := by decide +kernel
theorem dX6_ceases_215 : decode cX6_ceases 215 = .ok (.getfield 35, 3) := by decide +kernel
theorem dX6_ceases_218 : decode cX6_ceases 218 = .ok (.iload 6, 2) := by decide +kernel
theorem dX6_ceases_220 : decode cX6_ceases 220 = .ok (.iaload, 1) := by decide +kernel
theorem dX6_ceases_221 : decode cX6_ceases 221 = .ok (.ifCond .le 24, 3) := by decide +kernel
theorem dX6_ceases_224 : decode cX6_ceases 224 = .ok (.aload_n 0, 1) := by decide +kernel
theorem dX6_ceases_225 : decode cX6_ceases 225 = .ok (.getfield 41, 3) := by decide +kernel
theorem dX6_ceases_228 : decode cX6_ceases 228 = .ok (.iload 6, 2) := by decide +kernel
theorem dX6_ceases_230 : decode cX6_ceases 230 = .ok (.iaload, 1) := by decide +kernel
theorem dX6_ceases_231 : decode cX6_ceases 231 = .ok (.aload_n 0, 1) := by decide +kernel
theorem dX6_ceases_232 : decode cX6_ceases 232 = .ok (.getfield 35, 3) := by decide +kernel
theorem dX6_ceases_235 : decode cX6_ceases 235 = .ok (.iload 6, 2) := by decide +kernel
theorem dX6_ceases_237 : decode cX6_ceases 237 = .ok (.iaload, 1) := by decide +kernel
theorem dX6_ceases_238 : decode cX6_ceases 238 = .ok (.if_icmp .le 7, 3) := by decide +kernel
theorem dX6_ceases_241 : decode cX6_ceases 241 = .ok (.iconst 1, 1) := by decide +kernel
theorem dX6_ceases_242 : decode cX6_ceases 242 = .ok (.goto 4, 3) := by decide +kernel
theorem dX6_ceases_245 : decode cX6_ceases 245 = .ok (.iconst 0, 1) := by decide +kernel
theorem dX6_ceases_246 : decode cX6_ceases 246 = .ok (.istore 7, 2) := by decide +kernel
theorem dX6_ceases_248 : decode cX6_ceases 248 = .ok (.aload_n 0, 1) := by decide +kernel
theorem dX6_ceases_249 : decode cX6_ceases 249 = .ok (.dup, 1) := by decide +kernel
theorem dX6_ceases_250 : decode cX6_ceases 250 = .ok (.getfield 82, 3) := by decide +kernel
theorem dX6_ceases_253 : decode cX6_ceases 253 = .ok (.aload_n 0, 1) := by decide +kernel
theorem dX6_ceases_254 : decode cX6_ceases 254 = .ok (.getfield 35, 3) := by decide +kernel
theorem dX6_ceases_257 : decode cX6_ceases 257 = .ok (.iload 6, 2) := by decide +kernel
theorem dX6_ceases_259 : decode cX6_ceases 259 = .ok (.iaload, 1) := by decide +kernel
theorem dX6_ceases_260 : decode cX6_ceases 260 = .ok (.ifCond .lt 20, 3) := by decide +kernel
theorem dX6_ceases_263 : decode cX6_ceases 263 = .ok (.aload_n 0, 1) := by decide +kernel
theorem dX6_ceases_264 : decode cX6_ceases 264 = .ok (.getfield 41, 3) := by decide +kernel
theorem dX6_ceases_267 : decode cX6_ceases 267 = .ok (.iload 6, 2) := by decide +kernel
theorem dX6_ceases_269 : decode cX6_ceases 269 = .ok (.iaload, 1) := by decide +kernel
theorem dX6_ceases_270 : decode cX6_ceases 270 = .ok (.aload_n 0, 1) := by decide +kernel
theorem dX6_ceases_271 : decode cX6_ceases 271 = .ok (.getfield 35, 3) := by decide +kernel
theorem dX6_ceases_274 : decode cX6_ceases 274 = .ok (.iload 6, 2) := by decide +kernel
theorem dX6_ceases_276 : decode cX6_ceases 276 = .ok (.iaload, 1) := by decide +kernel
theorem dX6_ceases_277 : decode cX6_ceases 277 = .ok (.if_icmp .ge 13, 3) := by decide +kernel
theorem dX6_ceases_280 : decode cX6_ceases 280 = .ok (.aload_n 0, 1) := by decide +kernel
theorem dX6_ceases_281 : decode cX6_ceases 281 = .ok (.getfield 41, 3) := by decide +kernel
theorem dX6_ceases_284 : decode cX6_ceases 284 = .ok (.iload 6, 2) := by decide +kernel
theorem dX6_ceases_286 : decode cX6_ceases 286 = .ok (.iaload, 1) := by decide +kernel
theorem dX6_ceases_287 : decode cX6_ceases 287 = .ok (.goto 10, 3) := by decide +kernel
theorem dX6_ceases_290 : decode cX6_ceases 290 = .ok (.aload_n 0, 1) := by decide +kernel
theorem dX6_ceases_291 : decode cX6_ceases 291 = .ok (.getfield 35, 3) := by decide +kernel
theorem dX6_ceases_294 : decode cX6_ceases 294 = .ok (.iload 6, 2) := by decide +kernel
theorem dX6_ceases_296 : decode cX6_ceases 296 = .ok (.iaload, 1) := by decide +kernel
theorem dX6_ceases_297 : decode cX6_ceases 297 = .ok (.iadd, 1) := by decide +kernel
theorem dX6_ceases_298 : decode cX6_ceases 298 = .ok (.putfield 82, 3) := by decide +kernel
theorem dX6_ceases_301 : decode cX6_ceases 301 = .ok (.aload_n 0, 1) := by decide +kernel
theorem dX6_ceases_302 : decode cX6_ceases 302 = .ok (.getfield 20, 3) := by decide +kernel
theorem dX6_ceases_305 : decode cX6_ceases 305 = .ok (.iload 6, 2) := by decide +kernel
theorem dX6_ceases_307 : decode cX6_ceases 307 = .ok (.iconst 0, 1) := by decide +kernel
theorem dX6_ceases_308 : decode cX6_ceases 308 = .ok (.iastore, 1) := by decide +kernel
theorem dX6_ceases_309 : decode cX6_ceases 309 = .ok (.aload_n 0, 1) := by decide +kernel
theorem dX6_ceases_310 : decode cX6_ceases 310 = .ok (.iload 7, 2) := by decide +kernel
theorem dX6_ceases_312 : decode cX6_ceases 312 = .ok (.ifCond .eq 7, 3) := by decide +kernel
theorem dX6_ceases_315 : decode cX6_ceases 315 = .ok (.iconst 4, 1) := by decide +kernel
theorem dX6_ceases_316 : decode cX6_ceases 316 = .ok (.goto 4, 3) := by decide +kernel
theorem dX6_ceases_319 : decode cX6_ceases 319 = .ok (.iconst 3, 1) := by decide +kernel
theorem dX6_ceases_320 : decode cX6_ceases 320 = .ok (.iload 6, 2) := by decide +kernel
theorem dX6_ceases_322 : decode cX6_ceases 322 = .ok (.iconst 0, 1) := by decide +kernel
theorem dX6_ceases_323 : decode cX6_ceases 323 = .ok (.invokevirtual 89, 3) := by decide +kernel
theorem dX6_ceases_326 : decode cX6_ceases 326 = .ok (.iinc 5 1, 3) := by decide +kernel
theorem dX6_ceases_329 : decode cX6_ceases 329 = .ok (.iinc 4 (-1), 3) := by decide +kernel
theorem dX6_ceases_332 : decode cX6_ceases 332 = .ok (.goto (-303), 3) := by decide +kernel
theorem dX6_ceases_335 : decode cX6_ceases 335 = .ok (.iload 5, 2) := by decide +kernel
theorem dX6_ceases_337 : decode cX6_ceases 337 = .ok (.ireturn, 1) := by decide +kernel
theorem dX6_place_0 : decode cX6_place 0 = .ok (.aload_n 0, 1) := by decide +kernel
theorem dX6_place_1 : decode cX6_place 1 = .ok (.getfield 13, 3) := by decide +kernel
theorem dX6_place_4 : decode cX6_place 4 = .ok (.iload_n 1, 1) := by decide +kernel
theorem dX6_place_5 : decode cX6_place 5 = .ok (.iaload, 1) := by decide +kernel
theorem dX6_place_6 : decode cX6_place 6 = .ok (.istore_n 2, 1) := by decide +kernel
theorem dX6_place_7 : decode cX6_place 7 = .ok (.iconst 0, 1) := by decide +kernel
theorem dX6_place_8 : decode cX6_place 8 = .ok (.istore_n 3, 1) := by decide +kernel
theorem dX6_place_9 : decode cX6_place 9 = .ok (.aload_n 0, 1) := by decide +kernel
theorem dX6_place_10 : decode cX6_place 10 = .ok (.getfield 47, 3) := by decide +kernel
theorem dX6_place_13 : decode cX6_place 13 = .ok (.bipush 80, 2) := by decide +kernel
theorem dX6_place_15 : decode cX6_place 15 = .ok (.iload_n 2, 1) := by decide +kernel
theorem dX6_place_16 : decode cX6_place 16 = .ok (.imul, 1) := by decide +kernel
theorem dX6_place_17 : decode cX6_place 17 = .ok (.iload_n 3, 1) := by decide +kernel
theorem dX6_place_18 : decode cX6_place 18 = .ok (.iadd, 1) := by decide +kernel
theorem dX6_place_19 : decode cX6_place 19 = .ok (.iaload, 1) := by decide +kernel
theorem dX6_place_20 : decode cX6_place 20 = .ok (.iload_n 1, 1) := by decide +kernel
theorem dX6_place_21 : decode cX6_place 21 = .ok (.if_icmp .eq 9, 3) := by decide +kernel
theorem dX6_place_24 : decode cX6_place 24 = .ok (.iinc 3 1, 3) := by decide +kernel
theorem dX6_place_27 : decode cX6_place 27 = .ok (.goto (-18), 3) := by decide +kernel
theorem dX6_place_30 : decode cX6_place 30 = .ok (.iload_n 3, 1) := by decide +kernel
theorem dX6_place_31 : decode cX6_place 31 = .ok (.ireturn, 1) := by decide +kernel
theorem dX6_goes_0 : decode cX6_goes 0 = .ok (.aload_n 0, 1) := by decide +kernel
theorem dX6_goes_1 : decode cX6_goes 1 = .ok (.getfield 13, 3) := by decide +kernel
theorem dX6_goes_4 : decode cX6_goes 4 = .ok (.iload_n 1, 1) := by decide +kernel
theorem dX6_goes_5 : decode cX6_goes 5 = .ok (.iaload, 1) := by decide +kernel
theorem dX6_goes_6 : decode cX6_goes 6 = .ok (.istore_n 2, 1) := by decide +kernel
theorem dX6_goes_7 : decode cX6_goes 7 = .ok (.aload_n 0, 1) := by decide +kernel
theorem dX6_goes_8 : decode cX6_goes 8 = .ok (.iload_n 1, 1) := by decide +kernel
theorem dX6_goes_9 : decode cX6_goes 9 = .ok (.invokevirtual 96, 3) := by decide +kernel
theorem dX6_goes_12 : decode cX6_goes 12 = .ok (.istore_n 3, 1) := by decide +kernel
theorem dX6_goes_13 : decode cX6_goes 13 = .ok (.iload_n 3, 1) := by decide +kernel
theorem dX6_goes_14 : decode cX6_goes 14 = .ok (.iconst 1, 1) := by decide +kernel
theorem dX6_goes_15 : decode cX6_goes 15 = .ok (.iadd, 1) := by decide +kernel
theorem dX6_goes_16 : decode cX6_goes 16 = .ok (.aload_n 0, 1) := by decide +kernel
theorem dX6_goes_17 : decode cX6_goes 17 = .ok (.getfield 50, 3) := by decide +kernel
theorem dX6_goes_20 : decode cX6_goes 20 = .ok (.iload_n 2, 1) := by decide +kernel
theorem dX6_goes_21 : decode cX6_goes 21 = .ok (.iaload, 1) := by decide +kernel
theorem dX6_goes_22 : decode cX6_goes 22 = .ok (.if_icmp .ge 33, 3) := by decide +kernel
theorem dX6_goes_25 : decode cX6_goes 25 = .ok (.aload_n 0, 1) := by decide +kernel
theorem dX6_goes_26 : decode cX6_goes 26 = .ok (.getfield 47, 3) := by decide +kernel
theorem dX6_goes_29 : decode cX6_goes 29 = .ok (.bipush 80, 2) := by decide +kernel
theorem dX6_goes_31 : decode cX6_goes 31 = .ok (.iload_n 2, 1) := by decide +kernel
theorem dX6_goes_32 : decode cX6_goes 32 = .ok (.imul, 1) := by decide +kernel
theorem dX6_goes_33 : decode cX6_goes 33 = .ok (.iload_n 3, 1) := by decide +kernel
theorem dX6_goes_34 : decode cX6_goes 34 = .ok (.iadd, 1) := by decide +kernel
theorem dX6_goes_35 : decode cX6_goes 35 = .ok (.aload_n 0, 1) := by decide +kernel
theorem dX6_goes_36 : decode cX6_goes 36 = .ok (.getfield 47, 3) := by decide +kernel
theorem dX6_goes_39 : decode cX6_goes 39 = .ok (.bipush 80, 2) := by decide +kernel
theorem dX6_goes_41 : decode cX6_goes 41 = .ok (.iload_n 2, 1) := by decide +kernel
theorem dX6_goes_42 : decode cX6_goes 42 = .ok (.imul, 1) := by decide +kernel
theorem dX6_goes_43 : decode cX6_goes 43 = .ok (.iload_n 3, 1) := by decide +kernel
theorem dX6_goes_44 : decode cX6_goes 44 = .ok (.iadd, 1) := by decide +kernel
theorem dX6_goes_45 : decode cX6_goes 45 = .ok (.iconst 1, 1) := by decide +kernel
theorem dX6_goes_46 : decode cX6_goes 46 = .ok (.iadd, 1) := by decide +kernel
theorem dX6_goes_47 : decode cX6_goes 47 = .ok (.iaload, 1) := by decide +kernel
theorem dX6_goes_48 : decode cX6_goes 48 = .ok (.iastore, 1) := by decide +kernel
theorem dX6_goes_49 : decode cX6_goes 49 = .ok (.iinc 3 1, 3) := by decide +kernel
theorem dX6_goes_52 : decode cX6_goes 52 = .ok (.goto (-39), 3) := by decide +kernel
theorem dX6_goes_55 : decode cX6_goes 55 = .ok (.aload_n 0, 1) := by decide +kernel
theorem dX6_goes_56 : decode cX6_goes 56 = .ok (.getfield 50, 3) := by decide +kernel
theorem dX6_goes_59 : decode cX6_goes 59 = .ok (.iload_n 2, 1) := by decide +kernel
theorem dX6_goes_60 : decode cX6_goes 60 = .ok (.dup2, 1) := by decide +kernel
theorem dX6_goes_61 : decode cX6_goes 61 = .ok (.iaload, 1) := by decide +kernel
theorem dX6_goes_62 : decode cX6_goes 62 = .ok (.iconst 1, 1) := by decide +kernel
theorem dX6_goes_63 : decode cX6_goes 63 = .ok (.isub, 1) := by decide +kernel
theorem dX6_goes_64 : decode cX6_goes 64 = .ok (.iastore, 1) := by decide +kernel
theorem dX6_goes_65 : decode cX6_goes 65 = .ok (.aload_n 0, 1) := by decide +kernel
theorem dX6_goes_66 : decode cX6_goes 66 = .ok (.bipush 7, 2) := by decide +kernel
theorem dX6_goes_68 : decode cX6_goes 68 = .ok (.iload_n 1, 1) := by decide +kernel
theorem dX6_goes_69 : decode cX6_goes 69 = .ok (.iconst 0, 1) := by decide +kernel
theorem dX6_goes_70 : decode cX6_goes 70 = .ok (.invokevirtual 89, 3) := by decide +kernel
theorem dX6_goes_73 : decode cX6_goes 73 = .ok (.aload_n 0, 1) := by decide +kernel
theorem dX6_goes_74 : decode cX6_goes 74 = .ok (.getfield 20, 3) := by decide +kernel
theorem dX6_goes_77 : decode cX6_goes 77 = .ok (.iload_n 1, 1) := by decide +kernel
theorem dX6_goes_78 : decode cX6_goes 78 = .ok (.iconst 2, 1) := by decide +kernel
theorem dX6_goes_79 : decode cX6_goes 79 = .ok (.iastore, 1) := by decide +kernel
theorem dX6_goes_80 : decode cX6_goes 80 = .ok (.iconst 1, 1) := by decide +kernel
theorem dX6_goes_81 : decode cX6_goes 81 = .ok (.istore_n 3, 1) := by decide +kernel
theorem dX6_goes_82 : decode cX6_goes 82 = .ok (.iload_n 1, 1) := by decide +kernel
theorem dX6_goes_83 : decode cX6_goes 83 = .ok (.iconst 1, 1) := by decide +kernel
theorem dX6_goes_84 : decode cX6_goes 84 = .ok (.iadd, 1) := by decide +kernel
theorem dX6_goes_85 : decode cX6_goes 85 = .ok (.istore 4, 2) := by decide +kernel
theorem dX6_goes_87 : decode cX6_goes 87 = .ok (.iload 4, 2) := by decide +kernel
theorem dX6_goes_89 : decode cX6_goes 89 = .ok (.aload_n 0, 1) := by decide +kernel
theorem dX6_goes_90 : decode cX6_goes 90 = .ok (.getfield 68, 3) := by decide +kernel
theorem dX6_goes_93 : decode cX6_goes 93 = .ok (.if_icmp .ge 47, 3) := by decide +kernel
theorem dX6_goes_96 : decode cX6_goes 96 = .ok (.aload_n 0, 1) := by decide +kernel
theorem dX6_goes_97 : decode cX6_goes 97 = .ok (.getfield 20, 3) := by decide +kernel
theorem dX6_goes_100 : decode cX6_goes 100 = .ok (.iload 4, 2) := by decide +kernel
theorem dX6_goes_102 : decode cX6_goes 102 = .ok (.iaload, 1) := by decide +kernel
theorem dX6_goes_103 : decode cX6_goes 103 = .ok (.iconst 2, 1) := by decide +kernel
theorem dX6_goes_104 : decode cX6_goes 104 = .ok (.if_icmp .eq 30, 3) := by decide +kernel
theorem dX6_goes_107 : decode cX6_goes 107 = .ok (.aload_n 0, 1) := by decide +kernel
theorem dX6_goes_108 : decode cX6_goes 108 = .ok (.getfield 20, 3) := by decide +kernel
theorem dX6_goes_111 : decode cX6_goes 111 = .ok (.aload_n 0, 1) := by decide +kernel
theorem dX6_goes_112 : decode cX6_goes 112 = .ok (.getfield 13, 3) := by decide +kernel
theorem dX6_goes_115 : decode cX6_goes 115 = .ok (.iload 4, 2) := by decide +kernel
theorem dX6_goes_117 : decode cX6_goes 117 = .ok (.iaload, 1) := by decide +kernel
theorem dX6_goes_118 : decode cX6_goes 118 = .ok (.iaload, 1) := by decide +kernel
theorem dX6_goes_119 : decode cX6_goes 119 = .ok (.iconst 2, 1) := by decide +kernel
theorem dX6_goes_120 : decode cX6_goes 120 = .ok (.if_icmp .ne 14, 3) := by decide +kernel
theorem dX6_goes_123 : decode cX6_goes 123 = .ok (.aload_n 0, 1) := by decide +kernel
theorem dX6_goes_124 : decode cX6_goes 124 = .ok (.getfield 20, 3) := by decide +kernel
theorem dX6_goes_127 : decode cX6_goes 127 = .ok (.iload 4, 2) := by decide +kernel
theorem dX6_goes_129 : decode cX6_goes 129 = .ok (.iconst 2, 1) := by decide +kernel
theorem dX6_goes_130 : decode cX6_goes 130 = .ok (.iastore, 1) := by decide +kernel
theorem dX6_goes_131 : decode cX6_goes 131 = .ok (.iinc 3 1, 3) := by decide +kernel
theorem dX6_goes_134 : decode cX6_goes 134 = .ok (.iinc 4 1, 3) := by decide +kernel
theorem dX6_goes_137 : decode cX6_goes 137 = .ok (.goto (-50), 3) := by decide +kernel
theorem dX6_goes_140 : decode cX6_goes 140 = .ok (.iload_n 3, 1) := by decide +kernel
theorem dX6_goes_141 : decode cX6_goes 141 = .ok (.ireturn, 1) := by decide +kernel
theorem dX6_counts_0 : decode cX6_counts 0 = .ok (.bipush 52, 2) := by decide +kernel
theorem dX6_counts_2 : decode cX6_counts 2 = .ok (.iload_n 1, 1) := by decide +kernel
theorem dX6_counts_3 : decode cX6_counts 3 = .ok (.imul, 1) := by decide +kernel
theorem dX6_counts_4 : decode cX6_counts 4 = .ok (.istore_n 2, 1) := by decide +kernel
theorem dX6_counts_5 : decode cX6_counts 5 = .ok (.iconst 0, 1) := by decide +kernel
theorem dX6_counts_6 : decode cX6_counts 6 = .ok (.istore_n 3, 1) := by decide +kernel
theorem dX6_counts_7 : decode cX6_counts 7 = .ok (.iconst 0, 1) := by decide +kernel
theorem dX6_counts_8 : decode cX6_counts 8 = .ok (.istore 4, 2) := by decide +kernel
theorem dX6_counts_10 : decode cX6_counts 10 = .ok (.iload 4, 2) := by decide +kernel
theorem dX6_counts_12 : decode cX6_counts 12 = .ok (.aload_n 0, 1) := by decide +kernel
theorem dX6_counts_13 : decode cX6_counts 13 = .ok (.getfield 56, 3) := by decide +kernel
theorem dX6_counts_16 : decode cX6_counts 16 = .ok (.iload_n 1, 1) := by decide +kernel
theorem dX6_counts_17 : decode cX6_counts 17 = .ok (.iaload, 1) := by decide +kernel
theorem dX6_counts_18 : decode cX6_counts 18 = .ok (.if_icmp .ge 52, 3) := by decide +kernel
theorem dX6_counts_21 : decode cX6_counts 21 = .ok (.aload_n 0, 1) := by decide +kernel
theorem dX6_counts_22 : decode cX6_counts 22 = .ok (.getfield 53, 3) := by decide +kernel
theorem dX6_counts_25 : decode cX6_counts 25 = .ok (.iload_n 2, 1) := by decide +kernel
theorem dX6_counts_26 : decode cX6_counts 26 = .ok (.iload 4, 2) := by decide +kernel
theorem dX6_counts_28 : decode cX6_counts 28 = .ok (.iadd, 1) := by decide +kernel
theorem dX6_counts_29 : decode cX6_counts 29 = .ok (.iaload, 1) := by decide +kernel
theorem dX6_counts_30 : decode cX6_counts 30 = .ok (.aload_n 0, 1) := by decide +kernel
theorem dX6_counts_31 : decode cX6_counts 31 = .ok (.getfield 82, 3) := by decide +kernel
theorem dX6_counts_34 : decode cX6_counts 34 = .ok (.aload_n 0, 1) := by decide +kernel
theorem dX6_counts_35 : decode cX6_counts 35 = .ok (.getfield 32, 3) := by decide +kernel
theorem dX6_counts_38 : decode cX6_counts 38 = .ok (.iload_n 1, 1) := by decide +kernel
theorem dX6_counts_39 : decode cX6_counts 39 = .ok (.iaload, 1) := by decide +kernel
theorem dX6_counts_40 : decode cX6_counts 40 = .ok (.isub, 1) := by decide +kernel
theorem dX6_counts_41 : decode cX6_counts 41 = .ok (.if_icmp .lt 23, 3) := by decide +kernel
theorem dX6_counts_44 : decode cX6_counts 44 = .ok (.aload_n 0, 1) := by decide +kernel
theorem dX6_counts_45 : decode cX6_counts 45 = .ok (.getfield 53, 3) := by decide +kernel
theorem dX6_counts_48 : decode cX6_counts 48 = .ok (.iload_n 2, 1) := by decide +kernel
theorem dX6_counts_49 : decode cX6_counts 49 = .ok (.iload_n 3, 1) := by decide +kernel
theorem dX6_counts_50 : decode cX6_counts 50 = .ok (.iadd, 1) := by decide +kernel
theorem dX6_counts_51 : decode cX6_counts 51 = .ok (.aload_n 0, 1) := by decide +kernel
theorem dX6_counts_52 : decode cX6_counts 52 = .ok (.getfield 53, 3) := by decide +kernel
theorem dX6_counts_55 : decode cX6_counts 55 = .ok (.iload_n 2, 1) := by decide +kernel
theorem dX6_counts_56 : decode cX6_counts 56 = .ok (.iload 4, 2) := by decide +kernel
theorem dX6_counts_58 : decode cX6_counts 58 = .ok (.iadd, 1) := by decide +kernel
theorem dX6_counts_59 : decode cX6_counts 59 = .ok (.iaload, 1) := by decide +kernel
theorem dX6_counts_60 : decode cX6_counts 60 = .ok (.iastore, 1) := by decide +kernel
theorem dX6_counts_61 : decode cX6_counts 61 = .ok (.iinc 3 1, 3) := by decide +kernel
theorem dX6_counts_64 : decode cX6_counts 64 = .ok (.iinc 4 1, 3) := by decide +kernel
theorem dX6_counts_67 : decode cX6_counts 67 = .ok (.goto (-57), 3) := by decide +kernel
theorem dX6_counts_70 : decode cX6_counts 70 = .ok (.aload_n 0, 1) := by decide +kernel
theorem dX6_counts_71 : decode cX6_counts 71 = .ok (.getfield 53, 3) := by decide +kernel
theorem dX6_counts_74 : decode cX6_counts 74 = .ok (.iload_n 2, 1) := by decide +kernel
theorem dX6_counts_75 : decode cX6_counts 75 = .ok (.iload_n 3, 1) := by decide +kernel
theorem dX6_counts_76 : decode cX6_counts 76 = .ok (.iadd, 1) := by decide +kernel
theorem dX6_counts_77 : decode cX6_counts 77 = .ok (.aload_n 0, 1) := by decide +kernel
theorem dX6_counts_78 : decode cX6_counts 78 = .ok (.getfield 82, 3) := by decide +kernel
theorem dX6_counts_81 : decode cX6_counts 81 = .ok (.iastore, 1) := by decide +kernel
theorem dX6_counts_82 : decode cX6_counts 82 = .ok (.aload_n 0, 1) := by decide +kernel
theorem dX6_counts_83 : decode cX6_counts 83 = .ok (.getfield 56, 3) := by decide +kernel
theorem dX6_counts_86 : decode cX6_counts 86 = .ok (.iload_n 1, 1) := by decide +kernel
theorem dX6_counts_87 : decode cX6_counts 87 = .ok (.iload_n 3, 1) := by decide +kernel
theorem dX6_counts_88 : decode cX6_counts 88 = .ok (.iconst 1, 1) := by decide +kernel
theorem dX6_counts_89 : decode cX6_counts 89 = .ok (.iadd, 1) := by decide +kernel
theorem dX6_counts_90 : decode cX6_counts 90 = .ok (.iastore, 1) := by decide +kernel
theorem dX6_counts_91 : decode cX6_counts 91 = .ok (.aload_n 0, 1) := by decide +kernel
theorem dX6_counts_92 : decode cX6_counts 92 = .ok (.dup, 1) := by decide +kernel
theorem dX6_counts_93 : decode cX6_counts 93 = .ok (.getfield 100, 3) := by decide +kernel
theorem dX6_counts_96 : decode cX6_counts 96 = .ok (.iconst 1, 1) := by decide +kernel
theorem dX6_counts_97 : decode cX6_counts 97 = .ok (.iadd, 1) := by decide +kernel
theorem dX6_counts_98 : decode cX6_counts 98 = .ok (.putfield 100, 3) := by decide +kernel
theorem dX6_counts_101 : decode cX6_counts 101 = .ok (.iload_n 3, 1) := by decide +kernel
theorem dX6_counts_102 : decode cX6_counts 102 = .ok (.iconst 1, 1) := by decide +kernel
theorem dX6_counts_103 : decode cX6_counts 103 = .ok (.iadd, 1) := by decide +kernel
theorem dX6_counts_104 : decode cX6_counts 104 = .ok (.aload_n 0, 1) := by decide +kernel
theorem dX6_counts_105 : decode cX6_counts 105 = .ok (.getfield 29, 3) := by decide +kernel
theorem dX6_counts_108 : decode cX6_counts 108 = .ok (.iload_n 1, 1) := by decide +kernel
theorem dX6_counts_109 : decode cX6_counts 109 = .ok (.iaload, 1) := by decide +kernel
theorem dX6_counts_110 : decode cX6_counts 110 = .ok (.if_icmp .le 7, 3) := by decide +kernel
theorem dX6_counts_113 : decode cX6_counts 113 = .ok (.iconst 1, 1) := by decide +kernel
theorem dX6_counts_114 : decode cX6_counts 114 = .ok (.goto 4, 3) := by decide +kernel
theorem dX6_counts_117 : decode cX6_counts 117 = .ok (.iconst 0, 1) := by decide +kernel
theorem dX6_counts_118 : decode cX6_counts 118 = .ok (.ireturn, 1) := by decide +kernel
theorem dX6_handles_0 : decode cX6_handles 0 = .ok (.iload_n 1, 1) := by decide +kernel
theorem dX6_handles_1 : decode cX6_handles 1 = .ok (.istore_n 3, 1) := by decide +kernel
theorem dX6_handles_2 : decode cX6_handles 2 = .ok (.iload_n 2, 1) := by decide +kernel
theorem dX6_handles_3 : decode cX6_handles 3 = .ok (.istore 4, 2) := by decide +kernel
theorem dX6_handles_5 : decode cX6_handles 5 = .ok (.iload_n 3, 1) := by decide +kernel
theorem dX6_handles_6 : decode cX6_handles 6 = .ok (.ifCond .le 118, 3) := by decide +kernel
theorem dX6_handles_9 : decode cX6_handles 9 = .ok (.aload_n 0, 1) := by decide +kernel
theorem dX6_handles_10 : decode cX6_handles 10 = .ok (.getfield 23, 3) := by decide +kernel
theorem dX6_handles_13 : decode cX6_handles 13 = .ok (.iload_n 3, 1) := by decide +kernel
theorem dX6_handles_14 : decode cX6_handles 14 = .ok (.iaload, 1) := by decide +kernel
theorem dX6_handles_15 : decode cX6_handles 15 = .ok (.iconst 2, 1) := by decide +kernel
theorem dX6_handles_16 : decode cX6_handles 16 = .ok (.if_icmp .ne 10, 3) := by decide +kernel
theorem dX6_handles_19 : decode cX6_handles 19 = .ok (.aload_n 0, 1) := by decide +kernel
theorem dX6_handles_20 : decode cX6_handles 20 = .ok (.iload_n 3, 1) := by decide +kernel
theorem dX6_handles_21 : decode cX6_handles 21 = .ok (.invokevirtual 103, 3) := by decide +kernel
theorem dX6_handles_24 : decode cX6_handles 24 = .ok (.pop, 1) := by decide +kernel
theorem dX6_handles_25 : decode cX6_handles 25 = .ok (.return_, 1) := by decide +kernel
theorem dX6_handles_26 : decode cX6_handles 26 = .ok (.aload_n 0, 1) := by decide +kernel
theorem dX6_handles_27 : decode cX6_handles 27 = .ok (.getfield 23, 3) := by decide +kernel
theorem dX6_handles_30 : decode cX6_handles 30 = .ok (.iload_n 3, 1) := by decide +kernel
