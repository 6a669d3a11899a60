theorem dX0_init_0 : decode cX0_init 0 = .ok (.aload_n 0, 1) := by decide +kernel
theorem dX0_init_1 : decode cX0_init 1 = .ok (.invokespecial 3, 3) := by decide +kernel
theorem dX0_init_4 : decode cX0_init 4 = .ok (.aload_n 0, 1) := by decide +kernel
theorem dX0_init_5 : decode cX0_init 5 = .ok (.sipush 512, 3) := by decide +kernel
theorem dX0_init_8 : decode cX0_init 8 = .ok (.anewarray 9, 3) := by decide +kernel
theorem dX0_init_11 : decode cX0_init 11 = .ok (.putfield 11, 3) := by decide +kernel
theorem dX0_init_14 : decode cX0_init 14 = .ok (.return_, 1) := by decide +kernel
theorem dX0_isFull_0 : decode cX0_isFull 0 = .ok (.aload_n 0, 1) := by decide +kernel
theorem dX0_isFull_1 : decode cX0_isFull 1 = .ok (.getfield 17, 3) := by decide +kernel
theorem dX0_isFull_4 : decode cX0_isFull 4 = .ok (.aload_n 0, 1) := by decide +kernel
theorem dX0_isFull_5 : decode cX0_isFull 5 = .ok (.getfield 11, 3) := by decide +kernel
theorem dX0_isFull_8 : decode cX0_isFull 8 = .ok (.arraylength, 1) := by decide +kernel
theorem dX0_isFull_9 : decode cX0_isFull 9 = .ok (.if_icmp .lt 7, 3) := by decide +kernel
theorem dX0_isFull_12 : decode cX0_isFull 12 = .ok (.iconst 1, 1) := by decide +kernel
theorem dX0_isFull_13 : decode cX0_isFull 13 = .ok (.goto 4, 3) := by decide +kernel
theorem dX0_isFull_16 : decode cX0_isFull 16 = .ok (.iconst 0, 1) := by decide +kernel
theorem dX0_isFull_17 : decode cX0_isFull 17 = .ok (.ireturn, 1) := by decide +kernel
theorem dX0_add_0 : decode cX0_add 0 = .ok (.aload_n 0, 1) := by decide +kernel
theorem dX0_add_1 : decode cX0_add 1 = .ok (.getfield 17, 3) := by decide +kernel
theorem dX0_add_4 : decode cX0_add 4 = .ok (.ifCond .lt 35, 3) := by decide +kernel
theorem dX0_add_7 : decode cX0_add 7 = .ok (.aload_n 0, 1) := by decide +kernel
theorem dX0_add_8 : decode cX0_add 8 = .ok (.getfield 17, 3) := by decide +kernel
theorem dX0_add_11 : decode cX0_add 11 = .ok (.aload_n 0, 1) := by decide +kernel
theorem dX0_add_12 : decode cX0_add 12 = .ok (.getfield 11, 3) := by decide +kernel
theorem dX0_add_15 : decode cX0_add 15 = .ok (.arraylength, 1) := by decide +kernel
theorem dX0_add_16 : decode cX0_add 16 = .ok (.if_icmp .ge 23, 3) := by decide +kernel
theorem dX0_add_19 : decode cX0_add 19 = .ok (.aload_n 0, 1) := by decide +kernel
theorem dX0_add_20 : decode cX0_add 20 = .ok (.getfield 11, 3) := by decide +kernel
theorem dX0_add_23 : decode cX0_add 23 = .ok (.aload_n 0, 1) := by decide +kernel
theorem dX0_add_24 : decode cX0_add 24 = .ok (.getfield 17, 3) := by decide +kernel
theorem dX0_add_27 : decode cX0_add 27 = .ok (.aload_n 1, 1) := by decide +kernel
theorem dX0_add_28 : decode cX0_add 28 = .ok (.aastore, 1) := by decide +kernel
theorem dX0_add_29 : decode cX0_add 29 = .ok (.aload_n 0, 1) := by decide +kernel
theorem dX0_add_30 : decode cX0_add 30 = .ok (.dup, 1) := by decide +kernel
theorem dX0_add_31 : decode cX0_add 31 = .ok (.getfield 17, 3) := by decide +kernel
theorem dX0_add_34 : decode cX0_add 34 = .ok (.iconst 1, 1) := by decide +kernel
theorem dX0_add_35 : decode cX0_add 35 = .ok (.iadd, 1) := by decide +kernel
theorem dX0_add_36 : decode cX0_add 36 = .ok (.putfield 17, 3) := by decide +kernel
theorem dX0_add_39 : decode cX0_add 39 = .ok (.return_, 1) := by decide +kernel
theorem dX0_entryAt_0 : decode cX0_entryAt 0 = .ok (.iload_n 1, 1) := by decide +kernel
theorem dX0_entryAt_1 : decode cX0_entryAt 1 = .ok (.ifCond .lt 21, 3) := by decide +kernel
theorem dX0_entryAt_4 : decode cX0_entryAt 4 = .ok (.iload_n 1, 1) := by decide +kernel
theorem dX0_entryAt_5 : decode cX0_entryAt 5 = .ok (.aload_n 0, 1) := by decide +kernel
theorem dX0_entryAt_6 : decode cX0_entryAt 6 = .ok (.getfield 11, 3) := by decide +kernel
theorem dX0_entryAt_9 : decode cX0_entryAt 9 = .ok (.arraylength, 1) := by decide +kernel
theorem dX0_entryAt_10 : decode cX0_entryAt 10 = .ok (.if_icmp .ge 12, 3) := by decide +kernel
theorem dX0_entryAt_13 : decode cX0_entryAt 13 = .ok (.aload_n 0, 1) := by decide +kernel
theorem dX0_entryAt_14 : decode cX0_entryAt 14 = .ok (.getfield 11, 3) := by decide +kernel
theorem dX0_entryAt_17 : decode cX0_entryAt 17 = .ok (.iload_n 1, 1) := by decide +kernel
theorem dX0_entryAt_18 : decode cX0_entryAt 18 = .ok (.aaload, 1) := by decide +kernel
theorem dX0_entryAt_19 : decode cX0_entryAt 19 = .ok (.goto 4, 3) := by decide +kernel
theorem dX0_entryAt_22 : decode cX0_entryAt 22 = .ok (.aconst_null, 1) := by decide +kernel
theorem dX0_entryAt_23 : decode cX0_entryAt 23 = .ok (.areturn, 1) := by decide +kernel
set_option maxRecDepth 20000 in
theorem ggX0_undoCallsOf_X0_entryAt : GoodIn wsX0_undoCallsOf wsX0_entryAt := goodIn_r _ [6, 7, 26, 27] (by decide +kernel) (by decide +kernel)
set_option maxRecDepth 20000 in
theorem gX0_undoCallsOf_X0_entryAt : GoodIn wsX0_undoCallsOf (wsV RX0 21 RX0 yX0_entryAt wsX0_entryAt) := goodIn_app (goodIn_of _ (by decide +kernel)) ggX0_undoCallsOf_X0_entryAt
set_option maxRecDepth 20000 in
theorem ggX0_undoCallsOf_X3_undo : GoodIn wsX0_undoCallsOf wsX3_undo := goodIn_r _ [11, 12, 13, 14, 15, 16, 17, 18, 19, 20, 21, 22, 23, 24, 25, 28, 29, 30, 31, 32, 33, 34, 35, 36, 37, 38, 39, 40] (by decide +kernel) (by decide +kernel)
set_option maxRecDepth 20000 in
theorem gX0_undoCallsOf_X3_undo_n28 : GoodIn wsX0_undoCallsOf (wsX3_undo) := ggX0_undoCallsOf_X3_undo
theorem dX0_undoCallsOf_0 : decode cX0_undoCallsOf 0 = .ok (.iconst 0, 1) := by decide +kernel
theorem dX0_undoCallsOf_1 : decode cX0_undoCallsOf 1 = .ok (.istore_n 2, 1) := by decide +kernel
theorem dX0_undoCallsOf_2 : decode cX0_undoCallsOf 2 = .ok (.iconst 0, 1) := by decide +kernel
theorem dX0_undoCallsOf_3 : decode cX0_undoCallsOf 3 = .ok (.istore_n 3, 1) := by decide +kernel
theorem dX0_undoCallsOf_4 : decode cX0_undoCallsOf 4 = .ok (.iload_n 3, 1) := by decide +kernel
theorem dX0_undoCallsOf_5 : decode cX0_undoCallsOf 5 = .ok (.aload_n 0, 1) := by decide +kernel
theorem dX0_undoCallsOf_6 : decode cX0_undoCallsOf 6 = .ok (.getfield 17, 3) := by decide +kernel
theorem dX0_undoCallsOf_9 : decode cX0_undoCallsOf 9 = .ok (.if_icmp .ge 38, 3) := by decide +kernel
theorem dX0_undoCallsOf_12 : decode cX0_undoCallsOf 12 = .ok (.aload_n 0, 1) := by decide +kernel
theorem dX0_undoCallsOf_13 : decode cX0_undoCallsOf 13 = .ok (.iload_n 3, 1) := by decide +kernel
theorem dX0_undoCallsOf_14 : decode cX0_undoCallsOf 14 = .ok (.invokevirtual 21, 3) := by decide +kernel
theorem dX0_undoCallsOf_17 : decode cX0_undoCallsOf 17 = .ok (.astore 4, 2) := by decide +kernel
theorem dX0_undoCallsOf_19 : decode cX0_undoCallsOf 19 = .ok (.aload 4, 2) := by decide +kernel
theorem dX0_undoCallsOf_21 : decode cX0_undoCallsOf 21 = .ok (.ifnull 20, 3) := by decide +kernel
theorem dX0_undoCallsOf_24 : decode cX0_undoCallsOf 24 = .ok (.aload 4, 2) := by decide +kernel
theorem dX0_undoCallsOf_26 : decode cX0_undoCallsOf 26 = .ok (.getfield 25, 3) := by decide +kernel
theorem dX0_undoCallsOf_29 : decode cX0_undoCallsOf 29 = .ok (.iload_n 1, 1) := by decide +kernel
theorem dX0_undoCallsOf_30 : decode cX0_undoCallsOf 30 = .ok (.if_icmp .ne 11, 3) := by decide +kernel
theorem dX0_undoCallsOf_33 : decode cX0_undoCallsOf 33 = .ok (.aload 4, 2) := by decide +kernel
theorem dX0_undoCallsOf_35 : decode cX0_undoCallsOf 35 = .ok (.invokevirtual 28, 3) := by decide +kernel
theorem dX0_undoCallsOf_38 : decode cX0_undoCallsOf 38 = .ok (.iinc 2 1, 3) := by decide +kernel
theorem dX0_undoCallsOf_41 : decode cX0_undoCallsOf 41 = .ok (.iinc 3 1, 3) := by decide +kernel
theorem dX0_undoCallsOf_44 : decode cX0_undoCallsOf 44 = .ok (.goto (-40), 3) := by decide +kernel
theorem dX0_undoCallsOf_47 : decode cX0_undoCallsOf 47 = .ok (.iload_n 2, 1) := by decide +kernel
theorem dX0_undoCallsOf_48 : decode cX0_undoCallsOf 48 = .ok (.ireturn, 1) := by decide +kernel
set_option maxRecDepth 20000 in
theorem ggX0_billOf_X0_entryAt : GoodIn wsX0_billOf wsX0_entryAt := goodIn_r _ [6, 7, 8, 9] (by decide +kernel) (by decide +kernel)
set_option maxRecDepth 20000 in
theorem gX0_billOf_X0_entryAt : GoodIn wsX0_billOf (wsV RX0 21 RX0 yX0_entryAt wsX0_entryAt) := goodIn_app (goodIn_of _ (by decide +kernel)) ggX0_billOf_X0_entryAt
theorem dX0_billOf_0 : decode cX0_billOf 0 = .ok (.lconst 0, 1) := by decide +kernel
theorem dX0_billOf_1 : decode cX0_billOf 1 = .ok (.lstore_n 2, 1) := by decide +kernel
theorem dX0_billOf_2 : decode cX0_billOf 2 = .ok (.iconst 0, 1) := by decide +kernel
theorem dX0_billOf_3 : decode cX0_billOf 3 = .ok (.istore 4, 2) := by decide +kernel
theorem dX0_billOf_5 : decode cX0_billOf 5 = .ok (.iload 4, 2) := by decide +kernel
theorem dX0_billOf_7 : decode cX0_billOf 7 = .ok (.aload_n 0, 1) := by decide +kernel
theorem dX0_billOf_8 : decode cX0_billOf 8 = .ok (.getfield 17, 3) := by decide +kernel
theorem dX0_billOf_11 : decode cX0_billOf 11 = .ok (.if_icmp .ge 51, 3) := by decide +kernel
theorem dX0_billOf_14 : decode cX0_billOf 14 = .ok (.aload_n 0, 1) := by decide +kernel
theorem dX0_billOf_15 : decode cX0_billOf 15 = .ok (.iload 4, 2) := by decide +kernel
theorem dX0_billOf_17 : decode cX0_billOf 17 = .ok (.invokevirtual 21, 3) := by decide +kernel
theorem dX0_billOf_20 : decode cX0_billOf 20 = .ok (.astore 5, 2) := by decide +kernel
theorem dX0_billOf_22 : decode cX0_billOf 22 = .ok (.aload 5, 2) := by decide +kernel
theorem dX0_billOf_24 : decode cX0_billOf 24 = .ok (.ifnull 32, 3) := by decide +kernel
theorem dX0_billOf_27 : decode cX0_billOf 27 = .ok (.aload 5, 2) := by decide +kernel
theorem dX0_billOf_29 : decode cX0_billOf 29 = .ok (.getfield 31, 3) := by decide +kernel
theorem dX0_billOf_32 : decode cX0_billOf 32 = .ok (.ifCond .ne 24, 3) := by decide +kernel
theorem dX0_billOf_35 : decode cX0_billOf 35 = .ok (.aload 5, 2) := by decide +kernel
theorem dX0_billOf_37 : decode cX0_billOf 37 = .ok (.getfield 35, 3) := by decide +kernel
theorem dX0_billOf_40 : decode cX0_billOf 40 = .ok (.getfield 39, 3) := by decide +kernel
theorem dX0_billOf_43 : decode cX0_billOf 43 = .ok (.iload_n 1, 1) := by decide +kernel
theorem dX0_billOf_44 : decode cX0_billOf 44 = .ok (.if_icmp .ne 12, 3) := by decide +kernel
theorem dX0_billOf_47 : decode cX0_billOf 47 = .ok (.lload_n 2, 1) := by decide +kernel
theorem dX0_billOf_48 : decode cX0_billOf 48 = .ok (.aload 5, 2) := by decide +kernel
theorem dX0_billOf_50 : decode cX0_billOf 50 = .ok (.getfield 44, 3) := by decide +kernel
theorem dX0_billOf_53 : decode cX0_billOf 53 = .ok (.i2l, 1) := by decide +kernel
theorem dX0_billOf_54 : decode cX0_billOf 54 = .ok (.ladd, 1) := by decide +kernel
theorem dX0_billOf_55 : decode cX0_billOf 55 = .ok (.lstore_n 2, 1) := by decide +kernel
theorem dX0_billOf_56 : decode cX0_billOf 56 = .ok (.iinc 4 1, 3) := by decide +kernel
theorem dX0_billOf_59 : decode cX0_billOf 59 = .ok (.goto (-54), 3) := by decide +kernel
theorem dX0_billOf_62 : decode cX0_billOf 62 = .ok (.lload_n 2, 1) := by decide +kernel
theorem dX0_billOf_63 : decode cX0_billOf 63 = .ok (.lreturn, 1) := by decide +kernel
set_option maxRecDepth 20000 in
theorem ggX0_numberOf_X0_entryAt : GoodIn wsX0_numberOf wsX0_entryAt := goodIn_r _ [6, 7, 8, 9] (by decide +kernel) (by decide +kernel)
set_option maxRecDepth 20000 in
theorem gX0_numberOf_X0_entryAt : GoodIn wsX0_numberOf (wsV RX0 21 RX0 yX0_entryAt wsX0_entryAt) := goodIn_app (goodIn_of _ (by decide +kernel)) ggX0_numberOf_X0_entryAt
theorem dX0_numberOf_0 : decode cX0_numberOf 0 = .ok (.iconst 0, 1) := by decide +kernel
theorem dX0_numberOf_1 : decode cX0_numberOf 1 = .ok (.istore_n 3, 1) := by decide +kernel
theorem dX0_numberOf_2 : decode cX0_numberOf 2 = .ok (.iconst 0, 1) := by decide +kernel
theorem dX0_numberOf_3 : decode cX0_numberOf 3 = .ok (.istore 4, 2) := by decide +kernel
theorem dX0_numberOf_5 : decode cX0_numberOf 5 = .ok (.iload 4, 2) := by decide +kernel
theorem dX0_numberOf_7 : decode cX0_numberOf 7 = .ok (.aload_n 0, 1) := by decide +kernel
theorem dX0_numberOf_8 : decode cX0_numberOf 8 = .ok (.getfield 17, 3) := by decide +kernel
theorem dX0_numberOf_11 : decode cX0_numberOf 11 = .ok (.if_icmp .ge 46, 3) := by decide +kernel
theorem dX0_numberOf_14 : decode cX0_numberOf 14 = .ok (.aload_n 0, 1) := by decide +kernel
theorem dX0_numberOf_15 : decode cX0_numberOf 15 = .ok (.iload 4, 2) := by decide +kernel
theorem dX0_numberOf_17 : decode cX0_numberOf 17 = .ok (.invokevirtual 21, 3) := by decide +kernel
theorem dX0_numberOf_20 : decode cX0_numberOf 20 = .ok (.astore 5, 2) := by decide +kernel
theorem dX0_numberOf_22 : decode cX0_numberOf 22 = .ok (.aload 5, 2) := by decide +kernel
theorem dX0_numberOf_24 : decode cX0_numberOf 24 = .ok (.ifnull 27, 3) := by decide +kernel
theorem dX0_numberOf_27 : decode cX0_numberOf 27 = .ok (.aload 5, 2) := by decide +kernel
theorem dX0_numberOf_29 : decode cX0_numberOf 29 = .ok (.getfield 47, 3) := by decide +kernel
theorem dX0_numberOf_32 : decode cX0_numberOf 32 = .ok (.iload_n 2, 1) := by decide +kernel
theorem dX0_numberOf_33 : decode cX0_numberOf 33 = .ok (.if_icmp .ne 18, 3) := by decide +kernel
theorem dX0_numberOf_36 : decode cX0_numberOf 36 = .ok (.aload 5, 2) := by decide +kernel
theorem dX0_numberOf_38 : decode cX0_numberOf 38 = .ok (.getfield 35, 3) := by decide +kernel
theorem dX0_numberOf_41 : decode cX0_numberOf 41 = .ok (.getfield 39, 3) := by decide +kernel
theorem dX0_numberOf_44 : decode cX0_numberOf 44 = .ok (.iload_n 1, 1) := by decide +kernel
theorem dX0_numberOf_45 : decode cX0_numberOf 45 = .ok (.if_icmp .ne 6, 3) := by decide +kernel
theorem dX0_numberOf_48 : decode cX0_numberOf 48 = .ok (.iinc 3 1, 3) := by decide +kernel
theorem dX0_numberOf_51 : decode cX0_numberOf 51 = .ok (.iinc 4 1, 3) := by decide +kernel
theorem dX0_numberOf_54 : decode cX0_numberOf 54 = .ok (.goto (-49), 3) := by decide +kernel
theorem dX0_numberOf_57 : decode cX0_numberOf 57 = .ok (.iload_n 3, 1) := by decide +kernel
theorem dX0_numberOf_58 : decode cX0_numberOf 58 = .ok (.ireturn, 1) := by decide +kernel
theorem dX1_init_0 : decode cX1_init 0 = .ok (.aload_n 0, 1) := by decide +kernel
theorem dX1_init_1 : decode cX1_init 1 = .ok (.invokespecial 1, 3) := by decide +kernel
theorem dX1_init_4 : decode cX1_init 4 = .ok (.aload_n 0, 1) := by decide +kernel
theorem dX1_init_5 : decode cX1_init 5 = .ok (.iload_n 1, 1) := by decide +kernel
theorem dX1_init_6 : decode cX1_init 6 = .ok (.putfield 7, 3) := by decide +kernel
theorem dX1_init_9 : decode cX1_init 9 = .ok (.aload_n 0, 1) := by decide +kernel
theorem dX1_init_10 : decode cX1_init 10 = .ok (.aload_n 2, 1) := by decide +kernel
theorem dX1_init_11 : decode cX1_init 11 = .ok (.putfield 13, 3) := by decide +kernel
theorem dX1_init_14 : decode cX1_init 14 = .ok (.aload_n 0, 1) := by decide +kernel
theorem dX1_init_15 : decode cX1_init 15 = .ok (.aload_n 2, 1) := by decide +kernel
theorem dX1_init_16 : decode cX1_init 16 = .ok (.getfield 17, 3) := by decide +kernel
theorem dX1_init_19 : decode cX1_init 19 = .ok (.putfield 22, 3) := by decide +kernel
theorem dX1_init_22 : decode cX1_init 22 = .ok (.return_, 1) := by decide +kernel
theorem dX1_gain_0 : decode cX1_gain 0 = .ok (.iload_n 1, 1) := by decide +kernel
theorem dX1_gain_1 : decode cX1_gain 1 = .ok (.aload_n 0, 1) := by decide +kernel
theorem dX1_gain_2 : decode cX1_gain 2 = .ok (.getfield 13, 3) := by decide +kernel
theorem dX1_gain_5 : decode cX1_gain 5 = .ok (.getfield 17, 3) := by decide +kernel
theorem dX1_gain_8 : decode cX1_gain 8 = .ok (.aload_n 0, 1) := by decide +kernel
theorem dX1_gain_9 : decode cX1_gain 9 = .ok (.getfield 22, 3) := by decide +kernel
theorem dX1_gain_12 : decode cX1_gain 12 = .ok (.isub, 1) := by decide +kernel
theorem dX1_gain_13 : decode cX1_gain 13 = .ok (.invokestatic 25, 3) := by decide +kernel
theorem dX1_gain_16 : decode cX1_gain 16 = .ok (.istore_n 2, 1) := by decide +kernel
theorem dX1_gain_17 : decode cX1_gain 17 = .ok (.aload_n 0, 1) := by decide +kernel
theorem dX1_gain_18 : decode cX1_gain 18 = .ok (.dup, 1) := by decide +kernel
theorem dX1_gain_19 : decode cX1_gain 19 = .ok (.getfield 22, 3) := by decide +kernel
theorem dX1_gain_22 : decode cX1_gain 22 = .ok (.iload_n 2, 1) := by decide +kernel
theorem dX1_gain_23 : decode cX1_gain 23 = .ok (.iadd, 1) := by decide +kernel
theorem dX1_gain_24 : decode cX1_gain 24 = .ok (.putfield 22, 3) := by decide +kernel
theorem dX1_gain_27 : decode cX1_gain 27 = .ok (.iload_n 2, 1) := by decide +kernel
theorem dX1_gain_28 : decode cX1_gain 28 = .ok (.ireturn, 1) := by decide +kernel
theorem dX1_changePlan_0 : decode cX1_changePlan 0 = .ok (.aload_n 0, 1) := by decide +kernel
theorem dX1_changePlan_1 : decode cX1_changePlan 1 = .ok (.getfield 22, 3) := by decide +kernel
theorem dX1_changePlan_4 : decode cX1_changePlan 4 = .ok (.aload_n 1, 1) := by decide +kernel
theorem dX1_changePlan_5 : decode cX1_changePlan 5 = .ok (.getfield 17, 3) := by decide +kernel
theorem dX1_changePlan_8 : decode cX1_changePlan 8 = .ok (.isub, 1) := by decide +kernel
theorem dX1_changePlan_9 : decode cX1_changePlan 9 = .ok (.iconst 0, 1) := by decide +kernel
theorem dX1_changePlan_10 : decode cX1_changePlan 10 = .ok (.invokestatic 31, 3) := by decide +kernel
theorem dX1_changePlan_13 : decode cX1_changePlan 13 = .ok (.istore_n 2, 1) := by decide +kernel
theorem dX1_changePlan_14 : decode cX1_changePlan 14 = .ok (.aload_n 0, 1) := by decide +kernel
theorem dX1_changePlan_15 : decode cX1_changePlan 15 = .ok (.aload_n 1, 1) := by decide +kernel
theorem dX1_changePlan_16 : decode cX1_changePlan 16 = .ok (.putfield 13, 3) := by decide +kernel
theorem dX1_changePlan_19 : decode cX1_changePlan 19 = .ok (.aload_n 0, 1) := by decide +kernel
theorem dX1_changePlan_20 : decode cX1_changePlan 20 = .ok (.dup, 1) := by decide +kernel
theorem dX1_changePlan_21 : decode cX1_changePlan 21 = .ok (.getfield 22, 3) := by decide +kernel
theorem dX1_changePlan_24 : decode cX1_changePlan 24 = .ok (.iload_n 2, 1) := by decide +kernel
theorem dX1_changePlan_25 : decode cX1_changePlan 25 = .ok (.isub, 1) := by decide +kernel
theorem dX1_changePlan_26 : decode cX1_changePlan 26 = .ok (.putfield 22, 3) := by decide +kernel
theorem dX1_changePlan_29 : decode cX1_changePlan 29 = .ok (.iload_n 2, 1) := by decide +kernel
theorem dX1_changePlan_30 : decode cX1_changePlan 30 = .ok (.ireturn, 1) := by decide +kernel
theorem dX1_ticksUntilItHas_0 : decode cX1_ticksUntilItHas 0 = .ok (.iload_n 1, 1) := by decide +kernel
theorem dX1_ticksUntilItHas_1 : decode cX1_ticksUntilItHas 1 = .ok (.aload_n 0, 1) := by decide +kernel
theorem dX1_ticksUntilItHas_2 : decode cX1_ticksUntilItHas 2 = .ok (.getfield 22, 3) := by decide +kernel
theorem dX1_ticksUntilItHas_5 : decode cX1_ticksUntilItHas 5 = .ok (.isub, 1) := by decide +kernel
theorem dX1_ticksUntilItHas_6 : decode cX1_ticksUntilItHas 6 = .ok (.istore_n 2, 1) := by decide +kernel
theorem dX1_ticksUntilItHas_7 : decode cX1_ticksUntilItHas 7 = .ok (.aload_n 0, 1) := by decide +kernel
theorem dX1_ticksUntilItHas_8 : decode cX1_ticksUntilItHas 8 = .ok (.getfield 13, 3) := by decide +kernel
theorem dX1_ticksUntilItHas_11 : decode cX1_ticksUntilItHas 11 = .ok (.getfield 34, 3) := by decide +kernel
theorem dX1_ticksUntilItHas_14 : decode cX1_ticksUntilItHas 14 = .ok (.istore_n 3, 1) := by decide +kernel
theorem dX1_ticksUntilItHas_15 : decode cX1_ticksUntilItHas 15 = .ok (.iload_n 2, 1) := by decide +kernel
theorem dX1_ticksUntilItHas_16 : decode cX1_ticksUntilItHas 16 = .ok (.ifCond .le 7, 3) := by decide +kernel
theorem dX1_ticksUntilItHas_19 : decode cX1_ticksUntilItHas 19 = .ok (.iload_n 3, 1) := by decide +kernel
theorem dX1_ticksUntilItHas_20 : decode cX1_ticksUntilItHas 20 = .ok (.ifCond .gt 5, 3) := by decide +kernel
theorem dX1_ticksUntilItHas_23 : decode cX1_ticksUntilItHas 23 = .ok (.iconst 0, 1) := by decide +kernel
theorem dX1_ticksUntilItHas_24 : decode cX1_ticksUntilItHas 24 = .ok (.ireturn, 1) := by decide +kernel
theorem dX1_ticksUntilItHas_25 : decode cX1_ticksUntilItHas 25 = .ok (.iload_n 2, 1) := by decide +kernel
theorem dX1_ticksUntilItHas_26 : decode cX1_ticksUntilItHas 26 = .ok (.iload_n 3, 1) := by decide +kernel
theorem dX1_ticksUntilItHas_27 : decode cX1_ticksUntilItHas 27 = .ok (.iadd, 1) := by decide +kernel
theorem dX1_ticksUntilItHas_28 : decode cX1_ticksUntilItHas 28 = .ok (.iconst 1, 1) := by decide +kernel
theorem dX1_ticksUntilItHas_29 : decode cX1_ticksUntilItHas 29 = .ok (.isub, 1) := by decide +kernel
theorem dX1_ticksUntilItHas_30 : decode cX1_ticksUntilItHas 30 = .ok (.iload_n 3, 1) := by decide +kernel
theorem dX1_ticksUntilItHas_31 : decode cX1_ticksUntilItHas 31 = .ok (.idiv, 1) := by decide +kernel
theorem dX1_ticksUntilItHas_32 : decode cX1_ticksUntilItHas 32 = .ok (.ireturn, 1) := by decide +kernel
theorem dX2_init_0 : decode cX2_init 0 = .ok (.aload_n 0, 1) := by decide +kernel
theorem dX2_init_1 : decode cX2_init 1 = .ok (.invokespecial 1, 3) := by decide +kernel
theorem dX2_init_4 : decode cX2_init 4 = .ok (.aload_n 0, 1) := by decide +kernel
theorem dX2_init_5 : decode cX2_init 5 = .ok (.iload_n 1, 1) := by decide +kernel
theorem dX2_init_6 : decode cX2_init 6 = .ok (.putfield 7, 3) := by decide +kernel
theorem dX2_init_9 : decode cX2_init 9 = .ok (.aload_n 0, 1) := by decide +kernel
theorem dX2_init_10 : decode cX2_init 10 = .ok (.iload_n 2, 1) := by decide +kernel
theorem dX2_init_11 : decode cX2_init 11 = .ok (.putfield 13, 3) := by decide +kernel
theorem dX2_init_14 : decode cX2_init 14 = .ok (.aload_n 0, 1) := by decide +kernel
theorem dX2_init_15 : decode cX2_init 15 = .ok (.iload_n 3, 1) := by decide +kernel
theorem dX2_init_16 : decode cX2_init 16 = .ok (.putfield 16, 3) := by decide +kernel
theorem dX2_init_19 : decode cX2_init 19 = .ok (.aload_n 0, 1) := by decide +kernel
theorem dX2_init_20 : decode cX2_init 20 = .ok (.iload 4, 2) := by decide +kernel
theorem dX2_init_22 : decode cX2_init 22 = .ok (.putfield 19, 3) := by decide +kernel
theorem dX2_init_25 : decode cX2_init 25 = .ok (.return_, 1) := by decide +kernel
theorem dX3_init_0 : decode cX3_init 0 = .ok (.aload_n 0, 1) := by decide +kernel
theorem dX3_init_1 : decode cX3_init 1 = .ok (.invokespecial 1, 3) := by decide +kernel
theorem dX3_init_4 : decode cX3_init 4 = .ok (.aload_n 0, 1) := by decide +kernel
theorem dX3_init_5 : decode cX3_init 5 = .ok (.aload_n 1, 1) := by decide +kernel
theorem dX3_init_6 : decode cX3_init 6 = .ok (.putfield 7, 3) := by decide +kernel
theorem dX3_init_9 : decode cX3_init 9 = .ok (.aload_n 0, 1) := by decide +kernel
theorem dX3_init_10 : decode cX3_init 10 = .ok (.iload_n 2, 1) := by decide +kernel
theorem dX3_init_11 : decode cX3_init 11 = .ok (.putfield 13, 3) := by decide +kernel
theorem dX3_init_14 : decode cX3_init 14 = .ok (.aload_n 0, 1) := by decide +kernel
theorem dX3_init_15 : decode cX3_init 15 = .ok (.iload_n 3, 1) := by decide +kernel
theorem dX3_init_16 : decode cX3_init 16 = .ok (.putfield 17, 3) := by decide +kernel
theorem dX3_init_19 : decode cX3_init 19 = .ok (.aload_n 0, 1) := by decide +kernel
theorem dX3_init_20 : decode cX3_init 20 = .ok (.iload 4, 2) := by decide +kernel
theorem dX3_init_22 : decode cX3_init 22 = .ok (.putfield 21, 3) := by decide +kernel
theorem dX3_init_25 : decode cX3_init 25 = .ok (.aload_n 0, 1) := by decide +kernel
theorem dX3_init_26 : decode cX3_init 26 = .ok (.iload 5, 2) := by decide +kernel
theorem dX3_init_28 : decode cX3_init 28 = .ok (.putfield 24, 3) := by decide +kernel
theorem dX3_init_31 : decode cX3_init 31 = .ok (.return_, 1) := by decide +kernel
set_option maxRecDepth 20000 in
theorem ggX3_undo_X1_gain : GoodIn wsX3_undo wsX1_gain := goodIn_r _ [8, 9, 10, 11, 12, 13, 14, 21, 22, 23, 24, 25, 26, 27] (by decide +kernel) (by decide +kernel)
set_option maxRecDepth 20000 in
theorem gX3_undo_X1_gain_n31 : GoodIn wsX3_undo (wsX1_gain) := ggX3_undo_X1_gain
theorem dX3_undo_0 : decode cX3_undo 0 = .ok (.aload_n 0, 1) := by decide +kernel
theorem dX3_undo_1 : decode cX3_undo 1 = .ok (.iconst 1, 1) := by decide +kernel
theorem dX3_undo_2 : decode cX3_undo 2 = .ok (.putfield 27, 3) := by decide +kernel
theorem dX3_undo_5 : decode cX3_undo 5 = .ok (.aload_n 0, 1) := by decide +kernel
theorem dX3_undo_6 : decode cX3_undo 6 = .ok (.getfield 7, 3) := by decide +kernel
theorem dX3_undo_9 : decode cX3_undo 9 = .ok (.aload_n 0, 1) := by decide +kernel
theorem dX3_undo_10 : decode cX3_undo 10 = .ok (.getfield 17, 3) := by decide +kernel
theorem dX3_undo_13 : decode cX3_undo 13 = .ok (.invokevirtual 31, 3) := by decide +kernel
theorem dX3_undo_16 : decode cX3_undo 16 = .ok (.pop, 1) := by decide +kernel
theorem dX3_undo_17 : decode cX3_undo 17 = .ok (.aload_n 0, 1) := by decide +kernel
theorem dX3_undo_18 : decode cX3_undo 18 = .ok (.getfield 7, 3) := by decide +kernel
theorem dX3_undo_21 : decode cX3_undo 21 = .ok (.dup, 1) := by decide +kernel
theorem dX3_undo_22 : decode cX3_undo 22 = .ok (.getfield 37, 3) := by decide +kernel
theorem dX3_undo_25 : decode cX3_undo 25 = .ok (.aload_n 0, 1) := by decide +kernel
theorem dX3_undo_26 : decode cX3_undo 26 = .ok (.getfield 21, 3) := by decide +kernel
theorem dX3_undo_29 : decode cX3_undo 29 = .ok (.i2l, 1) := by decide +kernel
theorem dX3_undo_30 : decode cX3_undo 30 = .ok (.lsub, 1) := by decide +kernel
theorem dX3_undo_31 : decode cX3_undo 31 = .ok (.putfield 37, 3) := by decide +kernel
theorem dX3_undo_34 : decode cX3_undo 34 = .ok (.return_, 1) := by decide +kernel
theorem dX4_init_0 : decode cX4_init 0 = .ok (.aload_n 0, 1) := by decide +kernel
theorem dX4_init_1 : decode cX4_init 1 = .ok (.invokespecial 1, 3) := by decide +kernel
theorem dX4_init_4 : decode cX4_init 4 = .ok (.aload_n 0, 1) := by decide +kernel
theorem dX4_init_5 : decode cX4_init 5 = .ok (.iload_n 1, 1) := by decide +kernel
theorem dX4_init_6 : decode cX4_init 6 = .ok (.putfield 7, 3) := by decide +kernel
theorem dX4_init_9 : decode cX4_init 9 = .ok (.aload_n 0, 1) := by decide +kernel
theorem dX4_init_10 : decode cX4_init 10 = .ok (.iload_n 2, 1) := by decide +kernel
theorem dX4_init_11 : decode cX4_init 11 = .ok (.putfield 13, 3) := by decide +kernel
theorem dX4_init_14 : decode cX4_init 14 = .ok (.aload_n 0, 1) := by decide +kernel
theorem dX4_init_15 : decode cX4_init 15 = .ok (.iload_n 3, 1) := by decide +kernel
theorem dX4_init_16 : decode cX4_init 16 = .ok (.putfield 16, 3) := by decide +kernel
theorem dX4_init_19 : decode cX4_init 19 = .ok (.return_, 1) := by decide +kernel
theorem dX5_init_0 : decode cX5_init 0 = .ok (.aload_n 0, 1) := by decide +kernel
theorem dX5_init_1 : decode cX5_init 1 = .ok (.invokespecial 3, 3) := by decide +kernel
theorem dX5_init_4 : decode cX5_init 4 = .ok (.aload_n 0, 1) := by decide +kernel
theorem dX5_init_5 : decode cX5_init 5 = .ok (.iload_n 1, 1) := by decide +kernel
theorem dX5_init_6 : decode cX5_init 6 = .ok (.putfield 9, 3) := by decide +kernel
theorem dX5_init_9 : decode cX5_init 9 = .ok (.aload_n 0, 1) := by decide +kernel
theorem dX5_init_10 : decode cX5_init 10 = .ok (.iload_n 2, 1) := by decide +kernel
theorem dX5_init_11 : decode cX5_init 11 = .ok (.putfield 15, 3) := by decide +kernel
theorem dX5_init_14 : decode cX5_init 14 = .ok (.aload_n 0, 1) := by decide +kernel
theorem dX5_init_15 : decode cX5_init 15 = .ok (.iload_n 3, 1) := by decide +kernel
theorem dX5_init_16 : decode cX5_init 16 = .ok (.putfield 18, 3) := by decide +kernel
theorem dX5_init_19 : decode cX5_init 19 = .ok (.aload_n 0, 1) := by decide +kernel
theorem dX5_init_20 : decode cX5_init 20 = .ok (.iload 4, 2) := by decide +kernel
theorem dX5_init_22 : decode cX5_init 22 = .ok (.putfield 21, 3) := by decide +kernel
theorem dX5_init_25 : decode cX5_init 25 = .ok (.aload_n 0, 1) := by decide +kernel
theorem dX5_init_26 : decode cX5_init 26 = .ok (.iload 5, 2) := by decide +kernel
theorem dX5_init_28 : decode cX5_init 28 = .ok (.putfield 24, 3) := by decide +kernel
theorem dX5_init_31 : decode cX5_init 31 = .ok (.return_, 1) := by decide +kernel
theorem dX5_fits_0 : decode cX5_fits 0 = .ok (.iload_n 1, 1) := by decide +kernel
theorem dX5_fits_1 : decode cX5_fits 1 = .ok (.istore_n 2, 1) := by decide +kernel
theorem dX5_fits_2 : decode cX5_fits 2 = .ok (.iconst 0, 1) := by decide +kernel
theorem dX5_fits_3 : decode cX5_fits 3 = .ok (.istore_n 3, 1) := by decide +kernel
theorem dX5_fits_4 : decode cX5_fits 4 = .ok (.iload_n 3, 1) := by decide +kernel
theorem dX5_fits_5 : decode cX5_fits 5 = .ok (.iconst 4, 1) := by decide +kernel
theorem dX5_fits_6 : decode cX5_fits 6 = .ok (.if_icmp .gt 24, 3) := by decide +kernel
theorem dX5_fits_9 : decode cX5_fits 9 = .ok (.iload_n 2, 1) := by decide +kernel
theorem dX5_fits_10 : decode cX5_fits 10 = .ok (.aload_n 0, 1) := by decide +kernel
theorem dX5_fits_11 : decode cX5_fits 11 = .ok (.getfield 15, 3) := by decide +kernel
theorem dX5_fits_14 : decode cX5_fits 14 = .ok (.if_icmp .ne 5, 3) := by decide +kernel
theorem dX5_fits_17 : decode cX5_fits 17 = .ok (.iconst 1, 1) := by decide +kernel
theorem dX5_fits_18 : decode cX5_fits 18 = .ok (.ireturn, 1) := by decide +kernel
theorem dX5_fits_19 : decode cX5_fits 19 = .ok (.iload_n 2, 1) := by decide +kernel
theorem dX5_fits_20 : decode cX5_fits 20 = .ok (.bipush 10, 2) := by decide +kernel
theorem dX5_fits_22 : decode cX5_fits 22 = .ok (.idiv, 1) := by decide +kernel
theorem dX5_fits_23 : decode cX5_fits 23 = .ok (.istore_n 2, 1) := by decide +kernel
theorem dX5_fits_24 : decode cX5_fits 24 = .ok (.iinc 3 1, 3) := by decide +kernel
theorem dX5_fits_27 : decode cX5_fits 27 = .ok (.goto (-23), 3) := by decide +kernel
theorem dX5_fits_30 : decode cX5_fits 30 = .ok (.iconst 0, 1) := by decide +kernel
theorem dX5_fits_31 : decode cX5_fits 31 = .ok (.ireturn, 1) := by decide +kernel
theorem dX5_isBrokenBy_0 : decode cX5_isBrokenBy 0 = .ok (.iload_n 1, 1) := by decide +kernel
theorem dX5_isBrokenBy_1 : decode cX5_isBrokenBy 1 = .ok (.aload_n 0, 1) := by decide +kernel
theorem dX5_isBrokenBy_2 : decode cX5_isBrokenBy 2 = .ok (.getfield 21, 3) := by decide +kernel
theorem dX5_isBrokenBy_5 : decode cX5_isBrokenBy 5 = .ok (.if_icmp .lt 11, 3) := by decide +kernel
theorem dX5_isBrokenBy_8 : decode cX5_isBrokenBy 8 = .ok (.iload_n 1, 1) := by decide +kernel
theorem dX5_isBrokenBy_9 : decode cX5_isBrokenBy 9 = .ok (.aload_n 0, 1) := by decide +kernel
theorem dX5_isBrokenBy_10 : decode cX5_isBrokenBy 10 = .ok (.getfield 24, 3) := by decide +kernel
theorem dX5_isBrokenBy_13 : decode cX5_isBrokenBy 13 = .ok (.if_icmp .le 7, 3) := by decide +kernel
theorem dX5_isBrokenBy_16 : decode cX5_isBrokenBy 16 = .ok (.iconst 1, 1) := by decide +kernel
theorem dX5_isBrokenBy_17 : decode cX5_isBrokenBy 17 = .ok (.goto 4, 3) := by decide +kernel
theorem dX5_isBrokenBy_20 : decode cX5_isBrokenBy 20 = .ok (.iconst 0, 1) := by decide +kernel
theorem dX5_isBrokenBy_21 : decode cX5_isBrokenBy 21 = .ok (.ireturn, 1) := by decide +kernel
set_option maxRecDepth 20000 in
theorem ggX6_init_X0_init : GoodIn wsX6_init wsX0_init := goodIn_r _ [15, 16, 2, 3, 17, 18, 27, 28] (by decide +kernel) (by decide +kernel)
set_option maxRecDepth 20000 in
theorem gX6_init_X0_init_n29 : GoodIn wsX6_init (wsX0_init) := ggX6_init_X0_init
theorem dX6_init_0 : decode cX6_init 0 = .ok (.aload_n 0, 1) := by decide +kernel
theorem dX6_init_1 : decode cX6_init 1 = .ok (.invokespecial 1, 3) := by decide +kernel
theorem dX6_init_4 : decode cX6_init 4 = .ok (.aload_n 0, 1) := by decide +kernel
theorem dX6_init_5 : decode cX6_init 5 = .ok (.bipush 8, 2) := by decide +kernel
theorem dX6_init_7 : decode cX6_init 7 = .ok (.anewarray 9, 3) := by decide +kernel
theorem dX6_init_10 : decode cX6_init 10 = .ok (.putfield 11, 3) := by decide +kernel
theorem dX6_init_13 : decode cX6_init 13 = .ok (.aload_n 0, 1) := by decide +kernel
theorem dX6_init_14 : decode cX6_init 14 = .ok (.iconst 3, 1) := by decide +kernel
theorem dX6_init_15 : decode cX6_init 15 = .ok (.anewarray 15, 3) := by decide +kernel
theorem dX6_init_18 : decode cX6_init 18 = .ok (.putfield 17, 3) := by decide +kernel
theorem dX6_init_21 : decode cX6_init 21 = .ok (.aload_n 0, 1) := by decide +kernel
theorem dX6_init_22 : decode cX6_init 22 = .ok (.bipush 6, 2) := by decide +kernel
theorem dX6_init_24 : decode cX6_init 24 = .ok (.anewarray 21, 3) := by decide +kernel
theorem dX6_init_27 : decode cX6_init 27 = .ok (.putfield 23, 3) := by decide +kernel
theorem dX6_init_30 : decode cX6_init 30 = .ok (.aload_n 0, 1) := by decide +kernel
theorem dX6_init_31 : decode cX6_init 31 = .ok (.new 27, 3) := by decide +kernel
theorem dX6_init_34 : decode cX6_init 34 = .ok (.dup, 1) := by decide +kernel
theorem dX6_init_35 : decode cX6_init 35 = .ok (.invokespecial 29, 3) := by decide +kernel
theorem dX6_init_38 : decode cX6_init 38 = .ok (.putfield 30, 3) := by decide +kernel
theorem dX6_init_41 : decode cX6_init 41 = .ok (.return_, 1) := by decide +kernel
set_option maxRecDepth 20000 in
theorem ggX6_addRoute_X6_isPath : GoodIn wsX6_addRoute wsX6_isPath := goodIn_r _ [13, 14, 15, 12, 16] (by decide +kernel) (by decide +kernel)
set_option maxRecDepth 20000 in
theorem gX6_addRoute_X6_isPath : GoodIn wsX6_addRoute (va_wsS RX6 34 yX6_isPath wsX6_isPath) := goodIn_app (goodIn_of _ (by decide +kernel)) ggX6_addRoute_X6_isPath
set_option maxRecDepth 20000 in
theorem ggX6_addRoute_X6_isWithin : GoodIn wsX6_addRoute wsX6_isWithin := goodIn_r _ [16] (by decide +kernel) (by decide +kernel)
set_option maxRecDepth 20000 in
theorem gX6_addRoute_X6_isWithin : GoodIn wsX6_addRoute (va_wsS RX6 38 yX6_isWithin wsX6_isWithin) := goodIn_app (goodIn_of _ (by decide +kernel)) ggX6_addRoute_X6_isWithin
set_option maxRecDepth 20000 in
theorem ggX6_addRoute_X6_isContract : GoodIn wsX6_addRoute wsX6_isContract := goodIn_r _ [19, 20, 21, 12, 22, 14, 15, 16] (by decide +kernel) (by decide +kernel)
set_option maxRecDepth 20000 in
theorem gX6_addRoute_X6_isContract : GoodIn wsX6_addRoute (va_wsS RX6 42 yX6_isContract wsX6_isContract) := goodIn_app (goodIn_of _ (by decide +kernel)) ggX6_addRoute_X6_isContract
set_option maxRecDepth 20000 in
theorem ggX6_addRoute_X6_routeWithPath : GoodIn wsX6_addRoute wsX6_routeWithPath := goodIn_r _ [26, 6, 37, 38, 39, 40, 41, 42, 43, 44, 45, 46, 47, 48, 49, 50, 51] (by decide +kernel) (by decide +kernel)
set_option maxRecDepth 20000 in
theorem gX6_addRoute_X6_routeWithPath : GoodIn wsX6_addRoute (wsV RX6 53 RX6 yX6_routeWithPath wsX6_routeWithPath) := goodIn_app (goodIn_of _ (by decide +kernel)) ggX6_addRoute_X6_routeWithPath
set_option maxRecDepth 20000 in
theorem ggX6_addRoute_X5_init : GoodIn wsX6_addRoute wsX5_init := goodIn_r _ [28, 29, 30, 31, 32, 33, 34, 35, 36, 45, 46, 47, 48, 49, 50, 51] (by decide +kernel) (by decide +kernel)
set_option maxRecDepth 20000 in
theorem gX6_addRoute_X5_init_n68 : GoodIn wsX6_addRoute (wsX5_init) := ggX6_addRoute_X5_init
theorem dX6_addRoute_0 : decode cX6_addRoute 0 = .ok (.iload_n 1, 1) := by decide +kernel
theorem dX6_addRoute_1 : decode cX6_addRoute 1 = .ok (.invokestatic 34, 3) := by decide +kernel
theorem dX6_addRoute_4 : decode cX6_addRoute 4 = .ok (.ifCond .eq 21, 3) := by decide +kernel
theorem dX6_addRoute_7 : decode cX6_addRoute 7 = .ok (.iload_n 2, 1) := by decide +kernel
theorem dX6_addRoute_8 : decode cX6_addRoute 8 = .ok (.iconst 1, 1) := by decide +kernel
theorem dX6_addRoute_9 : decode cX6_addRoute 9 = .ok (.iconst 5, 1) := by decide +kernel
theorem dX6_addRoute_10 : decode cX6_addRoute 10 = .ok (.invokestatic 38, 3) := by decide +kernel
theorem dX6_addRoute_13 : decode cX6_addRoute 13 = .ok (.ifCond .eq 12, 3) := by decide +kernel
theorem dX6_addRoute_16 : decode cX6_addRoute 16 = .ok (.iload_n 3, 1) := by decide +kernel
theorem dX6_addRoute_17 : decode cX6_addRoute 17 = .ok (.iload 4, 2) := by decide +kernel
theorem dX6_addRoute_19 : decode cX6_addRoute 19 = .ok (.invokestatic 42, 3) := by decide +kernel
theorem dX6_addRoute_22 : decode cX6_addRoute 22 = .ok (.ifCond .ne 13, 3) := by decide +kernel
theorem dX6_addRoute_25 : decode cX6_addRoute 25 = .ok (.new 46, 3) := by decide +kernel
theorem dX6_addRoute_28 : decode cX6_addRoute 28 = .ok (.dup, 1) := by decide +kernel
theorem dX6_addRoute_29 : decode cX6_addRoute 29 = .ok (.ldc 48, 2) := by decide +kernel
theorem dX6_addRoute_31 : decode cX6_addRoute 31 = .ok (.invokespecial 50, 3) := by decide +kernel
theorem dX6_addRoute_34 : decode cX6_addRoute 34 = .ok (.athrow, 1) := by decide +kernel
theorem dX6_addRoute_35 : decode cX6_addRoute 35 = .ok (.aload_n 0, 1) := by decide +kernel
theorem dX6_addRoute_36 : decode cX6_addRoute 36 = .ok (.iload_n 1, 1) := by decide +kernel
theorem dX6_addRoute_37 : decode cX6_addRoute 37 = .ok (.invokevirtual 53, 3) := by decide +kernel
theorem dX6_addRoute_40 : decode cX6_addRoute 40 = .ok (.ifnull 13, 3) := by decide +kernel
theorem dX6_addRoute_43 : decode cX6_addRoute 43 = .ok (.new 46, 3) := by decide +kernel
theorem dX6_addRoute_46 : decode cX6_addRoute 46 = .ok (.dup, 1) := by decide +kernel
theorem dX6_addRoute_47 : decode cX6_addRoute 47 = .ok (.ldc 57, 2) := by decide +kernel
theorem dX6_addRoute_49 : decode cX6_addRoute 49 = .ok (.invokespecial 50, 3) := by decide +kernel
theorem dX6_addRoute_52 : decode cX6_addRoute 52 = .ok (.athrow, 1) := by decide +kernel
theorem dX6_addRoute_53 : decode cX6_addRoute 53 = .ok (.aload_n 0, 1) := by decide +kernel
theorem dX6_addRoute_54 : decode cX6_addRoute 54 = .ok (.getfield 59, 3) := by decide +kernel
theorem dX6_addRoute_57 : decode cX6_addRoute 57 = .ok (.istore 5, 2) := by decide +kernel
theorem dX6_addRoute_59 : decode cX6_addRoute 59 = .ok (.iload 5, 2) := by decide +kernel
theorem dX6_addRoute_61 : decode cX6_addRoute 61 = .ok (.ifCond .lt 13, 3) := by decide +kernel
theorem dX6_addRoute_64 : decode cX6_addRoute 64 = .ok (.iload 5, 2) := by decide +kernel
theorem dX6_addRoute_66 : decode cX6_addRoute 66 = .ok (.aload_n 0, 1) := by decide +kernel
theorem dX6_addRoute_67 : decode cX6_addRoute 67 = .ok (.getfield 11, 3) := by decide +kernel
theorem dX6_addRoute_70 : decode cX6_addRoute 70 = .ok (.arraylength, 1) := by decide +kernel
theorem dX6_addRoute_71 : decode cX6_addRoute 71 = .ok (.if_icmp .lt 13, 3) := by decide +kernel
theorem dX6_addRoute_74 : decode cX6_addRoute 74 = .ok (.new 63, 3) := by decide +kernel
theorem dX6_addRoute_77 : decode cX6_addRoute 77 = .ok (.dup, 1) := by decide +kernel
theorem dX6_addRoute_78 : decode cX6_addRoute 78 = .ok (.ldc 65, 2) := by decide +kernel
theorem dX6_addRoute_80 : decode cX6_addRoute 80 = .ok (.invokespecial 67, 3) := by decide +kernel
theorem dX6_addRoute_83 : decode cX6_addRoute 83 = .ok (.athrow, 1) := by decide +kernel
theorem dX6_addRoute_84 : decode cX6_addRoute 84 = .ok (.aload_n 0, 1) := by decide +kernel
theorem dX6_addRoute_85 : decode cX6_addRoute 85 = .ok (.getfield 11, 3) := by decide +kernel
theorem dX6_addRoute_88 : decode cX6_addRoute 88 = .ok (.iload 5, 2) := by decide +kernel
theorem dX6_addRoute_90 : decode cX6_addRoute 90 = .ok (.new 9, 3) := by decide +kernel
theorem dX6_addRoute_93 : decode cX6_addRoute 93 = .ok (.dup, 1) := by decide +kernel
theorem dX6_addRoute_94 : decode cX6_addRoute 94 = .ok (.iload 5, 2) := by decide +kernel
theorem dX6_addRoute_96 : decode cX6_addRoute 96 = .ok (.iload_n 1, 1) := by decide +kernel
theorem dX6_addRoute_97 : decode cX6_addRoute 97 = .ok (.iload_n 2, 1) := by decide +kernel
theorem dX6_addRoute_98 : decode cX6_addRoute 98 = .ok (.iload_n 3, 1) := by decide +kernel
theorem dX6_addRoute_99 : decode cX6_addRoute 99 = .ok (.iload 4, 2) := by decide +kernel
theorem dX6_addRoute_101 : decode cX6_addRoute 101 = .ok (.invokespecial 68, 3) := by decide +kernel
theorem dX6_addRoute_104 : decode cX6_addRoute 104 = .ok (.aastore, 1) := by decide +kernel
theorem dX6_addRoute_105 : decode cX6_addRoute 105 = .ok (.aload_n 0, 1) := by decide +kernel
theorem dX6_addRoute_106 : decode cX6_addRoute 106 = .ok (.dup, 1) := by decide +kernel
theorem dX6_addRoute_107 : decode cX6_addRoute 107 = .ok (.getfield 59, 3) := by decide +kernel
theorem dX6_addRoute_110 : decode cX6_addRoute 110 = .ok (.iconst 1, 1) := by decide +kernel
theorem dX6_addRoute_111 : decode cX6_addRoute 111 = .ok (.iadd, 1) := by decide +kernel
theorem dX6_addRoute_112 : decode cX6_addRoute 112 = .ok (.putfield 59, 3) := by decide +kernel
theorem dX6_addRoute_115 : decode cX6_addRoute 115 = .ok (.iload 5, 2) := by decide +kernel
theorem dX6_addRoute_117 : decode cX6_addRoute 117 = .ok (.ireturn, 1) := by decide +kernel
set_option maxRecDepth 20000 in
theorem ggX6_route_X6_requirePath : GoodIn wsX6_route wsX6_requirePath := goodIn_ca (goodIn_r _ [4, 5, 6, 7, 8, 3, 9, 10, 11, 12] (by decide +kernel) (by decide +kernel)) (goodIn_sub (fun _ h => List.mem_cons_of_mem _ (List.mem_append_left _ (List.mem_append_right _ h))) (by decide +kernel))
set_option maxRecDepth 20000 in
theorem gX6_route_X6_requirePath : GoodIn wsX6_route (va_wsS RX6 71 yX6_requirePath wsX6_requirePath) := goodIn_app (goodIn_of _ (by decide +kernel)) ggX6_route_X6_requirePath
set_option maxRecDepth 20000 in
theorem ggX6_route_X6_routeByTakingOff : GoodIn wsX6_route wsX6_routeByTakingOff := goodIn_r _ [16, 17, 18, 19, 3, 20, 21, 27, 28, 29, 30, 31, 32, 33, 34, 35, 36, 37, 38, 39, 40, 41] (by decide +kernel) (by decide +kernel)
set_option maxRecDepth 20000 in
theorem gX6_route_X6_routeByTakingOff : GoodIn wsX6_route (wsV RX6 75 RX6 yX6_routeByTakingOff wsX6_routeByTakingOff) := goodIn_app (goodIn_of _ (by decide +kernel)) ggX6_route_X6_routeByTakingOff
set_option maxRecDepth 20000 in
theorem ggX6_route_X6_numberOfFound : GoodIn wsX6_route wsX6_numberOfFound := goodIn_ca (goodIn_r _ [24, 25, 26, 35, 36, 37, 38, 39, 40, 41] (by decide +kernel) (by decide +kernel)) (goodIn_sub (fun _ h => List.mem_cons_of_mem _ (List.mem_append_right _ h)) (by decide +kernel))
set_option maxRecDepth 20000 in
theorem gX6_route_X6_numberOfFound : GoodIn wsX6_route (va_wsS RX6 78 yX6_numberOfFound wsX6_numberOfFound) := goodIn_app (goodIn_of _ (by decide +kernel)) ggX6_route_X6_numberOfFound
theorem dX6_route_0 : decode cX6_route 0 = .ok (.iload_n 1, 1) := by decide +kernel
theorem dX6_route_1 : decode cX6_route 1 = .ok (.invokestatic 71, 3) := by decide +kernel
theorem dX6_route_4 : decode cX6_route 4 = .ok (.aload_n 0, 1) := by decide +kernel
theorem dX6_route_5 : decode cX6_route 5 = .ok (.iload_n 1, 1) := by decide +kernel
theorem dX6_route_6 : decode cX6_route 6 = .ok (.invokevirtual 75, 3) := by decide +kernel
theorem dX6_route_9 : decode cX6_route 9 = .ok (.invokestatic 78, 3) := by decide +kernel
theorem dX6_route_12 : decode cX6_route 12 = .ok (.ireturn, 1) := by decide +kernel
set_option maxRecDepth 20000 in
theorem ggX6_routeByComparing_X6_requirePath : GoodIn wsX6_routeByComparing wsX6_requirePath := goodIn_ca (goodIn_r _ [4, 5, 6, 7, 8, 3, 9, 10, 11, 12] (by decide +kernel) (by decide +kernel)) (goodIn_sub (fun _ h => List.mem_cons_of_mem _ (List.mem_append_left _ (List.mem_append_right _ h))) (by decide +kernel))
set_option maxRecDepth 20000 in
theorem gX6_routeByComparing_X6_requirePath : GoodIn wsX6_routeByComparing (va_wsS RX6 71 yX6_requirePath wsX6_requirePath) := goodIn_app (goodIn_of _ (by decide +kernel)) ggX6_routeByComparing_X6_requirePath
set_option maxRecDepth 20000 in
theorem ggX6_routeByComparing_X6_longestThatFits : GoodIn wsX6_routeByComparing wsX6_longestThatFits := goodIn_r _ [16, 17, 18, 19, 20, 21, 22, 28, 29, 30, 31, 32, 33, 34, 35, 36, 37, 38, 39, 40, 41, 42] (by decide +kernel) (by decide +kernel)
set_option maxRecDepth 20000 in
theorem gX6_routeByComparing_X6_longestThatFits : GoodIn wsX6_routeByComparing (wsV RX6 82 RX6 yX6_longestThatFits wsX6_longestThatFits) := goodIn_app (goodIn_of _ (by decide +kernel)) ggX6_routeByComparing_X6_longestThatFits
set_option maxRecDepth 20000 in
theorem ggX6_routeByComparing_X6_numberOfFound : GoodIn wsX6_routeByComparing wsX6_numberOfFound := goodIn_ca (goodIn_r _ [25, 26, 27, 36, 37, 38, 39, 40, 41, 42] (by decide +kernel) (by decide +kernel)) (goodIn_sub (fun _ h => List.mem_cons_of_mem _ (List.mem_append_right _ h)) (by decide +kernel))
set_option maxRecDepth 20000 in
theorem gX6_routeByComparing_X6_numberOfFound : GoodIn wsX6_routeByComparing (va_wsS RX6 78 yX6_numberOfFound wsX6_numberOfFound) := goodIn_app (goodIn_of _ (by decide +kernel)) ggX6_routeByComparing_X6_numberOfFound
theorem dX6_routeByComparing_0 : decode cX6_routeByComparing 0 = .ok (.iload_n 1, 1) := by decide +kernel
theorem dX6_routeByComparing_1 : decode cX6_routeByComparing 1 = .ok (.invokestatic 71, 3) := by decide +kernel
theorem dX6_routeByComparing_4 : decode cX6_routeByComparing 4 = .ok (.aload_n 0, 1) := by decide +kernel
theorem dX6_routeByComparing_5 : decode cX6_routeByComparing 5 = .ok (.iload_n 1, 1) := by decide +kernel
theorem dX6_routeByComparing_6 : decode cX6_routeByComparing 6 = .ok (.invokevirtual 82, 3) := by decide +kernel
theorem dX6_routeByComparing_9 : decode cX6_routeByComparing 9 = .ok (.invokestatic 78, 3) := by decide +kernel
theorem dX6_routeByComparing_12 : decode cX6_routeByComparing 12 = .ok (.ireturn, 1) := by decide +kernel
set_option maxRecDepth 20000 in
theorem ggX6_setContract_X6_existingRoute : GoodIn wsX6_setContract wsX6_existingRoute := goodIn_ca (goodIn_r _ [7, 8, 9, 10, 27, 28, 29, 30, 31, 32, 33, 34] (by decide +kernel) (by decide +kernel)) (goodIn_sub (fun _ h => List.mem_cons_of_mem _ (List.mem_append_right _ h)) (by decide +kernel))
set_option maxRecDepth 20000 in
theorem gX6_setContract_X6_existingRoute : GoodIn wsX6_setContract (wsV RX6 85 RX6 yX6_existingRoute wsX6_existingRoute) := goodIn_app (goodIn_of _ (by decide +kernel)) ggX6_setContract_X6_existingRoute
set_option maxRecDepth 20000 in
theorem ggX6_setContract_X6_isContract : GoodIn wsX6_setContract wsX6_isContract := goodIn_r _ [13, 14, 15, 6, 16, 17, 18, 19] (by decide +kernel) (by decide +kernel)
set_option maxRecDepth 20000 in
theorem gX6_setContract_X6_isContract : GoodIn wsX6_setContract (va_wsS RX6 42 yX6_isContract wsX6_isContract) := goodIn_app (goodIn_of _ (by decide +kernel)) ggX6_setContract_X6_isContract
theorem dX6_setContract_0 : decode cX6_setContract 0 = .ok (.aload_n 0, 1) := by decide +kernel
theorem dX6_setContract_1 : decode cX6_setContract 1 = .ok (.iload_n 1, 1) := by decide +kernel
theorem dX6_setContract_2 : decode cX6_setContract 2 = .ok (.invokevirtual 85, 3) := by decide +kernel
theorem dX6_setContract_5 : decode cX6_setContract 5 = .ok (.astore 4, 2) := by decide +kernel
theorem dX6_setContract_7 : decode cX6_setContract 7 = .ok (.iload_n 2, 1) := by decide +kernel
theorem dX6_setContract_8 : decode cX6_setContract 8 = .ok (.iload_n 3, 1) := by decide +kernel
theorem dX6_setContract_9 : decode cX6_setContract 9 = .ok (.invokestatic 42, 3) := by decide +kernel
theorem dX6_setContract_12 : decode cX6_setContract 12 = .ok (.ifCond .ne 13, 3) := by decide +kernel
theorem dX6_setContract_15 : decode cX6_setContract 15 = .ok (.new 46, 3) := by decide +kernel
theorem dX6_setContract_18 : decode cX6_setContract 18 = .ok (.dup, 1) := by decide +kernel
theorem dX6_setContract_19 : decode cX6_setContract 19 = .ok (.ldc 88, 2) := by decide +kernel
theorem dX6_setContract_21 : decode cX6_setContract 21 = .ok (.invokespecial 50, 3) := by decide +kernel
theorem dX6_setContract_24 : decode cX6_setContract 24 = .ok (.athrow, 1) := by decide +kernel
theorem dX6_setContract_25 : decode cX6_setContract 25 = .ok (.aload 4, 2) := by decide +kernel
theorem dX6_setContract_27 : decode cX6_setContract 27 = .ok (.getfield 90, 3) := by decide +kernel
theorem dX6_setContract_30 : decode cX6_setContract 30 = .ok (.istore 5, 2) := by decide +kernel
theorem dX6_setContract_32 : decode cX6_setContract 32 = .ok (.aload 4, 2) := by decide +kernel
theorem dX6_setContract_34 : decode cX6_setContract 34 = .ok (.iload_n 2, 1) := by decide +kernel
theorem dX6_setContract_35 : decode cX6_setContract 35 = .ok (.putfield 90, 3) := by decide +kernel
theorem dX6_setContract_38 : decode cX6_setContract 38 = .ok (.aload 4, 2) := by decide +kernel
theorem dX6_setContract_40 : decode cX6_setContract 40 = .ok (.iload_n 3, 1) := by decide +kernel
theorem dX6_setContract_41 : decode cX6_setContract 41 = .ok (.putfield 93, 3) := by decide +kernel
theorem dX6_setContract_44 : decode cX6_setContract 44 = .ok (.iload 5, 2) := by decide +kernel
theorem dX6_setContract_46 : decode cX6_setContract 46 = .ok (.ireturn, 1) := by decide +kernel
set_option maxRecDepth 20000 in
theorem ggX6_setAnswer_X6_existingRoute : GoodIn wsX6_setAnswer wsX6_existingRoute := goodIn_ca (goodIn_r _ [7, 8, 9, 10, 24, 25, 26, 27, 28, 29, 30, 31] (by decide +kernel) (by decide +kernel)) (goodIn_sub (fun _ h => List.mem_cons_of_mem _ (List.mem_append_right _ h)) (by decide +kernel))
set_option maxRecDepth 20000 in
theorem gX6_setAnswer_X6_existingRoute : GoodIn wsX6_setAnswer (wsV RX6 85 RX6 yX6_existingRoute wsX6_existingRoute) := goodIn_app (goodIn_of _ (by decide +kernel)) ggX6_setAnswer_X6_existingRoute
set_option maxRecDepth 20000 in
theorem ggX6_setAnswer_X6_isAnswer : GoodIn wsX6_setAnswer wsX6_isAnswer := goodIn_r _ [13, 14, 15, 6, 16] (by decide +kernel) (by decide +kernel)
set_option maxRecDepth 20000 in
theorem gX6_setAnswer_X6_isAnswer : GoodIn wsX6_setAnswer (va_wsS RX6 96 yX6_isAnswer wsX6_isAnswer) := goodIn_app (goodIn_of _ (by decide +kernel)) ggX6_setAnswer_X6_isAnswer
theorem dX6_setAnswer_0 : decode cX6_setAnswer 0 = .ok (.aload_n 0, 1) := by decide +kernel
theorem dX6_setAnswer_1 : decode cX6_setAnswer 1 = .ok (.iload_n 1, 1) := by decide +kernel
theorem dX6_setAnswer_2 : decode cX6_setAnswer 2 = .ok (.invokevirtual 85, 3) := by decide +kernel
theorem dX6_setAnswer_5 : decode cX6_setAnswer 5 = .ok (.astore_n 3, 1) := by decide +kernel
theorem dX6_setAnswer_6 : decode cX6_setAnswer 6 = .ok (.iload_n 2, 1) := by decide +kernel
theorem dX6_setAnswer_7 : decode cX6_setAnswer 7 = .ok (.invokestatic 96, 3) := by decide +kernel
theorem dX6_setAnswer_10 : decode cX6_setAnswer 10 = .ok (.ifCond .ne 13, 3) := by decide +kernel
theorem dX6_setAnswer_13 : decode cX6_setAnswer 13 = .ok (.new 46, 3) := by decide +kernel
theorem dX6_setAnswer_16 : decode cX6_setAnswer 16 = .ok (.dup, 1) := by decide +kernel
theorem dX6_setAnswer_17 : decode cX6_setAnswer 17 = .ok (.ldc 99, 2) := by decide +kernel
theorem dX6_setAnswer_19 : decode cX6_setAnswer 19 = .ok (.invokespecial 50, 3) := by decide +kernel
theorem dX6_setAnswer_22 : decode cX6_setAnswer 22 = .ok (.athrow, 1) := by decide +kernel
theorem dX6_setAnswer_23 : decode cX6_setAnswer 23 = .ok (.aload_n 3, 1) := by decide +kernel
theorem dX6_setAnswer_24 : decode cX6_setAnswer 24 = .ok (.getfield 101, 3) := by decide +kernel
theorem dX6_setAnswer_27 : decode cX6_setAnswer 27 = .ok (.istore 4, 2) := by decide +kernel
theorem dX6_setAnswer_29 : decode cX6_setAnswer 29 = .ok (.aload_n 3, 1) := by decide +kernel
theorem dX6_setAnswer_30 : decode cX6_setAnswer 30 = .ok (.iload_n 2, 1) := by decide +kernel
theorem dX6_setAnswer_31 : decode cX6_setAnswer 31 = .ok (.putfield 101, 3) := by decide +kernel
theorem dX6_setAnswer_34 : decode cX6_setAnswer 34 = .ok (.iload 4, 2) := by decide +kernel
theorem dX6_setAnswer_36 : decode cX6_setAnswer 36 = .ok (.ireturn, 1) := by decide +kernel
set_option maxRecDepth 20000 in
theorem ggX6_broken_X6_existingRoute : GoodIn wsX6_broken wsX6_existingRoute := goodIn_ca (goodIn_r _ [5, 6, 7, 8, 27, 28, 29, 30, 31, 32, 33, 34] (by decide +kernel) (by decide +kernel)) (goodIn_sub (fun _ h => List.mem_cons_of_mem _ (List.mem_append_right _ h)) (by decide +kernel))
set_option maxRecDepth 20000 in
theorem gX6_broken_X6_existingRoute : GoodIn wsX6_broken (wsV RX6 85 RX6 yX6_existingRoute wsX6_existingRoute) := goodIn_app (goodIn_of _ (by decide +kernel)) ggX6_broken_X6_existingRoute
set_option maxRecDepth 20000 in
theorem ggX6_broken_X5_isBrokenBy : GoodIn wsX6_broken wsX5_isBrokenBy := goodIn_r _ [12, 13, 14, 15, 16, 17, 18, 19, 20, 21] (by decide +kernel) (by decide +kernel)
set_option maxRecDepth 20000 in
theorem gX6_broken_X5_isBrokenBy_n108 : GoodIn wsX6_broken (wsX5_isBrokenBy) := ggX6_broken_X5_isBrokenBy
theorem dX6_broken_0 : decode cX6_broken 0 = .ok (.aload_n 0, 1) := by decide +kernel
theorem dX6_broken_1 : decode cX6_broken 1 = .ok (.iload_n 1, 1) := by decide +kernel
theorem dX6_broken_2 : decode cX6_broken 2 = .ok (.invokevirtual 85, 3) := by decide +kernel
theorem dX6_broken_5 : decode cX6_broken 5 = .ok (.astore_n 2, 1) := by decide +kernel
theorem dX6_broken_6 : decode cX6_broken 6 = .ok (.aload_n 2, 1) := by decide +kernel
theorem dX6_broken_7 : decode cX6_broken 7 = .ok (.getfield 104, 3) := by decide +kernel
theorem dX6_broken_10 : decode cX6_broken 10 = .ok (.astore_n 3, 1) := by decide +kernel
theorem dX6_broken_11 : decode cX6_broken 11 = .ok (.aload_n 2, 1) := by decide +kernel
theorem dX6_broken_12 : decode cX6_broken 12 = .ok (.aload_n 2, 1) := by decide +kernel
theorem dX6_broken_13 : decode cX6_broken 13 = .ok (.getfield 101, 3) := by decide +kernel
theorem dX6_broken_16 : decode cX6_broken 16 = .ok (.invokevirtual 108, 3) := by decide +kernel
theorem dX6_broken_19 : decode cX6_broken 19 = .ok (.istore 4, 2) := by decide +kernel
theorem dX6_broken_21 : decode cX6_broken 21 = .ok (.aload_n 3, 1) := by decide +kernel
theorem dX6_broken_22 : decode cX6_broken 22 = .ok (.ifnull 18, 3) := by decide +kernel
theorem dX6_broken_25 : decode cX6_broken 25 = .ok (.aload_n 2, 1) := by decide +kernel
theorem dX6_broken_26 : decode cX6_broken 26 = .ok (.aload_n 3, 1) := by decide +kernel
theorem dX6_broken_27 : decode cX6_broken 27 = .ok (.getfield 111, 3) := by decide +kernel
theorem dX6_broken_30 : decode cX6_broken 30 = .ok (.invokevirtual 108, 3) := by decide +kernel
theorem dX6_broken_33 : decode cX6_broken 33 = .ok (.ifCond .eq 7, 3) := by decide +kernel
theorem dX6_broken_36 : decode cX6_broken 36 = .ok (.iconst 1, 1) := by decide +kernel
theorem dX6_broken_37 : decode cX6_broken 37 = .ok (.goto 4, 3) := by decide +kernel
theorem dX6_broken_40 : decode cX6_broken 40 = .ok (.iconst 0, 1) := by decide +kernel
theorem dX6_broken_41 : decode cX6_broken 41 = .ok (.istore 5, 2) := by decide +kernel
theorem dX6_broken_43 : decode cX6_broken 43 = .ok (.iload 4, 2) := by decide +kernel
theorem dX6_broken_45 : decode cX6_broken 45 = .ok (.ifCond .eq 16, 3) := by decide +kernel
theorem dX6_broken_48 : decode cX6_broken 48 = .ok (.iload 5, 2) := by decide +kernel
theorem dX6_broken_50 : decode cX6_broken 50 = .ok (.ifCond .eq 8, 3) := by decide +kernel
theorem dX6_broken_53 : decode cX6_broken 53 = .ok (.bipush 98, 2) := by decide +kernel
theorem dX6_broken_55 : decode cX6_broken 55 = .ok (.goto 5, 3) := by decide +kernel
theorem dX6_broken_58 : decode cX6_broken 58 = .ok (.bipush 115, 2) := by decide +kernel
theorem dX6_broken_60 : decode cX6_broken 60 = .ok (.ireturn, 1) := by decide +kernel
theorem dX6_broken_61 : decode cX6_broken 61 = .ok (.iload 5, 2) := by decide +kernel
theorem dX6_broken_63 : decode cX6_broken 63 = .ok (.ifCond .eq 8, 3) := by decide +kernel
theorem dX6_broken_66 : decode cX6_broken 66 = .ok (.bipush 99, 2) := by decide +kernel
theorem dX6_broken_68 : decode cX6_broken 68 = .ok (.goto 5, 3) := by decide +kernel
theorem dX6_broken_71 : decode cX6_broken 71 = .ok (.bipush 110, 2) := by decide +kernel
theorem dX6_broken_73 : decode cX6_broken 73 = .ok (.ireturn, 1) := by decide +kernel
set_option maxRecDepth 20000 in
theorem ggX6_begin_X6_existingRoute : GoodIn wsX6_begin wsX6_existingRoute := goodIn_ca (goodIn_r _ [13, 14, 15, 16, 51, 52, 53, 54, 55, 56, 57, 58] (by decide +kernel) (by decide +kernel)) (goodIn_sub (fun _ h => List.mem_cons_of_mem _ (List.mem_append_right _ h)) (by decide +kernel))
set_option maxRecDepth 20000 in
theorem gX6_begin_X6_existingRoute : GoodIn wsX6_begin (wsV RX6 85 RX6 yX6_existingRoute wsX6_existingRoute) := goodIn_app (goodIn_of _ (by decide +kernel)) ggX6_begin_X6_existingRoute
set_option maxRecDepth 20000 in
theorem ggX6_begin_X6_isAnswer : GoodIn wsX6_begin wsX6_isAnswer := goodIn_r _ [19, 20, 21, 12, 22] (by decide +kernel) (by decide +kernel)
set_option maxRecDepth 20000 in
theorem gX6_begin_X6_isAnswer : GoodIn wsX6_begin (va_wsS RX6 96 yX6_isAnswer wsX6_isAnswer) := goodIn_app (goodIn_of _ (by decide +kernel)) ggX6_begin_X6_isAnswer
set_option maxRecDepth 20000 in
theorem ggX6_begin_X6_isShare : GoodIn wsX6_begin wsX6_isShare := goodIn_r _ [25, 20, 21, 12, 22] (by decide +kernel) (by decide +kernel)
set_option maxRecDepth 20000 in
theorem gX6_begin_X6_isShare : GoodIn wsX6_begin (va_wsS RX6 116 yX6_isShare wsX6_isShare) := goodIn_app (goodIn_of _ (by decide +kernel)) ggX6_begin_X6_isShare
set_option maxRecDepth 20000 in
theorem ggX6_begin_X6_isWithin : GoodIn wsX6_begin wsX6_isWithin := goodIn_r _ [22] (by decide +kernel) (by decide +kernel)
set_option maxRecDepth 20000 in
theorem gX6_begin_X6_isWithin : GoodIn wsX6_begin (va_wsS RX6 38 yX6_isWithin wsX6_isWithin) := goodIn_app (goodIn_of _ (by decide +kernel)) ggX6_begin_X6_isWithin
set_option maxRecDepth 20000 in
theorem ggX6_begin_X2_init : GoodIn wsX6_begin wsX2_init := goodIn_r _ [27, 28, 29, 30, 31, 32, 33, 34, 46, 47, 48, 49, 50] (by decide +kernel) (by decide +kernel)
set_option maxRecDepth 20000 in
theorem gX6_begin_X2_init_n124 : GoodIn wsX6_begin (wsX2_init) := ggX6_begin_X2_init
set_option maxRecDepth 20000 in
theorem ggX6_begin_X6_numberOfCanaries : GoodIn wsX6_begin wsX6_numberOfCanaries := goodIn_r _ [38, 16, 51, 52, 53, 54, 55, 56, 57, 58, 39, 40, 41, 42, 43, 44, 45] (by decide +kernel) (by decide +kernel)
set_option maxRecDepth 20000 in
theorem gX6_begin_X6_numberOfCanaries : GoodIn wsX6_begin (wsV RX6 127 RX6 yX6_numberOfCanaries wsX6_numberOfCanaries) := goodIn_app (goodIn_of _ (by decide +kernel)) ggX6_begin_X6_numberOfCanaries
theorem dX6_begin_0 : decode cX6_begin 0 = .ok (.aload_n 0, 1) := by decide +kernel
theorem dX6_begin_1 : decode cX6_begin 1 = .ok (.iload_n 1, 1) := by decide +kernel
theorem dX6_begin_2 : decode cX6_begin 2 = .ok (.invokevirtual 85, 3) := by decide +kernel
theorem dX6_begin_5 : decode cX6_begin 5 = .ok (.astore 5, 2) := by decide +kernel
theorem dX6_begin_7 : decode cX6_begin 7 = .ok (.iload_n 2, 1) := by decide +kernel
theorem dX6_begin_8 : decode cX6_begin 8 = .ok (.invokestatic 96, 3) := by decide +kernel
theorem dX6_begin_11 : decode cX6_begin 11 = .ok (.ifCond .eq 21, 3) := by decide +kernel
theorem dX6_begin_14 : decode cX6_begin 14 = .ok (.iload_n 3, 1) := by decide +kernel
theorem dX6_begin_15 : decode cX6_begin 15 = .ok (.invokestatic 116, 3) := by decide +kernel
theorem dX6_begin_18 : decode cX6_begin 18 = .ok (.ifCond .eq 14, 3) := by decide +kernel
theorem dX6_begin_21 : decode cX6_begin 21 = .ok (.iload 4, 2) := by decide +kernel
theorem dX6_begin_23 : decode cX6_begin 23 = .ok (.iconst 1, 1) := by decide +kernel
theorem dX6_begin_24 : decode cX6_begin 24 = .ok (.bipush 9, 2) := by decide +kernel
theorem dX6_begin_26 : decode cX6_begin 26 = .ok (.invokestatic 38, 3) := by decide +kernel
theorem dX6_begin_29 : decode cX6_begin 29 = .ok (.ifCond .ne 13, 3) := by decide +kernel
theorem dX6_begin_32 : decode cX6_begin 32 = .ok (.new 46, 3) := by decide +kernel
theorem dX6_begin_35 : decode cX6_begin 35 = .ok (.dup, 1) := by decide +kernel
theorem dX6_begin_36 : decode cX6_begin 36 = .ok (.ldc 48, 2) := by decide +kernel
theorem dX6_begin_38 : decode cX6_begin 38 = .ok (.invokespecial 50, 3) := by decide +kernel
theorem dX6_begin_41 : decode cX6_begin 41 = .ok (.athrow, 1) := by decide +kernel
theorem dX6_begin_42 : decode cX6_begin 42 = .ok (.aload 5, 2) := by decide +kernel
theorem dX6_begin_44 : decode cX6_begin 44 = .ok (.getfield 104, 3) := by decide +kernel
theorem dX6_begin_47 : decode cX6_begin 47 = .ok (.ifnull 13, 3) := by decide +kernel
theorem dX6_begin_50 : decode cX6_begin 50 = .ok (.new 63, 3) := by decide +kernel
theorem dX6_begin_53 : decode cX6_begin 53 = .ok (.dup, 1) := by decide +kernel
theorem dX6_begin_54 : decode cX6_begin 54 = .ok (.ldc 119, 2) := by decide +kernel
theorem dX6_begin_56 : decode cX6_begin 56 = .ok (.invokespecial 67, 3) := by decide +kernel
theorem dX6_begin_59 : decode cX6_begin 59 = .ok (.athrow, 1) := by decide +kernel
theorem dX6_begin_60 : decode cX6_begin 60 = .ok (.aload 5, 2) := by decide +kernel
theorem dX6_begin_62 : decode cX6_begin 62 = .ok (.new 112, 3) := by decide +kernel
theorem dX6_begin_65 : decode cX6_begin 65 = .ok (.dup, 1) := by decide +kernel
theorem dX6_begin_66 : decode cX6_begin 66 = .ok (.aload_n 0, 1) := by decide +kernel
theorem dX6_begin_67 : decode cX6_begin 67 = .ok (.getfield 121, 3) := by decide +kernel
theorem dX6_begin_70 : decode cX6_begin 70 = .ok (.iload_n 2, 1) := by decide +kernel
theorem dX6_begin_71 : decode cX6_begin 71 = .ok (.iload_n 3, 1) := by decide +kernel
theorem dX6_begin_72 : decode cX6_begin 72 = .ok (.iload 4, 2) := by decide +kernel
theorem dX6_begin_74 : decode cX6_begin 74 = .ok (.invokespecial 124, 3) := by decide +kernel
theorem dX6_begin_77 : decode cX6_begin 77 = .ok (.putfield 104, 3) := by decide +kernel
theorem dX6_begin_80 : decode cX6_begin 80 = .ok (.aload_n 0, 1) := by decide +kernel
theorem dX6_begin_81 : decode cX6_begin 81 = .ok (.dup, 1) := by decide +kernel
theorem dX6_begin_82 : decode cX6_begin 82 = .ok (.getfield 121, 3) := by decide +kernel
theorem dX6_begin_85 : decode cX6_begin 85 = .ok (.iconst 1, 1) := by decide +kernel
theorem dX6_begin_86 : decode cX6_begin 86 = .ok (.iadd, 1) := by decide +kernel
theorem dX6_begin_87 : decode cX6_begin 87 = .ok (.putfield 121, 3) := by decide +kernel
theorem dX6_begin_90 : decode cX6_begin 90 = .ok (.aload_n 0, 1) := by decide +kernel
theorem dX6_begin_91 : decode cX6_begin 91 = .ok (.invokevirtual 127, 3) := by decide +kernel
theorem dX6_begin_94 : decode cX6_begin 94 = .ok (.ireturn, 1) := by decide +kernel
set_option maxRecDepth 20000 in
theorem ggX6_setShare_X6_existingRoute : GoodIn wsX6_setShare wsX6_existingRoute := goodIn_ca (goodIn_r _ [7, 8, 9, 10, 27, 28, 29, 30, 31, 32, 33, 34] (by decide +kernel) (by decide +kernel)) (goodIn_sub (fun _ h => List.mem_cons_of_mem _ (List.mem_append_left _ (List.mem_append_right _ h))) (by decide +kernel))
set_option maxRecDepth 20000 in
theorem gX6_setShare_X6_existingRoute : GoodIn wsX6_setShare (wsV RX6 85 RX6 yX6_existingRoute wsX6_existingRoute) := goodIn_app (goodIn_of _ (by decide +kernel)) ggX6_setShare_X6_existingRoute
set_option maxRecDepth 20000 in
theorem ggX6_setShare_X6_isShare : GoodIn wsX6_setShare wsX6_isShare := goodIn_r _ [13, 14, 15, 6, 16] (by decide +kernel) (by decide +kernel)
set_option maxRecDepth 20000 in
theorem gX6_setShare_X6_isShare : GoodIn wsX6_setShare (va_wsS RX6 116 yX6_isShare wsX6_isShare) := goodIn_app (goodIn_of _ (by decide +kernel)) ggX6_setShare_X6_isShare
set_option maxRecDepth 20000 in
theorem ggX6_setShare_X6_existingCanary : GoodIn wsX6_setShare wsX6_existingCanary := goodIn_ca (goodIn_r _ [19, 20, 21, 35, 36, 37, 38, 39, 40, 41] (by decide +kernel) (by decide +kernel)) (goodIn_sub (fun _ h => List.mem_cons_of_mem _ (List.mem_append_right _ h)) (by decide +kernel))
set_option maxRecDepth 20000 in
theorem gX6_setShare_X6_existingCanary : GoodIn wsX6_setShare (va_wsS RX6 133 yX6_existingCanary wsX6_existingCanary) := goodIn_app (goodIn_of _ (by decide +kernel)) ggX6_setShare_X6_existingCanary
theorem dX6_setShare_0 : decode cX6_setShare 0 = .ok (.aload_n 0, 1) := by decide +kernel
theorem dX6_setShare_1 : decode cX6_setShare 1 = .ok (.iload_n 1, 1) := by decide +kernel
theorem dX6_setShare_2 : decode cX6_setShare 2 = .ok (.invokevirtual 85, 3) := by decide +kernel
theorem dX6_setShare_5 : decode cX6_setShare 5 = .ok (.astore_n 3, 1) := by decide +kernel
theorem dX6_setShare_6 : decode cX6_setShare 6 = .ok (.iload_n 2, 1) := by decide +kernel
theorem dX6_setShare_7 : decode cX6_setShare 7 = .ok (.invokestatic 116, 3) := by decide +kernel
theorem dX6_setShare_10 : decode cX6_setShare 10 = .ok (.ifCond .ne 13, 3) := by decide +kernel
theorem dX6_setShare_13 : decode cX6_setShare 13 = .ok (.new 46, 3) := by decide +kernel
theorem dX6_setShare_16 : decode cX6_setShare 16 = .ok (.dup, 1) := by decide +kernel
theorem dX6_setShare_17 : decode cX6_setShare 17 = .ok (.ldc 131, 2) := by decide +kernel
theorem dX6_setShare_19 : decode cX6_setShare 19 = .ok (.invokespecial 50, 3) := by decide +kernel
theorem dX6_setShare_22 : decode cX6_setShare 22 = .ok (.athrow, 1) := by decide +kernel
theorem dX6_setShare_23 : decode cX6_setShare 23 = .ok (.aload_n 3, 1) := by decide +kernel
theorem dX6_setShare_24 : decode cX6_setShare 24 = .ok (.invokestatic 133, 3) := by decide +kernel
theorem dX6_setShare_27 : decode cX6_setShare 27 = .ok (.astore 4, 2) := by decide +kernel
theorem dX6_setShare_29 : decode cX6_setShare 29 = .ok (.aload 4, 2) := by decide +kernel
theorem dX6_setShare_31 : decode cX6_setShare 31 = .ok (.getfield 137, 3) := by decide +kernel
theorem dX6_setShare_34 : decode cX6_setShare 34 = .ok (.istore 5, 2) := by decide +kernel
theorem dX6_setShare_36 : decode cX6_setShare 36 = .ok (.aload 4, 2) := by decide +kernel
theorem dX6_setShare_38 : decode cX6_setShare 38 = .ok (.iload_n 2, 1) := by decide +kernel
theorem dX6_setShare_39 : decode cX6_setShare 39 = .ok (.putfield 137, 3) := by decide +kernel
theorem dX6_setShare_42 : decode cX6_setShare 42 = .ok (.iload 5, 2) := by decide +kernel
theorem dX6_setShare_44 : decode cX6_setShare 44 = .ok (.ireturn, 1) := by decide +kernel
set_option maxRecDepth 20000 in
theorem ggX6_promote_X6_existingRoute : GoodIn wsX6_promote wsX6_existingRoute := goodIn_ca (goodIn_r _ [5, 6, 7, 8, 26, 27, 28, 29, 30, 31, 32, 33] (by decide +kernel) (by decide +kernel)) (goodIn_sub (fun _ h => List.mem_cons_of_mem _ (List.mem_append_left _ (List.mem_append_right _ h))) (by decide +kernel))
set_option maxRecDepth 20000 in
theorem gX6_promote_X6_existingRoute : GoodIn wsX6_promote (wsV RX6 85 RX6 yX6_existingRoute wsX6_existingRoute) := goodIn_app (goodIn_of _ (by decide +kernel)) ggX6_promote_X6_existingRoute
set_option maxRecDepth 20000 in
theorem ggX6_promote_X6_existingCanary : GoodIn wsX6_promote wsX6_existingCanary := goodIn_ca (goodIn_r _ [11, 12, 13, 19, 20, 21, 22, 23, 24, 25] (by decide +kernel) (by decide +kernel)) (goodIn_sub (fun _ h => List.mem_cons_of_mem _ (List.mem_append_right _ h)) (by decide +kernel))
set_option maxRecDepth 20000 in
theorem gX6_promote_X6_existingCanary : GoodIn wsX6_promote (va_wsS RX6 133 yX6_existingCanary wsX6_existingCanary) := goodIn_app (goodIn_of _ (by decide +kernel)) ggX6_promote_X6_existingCanary
theorem dX6_promote_0 : decode cX6_promote 0 = .ok (.aload_n 0, 1) := by decide +kernel
theorem dX6_promote_1 : decode cX6_promote 1 = .ok (.iload_n 1, 1) := by decide +kernel
theorem dX6_promote_2 : decode cX6_promote 2 = .ok (.invokevirtual 85, 3) := by decide +kernel
theorem dX6_promote_5 : decode cX6_promote 5 = .ok (.astore_n 2, 1) := by decide +kernel
theorem dX6_promote_6 : decode cX6_promote 6 = .ok (.aload_n 2, 1) := by decide +kernel
theorem dX6_promote_7 : decode cX6_promote 7 = .ok (.invokestatic 133, 3) := by decide +kernel
theorem dX6_promote_10 : decode cX6_promote 10 = .ok (.astore_n 3, 1) := by decide +kernel
theorem dX6_promote_11 : decode cX6_promote 11 = .ok (.aload_n 2, 1) := by decide +kernel
theorem dX6_promote_12 : decode cX6_promote 12 = .ok (.aload_n 3, 1) := by decide +kernel
theorem dX6_promote_13 : decode cX6_promote 13 = .ok (.getfield 111, 3) := by decide +kernel
theorem dX6_promote_16 : decode cX6_promote 16 = .ok (.putfield 101, 3) := by decide +kernel
theorem dX6_promote_19 : decode cX6_promote 19 = .ok (.aload_n 2, 1) := by decide +kernel
theorem dX6_promote_20 : decode cX6_promote 20 = .ok (.aconst_null, 1) := by decide +kernel
theorem dX6_promote_21 : decode cX6_promote 21 = .ok (.putfield 104, 3) := by decide +kernel
theorem dX6_promote_24 : decode cX6_promote 24 = .ok (.aload_n 2, 1) := by decide +kernel
theorem dX6_promote_25 : decode cX6_promote 25 = .ok (.getfield 101, 3) := by decide +kernel
theorem dX6_promote_28 : decode cX6_promote 28 = .ok (.ireturn, 1) := by decide +kernel
set_option maxRecDepth 20000 in
theorem ggX6_takeBack_X6_existingRoute : GoodIn wsX6_takeBack wsX6_existingRoute := goodIn_ca (goodIn_r _ [5, 6, 7, 8, 47, 48, 49, 50, 51, 52, 53, 54] (by decide +kernel) (by decide +kernel)) (goodIn_sub (fun _ h => List.mem_cons_of_mem _ (List.mem_append_left _ (List.mem_append_right _ h))) (by decide +kernel))
set_option maxRecDepth 20000 in
theorem gX6_takeBack_X6_existingRoute : GoodIn wsX6_takeBack (wsV RX6 85 RX6 yX6_existingRoute wsX6_existingRoute) := goodIn_app (goodIn_of _ (by decide +kernel)) ggX6_takeBack_X6_existingRoute
set_option maxRecDepth 20000 in
theorem ggX6_takeBack_X6_existingCanary : GoodIn wsX6_takeBack wsX6_existingCanary := goodIn_ca (goodIn_r _ [11, 12, 13, 55, 56, 57, 58, 59, 60, 61] (by decide +kernel) (by decide +kernel)) (goodIn_sub (fun _ h => List.mem_cons_of_mem _ (List.mem_append_right _ h)) (by decide +kernel))
set_option maxRecDepth 20000 in
theorem gX6_takeBack_X6_existingCanary : GoodIn wsX6_takeBack (va_wsS RX6 133 yX6_existingCanary wsX6_existingCanary) := goodIn_app (goodIn_of _ (by decide +kernel)) ggX6_takeBack_X6_existingCanary
set_option maxRecDepth 20000 in
theorem ggX6_takeBack_X6_endAndUndo : GoodIn wsX6_takeBack wsX6_endAndUndo := goodIn_r _ [17, 18, 19, 20, 21, 22, 23, 24, 25, 26, 27, 28, 29, 30, 31, 32, 33, 34, 35, 36, 37, 38, 39, 40, 41, 42, 43, 44, 45, 46, 55, 56, 57, 58, 59, 60, 61, 47, 48, 49, 50, 51, 52, 53, 54, 62, 63, 64, 65, 66, 67, 68, 69, 70, 71, 72, 73, 74, 75, 76, 77, 78, 79, 80, 81] (by decide +kernel) (by decide +kernel)
set_option maxRecDepth 20000 in
theorem gX6_takeBack_X6_endAndUndo : GoodIn wsX6_takeBack (wsV RX6 140 RX6 yX6_endAndUndo wsX6_endAndUndo) := goodIn_app (goodIn_of _ (by decide +kernel)) ggX6_takeBack_X6_endAndUndo
theorem dX6_takeBack_0 : decode cX6_takeBack 0 = .ok (.aload_n 0, 1) := by decide +kernel
theorem dX6_takeBack_1 : decode cX6_takeBack 1 = .ok (.iload_n 1, 1) := by decide +kernel
theorem dX6_takeBack_2 : decode cX6_takeBack 2 = .ok (.invokevirtual 85, 3) := by decide +kernel
theorem dX6_takeBack_5 : decode cX6_takeBack 5 = .ok (.astore_n 2, 1) := by decide +kernel
theorem dX6_takeBack_6 : decode cX6_takeBack 6 = .ok (.aload_n 2, 1) := by decide +kernel
theorem dX6_takeBack_7 : decode cX6_takeBack 7 = .ok (.invokestatic 133, 3) := by decide +kernel
theorem dX6_takeBack_10 : decode cX6_takeBack 10 = .ok (.astore_n 3, 1) := by decide +kernel
theorem dX6_takeBack_11 : decode cX6_takeBack 11 = .ok (.aload_n 0, 1) := by decide +kernel
theorem dX6_takeBack_12 : decode cX6_takeBack 12 = .ok (.aload_n 2, 1) := by decide +kernel
theorem dX6_takeBack_13 : decode cX6_takeBack 13 = .ok (.aload_n 3, 1) := by decide +kernel
theorem dX6_takeBack_14 : decode cX6_takeBack 14 = .ok (.invokevirtual 140, 3) := by decide +kernel
theorem dX6_takeBack_17 : decode cX6_takeBack 17 = .ok (.ireturn, 1) := by decide +kernel
set_option maxRecDepth 20000 in
theorem ggX6_hasCanary_X6_existingRoute : GoodIn wsX6_hasCanary wsX6_existingRoute := goodIn_ca (goodIn_r _ [5, 6, 7, 8, 16, 17, 18, 19, 20, 21, 22, 23] (by decide +kernel) (by decide +kernel)) (goodIn_sub (fun _ h => List.mem_cons_of_mem _ (List.mem_append_right _ h)) (by decide +kernel))
set_option maxRecDepth 20000 in
theorem gX6_hasCanary_X6_existingRoute : GoodIn wsX6_hasCanary (wsV RX6 85 RX6 yX6_existingRoute wsX6_existingRoute) := goodIn_app (goodIn_of _ (by decide +kernel)) ggX6_hasCanary_X6_existingRoute
theorem dX6_hasCanary_0 : decode cX6_hasCanary 0 = .ok (.aload_n 0, 1) := by decide +kernel
theorem dX6_hasCanary_1 : decode cX6_hasCanary 1 = .ok (.iload_n 1, 1) := by decide +kernel
theorem dX6_hasCanary_2 : decode cX6_hasCanary 2 = .ok (.invokevirtual 85, 3) := by decide +kernel
theorem dX6_hasCanary_5 : decode cX6_hasCanary 5 = .ok (.getfield 104, 3) := by decide +kernel
theorem dX6_hasCanary_8 : decode cX6_hasCanary 8 = .ok (.ifnull 7, 3) := by decide +kernel
theorem dX6_hasCanary_11 : decode cX6_hasCanary 11 = .ok (.iconst 1, 1) := by decide +kernel
theorem dX6_hasCanary_12 : decode cX6_hasCanary 12 = .ok (.goto 4, 3) := by decide +kernel
theorem dX6_hasCanary_15 : decode cX6_hasCanary 15 = .ok (.iconst 0, 1) := by decide +kernel
theorem dX6_hasCanary_16 : decode cX6_hasCanary 16 = .ok (.ireturn, 1) := by decide +kernel
set_option maxRecDepth 20000 in
theorem ggX6_faults_X6_existingRoute : GoodIn wsX6_faults wsX6_existingRoute := goodIn_ca (goodIn_r _ [7, 8, 9, 10, 23, 24, 25, 26, 27, 28, 29, 30] (by decide +kernel) (by decide +kernel)) (goodIn_sub (fun _ h => List.mem_cons_of_mem _ (List.mem_append_right _ h)) (by decide +kernel))
set_option maxRecDepth 20000 in
theorem gX6_faults_X6_existingRoute : GoodIn wsX6_faults (wsV RX6 85 RX6 yX6_existingRoute wsX6_existingRoute) := goodIn_app (goodIn_of _ (by decide +kernel)) ggX6_faults_X6_existingRoute
theorem dX6_faults_0 : decode cX6_faults 0 = .ok (.aload_n 0, 1) := by decide +kernel
theorem dX6_faults_1 : decode cX6_faults 1 = .ok (.iload_n 1, 1) := by decide +kernel
theorem dX6_faults_2 : decode cX6_faults 2 = .ok (.invokevirtual 85, 3) := by decide +kernel
theorem dX6_faults_5 : decode cX6_faults 5 = .ok (.getfield 104, 3) := by decide +kernel
theorem dX6_faults_8 : decode cX6_faults 8 = .ok (.astore_n 2, 1) := by decide +kernel
theorem dX6_faults_9 : decode cX6_faults 9 = .ok (.aload_n 2, 1) := by decide +kernel
theorem dX6_faults_10 : decode cX6_faults 10 = .ok (.ifnonnull 13, 3) := by decide +kernel
theorem dX6_faults_13 : decode cX6_faults 13 = .ok (.new 144, 3) := by decide +kernel
theorem dX6_faults_16 : decode cX6_faults 16 = .ok (.dup, 1) := by decide +kernel
theorem dX6_faults_17 : decode cX6_faults 17 = .ok (.ldc 146, 2) := by decide +kernel
theorem dX6_faults_19 : decode cX6_faults 19 = .ok (.invokespecial 148, 3) := by decide +kernel
theorem dX6_faults_22 : decode cX6_faults 22 = .ok (.athrow, 1) := by decide +kernel
theorem dX6_faults_23 : decode cX6_faults 23 = .ok (.aload_n 2, 1) := by decide +kernel
theorem dX6_faults_24 : decode cX6_faults 24 = .ok (.getfield 149, 3) := by decide +kernel
theorem dX6_faults_27 : decode cX6_faults 27 = .ok (.ireturn, 1) := by decide +kernel
set_option maxRecDepth 20000 in
theorem ggX6_addPlan_X6_isWithin : GoodIn wsX6_addPlan wsX6_isWithin := goodIn_r _ [13] (by decide +kernel) (by decide +kernel)
set_option maxRecDepth 20000 in
theorem gX6_addPlan_X6_isWithin : GoodIn wsX6_addPlan (va_wsS RX6 38 yX6_isWithin wsX6_isWithin) := goodIn_app (goodIn_of _ (by decide +kernel)) ggX6_addPlan_X6_isWithin
set_option maxRecDepth 20000 in
theorem ggX6_addPlan_X4_init : GoodIn wsX6_addPlan wsX4_init := goodIn_r _ [15, 16, 17, 18, 19, 20, 21, 30, 31, 32] (by decide +kernel) (by decide +kernel)
set_option maxRecDepth 20000 in
theorem gX6_addPlan_X4_init_n157 : GoodIn wsX6_addPlan (wsX4_init) := ggX6_addPlan_X4_init
theorem dX6_addPlan_0 : decode cX6_addPlan 0 = .ok (.iload_n 1, 1) := by decide +kernel
theorem dX6_addPlan_1 : decode cX6_addPlan 1 = .ok (.iconst 1, 1) := by decide +kernel
theorem dX6_addPlan_2 : decode cX6_addPlan 2 = .ok (.bipush 20, 2) := by decide +kernel
theorem dX6_addPlan_4 : decode cX6_addPlan 4 = .ok (.invokestatic 38, 3) := by decide +kernel
theorem dX6_addPlan_7 : decode cX6_addPlan 7 = .ok (.ifCond .eq 23, 3) := by decide +kernel
theorem dX6_addPlan_10 : decode cX6_addPlan 10 = .ok (.iload_n 2, 1) := by decide +kernel
theorem dX6_addPlan_11 : decode cX6_addPlan 11 = .ok (.iconst 1, 1) := by decide +kernel
theorem dX6_addPlan_12 : decode cX6_addPlan 12 = .ok (.bipush 100, 2) := by decide +kernel
theorem dX6_addPlan_14 : decode cX6_addPlan 14 = .ok (.invokestatic 38, 3) := by decide +kernel
theorem dX6_addPlan_17 : decode cX6_addPlan 17 = .ok (.ifCond .eq 13, 3) := by decide +kernel
theorem dX6_addPlan_20 : decode cX6_addPlan 20 = .ok (.iload_n 3, 1) := by decide +kernel
theorem dX6_addPlan_21 : decode cX6_addPlan 21 = .ok (.iconst 0, 1) := by decide +kernel
theorem dX6_addPlan_22 : decode cX6_addPlan 22 = .ok (.bipush 99, 2) := by decide +kernel
theorem dX6_addPlan_24 : decode cX6_addPlan 24 = .ok (.invokestatic 38, 3) := by decide +kernel
theorem dX6_addPlan_27 : decode cX6_addPlan 27 = .ok (.ifCond .ne 13, 3) := by decide +kernel
theorem dX6_addPlan_30 : decode cX6_addPlan 30 = .ok (.new 46, 3) := by decide +kernel
theorem dX6_addPlan_33 : decode cX6_addPlan 33 = .ok (.dup, 1) := by decide +kernel
theorem dX6_addPlan_34 : decode cX6_addPlan 34 = .ok (.ldc 48, 2) := by decide +kernel
theorem dX6_addPlan_36 : decode cX6_addPlan 36 = .ok (.invokespecial 50, 3) := by decide +kernel
theorem dX6_addPlan_39 : decode cX6_addPlan 39 = .ok (.athrow, 1) := by decide +kernel
theorem dX6_addPlan_40 : decode cX6_addPlan 40 = .ok (.aload_n 0, 1) := by decide +kernel
theorem dX6_addPlan_41 : decode cX6_addPlan 41 = .ok (.getfield 152, 3) := by decide +kernel
theorem dX6_addPlan_44 : decode cX6_addPlan 44 = .ok (.istore 4, 2) := by decide +kernel
theorem dX6_addPlan_46 : decode cX6_addPlan 46 = .ok (.iload 4, 2) := by decide +kernel
theorem dX6_addPlan_48 : decode cX6_addPlan 48 = .ok (.ifCond .lt 13, 3) := by decide +kernel
theorem dX6_addPlan_51 : decode cX6_addPlan 51 = .ok (.iload 4, 2) := by decide +kernel
theorem dX6_addPlan_53 : decode cX6_addPlan 53 = .ok (.aload_n 0, 1) := by decide +kernel
theorem dX6_addPlan_54 : decode cX6_addPlan 54 = .ok (.getfield 17, 3) := by decide +kernel
theorem dX6_addPlan_57 : decode cX6_addPlan 57 = .ok (.arraylength, 1) := by decide +kernel
theorem dX6_addPlan_58 : decode cX6_addPlan 58 = .ok (.if_icmp .lt 13, 3) := by decide +kernel
theorem dX6_addPlan_61 : decode cX6_addPlan 61 = .ok (.new 63, 3) := by decide +kernel
theorem dX6_addPlan_64 : decode cX6_addPlan 64 = .ok (.dup, 1) := by decide +kernel
theorem dX6_addPlan_65 : decode cX6_addPlan 65 = .ok (.ldc 155, 2) := by decide +kernel
theorem dX6_addPlan_67 : decode cX6_addPlan 67 = .ok (.invokespecial 67, 3) := by decide +kernel
theorem dX6_addPlan_70 : decode cX6_addPlan 70 = .ok (.athrow, 1) := by decide +kernel
theorem dX6_addPlan_71 : decode cX6_addPlan 71 = .ok (.aload_n 0, 1) := by decide +kernel
theorem dX6_addPlan_72 : decode cX6_addPlan 72 = .ok (.getfield 17, 3) := by decide +kernel
theorem dX6_addPlan_75 : decode cX6_addPlan 75 = .ok (.iload 4, 2) := by decide +kernel
theorem dX6_addPlan_77 : decode cX6_addPlan 77 = .ok (.new 15, 3) := by decide +kernel
theorem dX6_addPlan_80 : decode cX6_addPlan 80 = .ok (.dup, 1) := by decide +kernel
theorem dX6_addPlan_81 : decode cX6_addPlan 81 = .ok (.iload_n 1, 1) := by decide +kernel
theorem dX6_addPlan_82 : decode cX6_addPlan 82 = .ok (.iload_n 2, 1) := by decide +kernel
theorem dX6_addPlan_83 : decode cX6_addPlan 83 = .ok (.iload_n 3, 1) := by decide +kernel
theorem dX6_addPlan_84 : decode cX6_addPlan 84 = .ok (.invokespecial 157, 3) := by decide +kernel
theorem dX6_addPlan_87 : decode cX6_addPlan 87 = .ok (.aastore, 1) := by decide +kernel
theorem dX6_addPlan_88 : decode cX6_addPlan 88 = .ok (.aload_n 0, 1) := by decide +kernel
theorem dX6_addPlan_89 : decode cX6_addPlan 89 = .ok (.dup, 1) := by decide +kernel
theorem dX6_addPlan_90 : decode cX6_addPlan 90 = .ok (.getfield 152, 3) := by decide +kernel
theorem dX6_addPlan_93 : decode cX6_addPlan 93 = .ok (.iconst 1, 1) := by decide +kernel
theorem dX6_addPlan_94 : decode cX6_addPlan 94 = .ok (.iadd, 1) := by decide +kernel
theorem dX6_addPlan_95 : decode cX6_addPlan 95 = .ok (.putfield 152, 3) := by decide +kernel
theorem dX6_addPlan_98 : decode cX6_addPlan 98 = .ok (.iload 4, 2) := by decide +kernel
theorem dX6_addPlan_100 : decode cX6_addPlan 100 = .ok (.ireturn, 1) := by decide +kernel
set_option maxRecDepth 20000 in
theorem ggX6_addCaller_X6_existingPlan : GoodIn wsX6_addCaller wsX6_existingPlan := goodIn_ca (goodIn_r _ [12, 13, 14, 15, 24, 25, 26, 27, 28, 29, 30, 31] (by decide +kernel) (by decide +kernel)) (goodIn_sub (fun _ h => List.mem_cons_of_mem _ (List.mem_append_right _ h)) (by decide +kernel))
set_option maxRecDepth 20000 in
theorem gX6_addCaller_X6_existingPlan : GoodIn wsX6_addCaller (wsV RX6 160 RX6 yX6_existingPlan wsX6_existingPlan) := goodIn_app (goodIn_of _ (by decide +kernel)) ggX6_addCaller_X6_existingPlan
set_option maxRecDepth 20000 in
theorem ggX6_addCaller_X1_init : GoodIn wsX6_addCaller wsX1_init := goodIn_r _ [17, 18, 19, 20, 21, 22, 23, 32, 33, 34, 35, 36, 37, 38] (by decide +kernel) (by decide +kernel)
set_option maxRecDepth 20000 in
theorem gX6_addCaller_X1_init_n169 : GoodIn wsX6_addCaller (wsX1_init) := ggX6_addCaller_X1_init
theorem dX6_addCaller_0 : decode cX6_addCaller 0 = .ok (.aload_n 0, 1) := by decide +kernel
theorem dX6_addCaller_1 : decode cX6_addCaller 1 = .ok (.iload_n 1, 1) := by decide +kernel
theorem dX6_addCaller_2 : decode cX6_addCaller 2 = .ok (.invokevirtual 160, 3) := by decide +kernel
theorem dX6_addCaller_5 : decode cX6_addCaller 5 = .ok (.astore_n 2, 1) := by decide +kernel
theorem dX6_addCaller_6 : decode cX6_addCaller 6 = .ok (.aload_n 0, 1) := by decide +kernel
theorem dX6_addCaller_7 : decode cX6_addCaller 7 = .ok (.getfield 164, 3) := by decide +kernel
theorem dX6_addCaller_10 : decode cX6_addCaller 10 = .ok (.istore_n 3, 1) := by decide +kernel
theorem dX6_addCaller_11 : decode cX6_addCaller 11 = .ok (.iload_n 3, 1) := by decide +kernel
theorem dX6_addCaller_12 : decode cX6_addCaller 12 = .ok (.ifCond .lt 12, 3) := by decide +kernel
theorem dX6_addCaller_15 : decode cX6_addCaller 15 = .ok (.iload_n 3, 1) := by decide +kernel
theorem dX6_addCaller_16 : decode cX6_addCaller 16 = .ok (.aload_n 0, 1) := by decide +kernel
theorem dX6_addCaller_17 : decode cX6_addCaller 17 = .ok (.getfield 23, 3) := by decide +kernel
theorem dX6_addCaller_20 : decode cX6_addCaller 20 = .ok (.arraylength, 1) := by decide +kernel
theorem dX6_addCaller_21 : decode cX6_addCaller 21 = .ok (.if_icmp .lt 13, 3) := by decide +kernel
theorem dX6_addCaller_24 : decode cX6_addCaller 24 = .ok (.new 63, 3) := by decide +kernel
theorem dX6_addCaller_27 : decode cX6_addCaller 27 = .ok (.dup, 1) := by decide +kernel
theorem dX6_addCaller_28 : decode cX6_addCaller 28 = .ok (.ldc 167, 2) := by decide +kernel
theorem dX6_addCaller_30 : decode cX6_addCaller 30 = .ok (.invokespecial 67, 3) := by decide +kernel
theorem dX6_addCaller_33 : decode cX6_addCaller 33 = .ok (.athrow, 1) := by decide +kernel
theorem dX6_addCaller_34 : decode cX6_addCaller 34 = .ok (.aload_n 0, 1) := by decide +kernel
theorem dX6_addCaller_35 : decode cX6_addCaller 35 = .ok (.getfield 23, 3) := by decide +kernel
theorem dX6_addCaller_38 : decode cX6_addCaller 38 = .ok (.iload_n 3, 1) := by decide +kernel
theorem dX6_addCaller_39 : decode cX6_addCaller 39 = .ok (.new 21, 3) := by decide +kernel
theorem dX6_addCaller_42 : decode cX6_addCaller 42 = .ok (.dup, 1) := by decide +kernel
theorem dX6_addCaller_43 : decode cX6_addCaller 43 = .ok (.iload_n 3, 1) := by decide +kernel
theorem dX6_addCaller_44 : decode cX6_addCaller 44 = .ok (.aload_n 2, 1) := by decide +kernel
theorem dX6_addCaller_45 : decode cX6_addCaller 45 = .ok (.invokespecial 169, 3) := by decide +kernel
theorem dX6_addCaller_48 : decode cX6_addCaller 48 = .ok (.aastore, 1) := by decide +kernel
theorem dX6_addCaller_49 : decode cX6_addCaller 49 = .ok (.aload_n 0, 1) := by decide +kernel
theorem dX6_addCaller_50 : decode cX6_addCaller 50 = .ok (.dup, 1) := by decide +kernel
theorem dX6_addCaller_51 : decode cX6_addCaller 51 = .ok (.getfield 164, 3) := by decide +kernel
theorem dX6_addCaller_54 : decode cX6_addCaller 54 = .ok (.iconst 1, 1) := by decide +kernel
theorem dX6_addCaller_55 : decode cX6_addCaller 55 = .ok (.iadd, 1) := by decide +kernel
theorem dX6_addCaller_56 : decode cX6_addCaller 56 = .ok (.putfield 164, 3) := by decide +kernel
theorem dX6_addCaller_59 : decode cX6_addCaller 59 = .ok (.iload_n 3, 1) := by decide +kernel
theorem dX6_addCaller_60 : decode cX6_addCaller 60 = .ok (.ireturn, 1) := by decide +kernel
set_option maxRecDepth 20000 in
theorem ggX6_setPlan_X6_existingCaller : GoodIn wsX6_setPlan wsX6_existingCaller := goodIn_ca (goodIn_r _ [5, 6, 7, 8, 24, 25, 26, 27, 28, 29, 30, 31] (by decide +kernel) (by decide +kernel)) (goodIn_sub (fun _ h => List.mem_cons_of_mem _ (List.mem_append_right _ h)) (by decide +kernel))
set_option maxRecDepth 20000 in
theorem gX6_setPlan_X6_existingCaller : GoodIn wsX6_setPlan (wsV RX6 172 RX6 yX6_existingCaller wsX6_existingCaller) := goodIn_app (goodIn_of _ (by decide +kernel)) ggX6_setPlan_X6_existingCaller
set_option maxRecDepth 20000 in
theorem ggX6_setPlan_X6_existingPlan : GoodIn wsX6_setPlan wsX6_existingPlan := goodIn_ca (goodIn_r _ [12, 6, 7, 13, 24, 25, 26, 27, 28, 29, 30, 31] (by decide +kernel) (by decide +kernel)) (goodIn_sub (fun _ h => List.mem_cons_of_mem _ (List.mem_append_right _ h)) (by decide +kernel))
set_option maxRecDepth 20000 in
theorem gX6_setPlan_X6_existingPlan : GoodIn wsX6_setPlan (wsV RX6 160 RX6 yX6_existingPlan wsX6_existingPlan) := goodIn_app (goodIn_of _ (by decide +kernel)) ggX6_setPlan_X6_existingPlan
set_option maxRecDepth 20000 in
theorem ggX6_setPlan_X1_changePlan : GoodIn wsX6_setPlan wsX1_changePlan := goodIn_r _ [17, 18, 19, 20, 21, 22, 23, 32, 33, 34, 35, 36, 37, 38] (by decide +kernel) (by decide +kernel)
set_option maxRecDepth 20000 in
theorem gX6_setPlan_X1_changePlan_n176 : GoodIn wsX6_setPlan (wsX1_changePlan) := ggX6_setPlan_X1_changePlan
theorem dX6_setPlan_0 : decode cX6_setPlan 0 = .ok (.aload_n 0, 1) := by decide +kernel
theorem dX6_setPlan_1 : decode cX6_setPlan 1 = .ok (.iload_n 1, 1) := by decide +kernel
theorem dX6_setPlan_2 : decode cX6_setPlan 2 = .ok (.invokevirtual 172, 3) := by decide +kernel
theorem dX6_setPlan_5 : decode cX6_setPlan 5 = .ok (.astore_n 3, 1) := by decide +kernel
theorem dX6_setPlan_6 : decode cX6_setPlan 6 = .ok (.aload_n 3, 1) := by decide +kernel
theorem dX6_setPlan_7 : decode cX6_setPlan 7 = .ok (.aload_n 0, 1) := by decide +kernel
theorem dX6_setPlan_8 : decode cX6_setPlan 8 = .ok (.iload_n 2, 1) := by decide +kernel
theorem dX6_setPlan_9 : decode cX6_setPlan 9 = .ok (.invokevirtual 160, 3) := by decide +kernel
theorem dX6_setPlan_12 : decode cX6_setPlan 12 = .ok (.invokevirtual 176, 3) := by decide +kernel
theorem dX6_setPlan_15 : decode cX6_setPlan 15 = .ok (.ireturn, 1) := by decide +kernel
set_option maxRecDepth 20000 in
theorem ggX6_tokens_X6_existingCaller : GoodIn wsX6_tokens wsX6_existingCaller := goodIn_ca (goodIn_r _ [5, 6, 7, 8, 13, 14, 15, 16, 17, 18, 19, 20] (by decide +kernel) (by decide +kernel)) (goodIn_sub (fun _ h => List.mem_cons_of_mem _ (List.mem_append_right _ h)) (by decide +kernel))
set_option maxRecDepth 20000 in
theorem gX6_tokens_X6_existingCaller : GoodIn wsX6_tokens (wsV RX6 172 RX6 yX6_existingCaller wsX6_existingCaller) := goodIn_app (goodIn_of _ (by decide +kernel)) ggX6_tokens_X6_existingCaller
theorem dX6_tokens_0 : decode cX6_tokens 0 = .ok (.aload_n 0, 1) := by decide +kernel
theorem dX6_tokens_1 : decode cX6_tokens 1 = .ok (.iload_n 1, 1) := by decide +kernel
theorem dX6_tokens_2 : decode cX6_tokens 2 = .ok (.invokevirtual 172, 3) := by decide +kernel
theorem dX6_tokens_5 : decode cX6_tokens 5 = .ok (.getfield 180, 3) := by decide +kernel
theorem dX6_tokens_8 : decode cX6_tokens 8 = .ok (.ireturn, 1) := by decide +kernel
set_option maxRecDepth 20000 in
theorem ggX6_ticksUntil_X6_existingCaller : GoodIn wsX6_ticksUntil wsX6_existingCaller := goodIn_ca (goodIn_r _ [7, 8, 9, 10, 36, 37, 38, 39, 40, 41, 42, 43] (by decide +kernel) (by decide +kernel)) (goodIn_sub (fun _ h => List.mem_cons_of_mem _ (List.mem_append_right _ h)) (by decide +kernel))
set_option maxRecDepth 20000 in
theorem gX6_ticksUntil_X6_existingCaller : GoodIn wsX6_ticksUntil (wsV RX6 172 RX6 yX6_existingCaller wsX6_existingCaller) := goodIn_app (goodIn_of _ (by decide +kernel)) ggX6_ticksUntil_X6_existingCaller
set_option maxRecDepth 20000 in
theorem ggX6_ticksUntil_X6_existingRoute : GoodIn wsX6_ticksUntil wsX6_existingRoute := goodIn_ca (goodIn_r _ [14, 8, 9, 15, 36, 37, 38, 39, 40, 41, 42, 43] (by decide +kernel) (by decide +kernel)) (goodIn_sub (fun _ h => List.mem_cons_of_mem _ (List.mem_append_right _ h)) (by decide +kernel))
set_option maxRecDepth 20000 in
theorem gX6_ticksUntil_X6_existingRoute : GoodIn wsX6_ticksUntil (wsV RX6 85 RX6 yX6_existingRoute wsX6_existingRoute) := goodIn_app (goodIn_of _ (by decide +kernel)) ggX6_ticksUntil_X6_existingRoute
set_option maxRecDepth 20000 in
theorem ggX6_ticksUntil_X1_ticksUntilItHas : GoodIn wsX6_ticksUntil wsX1_ticksUntilItHas := goodIn_r _ [19, 20, 21, 29, 30, 31, 32, 33, 34, 35] (by decide +kernel) (by decide +kernel)
set_option maxRecDepth 20000 in
theorem gX6_ticksUntil_X1_ticksUntilItHas_n195 : GoodIn wsX6_ticksUntil (wsX1_ticksUntilItHas) := ggX6_ticksUntil_X1_ticksUntilItHas
theorem dX6_ticksUntil_0 : decode cX6_ticksUntil 0 = .ok (.aload_n 0, 1) := by decide +kernel
theorem dX6_ticksUntil_1 : decode cX6_ticksUntil 1 = .ok (.iload_n 1, 1) := by decide +kernel
theorem dX6_ticksUntil_2 : decode cX6_ticksUntil 2 = .ok (.invokevirtual 172, 3) := by decide +kernel
theorem dX6_ticksUntil_5 : decode cX6_ticksUntil 5 = .ok (.astore_n 3, 1) := by decide +kernel
theorem dX6_ticksUntil_6 : decode cX6_ticksUntil 6 = .ok (.aload_n 0, 1) := by decide +kernel
theorem dX6_ticksUntil_7 : decode cX6_ticksUntil 7 = .ok (.iload_n 2, 1) := by decide +kernel
theorem dX6_ticksUntil_8 : decode cX6_ticksUntil 8 = .ok (.invokevirtual 85, 3) := by decide +kernel
theorem dX6_ticksUntil_11 : decode cX6_ticksUntil 11 = .ok (.astore 4, 2) := by decide +kernel
theorem dX6_ticksUntil_13 : decode cX6_ticksUntil 13 = .ok (.aload 4, 2) := by decide +kernel
theorem dX6_ticksUntil_15 : decode cX6_ticksUntil 15 = .ok (.getfield 183, 3) := by decide +kernel
theorem dX6_ticksUntil_18 : decode cX6_ticksUntil 18 = .ok (.aload_n 3, 1) := by decide +kernel
theorem dX6_ticksUntil_19 : decode cX6_ticksUntil 19 = .ok (.getfield 186, 3) := by decide +kernel
theorem dX6_ticksUntil_22 : decode cX6_ticksUntil 22 = .ok (.getfield 190, 3) := by decide +kernel
theorem dX6_ticksUntil_25 : decode cX6_ticksUntil 25 = .ok (.if_icmp .le 13, 3) := by decide +kernel
theorem dX6_ticksUntil_28 : decode cX6_ticksUntil 28 = .ok (.new 144, 3) := by decide +kernel
theorem dX6_ticksUntil_31 : decode cX6_ticksUntil 31 = .ok (.dup, 1) := by decide +kernel
theorem dX6_ticksUntil_32 : decode cX6_ticksUntil 32 = .ok (.ldc 193, 2) := by decide +kernel
theorem dX6_ticksUntil_34 : decode cX6_ticksUntil 34 = .ok (.invokespecial 148, 3) := by decide +kernel
theorem dX6_ticksUntil_37 : decode cX6_ticksUntil 37 = .ok (.athrow, 1) := by decide +kernel
theorem dX6_ticksUntil_38 : decode cX6_ticksUntil 38 = .ok (.aload_n 3, 1) := by decide +kernel
theorem dX6_ticksUntil_39 : decode cX6_ticksUntil 39 = .ok (.aload 4, 2) := by decide +kernel
theorem dX6_ticksUntil_41 : decode cX6_ticksUntil 41 = .ok (.getfield 183, 3) := by decide +kernel
theorem dX6_ticksUntil_44 : decode cX6_ticksUntil 44 = .ok (.invokevirtual 195, 3) := by decide +kernel
theorem dX6_ticksUntil_47 : decode cX6_ticksUntil 47 = .ok (.ireturn, 1) := by decide +kernel
set_option maxRecDepth 20000 in
theorem ggX6_bill_X6_existingCaller : GoodIn wsX6_bill wsX6_existingCaller := goodIn_ca (goodIn_r _ [5, 6, 7, 8, 13, 14, 15, 16, 17, 18, 19, 20] (by decide +kernel) (by decide +kernel)) (goodIn_sub (fun _ h => List.mem_cons_of_mem _ (List.mem_append_right _ h)) (by decide +kernel))
set_option maxRecDepth 20000 in
theorem gX6_bill_X6_existingCaller : GoodIn wsX6_bill (wsV RX6 172 RX6 yX6_existingCaller wsX6_existingCaller) := goodIn_app (goodIn_of _ (by decide +kernel)) ggX6_bill_X6_existingCaller
theorem dX6_bill_0 : decode cX6_bill 0 = .ok (.aload_n 0, 1) := by decide +kernel
theorem dX6_bill_1 : decode cX6_bill 1 = .ok (.iload_n 1, 1) := by decide +kernel
theorem dX6_bill_2 : decode cX6_bill 2 = .ok (.invokevirtual 172, 3) := by decide +kernel
theorem dX6_bill_5 : decode cX6_bill 5 = .ok (.getfield 199, 3) := by decide +kernel
theorem dX6_bill_8 : decode cX6_bill 8 = .ok (.lreturn, 1) := by decide +kernel
set_option maxRecDepth 20000 in
theorem ggX6_billByLog_X6_existingCaller : GoodIn wsX6_billByLog wsX6_existingCaller := goodIn_ca (goodIn_r _ [6, 7, 8, 9, 20, 21, 22, 23, 24, 25, 26, 27] (by decide +kernel) (by decide +kernel)) (goodIn_sub (fun _ h => List.mem_cons_of_mem _ (List.mem_append_right _ h)) (by decide +kernel))
set_option maxRecDepth 20000 in
theorem gX6_billByLog_X6_existingCaller : GoodIn wsX6_billByLog (wsV RX6 172 RX6 yX6_existingCaller wsX6_existingCaller) := goodIn_app (goodIn_of _ (by decide +kernel)) ggX6_billByLog_X6_existingCaller
set_option maxRecDepth 20000 in
theorem ggX6_billByLog_X0_billOf : GoodIn wsX6_billByLog wsX0_billOf := goodIn_r _ [13, 14, 15, 16, 17, 11, 18, 19, 32, 33, 34, 35, 36, 37, 38, 39, 28, 29, 30, 31] (by decide +kernel) (by decide +kernel)
set_option maxRecDepth 20000 in
theorem gX6_billByLog_X0_billOf_n206 : GoodIn wsX6_billByLog (wsX0_billOf) := ggX6_billByLog_X0_billOf
theorem dX6_billByLog_0 : decode cX6_billByLog 0 = .ok (.aload_n 0, 1) := by decide +kernel
theorem dX6_billByLog_1 : decode cX6_billByLog 1 = .ok (.getfield 30, 3) := by decide +kernel
theorem dX6_billByLog_4 : decode cX6_billByLog 4 = .ok (.aload_n 0, 1) := by decide +kernel
theorem dX6_billByLog_5 : decode cX6_billByLog 5 = .ok (.iload_n 1, 1) := by decide +kernel
theorem dX6_billByLog_6 : decode cX6_billByLog 6 = .ok (.invokevirtual 172, 3) := by decide +kernel
theorem dX6_billByLog_9 : decode cX6_billByLog 9 = .ok (.getfield 203, 3) := by decide +kernel
theorem dX6_billByLog_12 : decode cX6_billByLog 12 = .ok (.invokevirtual 206, 3) := by decide +kernel
theorem dX6_billByLog_15 : decode cX6_billByLog 15 = .ok (.lreturn, 1) := by decide +kernel
set_option maxRecDepth 20000 in
theorem ggX6_call_X6_existingCaller : GoodIn wsX6_call wsX6_existingCaller := goodIn_ca (goodIn_r _ [8, 9, 10, 11, 88, 89, 90, 91, 92, 93, 94, 95] (by decide +kernel) (by decide +kernel)) (goodIn_sub (fun _ h => List.mem_cons_of_mem _ (List.mem_append_right _ h)) (by decide +kernel))
set_option maxRecDepth 20000 in
theorem gX6_call_X6_existingCaller : GoodIn wsX6_call (wsV RX6 172 RX6 yX6_existingCaller wsX6_existingCaller) := goodIn_app (goodIn_of _ (by decide +kernel)) ggX6_call_X6_existingCaller
set_option maxRecDepth 20000 in
theorem ggX6_call_X6_isPath : GoodIn wsX6_call wsX6_isPath := goodIn_r _ [14, 15, 16, 7, 17] (by decide +kernel) (by decide +kernel)
set_option maxRecDepth 20000 in
theorem gX6_call_X6_isPath : GoodIn wsX6_call (va_wsS RX6 34 yX6_isPath wsX6_isPath) := goodIn_app (goodIn_of _ (by decide +kernel)) ggX6_call_X6_isPath
set_option maxRecDepth 20000 in
theorem ggX6_call_X6_isWithin : GoodIn wsX6_call wsX6_isWithin := goodIn_r _ [17] (by decide +kernel) (by decide +kernel)
set_option maxRecDepth 20000 in
theorem gX6_call_X6_isWithin : GoodIn wsX6_call (va_wsS RX6 38 yX6_isWithin wsX6_isWithin) := goodIn_app (goodIn_of _ (by decide +kernel)) ggX6_call_X6_isWithin
set_option maxRecDepth 20000 in
theorem ggX6_call_X0_isFull : GoodIn wsX6_call wsX0_isFull := goodIn_r _ [21, 22, 23, 96, 97] (by decide +kernel) (by decide +kernel)
set_option maxRecDepth 20000 in
theorem gX6_call_X0_isFull_n212 : GoodIn wsX6_call (wsX0_isFull) := ggX6_call_X0_isFull
set_option maxRecDepth 20000 in
theorem ggX6_call_X6_routeByTakingOff : GoodIn wsX6_call wsX6_routeByTakingOff := goodIn_r _ [27, 28, 29, 30, 7, 31, 32, 88, 89, 90, 91, 92, 93, 94, 95, 98, 99, 100, 101, 102, 103, 104] (by decide +kernel) (by decide +kernel)
set_option maxRecDepth 20000 in
theorem gX6_call_X6_routeByTakingOff : GoodIn wsX6_call (wsV RX6 75 RX6 yX6_routeByTakingOff wsX6_routeByTakingOff) := goodIn_app (goodIn_of _ (by decide +kernel)) ggX6_call_X6_routeByTakingOff
set_option maxRecDepth 20000 in
theorem ggX6_call_X6_answerCall : GoodIn wsX6_call wsX6_answerCall := goodIn_r _ [36, 37, 38, 39, 7, 40, 3, 41, 42, 43, 44, 45, 46, 47, 48, 49, 50, 51, 52, 53, 54, 19, 55, 56, 22, 23, 57, 58, 59, 60, 61, 62, 63, 64, 65, 66, 67, 68, 69, 70, 71, 72, 73, 74, 75, 76, 77, 78, 79, 80, 81, 82, 83, 84, 85, 86, 87, 105, 106, 107, 108, 98, 99, 100, 101, 102, 103, 104, 109, 110, 111, 112, 113, 114, 115, 116, 88, 89, 90, 91, 92, 93, 94, 95, 117, 118, 119, 120, 121, 122, 96, 97] (by decide +kernel) (by decide +kernel)
set_option maxRecDepth 20000 in
theorem gX6_call_X6_answerCall : GoodIn wsX6_call (wsV RX6 216 RX6 yX6_answerCall wsX6_answerCall) := goodIn_app (goodIn_of _ (by decide +kernel)) ggX6_call_X6_answerCall
theorem dX6_call_0 : decode cX6_call 0 = .ok (.aload_n 0, 1) := by decide +kernel
theorem dX6_call_1 : decode cX6_call 1 = .ok (.iload_n 1, 1) := by decide +kernel
theorem dX6_call_2 : decode cX6_call 2 = .ok (.invokevirtual 172, 3) := by decide +kernel
theorem dX6_call_5 : decode cX6_call 5 = .ok (.astore 4, 2) := by decide +kernel
theorem dX6_call_7 : decode cX6_call 7 = .ok (.iload_n 2, 1) := by decide +kernel
theorem dX6_call_8 : decode cX6_call 8 = .ok (.invokestatic 34, 3) := by decide +kernel
theorem dX6_call_11 : decode cX6_call 11 = .ok (.ifCond .eq 13, 3) := by decide +kernel
theorem dX6_call_14 : decode cX6_call 14 = .ok (.iload_n 3, 1) := by decide +kernel
theorem dX6_call_15 : decode cX6_call 15 = .ok (.iconst 0, 1) := by decide +kernel
theorem dX6_call_16 : decode cX6_call 16 = .ok (.bipush 99, 2) := by decide +kernel
theorem dX6_call_18 : decode cX6_call 18 = .ok (.invokestatic 38, 3) := by decide +kernel
theorem dX6_call_21 : decode cX6_call 21 = .ok (.ifCond .ne 13, 3) := by decide +kernel
theorem dX6_call_24 : decode cX6_call 24 = .ok (.new 46, 3) := by decide +kernel
theorem dX6_call_27 : decode cX6_call 27 = .ok (.dup, 1) := by decide +kernel
theorem dX6_call_28 : decode cX6_call 28 = .ok (.ldc 210, 2) := by decide +kernel
theorem dX6_call_30 : decode cX6_call 30 = .ok (.invokespecial 50, 3) := by decide +kernel
theorem dX6_call_33 : decode cX6_call 33 = .ok (.athrow, 1) := by decide +kernel
theorem dX6_call_34 : decode cX6_call 34 = .ok (.aload_n 0, 1) := by decide +kernel
theorem dX6_call_35 : decode cX6_call 35 = .ok (.getfield 30, 3) := by decide +kernel
theorem dX6_call_38 : decode cX6_call 38 = .ok (.invokevirtual 212, 3) := by decide +kernel
theorem dX6_call_41 : decode cX6_call 41 = .ok (.ifCond .eq 6, 3) := by decide +kernel
theorem dX6_call_44 : decode cX6_call 44 = .ok (.bipush 110, 2) := by decide +kernel
theorem dX6_call_46 : decode cX6_call 46 = .ok (.ireturn, 1) := by decide +kernel
theorem dX6_call_47 : decode cX6_call 47 = .ok (.aload_n 0, 1) := by decide +kernel
theorem dX6_call_48 : decode cX6_call 48 = .ok (.aload 4, 2) := by decide +kernel
theorem dX6_call_50 : decode cX6_call 50 = .ok (.aload_n 0, 1) := by decide +kernel
theorem dX6_call_51 : decode cX6_call 51 = .ok (.iload_n 2, 1) := by decide +kernel
theorem dX6_call_52 : decode cX6_call 52 = .ok (.invokevirtual 75, 3) := by decide +kernel
theorem dX6_call_55 : decode cX6_call 55 = .ok (.iload_n 3, 1) := by decide +kernel
theorem dX6_call_56 : decode cX6_call 56 = .ok (.invokevirtual 216, 3) := by decide +kernel
theorem dX6_call_59 : decode cX6_call 59 = .ok (.ireturn, 1) := by decide +kernel
set_option maxRecDepth 20000 in
theorem ggX6_pass_X6_isWithin : GoodIn wsX6_pass wsX6_isWithin := goodIn_r _ [7] (by decide +kernel) (by decide +kernel)
set_option maxRecDepth 20000 in
theorem gX6_pass_X6_isWithin : GoodIn wsX6_pass (va_wsS RX6 38 yX6_isWithin wsX6_isWithin) := goodIn_app (goodIn_of _ (by decide +kernel)) ggX6_pass_X6_isWithin
set_option maxRecDepth 20000 in
theorem ggX6_pass_X1_gain : GoodIn wsX6_pass wsX1_gain := goodIn_r _ [11, 12, 13, 14, 15, 16, 17, 26, 27, 28, 29, 30, 31, 32] (by decide +kernel) (by decide +kernel)
set_option maxRecDepth 20000 in
theorem gX6_pass_X1_gain_n225 : GoodIn wsX6_pass (wsX1_gain) := ggX6_pass_X1_gain
theorem dX6_pass_0 : decode cX6_pass 0 = .ok (.iload_n 1, 1) := by decide +kernel
theorem dX6_pass_1 : decode cX6_pass 1 = .ok (.iconst 1, 1) := by decide +kernel
theorem dX6_pass_2 : decode cX6_pass 2 = .ok (.bipush 100, 2) := by decide +kernel
theorem dX6_pass_4 : decode cX6_pass 4 = .ok (.invokestatic 38, 3) := by decide +kernel
theorem dX6_pass_7 : decode cX6_pass 7 = .ok (.ifCond .ne 13, 3) := by decide +kernel
theorem dX6_pass_10 : decode cX6_pass 10 = .ok (.new 46, 3) := by decide +kernel
theorem dX6_pass_13 : decode cX6_pass 13 = .ok (.dup, 1) := by decide +kernel
theorem dX6_pass_14 : decode cX6_pass 14 = .ok (.ldc 220, 2) := by decide +kernel
theorem dX6_pass_16 : decode cX6_pass 16 = .ok (.invokespecial 50, 3) := by decide +kernel
theorem dX6_pass_19 : decode cX6_pass 19 = .ok (.athrow, 1) := by decide +kernel
theorem dX6_pass_20 : decode cX6_pass 20 = .ok (.iconst 0, 1) := by decide +kernel
theorem dX6_pass_21 : decode cX6_pass 21 = .ok (.istore_n 2, 1) := by decide +kernel
theorem dX6_pass_22 : decode cX6_pass 22 = .ok (.aload_n 0, 1) := by decide +kernel
theorem dX6_pass_23 : decode cX6_pass 23 = .ok (.getfield 23, 3) := by decide +kernel
theorem dX6_pass_26 : decode cX6_pass 26 = .ok (.astore_n 3, 1) := by decide +kernel
theorem dX6_pass_27 : decode cX6_pass 27 = .ok (.aload_n 3, 1) := by decide +kernel
theorem dX6_pass_28 : decode cX6_pass 28 = .ok (.arraylength, 1) := by decide +kernel
theorem dX6_pass_29 : decode cX6_pass 29 = .ok (.istore 4, 2) := by decide +kernel
theorem dX6_pass_31 : decode cX6_pass 31 = .ok (.iconst 0, 1) := by decide +kernel
theorem dX6_pass_32 : decode cX6_pass 32 = .ok (.istore 5, 2) := by decide +kernel
theorem dX6_pass_34 : decode cX6_pass 34 = .ok (.iload 5, 2) := by decide +kernel
theorem dX6_pass_36 : decode cX6_pass 36 = .ok (.iload 4, 2) := by decide +kernel
theorem dX6_pass_38 : decode cX6_pass 38 = .ok (.if_icmp .ge 38, 3) := by decide +kernel
theorem dX6_pass_41 : decode cX6_pass 41 = .ok (.aload_n 3, 1) := by decide +kernel
theorem dX6_pass_42 : decode cX6_pass 42 = .ok (.iload 5, 2) := by decide +kernel
theorem dX6_pass_44 : decode cX6_pass 44 = .ok (.aaload, 1) := by decide +kernel
theorem dX6_pass_45 : decode cX6_pass 45 = .ok (.astore 6, 2) := by decide +kernel
theorem dX6_pass_47 : decode cX6_pass 47 = .ok (.aload 6, 2) := by decide +kernel
theorem dX6_pass_49 : decode cX6_pass 49 = .ok (.ifnull 21, 3) := by decide +kernel
theorem dX6_pass_52 : decode cX6_pass 52 = .ok (.iload_n 2, 1) := by decide +kernel
theorem dX6_pass_53 : decode cX6_pass 53 = .ok (.aload 6, 2) := by decide +kernel
theorem dX6_pass_55 : decode cX6_pass 55 = .ok (.aload 6, 2) := by decide +kernel
theorem dX6_pass_57 : decode cX6_pass 57 = .ok (.getfield 186, 3) := by decide +kernel
theorem dX6_pass_60 : decode cX6_pass 60 = .ok (.getfield 222, 3) := by decide +kernel
theorem dX6_pass_63 : decode cX6_pass 63 = .ok (.iload_n 1, 1) := by decide +kernel
theorem dX6_pass_64 : decode cX6_pass 64 = .ok (.imul, 1) := by decide +kernel
theorem dX6_pass_65 : decode cX6_pass 65 = .ok (.invokevirtual 225, 3) := by decide +kernel
theorem dX6_pass_68 : decode cX6_pass 68 = .ok (.iadd, 1) := by decide +kernel
theorem dX6_pass_69 : decode cX6_pass 69 = .ok (.istore_n 2, 1) := by decide +kernel
theorem dX6_pass_70 : decode cX6_pass 70 = .ok (.iinc 5 1, 3) := by decide +kernel
theorem dX6_pass_73 : decode cX6_pass 73 = .ok (.goto (-39), 3) := by decide +kernel
theorem dX6_pass_76 : decode cX6_pass 76 = .ok (.iload_n 2, 1) := by decide +kernel
theorem dX6_pass_77 : decode cX6_pass 77 = .ok (.ireturn, 1) := by decide +kernel
theorem dX6_calls_0 : decode cX6_calls 0 = .ok (.aload_n 0, 1) := by decide +kernel
theorem dX6_calls_1 : decode cX6_calls 1 = .ok (.getfield 30, 3) := by decide +kernel
theorem dX6_calls_4 : decode cX6_calls 4 = .ok (.getfield 228, 3) := by decide +kernel
theorem dX6_calls_7 : decode cX6_calls 7 = .ok (.ireturn, 1) := by decide +kernel
set_option maxRecDepth 20000 in
theorem ggX6_count_X6_existingCaller : GoodIn wsX6_count wsX6_existingCaller := goodIn_ca (goodIn_r _ [8, 9, 10, 11, 25, 26, 27, 28, 29, 30, 31, 32] (by decide +kernel) (by decide +kernel)) (goodIn_sub (fun _ h => List.mem_cons_of_mem _ (List.mem_append_right _ h)) (by decide +kernel))
set_option maxRecDepth 20000 in
theorem gX6_count_X6_existingCaller : GoodIn wsX6_count (wsV RX6 172 RX6 yX6_existingCaller wsX6_existingCaller) := goodIn_app (goodIn_of _ (by decide +kernel)) ggX6_count_X6_existingCaller
set_option maxRecDepth 20000 in
theorem ggX6_count_X6_isKind : GoodIn wsX6_count wsX6_isKind := goodIn_r _ [14] (by decide +kernel) (by decide +kernel)
set_option maxRecDepth 20000 in
theorem gX6_count_X6_isKind : GoodIn wsX6_count (va_wsS RX6 231 yX6_isKind wsX6_isKind) := goodIn_app (goodIn_of _ (by decide +kernel)) ggX6_count_X6_isKind
set_option maxRecDepth 20000 in
theorem ggX6_count_X0_numberOf : GoodIn wsX6_count wsX0_numberOf := goodIn_r _ [18, 19, 20, 21, 22, 16, 23, 24, 37, 38, 39, 40, 41, 42, 43, 44, 33, 34, 35, 36] (by decide +kernel) (by decide +kernel)
set_option maxRecDepth 20000 in
theorem gX6_count_X0_numberOf_n237 : GoodIn wsX6_count (wsX0_numberOf) := ggX6_count_X0_numberOf
theorem dX6_count_0 : decode cX6_count 0 = .ok (.aload_n 0, 1) := by decide +kernel
theorem dX6_count_1 : decode cX6_count 1 = .ok (.iload_n 1, 1) := by decide +kernel
theorem dX6_count_2 : decode cX6_count 2 = .ok (.invokevirtual 172, 3) := by decide +kernel
theorem dX6_count_5 : decode cX6_count 5 = .ok (.astore_n 3, 1) := by decide +kernel
theorem dX6_count_6 : decode cX6_count 6 = .ok (.iload_n 2, 1) := by decide +kernel
theorem dX6_count_7 : decode cX6_count 7 = .ok (.invokestatic 231, 3) := by decide +kernel
theorem dX6_count_10 : decode cX6_count 10 = .ok (.ifCond .ne 13, 3) := by decide +kernel
theorem dX6_count_13 : decode cX6_count 13 = .ok (.new 46, 3) := by decide +kernel
theorem dX6_count_16 : decode cX6_count 16 = .ok (.dup, 1) := by decide +kernel
theorem dX6_count_17 : decode cX6_count 17 = .ok (.ldc 235, 2) := by decide +kernel
theorem dX6_count_19 : decode cX6_count 19 = .ok (.invokespecial 50, 3) := by decide +kernel
theorem dX6_count_22 : decode cX6_count 22 = .ok (.athrow, 1) := by decide +kernel
theorem dX6_count_23 : decode cX6_count 23 = .ok (.aload_n 0, 1) := by decide +kernel
theorem dX6_count_24 : decode cX6_count 24 = .ok (.getfield 30, 3) := by decide +kernel
theorem dX6_count_27 : decode cX6_count 27 = .ok (.aload_n 3, 1) := by decide +kernel
theorem dX6_count_28 : decode cX6_count 28 = .ok (.getfield 203, 3) := by decide +kernel
theorem dX6_count_31 : decode cX6_count 31 = .ok (.iload_n 2, 1) := by decide +kernel
theorem dX6_count_32 : decode cX6_count 32 = .ok (.invokevirtual 237, 3) := by decide +kernel
theorem dX6_count_35 : decode cX6_count 35 = .ok (.ireturn, 1) := by decide +kernel
set_option maxRecDepth 20000 in
theorem ggX6_isUndone_X0_entryAt : GoodIn wsX6_isUndone wsX0_entryAt := goodIn_r _ [7, 8, 23, 24] (by decide +kernel) (by decide +kernel)
set_option maxRecDepth 20000 in
theorem gX6_isUndone_X0_entryAt_n241 : GoodIn wsX6_isUndone (wsX0_entryAt) := ggX6_isUndone_X0_entryAt
theorem dX6_isUndone_0 : decode cX6_isUndone 0 = .ok (.aload_n 0, 1) := by decide +kernel
theorem dX6_isUndone_1 : decode cX6_isUndone 1 = .ok (.getfield 30, 3) := by decide +kernel
theorem dX6_isUndone_4 : decode cX6_isUndone 4 = .ok (.iload_n 1, 1) := by decide +kernel
theorem dX6_isUndone_5 : decode cX6_isUndone 5 = .ok (.invokevirtual 241, 3) := by decide +kernel
theorem dX6_isUndone_8 : decode cX6_isUndone 8 = .ok (.astore_n 2, 1) := by decide +kernel
theorem dX6_isUndone_9 : decode cX6_isUndone 9 = .ok (.aload_n 2, 1) := by decide +kernel
theorem dX6_isUndone_10 : decode cX6_isUndone 10 = .ok (.ifnonnull 13, 3) := by decide +kernel
theorem dX6_isUndone_13 : decode cX6_isUndone 13 = .ok (.new 245, 3) := by decide +kernel
theorem dX6_isUndone_16 : decode cX6_isUndone 16 = .ok (.dup, 1) := by decide +kernel
theorem dX6_isUndone_17 : decode cX6_isUndone 17 = .ok (.ldc 247, 2) := by decide +kernel
theorem dX6_isUndone_19 : decode cX6_isUndone 19 = .ok (.invokespecial 249, 3) := by decide +kernel
theorem dX6_isUndone_22 : decode cX6_isUndone 22 = .ok (.athrow, 1) := by decide +kernel
theorem dX6_isUndone_23 : decode cX6_isUndone 23 = .ok (.aload_n 2, 1) := by decide +kernel
theorem dX6_isUndone_24 : decode cX6_isUndone 24 = .ok (.getfield 250, 3) := by decide +kernel
theorem dX6_isUndone_27 : decode cX6_isUndone 27 = .ok (.ireturn, 1) := by decide +kernel
theorem dX6_greatest_0 : decode cX6_greatest 0 = .ok (.aconst_null, 1) := by decide +kernel
theorem dX6_greatest_1 : decode cX6_greatest 1 = .ok (.astore_n 1, 1) := by decide +kernel
theorem dX6_greatest_2 : decode cX6_greatest 2 = .ok (.aload_n 0, 1) := by decide +kernel
theorem dX6_greatest_3 : decode cX6_greatest 3 = .ok (.getfield 23, 3) := by decide +kernel
theorem dX6_greatest_6 : decode cX6_greatest 6 = .ok (.astore_n 2, 1) := by decide +kernel
theorem dX6_greatest_7 : decode cX6_greatest 7 = .ok (.aload_n 2, 1) := by decide +kernel
theorem dX6_greatest_8 : decode cX6_greatest 8 = .ok (.arraylength, 1) := by decide +kernel
theorem dX6_greatest_9 : decode cX6_greatest 9 = .ok (.istore_n 3, 1) := by decide +kernel
theorem dX6_greatest_10 : decode cX6_greatest 10 = .ok (.iconst 0, 1) := by decide +kernel
theorem dX6_greatest_11 : decode cX6_greatest 11 = .ok (.istore 4, 2) := by decide +kernel
theorem dX6_greatest_13 : decode cX6_greatest 13 = .ok (.iload 4, 2) := by decide +kernel
theorem dX6_greatest_15 : decode cX6_greatest 15 = .ok (.iload_n 3, 1) := by decide +kernel
theorem dX6_greatest_16 : decode cX6_greatest 16 = .ok (.if_icmp .ge 40, 3) := by decide +kernel
theorem dX6_greatest_19 : decode cX6_greatest 19 = .ok (.aload_n 2, 1) := by decide +kernel
theorem dX6_greatest_20 : decode cX6_greatest 20 = .ok (.iload 4, 2) := by decide +kernel
theorem dX6_greatest_22 : decode cX6_greatest 22 = .ok (.aaload, 1) := by decide +kernel
theorem dX6_greatest_23 : decode cX6_greatest 23 = .ok (.astore 5, 2) := by decide +kernel
theorem dX6_greatest_25 : decode cX6_greatest 25 = .ok (.aload 5, 2) := by decide +kernel
theorem dX6_greatest_27 : decode cX6_greatest 27 = .ok (.ifnull 23, 3) := by decide +kernel
theorem dX6_greatest_30 : decode cX6_greatest 30 = .ok (.aload_n 1, 1) := by decide +kernel
theorem dX6_greatest_31 : decode cX6_greatest 31 = .ok (.ifnull 16, 3) := by decide +kernel
theorem dX6_greatest_34 : decode cX6_greatest 34 = .ok (.aload 5, 2) := by decide +kernel
theorem dX6_greatest_36 : decode cX6_greatest 36 = .ok (.getfield 199, 3) := by decide +kernel
theorem dX6_greatest_39 : decode cX6_greatest 39 = .ok (.aload_n 1, 1) := by decide +kernel
theorem dX6_greatest_40 : decode cX6_greatest 40 = .ok (.getfield 199, 3) := by decide +kernel
theorem dX6_greatest_43 : decode cX6_greatest 43 = .ok (.lcmp, 1) := by decide +kernel
theorem dX6_greatest_44 : decode cX6_greatest 44 = .ok (.ifCond .le 6, 3) := by decide +kernel
theorem dX6_greatest_47 : decode cX6_greatest 47 = .ok (.aload 5, 2) := by decide +kernel
theorem dX6_greatest_49 : decode cX6_greatest 49 = .ok (.astore_n 1, 1) := by decide +kernel
theorem dX6_greatest_50 : decode cX6_greatest 50 = .ok (.iinc 4 1, 3) := by decide +kernel
theorem dX6_greatest_53 : decode cX6_greatest 53 = .ok (.goto (-40), 3) := by decide +kernel
theorem dX6_greatest_56 : decode cX6_greatest 56 = .ok (.aload_n 1, 1) := by decide +kernel
theorem dX6_greatest_57 : decode cX6_greatest 57 = .ok (.ifnonnull 14, 3) := by decide +kernel
theorem dX6_greatest_60 : decode cX6_greatest 60 = .ok (.new 144, 3) := by decide +kernel
theorem dX6_greatest_63 : decode cX6_greatest 63 = .ok (.dup, 1) := by decide +kernel
theorem dX6_greatest_64 : decode cX6_greatest 64 = .ok (.ldc_w 256, 3) := by decide +kernel
theorem dX6_greatest_67 : decode cX6_greatest 67 = .ok (.invokespecial 148, 3) := by decide +kernel
theorem dX6_greatest_70 : decode cX6_greatest 70 = .ok (.athrow, 1) := by decide +kernel
theorem dX6_greatest_71 : decode cX6_greatest 71 = .ok (.aload_n 1, 1) := by decide +kernel
theorem dX6_greatest_72 : decode cX6_greatest 72 = .ok (.getfield 203, 3) := by decide +kernel
theorem dX6_greatest_75 : decode cX6_greatest 75 = .ok (.ireturn, 1) := by decide +kernel
theorem dX6_isWithin_0 : decode cX6_isWithin 0 = .ok (.iload_n 0, 1) := by decide +kernel
theorem dX6_isWithin_1 : decode cX6_isWithin 1 = .ok (.iload_n 1, 1) := by decide +kernel
theorem dX6_isWithin_2 : decode cX6_isWithin 2 = .ok (.if_icmp .lt 12, 3) := by decide +kernel
theorem dX6_isWithin_5 : decode cX6_isWithin 5 = .ok (.iload_n 0, 1) := by decide +kernel
theorem dX6_isWithin_6 : decode cX6_isWithin 6 = .ok (.iload_n 2, 1) := by decide +kernel
theorem dX6_isWithin_7 : decode cX6_isWithin 7 = .ok (.if_icmp .gt 7, 3) := by decide +kernel
theorem dX6_isWithin_10 : decode cX6_isWithin 10 = .ok (.iconst 1, 1) := by decide +kernel
theorem dX6_isWithin_11 : decode cX6_isWithin 11 = .ok (.goto 4, 3) := by decide +kernel
theorem dX6_isWithin_14 : decode cX6_isWithin 14 = .ok (.iconst 0, 1) := by decide +kernel
theorem dX6_isWithin_15 : decode cX6_isWithin 15 = .ok (.ireturn, 1) := by decide +kernel
set_option maxRecDepth 20000 in
theorem ggX6_isAnswer_X6_isWithin : GoodIn wsX6_isAnswer wsX6_isWithin := goodIn_r _ [4] (by decide +kernel) (by decide +kernel)
set_option maxRecDepth 20000 in
theorem gX6_isAnswer_X6_isWithin : GoodIn wsX6_isAnswer (va_wsS RX6 38 yX6_isWithin wsX6_isWithin) := goodIn_app (goodIn_of _ (by decide +kernel)) ggX6_isAnswer_X6_isWithin
theorem dX6_isAnswer_0 : decode cX6_isAnswer 0 = .ok (.iload_n 0, 1) := by decide +kernel
theorem dX6_isAnswer_1 : decode cX6_isAnswer 1 = .ok (.iconst 0, 1) := by decide +kernel
theorem dX6_isAnswer_2 : decode cX6_isAnswer 2 = .ok (.sipush 999, 3) := by decide +kernel
theorem dX6_isAnswer_5 : decode cX6_isAnswer 5 = .ok (.invokestatic 38, 3) := by decide +kernel
theorem dX6_isAnswer_8 : decode cX6_isAnswer 8 = .ok (.ireturn, 1) := by decide +kernel
set_option maxRecDepth 20000 in
theorem ggX6_isShare_X6_isWithin : GoodIn wsX6_isShare wsX6_isWithin := goodIn_r _ [4] (by decide +kernel) (by decide +kernel)
set_option maxRecDepth 20000 in
theorem gX6_isShare_X6_isWithin : GoodIn wsX6_isShare (va_wsS RX6 38 yX6_isWithin wsX6_isWithin) := goodIn_app (goodIn_of _ (by decide +kernel)) ggX6_isShare_X6_isWithin
theorem dX6_isShare_0 : decode cX6_isShare 0 = .ok (.iload_n 0, 1) := by decide +kernel
theorem dX6_isShare_1 : decode cX6_isShare 1 = .ok (.iconst 1, 1) := by decide +kernel
theorem dX6_isShare_2 : decode cX6_isShare 2 = .ok (.bipush 100, 2) := by decide +kernel
theorem dX6_isShare_4 : decode cX6_isShare 4 = .ok (.invokestatic 38, 3) := by decide +kernel
theorem dX6_isShare_7 : decode cX6_isShare 7 = .ok (.ireturn, 1) := by decide +kernel
set_option maxRecDepth 20000 in
theorem ggX6_isContract_X6_isAnswer : GoodIn wsX6_isContract wsX6_isAnswer := goodIn_r _ [4, 5, 6, 3, 7] (by decide +kernel) (by decide +kernel)
set_option maxRecDepth 20000 in
theorem gX6_isContract_X6_isAnswer : GoodIn wsX6_isContract (va_wsS RX6 96 yX6_isAnswer wsX6_isAnswer) := goodIn_app (goodIn_of _ (by decide +kernel)) ggX6_isContract_X6_isAnswer
set_option maxRecDepth 20000 in
theorem ggX6_isContract_X6_isWithin : GoodIn wsX6_isContract wsX6_isWithin := goodIn_r _ [7] (by decide +kernel) (by decide +kernel)
set_option maxRecDepth 20000 in
theorem gX6_isContract_X6_isWithin : GoodIn wsX6_isContract (va_wsS RX6 38 yX6_isWithin wsX6_isWithin) := goodIn_app (goodIn_of _ (by decide +kernel)) ggX6_isContract_X6_isWithin
theorem dX6_isContract_0 : decode cX6_isContract 0 = .ok (.iload_n 0, 1) := by decide +kernel
theorem dX6_isContract_1 : decode cX6_isContract 1 = .ok (.invokestatic 96, 3) := by decide +kernel
theorem dX6_isContract_4 : decode cX6_isContract 4 = .ok (.ifCond .eq 18, 3) := by decide +kernel
theorem dX6_isContract_7 : decode cX6_isContract 7 = .ok (.iload_n 1, 1) := by decide +kernel
theorem dX6_isContract_8 : decode cX6_isContract 8 = .ok (.iload_n 0, 1) := by decide +kernel
theorem dX6_isContract_9 : decode cX6_isContract 9 = .ok (.sipush 999, 3) := by decide +kernel
theorem dX6_isContract_12 : decode cX6_isContract 12 = .ok (.invokestatic 38, 3) := by decide +kernel
theorem dX6_isContract_15 : decode cX6_isContract 15 = .ok (.ifCond .eq 7, 3) := by decide +kernel
theorem dX6_isContract_18 : decode cX6_isContract 18 = .ok (.iconst 1, 1) := by decide +kernel
theorem dX6_isContract_19 : decode cX6_isContract 19 = .ok (.goto 4, 3) := by decide +kernel
theorem dX6_isContract_22 : decode cX6_isContract 22 = .ok (.iconst 0, 1) := by decide +kernel
theorem dX6_isContract_23 : decode cX6_isContract 23 = .ok (.ireturn, 1) := by decide +kernel
theorem dX6_isKind_0 : decode cX6_isKind 0 = .ok (.iload_n 0, 1) := by decide +kernel
theorem dX6_isKind_1 : decode cX6_isKind 1 = .ok (.bipush 110, 2) := by decide +kernel
theorem dX6_isKind_3 : decode cX6_isKind 3 = .ok (.if_icmp .eq 27, 3) := by decide +kernel
theorem dX6_isKind_6 : decode cX6_isKind 6 = .ok (.iload_n 0, 1) := by decide +kernel
theorem dX6_isKind_7 : decode cX6_isKind 7 = .ok (.bipush 108, 2) := by decide +kernel
theorem dX6_isKind_9 : decode cX6_isKind 9 = .ok (.if_icmp .eq 21, 3) := by decide +kernel
theorem dX6_isKind_12 : decode cX6_isKind 12 = .ok (.iload_n 0, 1) := by decide +kernel
theorem dX6_isKind_13 : decode cX6_isKind 13 = .ok (.bipush 115, 2) := by decide +kernel
theorem dX6_isKind_15 : decode cX6_isKind 15 = .ok (.if_icmp .eq 15, 3) := by decide +kernel
theorem dX6_isKind_18 : decode cX6_isKind 18 = .ok (.iload_n 0, 1) := by decide +kernel
theorem dX6_isKind_19 : decode cX6_isKind 19 = .ok (.bipush 99, 2) := by decide +kernel
theorem dX6_isKind_21 : decode cX6_isKind 21 = .ok (.if_icmp .eq 9, 3) := by decide +kernel
theorem dX6_isKind_24 : decode cX6_isKind 24 = .ok (.iload_n 0, 1) := by decide +kernel
theorem dX6_isKind_25 : decode cX6_isKind 25 = .ok (.bipush 102, 2) := by decide +kernel
theorem dX6_isKind_27 : decode cX6_isKind 27 = .ok (.if_icmp .ne 7, 3) := by decide +kernel
theorem dX6_isKind_30 : decode cX6_isKind 30 = .ok (.iconst 1, 1) := by decide +kernel
theorem dX6_isKind_31 : decode cX6_isKind 31 = .ok (.goto 4, 3) := by decide +kernel
theorem dX6_isKind_34 : decode cX6_isKind 34 = .ok (.iconst 0, 1) := by decide +kernel
theorem dX6_isKind_35 : decode cX6_isKind 35 = .ok (.ireturn, 1) := by decide +kernel
set_option maxRecDepth 20000 in
theorem ggX6_isPath_X6_isWithin : GoodIn wsX6_isPath wsX6_isWithin := goodIn_r _ [4] (by decide +kernel) (by decide +kernel)
set_option maxRecDepth 20000 in
theorem gX6_isPath_X6_isWithin : GoodIn wsX6_isPath (va_wsS RX6 38 yX6_isWithin wsX6_isWithin) := goodIn_app (goodIn_of _ (by decide +kernel)) ggX6_isPath_X6_isWithin
theorem dX6_isPath_0 : decode cX6_isPath 0 = .ok (.iload_n 0, 1) := by decide +kernel
theorem dX6_isPath_1 : decode cX6_isPath 1 = .ok (.iconst 0, 1) := by decide +kernel
theorem dX6_isPath_2 : decode cX6_isPath 2 = .ok (.sipush 9999, 3) := by decide +kernel
theorem dX6_isPath_5 : decode cX6_isPath 5 = .ok (.invokestatic 38, 3) := by decide +kernel
theorem dX6_isPath_8 : decode cX6_isPath 8 = .ok (.ifCond .ne 5, 3) := by decide +kernel
theorem dX6_isPath_11 : decode cX6_isPath 11 = .ok (.iconst 0, 1) := by decide +kernel
theorem dX6_isPath_12 : decode cX6_isPath 12 = .ok (.ireturn, 1) := by decide +kernel
theorem dX6_isPath_13 : decode cX6_isPath 13 = .ok (.iload_n 0, 1) := by decide +kernel
theorem dX6_isPath_14 : decode cX6_isPath 14 = .ok (.istore_n 1, 1) := by decide +kernel
theorem dX6_isPath_15 : decode cX6_isPath 15 = .ok (.iconst 0, 1) := by decide +kernel
theorem dX6_isPath_16 : decode cX6_isPath 16 = .ok (.istore_n 2, 1) := by decide +kernel
theorem dX6_isPath_17 : decode cX6_isPath 17 = .ok (.iload_n 2, 1) := by decide +kernel
theorem dX6_isPath_18 : decode cX6_isPath 18 = .ok (.iconst 4, 1) := by decide +kernel
theorem dX6_isPath_19 : decode cX6_isPath 19 = .ok (.if_icmp .ge 27, 3) := by decide +kernel
theorem dX6_isPath_22 : decode cX6_isPath 22 = .ok (.iload_n 1, 1) := by decide +kernel
theorem dX6_isPath_23 : decode cX6_isPath 23 = .ok (.ifCond .le 23, 3) := by decide +kernel
theorem dX6_isPath_26 : decode cX6_isPath 26 = .ok (.iload_n 1, 1) := by decide +kernel
theorem dX6_isPath_27 : decode cX6_isPath 27 = .ok (.bipush 10, 2) := by decide +kernel
theorem dX6_isPath_29 : decode cX6_isPath 29 = .ok (.irem, 1) := by decide +kernel
theorem dX6_isPath_30 : decode cX6_isPath 30 = .ok (.ifCond .ne 5, 3) := by decide +kernel
theorem dX6_isPath_33 : decode cX6_isPath 33 = .ok (.iconst 0, 1) := by decide +kernel
theorem dX6_isPath_34 : decode cX6_isPath 34 = .ok (.ireturn, 1) := by decide +kernel
theorem dX6_isPath_35 : decode cX6_isPath 35 = .ok (.iload_n 1, 1) := by decide +kernel
theorem dX6_isPath_36 : decode cX6_isPath 36 = .ok (.bipush 10, 2) := by decide +kernel
theorem dX6_isPath_38 : decode cX6_isPath 38 = .ok (.idiv, 1) := by decide +kernel
theorem dX6_isPath_39 : decode cX6_isPath 39 = .ok (.istore_n 1, 1) := by decide +kernel
theorem dX6_isPath_40 : decode cX6_isPath 40 = .ok (.iinc 2 1, 3) := by decide +kernel
theorem dX6_isPath_43 : decode cX6_isPath 43 = .ok (.goto (-26), 3) := by decide +kernel
theorem dX6_isPath_46 : decode cX6_isPath 46 = .ok (.iconst 1, 1) := by decide +kernel
theorem dX6_isPath_47 : decode cX6_isPath 47 = .ok (.ireturn, 1) := by decide +kernel
set_option maxRecDepth 20000 in
theorem ggX6_requirePath_X6_isPath : GoodIn wsX6_requirePath wsX6_isPath := goodIn_r _ [6, 7, 8, 5, 9] (by decide +kernel) (by decide +kernel)
set_option maxRecDepth 20000 in
theorem gX6_requirePath_X6_isPath : GoodIn wsX6_requirePath (va_wsS RX6 34 yX6_isPath wsX6_isPath) := goodIn_app (goodIn_of _ (by decide +kernel)) ggX6_requirePath_X6_isPath
theorem dX6_requirePath_0 : decode cX6_requirePath 0 = .ok (.iload_n 0, 1) := by decide +kernel
theorem dX6_requirePath_1 : decode cX6_requirePath 1 = .ok (.invokestatic 34, 3) := by decide +kernel
theorem dX6_requirePath_4 : decode cX6_requirePath 4 = .ok (.ifCond .ne 14, 3) := by decide +kernel
theorem dX6_requirePath_7 : decode cX6_requirePath 7 = .ok (.new 46, 3) := by decide +kernel
theorem dX6_requirePath_10 : decode cX6_requirePath 10 = .ok (.dup, 1) := by decide +kernel
theorem dX6_requirePath_11 : decode cX6_requirePath 11 = .ok (.ldc_w 272, 3) := by decide +kernel
theorem dX6_requirePath_14 : decode cX6_requirePath 14 = .ok (.invokespecial 50, 3) := by decide +kernel
theorem dX6_requirePath_17 : decode cX6_requirePath 17 = .ok (.athrow, 1) := by decide +kernel
theorem dX6_requirePath_18 : decode cX6_requirePath 18 = .ok (.return_, 1) := by decide +kernel
theorem dX6_numberOfFound_0 : decode cX6_numberOfFound 0 = .ok (.aload_n 0, 1) := by decide +kernel
theorem dX6_numberOfFound_1 : decode cX6_numberOfFound 1 = .ok (.ifnonnull 14, 3) := by decide +kernel
theorem dX6_numberOfFound_4 : decode cX6_numberOfFound 4 = .ok (.new 144, 3) := by decide +kernel
theorem dX6_numberOfFound_7 : decode cX6_numberOfFound 7 = .ok (.dup, 1) := by decide +kernel
theorem dX6_numberOfFound_8 : decode cX6_numberOfFound 8 = .ok (.ldc_w 274, 3) := by decide +kernel
theorem dX6_numberOfFound_11 : decode cX6_numberOfFound 11 = .ok (.invokespecial 148, 3) := by decide +kernel
theorem dX6_numberOfFound_14 : decode cX6_numberOfFound 14 = .ok (.athrow, 1) := by decide +kernel
theorem dX6_numberOfFound_15 : decode cX6_numberOfFound 15 = .ok (.aload_n 0, 1) := by decide +kernel
theorem dX6_numberOfFound_16 : decode cX6_numberOfFound 16 = .ok (.getfield 276, 3) := by decide +kernel
theorem dX6_numberOfFound_19 : decode cX6_numberOfFound 19 = .ok (.ireturn, 1) := by decide +kernel
theorem dX6_existingRoute_0 : decode cX6_existingRoute 0 = .ok (.iload_n 1, 1) := by decide +kernel
theorem dX6_existingRoute_1 : decode cX6_existingRoute 1 = .ok (.ifCond .lt 21, 3) := by decide +kernel
theorem dX6_existingRoute_4 : decode cX6_existingRoute 4 = .ok (.iload_n 1, 1) := by decide +kernel
theorem dX6_existingRoute_5 : decode cX6_existingRoute 5 = .ok (.aload_n 0, 1) := by decide +kernel
theorem dX6_existingRoute_6 : decode cX6_existingRoute 6 = .ok (.getfield 11, 3) := by decide +kernel
theorem dX6_existingRoute_9 : decode cX6_existingRoute 9 = .ok (.arraylength, 1) := by decide +kernel
theorem dX6_existingRoute_10 : decode cX6_existingRoute 10 = .ok (.if_icmp .ge 12, 3) := by decide +kernel
theorem dX6_existingRoute_13 : decode cX6_existingRoute 13 = .ok (.aload_n 0, 1) := by decide +kernel
theorem dX6_existingRoute_14 : decode cX6_existingRoute 14 = .ok (.getfield 11, 3) := by decide +kernel
theorem dX6_existingRoute_17 : decode cX6_existingRoute 17 = .ok (.iload_n 1, 1) := by decide +kernel
theorem dX6_existingRoute_18 : decode cX6_existingRoute 18 = .ok (.aaload, 1) := by decide +kernel
theorem dX6_existingRoute_19 : decode cX6_existingRoute 19 = .ok (.goto 4, 3) := by decide +kernel
theorem dX6_existingRoute_22 : decode cX6_existingRoute 22 = .ok (.aconst_null, 1) := by decide +kernel
theorem dX6_existingRoute_23 : decode cX6_existingRoute 23 = .ok (.astore_n 2, 1) := by decide +kernel
theorem dX6_existingRoute_24 : decode cX6_existingRoute 24 = .ok (.aload_n 2, 1) := by decide +kernel
theorem dX6_existingRoute_25 : decode cX6_existingRoute 25 = .ok (.ifnonnull 14, 3) := by decide +kernel
theorem dX6_existingRoute_28 : decode cX6_existingRoute 28 = .ok (.new 245, 3) := by decide +kernel
theorem dX6_existingRoute_31 : decode cX6_existingRoute 31 = .ok (.dup, 1) := by decide +kernel
theorem dX6_existingRoute_32 : decode cX6_existingRoute 32 = .ok (.ldc_w 277, 3) := by decide +kernel
theorem dX6_existingRoute_35 : decode cX6_existingRoute 35 = .ok (.invokespecial 249, 3) := by decide +kernel
theorem dX6_existingRoute_38 : decode cX6_existingRoute 38 = .ok (.athrow, 1) := by decide +kernel
theorem dX6_existingRoute_39 : decode cX6_existingRoute 39 = .ok (.aload_n 2, 1) := by decide +kernel
theorem dX6_existingRoute_40 : decode cX6_existingRoute 40 = .ok (.areturn, 1) := by decide +kernel
theorem dX6_existingPlan_0 : decode cX6_existingPlan 0 = .ok (.iload_n 1, 1) := by decide +kernel
theorem dX6_existingPlan_1 : decode cX6_existingPlan 1 = .ok (.ifCond .lt 21, 3) := by decide +kernel
theorem dX6_existingPlan_4 : decode cX6_existingPlan 4 = .ok (.iload_n 1, 1) := by decide +kernel
theorem dX6_existingPlan_5 : decode cX6_existingPlan 5 = .ok (.aload_n 0, 1) := by decide +kernel
theorem dX6_existingPlan_6 : decode cX6_existingPlan 6 = .ok (.getfield 17, 3) := by decide +kernel
theorem dX6_existingPlan_9 : decode cX6_existingPlan 9 = .ok (.arraylength, 1) := by decide +kernel
theorem dX6_existingPlan_10 : decode cX6_existingPlan 10 = .ok (.if_icmp .ge 12, 3) := by decide +kernel
theorem dX6_existingPlan_13 : decode cX6_existingPlan 13 = .ok (.aload_n 0, 1) := by decide +kernel
theorem dX6_existingPlan_14 : decode cX6_existingPlan 14 = .ok (.getfield 17, 3) := by decide +kernel
theorem dX6_existingPlan_17 : decode cX6_existingPlan 17 = .ok (.iload_n 1, 1) := by decide +kernel
theorem dX6_existingPlan_18 : decode cX6_existingPlan 18 = .ok (.aaload, 1) := by decide +kernel
theorem dX6_existingPlan_19 : decode cX6_existingPlan 19 = .ok (.goto 4, 3) := by decide +kernel
theorem dX6_existingPlan_22 : decode cX6_existingPlan 22 = .ok (.aconst_null, 1) := by decide +kernel
theorem dX6_existingPlan_23 : decode cX6_existingPlan 23 = .ok (.astore_n 2, 1) := by decide +kernel
theorem dX6_existingPlan_24 : decode cX6_existingPlan 24 = .ok (.aload_n 2, 1) := by decide +kernel
theorem dX6_existingPlan_25 : decode cX6_existingPlan 25 = .ok (.ifnonnull 14, 3) := by decide +kernel
theorem dX6_existingPlan_28 : decode cX6_existingPlan 28 = .ok (.new 245, 3) := by decide +kernel
theorem dX6_existingPlan_31 : decode cX6_existingPlan 31 = .ok (.dup, 1) := by decide +kernel
theorem dX6_existingPlan_32 : decode cX6_existingPlan 32 = .ok (.ldc_w 279, 3) := by decide +kernel
theorem dX6_existingPlan_35 : decode cX6_existingPlan 35 = .ok (.invokespecial 249, 3) := by decide +kernel
theorem dX6_existingPlan_38 : decode cX6_existingPlan 38 = .ok (.athrow, 1) := by decide +kernel
theorem dX6_existingPlan_39 : decode cX6_existingPlan 39 = .ok (.aload_n 2, 1) := by decide +kernel
theorem dX6_existingPlan_40 : decode cX6_existingPlan 40 = .ok (.areturn, 1) := by decide +kernel
theorem dX6_existingCaller_0 : decode cX6_existingCaller 0 = .ok (.iload_n 1, 1) := by decide +kernel
theorem dX6_existingCaller_1 : decode cX6_existingCaller 1 = .ok (.ifCond .lt 21, 3) := by decide +kernel
theorem dX6_existingCaller_4 : decode cX6_existingCaller 4 = .ok (.iload_n 1, 1) := by decide +kernel
theorem dX6_existingCaller_5 : decode cX6_existingCaller 5 = .ok (.aload_n 0, 1) := by decide +kernel
theorem dX6_existingCaller_6 : decode cX6_existingCaller 6 = .ok (.getfield 23, 3) := by decide +kernel
theorem dX6_existingCaller_9 : decode cX6_existingCaller 9 = .ok (.arraylength, 1) := by decide +kernel
theorem dX6_existingCaller_10 : decode cX6_existingCaller 10 = .ok (.if_icmp .ge 12, 3) := by decide +kernel
theorem dX6_existingCaller_13 : decode cX6_existingCaller 13 = .ok (.aload_n 0, 1) := by decide +kernel
theorem dX6_existingCaller_14 : decode cX6_existingCaller 14 = .ok (.getfield 23, 3) := by decide +kernel
theorem dX6_existingCaller_17 : decode cX6_existingCaller 17 = .ok (.iload_n 1, 1) := by decide +kernel
theorem dX6_existingCaller_18 : decode cX6_existingCaller 18 = .ok (.aaload, 1) := by decide +kernel
theorem dX6_existingCaller_19 : decode cX6_existingCaller 19 = .ok (.goto 4, 3) := by decide +kernel
theorem dX6_existingCaller_22 : decode cX6_existingCaller 22 = .ok (.aconst_null, 1) := by decide +kernel
theorem dX6_existingCaller_23 : decode cX6_existingCaller 23 = .ok (.astore_n 2, 1) := by decide +kernel
theorem dX6_existingCaller_24 : decode cX6_existingCaller 24 = .ok (.aload_n 2, 1) := by decide +kernel
theorem dX6_existingCaller_25 : decode cX6_existingCaller 25 = .ok (.ifnonnull 14, 3) := by decide +kernel
theorem dX6_existingCaller_28 : decode cX6_existingCaller 28 = .ok (.new 245, 3) := by decide +kernel
theorem dX6_existingCaller_31 : decode cX6_existingCaller 31 = .ok (.dup, 1) := by decide +kernel
theorem dX6_existingCaller_32 : decode cX6_existingCaller 32 = .ok (.ldc_w 281, 3) := by decide +kernel
theorem dX6_existingCaller_35 : decode cX6_existingCaller 35 = .ok (.invokespecial 249, 3) := by decide +kernel
theorem dX6_existingCaller_38 : decode cX6_existingCaller 38 = .ok (.athrow, 1) := by decide +kernel
theorem dX6_existingCaller_39 : decode cX6_existingCaller 39 = .ok (.aload_n 2, 1) := by decide +kernel
theorem dX6_existingCaller_40 : decode cX6_existingCaller 40 = .ok (.areturn, 1) := by decide +kernel
theorem dX6_existingCanary_0 : decode cX6_existingCanary 0 = .ok (.aload_n 0, 1) := by decide +kernel
theorem dX6_existingCanary_1 : decode cX6_existingCanary 1 = .ok (.getfield 104, 3) := by decide +kernel
theorem dX6_existingCanary_4 : decode cX6_existingCanary 4 = .ok (.astore_n 1, 1) := by decide +kernel
theorem dX6_existingCanary_5 : decode cX6_existingCanary 5 = .ok (.aload_n 1, 1) := by decide +kernel
theorem dX6_existingCanary_6 : decode cX6_existingCanary 6 = .ok (.ifnonnull 13, 3) := by decide +kernel
theorem dX6_existingCanary_9 : decode cX6_existingCanary 9 = .ok (.new 63, 3) := by decide +kernel
theorem dX6_existingCanary_12 : decode cX6_existingCanary 12 = .ok (.dup, 1) := by decide +kernel
theorem dX6_existingCanary_13 : decode cX6_existingCanary 13 = .ok (.ldc 146, 2) := by decide +kernel
theorem dX6_existingCanary_15 : decode cX6_existingCanary 15 = .ok (.invokespecial 67, 3) := by decide +kernel
theorem dX6_existingCanary_18 : decode cX6_existingCanary 18 = .ok (.athrow, 1) := by decide +kernel
theorem dX6_existingCanary_19 : decode cX6_existingCanary 19 = .ok (.aload_n 1, 1) := by decide +kernel
theorem dX6_existingCanary_20 : decode cX6_existingCanary 20 = .ok (.areturn, 1) := by decide +kernel
theorem dX6_routeWithPath_0 : decode cX6_routeWithPath 0 = .ok (.aload_n 0, 1) := by decide +kernel
theorem dX6_routeWithPath_1 : decode cX6_routeWithPath 1 = .ok (.getfield 11, 3) := by decide +kernel
theorem dX6_routeWithPath_4 : decode cX6_routeWithPath 4 = .ok (.astore_n 2, 1) := by decide +kernel
theorem dX6_routeWithPath_5 : decode cX6_routeWithPath 5 = .ok (.aload_n 2, 1) := by decide +kernel
theorem dX6_routeWithPath_6 : decode cX6_routeWithPath 6 = .ok (.arraylength, 1) := by decide +kernel
theorem dX6_routeWithPath_7 : decode cX6_routeWithPath 7 = .ok (.istore_n 3, 1) := by decide +kernel
theorem dX6_routeWithPath_8 : decode cX6_routeWithPath 8 = .ok (.iconst 0, 1) := by decide +kernel
theorem dX6_routeWithPath_9 : decode cX6_routeWithPath 9 = .ok (.istore 4, 2) := by decide +kernel
theorem dX6_routeWithPath_11 : decode cX6_routeWithPath 11 = .ok (.iload 4, 2) := by decide +kernel
theorem dX6_routeWithPath_13 : decode cX6_routeWithPath 13 = .ok (.iload_n 3, 1) := by decide +kernel
theorem dX6_routeWithPath_14 : decode cX6_routeWithPath 14 = .ok (.if_icmp .ge 32, 3) := by decide +kernel
theorem dX6_routeWithPath_17 : decode cX6_routeWithPath 17 = .ok (.aload_n 2, 1) := by decide +kernel
theorem dX6_routeWithPath_18 : decode cX6_routeWithPath 18 = .ok (.iload 4, 2) := by decide +kernel
theorem dX6_routeWithPath_20 : decode cX6_routeWithPath 20 = .ok (.aaload, 1) := by decide +kernel
theorem dX6_routeWithPath_21 : decode cX6_routeWithPath 21 = .ok (.astore 5, 2) := by decide +kernel
theorem dX6_routeWithPath_23 : decode cX6_routeWithPath 23 = .ok (.aload 5, 2) := by decide +kernel
theorem dX6_routeWithPath_25 : decode cX6_routeWithPath 25 = .ok (.ifnull 15, 3) := by decide +kernel
theorem dX6_routeWithPath_28 : decode cX6_routeWithPath 28 = .ok (.aload 5, 2) := by decide +kernel
theorem dX6_routeWithPath_30 : decode cX6_routeWithPath 30 = .ok (.getfield 283, 3) := by decide +kernel
theorem dX6_routeWithPath_33 : decode cX6_routeWithPath 33 = .ok (.iload_n 1, 1) := by decide +kernel
theorem dX6_routeWithPath_34 : decode cX6_routeWithPath 34 = .ok (.if_icmp .ne 6, 3) := by decide +kernel
theorem dX6_routeWithPath_37 : decode cX6_routeWithPath 37 = .ok (.aload 5, 2) := by decide +kernel
theorem dX6_routeWithPath_39 : decode cX6_routeWithPath 39 = .ok (.areturn, 1) := by decide +kernel
theorem dX6_routeWithPath_40 : decode cX6_routeWithPath 40 = .ok (.iinc 4 1, 3) := by decide +kernel
theorem dX6_routeWithPath_43 : decode cX6_routeWithPath 43 = .ok (.goto (-32), 3) := by decide +kernel
theorem dX6_routeWithPath_46 : decode cX6_routeWithPath 46 = .ok (.aconst_null, 1) := by decide +kernel
theorem dX6_routeWithPath_47 : decode cX6_routeWithPath 47 = .ok (.areturn, 1) := by decide +kernel
set_option maxRecDepth 20000 in
theorem ggX6_routeByTakingOff_X6_routeWithPath : GoodIn wsX6_routeByTakingOff wsX6_routeWithPath := goodIn_r _ [5, 6, 7, 8, 9, 10, 11, 12, 13, 14, 15, 16, 17, 18, 19, 20, 21] (by decide +kernel) (by decide +kernel)
set_option maxRecDepth 20000 in
theorem gX6_routeByTakingOff_X6_routeWithPath : GoodIn wsX6_routeByTakingOff (wsV RX6 53 RX6 yX6_routeWithPath wsX6_routeWithPath) := goodIn_app (goodIn_of _ (by decide +kernel)) ggX6_routeByTakingOff_X6_routeWithPath
theorem dX6_routeByTakingOff_0 : decode cX6_routeByTakingOff 0 = .ok (.iload_n 1, 1) := by decide +kernel
theorem dX6_routeByTakingOff_1 : decode cX6_routeByTakingOff 1 = .ok (.istore_n 2, 1) := by decide +kernel
theorem dX6_routeByTakingOff_2 : decode cX6_routeByTakingOff 2 = .ok (.iconst 0, 1) := by decide +kernel
theorem dX6_routeByTakingOff_3 : decode cX6_routeByTakingOff 3 = .ok (.istore_n 3, 1) := by decide +kernel
theorem dX6_routeByTakingOff_4 : decode cX6_routeByTakingOff 4 = .ok (.iload_n 3, 1) := by decide +kernel
theorem dX6_routeByTakingOff_5 : decode cX6_routeByTakingOff 5 = .ok (.iconst 4, 1) := by decide +kernel
theorem dX6_routeByTakingOff_6 : decode cX6_routeByTakingOff 6 = .ok (.if_icmp .gt 29, 3) := by decide +kernel
theorem dX6_routeByTakingOff_9 : decode cX6_routeByTakingOff 9 = .ok (.aload_n 0, 1) := by decide +kernel
theorem dX6_routeByTakingOff_10 : decode cX6_routeByTakingOff 10 = .ok (.iload_n 2, 1) := by decide +kernel
theorem dX6_routeByTakingOff_11 : decode cX6_routeByTakingOff 11 = .ok (.invokevirtual 53, 3) := by decide +kernel
theorem dX6_routeByTakingOff_14 : decode cX6_routeByTakingOff 14 = .ok (.astore 4, 2) := by decide +kernel
theorem dX6_routeByTakingOff_16 : decode cX6_routeByTakingOff 16 = .ok (.aload 4, 2) := by decide +kernel
theorem dX6_routeByTakingOff_18 : decode cX6_routeByTakingOff 18 = .ok (.ifnull 6, 3) := by decide +kernel
theorem dX6_routeByTakingOff_21 : decode cX6_routeByTakingOff 21 = .ok (.aload 4, 2) := by decide +kernel
theorem dX6_routeByTakingOff_23 : decode cX6_routeByTakingOff 23 = .ok (.areturn, 1) := by decide +kernel
theorem dX6_routeByTakingOff_24 : decode cX6_routeByTakingOff 24 = .ok (.iload_n 2, 1) := by decide +kernel
theorem dX6_routeByTakingOff_25 : decode cX6_routeByTakingOff 25 = .ok (.bipush 10, 2) := by decide +kernel
theorem dX6_routeByTakingOff_27 : decode cX6_routeByTakingOff 27 = .ok (.idiv, 1) := by decide +kernel
theorem dX6_routeByTakingOff_28 : decode cX6_routeByTakingOff 28 = .ok (.istore_n 2, 1) := by decide +kernel
theorem dX6_routeByTakingOff_29 : decode cX6_routeByTakingOff 29 = .ok (.iinc 3 1, 3) := by decide +kernel
theorem dX6_routeByTakingOff_32 : decode cX6_routeByTakingOff 32 = .ok (.goto (-28), 3) := by decide +kernel
theorem dX6_routeByTakingOff_35 : decode cX6_routeByTakingOff 35 = .ok (.aconst_null, 1) := by decide +kernel
theorem dX6_routeByTakingOff_36 : decode cX6_routeByTakingOff 36 = .ok (.areturn, 1) := by decide +kernel
set_option maxRecDepth 20000 in
theorem ggX6_longestThatFits_X5_fits : GoodIn wsX6_longestThatFits wsX5_fits := goodIn_r _ [5, 6, 15, 16, 17, 18, 19, 20, 21] (by decide +kernel) (by decide +kernel)
set_option maxRecDepth 20000 in
theorem gX6_longestThatFits_X5_fits_n286 : GoodIn wsX6_longestThatFits (wsX5_fits) := ggX6_longestThatFits_X5_fits
theorem dX6_longestThatFits_0 : decode cX6_longestThatFits 0 = .ok (.aconst_null, 1) := by decide +kernel
theorem dX6_longestThatFits_1 : decode cX6_longestThatFits 1 = .ok (.astore_n 2, 1) := by decide +kernel
theorem dX6_longestThatFits_2 : decode cX6_longestThatFits 2 = .ok (.aload_n 0, 1) := by decide +kernel
theorem dX6_longestThatFits_3 : decode cX6_longestThatFits 3 = .ok (.getfield 11, 3) := by decide +kernel
theorem dX6_longestThatFits_6 : decode cX6_longestThatFits 6 = .ok (.astore_n 3, 1) := by decide +kernel
theorem dX6_longestThatFits_7 : decode cX6_longestThatFits 7 = .ok (.aload_n 3, 1) := by decide +kernel
theorem dX6_longestThatFits_8 : decode cX6_longestThatFits 8 = .ok (.arraylength, 1) := by decide +kernel
theorem dX6_longestThatFits_9 : decode cX6_longestThatFits 9 = .ok (.istore 4, 2) := by decide +kernel
theorem dX6_longestThatFits_11 : decode cX6_longestThatFits 11 = .ok (.iconst 0, 1) := by decide +kernel
theorem dX6_longestThatFits_12 : decode cX6_longestThatFits 12 = .ok (.istore 5, 2) := by decide +kernel
theorem dX6_longestThatFits_14 : decode cX6_longestThatFits 14 = .ok (.iload 5, 2) := by decide +kernel
theorem dX6_longestThatFits_16 : decode cX6_longestThatFits 16 = .ok (.iload 4, 2) := by decide +kernel
theorem dX6_longestThatFits_18 : decode cX6_longestThatFits 18 = .ok (.if_icmp .ge 48, 3) := by decide +kernel
theorem dX6_longestThatFits_21 : decode cX6_longestThatFits 21 = .ok (.aload_n 3, 1) := by decide +kernel
theorem dX6_longestThatFits_22 : decode cX6_longestThatFits 22 = .ok (.iload 5, 2) := by decide +kernel
theorem dX6_longestThatFits_24 : decode cX6_longestThatFits 24 = .ok (.aaload, 1) := by decide +kernel
theorem dX6_longestThatFits_25 : decode cX6_longestThatFits 25 = .ok (.astore 6, 2) := by decide +kernel
theorem dX6_longestThatFits_27 : decode cX6_longestThatFits 27 = .ok (.aload 6, 2) := by decide +kernel
theorem dX6_longestThatFits_29 : decode cX6_longestThatFits 29 = .ok (.ifnull 31, 3) := by decide +kernel
theorem dX6_longestThatFits_32 : decode cX6_longestThatFits 32 = .ok (.aload 6, 2) := by decide +kernel
theorem dX6_longestThatFits_34 : decode cX6_longestThatFits 34 = .ok (.iload_n 1, 1) := by decide +kernel
theorem dX6_longestThatFits_35 : decode cX6_longestThatFits 35 = .ok (.invokevirtual 286, 3) := by decide +kernel
theorem dX6_longestThatFits_38 : decode cX6_longestThatFits 38 = .ok (.ifCond .eq 22, 3) := by decide +kernel
theorem dX6_longestThatFits_41 : decode cX6_longestThatFits 41 = .ok (.aload_n 2, 1) := by decide +kernel
theorem dX6_longestThatFits_42 : decode cX6_longestThatFits 42 = .ok (.ifnull 15, 3) := by decide +kernel
theorem dX6_longestThatFits_45 : decode cX6_longestThatFits 45 = .ok (.aload 6, 2) := by decide +kernel
theorem dX6_longestThatFits_47 : decode cX6_longestThatFits 47 = .ok (.getfield 283, 3) := by decide +kernel
theorem dX6_longestThatFits_50 : decode cX6_longestThatFits 50 = .ok (.aload_n 2, 1) := by decide +kernel
theorem dX6_longestThatFits_51 : decode cX6_longestThatFits 51 = .ok (.getfield 283, 3) := by decide +kernel
theorem dX6_longestThatFits_54 : decode cX6_longestThatFits 54 = .ok (.if_icmp .le 6, 3) := by decide +kernel
theorem dX6_longestThatFits_57 : decode cX6_longestThatFits 57 = .ok (.aload 6, 2) := by decide +kernel
theorem dX6_longestThatFits_59 : decode cX6_longestThatFits 59 = .ok (.astore_n 2, 1) := by decide +kernel
theorem dX6_longestThatFits_60 : decode cX6_longestThatFits 60 = .ok (.iinc 5 1, 3) := by decide +kernel
theorem dX6_longestThatFits_63 : decode cX6_longestThatFits 63 = .ok (.goto (-49), 3) := by decide +kernel
theorem dX6_longestThatFits_66 : decode cX6_longestThatFits 66 = .ok (.aload_n 2, 1) := by decide +kernel
theorem dX6_longestThatFits_67 : decode cX6_longestThatFits 67 = .ok (.areturn, 1) := by decide +kernel
set_option maxRecDepth 20000 in
theorem ggX6_answerCall_X6_enter : GoodIn wsX6_answerCall wsX6_enter := goodIn_r _ [5, 6, 7, 8, 9, 10, 11, 12, 13, 14, 15, 16, 17, 18, 19, 20, 21, 22, 23, 24, 25, 57, 58, 59, 60, 73, 74, 75, 76, 77, 78, 79, 80, 81, 82, 83, 84, 85, 86, 87, 88, 89, 90, 91] (by decide +kernel) (by decide +kernel)
set_option maxRecDepth 20000 in
theorem gX6_answerCall_X6_enter : GoodIn wsX6_answerCall (wsV RX6 289 RX6 yX6_enter wsX6_enter) := goodIn_app (goodIn_of _ (by decide +kernel)) ggX6_answerCall_X6_enter
set_option maxRecDepth 20000 in
theorem ggX6_answerCall_X5_isBrokenBy : GoodIn wsX6_answerCall wsX5_isBrokenBy := goodIn_r _ [29, 30, 31, 61, 62, 63, 64, 65, 66, 67] (by decide +kernel) (by decide +kernel)
set_option maxRecDepth 20000 in
theorem gX6_answerCall_X5_isBrokenBy_n108 : GoodIn wsX6_answerCall (wsX5_isBrokenBy) := ggX6_answerCall_X5_isBrokenBy
set_option maxRecDepth 20000 in
theorem ggX6_answerCall_X6_endAndUndo : GoodIn wsX6_answerCall wsX6_endAndUndo := goodIn_r _ [35, 6, 36, 21, 37, 38, 24, 39, 40, 41, 42, 25, 43, 9, 44, 45, 46, 15, 17, 18, 47, 48, 49, 50, 51, 52, 53, 54, 55, 56, 61, 62, 63, 64, 65, 66, 67, 76, 77, 78, 79, 80, 81, 82, 83, 68, 69, 70, 71, 72, 90, 91, 84, 85, 86, 87, 88, 89, 57, 58, 59, 60, 73, 74, 75] (by decide +kernel) (by decide +kernel)
set_option maxRecDepth 20000 in
theorem gX6_answerCall_X6_endAndUndo : GoodIn wsX6_answerCall (wsV RX6 140 RX6 yX6_endAndUndo wsX6_endAndUndo) := goodIn_app (goodIn_of _ (by decide +kernel)) ggX6_answerCall_X6_endAndUndo
theorem dX6_answerCall_0 : decode cX6_answerCall 0 = .ok (.aload_n 2, 1) := by decide +kernel
theorem dX6_answerCall_1 : decode cX6_answerCall 1 = .ok (.ifnonnull 13, 3) := by decide +kernel
theorem dX6_answerCall_4 : decode cX6_answerCall 4 = .ok (.aload_n 0, 1) := by decide +kernel
theorem dX6_answerCall_5 : decode cX6_answerCall 5 = .ok (.aload_n 1, 1) := by decide +kernel
theorem dX6_answerCall_6 : decode cX6_answerCall 6 = .ok (.bipush 110, 2) := by decide +kernel
theorem dX6_answerCall_8 : decode cX6_answerCall 8 = .ok (.iconst 0, 1) := by decide +kernel
theorem dX6_answerCall_9 : decode cX6_answerCall 9 = .ok (.iconst (-1), 1) := by decide +kernel
theorem dX6_answerCall_10 : decode cX6_answerCall 10 = .ok (.invokevirtual 289, 3) := by decide +kernel
theorem dX6_answerCall_13 : decode cX6_answerCall 13 = .ok (.ireturn, 1) := by decide +kernel
theorem dX6_answerCall_14 : decode cX6_answerCall 14 = .ok (.aload_n 1, 1) := by decide +kernel
theorem dX6_answerCall_15 : decode cX6_answerCall 15 = .ok (.getfield 180, 3) := by decide +kernel
theorem dX6_answerCall_18 : decode cX6_answerCall 18 = .ok (.aload_n 2, 1) := by decide +kernel
theorem dX6_answerCall_19 : decode cX6_answerCall 19 = .ok (.getfield 183, 3) := by decide +kernel
theorem dX6_answerCall_22 : decode cX6_answerCall 22 = .ok (.if_icmp .ge 13, 3) := by decide +kernel
theorem dX6_answerCall_25 : decode cX6_answerCall 25 = .ok (.aload_n 0, 1) := by decide +kernel
theorem dX6_answerCall_26 : decode cX6_answerCall 26 = .ok (.aload_n 1, 1) := by decide +kernel
theorem dX6_answerCall_27 : decode cX6_answerCall 27 = .ok (.bipush 108, 2) := by decide +kernel
theorem dX6_answerCall_29 : decode cX6_answerCall 29 = .ok (.iconst 0, 1) := by decide +kernel
theorem dX6_answerCall_30 : decode cX6_answerCall 30 = .ok (.iconst (-1), 1) := by decide +kernel
theorem dX6_answerCall_31 : decode cX6_answerCall 31 = .ok (.invokevirtual 289, 3) := by decide +kernel
theorem dX6_answerCall_34 : decode cX6_answerCall 34 = .ok (.ireturn, 1) := by decide +kernel
theorem dX6_answerCall_35 : decode cX6_answerCall 35 = .ok (.aload_n 2, 1) := by decide +kernel
theorem dX6_answerCall_36 : decode cX6_answerCall 36 = .ok (.getfield 104, 3) := by decide +kernel
theorem dX6_answerCall_39 : decode cX6_answerCall 39 = .ok (.astore 4, 2) := by decide +kernel
theorem dX6_answerCall_41 : decode cX6_answerCall 41 = .ok (.aload 4, 2) := by decide +kernel
theorem dX6_answerCall_43 : decode cX6_answerCall 43 = .ok (.ifnull 12, 3) := by decide +kernel
theorem dX6_answerCall_46 : decode cX6_answerCall 46 = .ok (.iload_n 3, 1) := by decide +kernel
theorem dX6_answerCall_47 : decode cX6_answerCall 47 = .ok (.aload 4, 2) := by decide +kernel
theorem dX6_answerCall_49 : decode cX6_answerCall 49 = .ok (.getfield 137, 3) := by decide +kernel
theorem dX6_answerCall_52 : decode cX6_answerCall 52 = .ok (.if_icmp .lt 16, 3) := by decide +kernel
theorem dX6_answerCall_55 : decode cX6_answerCall 55 = .ok (.aload_n 0, 1) := by decide +kernel
theorem dX6_answerCall_56 : decode cX6_answerCall 56 = .ok (.aload_n 1, 1) := by decide +kernel
theorem dX6_answerCall_57 : decode cX6_answerCall 57 = .ok (.bipush 115, 2) := by decide +kernel
theorem dX6_answerCall_59 : decode cX6_answerCall 59 = .ok (.aload_n 2, 1) := by decide +kernel
theorem dX6_answerCall_60 : decode cX6_answerCall 60 = .ok (.getfield 183, 3) := by decide +kernel
theorem dX6_answerCall_63 : decode cX6_answerCall 63 = .ok (.iconst (-1), 1) := by decide +kernel
theorem dX6_answerCall_64 : decode cX6_answerCall 64 = .ok (.invokevirtual 289, 3) := by decide +kernel
theorem dX6_answerCall_67 : decode cX6_answerCall 67 = .ok (.ireturn, 1) := by decide +kernel
theorem dX6_answerCall_68 : decode cX6_answerCall 68 = .ok (.aload_n 2, 1) := by decide +kernel
theorem dX6_answerCall_69 : decode cX6_answerCall 69 = .ok (.aload 4, 2) := by decide +kernel
theorem dX6_answerCall_71 : decode cX6_answerCall 71 = .ok (.getfield 111, 3) := by decide +kernel
theorem dX6_answerCall_74 : decode cX6_answerCall 74 = .ok (.invokevirtual 108, 3) := by decide +kernel
theorem dX6_answerCall_77 : decode cX6_answerCall 77 = .ok (.ifCond .ne 20, 3) := by decide +kernel
theorem dX6_answerCall_80 : decode cX6_answerCall 80 = .ok (.aload_n 0, 1) := by decide +kernel
theorem dX6_answerCall_81 : decode cX6_answerCall 81 = .ok (.aload_n 1, 1) := by decide +kernel
theorem dX6_answerCall_82 : decode cX6_answerCall 82 = .ok (.bipush 99, 2) := by decide +kernel
theorem dX6_answerCall_84 : decode cX6_answerCall 84 = .ok (.aload_n 2, 1) := by decide +kernel
theorem dX6_answerCall_85 : decode cX6_answerCall 85 = .ok (.getfield 183, 3) := by decide +kernel
theorem dX6_answerCall_88 : decode cX6_answerCall 88 = .ok (.aload 4, 2) := by decide +kernel
theorem dX6_answerCall_90 : decode cX6_answerCall 90 = .ok (.getfield 293, 3) := by decide +kernel
theorem dX6_answerCall_93 : decode cX6_answerCall 93 = .ok (.invokevirtual 289, 3) := by decide +kernel
theorem dX6_answerCall_96 : decode cX6_answerCall 96 = .ok (.ireturn, 1) := by decide +kernel
theorem dX6_answerCall_97 : decode cX6_answerCall 97 = .ok (.aload 4, 2) := by decide +kernel
theorem dX6_answerCall_99 : decode cX6_answerCall 99 = .ok (.dup, 1) := by decide +kernel
theorem dX6_answerCall_100 : decode cX6_answerCall 100 = .ok (.getfield 149, 3) := by decide +kernel
theorem dX6_answerCall_103 : decode cX6_answerCall 103 = .ok (.iconst 1, 1) := by decide +kernel
theorem dX6_answerCall_104 : decode cX6_answerCall 104 = .ok (.iadd, 1) := by decide +kernel
theorem dX6_answerCall_105 : decode cX6_answerCall 105 = .ok (.putfield 149, 3) := by decide +kernel
theorem dX6_answerCall_108 : decode cX6_answerCall 108 = .ok (.aload 4, 2) := by decide +kernel
theorem dX6_answerCall_110 : decode cX6_answerCall 110 = .ok (.getfield 149, 3) := by decide +kernel
theorem dX6_answerCall_113 : decode cX6_answerCall 113 = .ok (.aload 4, 2) := by decide +kernel
theorem dX6_answerCall_115 : decode cX6_answerCall 115 = .ok (.getfield 294, 3) := by decide +kernel
theorem dX6_answerCall_118 : decode cX6_answerCall 118 = .ok (.if_icmp .lt 11, 3) := by decide +kernel
theorem dX6_answerCall_121 : decode cX6_answerCall 121 = .ok (.aload_n 0, 1) := by decide +kernel
theorem dX6_answerCall_122 : decode cX6_answerCall 122 = .ok (.aload_n 2, 1) := by decide +kernel
theorem dX6_answerCall_123 : decode cX6_answerCall 123 = .ok (.aload 4, 2) := by decide +kernel
theorem dX6_answerCall_125 : decode cX6_answerCall 125 = .ok (.invokevirtual 140, 3) := by decide +kernel
theorem dX6_answerCall_128 : decode cX6_answerCall 128 = .ok (.pop, 1) := by decide +kernel
theorem dX6_answerCall_129 : decode cX6_answerCall 129 = .ok (.aload_n 0, 1) := by decide +kernel
theorem dX6_answerCall_130 : decode cX6_answerCall 130 = .ok (.aload_n 1, 1) := by decide +kernel
theorem dX6_answerCall_131 : decode cX6_answerCall 131 = .ok (.bipush 102, 2) := by decide +kernel
theorem dX6_answerCall_133 : decode cX6_answerCall 133 = .ok (.iconst 0, 1) := by decide +kernel
theorem dX6_answerCall_134 : decode cX6_answerCall 134 = .ok (.iconst (-1), 1) := by decide +kernel
theorem dX6_answerCall_135 : decode cX6_answerCall 135 = .ok (.invokevirtual 289, 3) := by decide +kernel
theorem dX6_answerCall_138 : decode cX6_answerCall 138 = .ok (.ireturn, 1) := by decide +kernel
set_option maxRecDepth 20000 in
theorem ggX6_enter_X3_init : GoodIn wsX6_enter wsX3_init := goodIn_r _ [6, 7, 8, 9, 10, 11, 12, 13, 14, 36, 37, 38, 39, 40, 41] (by decide +kernel) (by decide +kernel)
set_option maxRecDepth 20000 in
theorem gX6_enter_X3_init_n300 : GoodIn wsX6_enter (wsX3_init) := ggX6_enter_X3_init
set_option maxRecDepth 20000 in
theorem ggX6_enter_X0_add : GoodIn wsX6_enter wsX0_add := goodIn_r _ [18, 19, 20, 42, 43] (by decide +kernel) (by decide +kernel)
set_option maxRecDepth 20000 in
theorem gX6_enter_X0_add_n303 : GoodIn wsX6_enter (wsX0_add) := ggX6_enter_X0_add
theorem dX6_enter_0 : decode cX6_enter 0 = .ok (.iload_n 3, 1) := by decide +kernel
theorem dX6_enter_1 : decode cX6_enter 1 = .ok (.aload_n 1, 1) := by decide +kernel
theorem dX6_enter_2 : decode cX6_enter 2 = .ok (.getfield 186, 3) := by decide +kernel
theorem dX6_enter_5 : decode cX6_enter 5 = .ok (.getfield 297, 3) := by decide +kernel
theorem dX6_enter_8 : decode cX6_enter 8 = .ok (.imul, 1) := by decide +kernel
theorem dX6_enter_9 : decode cX6_enter 9 = .ok (.istore 5, 2) := by decide +kernel
theorem dX6_enter_11 : decode cX6_enter 11 = .ok (.aload_n 1, 1) := by decide +kernel
theorem dX6_enter_12 : decode cX6_enter 12 = .ok (.dup, 1) := by decide +kernel
theorem dX6_enter_13 : decode cX6_enter 13 = .ok (.getfield 180, 3) := by decide +kernel
theorem dX6_enter_16 : decode cX6_enter 16 = .ok (.iload_n 3, 1) := by decide +kernel
theorem dX6_enter_17 : decode cX6_enter 17 = .ok (.isub, 1) := by decide +kernel
theorem dX6_enter_18 : decode cX6_enter 18 = .ok (.putfield 180, 3) := by decide +kernel
theorem dX6_enter_21 : decode cX6_enter 21 = .ok (.aload_n 1, 1) := by decide +kernel
theorem dX6_enter_22 : decode cX6_enter 22 = .ok (.dup, 1) := by decide +kernel
theorem dX6_enter_23 : decode cX6_enter 23 = .ok (.getfield 199, 3) := by decide +kernel
theorem dX6_enter_26 : decode cX6_enter 26 = .ok (.iload 5, 2) := by decide +kernel
theorem dX6_enter_28 : decode cX6_enter 28 = .ok (.i2l, 1) := by decide +kernel
theorem dX6_enter_29 : decode cX6_enter 29 = .ok (.ladd, 1) := by decide +kernel
theorem dX6_enter_30 : decode cX6_enter 30 = .ok (.putfield 199, 3) := by decide +kernel
theorem dX6_enter_33 : decode cX6_enter 33 = .ok (.aload_n 0, 1) := by decide +kernel
theorem dX6_enter_34 : decode cX6_enter 34 = .ok (.getfield 30, 3) := by decide +kernel
theorem dX6_enter_37 : decode cX6_enter 37 = .ok (.new 251, 3) := by decide +kernel
theorem dX6_enter_40 : decode cX6_enter 40 = .ok (.dup, 1) := by decide +kernel
theorem dX6_enter_41 : decode cX6_enter 41 = .ok (.aload_n 1, 1) := by decide +kernel
theorem dX6_enter_42 : decode cX6_enter 42 = .ok (.iload_n 2, 1) := by decide +kernel
theorem dX6_enter_43 : decode cX6_enter 43 = .ok (.iload_n 3, 1) := by decide +kernel
theorem dX6_enter_44 : decode cX6_enter 44 = .ok (.iload 5, 2) := by decide +kernel
theorem dX6_enter_46 : decode cX6_enter 46 = .ok (.iload 4, 2) := by decide +kernel
theorem dX6_enter_48 : decode cX6_enter 48 = .ok (.invokespecial 300, 3) := by decide +kernel
theorem dX6_enter_51 : decode cX6_enter 51 = .ok (.invokevirtual 303, 3) := by decide +kernel
theorem dX6_enter_54 : decode cX6_enter 54 = .ok (.iload_n 2, 1) := by decide +kernel
theorem dX6_enter_55 : decode cX6_enter 55 = .ok (.ireturn, 1) := by decide +kernel
set_option maxRecDepth 20000 in
theorem ggX6_endAndUndo_X0_undoCallsOf : GoodIn wsX6_endAndUndo wsX0_undoCallsOf := goodIn_r _ [5, 6, 7, 8, 9, 3, 10, 11, 12, 13, 14, 15, 16, 17, 18, 19, 20, 21, 22, 23, 24, 25, 26, 27, 28, 29, 50, 51, 52, 53, 54, 55, 56, 57, 58, 59, 60, 61, 62, 63, 64] (by decide +kernel) (by decide +kernel)
set_option maxRecDepth 20000 in
theorem gX6_endAndUndo_X0_undoCallsOf_n307 : GoodIn wsX6_endAndUndo (wsX0_undoCallsOf) := ggX6_endAndUndo_X0_undoCallsOf
theorem dX6_endAndUndo_0 : decode cX6_endAndUndo 0 = .ok (.aload_n 1, 1) := by decide +kernel
theorem dX6_endAndUndo_1 : decode cX6_endAndUndo 1 = .ok (.aconst_null, 1) := by decide +kernel
theorem dX6_endAndUndo_2 : decode cX6_endAndUndo 2 = .ok (.putfield 104, 3) := by decide +kernel
theorem dX6_endAndUndo_5 : decode cX6_endAndUndo 5 = .ok (.aload_n 0, 1) := by decide +kernel
theorem dX6_endAndUndo_6 : decode cX6_endAndUndo 6 = .ok (.getfield 30, 3) := by decide +kernel
theorem dX6_endAndUndo_9 : decode cX6_endAndUndo 9 = .ok (.aload_n 2, 1) := by decide +kernel
theorem dX6_endAndUndo_10 : decode cX6_endAndUndo 10 = .ok (.getfield 293, 3) := by decide +kernel
theorem dX6_endAndUndo_13 : decode cX6_endAndUndo 13 = .ok (.invokevirtual 307, 3) := by decide +kernel
theorem dX6_endAndUndo_16 : decode cX6_endAndUndo 16 = .ok (.ireturn, 1) := by decide +kernel
theorem dX6_numberOfCanaries_0 : decode cX6_numberOfCanaries 0 = .ok (.iconst 0, 1) := by decide +kernel
theorem dX6_numberOfCanaries_1 : decode cX6_numberOfCanaries 1 = .ok (.istore_n 1, 1) := by decide +kernel
theorem dX6_numberOfCanaries_2 : decode cX6_numberOfCanaries 2 = .ok (.aload_n 0, 1) := by decide +kernel
theorem dX6_numberOfCanaries_3 : decode cX6_numberOfCanaries 3 = .ok (.getfield 11, 3) := by decide +kernel
theorem dX6_numberOfCanaries_6 : decode cX6_numberOfCanaries 6 = .ok (.astore_n 2, 1) := by decide +kernel
theorem dX6_numberOfCanaries_7 : decode cX6_numberOfCanaries 7 = .ok (.aload_n 2, 1) := by decide +kernel
theorem dX6_numberOfCanaries_8 : decode cX6_numberOfCanaries 8 = .ok (.arraylength, 1) := by decide +kernel
theorem dX6_numberOfCanaries_9 : decode cX6_numberOfCanaries 9 = .ok (.istore_n 3, 1) := by decide +kernel
theorem dX6_numberOfCanaries_10 : decode cX6_numberOfCanaries 10 = .ok (.iconst 0, 1) := by decide +kernel
theorem dX6_numberOfCanaries_11 : decode cX6_numberOfCanaries 11 = .ok (.istore 4, 2) := by decide +kernel
theorem dX6_numberOfCanaries_13 : decode cX6_numberOfCanaries 13 = .ok (.iload 4, 2) := by decide +kernel
theorem dX6_numberOfCanaries_15 : decode cX6_numberOfCanaries 15 = .ok (.iload_n 3, 1) := by decide +kernel
theorem dX6_numberOfCanaries_16 : decode cX6_numberOfCanaries 16 = .ok (.if_icmp .ge 31, 3) := by decide +kernel
theorem dX6_numberOfCanaries_19 : decode cX6_numberOfCanaries 19 = .ok (.aload_n 2, 1) := by decide +kernel
theorem dX6_numberOfCanaries_20 : decode cX6_numberOfCanaries 20 = .ok (.iload 4, 2) := by decide +kernel
theorem dX6_numberOfCanaries_22 : decode cX6_numberOfCanaries 22 = .ok (.aaload, 1) := by decide +kernel
theorem dX6_numberOfCanaries_23 : decode cX6_numberOfCanaries 23 = .ok (.astore 5, 2) := by decide +kernel
theorem dX6_numberOfCanaries_25 : decode cX6_numberOfCanaries 25 = .ok (.aload 5, 2) := by decide +kernel
theorem dX6_numberOfCanaries_27 : decode cX6_numberOfCanaries 27 = .ok (.ifnull 14, 3) := by decide +kernel
theorem dX6_numberOfCanaries_30 : decode cX6_numberOfCanaries 30 = .ok (.aload 5, 2) := by decide +kernel
theorem dX6_numberOfCanaries_32 : decode cX6_numberOfCanaries 32 = .ok (.getfield 104, 3) := by decide +kernel
theorem dX6_numberOfCanaries_35 : decode cX6_numberOfCanaries 35 = .ok (.ifnull 6, 3) := by decide +kernel
theorem dX6_numberOfCanaries_38 : decode cX6_numberOfCanaries 38 = .ok (.iinc 1 1, 3) := by decide +kernel
theorem dX6_numberOfCanaries_41 : decode cX6_numberOfCanaries 41 = .ok (.iinc 4 1, 3) := by decide +kernel
theorem dX6_numberOfCanaries_44 : decode cX6_numberOfCanaries 44 = .ok (.goto (-31), 3) := by decide +kernel
theorem dX6_numberOfCanaries_47 : decode cX6_numberOfCanaries 47 = .ok (.iload_n 1, 1) := by decide +kernel
theorem dX6_numberOfCanaries_48 : decode cX6_numberOfCanaries 48 = .ok (.ireturn, 1) := by decide +kernel
