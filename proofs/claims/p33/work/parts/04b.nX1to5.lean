theorem dX1_init_0 : decode cX1_init 0 = .ok (.aload_n 0, 1) := by decide +kernel
theorem dX1_init_1 : decode cX1_init 1 = .ok (.invokespecial 1, 3) := by decide +kernel
theorem dX1_init_4 : decode cX1_init 4 = .ok (.aload_n 0, 1) := by decide +kernel
theorem dX1_init_5 : decode cX1_init 5 = .ok (.iload_n 1, 1) := by decide +kernel
theorem dX1_init_6 : decode cX1_init 6 = .ok (.putfield 7, 3) := by decide +kernel
theorem dX1_init_9 : decode cX1_init 9 = .ok (.aload_n 0, 1) := by decide +kernel
theorem dX1_init_10 : decode cX1_init 10 = .ok (.iload_n 2, 1) := by decide +kernel
theorem dX1_init_11 : decode cX1_init 11 = .ok (.putfield 13, 3) := by decide +kernel
theorem dX1_init_14 : decode cX1_init 14 = .ok (.aload_n 0, 1) := by decide +kernel
theorem dX1_init_15 : decode cX1_init 15 = .ok (.iload_n 3, 1) := by decide +kernel
theorem dX1_init_16 : decode cX1_init 16 = .ok (.putfield 16, 3) := by decide +kernel
theorem dX1_init_19 : decode cX1_init 19 = .ok (.aload_n 0, 1) := by decide +kernel
theorem dX1_init_20 : decode cX1_init 20 = .ok (.iload 4, 2) := by decide +kernel
theorem dX1_init_22 : decode cX1_init 22 = .ok (.putfield 19, 3) := by decide +kernel
theorem dX1_init_25 : decode cX1_init 25 = .ok (.return_, 1) := by decide +kernel
theorem dX2_init_0 : decode cX2_init 0 = .ok (.aload_n 0, 1) := by decide +kernel
theorem dX2_init_1 : decode cX2_init 1 = .ok (.invokespecial 3, 3) := by decide +kernel
theorem dX2_init_4 : decode cX2_init 4 = .ok (.aload_n 0, 1) := by decide +kernel
theorem dX2_init_5 : decode cX2_init 5 = .ok (.iconst (-1), 1) := by decide +kernel
theorem dX2_init_6 : decode cX2_init 6 = .ok (.putfield 9, 3) := by decide +kernel
theorem dX2_init_9 : decode cX2_init 9 = .ok (.aload_n 0, 1) := by decide +kernel
theorem dX2_init_10 : decode cX2_init 10 = .ok (.iload_n 1, 1) := by decide +kernel
theorem dX2_init_11 : decode cX2_init 11 = .ok (.putfield 15, 3) := by decide +kernel
theorem dX2_init_14 : decode cX2_init 14 = .ok (.aload_n 0, 1) := by decide +kernel
theorem dX2_init_15 : decode cX2_init 15 = .ok (.iload_n 2, 1) := by decide +kernel
theorem dX2_init_16 : decode cX2_init 16 = .ok (.putfield 18, 3) := by decide +kernel
theorem dX2_init_19 : decode cX2_init 19 = .ok (.aload_n 0, 1) := by decide +kernel
theorem dX2_init_20 : decode cX2_init 20 = .ok (.iload_n 3, 1) := by decide +kernel
theorem dX2_init_21 : decode cX2_init 21 = .ok (.putfield 21, 3) := by decide +kernel
theorem dX2_init_24 : decode cX2_init 24 = .ok (.return_, 1) := by decide +kernel
theorem dX2_worksAt_0 : decode cX2_worksAt 0 = .ok (.aload_n 0, 1) := by decide +kernel
theorem dX2_worksAt_1 : decode cX2_worksAt 1 = .ok (.getfield 9, 3) := by decide +kernel
theorem dX2_worksAt_4 : decode cX2_worksAt 4 = .ok (.iload_n 1, 1) := by decide +kernel
theorem dX2_worksAt_5 : decode cX2_worksAt 5 = .ok (.if_icmp .ne 23, 3) := by decide +kernel
theorem dX2_worksAt_8 : decode cX2_worksAt 8 = .ok (.iload_n 2, 1) := by decide +kernel
theorem dX2_worksAt_9 : decode cX2_worksAt 9 = .ok (.aload_n 0, 1) := by decide +kernel
theorem dX2_worksAt_10 : decode cX2_worksAt 10 = .ok (.getfield 18, 3) := by decide +kernel
theorem dX2_worksAt_13 : decode cX2_worksAt 13 = .ok (.if_icmp .lt 15, 3) := by decide +kernel
theorem dX2_worksAt_16 : decode cX2_worksAt 16 = .ok (.iload_n 2, 1) := by decide +kernel
theorem dX2_worksAt_17 : decode cX2_worksAt 17 = .ok (.aload_n 0, 1) := by decide +kernel
theorem dX2_worksAt_18 : decode cX2_worksAt 18 = .ok (.getfield 21, 3) := by decide +kernel
theorem dX2_worksAt_21 : decode cX2_worksAt 21 = .ok (.if_icmp .ge 7, 3) := by decide +kernel
theorem dX2_worksAt_24 : decode cX2_worksAt 24 = .ok (.iconst 1, 1) := by decide +kernel
theorem dX2_worksAt_25 : decode cX2_worksAt 25 = .ok (.goto 4, 3) := by decide +kernel
theorem dX2_worksAt_28 : decode cX2_worksAt 28 = .ok (.iconst 0, 1) := by decide +kernel
theorem dX2_worksAt_29 : decode cX2_worksAt 29 = .ok (.ireturn, 1) := by decide +kernel
theorem dX2_moveTo_0 : decode cX2_moveTo 0 = .ok (.aload_n 0, 1) := by decide +kernel
theorem dX2_moveTo_1 : decode cX2_moveTo 1 = .ok (.getfield 9, 3) := by decide +kernel
theorem dX2_moveTo_4 : decode cX2_moveTo 4 = .ok (.istore_n 2, 1) := by decide +kernel
theorem dX2_moveTo_5 : decode cX2_moveTo 5 = .ok (.aload_n 0, 1) := by decide +kernel
theorem dX2_moveTo_6 : decode cX2_moveTo 6 = .ok (.iload_n 1, 1) := by decide +kernel
theorem dX2_moveTo_7 : decode cX2_moveTo 7 = .ok (.putfield 9, 3) := by decide +kernel
theorem dX2_moveTo_10 : decode cX2_moveTo 10 = .ok (.iload_n 2, 1) := by decide +kernel
theorem dX2_moveTo_11 : decode cX2_moveTo 11 = .ok (.ireturn, 1) := by decide +kernel
theorem dX3_init_0 : decode cX3_init 0 = .ok (.aload_n 0, 1) := by decide +kernel
theorem dX3_init_1 : decode cX3_init 1 = .ok (.invokespecial 3, 3) := by decide +kernel
theorem dX3_init_4 : decode cX3_init 4 = .ok (.aload_n 0, 1) := by decide +kernel
theorem dX3_init_5 : decode cX3_init 5 = .ok (.iconst (-1), 1) := by decide +kernel
theorem dX3_init_6 : decode cX3_init 6 = .ok (.putfield 9, 3) := by decide +kernel
theorem dX3_init_9 : decode cX3_init 9 = .ok (.aload_n 0, 1) := by decide +kernel
theorem dX3_init_10 : decode cX3_init 10 = .ok (.bipush 101, 2) := by decide +kernel
theorem dX3_init_12 : decode cX3_init 12 = .ok (.putfield 15, 3) := by decide +kernel
theorem dX3_init_15 : decode cX3_init 15 = .ok (.aload_n 0, 1) := by decide +kernel
theorem dX3_init_16 : decode cX3_init 16 = .ok (.bipush (-2), 2) := by decide +kernel
theorem dX3_init_18 : decode cX3_init 18 = .ok (.putfield 19, 3) := by decide +kernel
theorem dX3_init_21 : decode cX3_init 21 = .ok (.aload_n 0, 1) := by decide +kernel
theorem dX3_init_22 : decode cX3_init 22 = .ok (.iconst (-1), 1) := by decide +kernel
theorem dX3_init_23 : decode cX3_init 23 = .ok (.putfield 22, 3) := by decide +kernel
theorem dX3_init_26 : decode cX3_init 26 = .ok (.aload_n 0, 1) := by decide +kernel
theorem dX3_init_27 : decode cX3_init 27 = .ok (.bipush 9, 2) := by decide +kernel
theorem dX3_init_29 : decode cX3_init 29 = .ok (.newarray .int, 2) := by decide +kernel
theorem dX3_init_31 : decode cX3_init 31 = .ok (.putfield 25, 3) := by decide +kernel
theorem dX3_init_34 : decode cX3_init 34 = .ok (.aload_n 0, 1) := by decide +kernel
theorem dX3_init_35 : decode cX3_init 35 = .ok (.iload_n 1, 1) := by decide +kernel
theorem dX3_init_36 : decode cX3_init 36 = .ok (.putfield 29, 3) := by decide +kernel
theorem dX3_init_39 : decode cX3_init 39 = .ok (.aload_n 0, 1) := by decide +kernel
theorem dX3_init_40 : decode cX3_init 40 = .ok (.iload_n 2, 1) := by decide +kernel
theorem dX3_init_41 : decode cX3_init 41 = .ok (.putfield 32, 3) := by decide +kernel
theorem dX3_init_44 : decode cX3_init 44 = .ok (.aload_n 0, 1) := by decide +kernel
theorem dX3_init_45 : decode cX3_init 45 = .ok (.iload_n 3, 1) := by decide +kernel
theorem dX3_init_46 : decode cX3_init 46 = .ok (.putfield 36, 3) := by decide +kernel
theorem dX3_init_49 : decode cX3_init 49 = .ok (.aload_n 0, 1) := by decide +kernel
theorem dX3_init_50 : decode cX3_init 50 = .ok (.iload 4, 2) := by decide +kernel
theorem dX3_init_52 : decode cX3_init 52 = .ok (.putfield 39, 3) := by decide +kernel
theorem dX3_init_55 : decode cX3_init 55 = .ok (.return_, 1) := by decide +kernel
theorem dX3_isPresent_0 : decode cX3_isPresent 0 = .ok (.aload_n 0, 1) := by decide +kernel
theorem dX3_isPresent_1 : decode cX3_isPresent 1 = .ok (.getfield 15, 3) := by decide +kernel
theorem dX3_isPresent_4 : decode cX3_isPresent 4 = .ok (.bipush 121, 2) := by decide +kernel
theorem dX3_isPresent_6 : decode cX3_isPresent 6 = .ok (.if_icmp .eq 12, 3) := by decide +kernel
theorem dX3_isPresent_9 : decode cX3_isPresent 9 = .ok (.aload_n 0, 1) := by decide +kernel
theorem dX3_isPresent_10 : decode cX3_isPresent 10 = .ok (.getfield 15, 3) := by decide +kernel
theorem dX3_isPresent_13 : decode cX3_isPresent 13 = .ok (.bipush 100, 2) := by decide +kernel
theorem dX3_isPresent_15 : decode cX3_isPresent 15 = .ok (.if_icmp .ne 7, 3) := by decide +kernel
theorem dX3_isPresent_18 : decode cX3_isPresent 18 = .ok (.iconst 1, 1) := by decide +kernel
theorem dX3_isPresent_19 : decode cX3_isPresent 19 = .ok (.goto 4, 3) := by decide +kernel
theorem dX3_isPresent_22 : decode cX3_isPresent 22 = .ok (.iconst 0, 1) := by decide +kernel
theorem dX3_isPresent_23 : decode cX3_isPresent 23 = .ok (.ireturn, 1) := by decide +kernel
theorem dX3_isDocked_0 : decode cX3_isDocked 0 = .ok (.aload_n 0, 1) := by decide +kernel
theorem dX3_isDocked_1 : decode cX3_isDocked 1 = .ok (.getfield 15, 3) := by decide +kernel
theorem dX3_isDocked_4 : decode cX3_isDocked 4 = .ok (.bipush 100, 2) := by decide +kernel
theorem dX3_isDocked_6 : decode cX3_isDocked 6 = .ok (.if_icmp .eq 12, 3) := by decide +kernel
theorem dX3_isDocked_9 : decode cX3_isDocked 9 = .ok (.aload_n 0, 1) := by decide +kernel
theorem dX3_isDocked_10 : decode cX3_isDocked 10 = .ok (.getfield 15, 3) := by decide +kernel
theorem dX3_isDocked_13 : decode cX3_isDocked 13 = .ok (.bipush 108, 2) := by decide +kernel
theorem dX3_isDocked_15 : decode cX3_isDocked 15 = .ok (.if_icmp .ne 7, 3) := by decide +kernel
theorem dX3_isDocked_18 : decode cX3_isDocked 18 = .ok (.iconst 1, 1) := by decide +kernel
theorem dX3_isDocked_19 : decode cX3_isDocked 19 = .ok (.goto 4, 3) := by decide +kernel
theorem dX3_isDocked_22 : decode cX3_isDocked 22 = .ok (.iconst 0, 1) := by decide +kernel
theorem dX3_isDocked_23 : decode cX3_isDocked 23 = .ok (.ireturn, 1) := by decide +kernel
theorem dX3_isQueuedFor_0 : decode cX3_isQueuedFor 0 = .ok (.aload_n 0, 1) := by decide +kernel
theorem dX3_isQueuedFor_1 : decode cX3_isQueuedFor 1 = .ok (.getfield 15, 3) := by decide +kernel
theorem dX3_isQueuedFor_4 : decode cX3_isQueuedFor 4 = .ok (.bipush 121, 2) := by decide +kernel
theorem dX3_isQueuedFor_6 : decode cX3_isQueuedFor 6 = .ok (.if_icmp .ne 15, 3) := by decide +kernel
theorem dX3_isQueuedFor_9 : decode cX3_isQueuedFor 9 = .ok (.aload_n 0, 1) := by decide +kernel
theorem dX3_isQueuedFor_10 : decode cX3_isQueuedFor 10 = .ok (.getfield 9, 3) := by decide +kernel
theorem dX3_isQueuedFor_13 : decode cX3_isQueuedFor 13 = .ok (.iload_n 1, 1) := by decide +kernel
theorem dX3_isQueuedFor_14 : decode cX3_isQueuedFor 14 = .ok (.if_icmp .ne 7, 3) := by decide +kernel
theorem dX3_isQueuedFor_17 : decode cX3_isQueuedFor 17 = .ok (.iconst 1, 1) := by decide +kernel
theorem dX3_isQueuedFor_18 : decode cX3_isQueuedFor 18 = .ok (.goto 4, 3) := by decide +kernel
theorem dX3_isQueuedFor_21 : decode cX3_isQueuedFor 21 = .ok (.iconst 0, 1) := by decide +kernel
theorem dX3_isQueuedFor_22 : decode cX3_isQueuedFor 22 = .ok (.ireturn, 1) := by decide +kernel
theorem dX3_isAheadOf_0 : decode cX3_isAheadOf 0 = .ok (.aload_n 0, 1) := by decide +kernel
theorem dX3_isAheadOf_1 : decode cX3_isAheadOf 1 = .ok (.getfield 42, 3) := by decide +kernel
theorem dX3_isAheadOf_4 : decode cX3_isAheadOf 4 = .ok (.aload_n 1, 1) := by decide +kernel
theorem dX3_isAheadOf_5 : decode cX3_isAheadOf 5 = .ok (.getfield 42, 3) := by decide +kernel
theorem dX3_isAheadOf_8 : decode cX3_isAheadOf 8 = .ok (.if_icmp .lt 25, 3) := by decide +kernel
theorem dX3_isAheadOf_11 : decode cX3_isAheadOf 11 = .ok (.aload_n 0, 1) := by decide +kernel
theorem dX3_isAheadOf_12 : decode cX3_isAheadOf 12 = .ok (.getfield 42, 3) := by decide +kernel
theorem dX3_isAheadOf_15 : decode cX3_isAheadOf 15 = .ok (.aload_n 1, 1) := by decide +kernel
theorem dX3_isAheadOf_16 : decode cX3_isAheadOf 16 = .ok (.getfield 42, 3) := by decide +kernel
theorem dX3_isAheadOf_19 : decode cX3_isAheadOf 19 = .ok (.if_icmp .ne 18, 3) := by decide +kernel
theorem dX3_isAheadOf_22 : decode cX3_isAheadOf 22 = .ok (.aload_n 0, 1) := by decide +kernel
theorem dX3_isAheadOf_23 : decode cX3_isAheadOf 23 = .ok (.getfield 29, 3) := by decide +kernel
theorem dX3_isAheadOf_26 : decode cX3_isAheadOf 26 = .ok (.aload_n 1, 1) := by decide +kernel
theorem dX3_isAheadOf_27 : decode cX3_isAheadOf 27 = .ok (.getfield 29, 3) := by decide +kernel
theorem dX3_isAheadOf_30 : decode cX3_isAheadOf 30 = .ok (.if_icmp .ge 7, 3) := by decide +kernel
theorem dX3_isAheadOf_33 : decode cX3_isAheadOf 33 = .ok (.iconst 1, 1) := by decide +kernel
theorem dX3_isAheadOf_34 : decode cX3_isAheadOf 34 = .ok (.goto 4, 3) := by decide +kernel
theorem dX3_isAheadOf_37 : decode cX3_isAheadOf 37 = .ok (.iconst 0, 1) := by decide +kernel
theorem dX3_isAheadOf_38 : decode cX3_isAheadOf 38 = .ok (.ireturn, 1) := by decide +kernel
theorem dX3_planFor_0 : decode cX3_planFor 0 = .ok (.aload_n 0, 1) := by decide +kernel
theorem dX3_planFor_1 : decode cX3_planFor 1 = .ok (.getfield 9, 3) := by decide +kernel
theorem dX3_planFor_4 : decode cX3_planFor 4 = .ok (.istore_n 2, 1) := by decide +kernel
theorem dX3_planFor_5 : decode cX3_planFor 5 = .ok (.aload_n 0, 1) := by decide +kernel
theorem dX3_planFor_6 : decode cX3_planFor 6 = .ok (.iload_n 1, 1) := by decide +kernel
theorem dX3_planFor_7 : decode cX3_planFor 7 = .ok (.putfield 9, 3) := by decide +kernel
theorem dX3_planFor_10 : decode cX3_planFor 10 = .ok (.iload_n 2, 1) := by decide +kernel
theorem dX3_planFor_11 : decode cX3_planFor 11 = .ok (.ireturn, 1) := by decide +kernel
theorem dX3_comeIn_0 : decode cX3_comeIn 0 = .ok (.aload_n 0, 1) := by decide +kernel
theorem dX3_comeIn_1 : decode cX3_comeIn 1 = .ok (.bipush 121, 2) := by decide +kernel
theorem dX3_comeIn_3 : decode cX3_comeIn 3 = .ok (.putfield 15, 3) := by decide +kernel
theorem dX3_comeIn_6 : decode cX3_comeIn 6 = .ok (.aload_n 0, 1) := by decide +kernel
theorem dX3_comeIn_7 : decode cX3_comeIn 7 = .ok (.iload_n 1, 1) := by decide +kernel
theorem dX3_comeIn_8 : decode cX3_comeIn 8 = .ok (.putfield 42, 3) := by decide +kernel
theorem dX3_comeIn_11 : decode cX3_comeIn 11 = .ok (.return_, 1) := by decide +kernel
theorem dX3_goAway_0 : decode cX3_goAway 0 = .ok (.aload_n 0, 1) := by decide +kernel
theorem dX3_goAway_1 : decode cX3_goAway 1 = .ok (.bipush 108, 2) := by decide +kernel
theorem dX3_goAway_3 : decode cX3_goAway 3 = .ok (.putfield 15, 3) := by decide +kernel
theorem dX3_goAway_6 : decode cX3_goAway 6 = .ok (.aload_n 0, 1) := by decide +kernel
theorem dX3_goAway_7 : decode cX3_goAway 7 = .ok (.iload_n 1, 1) := by decide +kernel
theorem dX3_goAway_8 : decode cX3_goAway 8 = .ok (.putfield 45, 3) := by decide +kernel
theorem dX3_goAway_11 : decode cX3_goAway 11 = .ok (.return_, 1) := by decide +kernel
theorem dX3_waitsOnItsOwn_0 : decode cX3_waitsOnItsOwn 0 = .ok (.iload_n 1, 1) := by decide +kernel
theorem dX3_waitsOnItsOwn_1 : decode cX3_waitsOnItsOwn 1 = .ok (.aload_n 0, 1) := by decide +kernel
theorem dX3_waitsOnItsOwn_2 : decode cX3_waitsOnItsOwn 2 = .ok (.getfield 36, 3) := by decide +kernel
theorem dX3_waitsOnItsOwn_5 : decode cX3_waitsOnItsOwn 5 = .ok (.if_icmp .lt 22, 3) := by decide +kernel
theorem dX3_waitsOnItsOwn_8 : decode cX3_waitsOnItsOwn 8 = .ok (.aload_n 0, 1) := by decide +kernel
theorem dX3_waitsOnItsOwn_9 : decode cX3_waitsOnItsOwn 9 = .ok (.getfield 48, 3) := by decide +kernel
theorem dX3_waitsOnItsOwn_12 : decode cX3_waitsOnItsOwn 12 = .ok (.aload_n 0, 1) := by decide +kernel
theorem dX3_waitsOnItsOwn_13 : decode cX3_waitsOnItsOwn 13 = .ok (.getfield 32, 3) := by decide +kernel
theorem dX3_waitsOnItsOwn_16 : decode cX3_waitsOnItsOwn 16 = .ok (.ifCond .eq 7, 3) := by decide +kernel
theorem dX3_waitsOnItsOwn_19 : decode cX3_waitsOnItsOwn 19 = .ok (.iconst 0, 1) := by decide +kernel
theorem dX3_waitsOnItsOwn_20 : decode cX3_waitsOnItsOwn 20 = .ok (.goto 4, 3) := by decide +kernel
theorem dX3_waitsOnItsOwn_23 : decode cX3_waitsOnItsOwn 23 = .ok (.iconst 5, 1) := by decide +kernel
theorem dX3_waitsOnItsOwn_24 : decode cX3_waitsOnItsOwn 24 = .ok (.if_icmp .ge 7, 3) := by decide +kernel
theorem dX3_waitsOnItsOwn_27 : decode cX3_waitsOnItsOwn 27 = .ok (.iconst 1, 1) := by decide +kernel
theorem dX3_waitsOnItsOwn_28 : decode cX3_waitsOnItsOwn 28 = .ok (.goto 4, 3) := by decide +kernel
theorem dX3_waitsOnItsOwn_31 : decode cX3_waitsOnItsOwn 31 = .ok (.iconst 0, 1) := by decide +kernel
theorem dX3_waitsOnItsOwn_32 : decode cX3_waitsOnItsOwn 32 = .ok (.ireturn, 1) := by decide +kernel
theorem dX3_waitOwedBy_0 : decode cX3_waitOwedBy 0 = .ok (.aload_n 0, 1) := by decide +kernel
theorem dX3_waitOwedBy_1 : decode cX3_waitOwedBy 1 = .ok (.dup, 1) := by decide +kernel
theorem dX3_waitOwedBy_2 : decode cX3_waitOwedBy 2 = .ok (.getfield 48, 3) := by decide +kernel
theorem dX3_waitOwedBy_5 : decode cX3_waitOwedBy 5 = .ok (.iconst 1, 1) := by decide +kernel
theorem dX3_waitOwedBy_6 : decode cX3_waitOwedBy 6 = .ok (.iadd, 1) := by decide +kernel
theorem dX3_waitOwedBy_7 : decode cX3_waitOwedBy 7 = .ok (.putfield 48, 3) := by decide +kernel
theorem dX3_waitOwedBy_10 : decode cX3_waitOwedBy 10 = .ok (.aload_n 0, 1) := by decide +kernel
theorem dX3_waitOwedBy_11 : decode cX3_waitOwedBy 11 = .ok (.iload_n 1, 1) := by decide +kernel
theorem dX3_waitOwedBy_12 : decode cX3_waitOwedBy 12 = .ok (.putfield 19, 3) := by decide +kernel
theorem dX3_waitOwedBy_15 : decode cX3_waitOwedBy 15 = .ok (.iload_n 1, 1) := by decide +kernel
theorem dX3_waitOwedBy_16 : decode cX3_waitOwedBy 16 = .ok (.iconst 1, 1) := by decide +kernel
theorem dX3_waitOwedBy_17 : decode cX3_waitOwedBy 17 = .ok (.iadd, 1) := by decide +kernel
theorem dX3_waitOwedBy_18 : decode cX3_waitOwedBy 18 = .ok (.istore_n 2, 1) := by decide +kernel
theorem dX3_waitOwedBy_19 : decode cX3_waitOwedBy 19 = .ok (.iload_n 1, 1) := by decide +kernel
theorem dX3_waitOwedBy_20 : decode cX3_waitOwedBy 20 = .ok (.bipush (-2), 2) := by decide +kernel
theorem dX3_waitOwedBy_22 : decode cX3_waitOwedBy 22 = .ok (.if_icmp .ne 16, 3) := by decide +kernel
theorem dX3_waitOwedBy_25 : decode cX3_waitOwedBy 25 = .ok (.aload_n 0, 1) := by decide +kernel
theorem dX3_waitOwedBy_26 : decode cX3_waitOwedBy 26 = .ok (.dup, 1) := by decide +kernel
theorem dX3_waitOwedBy_27 : decode cX3_waitOwedBy 27 = .ok (.getfield 51, 3) := by decide +kernel
theorem dX3_waitOwedBy_30 : decode cX3_waitOwedBy 30 = .ok (.iconst 1, 1) := by decide +kernel
theorem dX3_waitOwedBy_31 : decode cX3_waitOwedBy 31 = .ok (.iadd, 1) := by decide +kernel
theorem dX3_waitOwedBy_32 : decode cX3_waitOwedBy 32 = .ok (.putfield 51, 3) := by decide +kernel
theorem dX3_waitOwedBy_35 : decode cX3_waitOwedBy 35 = .ok (.goto 26, 3) := by decide +kernel
theorem dX3_waitOwedBy_38 : decode cX3_waitOwedBy 38 = .ok (.iload_n 2, 1) := by decide +kernel
theorem dX3_waitOwedBy_39 : decode cX3_waitOwedBy 39 = .ok (.ifCond .lt 22, 3) := by decide +kernel
theorem dX3_waitOwedBy_42 : decode cX3_waitOwedBy 42 = .ok (.iload_n 2, 1) := by decide +kernel
theorem dX3_waitOwedBy_43 : decode cX3_waitOwedBy 43 = .ok (.aload_n 0, 1) := by decide +kernel
theorem dX3_waitOwedBy_44 : decode cX3_waitOwedBy 44 = .ok (.getfield 25, 3) := by decide +kernel
theorem dX3_waitOwedBy_47 : decode cX3_waitOwedBy 47 = .ok (.arraylength, 1) := by decide +kernel
theorem dX3_waitOwedBy_48 : decode cX3_waitOwedBy 48 = .ok (.if_icmp .ge 13, 3) := by decide +kernel
theorem dX3_waitOwedBy_51 : decode cX3_waitOwedBy 51 = .ok (.aload_n 0, 1) := by decide +kernel
theorem dX3_waitOwedBy_52 : decode cX3_waitOwedBy 52 = .ok (.getfield 25, 3) := by decide +kernel
theorem dX3_waitOwedBy_55 : decode cX3_waitOwedBy 55 = .ok (.iload_n 2, 1) := by decide +kernel
theorem dX3_waitOwedBy_56 : decode cX3_waitOwedBy 56 = .ok (.dup2, 1) := by decide +kernel
theorem dX3_waitOwedBy_57 : decode cX3_waitOwedBy 57 = .ok (.iaload, 1) := by decide +kernel
theorem dX3_waitOwedBy_58 : decode cX3_waitOwedBy 58 = .ok (.iconst 1, 1) := by decide +kernel
theorem dX3_waitOwedBy_59 : decode cX3_waitOwedBy 59 = .ok (.iadd, 1) := by decide +kernel
theorem dX3_waitOwedBy_60 : decode cX3_waitOwedBy 60 = .ok (.iastore, 1) := by decide +kernel
theorem dX3_waitOwedBy_61 : decode cX3_waitOwedBy 61 = .ok (.return_, 1) := by decide +kernel
theorem dX3_minutesFrom_0 : decode cX3_minutesFrom 0 = .ok (.iload_n 1, 1) := by decide +kernel
theorem dX3_minutesFrom_1 : decode cX3_minutesFrom 1 = .ok (.iconst 1, 1) := by decide +kernel
theorem dX3_minutesFrom_2 : decode cX3_minutesFrom 2 = .ok (.iadd, 1) := by decide +kernel
theorem dX3_minutesFrom_3 : decode cX3_minutesFrom 3 = .ok (.istore_n 2, 1) := by decide +kernel
theorem dX3_minutesFrom_4 : decode cX3_minutesFrom 4 = .ok (.iload_n 2, 1) := by decide +kernel
theorem dX3_minutesFrom_5 : decode cX3_minutesFrom 5 = .ok (.ifCond .lt 21, 3) := by decide +kernel
theorem dX3_minutesFrom_8 : decode cX3_minutesFrom 8 = .ok (.iload_n 2, 1) := by decide +kernel
theorem dX3_minutesFrom_9 : decode cX3_minutesFrom 9 = .ok (.aload_n 0, 1) := by decide +kernel
theorem dX3_minutesFrom_10 : decode cX3_minutesFrom 10 = .ok (.getfield 25, 3) := by decide +kernel
theorem dX3_minutesFrom_13 : decode cX3_minutesFrom 13 = .ok (.arraylength, 1) := by decide +kernel
theorem dX3_minutesFrom_14 : decode cX3_minutesFrom 14 = .ok (.if_icmp .ge 12, 3) := by decide +kernel
theorem dX3_minutesFrom_17 : decode cX3_minutesFrom 17 = .ok (.aload_n 0, 1) := by decide +kernel
theorem dX3_minutesFrom_18 : decode cX3_minutesFrom 18 = .ok (.getfield 25, 3) := by decide +kernel
theorem dX3_minutesFrom_21 : decode cX3_minutesFrom 21 = .ok (.iload_n 2, 1) := by decide +kernel
theorem dX3_minutesFrom_22 : decode cX3_minutesFrom 22 = .ok (.iaload, 1) := by decide +kernel
theorem dX3_minutesFrom_23 : decode cX3_minutesFrom 23 = .ok (.goto 4, 3) := by decide +kernel
theorem dX3_minutesFrom_26 : decode cX3_minutesFrom 26 = .ok (.iconst 0, 1) := by decide +kernel
theorem dX3_minutesFrom_27 : decode cX3_minutesFrom 27 = .ok (.ireturn, 1) := by decide +kernel
set_option maxRecDepth 20000 in
theorem ggX3_centsFrom_X3_minutesFrom : GoodIn wsX3_centsFrom wsX3_minutesFrom := goodIn_ca (goodIn_r _ [6, 7, 8, 9, 10, 11, 12, 13, 14, 15, 16, 17, 18, 19, 20, 21, 22] (by decide +kernel) (by decide +kernel)) (goodIn_sub (fun _ h => List.mem_cons_of_mem _ (List.mem_append_right _ h)) (by decide +kernel))
set_option maxRecDepth 20000 in
theorem gX3_centsFrom_X3_minutesFrom : GoodIn wsX3_centsFrom (wsV RX3 54 RX3 yX3_minutesFrom wsX3_minutesFrom) := goodIn_app (goodIn_of _ (by decide +kernel)) ggX3_centsFrom_X3_minutesFrom
theorem dX3_centsFrom_0 : decode cX3_centsFrom 0 = .ok (.aload_n 0, 1) := by decide +kernel
theorem dX3_centsFrom_1 : decode cX3_centsFrom 1 = .ok (.iload_n 1, 1) := by decide +kernel
theorem dX3_centsFrom_2 : decode cX3_centsFrom 2 = .ok (.invokevirtual 54, 3) := by decide +kernel
theorem dX3_centsFrom_5 : decode cX3_centsFrom 5 = .ok (.aload_n 0, 1) := by decide +kernel
theorem dX3_centsFrom_6 : decode cX3_centsFrom 6 = .ok (.getfield 39, 3) := by decide +kernel
theorem dX3_centsFrom_9 : decode cX3_centsFrom 9 = .ok (.imul, 1) := by decide +kernel
theorem dX3_centsFrom_10 : decode cX3_centsFrom 10 = .ok (.ireturn, 1) := by decide +kernel
theorem dX3_owedMinutes_0 : decode cX3_owedMinutes 0 = .ok (.iconst 0, 1) := by decide +kernel
theorem dX3_owedMinutes_1 : decode cX3_owedMinutes 1 = .ok (.istore_n 1, 1) := by decide +kernel
theorem dX3_owedMinutes_2 : decode cX3_owedMinutes 2 = .ok (.aload_n 0, 1) := by decide +kernel
theorem dX3_owedMinutes_3 : decode cX3_owedMinutes 3 = .ok (.getfield 25, 3) := by decide +kernel
theorem dX3_owedMinutes_6 : decode cX3_owedMinutes 6 = .ok (.astore_n 2, 1) := by decide +kernel
theorem dX3_owedMinutes_7 : decode cX3_owedMinutes 7 = .ok (.aload_n 2, 1) := by decide +kernel
theorem dX3_owedMinutes_8 : decode cX3_owedMinutes 8 = .ok (.arraylength, 1) := by decide +kernel
theorem dX3_owedMinutes_9 : decode cX3_owedMinutes 9 = .ok (.istore_n 3, 1) := by decide +kernel
theorem dX3_owedMinutes_10 : decode cX3_owedMinutes 10 = .ok (.iconst 0, 1) := by decide +kernel
theorem dX3_owedMinutes_11 : decode cX3_owedMinutes 11 = .ok (.istore 4, 2) := by decide +kernel
theorem dX3_owedMinutes_13 : decode cX3_owedMinutes 13 = .ok (.iload 4, 2) := by decide +kernel
theorem dX3_owedMinutes_15 : decode cX3_owedMinutes 15 = .ok (.iload_n 3, 1) := by decide +kernel
theorem dX3_owedMinutes_16 : decode cX3_owedMinutes 16 = .ok (.if_icmp .ge 20, 3) := by decide +kernel
theorem dX3_owedMinutes_19 : decode cX3_owedMinutes 19 = .ok (.aload_n 2, 1) := by decide +kernel
theorem dX3_owedMinutes_20 : decode cX3_owedMinutes 20 = .ok (.iload 4, 2) := by decide +kernel
theorem dX3_owedMinutes_22 : decode cX3_owedMinutes 22 = .ok (.iaload, 1) := by decide +kernel
theorem dX3_owedMinutes_23 : decode cX3_owedMinutes 23 = .ok (.istore 5, 2) := by decide +kernel
theorem dX3_owedMinutes_25 : decode cX3_owedMinutes 25 = .ok (.iload_n 1, 1) := by decide +kernel
theorem dX3_owedMinutes_26 : decode cX3_owedMinutes 26 = .ok (.iload 5, 2) := by decide +kernel
theorem dX3_owedMinutes_28 : decode cX3_owedMinutes 28 = .ok (.iadd, 1) := by decide +kernel
theorem dX3_owedMinutes_29 : decode cX3_owedMinutes 29 = .ok (.istore_n 1, 1) := by decide +kernel
theorem dX3_owedMinutes_30 : decode cX3_owedMinutes 30 = .ok (.iinc 4 1, 3) := by decide +kernel
theorem dX3_owedMinutes_33 : decode cX3_owedMinutes 33 = .ok (.goto (-20), 3) := by decide +kernel
theorem dX3_owedMinutes_36 : decode cX3_owedMinutes 36 = .ok (.iload_n 1, 1) := by decide +kernel
theorem dX3_owedMinutes_37 : decode cX3_owedMinutes 37 = .ok (.ireturn, 1) := by decide +kernel
set_option maxRecDepth 20000 in
theorem ggX4_init_Jx4a65c_size_8abf5 : GoodIn wsX4_init wsJx4a65c_size_8abf5 := goodIn_r _ [33, 34, 85, 86, 87] (by decide +kernel) (by decide +kernel)
set_option maxRecDepth 20000 in
theorem gX4_init_Jx4a65c_size_8abf5 : GoodIn wsX4_init (wsV RX4 35 RJx4a65c yJx4a65c_size_8abf5 wsJx4a65c_size_8abf5) := goodIn_app (goodIn_of _ (by decide +kernel)) ggX4_init_Jx4a65c_size_8abf5
set_option maxRecDepth 20000 in
theorem ggX4_init_Jx4a65c_get_915e3 : GoodIn wsX4_init wsJx4a65c_get_915e3 := goodIn_r _ [38, 34, 39, 40, 41, 42, 43, 44, 45, 46, 47, 48, 49, 32, 50, 51, 85, 86, 87] (by decide +kernel) (by decide +kernel)
set_option maxRecDepth 20000 in
theorem gX4_init_Jx4a65c_get_915e3 : GoodIn wsX4_init (wsV RX4 50 RJx4a65c yJx4a65c_get_915e3 wsJx4a65c_get_915e3) := goodIn_app (goodIn_of _ (by decide +kernel)) ggX4_init_Jx4a65c_get_915e3
theorem dX4_init_0 : decode cX4_init 0 = .ok (.aload_n 0, 1) := by decide +kernel
theorem dX4_init_1 : decode cX4_init 1 = .ok (.invokespecial 3, 3) := by decide +kernel
theorem dX4_init_4 : decode cX4_init 4 = .ok (.aload_n 0, 1) := by decide +kernel
theorem dX4_init_5 : decode cX4_init 5 = .ok (.bipush 8, 2) := by decide +kernel
theorem dX4_init_7 : decode cX4_init 7 = .ok (.newarray .boolean, 2) := by decide +kernel
theorem dX4_init_9 : decode cX4_init 9 = .ok (.putfield 9, 3) := by decide +kernel
theorem dX4_init_12 : decode cX4_init 12 = .ok (.aload_n 0, 1) := by decide +kernel
theorem dX4_init_13 : decode cX4_init 13 = .ok (.bipush 8, 2) := by decide +kernel
theorem dX4_init_15 : decode cX4_init 15 = .ok (.newarray .int, 2) := by decide +kernel
theorem dX4_init_17 : decode cX4_init 17 = .ok (.putfield 15, 3) := by decide +kernel
theorem dX4_init_20 : decode cX4_init 20 = .ok (.aload_n 0, 1) := by decide +kernel
theorem dX4_init_21 : decode cX4_init 21 = .ok (.bipush 8, 2) := by decide +kernel
theorem dX4_init_23 : decode cX4_init 23 = .ok (.newarray .int, 2) := by decide +kernel
theorem dX4_init_25 : decode cX4_init 25 = .ok (.putfield 19, 3) := by decide +kernel
theorem dX4_init_28 : decode cX4_init 28 = .ok (.aload_n 0, 1) := by decide +kernel
theorem dX4_init_29 : decode cX4_init 29 = .ok (.bipush 64, 2) := by decide +kernel
theorem dX4_init_31 : decode cX4_init 31 = .ok (.newarray .int, 2) := by decide +kernel
theorem dX4_init_33 : decode cX4_init 33 = .ok (.putfield 22, 3) := by decide +kernel
theorem dX4_init_36 : decode cX4_init 36 = .ok (.aload_n 0, 1) := by decide +kernel
theorem dX4_init_37 : decode cX4_init 37 = .ok (.sipush 6336, 3) := by decide +kernel
theorem dX4_init_40 : decode cX4_init 40 = .ok (.putfield 25, 3) := by decide +kernel
theorem dX4_init_43 : decode cX4_init 43 = .ok (.aload_n 0, 1) := by decide +kernel
theorem dX4_init_44 : decode cX4_init 44 = .ok (.aload_n 1, 1) := by decide +kernel
theorem dX4_init_45 : decode cX4_init 45 = .ok (.getfield 29, 3) := by decide +kernel
theorem dX4_init_48 : decode cX4_init 48 = .ok (.invokevirtual 35, 3) := by decide +kernel
theorem dX4_init_51 : decode cX4_init 51 = .ok (.bipush 8, 2) := by decide +kernel
theorem dX4_init_53 : decode cX4_init 53 = .ok (.invokestatic 41, 3) := by decide +kernel
theorem dX4_init_56 : decode cX4_init 56 = .ok (.putfield 47, 3) := by decide +kernel
theorem dX4_init_59 : decode cX4_init 59 = .ok (.iconst 0, 1) := by decide +kernel
theorem dX4_init_60 : decode cX4_init 60 = .ok (.istore_n 2, 1) := by decide +kernel
theorem dX4_init_61 : decode cX4_init 61 = .ok (.iload_n 2, 1) := by decide +kernel
theorem dX4_init_62 : decode cX4_init 62 = .ok (.aload_n 0, 1) := by decide +kernel
theorem dX4_init_63 : decode cX4_init 63 = .ok (.getfield 47, 3) := by decide +kernel
theorem dX4_init_66 : decode cX4_init 66 = .ok (.if_icmp .ge 51, 3) := by decide +kernel
theorem dX4_init_69 : decode cX4_init 69 = .ok (.aload_n 1, 1) := by decide +kernel
theorem dX4_init_70 : decode cX4_init 70 = .ok (.getfield 29, 3) := by decide +kernel
theorem dX4_init_73 : decode cX4_init 73 = .ok (.iload_n 2, 1) := by decide +kernel
theorem dX4_init_74 : decode cX4_init 74 = .ok (.invokevirtual 50, 3) := by decide +kernel
theorem dX4_init_77 : decode cX4_init 77 = .ok (.checkcast 54, 3) := by decide +kernel
theorem dX4_init_80 : decode cX4_init 80 = .ok (.astore_n 3, 1) := by decide +kernel
theorem dX4_init_81 : decode cX4_init 81 = .ok (.aload_n 0, 1) := by decide +kernel
theorem dX4_init_82 : decode cX4_init 82 = .ok (.getfield 9, 3) := by decide +kernel
theorem dX4_init_85 : decode cX4_init 85 = .ok (.iload_n 2, 1) := by decide +kernel
theorem dX4_init_86 : decode cX4_init 86 = .ok (.aload_n 3, 1) := by decide +kernel
theorem dX4_init_87 : decode cX4_init 87 = .ok (.getfield 56, 3) := by decide +kernel
theorem dX4_init_90 : decode cX4_init 90 = .ok (.bipush 101, 2) := by decide +kernel
theorem dX4_init_92 : decode cX4_init 92 = .ok (.if_icmp .ne 7, 3) := by decide +kernel
theorem dX4_init_95 : decode cX4_init 95 = .ok (.iconst 1, 1) := by decide +kernel
theorem dX4_init_96 : decode cX4_init 96 = .ok (.goto 4, 3) := by decide +kernel
theorem dX4_init_99 : decode cX4_init 99 = .ok (.iconst 0, 1) := by decide +kernel
theorem dX4_init_100 : decode cX4_init 100 = .ok (.bastore, 1) := by decide +kernel
theorem dX4_init_101 : decode cX4_init 101 = .ok (.aload_n 0, 1) := by decide +kernel
theorem dX4_init_102 : decode cX4_init 102 = .ok (.getfield 15, 3) := by decide +kernel
theorem dX4_init_105 : decode cX4_init 105 = .ok (.iload_n 2, 1) := by decide +kernel
theorem dX4_init_106 : decode cX4_init 106 = .ok (.aload_n 3, 1) := by decide +kernel
theorem dX4_init_107 : decode cX4_init 107 = .ok (.getfield 60, 3) := by decide +kernel
theorem dX4_init_110 : decode cX4_init 110 = .ok (.iastore, 1) := by decide +kernel
theorem dX4_init_111 : decode cX4_init 111 = .ok (.iinc 2 1, 3) := by decide +kernel
theorem dX4_init_114 : decode cX4_init 114 = .ok (.goto (-53), 3) := by decide +kernel
theorem dX4_init_117 : decode cX4_init 117 = .ok (.iconst 0, 1) := by decide +kernel
theorem dX4_init_118 : decode cX4_init 118 = .ok (.istore_n 2, 1) := by decide +kernel
theorem dX4_init_119 : decode cX4_init 119 = .ok (.iload_n 2, 1) := by decide +kernel
theorem dX4_init_120 : decode cX4_init 120 = .ok (.aload_n 1, 1) := by decide +kernel
theorem dX4_init_121 : decode cX4_init 121 = .ok (.getfield 63, 3) := by decide +kernel
theorem dX4_init_124 : decode cX4_init 124 = .ok (.invokevirtual 35, 3) := by decide +kernel
theorem dX4_init_127 : decode cX4_init 127 = .ok (.if_icmp .ge 94, 3) := by decide +kernel
theorem dX4_init_130 : decode cX4_init 130 = .ok (.aload_n 1, 1) := by decide +kernel
theorem dX4_init_131 : decode cX4_init 131 = .ok (.getfield 63, 3) := by decide +kernel
theorem dX4_init_134 : decode cX4_init 134 = .ok (.iload_n 2, 1) := by decide +kernel
theorem dX4_init_135 : decode cX4_init 135 = .ok (.invokevirtual 50, 3) := by decide +kernel
theorem dX4_init_138 : decode cX4_init 138 = .ok (.checkcast 66, 3) := by decide +kernel
theorem dX4_init_141 : decode cX4_init 141 = .ok (.astore_n 3, 1) := by decide +kernel
theorem dX4_init_142 : decode cX4_init 142 = .ok (.aload_n 3, 1) := by decide +kernel
theorem dX4_init_143 : decode cX4_init 143 = .ok (.getfield 68, 3) := by decide +kernel
theorem dX4_init_146 : decode cX4_init 146 = .ok (.getfield 72, 3) := by decide +kernel
theorem dX4_init_149 : decode cX4_init 149 = .ok (.aload_n 3, 1) := by decide +kernel
theorem dX4_init_150 : decode cX4_init 150 = .ok (.getfield 75, 3) := by decide +kernel
theorem dX4_init_153 : decode cX4_init 153 = .ok (.getfield 72, 3) := by decide +kernel
theorem dX4_init_156 : decode cX4_init 156 = .ok (.invokestatic 41, 3) := by decide +kernel
theorem dX4_init_159 : decode cX4_init 159 = .ok (.istore 4, 2) := by decide +kernel
theorem dX4_init_161 : decode cX4_init 161 = .ok (.aload_n 3, 1) := by decide +kernel
theorem dX4_init_162 : decode cX4_init 162 = .ok (.getfield 68, 3) := by decide +kernel
theorem dX4_init_165 : decode cX4_init 165 = .ok (.getfield 72, 3) := by decide +kernel
theorem dX4_init_168 : decode cX4_init 168 = .ok (.aload_n 3, 1) := by decide +kernel
theorem dX4_init_169 : decode cX4_init 169 = .ok (.getfield 75, 3) := by decide +kernel
theorem dX4_init_172 : decode cX4_init 172 = .ok (.getfield 72, 3) := by decide +kernel
theorem dX4_init_175 : decode cX4_init 175 = .ok (.invokestatic 78, 3) := by decide +kernel
theorem dX4_init_178 : decode cX4_init 178 = .ok (.bipush 8, 2) := by decide +kernel
theorem dX4_init_180 : decode cX4_init 180 = .ok (.imul, 1) := by decide +kernel
theorem dX4_init_181 : decode cX4_init 181 = .ok (.iload 4, 2) := by decide +kernel
theorem dX4_init_183 : decode cX4_init 183 = .ok (.iadd, 1) := by decide +kernel
theorem dX4_init_184 : decode cX4_init 184 = .ok (.istore 5, 2) := by decide +kernel
theorem dX4_init_186 : decode cX4_init 186 = .ok (.iload 5, 2) := by decide +kernel
theorem dX4_init_188 : decode cX4_init 188 = .ok (.ifCond .lt 27, 3) := by decide +kernel
theorem dX4_init_191 : decode cX4_init 191 = .ok (.iload 5, 2) := by decide +kernel
theorem dX4_init_193 : decode cX4_init 193 = .ok (.aload_n 0, 1) := by decide +kernel
theorem dX4_init_194 : decode cX4_init 194 = .ok (.getfield 22, 3) := by decide +kernel
theorem dX4_init_197 : decode cX4_init 197 = .ok (.arraylength, 1) := by decide +kernel
theorem dX4_init_198 : decode cX4_init 198 = .ok (.if_icmp .ge 17, 3) := by decide +kernel
theorem dX4_init_201 : decode cX4_init 201 = .ok (.aload_n 0, 1) := by decide +kernel
theorem dX4_init_202 : decode cX4_init 202 = .ok (.getfield 22, 3) := by decide +kernel
theorem dX4_init_205 : decode cX4_init 205 = .ok (.iload 5, 2) := by decide +kernel
theorem dX4_init_207 : decode cX4_init 207 = .ok (.dup2, 1) := by decide +kernel
theorem dX4_init_208 : decode cX4_init 208 = .ok (.iaload, 1) := by decide +kernel
theorem dX4_init_209 : decode cX4_init 209 = .ok (.aload_n 3, 1) := by decide +kernel
theorem dX4_init_210 : decode cX4_init 210 = .ok (.getfield 81, 3) := by decide +kernel
theorem dX4_init_213 : decode cX4_init 213 = .ok (.iadd, 1) := by decide +kernel
theorem dX4_init_214 : decode cX4_init 214 = .ok (.iastore, 1) := by decide +kernel
theorem dX4_init_215 : decode cX4_init 215 = .ok (.iinc 2 1, 3) := by decide +kernel
theorem dX4_init_218 : decode cX4_init 218 = .ok (.goto (-99), 3) := by decide +kernel
theorem dX4_init_221 : decode cX4_init 221 = .ok (.return_, 1) := by decide +kernel
set_option maxRecDepth 20000 in
theorem ggX4_search_X4_keep : GoodIn wsX4_search wsX4_keep := goodIn_ca (goodIn_r _ [8, 1, 9, 3, 25, 26, 27, 28, 29, 30] (by decide +kernel) (by decide +kernel)) (goodIn_sub (fun _ h => List.mem_cons_of_mem _ (List.mem_append_right _ h)) (by decide +kernel))
set_option maxRecDepth 20000 in
theorem gX4_search_X4_keep : GoodIn wsX4_search (wsV RX4 84 RX4 yX4_keep wsX4_keep) := goodIn_app (goodIn_of _ (by decide +kernel)) ggX4_search_X4_keep
set_option maxRecDepth 20000 in
theorem ggX4_search_X4_isOpenAt : GoodIn wsX4_search wsX4_isOpenAt := goodIn_ca (goodIn_r _ [13, 14, 25, 26, 27, 28, 29, 30] (by decide +kernel) (by decide +kernel)) (goodIn_sub (fun _ h => List.mem_cons_of_mem _ (List.mem_append_right _ h)) (by decide +kernel))
set_option maxRecDepth 20000 in
theorem gX4_search_X4_isOpenAt : GoodIn wsX4_search (wsV RX4 88 RX4 yX4_isOpenAt wsX4_isOpenAt) := goodIn_app (goodIn_of _ (by decide +kernel)) ggX4_search_X4_isOpenAt
set_option maxRecDepth 20000 in
theorem ggX4_search_X4_waysToEarlier : GoodIn wsX4_search wsX4_waysToEarlier := goodIn_ca (goodIn_r _ [18, 3, 19, 20, 21, 22, 25, 26, 27, 28, 29, 30] (by decide +kernel) (by decide +kernel)) (goodIn_sub (fun _ h => List.mem_cons_of_mem _ (List.mem_append_right _ h)) (by decide +kernel))
set_option maxRecDepth 20000 in
theorem gX4_search_X4_waysToEarlier : GoodIn wsX4_search (wsV RX4 92 RX4 yX4_waysToEarlier wsX4_waysToEarlier) := goodIn_app (goodIn_of _ (by decide +kernel)) ggX4_search_X4_waysToEarlier
set_option maxRecDepth 20000 in
theorem ggX4_search_X4_search : GoodIn wsX4_search wsX4_search := goodIn_ca (goodIn_r _ [0, 1, 2, 3, 4, 5, 6, 7, 8, 9, 10, 11, 12, 13, 14, 15, 16, 17, 18, 19, 20, 21, 22, 23, 24, 25, 26, 27, 28, 29, 30] (by decide +kernel) (by decide +kernel)) (goodIn_sub (fun _ h => List.mem_cons_of_mem _ (List.mem_append_right _ h)) (by decide +kernel))
set_option maxRecDepth 20000 in
theorem gX4_search_X4_search : GoodIn wsX4_search (va_wsS RX4 96 yX4_search wsX4_search) := goodIn_app (goodIn_of _ (by decide +kernel)) ggX4_search_X4_search
theorem dX4_search_0 : decode cX4_search 0 = .ok (.iload_n 2, 1) := by decide +kernel
theorem dX4_search_1 : decode cX4_search 1 = .ok (.aload_n 0, 1) := by decide +kernel
theorem dX4_search_2 : decode cX4_search 2 = .ok (.getfield 25, 3) := by decide +kernel
theorem dX4_search_5 : decode cX4_search 5 = .ok (.if_icmp .lt 4, 3) := by decide +kernel
theorem dX4_search_8 : decode cX4_search 8 = .ok (.return_, 1) := by decide +kernel
theorem dX4_search_9 : decode cX4_search 9 = .ok (.iload_n 1, 1) := by decide +kernel
theorem dX4_search_10 : decode cX4_search 10 = .ok (.ifCond .lt 20, 3) := by decide +kernel
theorem dX4_search_13 : decode cX4_search 13 = .ok (.iload_n 1, 1) := by decide +kernel
theorem dX4_search_14 : decode cX4_search 14 = .ok (.aload_n 0, 1) := by decide +kernel
theorem dX4_search_15 : decode cX4_search 15 = .ok (.getfield 47, 3) := by decide +kernel
theorem dX4_search_18 : decode cX4_search 18 = .ok (.if_icmp .ge 12, 3) := by decide +kernel
theorem dX4_search_21 : decode cX4_search 21 = .ok (.iload_n 1, 1) := by decide +kernel
theorem dX4_search_22 : decode cX4_search 22 = .ok (.aload_n 0, 1) := by decide +kernel
theorem dX4_search_23 : decode cX4_search 23 = .ok (.getfield 15, 3) := by decide +kernel
theorem dX4_search_26 : decode cX4_search 26 = .ok (.arraylength, 1) := by decide +kernel
theorem dX4_search_27 : decode cX4_search 27 = .ok (.if_icmp .lt 11, 3) := by decide +kernel
theorem dX4_search_30 : decode cX4_search 30 = .ok (.aload_n 0, 1) := by decide +kernel
theorem dX4_search_31 : decode cX4_search 31 = .ok (.iload_n 2, 1) := by decide +kernel
theorem dX4_search_32 : decode cX4_search 32 = .ok (.invokevirtual 84, 3) := by decide +kernel
theorem dX4_search_35 : decode cX4_search 35 = .ok (.goto 62, 3) := by decide +kernel
theorem dX4_search_38 : decode cX4_search 38 = .ok (.aload_n 0, 1) := by decide +kernel
theorem dX4_search_39 : decode cX4_search 39 = .ok (.iload_n 1, 1) := by decide +kernel
theorem dX4_search_40 : decode cX4_search 40 = .ok (.invokevirtual 88, 3) := by decide +kernel
theorem dX4_search_43 : decode cX4_search 43 = .ok (.ifCond .ne 20, 3) := by decide +kernel
theorem dX4_search_46 : decode cX4_search 46 = .ok (.aload_n 0, 1) := by decide +kernel
theorem dX4_search_47 : decode cX4_search 47 = .ok (.iload_n 1, 1) := by decide +kernel
theorem dX4_search_48 : decode cX4_search 48 = .ok (.iconst 1, 1) := by decide +kernel
theorem dX4_search_49 : decode cX4_search 49 = .ok (.iadd, 1) := by decide +kernel
theorem dX4_search_50 : decode cX4_search 50 = .ok (.iload_n 2, 1) := by decide +kernel
theorem dX4_search_51 : decode cX4_search 51 = .ok (.aload_n 0, 1) := by decide +kernel
theorem dX4_search_52 : decode cX4_search 52 = .ok (.iload_n 1, 1) := by decide +kernel
theorem dX4_search_53 : decode cX4_search 53 = .ok (.invokevirtual 92, 3) := by decide +kernel
theorem dX4_search_56 : decode cX4_search 56 = .ok (.iadd, 1) := by decide +kernel
theorem dX4_search_57 : decode cX4_search 57 = .ok (.invokestatic 96, 3) := by decide +kernel
theorem dX4_search_60 : decode cX4_search 60 = .ok (.goto 37, 3) := by decide +kernel
theorem dX4_search_63 : decode cX4_search 63 = .ok (.iconst 0, 1) := by decide +kernel
theorem dX4_search_64 : decode cX4_search 64 = .ok (.istore_n 3, 1) := by decide +kernel
theorem dX4_search_65 : decode cX4_search 65 = .ok (.iload_n 3, 1) := by decide +kernel
theorem dX4_search_66 : decode cX4_search 66 = .ok (.iconst 4, 1) := by decide +kernel
theorem dX4_search_67 : decode cX4_search 67 = .ok (.if_icmp .ge 30, 3) := by decide +kernel
theorem dX4_search_70 : decode cX4_search 70 = .ok (.aload_n 0, 1) := by decide +kernel
theorem dX4_search_71 : decode cX4_search 71 = .ok (.getfield 15, 3) := by decide +kernel
theorem dX4_search_74 : decode cX4_search 74 = .ok (.iload_n 1, 1) := by decide +kernel
theorem dX4_search_75 : decode cX4_search 75 = .ok (.iload_n 3, 1) := by decide +kernel
theorem dX4_search_76 : decode cX4_search 76 = .ok (.iastore, 1) := by decide +kernel
theorem dX4_search_77 : decode cX4_search 77 = .ok (.aload_n 0, 1) := by decide +kernel
theorem dX4_search_78 : decode cX4_search 78 = .ok (.iload_n 1, 1) := by decide +kernel
theorem dX4_search_79 : decode cX4_search 79 = .ok (.iconst 1, 1) := by decide +kernel
theorem dX4_search_80 : decode cX4_search 80 = .ok (.iadd, 1) := by decide +kernel
theorem dX4_search_81 : decode cX4_search 81 = .ok (.iload_n 2, 1) := by decide +kernel
theorem dX4_search_82 : decode cX4_search 82 = .ok (.aload_n 0, 1) := by decide +kernel
theorem dX4_search_83 : decode cX4_search 83 = .ok (.iload_n 1, 1) := by decide +kernel
theorem dX4_search_84 : decode cX4_search 84 = .ok (.invokevirtual 92, 3) := by decide +kernel
theorem dX4_search_87 : decode cX4_search 87 = .ok (.iadd, 1) := by decide +kernel
theorem dX4_search_88 : decode cX4_search 88 = .ok (.invokestatic 96, 3) := by decide +kernel
theorem dX4_search_91 : decode cX4_search 91 = .ok (.iinc 3 1, 3) := by decide +kernel
theorem dX4_search_94 : decode cX4_search 94 = .ok (.goto (-29), 3) := by decide +kernel
theorem dX4_search_97 : decode cX4_search 97 = .ok (.return_, 1) := by decide +kernel
theorem dX4_isOpenAt_0 : decode cX4_isOpenAt 0 = .ok (.iload_n 1, 1) := by decide +kernel
theorem dX4_isOpenAt_1 : decode cX4_isOpenAt 1 = .ok (.ifCond .lt 25, 3) := by decide +kernel
theorem dX4_isOpenAt_4 : decode cX4_isOpenAt 4 = .ok (.iload_n 1, 1) := by decide +kernel
theorem dX4_isOpenAt_5 : decode cX4_isOpenAt 5 = .ok (.aload_n 0, 1) := by decide +kernel
theorem dX4_isOpenAt_6 : decode cX4_isOpenAt 6 = .ok (.getfield 9, 3) := by decide +kernel
theorem dX4_isOpenAt_9 : decode cX4_isOpenAt 9 = .ok (.arraylength, 1) := by decide +kernel
theorem dX4_isOpenAt_10 : decode cX4_isOpenAt 10 = .ok (.if_icmp .ge 16, 3) := by decide +kernel
theorem dX4_isOpenAt_13 : decode cX4_isOpenAt 13 = .ok (.aload_n 0, 1) := by decide +kernel
theorem dX4_isOpenAt_14 : decode cX4_isOpenAt 14 = .ok (.getfield 9, 3) := by decide +kernel
theorem dX4_isOpenAt_17 : decode cX4_isOpenAt 17 = .ok (.iload_n 1, 1) := by decide +kernel
theorem dX4_isOpenAt_18 : decode cX4_isOpenAt 18 = .ok (.baload, 1) := by decide +kernel
theorem dX4_isOpenAt_19 : decode cX4_isOpenAt 19 = .ok (.ifCond .eq 7, 3) := by decide +kernel
theorem dX4_isOpenAt_22 : decode cX4_isOpenAt 22 = .ok (.iconst 1, 1) := by decide +kernel
theorem dX4_isOpenAt_23 : decode cX4_isOpenAt 23 = .ok (.goto 4, 3) := by decide +kernel
theorem dX4_isOpenAt_26 : decode cX4_isOpenAt 26 = .ok (.iconst 0, 1) := by decide +kernel
theorem dX4_isOpenAt_27 : decode cX4_isOpenAt 27 = .ok (.ireturn, 1) := by decide +kernel
set_option maxRecDepth 20000 in
theorem ggX4_waysToEarlier_X6_difference : GoodIn wsX4_waysToEarlier wsX6_difference := goodIn_r _ [5] (by decide +kernel) (by decide +kernel)
set_option maxRecDepth 20000 in
theorem gX4_waysToEarlier_X6_difference_n100 : GoodIn wsX4_waysToEarlier (wsX6_difference) := ggX4_waysToEarlier_X6_difference
theorem dX4_waysToEarlier_0 : decode cX4_waysToEarlier 0 = .ok (.iload_n 1, 1) := by decide +kernel
theorem dX4_waysToEarlier_1 : decode cX4_waysToEarlier 1 = .ok (.ifCond .lt 12, 3) := by decide +kernel
theorem dX4_waysToEarlier_4 : decode cX4_waysToEarlier 4 = .ok (.iload_n 1, 1) := by decide +kernel
theorem dX4_waysToEarlier_5 : decode cX4_waysToEarlier 5 = .ok (.aload_n 0, 1) := by decide +kernel
theorem dX4_waysToEarlier_6 : decode cX4_waysToEarlier 6 = .ok (.getfield 15, 3) := by decide +kernel
theorem dX4_waysToEarlier_9 : decode cX4_waysToEarlier 9 = .ok (.arraylength, 1) := by decide +kernel
theorem dX4_waysToEarlier_10 : decode cX4_waysToEarlier 10 = .ok (.if_icmp .lt 5, 3) := by decide +kernel
theorem dX4_waysToEarlier_13 : decode cX4_waysToEarlier 13 = .ok (.iconst 0, 1) := by decide +kernel
theorem dX4_waysToEarlier_14 : decode cX4_waysToEarlier 14 = .ok (.ireturn, 1) := by decide +kernel
theorem dX4_waysToEarlier_15 : decode cX4_waysToEarlier 15 = .ok (.iconst 0, 1) := by decide +kernel
theorem dX4_waysToEarlier_16 : decode cX4_waysToEarlier 16 = .ok (.istore_n 2, 1) := by decide +kernel
theorem dX4_waysToEarlier_17 : decode cX4_waysToEarlier 17 = .ok (.iconst 0, 1) := by decide +kernel
theorem dX4_waysToEarlier_18 : decode cX4_waysToEarlier 18 = .ok (.istore_n 3, 1) := by decide +kernel
theorem dX4_waysToEarlier_19 : decode cX4_waysToEarlier 19 = .ok (.iload_n 3, 1) := by decide +kernel
theorem dX4_waysToEarlier_20 : decode cX4_waysToEarlier 20 = .ok (.iload_n 1, 1) := by decide +kernel
theorem dX4_waysToEarlier_21 : decode cX4_waysToEarlier 21 = .ok (.if_icmp .ge 53, 3) := by decide +kernel
theorem dX4_waysToEarlier_24 : decode cX4_waysToEarlier 24 = .ok (.iload_n 1, 1) := by decide +kernel
theorem dX4_waysToEarlier_25 : decode cX4_waysToEarlier 25 = .ok (.bipush 8, 2) := by decide +kernel
theorem dX4_waysToEarlier_27 : decode cX4_waysToEarlier 27 = .ok (.imul, 1) := by decide +kernel
theorem dX4_waysToEarlier_28 : decode cX4_waysToEarlier 28 = .ok (.iload_n 3, 1) := by decide +kernel
theorem dX4_waysToEarlier_29 : decode cX4_waysToEarlier 29 = .ok (.iadd, 1) := by decide +kernel
theorem dX4_waysToEarlier_30 : decode cX4_waysToEarlier 30 = .ok (.istore 4, 2) := by decide +kernel
theorem dX4_waysToEarlier_32 : decode cX4_waysToEarlier 32 = .ok (.iload 4, 2) := by decide +kernel
theorem dX4_waysToEarlier_34 : decode cX4_waysToEarlier 34 = .ok (.aload_n 0, 1) := by decide +kernel
theorem dX4_waysToEarlier_35 : decode cX4_waysToEarlier 35 = .ok (.getfield 22, 3) := by decide +kernel
theorem dX4_waysToEarlier_38 : decode cX4_waysToEarlier 38 = .ok (.arraylength, 1) := by decide +kernel
theorem dX4_waysToEarlier_39 : decode cX4_waysToEarlier 39 = .ok (.if_icmp .ge 29, 3) := by decide +kernel
theorem dX4_waysToEarlier_42 : decode cX4_waysToEarlier 42 = .ok (.iload_n 2, 1) := by decide +kernel
theorem dX4_waysToEarlier_43 : decode cX4_waysToEarlier 43 = .ok (.aload_n 0, 1) := by decide +kernel
theorem dX4_waysToEarlier_44 : decode cX4_waysToEarlier 44 = .ok (.getfield 22, 3) := by decide +kernel
theorem dX4_waysToEarlier_47 : decode cX4_waysToEarlier 47 = .ok (.iload 4, 2) := by decide +kernel
theorem dX4_waysToEarlier_49 : decode cX4_waysToEarlier 49 = .ok (.iaload, 1) := by decide +kernel
theorem dX4_waysToEarlier_50 : decode cX4_waysToEarlier 50 = .ok (.aload_n 0, 1) := by decide +kernel
theorem dX4_waysToEarlier_51 : decode cX4_waysToEarlier 51 = .ok (.getfield 15, 3) := by decide +kernel
theorem dX4_waysToEarlier_54 : decode cX4_waysToEarlier 54 = .ok (.iload_n 1, 1) := by decide +kernel
theorem dX4_waysToEarlier_55 : decode cX4_waysToEarlier 55 = .ok (.iaload, 1) := by decide +kernel
theorem dX4_waysToEarlier_56 : decode cX4_waysToEarlier 56 = .ok (.aload_n 0, 1) := by decide +kernel
theorem dX4_waysToEarlier_57 : decode cX4_waysToEarlier 57 = .ok (.getfield 15, 3) := by decide +kernel
theorem dX4_waysToEarlier_60 : decode cX4_waysToEarlier 60 = .ok (.iload_n 3, 1) := by decide +kernel
theorem dX4_waysToEarlier_61 : decode cX4_waysToEarlier 61 = .ok (.iaload, 1) := by decide +kernel
theorem dX4_waysToEarlier_62 : decode cX4_waysToEarlier 62 = .ok (.invokestatic 100, 3) := by decide +kernel
theorem dX4_waysToEarlier_65 : decode cX4_waysToEarlier 65 = .ok (.imul, 1) := by decide +kernel
theorem dX4_waysToEarlier_66 : decode cX4_waysToEarlier 66 = .ok (.iadd, 1) := by decide +kernel
theorem dX4_waysToEarlier_67 : decode cX4_waysToEarlier 67 = .ok (.istore_n 2, 1) := by decide +kernel
theorem dX4_waysToEarlier_68 : decode cX4_waysToEarlier 68 = .ok (.iinc 3 1, 3) := by decide +kernel
theorem dX4_waysToEarlier_71 : decode cX4_waysToEarlier 71 = .ok (.goto (-52), 3) := by decide +kernel
theorem dX4_waysToEarlier_74 : decode cX4_waysToEarlier 74 = .ok (.iload_n 2, 1) := by decide +kernel
theorem dX4_waysToEarlier_75 : decode cX4_waysToEarlier 75 = .ok (.ireturn, 1) := by decide +kernel
theorem dX4_keep_0 : decode cX4_keep 0 = .ok (.aload_n 0, 1) := by decide +kernel
theorem dX4_keep_1 : decode cX4_keep 1 = .ok (.iload_n 1, 1) := by decide +kernel
theorem dX4_keep_2 : decode cX4_keep 2 = .ok (.putfield 25, 3) := by decide +kernel
theorem dX4_keep_5 : decode cX4_keep 5 = .ok (.iconst 0, 1) := by decide +kernel
theorem dX4_keep_6 : decode cX4_keep 6 = .ok (.istore_n 2, 1) := by decide +kernel
theorem dX4_keep_7 : decode cX4_keep 7 = .ok (.iload_n 2, 1) := by decide +kernel
theorem dX4_keep_8 : decode cX4_keep 8 = .ok (.aload_n 0, 1) := by decide +kernel
theorem dX4_keep_9 : decode cX4_keep 9 = .ok (.getfield 19, 3) := by decide +kernel
theorem dX4_keep_12 : decode cX4_keep 12 = .ok (.arraylength, 1) := by decide +kernel
theorem dX4_keep_13 : decode cX4_keep 13 = .ok (.if_icmp .ge 30, 3) := by decide +kernel
theorem dX4_keep_16 : decode cX4_keep 16 = .ok (.iload_n 2, 1) := by decide +kernel
theorem dX4_keep_17 : decode cX4_keep 17 = .ok (.aload_n 0, 1) := by decide +kernel
theorem dX4_keep_18 : decode cX4_keep 18 = .ok (.getfield 15, 3) := by decide +kernel
theorem dX4_keep_21 : decode cX4_keep 21 = .ok (.arraylength, 1) := by decide +kernel
theorem dX4_keep_22 : decode cX4_keep 22 = .ok (.if_icmp .ge 21, 3) := by decide +kernel
theorem dX4_keep_25 : decode cX4_keep 25 = .ok (.aload_n 0, 1) := by decide +kernel
theorem dX4_keep_26 : decode cX4_keep 26 = .ok (.getfield 19, 3) := by decide +kernel
theorem dX4_keep_29 : decode cX4_keep 29 = .ok (.iload_n 2, 1) := by decide +kernel
theorem dX4_keep_30 : decode cX4_keep 30 = .ok (.aload_n 0, 1) := by decide +kernel
theorem dX4_keep_31 : decode cX4_keep 31 = .ok (.getfield 15, 3) := by decide +kernel
theorem dX4_keep_34 : decode cX4_keep 34 = .ok (.iload_n 2, 1) := by decide +kernel
theorem dX4_keep_35 : decode cX4_keep 35 = .ok (.iaload, 1) := by decide +kernel
theorem dX4_keep_36 : decode cX4_keep 36 = .ok (.iastore, 1) := by decide +kernel
theorem dX4_keep_37 : decode cX4_keep 37 = .ok (.iinc 2 1, 3) := by decide +kernel
theorem dX4_keep_40 : decode cX4_keep 40 = .ok (.goto (-33), 3) := by decide +kernel
theorem dX4_keep_43 : decode cX4_keep 43 = .ok (.return_, 1) := by decide +kernel
theorem dX4_bestDoorOf_0 : decode cX4_bestDoorOf 0 = .ok (.iload_n 1, 1) := by decide +kernel
theorem dX4_bestDoorOf_1 : decode cX4_bestDoorOf 1 = .ok (.ifCond .lt 21, 3) := by decide +kernel
theorem dX4_bestDoorOf_4 : decode cX4_bestDoorOf 4 = .ok (.iload_n 1, 1) := by decide +kernel
theorem dX4_bestDoorOf_5 : decode cX4_bestDoorOf 5 = .ok (.aload_n 0, 1) := by decide +kernel
theorem dX4_bestDoorOf_6 : decode cX4_bestDoorOf 6 = .ok (.getfield 19, 3) := by decide +kernel
theorem dX4_bestDoorOf_9 : decode cX4_bestDoorOf 9 = .ok (.arraylength, 1) := by decide +kernel
theorem dX4_bestDoorOf_10 : decode cX4_bestDoorOf 10 = .ok (.if_icmp .ge 12, 3) := by decide +kernel
theorem dX4_bestDoorOf_13 : decode cX4_bestDoorOf 13 = .ok (.aload_n 0, 1) := by decide +kernel
theorem dX4_bestDoorOf_14 : decode cX4_bestDoorOf 14 = .ok (.getfield 19, 3) := by decide +kernel
theorem dX4_bestDoorOf_17 : decode cX4_bestDoorOf 17 = .ok (.iload_n 1, 1) := by decide +kernel
theorem dX4_bestDoorOf_18 : decode cX4_bestDoorOf 18 = .ok (.iaload, 1) := by decide +kernel
theorem dX4_bestDoorOf_19 : decode cX4_bestDoorOf 19 = .ok (.goto 4, 3) := by decide +kernel
theorem dX4_bestDoorOf_22 : decode cX4_bestDoorOf 22 = .ok (.iconst (-1), 1) := by decide +kernel
theorem dX4_bestDoorOf_23 : decode cX4_bestDoorOf 23 = .ok (.ireturn, 1) := by decide +kernel
theorem dX5_init_0 : decode cX5_init 0 = .ok (.aload_n 0, 1) := by decide +kernel
theorem dX5_init_1 : decode cX5_init 1 = .ok (.invokespecial 3, 3) := by decide +kernel
theorem dX5_init_4 : decode cX5_init 4 = .ok (.aload_n 0, 1) := by decide +kernel
theorem dX5_init_5 : decode cX5_init 5 = .ok (.iconst 4, 1) := by decide +kernel
theorem dX5_init_6 : decode cX5_init 6 = .ok (.newarray .int, 2) := by decide +kernel
theorem dX5_init_8 : decode cX5_init 8 = .ok (.putfield 9, 3) := by decide +kernel
theorem dX5_init_11 : decode cX5_init 11 = .ok (.aload_n 0, 1) := by decide +kernel
theorem dX5_init_12 : decode cX5_init 12 = .ok (.aload_n 1, 1) := by decide +kernel
theorem dX5_init_13 : decode cX5_init 13 = .ok (.putfield 15, 3) := by decide +kernel
theorem dX5_init_16 : decode cX5_init 16 = .ok (.aload_n 0, 1) := by decide +kernel
theorem dX5_init_17 : decode cX5_init 17 = .ok (.aload_n 2, 1) := by decide +kernel
theorem dX5_init_18 : decode cX5_init 18 = .ok (.putfield 19, 3) := by decide +kernel
theorem dX5_init_21 : decode cX5_init 21 = .ok (.aload_n 0, 1) := by decide +kernel
theorem dX5_init_22 : decode cX5_init 22 = .ok (.iload_n 3, 1) := by decide +kernel
theorem dX5_init_23 : decode cX5_init 23 = .ok (.putfield 22, 3) := by decide +kernel
theorem dX5_init_26 : decode cX5_init 26 = .ok (.return_, 1) := by decide +kernel
theorem dX5_isOf_0 : decode cX5_isOf 0 = .ok (.aload_n 0, 1) := by decide +kernel
theorem dX5_isOf_1 : decode cX5_isOf 1 = .ok (.getfield 15, 3) := by decide +kernel
theorem dX5_isOf_4 : decode cX5_isOf 4 = .ok (.aload_n 1, 1) := by decide +kernel
theorem dX5_isOf_5 : decode cX5_isOf 5 = .ok (.if_acmp .eq 11, 3) := by decide +kernel
theorem dX5_isOf_8 : decode cX5_isOf 8 = .ok (.aload_n 0, 1) := by decide +kernel
theorem dX5_isOf_9 : decode cX5_isOf 9 = .ok (.getfield 19, 3) := by decide +kernel
theorem dX5_isOf_12 : decode cX5_isOf 12 = .ok (.aload_n 1, 1) := by decide +kernel
theorem dX5_isOf_13 : decode cX5_isOf 13 = .ok (.if_acmp .ne 7, 3) := by decide +kernel
theorem dX5_isOf_16 : decode cX5_isOf 16 = .ok (.iconst 1, 1) := by decide +kernel
theorem dX5_isOf_17 : decode cX5_isOf 17 = .ok (.goto 4, 3) := by decide +kernel
theorem dX5_isOf_20 : decode cX5_isOf 20 = .ok (.iconst 0, 1) := by decide +kernel
theorem dX5_isOf_21 : decode cX5_isOf 21 = .ok (.ireturn, 1) := by decide +kernel
theorem dX5_openFor_0 : decode cX5_openFor 0 = .ok (.aload_n 1, 1) := by decide +kernel
theorem dX5_openFor_1 : decode cX5_openFor 1 = .ok (.getfield 26, 3) := by decide +kernel
theorem dX5_openFor_4 : decode cX5_openFor 4 = .ok (.ifCond .eq 15, 3) := by decide +kernel
theorem dX5_openFor_7 : decode cX5_openFor 7 = .ok (.aload_n 0, 1) := by decide +kernel
theorem dX5_openFor_8 : decode cX5_openFor 8 = .ok (.getfield 22, 3) := by decide +kernel
theorem dX5_openFor_11 : decode cX5_openFor 11 = .ok (.aload_n 0, 1) := by decide +kernel
theorem dX5_openFor_12 : decode cX5_openFor 12 = .ok (.getfield 32, 3) := by decide +kernel
theorem dX5_openFor_15 : decode cX5_openFor 15 = .ok (.isub, 1) := by decide +kernel
theorem dX5_openFor_16 : decode cX5_openFor 16 = .ok (.goto 12, 3) := by decide +kernel
theorem dX5_openFor_19 : decode cX5_openFor 19 = .ok (.aload_n 0, 1) := by decide +kernel
theorem dX5_openFor_20 : decode cX5_openFor 20 = .ok (.getfield 22, 3) := by decide +kernel
theorem dX5_openFor_23 : decode cX5_openFor 23 = .ok (.aload_n 0, 1) := by decide +kernel
theorem dX5_openFor_24 : decode cX5_openFor 24 = .ok (.getfield 35, 3) := by decide +kernel
theorem dX5_openFor_27 : decode cX5_openFor 27 = .ok (.isub, 1) := by decide +kernel
theorem dX5_openFor_28 : decode cX5_openFor 28 = .ok (.ireturn, 1) := by decide +kernel
set_option maxRecDepth 20000 in
theorem ggX5_way_X6_difference : GoodIn wsX5_way wsX6_difference := goodIn_r _ [7] (by decide +kernel) (by decide +kernel)
set_option maxRecDepth 20000 in
theorem gX5_way_X6_difference_n41 : GoodIn wsX5_way (wsX6_difference) := ggX5_way_X6_difference
theorem dX5_way_0 : decode cX5_way 0 = .ok (.aload_n 0, 1) := by decide +kernel
theorem dX5_way_1 : decode cX5_way 1 = .ok (.getfield 22, 3) := by decide +kernel
theorem dX5_way_4 : decode cX5_way 4 = .ok (.aload_n 0, 1) := by decide +kernel
theorem dX5_way_5 : decode cX5_way 5 = .ok (.getfield 15, 3) := by decide +kernel
theorem dX5_way_8 : decode cX5_way 8 = .ok (.getfield 38, 3) := by decide +kernel
theorem dX5_way_11 : decode cX5_way 11 = .ok (.aload_n 0, 1) := by decide +kernel
theorem dX5_way_12 : decode cX5_way 12 = .ok (.getfield 19, 3) := by decide +kernel
theorem dX5_way_15 : decode cX5_way 15 = .ok (.getfield 38, 3) := by decide +kernel
theorem dX5_way_18 : decode cX5_way 18 = .ok (.invokestatic 41, 3) := by decide +kernel
theorem dX5_way_21 : decode cX5_way 21 = .ok (.imul, 1) := by decide +kernel
theorem dX5_way_22 : decode cX5_way 22 = .ok (.ireturn, 1) := by decide +kernel
set_option maxRecDepth 20000 in
theorem ggX5_unload_X6_difference : GoodIn wsX5_unload wsX6_difference := goodIn_r _ [13] (by decide +kernel) (by decide +kernel)
set_option maxRecDepth 20000 in
theorem gX5_unload_X6_difference_n41 : GoodIn wsX5_unload (wsX6_difference) := ggX5_unload_X6_difference
theorem dX5_unload_0 : decode cX5_unload 0 = .ok (.aload_n 0, 1) := by decide +kernel
theorem dX5_unload_1 : decode cX5_unload 1 = .ok (.getfield 15, 3) := by decide +kernel
theorem dX5_unload_4 : decode cX5_unload 4 = .ok (.getfield 38, 3) := by decide +kernel
theorem dX5_unload_7 : decode cX5_unload 7 = .ok (.aload_n 0, 1) := by decide +kernel
theorem dX5_unload_8 : decode cX5_unload 8 = .ok (.getfield 19, 3) := by decide +kernel
theorem dX5_unload_11 : decode cX5_unload 11 = .ok (.getfield 38, 3) := by decide +kernel
theorem dX5_unload_14 : decode cX5_unload 14 = .ok (.invokestatic 41, 3) := by decide +kernel
theorem dX5_unload_17 : decode cX5_unload 17 = .ok (.istore_n 2, 1) := by decide +kernel
theorem dX5_unload_18 : decode cX5_unload 18 = .ok (.iload_n 2, 1) := by decide +kernel
theorem dX5_unload_19 : decode cX5_unload 19 = .ok (.ifCond .lt 12, 3) := by decide +kernel
theorem dX5_unload_22 : decode cX5_unload 22 = .ok (.iload_n 2, 1) := by decide +kernel
theorem dX5_unload_23 : decode cX5_unload 23 = .ok (.aload_n 0, 1) := by decide +kernel
theorem dX5_unload_24 : decode cX5_unload 24 = .ok (.getfield 9, 3) := by decide +kernel
theorem dX5_unload_27 : decode cX5_unload 27 = .ok (.arraylength, 1) := by decide +kernel
theorem dX5_unload_28 : decode cX5_unload 28 = .ok (.if_icmp .lt 5, 3) := by decide +kernel
theorem dX5_unload_31 : decode cX5_unload 31 = .ok (.iconst 0, 1) := by decide +kernel
theorem dX5_unload_32 : decode cX5_unload 32 = .ok (.ireturn, 1) := by decide +kernel
theorem dX5_unload_33 : decode cX5_unload 33 = .ok (.iload_n 1, 1) := by decide +kernel
theorem dX5_unload_34 : decode cX5_unload 34 = .ok (.aload_n 0, 1) := by decide +kernel
theorem dX5_unload_35 : decode cX5_unload 35 = .ok (.getfield 22, 3) := by decide +kernel
theorem dX5_unload_38 : decode cX5_unload 38 = .ok (.aload_n 0, 1) := by decide +kernel
theorem dX5_unload_39 : decode cX5_unload 39 = .ok (.getfield 32, 3) := by decide +kernel
theorem dX5_unload_42 : decode cX5_unload 42 = .ok (.isub, 1) := by decide +kernel
theorem dX5_unload_43 : decode cX5_unload 43 = .ok (.invokestatic 45, 3) := by decide +kernel
theorem dX5_unload_46 : decode cX5_unload 46 = .ok (.istore_n 3, 1) := by decide +kernel
theorem dX5_unload_47 : decode cX5_unload 47 = .ok (.aload_n 0, 1) := by decide +kernel
theorem dX5_unload_48 : decode cX5_unload 48 = .ok (.dup, 1) := by decide +kernel
theorem dX5_unload_49 : decode cX5_unload 49 = .ok (.getfield 32, 3) := by decide +kernel
theorem dX5_unload_52 : decode cX5_unload 52 = .ok (.iload_n 3, 1) := by decide +kernel
theorem dX5_unload_53 : decode cX5_unload 53 = .ok (.iadd, 1) := by decide +kernel
theorem dX5_unload_54 : decode cX5_unload 54 = .ok (.putfield 32, 3) := by decide +kernel
theorem dX5_unload_57 : decode cX5_unload 57 = .ok (.aload_n 0, 1) := by decide +kernel
theorem dX5_unload_58 : decode cX5_unload 58 = .ok (.getfield 9, 3) := by decide +kernel
theorem dX5_unload_61 : decode cX5_unload 61 = .ok (.iload_n 2, 1) := by decide +kernel
theorem dX5_unload_62 : decode cX5_unload 62 = .ok (.dup2, 1) := by decide +kernel
theorem dX5_unload_63 : decode cX5_unload 63 = .ok (.iaload, 1) := by decide +kernel
theorem dX5_unload_64 : decode cX5_unload 64 = .ok (.iload_n 3, 1) := by decide +kernel
theorem dX5_unload_65 : decode cX5_unload 65 = .ok (.iadd, 1) := by decide +kernel
theorem dX5_unload_66 : decode cX5_unload 66 = .ok (.iastore, 1) := by decide +kernel
theorem dX5_unload_67 : decode cX5_unload 67 = .ok (.iload_n 3, 1) := by decide +kernel
theorem dX5_unload_68 : decode cX5_unload 68 = .ok (.ireturn, 1) := by decide +kernel
theorem dX5_load_0 : decode cX5_load 0 = .ok (.iload_n 1, 1) := by decide +kernel
theorem dX5_load_1 : decode cX5_load 1 = .ok (.aload_n 0, 1) := by decide +kernel
theorem dX5_load_2 : decode cX5_load 2 = .ok (.getfield 50, 3) := by decide +kernel
theorem dX5_load_5 : decode cX5_load 5 = .ok (.invokestatic 45, 3) := by decide +kernel
theorem dX5_load_8 : decode cX5_load 8 = .ok (.istore_n 2, 1) := by decide +kernel
theorem dX5_load_9 : decode cX5_load 9 = .ok (.aload_n 0, 1) := by decide +kernel
theorem dX5_load_10 : decode cX5_load 10 = .ok (.dup, 1) := by decide +kernel
theorem dX5_load_11 : decode cX5_load 11 = .ok (.getfield 50, 3) := by decide +kernel
theorem dX5_load_14 : decode cX5_load 14 = .ok (.iload_n 2, 1) := by decide +kernel
theorem dX5_load_15 : decode cX5_load 15 = .ok (.isub, 1) := by decide +kernel
theorem dX5_load_16 : decode cX5_load 16 = .ok (.putfield 50, 3) := by decide +kernel
theorem dX5_load_19 : decode cX5_load 19 = .ok (.aload_n 0, 1) := by decide +kernel
theorem dX5_load_20 : decode cX5_load 20 = .ok (.dup, 1) := by decide +kernel
theorem dX5_load_21 : decode cX5_load 21 = .ok (.getfield 35, 3) := by decide +kernel
theorem dX5_load_24 : decode cX5_load 24 = .ok (.iload_n 2, 1) := by decide +kernel
theorem dX5_load_25 : decode cX5_load 25 = .ok (.iadd, 1) := by decide +kernel
theorem dX5_load_26 : decode cX5_load 26 = .ok (.putfield 35, 3) := by decide +kernel
theorem dX5_load_29 : decode cX5_load 29 = .ok (.iload_n 2, 1) := by decide +kernel
theorem dX5_load_30 : decode cX5_load 30 = .ok (.ireturn, 1) := by decide +kernel
theorem dX5_endMinute_0 : decode cX5_endMinute 0 = .ok (.iconst 0, 1) := by decide +kernel
theorem dX5_endMinute_1 : decode cX5_endMinute 1 = .ok (.istore_n 1, 1) := by decide +kernel
theorem dX5_endMinute_2 : decode cX5_endMinute 2 = .ok (.aload_n 0, 1) := by decide +kernel
theorem dX5_endMinute_3 : decode cX5_endMinute 3 = .ok (.getfield 9, 3) := by decide +kernel
theorem dX5_endMinute_6 : decode cX5_endMinute 6 = .ok (.arraylength, 1) := by decide +kernel
theorem dX5_endMinute_7 : decode cX5_endMinute 7 = .ok (.iconst 1, 1) := by decide +kernel
theorem dX5_endMinute_8 : decode cX5_endMinute 8 = .ok (.isub, 1) := by decide +kernel
theorem dX5_endMinute_9 : decode cX5_endMinute 9 = .ok (.istore_n 2, 1) := by decide +kernel
theorem dX5_endMinute_10 : decode cX5_endMinute 10 = .ok (.iload_n 2, 1) := by decide +kernel
theorem dX5_endMinute_11 : decode cX5_endMinute 11 = .ok (.ifCond .lt 25, 3) := by decide +kernel
theorem dX5_endMinute_14 : decode cX5_endMinute 14 = .ok (.aload_n 0, 1) := by decide +kernel
theorem dX5_endMinute_15 : decode cX5_endMinute 15 = .ok (.getfield 9, 3) := by decide +kernel
theorem dX5_endMinute_18 : decode cX5_endMinute 18 = .ok (.iload_n 2, 1) := by decide +kernel
theorem dX5_endMinute_19 : decode cX5_endMinute 19 = .ok (.iaload, 1) := by decide +kernel
theorem dX5_endMinute_20 : decode cX5_endMinute 20 = .ok (.istore_n 3, 1) := by decide +kernel
theorem dX5_endMinute_21 : decode cX5_endMinute 21 = .ok (.aload_n 0, 1) := by decide +kernel
theorem dX5_endMinute_22 : decode cX5_endMinute 22 = .ok (.getfield 9, 3) := by decide +kernel
theorem dX5_endMinute_25 : decode cX5_endMinute 25 = .ok (.iload_n 2, 1) := by decide +kernel
theorem dX5_endMinute_26 : decode cX5_endMinute 26 = .ok (.iload_n 1, 1) := by decide +kernel
theorem dX5_endMinute_27 : decode cX5_endMinute 27 = .ok (.iastore, 1) := by decide +kernel
theorem dX5_endMinute_28 : decode cX5_endMinute 28 = .ok (.iload_n 3, 1) := by decide +kernel
theorem dX5_endMinute_29 : decode cX5_endMinute 29 = .ok (.istore_n 1, 1) := by decide +kernel
theorem dX5_endMinute_30 : decode cX5_endMinute 30 = .ok (.iinc 2 (-1), 3) := by decide +kernel
theorem dX5_endMinute_33 : decode cX5_endMinute 33 = .ok (.goto (-23), 3) := by decide +kernel
theorem dX5_endMinute_36 : decode cX5_endMinute 36 = .ok (.aload_n 0, 1) := by decide +kernel
theorem dX5_endMinute_37 : decode cX5_endMinute 37 = .ok (.dup, 1) := by decide +kernel
theorem dX5_endMinute_38 : decode cX5_endMinute 38 = .ok (.getfield 50, 3) := by decide +kernel
theorem dX5_endMinute_41 : decode cX5_endMinute 41 = .ok (.iload_n 1, 1) := by decide +kernel
theorem dX5_endMinute_42 : decode cX5_endMinute 42 = .ok (.iadd, 1) := by decide +kernel
theorem dX5_endMinute_43 : decode cX5_endMinute 43 = .ok (.putfield 50, 3) := by decide +kernel
theorem dX5_endMinute_46 : decode cX5_endMinute 46 = .ok (.return_, 1) := by decide +kernel
