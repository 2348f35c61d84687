/-! rows that decode each instruction -/
theorem dX0_init_0 : decode cX0_init 0 = .ok (.aload_n 0, 1) := by decide +kernel
theorem dX0_init_1 : decode cX0_init 1 = .ok (.invokespecial 3, 3) := by decide +kernel
theorem dX0_init_4 : decode cX0_init 4 = .ok (.aload_n 0, 1) := by decide +kernel
theorem dX0_init_5 : decode cX0_init 5 = .ok (.bipush 6, 2) := by decide +kernel
theorem dX0_init_7 : decode cX0_init 7 = .ok (.anewarray 9, 3) := by decide +kernel
theorem dX0_init_10 : decode cX0_init 10 = .ok (.putfield 11, 3) := by decide +kernel
theorem dX0_init_13 : decode cX0_init 13 = .ok (.aload_n 0, 1) := by decide +kernel
theorem dX0_init_14 : decode cX0_init 14 = .ok (.new 9, 3) := by decide +kernel
theorem dX0_init_17 : decode cX0_init 17 = .ok (.dup, 1) := by decide +kernel
theorem dX0_init_18 : decode cX0_init 18 = .ok (.invokespecial 17, 3) := by decide +kernel
theorem dX0_init_21 : decode cX0_init 21 = .ok (.putfield 18, 3) := by decide +kernel
theorem dX0_init_24 : decode cX0_init 24 = .ok (.aload_n 0, 1) := by decide +kernel
theorem dX0_init_25 : decode cX0_init 25 = .ok (.iconst 0, 1) := by decide +kernel
theorem dX0_init_26 : decode cX0_init 26 = .ok (.putfield 22, 3) := by decide +kernel
theorem dX0_init_29 : decode cX0_init 29 = .ok (.aload_n 0, 1) := by decide +kernel
theorem dX0_init_30 : decode cX0_init 30 = .ok (.iconst 0, 1) := by decide +kernel
theorem dX0_init_31 : decode cX0_init 31 = .ok (.putfield 26, 3) := by decide +kernel
theorem dX0_init_34 : decode cX0_init 34 = .ok (.aload_n 0, 1) := by decide +kernel
theorem dX0_init_35 : decode cX0_init 35 = .ok (.iconst (-1), 1) := by decide +kernel
theorem dX0_init_36 : decode cX0_init 36 = .ok (.putfield 29, 3) := by decide +kernel
theorem dX0_init_39 : decode cX0_init 39 = .ok (.aload_n 0, 1) := by decide +kernel
theorem dX0_init_40 : decode cX0_init 40 = .ok (.iconst (-1), 1) := by decide +kernel
theorem dX0_init_41 : decode cX0_init 41 = .ok (.putfield 32, 3) := by decide +kernel
theorem dX0_init_44 : decode cX0_init 44 = .ok (.iconst 0, 1) := by decide +kernel
theorem dX0_init_45 : decode cX0_init 45 = .ok (.istore_n 1, 1) := by decide +kernel
theorem dX0_init_46 : decode cX0_init 46 = .ok (.iload_n 1, 1) := by decide +kernel
theorem dX0_init_47 : decode cX0_init 47 = .ok (.aload_n 0, 1) := by decide +kernel
theorem dX0_init_48 : decode cX0_init 48 = .ok (.getfield 11, 3) := by decide +kernel
theorem dX0_init_51 : decode cX0_init 51 = .ok (.arraylength, 1) := by decide +kernel
theorem dX0_init_52 : decode cX0_init 52 = .ok (.if_icmp .ge 22, 3) := by decide +kernel
theorem dX0_init_55 : decode cX0_init 55 = .ok (.aload_n 0, 1) := by decide +kernel
theorem dX0_init_56 : decode cX0_init 56 = .ok (.getfield 11, 3) := by decide +kernel
theorem dX0_init_59 : decode cX0_init 59 = .ok (.iload_n 1, 1) := by decide +kernel
theorem dX0_init_60 : decode cX0_init 60 = .ok (.new 9, 3) := by decide +kernel
theorem dX0_init_63 : decode cX0_init 63 = .ok (.dup, 1) := by decide +kernel
theorem dX0_init_64 : decode cX0_init 64 = .ok (.invokespecial 17, 3) := by decide +kernel
theorem dX0_init_67 : decode cX0_init 67 = .ok (.aastore, 1) := by decide +kernel
theorem dX0_init_68 : decode cX0_init 68 = .ok (.iinc 1 1, 3) := by decide +kernel
theorem dX0_init_71 : decode cX0_init 71 = .ok (.goto (-25), 3) := by decide +kernel
theorem dX0_init_74 : decode cX0_init 74 = .ok (.return_, 1) := by decide +kernel
theorem dX0_size_0 : decode cX0_size 0 = .ok (.aload_n 0, 1) := by decide +kernel
theorem dX0_size_1 : decode cX0_size 1 = .ok (.getfield 22, 3) := by decide +kernel
theorem dX0_size_4 : decode cX0_size 4 = .ok (.ireturn, 1) := by decide +kernel
theorem dX0_has_0 : decode cX0_has 0 = .ok (.iload_n 1, 1) := by decide +kernel
theorem dX0_has_1 : decode cX0_has 1 = .ok (.ifCond .lt 15, 3) := by decide +kernel
theorem dX0_has_4 : decode cX0_has 4 = .ok (.iload_n 1, 1) := by decide +kernel
theorem dX0_has_5 : decode cX0_has 5 = .ok (.aload_n 0, 1) := by decide +kernel
theorem dX0_has_6 : decode cX0_has 6 = .ok (.getfield 22, 3) := by decide +kernel
theorem dX0_has_9 : decode cX0_has 9 = .ok (.if_icmp .ge 7, 3) := by decide +kernel
theorem dX0_has_12 : decode cX0_has 12 = .ok (.iconst 1, 1) := by decide +kernel
theorem dX0_has_13 : decode cX0_has 13 = .ok (.goto 4, 3) := by decide +kernel
theorem dX0_has_16 : decode cX0_has 16 = .ok (.iconst 0, 1) := by decide +kernel
theorem dX0_has_17 : decode cX0_has 17 = .ok (.ireturn, 1) := by decide +kernel
theorem dX0_at_0 : decode cX0_at 0 = .ok (.iload_n 1, 1) := by decide +kernel
theorem dX0_at_1 : decode cX0_at 1 = .ok (.ifCond .lt 21, 3) := by decide +kernel
theorem dX0_at_4 : decode cX0_at 4 = .ok (.iload_n 1, 1) := by decide +kernel
theorem dX0_at_5 : decode cX0_at 5 = .ok (.aload_n 0, 1) := by decide +kernel
theorem dX0_at_6 : decode cX0_at 6 = .ok (.getfield 11, 3) := by decide +kernel
theorem dX0_at_9 : decode cX0_at 9 = .ok (.arraylength, 1) := by decide +kernel
theorem dX0_at_10 : decode cX0_at 10 = .ok (.if_icmp .ge 12, 3) := by decide +kernel
theorem dX0_at_13 : decode cX0_at 13 = .ok (.aload_n 0, 1) := by decide +kernel
theorem dX0_at_14 : decode cX0_at 14 = .ok (.getfield 11, 3) := by decide +kernel
theorem dX0_at_17 : decode cX0_at 17 = .ok (.iload_n 1, 1) := by decide +kernel
theorem dX0_at_18 : decode cX0_at 18 = .ok (.aaload, 1) := by decide +kernel
theorem dX0_at_19 : decode cX0_at 19 = .ok (.ifnonnull 8, 3) := by decide +kernel
theorem dX0_at_22 : decode cX0_at 22 = .ok (.aload_n 0, 1) := by decide +kernel
theorem dX0_at_23 : decode cX0_at 23 = .ok (.getfield 18, 3) := by decide +kernel
theorem dX0_at_26 : decode cX0_at 26 = .ok (.areturn, 1) := by decide +kernel
theorem dX0_at_27 : decode cX0_at 27 = .ok (.aload_n 0, 1) := by decide +kernel
theorem dX0_at_28 : decode cX0_at 28 = .ok (.getfield 11, 3) := by decide +kernel
theorem dX0_at_31 : decode cX0_at 31 = .ok (.iload_n 1, 1) := by decide +kernel
theorem dX0_at_32 : decode cX0_at 32 = .ok (.aaload, 1) := by decide +kernel
theorem dX0_at_33 : decode cX0_at 33 = .ok (.areturn, 1) := by decide +kernel
theorem dX0_addLoaf_0 : decode cX0_addLoaf 0 = .ok (.aload_n 0, 1) := by decide +kernel
theorem dX0_addLoaf_1 : decode cX0_addLoaf 1 = .ok (.getfield 22, 3) := by decide +kernel
theorem dX0_addLoaf_4 : decode cX0_addLoaf 4 = .ok (.bipush 6, 2) := by decide +kernel
theorem dX0_addLoaf_6 : decode cX0_addLoaf 6 = .ok (.if_icmp .ge 25, 3) := by decide +kernel
theorem dX0_addLoaf_9 : decode cX0_addLoaf 9 = .ok (.aload_n 0, 1) := by decide +kernel
theorem dX0_addLoaf_10 : decode cX0_addLoaf 10 = .ok (.aload_n 0, 1) := by decide +kernel
theorem dX0_addLoaf_11 : decode cX0_addLoaf 11 = .ok (.getfield 22, 3) := by decide +kernel
theorem dX0_addLoaf_14 : decode cX0_addLoaf 14 = .ok (.invokevirtual 35, 3) := by decide +kernel
theorem dX0_addLoaf_17 : decode cX0_addLoaf 17 = .ok (.aload_n 1, 1) := by decide +kernel
theorem dX0_addLoaf_18 : decode cX0_addLoaf 18 = .ok (.invokevirtual 39, 3) := by decide +kernel
theorem dX0_addLoaf_21 : decode cX0_addLoaf 21 = .ok (.aload_n 0, 1) := by decide +kernel
theorem dX0_addLoaf_22 : decode cX0_addLoaf 22 = .ok (.dup, 1) := by decide +kernel
theorem dX0_addLoaf_23 : decode cX0_addLoaf 23 = .ok (.getfield 22, 3) := by decide +kernel
theorem dX0_addLoaf_26 : decode cX0_addLoaf 26 = .ok (.iconst 1, 1) := by decide +kernel
theorem dX0_addLoaf_27 : decode cX0_addLoaf 27 = .ok (.iadd, 1) := by decide +kernel
theorem dX0_addLoaf_28 : decode cX0_addLoaf 28 = .ok (.putfield 22, 3) := by decide +kernel
theorem dX0_addLoaf_31 : decode cX0_addLoaf 31 = .ok (.return_, 1) := by decide +kernel
theorem dX0_removeLoaf_0 : decode cX0_removeLoaf 0 = .ok (.aload_n 0, 1) := by decide +kernel
theorem dX0_removeLoaf_1 : decode cX0_removeLoaf 1 = .ok (.iload_n 1, 1) := by decide +kernel
theorem dX0_removeLoaf_2 : decode cX0_removeLoaf 2 = .ok (.invokevirtual 43, 3) := by decide +kernel
theorem dX0_removeLoaf_5 : decode cX0_removeLoaf 5 = .ok (.ifCond .ne 4, 3) := by decide +kernel
theorem dX0_removeLoaf_8 : decode cX0_removeLoaf 8 = .ok (.return_, 1) := by decide +kernel
theorem dX0_removeLoaf_9 : decode cX0_removeLoaf 9 = .ok (.iload_n 1, 1) := by decide +kernel
theorem dX0_removeLoaf_10 : decode cX0_removeLoaf 10 = .ok (.istore_n 2, 1) := by decide +kernel
theorem dX0_removeLoaf_11 : decode cX0_removeLoaf 11 = .ok (.iload_n 2, 1) := by decide +kernel
theorem dX0_removeLoaf_12 : decode cX0_removeLoaf 12 = .ok (.aload_n 0, 1) := by decide +kernel
theorem dX0_removeLoaf_13 : decode cX0_removeLoaf 13 = .ok (.getfield 22, 3) := by decide +kernel
theorem dX0_removeLoaf_16 : decode cX0_removeLoaf 16 = .ok (.iconst 1, 1) := by decide +kernel
theorem dX0_removeLoaf_17 : decode cX0_removeLoaf 17 = .ok (.isub, 1) := by decide +kernel
theorem dX0_removeLoaf_18 : decode cX0_removeLoaf 18 = .ok (.if_icmp .ge 24, 3) := by decide +kernel
theorem dX0_removeLoaf_21 : decode cX0_removeLoaf 21 = .ok (.aload_n 0, 1) := by decide +kernel
theorem dX0_removeLoaf_22 : decode cX0_removeLoaf 22 = .ok (.iload_n 2, 1) := by decide +kernel
theorem dX0_removeLoaf_23 : decode cX0_removeLoaf 23 = .ok (.invokevirtual 35, 3) := by decide +kernel
theorem dX0_removeLoaf_26 : decode cX0_removeLoaf 26 = .ok (.aload_n 0, 1) := by decide +kernel
theorem dX0_removeLoaf_27 : decode cX0_removeLoaf 27 = .ok (.iload_n 2, 1) := by decide +kernel
theorem dX0_removeLoaf_28 : decode cX0_removeLoaf 28 = .ok (.iconst 1, 1) := by decide +kernel
theorem dX0_removeLoaf_29 : decode cX0_removeLoaf 29 = .ok (.iadd, 1) := by decide +kernel
theorem dX0_removeLoaf_30 : decode cX0_removeLoaf 30 = .ok (.invokevirtual 35, 3) := by decide +kernel
theorem dX0_removeLoaf_33 : decode cX0_removeLoaf 33 = .ok (.invokevirtual 39, 3) := by decide +kernel
theorem dX0_removeLoaf_36 : decode cX0_removeLoaf 36 = .ok (.iinc 2 1, 3) := by decide +kernel
theorem dX0_removeLoaf_39 : decode cX0_removeLoaf 39 = .ok (.goto (-28), 3) := by decide +kernel
theorem dX0_removeLoaf_42 : decode cX0_removeLoaf 42 = .ok (.aload_n 0, 1) := by decide +kernel
theorem dX0_removeLoaf_43 : decode cX0_removeLoaf 43 = .ok (.dup, 1) := by decide +kernel
theorem dX0_removeLoaf_44 : decode cX0_removeLoaf 44 = .ok (.getfield 22, 3) := by decide +kernel
theorem dX0_removeLoaf_47 : decode cX0_removeLoaf 47 = .ok (.iconst 1, 1) := by decide +kernel
theorem dX0_removeLoaf_48 : decode cX0_removeLoaf 48 = .ok (.isub, 1) := by decide +kernel
theorem dX0_removeLoaf_49 : decode cX0_removeLoaf 49 = .ok (.putfield 22, 3) := by decide +kernel
theorem dX0_removeLoaf_52 : decode cX0_removeLoaf 52 = .ok (.return_, 1) := by decide +kernel
theorem dX0_changes_0 : decode cX0_changes 0 = .ok (.aload_n 0, 1) := by decide +kernel
theorem dX0_changes_1 : decode cX0_changes 1 = .ok (.getfield 26, 3) := by decide +kernel
theorem dX0_changes_4 : decode cX0_changes 4 = .ok (.ireturn, 1) := by decide +kernel
theorem dX0_addChange_0 : decode cX0_addChange 0 = .ok (.aload_n 0, 1) := by decide +kernel
theorem dX0_addChange_1 : decode cX0_addChange 1 = .ok (.dup, 1) := by decide +kernel
theorem dX0_addChange_2 : decode cX0_addChange 2 = .ok (.getfield 26, 3) := by decide +kernel
theorem dX0_addChange_5 : decode cX0_addChange 5 = .ok (.iconst 1, 1) := by decide +kernel
theorem dX0_addChange_6 : decode cX0_addChange 6 = .ok (.iadd, 1) := by decide +kernel
theorem dX0_addChange_7 : decode cX0_addChange 7 = .ok (.putfield 26, 3) := by decide +kernel
theorem dX0_addChange_10 : decode cX0_addChange 10 = .ok (.return_, 1) := by decide +kernel
theorem dX0_stopPart_0 : decode cX0_stopPart 0 = .ok (.aload_n 0, 1) := by decide +kernel
theorem dX0_stopPart_1 : decode cX0_stopPart 1 = .ok (.getfield 29, 3) := by decide +kernel
theorem dX0_stopPart_4 : decode cX0_stopPart 4 = .ok (.ireturn, 1) := by decide +kernel
theorem dX0_stopReason_0 : decode cX0_stopReason 0 = .ok (.aload_n 0, 1) := by decide +kernel
theorem dX0_stopReason_1 : decode cX0_stopReason 1 = .ok (.getfield 32, 3) := by decide +kernel
theorem dX0_stopReason_4 : decode cX0_stopReason 4 = .ok (.ireturn, 1) := by decide +kernel
theorem dX0_setStop_0 : decode cX0_setStop 0 = .ok (.aload_n 0, 1) := by decide +kernel
theorem dX0_setStop_1 : decode cX0_setStop 1 = .ok (.iload_n 1, 1) := by decide +kernel
theorem dX0_setStop_2 : decode cX0_setStop 2 = .ok (.putfield 29, 3) := by decide +kernel
theorem dX0_setStop_5 : decode cX0_setStop 5 = .ok (.aload_n 0, 1) := by decide +kernel
theorem dX0_setStop_6 : decode cX0_setStop 6 = .ok (.iload_n 2, 1) := by decide +kernel
theorem dX0_setStop_7 : decode cX0_setStop 7 = .ok (.putfield 32, 3) := by decide +kernel
theorem dX0_setStop_10 : decode cX0_setStop 10 = .ok (.return_, 1) := by decide +kernel
theorem dX0_copyFrom_0 : decode cX0_copyFrom 0 = .ok (.aload_n 0, 1) := by decide +kernel
theorem dX0_copyFrom_1 : decode cX0_copyFrom 1 = .ok (.aload_n 1, 1) := by decide +kernel
theorem dX0_copyFrom_2 : decode cX0_copyFrom 2 = .ok (.getfield 22, 3) := by decide +kernel
theorem dX0_copyFrom_5 : decode cX0_copyFrom 5 = .ok (.putfield 22, 3) := by decide +kernel
theorem dX0_copyFrom_8 : decode cX0_copyFrom 8 = .ok (.aload_n 0, 1) := by decide +kernel
theorem dX0_copyFrom_9 : decode cX0_copyFrom 9 = .ok (.aload_n 1, 1) := by decide +kernel
theorem dX0_copyFrom_10 : decode cX0_copyFrom 10 = .ok (.getfield 26, 3) := by decide +kernel
theorem dX0_copyFrom_13 : decode cX0_copyFrom 13 = .ok (.putfield 26, 3) := by decide +kernel
theorem dX0_copyFrom_16 : decode cX0_copyFrom 16 = .ok (.aload_n 0, 1) := by decide +kernel
theorem dX0_copyFrom_17 : decode cX0_copyFrom 17 = .ok (.aload_n 1, 1) := by decide +kernel
theorem dX0_copyFrom_18 : decode cX0_copyFrom 18 = .ok (.getfield 29, 3) := by decide +kernel
theorem dX0_copyFrom_21 : decode cX0_copyFrom 21 = .ok (.putfield 29, 3) := by decide +kernel
theorem dX0_copyFrom_24 : decode cX0_copyFrom 24 = .ok (.aload_n 0, 1) := by decide +kernel
theorem dX0_copyFrom_25 : decode cX0_copyFrom 25 = .ok (.aload_n 1, 1) := by decide +kernel
theorem dX0_copyFrom_26 : decode cX0_copyFrom 26 = .ok (.getfield 32, 3) := by decide +kernel
theorem dX0_copyFrom_29 : decode cX0_copyFrom 29 = .ok (.putfield 32, 3) := by decide +kernel
theorem dX0_copyFrom_32 : decode cX0_copyFrom 32 = .ok (.iconst 0, 1) := by decide +kernel
theorem dX0_copyFrom_33 : decode cX0_copyFrom 33 = .ok (.istore_n 2, 1) := by decide +kernel
theorem dX0_copyFrom_34 : decode cX0_copyFrom 34 = .ok (.iload_n 2, 1) := by decide +kernel
theorem dX0_copyFrom_35 : decode cX0_copyFrom 35 = .ok (.aload_n 0, 1) := by decide +kernel
theorem dX0_copyFrom_36 : decode cX0_copyFrom 36 = .ok (.getfield 22, 3) := by decide +kernel
theorem dX0_copyFrom_39 : decode cX0_copyFrom 39 = .ok (.if_icmp .ge 22, 3) := by decide +kernel
theorem dX0_copyFrom_42 : decode cX0_copyFrom 42 = .ok (.aload_n 0, 1) := by decide +kernel
theorem dX0_copyFrom_43 : decode cX0_copyFrom 43 = .ok (.iload_n 2, 1) := by decide +kernel
theorem dX0_copyFrom_44 : decode cX0_copyFrom 44 = .ok (.invokevirtual 35, 3) := by decide +kernel
theorem dX0_copyFrom_47 : decode cX0_copyFrom 47 = .ok (.aload_n 1, 1) := by decide +kernel
theorem dX0_copyFrom_48 : decode cX0_copyFrom 48 = .ok (.iload_n 2, 1) := by decide +kernel
theorem dX0_copyFrom_49 : decode cX0_copyFrom 49 = .ok (.invokevirtual 35, 3) := by decide +kernel
theorem dX0_copyFrom_52 : decode cX0_copyFrom 52 = .ok (.invokevirtual 39, 3) := by decide +kernel
theorem dX0_copyFrom_55 : decode cX0_copyFrom 55 = .ok (.iinc 2 1, 3) := by decide +kernel
theorem dX0_copyFrom_58 : decode cX0_copyFrom 58 = .ok (.goto (-24), 3) := by decide +kernel
theorem dX0_copyFrom_61 : decode cX0_copyFrom 61 = .ok (.return_, 1) := by decide +kernel
theorem dX1_init_0 : decode cX1_init 0 = .ok (.aload_n 0, 1) := by decide +kernel
theorem dX1_init_1 : decode cX1_init 1 = .ok (.invokespecial 3, 3) := by decide +kernel
theorem dX1_init_4 : decode cX1_init 4 = .ok (.aload_n 0, 1) := by decide +kernel
theorem dX1_init_5 : decode cX1_init 5 = .ok (.bipush 6, 2) := by decide +kernel
theorem dX1_init_7 : decode cX1_init 7 = .ok (.anewarray 9, 3) := by decide +kernel
theorem dX1_init_10 : decode cX1_init 10 = .ok (.putfield 11, 3) := by decide +kernel
theorem dX1_init_13 : decode cX1_init 13 = .ok (.aload_n 0, 1) := by decide +kernel
theorem dX1_init_14 : decode cX1_init 14 = .ok (.new 9, 3) := by decide +kernel
theorem dX1_init_17 : decode cX1_init 17 = .ok (.dup, 1) := by decide +kernel
theorem dX1_init_18 : decode cX1_init 18 = .ok (.invokespecial 17, 3) := by decide +kernel
theorem dX1_init_21 : decode cX1_init 21 = .ok (.putfield 18, 3) := by decide +kernel
theorem dX1_init_24 : decode cX1_init 24 = .ok (.aload_n 0, 1) := by decide +kernel
theorem dX1_init_25 : decode cX1_init 25 = .ok (.iconst 0, 1) := by decide +kernel
theorem dX1_init_26 : decode cX1_init 26 = .ok (.putfield 22, 3) := by decide +kernel
theorem dX1_init_29 : decode cX1_init 29 = .ok (.aload_n 0, 1) := by decide +kernel
theorem dX1_init_30 : decode cX1_init 30 = .ok (.iconst 0, 1) := by decide +kernel
theorem dX1_init_31 : decode cX1_init 31 = .ok (.putfield 26, 3) := by decide +kernel
theorem dX1_init_34 : decode cX1_init 34 = .ok (.iconst 0, 1) := by decide +kernel
theorem dX1_init_35 : decode cX1_init 35 = .ok (.istore_n 1, 1) := by decide +kernel
theorem dX1_init_36 : decode cX1_init 36 = .ok (.iload_n 1, 1) := by decide +kernel
theorem dX1_init_37 : decode cX1_init 37 = .ok (.aload_n 0, 1) := by decide +kernel
theorem dX1_init_38 : decode cX1_init 38 = .ok (.getfield 11, 3) := by decide +kernel
theorem dX1_init_41 : decode cX1_init 41 = .ok (.arraylength, 1) := by decide +kernel
theorem dX1_init_42 : decode cX1_init 42 = .ok (.if_icmp .ge 22, 3) := by decide +kernel
theorem dX1_init_45 : decode cX1_init 45 = .ok (.aload_n 0, 1) := by decide +kernel
theorem dX1_init_46 : decode cX1_init 46 = .ok (.getfield 11, 3) := by decide +kernel
theorem dX1_init_49 : decode cX1_init 49 = .ok (.iload_n 1, 1) := by decide +kernel
theorem dX1_init_50 : decode cX1_init 50 = .ok (.new 9, 3) := by decide +kernel
theorem dX1_init_53 : decode cX1_init 53 = .ok (.dup, 1) := by decide +kernel
theorem dX1_init_54 : decode cX1_init 54 = .ok (.invokespecial 17, 3) := by decide +kernel
theorem dX1_init_57 : decode cX1_init 57 = .ok (.aastore, 1) := by decide +kernel
theorem dX1_init_58 : decode cX1_init 58 = .ok (.iinc 1 1, 3) := by decide +kernel
theorem dX1_init_61 : decode cX1_init 61 = .ok (.goto (-25), 3) := by decide +kernel
theorem dX1_init_64 : decode cX1_init 64 = .ok (.return_, 1) := by decide +kernel
theorem dX1_size_0 : decode cX1_size 0 = .ok (.aload_n 0, 1) := by decide +kernel
theorem dX1_size_1 : decode cX1_size 1 = .ok (.getfield 26, 3) := by decide +kernel
theorem dX1_size_4 : decode cX1_size 4 = .ok (.ireturn, 1) := by decide +kernel
theorem dX1_at_0 : decode cX1_at 0 = .ok (.aload_n 0, 1) := by decide +kernel
theorem dX1_at_1 : decode cX1_at 1 = .ok (.getfield 22, 3) := by decide +kernel
theorem dX1_at_4 : decode cX1_at 4 = .ok (.iload_n 1, 1) := by decide +kernel
theorem dX1_at_5 : decode cX1_at 5 = .ok (.iadd, 1) := by decide +kernel
theorem dX1_at_6 : decode cX1_at 6 = .ok (.bipush 6, 2) := by decide +kernel
theorem dX1_at_8 : decode cX1_at 8 = .ok (.invokestatic 29, 3) := by decide +kernel
theorem dX1_at_11 : decode cX1_at 11 = .ok (.istore_n 2, 1) := by decide +kernel
theorem dX1_at_12 : decode cX1_at 12 = .ok (.iload_n 2, 1) := by decide +kernel
theorem dX1_at_13 : decode cX1_at 13 = .ok (.ifCond .lt 21, 3) := by decide +kernel
theorem dX1_at_16 : decode cX1_at 16 = .ok (.iload_n 2, 1) := by decide +kernel
theorem dX1_at_17 : decode cX1_at 17 = .ok (.aload_n 0, 1) := by decide +kernel
theorem dX1_at_18 : decode cX1_at 18 = .ok (.getfield 11, 3) := by decide +kernel
theorem dX1_at_21 : decode cX1_at 21 = .ok (.arraylength, 1) := by decide +kernel
theorem dX1_at_22 : decode cX1_at 22 = .ok (.if_icmp .ge 12, 3) := by decide +kernel
theorem dX1_at_25 : decode cX1_at 25 = .ok (.aload_n 0, 1) := by decide +kernel
theorem dX1_at_26 : decode cX1_at 26 = .ok (.getfield 11, 3) := by decide +kernel
theorem dX1_at_29 : decode cX1_at 29 = .ok (.iload_n 2, 1) := by decide +kernel
theorem dX1_at_30 : decode cX1_at 30 = .ok (.aaload, 1) := by decide +kernel
theorem dX1_at_31 : decode cX1_at 31 = .ok (.ifnonnull 8, 3) := by decide +kernel
theorem dX1_at_34 : decode cX1_at 34 = .ok (.aload_n 0, 1) := by decide +kernel
theorem dX1_at_35 : decode cX1_at 35 = .ok (.getfield 18, 3) := by decide +kernel
theorem dX1_at_38 : decode cX1_at 38 = .ok (.areturn, 1) := by decide +kernel
theorem dX1_at_39 : decode cX1_at 39 = .ok (.aload_n 0, 1) := by decide +kernel
theorem dX1_at_40 : decode cX1_at 40 = .ok (.getfield 11, 3) := by decide +kernel
theorem dX1_at_43 : decode cX1_at 43 = .ok (.iload_n 2, 1) := by decide +kernel
theorem dX1_at_44 : decode cX1_at 44 = .ok (.aaload, 1) := by decide +kernel
theorem dX1_at_45 : decode cX1_at 45 = .ok (.areturn, 1) := by decide +kernel
theorem dX1_save_0 : decode cX1_save 0 = .ok (.aload_n 0, 1) := by decide +kernel
theorem dX1_save_1 : decode cX1_save 1 = .ok (.aload_n 0, 1) := by decide +kernel
theorem dX1_save_2 : decode cX1_save 2 = .ok (.getfield 26, 3) := by decide +kernel
theorem dX1_save_5 : decode cX1_save 5 = .ok (.invokevirtual 35, 3) := by decide +kernel
theorem dX1_save_8 : decode cX1_save 8 = .ok (.aload_n 1, 1) := by decide +kernel
theorem dX1_save_9 : decode cX1_save 9 = .ok (.invokevirtual 39, 3) := by decide +kernel
theorem dX1_save_12 : decode cX1_save 12 = .ok (.aload_n 0, 1) := by decide +kernel
theorem dX1_save_13 : decode cX1_save 13 = .ok (.getfield 26, 3) := by decide +kernel
theorem dX1_save_16 : decode cX1_save 16 = .ok (.bipush 6, 2) := by decide +kernel
theorem dX1_save_18 : decode cX1_save 18 = .ok (.if_icmp .ge 16, 3) := by decide +kernel
theorem dX1_save_21 : decode cX1_save 21 = .ok (.aload_n 0, 1) := by decide +kernel
theorem dX1_save_22 : decode cX1_save 22 = .ok (.dup, 1) := by decide +kernel
theorem dX1_save_23 : decode cX1_save 23 = .ok (.getfield 26, 3) := by decide +kernel
theorem dX1_save_26 : decode cX1_save 26 = .ok (.iconst 1, 1) := by decide +kernel
theorem dX1_save_27 : decode cX1_save 27 = .ok (.iadd, 1) := by decide +kernel
theorem dX1_save_28 : decode cX1_save 28 = .ok (.putfield 26, 3) := by decide +kernel
theorem dX1_save_31 : decode cX1_save 31 = .ok (.goto 18, 3) := by decide +kernel
theorem dX1_save_34 : decode cX1_save 34 = .ok (.aload_n 0, 1) := by decide +kernel
theorem dX1_save_35 : decode cX1_save 35 = .ok (.aload_n 0, 1) := by decide +kernel
theorem dX1_save_36 : decode cX1_save 36 = .ok (.getfield 22, 3) := by decide +kernel
theorem dX1_save_39 : decode cX1_save 39 = .ok (.iconst 1, 1) := by decide +kernel
theorem dX1_save_40 : decode cX1_save 40 = .ok (.iadd, 1) := by decide +kernel
theorem dX1_save_41 : decode cX1_save 41 = .ok (.bipush 6, 2) := by decide +kernel
theorem dX1_save_43 : decode cX1_save 43 = .ok (.invokestatic 29, 3) := by decide +kernel
theorem dX1_save_46 : decode cX1_save 46 = .ok (.putfield 22, 3) := by decide +kernel
theorem dX1_save_49 : decode cX1_save 49 = .ok (.return_, 1) := by decide +kernel
theorem dX1_takeBack_0 : decode cX1_takeBack 0 = .ok (.aload_n 0, 1) := by decide +kernel
theorem dX1_takeBack_1 : decode cX1_takeBack 1 = .ok (.getfield 26, 3) := by decide +kernel
theorem dX1_takeBack_4 : decode cX1_takeBack 4 = .ok (.ifCond .le 25, 3) := by decide +kernel
theorem dX1_takeBack_7 : decode cX1_takeBack 7 = .ok (.aload_n 0, 1) := by decide +kernel
theorem dX1_takeBack_8 : decode cX1_takeBack 8 = .ok (.dup, 1) := by decide +kernel
theorem dX1_takeBack_9 : decode cX1_takeBack 9 = .ok (.getfield 26, 3) := by decide +kernel
theorem dX1_takeBack_12 : decode cX1_takeBack 12 = .ok (.iconst 1, 1) := by decide +kernel
theorem dX1_takeBack_13 : decode cX1_takeBack 13 = .ok (.isub, 1) := by decide +kernel
theorem dX1_takeBack_14 : decode cX1_takeBack 14 = .ok (.putfield 26, 3) := by decide +kernel
theorem dX1_takeBack_17 : decode cX1_takeBack 17 = .ok (.aload_n 1, 1) := by decide +kernel
theorem dX1_takeBack_18 : decode cX1_takeBack 18 = .ok (.aload_n 0, 1) := by decide +kernel
theorem dX1_takeBack_19 : decode cX1_takeBack 19 = .ok (.aload_n 0, 1) := by decide +kernel
theorem dX1_takeBack_20 : decode cX1_takeBack 20 = .ok (.getfield 26, 3) := by decide +kernel
theorem dX1_takeBack_23 : decode cX1_takeBack 23 = .ok (.invokevirtual 35, 3) := by decide +kernel
theorem dX1_takeBack_26 : decode cX1_takeBack 26 = .ok (.invokevirtual 39, 3) := by decide +kernel
theorem dX1_takeBack_29 : decode cX1_takeBack 29 = .ok (.return_, 1) := by decide +kernel
theorem dX2_init_0 : decode cX2_init 0 = .ok (.aload_n 0, 1) := by decide +kernel
theorem dX2_init_1 : decode cX2_init 1 = .ok (.invokespecial 3, 3) := by decide +kernel
theorem dX2_init_4 : decode cX2_init 4 = .ok (.aload_n 0, 1) := by decide +kernel
theorem dX2_init_5 : decode cX2_init 5 = .ok (.new 9, 3) := by decide +kernel
theorem dX2_init_8 : decode cX2_init 8 = .ok (.dup, 1) := by decide +kernel
theorem dX2_init_9 : decode cX2_init 9 = .ok (.invokespecial 11, 3) := by decide +kernel
theorem dX2_init_12 : decode cX2_init 12 = .ok (.putfield 12, 3) := by decide +kernel
theorem dX2_init_15 : decode cX2_init 15 = .ok (.aload_n 0, 1) := by decide +kernel
theorem dX2_init_16 : decode cX2_init 16 = .ok (.new 9, 3) := by decide +kernel
theorem dX2_init_19 : decode cX2_init 19 = .ok (.dup, 1) := by decide +kernel
theorem dX2_init_20 : decode cX2_init 20 = .ok (.invokespecial 11, 3) := by decide +kernel
theorem dX2_init_23 : decode cX2_init 23 = .ok (.putfield 18, 3) := by decide +kernel
theorem dX2_init_26 : decode cX2_init 26 = .ok (.aload_n 0, 1) := by decide +kernel
theorem dX2_init_27 : decode cX2_init 27 = .ok (.new 21, 3) := by decide +kernel
theorem dX2_init_30 : decode cX2_init 30 = .ok (.dup, 1) := by decide +kernel
theorem dX2_init_31 : decode cX2_init 31 = .ok (.invokespecial 23, 3) := by decide +kernel
theorem dX2_init_34 : decode cX2_init 34 = .ok (.putfield 24, 3) := by decide +kernel
theorem dX2_init_37 : decode cX2_init 37 = .ok (.return_, 1) := by decide +kernel
theorem dX2_word_0 : decode cX2_word 0 = .ok (.aload_n 0, 1) := by decide +kernel
theorem dX2_word_1 : decode cX2_word 1 = .ok (.getfield 12, 3) := by decide +kernel
theorem dX2_word_4 : decode cX2_word 4 = .ok (.areturn, 1) := by decide +kernel
theorem dX2_looseWord_0 : decode cX2_looseWord 0 = .ok (.aload_n 0, 1) := by decide +kernel
theorem dX2_looseWord_1 : decode cX2_looseWord 1 = .ok (.getfield 18, 3) := by decide +kernel
theorem dX2_looseWord_4 : decode cX2_looseWord 4 = .ok (.areturn, 1) := by decide +kernel
theorem dX2_trace_0 : decode cX2_trace 0 = .ok (.aload_n 0, 1) := by decide +kernel
theorem dX2_trace_1 : decode cX2_trace 1 = .ok (.getfield 24, 3) := by decide +kernel
theorem dX2_trace_4 : decode cX2_trace 4 = .ok (.areturn, 1) := by decide +kernel
theorem dX2_settle_0 : decode cX2_settle 0 = .ok (.aload_n 0, 1) := by decide +kernel
theorem dX2_settle_1 : decode cX2_settle 1 = .ok (.getfield 18, 3) := by decide +kernel
theorem dX2_settle_4 : decode cX2_settle 4 = .ok (.aload_n 0, 1) := by decide +kernel
theorem dX2_settle_5 : decode cX2_settle 5 = .ok (.getfield 12, 3) := by decide +kernel
theorem dX2_settle_8 : decode cX2_settle 8 = .ok (.invokevirtual 28, 3) := by decide +kernel
theorem dX2_settle_11 : decode cX2_settle 11 = .ok (.aload_n 0, 1) := by decide +kernel
theorem dX2_settle_12 : decode cX2_settle 12 = .ok (.getfield 24, 3) := by decide +kernel
theorem dX2_settle_15 : decode cX2_settle 15 = .ok (.aload_n 0, 1) := by decide +kernel
theorem dX2_settle_16 : decode cX2_settle 16 = .ok (.getfield 12, 3) := by decide +kernel
theorem dX2_settle_19 : decode cX2_settle 19 = .ok (.invokevirtual 32, 3) := by decide +kernel
theorem dX2_settle_22 : decode cX2_settle 22 = .ok (.aload_n 0, 1) := by decide +kernel
theorem dX2_settle_23 : decode cX2_settle 23 = .ok (.getfield 24, 3) := by decide +kernel
theorem dX2_settle_26 : decode cX2_settle 26 = .ok (.invokevirtual 35, 3) := by decide +kernel
theorem dX2_settle_29 : decode cX2_settle 29 = .ok (.ifCond .eq 7, 3) := by decide +kernel
theorem dX2_settle_32 : decode cX2_settle 32 = .ok (.iconst 0, 1) := by decide +kernel
theorem dX2_settle_33 : decode cX2_settle 33 = .ok (.goto 4, 3) := by decide +kernel
theorem dX2_settle_36 : decode cX2_settle 36 = .ok (.iconst 2, 1) := by decide +kernel
theorem dX2_settle_37 : decode cX2_settle 37 = .ok (.ireturn, 1) := by decide +kernel
theorem dX2_copyFrom_0 : decode cX2_copyFrom 0 = .ok (.aload_n 0, 1) := by decide +kernel
theorem dX2_copyFrom_1 : decode cX2_copyFrom 1 = .ok (.getfield 12, 3) := by decide +kernel
theorem dX2_copyFrom_4 : decode cX2_copyFrom 4 = .ok (.aload_n 1, 1) := by decide +kernel
theorem dX2_copyFrom_5 : decode cX2_copyFrom 5 = .ok (.getfield 12, 3) := by decide +kernel
theorem dX2_copyFrom_8 : decode cX2_copyFrom 8 = .ok (.invokevirtual 39, 3) := by decide +kernel
theorem dX2_copyFrom_11 : decode cX2_copyFrom 11 = .ok (.aload_n 0, 1) := by decide +kernel
theorem dX2_copyFrom_12 : decode cX2_copyFrom 12 = .ok (.getfield 18, 3) := by decide +kernel
theorem dX2_copyFrom_15 : decode cX2_copyFrom 15 = .ok (.aload_n 1, 1) := by decide +kernel
theorem dX2_copyFrom_16 : decode cX2_copyFrom 16 = .ok (.getfield 18, 3) := by decide +kernel
theorem dX2_copyFrom_19 : decode cX2_copyFrom 19 = .ok (.invokevirtual 39, 3) := by decide +kernel
theorem dX2_copyFrom_22 : decode cX2_copyFrom 22 = .ok (.aload_n 0, 1) := by decide +kernel
theorem dX2_copyFrom_23 : decode cX2_copyFrom 23 = .ok (.getfield 24, 3) := by decide +kernel
theorem dX2_copyFrom_26 : decode cX2_copyFrom 26 = .ok (.aload_n 1, 1) := by decide +kernel
theorem dX2_copyFrom_27 : decode cX2_copyFrom 27 = .ok (.getfield 24, 3) := by decide +kernel
theorem dX2_copyFrom_30 : decode cX2_copyFrom 30 = .ok (.invokevirtual 42, 3) := by decide +kernel
theorem dX2_copyFrom_33 : decode cX2_copyFrom 33 = .ok (.return_, 1) := by decide +kernel
theorem dX2_numberOfCrossing_0 : decode cX2_numberOfCrossing 0 = .ok (.iload_n 1, 1) := by decide +kernel
theorem dX2_numberOfCrossing_1 : decode cX2_numberOfCrossing 1 = .ok (.ifCond .lt 14, 3) := by decide +kernel
theorem dX2_numberOfCrossing_4 : decode cX2_numberOfCrossing 4 = .ok (.iload_n 1, 1) := by decide +kernel
theorem dX2_numberOfCrossing_5 : decode cX2_numberOfCrossing 5 = .ok (.aload_n 0, 1) := by decide +kernel
theorem dX2_numberOfCrossing_6 : decode cX2_numberOfCrossing 6 = .ok (.getfield 12, 3) := by decide +kernel
theorem dX2_numberOfCrossing_9 : decode cX2_numberOfCrossing 9 = .ok (.invokevirtual 45, 3) := by decide +kernel
theorem dX2_numberOfCrossing_12 : decode cX2_numberOfCrossing 12 = .ok (.if_icmp .lt 5, 3) := by decide +kernel
theorem dX2_numberOfCrossing_15 : decode cX2_numberOfCrossing 15 = .ok (.iconst (-1), 1) := by decide +kernel
theorem dX2_numberOfCrossing_16 : decode cX2_numberOfCrossing 16 = .ok (.ireturn, 1) := by decide +kernel
theorem dX2_numberOfCrossing_17 : decode cX2_numberOfCrossing 17 = .ok (.iload_n 2, 1) := by decide +kernel
theorem dX2_numberOfCrossing_18 : decode cX2_numberOfCrossing 18 = .ok (.tableswitch 67 0 2 #[26, 38, 58], 26) := by decide +kernel
theorem dX2_numberOfCrossing_44 : decode cX2_numberOfCrossing 44 = .ok (.aload_n 0, 1) := by decide +kernel
theorem dX2_numberOfCrossing_45 : decode cX2_numberOfCrossing 45 = .ok (.getfield 12, 3) := by decide +kernel
theorem dX2_numberOfCrossing_48 : decode cX2_numberOfCrossing 48 = .ok (.iload_n 1, 1) := by decide +kernel
theorem dX2_numberOfCrossing_49 : decode cX2_numberOfCrossing 49 = .ok (.invokevirtual 49, 3) := by decide +kernel
theorem dX2_numberOfCrossing_52 : decode cX2_numberOfCrossing 52 = .ok (.invokestatic 53, 3) := by decide +kernel
theorem dX2_numberOfCrossing_55 : decode cX2_numberOfCrossing 55 = .ok (.ireturn, 1) := by decide +kernel
theorem dX2_numberOfCrossing_56 : decode cX2_numberOfCrossing 56 = .ok (.aload_n 0, 1) := by decide +kernel
theorem dX2_numberOfCrossing_57 : decode cX2_numberOfCrossing 57 = .ok (.getfield 12, 3) := by decide +kernel
theorem dX2_numberOfCrossing_60 : decode cX2_numberOfCrossing 60 = .ok (.iload_n 1, 1) := by decide +kernel
theorem dX2_numberOfCrossing_61 : decode cX2_numberOfCrossing 61 = .ok (.invokevirtual 49, 3) := by decide +kernel
theorem dX2_numberOfCrossing_64 : decode cX2_numberOfCrossing 64 = .ok (.invokestatic 56, 3) := by decide +kernel
theorem dX2_numberOfCrossing_67 : decode cX2_numberOfCrossing 67 = .ok (.ifCond .eq 7, 3) := by decide +kernel
theorem dX2_numberOfCrossing_70 : decode cX2_numberOfCrossing 70 = .ok (.iconst 1, 1) := by decide +kernel
theorem dX2_numberOfCrossing_71 : decode cX2_numberOfCrossing 71 = .ok (.goto 4, 3) := by decide +kernel
theorem dX2_numberOfCrossing_74 : decode cX2_numberOfCrossing 74 = .ok (.iconst 0, 1) := by decide +kernel
theorem dX2_numberOfCrossing_75 : decode cX2_numberOfCrossing 75 = .ok (.ireturn, 1) := by decide +kernel
theorem dX2_numberOfCrossing_76 : decode cX2_numberOfCrossing 76 = .ok (.aload_n 0, 1) := by decide +kernel
theorem dX2_numberOfCrossing_77 : decode cX2_numberOfCrossing 77 = .ok (.getfield 24, 3) := by decide +kernel
theorem dX2_numberOfCrossing_80 : decode cX2_numberOfCrossing 80 = .ok (.iload_n 1, 1) := by decide +kernel
theorem dX2_numberOfCrossing_81 : decode cX2_numberOfCrossing 81 = .ok (.invokevirtual 60, 3) := by decide +kernel
theorem dX2_numberOfCrossing_84 : decode cX2_numberOfCrossing 84 = .ok (.ireturn, 1) := by decide +kernel
theorem dX2_numberOfCrossing_85 : decode cX2_numberOfCrossing 85 = .ok (.aload_n 0, 1) := by decide +kernel
theorem dX2_numberOfCrossing_86 : decode cX2_numberOfCrossing 86 = .ok (.getfield 24, 3) := by decide +kernel
theorem dX2_numberOfCrossing_89 : decode cX2_numberOfCrossing 89 = .ok (.iload_n 1, 1) := by decide +kernel
theorem dX2_numberOfCrossing_90 : decode cX2_numberOfCrossing 90 = .ok (.invokevirtual 63, 3) := by decide +kernel
theorem dX2_numberOfCrossing_93 : decode cX2_numberOfCrossing 93 = .ok (.ireturn, 1) := by decide +kernel
theorem dX2_hashOfParts_0 : decode cX2_hashOfParts 0 = .ok (.lload_n 1, 1) := by decide +kernel
theorem dX2_hashOfParts_1 : decode cX2_hashOfParts 1 = .ok (.lstore_n 3, 1) := by decide +kernel
theorem dX2_hashOfParts_2 : decode cX2_hashOfParts 2 = .ok (.iconst 0, 1) := by decide +kernel
theorem dX2_hashOfParts_3 : decode cX2_hashOfParts 3 = .ok (.istore 5, 2) := by decide +kernel
theorem dX2_hashOfParts_5 : decode cX2_hashOfParts 5 = .ok (.iload 5, 2) := by decide +kernel
theorem dX2_hashOfParts_7 : decode cX2_hashOfParts 7 = .ok (.aload_n 0, 1) := by decide +kernel
theorem dX2_hashOfParts_8 : decode cX2_hashOfParts 8 = .ok (.getfield 12, 3) := by decide +kernel
theorem dX2_hashOfParts_11 : decode cX2_hashOfParts 11 = .ok (.invokevirtual 45, 3) := by decide +kernel
theorem dX2_hashOfParts_14 : decode cX2_hashOfParts 14 = .ok (.if_icmp .ge 40, 3) := by decide +kernel
theorem dX2_hashOfParts_17 : decode cX2_hashOfParts 17 = .ok (.iconst 0, 1) := by decide +kernel
theorem dX2_hashOfParts_18 : decode cX2_hashOfParts 18 = .ok (.istore 6, 2) := by decide +kernel
theorem dX2_hashOfParts_20 : decode cX2_hashOfParts 20 = .ok (.iload 6, 2) := by decide +kernel
theorem dX2_hashOfParts_22 : decode cX2_hashOfParts 22 = .ok (.iconst 3, 1) := by decide +kernel
theorem dX2_hashOfParts_23 : decode cX2_hashOfParts 23 = .ok (.if_icmp .gt 25, 3) := by decide +kernel
theorem dX2_hashOfParts_26 : decode cX2_hashOfParts 26 = .ok (.ldc2_w 66, 3) := by decide +kernel
theorem dX2_hashOfParts_29 : decode cX2_hashOfParts 29 = .ok (.lload_n 3, 1) := by decide +kernel
theorem dX2_hashOfParts_30 : decode cX2_hashOfParts 30 = .ok (.lmul, 1) := by decide +kernel
theorem dX2_hashOfParts_31 : decode cX2_hashOfParts 31 = .ok (.aload_n 0, 1) := by decide +kernel
theorem dX2_hashOfParts_32 : decode cX2_hashOfParts 32 = .ok (.iload 5, 2) := by decide +kernel
theorem dX2_hashOfParts_34 : decode cX2_hashOfParts 34 = .ok (.iload 6, 2) := by decide +kernel
theorem dX2_hashOfParts_36 : decode cX2_hashOfParts 36 = .ok (.invokevirtual 68, 3) := by decide +kernel
theorem dX2_hashOfParts_39 : decode cX2_hashOfParts 39 = .ok (.i2l, 1) := by decide +kernel
theorem dX2_hashOfParts_40 : decode cX2_hashOfParts 40 = .ok (.ladd, 1) := by decide +kernel
theorem dX2_hashOfParts_41 : decode cX2_hashOfParts 41 = .ok (.lstore_n 3, 1) := by decide +kernel
theorem dX2_hashOfParts_42 : decode cX2_hashOfParts 42 = .ok (.iinc 6 1, 3) := by decide +kernel
theorem dX2_hashOfParts_45 : decode cX2_hashOfParts 45 = .ok (.goto (-25), 3) := by decide +kernel
theorem dX2_hashOfParts_48 : decode cX2_hashOfParts 48 = .ok (.iinc 5 1, 3) := by decide +kernel
theorem dX2_hashOfParts_51 : decode cX2_hashOfParts 51 = .ok (.goto (-46), 3) := by decide +kernel
theorem dX2_hashOfParts_54 : decode cX2_hashOfParts 54 = .ok (.iconst 0, 1) := by decide +kernel
theorem dX2_hashOfParts_55 : decode cX2_hashOfParts 55 = .ok (.istore 5, 2) := by decide +kernel
theorem dX2_hashOfParts_57 : decode cX2_hashOfParts 57 = .ok (.iload 5, 2) := by decide +kernel
theorem dX2_hashOfParts_59 : decode cX2_hashOfParts 59 = .ok (.aload_n 0, 1) := by decide +kernel
theorem dX2_hashOfParts_60 : decode cX2_hashOfParts 60 = .ok (.getfield 18, 3) := by decide +kernel
theorem dX2_hashOfParts_63 : decode cX2_hashOfParts 63 = .ok (.invokevirtual 45, 3) := by decide +kernel
theorem dX2_hashOfParts_66 : decode cX2_hashOfParts 66 = .ok (.if_icmp .ge 26, 3) := by decide +kernel
theorem dX2_hashOfParts_69 : decode cX2_hashOfParts 69 = .ok (.ldc2_w 66, 3) := by decide +kernel
theorem dX2_hashOfParts_72 : decode cX2_hashOfParts 72 = .ok (.lload_n 3, 1) := by decide +kernel
theorem dX2_hashOfParts_73 : decode cX2_hashOfParts 73 = .ok (.lmul, 1) := by decide +kernel
theorem dX2_hashOfParts_74 : decode cX2_hashOfParts 74 = .ok (.aload_n 0, 1) := by decide +kernel
theorem dX2_hashOfParts_75 : decode cX2_hashOfParts 75 = .ok (.getfield 18, 3) := by decide +kernel
theorem dX2_hashOfParts_78 : decode cX2_hashOfParts 78 = .ok (.iload 5, 2) := by decide +kernel
theorem dX2_hashOfParts_80 : decode cX2_hashOfParts 80 = .ok (.invokevirtual 49, 3) := by decide +kernel
theorem dX2_hashOfParts_83 : decode cX2_hashOfParts 83 = .ok (.i2l, 1) := by decide +kernel
theorem dX2_hashOfParts_84 : decode cX2_hashOfParts 84 = .ok (.ladd, 1) := by decide +kernel
theorem dX2_hashOfParts_85 : decode cX2_hashOfParts 85 = .ok (.lstore_n 3, 1) := by decide +kernel
theorem dX2_hashOfParts_86 : decode cX2_hashOfParts 86 = .ok (.iinc 5 1, 3) := by decide +kernel
theorem dX2_hashOfParts_89 : decode cX2_hashOfParts 89 = .ok (.goto (-32), 3) := by decide +kernel
theorem dX2_hashOfParts_92 : decode cX2_hashOfParts 92 = .ok (.iconst 0, 1) := by decide +kernel
theorem dX2_hashOfParts_93 : decode cX2_hashOfParts 93 = .ok (.istore 5, 2) := by decide +kernel
theorem dX2_hashOfParts_95 : decode cX2_hashOfParts 95 = .ok (.iload 5, 2) := by decide +kernel
theorem dX2_hashOfParts_97 : decode cX2_hashOfParts 97 = .ok (.aload_n 0, 1) := by decide +kernel
theorem dX2_hashOfParts_98 : decode cX2_hashOfParts 98 = .ok (.getfield 12, 3) := by decide +kernel
theorem dX2_hashOfParts_101 : decode cX2_hashOfParts 101 = .ok (.invokevirtual 72, 3) := by decide +kernel
theorem dX2_hashOfParts_104 : decode cX2_hashOfParts 104 = .ok (.if_icmp .ge 43, 3) := by decide +kernel
theorem dX2_hashOfParts_107 : decode cX2_hashOfParts 107 = .ok (.iconst 0, 1) := by decide +kernel
theorem dX2_hashOfParts_108 : decode cX2_hashOfParts 108 = .ok (.istore 6, 2) := by decide +kernel
theorem dX2_hashOfParts_110 : decode cX2_hashOfParts 110 = .ok (.iload 6, 2) := by decide +kernel
theorem dX2_hashOfParts_112 : decode cX2_hashOfParts 112 = .ok (.iconst 4, 1) := by decide +kernel
theorem dX2_hashOfParts_113 : decode cX2_hashOfParts 113 = .ok (.if_icmp .gt 28, 3) := by decide +kernel
theorem dX2_hashOfParts_116 : decode cX2_hashOfParts 116 = .ok (.ldc2_w 66, 3) := by decide +kernel
theorem dX2_hashOfParts_119 : decode cX2_hashOfParts 119 = .ok (.lload_n 3, 1) := by decide +kernel
theorem dX2_hashOfParts_120 : decode cX2_hashOfParts 120 = .ok (.lmul, 1) := by decide +kernel
theorem dX2_hashOfParts_121 : decode cX2_hashOfParts 121 = .ok (.aload_n 0, 1) := by decide +kernel
theorem dX2_hashOfParts_122 : decode cX2_hashOfParts 122 = .ok (.getfield 24, 3) := by decide +kernel
theorem dX2_hashOfParts_125 : decode cX2_hashOfParts 125 = .ok (.iload 5, 2) := by decide +kernel
theorem dX2_hashOfParts_127 : decode cX2_hashOfParts 127 = .ok (.iload 6, 2) := by decide +kernel
theorem dX2_hashOfParts_129 : decode cX2_hashOfParts 129 = .ok (.invokevirtual 75, 3) := by decide +kernel
theorem dX2_hashOfParts_132 : decode cX2_hashOfParts 132 = .ok (.i2l, 1) := by decide +kernel
theorem dX2_hashOfParts_133 : decode cX2_hashOfParts 133 = .ok (.ladd, 1) := by decide +kernel
theorem dX2_hashOfParts_134 : decode cX2_hashOfParts 134 = .ok (.lstore_n 3, 1) := by decide +kernel
theorem dX2_hashOfParts_135 : decode cX2_hashOfParts 135 = .ok (.iinc 6 1, 3) := by decide +kernel
theorem dX2_hashOfParts_138 : decode cX2_hashOfParts 138 = .ok (.goto (-28), 3) := by decide +kernel
theorem dX2_hashOfParts_141 : decode cX2_hashOfParts 141 = .ok (.iinc 5 1, 3) := by decide +kernel
theorem dX2_hashOfParts_144 : decode cX2_hashOfParts 144 = .ok (.goto (-49), 3) := by decide +kernel
theorem dX2_hashOfParts_147 : decode cX2_hashOfParts 147 = .ok (.lload_n 3, 1) := by decide +kernel
theorem dX2_hashOfParts_148 : decode cX2_hashOfParts 148 = .ok (.lreturn, 1) := by decide +kernel
theorem dX3_init_0 : decode cX3_init 0 = .ok (.aload_n 0, 1) := by decide +kernel
theorem dX3_init_1 : decode cX3_init 1 = .ok (.invokespecial 1, 3) := by decide +kernel
theorem dX3_init_4 : decode cX3_init 4 = .ok (.aload_n 0, 1) := by decide +kernel
theorem dX3_init_5 : decode cX3_init 5 = .ok (.iload_n 1, 1) := by decide +kernel
theorem dX3_init_6 : decode cX3_init 6 = .ok (.ifCond .ge 7, 3) := by decide +kernel
theorem dX3_init_9 : decode cX3_init 9 = .ok (.iconst 0, 1) := by decide +kernel
theorem dX3_init_10 : decode cX3_init 10 = .ok (.goto 4, 3) := by decide +kernel
theorem dX3_init_13 : decode cX3_init 13 = .ok (.iload_n 1, 1) := by decide +kernel
theorem dX3_init_14 : decode cX3_init 14 = .ok (.newarray .int, 2) := by decide +kernel
theorem dX3_init_16 : decode cX3_init 16 = .ok (.putfield 7, 3) := by decide +kernel
theorem dX3_init_19 : decode cX3_init 19 = .ok (.return_, 1) := by decide +kernel
theorem dX3_at_0 : decode cX3_at 0 = .ok (.iload_n 1, 1) := by decide +kernel
theorem dX3_at_1 : decode cX3_at 1 = .ok (.ifCond .lt 21, 3) := by decide +kernel
theorem dX3_at_4 : decode cX3_at 4 = .ok (.iload_n 1, 1) := by decide +kernel
theorem dX3_at_5 : decode cX3_at 5 = .ok (.aload_n 0, 1) := by decide +kernel
theorem dX3_at_6 : decode cX3_at 6 = .ok (.getfield 7, 3) := by decide +kernel
theorem dX3_at_9 : decode cX3_at 9 = .ok (.arraylength, 1) := by decide +kernel
theorem dX3_at_10 : decode cX3_at 10 = .ok (.if_icmp .ge 12, 3) := by decide +kernel
theorem dX3_at_13 : decode cX3_at 13 = .ok (.aload_n 0, 1) := by decide +kernel
theorem dX3_at_14 : decode cX3_at 14 = .ok (.getfield 7, 3) := by decide +kernel
theorem dX3_at_17 : decode cX3_at 17 = .ok (.iload_n 1, 1) := by decide +kernel
theorem dX3_at_18 : decode cX3_at 18 = .ok (.iaload, 1) := by decide +kernel
theorem dX3_at_19 : decode cX3_at 19 = .ok (.goto 4, 3) := by decide +kernel
theorem dX3_at_22 : decode cX3_at 22 = .ok (.iconst 0, 1) := by decide +kernel
theorem dX3_at_23 : decode cX3_at 23 = .ok (.ireturn, 1) := by decide +kernel
theorem dX3_put_0 : decode cX3_put 0 = .ok (.iload_n 1, 1) := by decide +kernel
theorem dX3_put_1 : decode cX3_put 1 = .ok (.ifCond .lt 19, 3) := by decide +kernel
theorem dX3_put_4 : decode cX3_put 4 = .ok (.iload_n 1, 1) := by decide +kernel
theorem dX3_put_5 : decode cX3_put 5 = .ok (.aload_n 0, 1) := by decide +kernel
theorem dX3_put_6 : decode cX3_put 6 = .ok (.getfield 7, 3) := by decide +kernel
theorem dX3_put_9 : decode cX3_put 9 = .ok (.arraylength, 1) := by decide +kernel
theorem dX3_put_10 : decode cX3_put 10 = .ok (.if_icmp .ge 10, 3) := by decide +kernel
theorem dX3_put_13 : decode cX3_put 13 = .ok (.aload_n 0, 1) := by decide +kernel
theorem dX3_put_14 : decode cX3_put 14 = .ok (.getfield 7, 3) := by decide +kernel
theorem dX3_put_17 : decode cX3_put 17 = .ok (.iload_n 1, 1) := by decide +kernel
theorem dX3_put_18 : decode cX3_put 18 = .ok (.iload_n 2, 1) := by decide +kernel
theorem dX3_put_19 : decode cX3_put 19 = .ok (.iastore, 1) := by decide +kernel
theorem dX3_put_20 : decode cX3_put 20 = .ok (.return_, 1) := by decide +kernel
theorem dX3_copyFrom_0 : decode cX3_copyFrom 0 = .ok (.aload_n 0, 1) := by decide +kernel
theorem dX3_copyFrom_1 : decode cX3_copyFrom 1 = .ok (.getfield 7, 3) := by decide +kernel
theorem dX3_copyFrom_4 : decode cX3_copyFrom 4 = .ok (.arraylength, 1) := by decide +kernel
theorem dX3_copyFrom_5 : decode cX3_copyFrom 5 = .ok (.aload_n 1, 1) := by decide +kernel
theorem dX3_copyFrom_6 : decode cX3_copyFrom 6 = .ok (.getfield 7, 3) := by decide +kernel
theorem dX3_copyFrom_9 : decode cX3_copyFrom 9 = .ok (.arraylength, 1) := by decide +kernel
theorem dX3_copyFrom_10 : decode cX3_copyFrom 10 = .ok (.invokestatic 13, 3) := by decide +kernel
theorem dX3_copyFrom_13 : decode cX3_copyFrom 13 = .ok (.istore_n 2, 1) := by decide +kernel
theorem dX3_copyFrom_14 : decode cX3_copyFrom 14 = .ok (.aload_n 1, 1) := by decide +kernel
theorem dX3_copyFrom_15 : decode cX3_copyFrom 15 = .ok (.getfield 7, 3) := by decide +kernel
theorem dX3_copyFrom_18 : decode cX3_copyFrom 18 = .ok (.iconst 0, 1) := by decide +kernel
theorem dX3_copyFrom_19 : decode cX3_copyFrom 19 = .ok (.aload_n 0, 1) := by decide +kernel
theorem dX3_copyFrom_20 : decode cX3_copyFrom 20 = .ok (.getfield 7, 3) := by decide +kernel
theorem dX3_copyFrom_23 : decode cX3_copyFrom 23 = .ok (.iconst 0, 1) := by decide +kernel
theorem dX3_copyFrom_24 : decode cX3_copyFrom 24 = .ok (.iload_n 2, 1) := by decide +kernel
theorem dX3_copyFrom_25 : decode cX3_copyFrom 25 = .ok (.invokestatic 19, 3) := by decide +kernel
theorem dX3_copyFrom_28 : decode cX3_copyFrom 28 = .ok (.return_, 1) := by decide +kernel
theorem dX4_init_0 : decode cX4_init 0 = .ok (.aload_n 0, 1) := by decide +kernel
theorem dX4_init_1 : decode cX4_init 1 = .ok (.invokespecial 3, 3) := by decide +kernel
theorem dX4_init_4 : decode cX4_init 4 = .ok (.aload_n 0, 1) := by decide +kernel
theorem dX4_init_5 : decode cX4_init 5 = .ok (.new 9, 3) := by decide +kernel
theorem dX4_init_8 : decode cX4_init 8 = .ok (.dup, 1) := by decide +kernel
theorem dX4_init_9 : decode cX4_init 9 = .ok (.bipush 60, 2) := by decide +kernel
theorem dX4_init_11 : decode cX4_init 11 = .ok (.invokespecial 11, 3) := by decide +kernel
theorem dX4_init_14 : decode cX4_init 14 = .ok (.putfield 14, 3) := by decide +kernel
theorem dX4_init_17 : decode cX4_init 17 = .ok (.aload_n 0, 1) := by decide +kernel
theorem dX4_init_18 : decode cX4_init 18 = .ok (.iconst 0, 1) := by decide +kernel
theorem dX4_init_19 : decode cX4_init 19 = .ok (.putfield 20, 3) := by decide +kernel
theorem dX4_init_22 : decode cX4_init 22 = .ok (.return_, 1) := by decide +kernel
theorem dX4_size_0 : decode cX4_size 0 = .ok (.aload_n 0, 1) := by decide +kernel
theorem dX4_size_1 : decode cX4_size 1 = .ok (.getfield 20, 3) := by decide +kernel
theorem dX4_size_4 : decode cX4_size 4 = .ok (.ireturn, 1) := by decide +kernel
theorem dX4_signAt_0 : decode cX4_signAt 0 = .ok (.aload_n 0, 1) := by decide +kernel
theorem dX4_signAt_1 : decode cX4_signAt 1 = .ok (.getfield 14, 3) := by decide +kernel
theorem dX4_signAt_4 : decode cX4_signAt 4 = .ok (.iload_n 1, 1) := by decide +kernel
theorem dX4_signAt_5 : decode cX4_signAt 5 = .ok (.invokevirtual 24, 3) := by decide +kernel
theorem dX4_signAt_8 : decode cX4_signAt 8 = .ok (.ireturn, 1) := by decide +kernel
theorem dX4_addSign_0 : decode cX4_addSign 0 = .ok (.aload_n 0, 1) := by decide +kernel
theorem dX4_addSign_1 : decode cX4_addSign 1 = .ok (.getfield 20, 3) := by decide +kernel
theorem dX4_addSign_4 : decode cX4_addSign 4 = .ok (.bipush 60, 2) := by decide +kernel
theorem dX4_addSign_6 : decode cX4_addSign 6 = .ok (.if_icmp .ge 25, 3) := by decide +kernel
theorem dX4_addSign_9 : decode cX4_addSign 9 = .ok (.aload_n 0, 1) := by decide +kernel
theorem dX4_addSign_10 : decode cX4_addSign 10 = .ok (.getfield 14, 3) := by decide +kernel
theorem dX4_addSign_13 : decode cX4_addSign 13 = .ok (.aload_n 0, 1) := by decide +kernel
theorem dX4_addSign_14 : decode cX4_addSign 14 = .ok (.getfield 20, 3) := by decide +kernel
theorem dX4_addSign_17 : decode cX4_addSign 17 = .ok (.iload_n 1, 1) := by decide +kernel
theorem dX4_addSign_18 : decode cX4_addSign 18 = .ok (.invokevirtual 28, 3) := by decide +kernel
theorem dX4_addSign_21 : decode cX4_addSign 21 = .ok (.aload_n 0, 1) := by decide +kernel
theorem dX4_addSign_22 : decode cX4_addSign 22 = .ok (.dup, 1) := by decide +kernel
theorem dX4_addSign_23 : decode cX4_addSign 23 = .ok (.getfield 20, 3) := by decide +kernel
theorem dX4_addSign_26 : decode cX4_addSign 26 = .ok (.iconst 1, 1) := by decide +kernel
theorem dX4_addSign_27 : decode cX4_addSign 27 = .ok (.iadd, 1) := by decide +kernel
theorem dX4_addSign_28 : decode cX4_addSign 28 = .ok (.putfield 20, 3) := by decide +kernel
theorem dX4_addSign_31 : decode cX4_addSign 31 = .ok (.return_, 1) := by decide +kernel
theorem dX4_clear_0 : decode cX4_clear 0 = .ok (.aload_n 0, 1) := by decide +kernel
theorem dX4_clear_1 : decode cX4_clear 1 = .ok (.iconst 0, 1) := by decide +kernel
theorem dX4_clear_2 : decode cX4_clear 2 = .ok (.putfield 20, 3) := by decide +kernel
theorem dX4_clear_5 : decode cX4_clear 5 = .ok (.return_, 1) := by decide +kernel
theorem dX4_digitAt_0 : decode cX4_digitAt 0 = .ok (.aload_n 0, 1) := by decide +kernel
theorem dX4_digitAt_1 : decode cX4_digitAt 1 = .ok (.iload_n 1, 1) := by decide +kernel
theorem dX4_digitAt_2 : decode cX4_digitAt 2 = .ok (.invokevirtual 32, 3) := by decide +kernel
theorem dX4_digitAt_5 : decode cX4_digitAt 5 = .ok (.bipush 48, 2) := by decide +kernel
theorem dX4_digitAt_7 : decode cX4_digitAt 7 = .ok (.isub, 1) := by decide +kernel
theorem dX4_digitAt_8 : decode cX4_digitAt 8 = .ok (.ireturn, 1) := by decide +kernel
theorem dX4_placeAt_0 : decode cX4_placeAt 0 = .ok (.aload_n 0, 1) := by decide +kernel
theorem dX4_placeAt_1 : decode cX4_placeAt 1 = .ok (.iload_n 1, 1) := by decide +kernel
theorem dX4_placeAt_2 : decode cX4_placeAt 2 = .ok (.invokevirtual 32, 3) := by decide +kernel
theorem dX4_placeAt_5 : decode cX4_placeAt 5 = .ok (.bipush 97, 2) := by decide +kernel
theorem dX4_placeAt_7 : decode cX4_placeAt 7 = .ok (.isub, 1) := by decide +kernel
theorem dX4_placeAt_8 : decode cX4_placeAt 8 = .ok (.ireturn, 1) := by decide +kernel
theorem dX4_isLoaf_0 : decode cX4_isLoaf 0 = .ok (.aload_n 0, 1) := by decide +kernel
theorem dX4_isLoaf_1 : decode cX4_isLoaf 1 = .ok (.getfield 20, 3) := by decide +kernel
theorem dX4_isLoaf_4 : decode cX4_isLoaf 4 = .ok (.iconst 2, 1) := by decide +kernel
theorem dX4_isLoaf_5 : decode cX4_isLoaf 5 = .ok (.if_icmp .lt 27, 3) := by decide +kernel
theorem dX4_isLoaf_8 : decode cX4_isLoaf 8 = .ok (.aload_n 0, 1) := by decide +kernel
theorem dX4_isLoaf_9 : decode cX4_isLoaf 9 = .ok (.getfield 20, 3) := by decide +kernel
theorem dX4_isLoaf_12 : decode cX4_isLoaf 12 = .ok (.iconst 2, 1) := by decide +kernel
theorem dX4_isLoaf_13 : decode cX4_isLoaf 13 = .ok (.irem, 1) := by decide +kernel
theorem dX4_isLoaf_14 : decode cX4_isLoaf 14 = .ok (.ifCond .ne 18, 3) := by decide +kernel
theorem dX4_isLoaf_17 : decode cX4_isLoaf 17 = .ok (.aload_n 0, 1) := by decide +kernel
theorem dX4_isLoaf_18 : decode cX4_isLoaf 18 = .ok (.invokevirtual 35, 3) := by decide +kernel
theorem dX4_isLoaf_21 : decode cX4_isLoaf 21 = .ok (.aload_n 0, 1) := by decide +kernel
theorem dX4_isLoaf_22 : decode cX4_isLoaf 22 = .ok (.getfield 20, 3) := by decide +kernel
theorem dX4_isLoaf_25 : decode cX4_isLoaf 25 = .ok (.if_icmp .ne 7, 3) := by decide +kernel
theorem dX4_isLoaf_28 : decode cX4_isLoaf 28 = .ok (.iconst 1, 1) := by decide +kernel
theorem dX4_isLoaf_29 : decode cX4_isLoaf 29 = .ok (.goto 4, 3) := by decide +kernel
theorem dX4_isLoaf_32 : decode cX4_isLoaf 32 = .ok (.iconst 0, 1) := by decide +kernel
theorem dX4_isLoaf_33 : decode cX4_isLoaf 33 = .ok (.ireturn, 1) := by decide +kernel
theorem dX4_firstErrorOfLoaf_0 : decode cX4_firstErrorOfLoaf 0 = .ok (.iconst 0, 1) := by decide +kernel
theorem dX4_firstErrorOfLoaf_1 : decode cX4_firstErrorOfLoaf 1 = .ok (.istore_n 1, 1) := by decide +kernel
theorem dX4_firstErrorOfLoaf_2 : decode cX4_firstErrorOfLoaf 2 = .ok (.iload_n 1, 1) := by decide +kernel
theorem dX4_firstErrorOfLoaf_3 : decode cX4_firstErrorOfLoaf 3 = .ok (.aload_n 0, 1) := by decide +kernel
theorem dX4_firstErrorOfLoaf_4 : decode cX4_firstErrorOfLoaf 4 = .ok (.getfield 20, 3) := by decide +kernel
theorem dX4_firstErrorOfLoaf_7 : decode cX4_firstErrorOfLoaf 7 = .ok (.if_icmp .ge 19, 3) := by decide +kernel
theorem dX4_firstErrorOfLoaf_10 : decode cX4_firstErrorOfLoaf 10 = .ok (.aload_n 0, 1) := by decide +kernel
theorem dX4_firstErrorOfLoaf_11 : decode cX4_firstErrorOfLoaf 11 = .ok (.iload_n 1, 1) := by decide +kernel
theorem dX4_firstErrorOfLoaf_12 : decode cX4_firstErrorOfLoaf 12 = .ok (.invokevirtual 39, 3) := by decide +kernel
theorem dX4_firstErrorOfLoaf_15 : decode cX4_firstErrorOfLoaf 15 = .ok (.ifCond .ne 5, 3) := by decide +kernel
theorem dX4_firstErrorOfLoaf_18 : decode cX4_firstErrorOfLoaf 18 = .ok (.iload_n 1, 1) := by decide +kernel
theorem dX4_firstErrorOfLoaf_19 : decode cX4_firstErrorOfLoaf 19 = .ok (.ireturn, 1) := by decide +kernel
theorem dX4_firstErrorOfLoaf_20 : decode cX4_firstErrorOfLoaf 20 = .ok (.iinc 1 1, 3) := by decide +kernel
theorem dX4_firstErrorOfLoaf_23 : decode cX4_firstErrorOfLoaf 23 = .ok (.goto (-21), 3) := by decide +kernel
theorem dX4_firstErrorOfLoaf_26 : decode cX4_firstErrorOfLoaf 26 = .ok (.aload_n 0, 1) := by decide +kernel
theorem dX4_firstErrorOfLoaf_27 : decode cX4_firstErrorOfLoaf 27 = .ok (.getfield 20, 3) := by decide +kernel
theorem dX4_firstErrorOfLoaf_30 : decode cX4_firstErrorOfLoaf 30 = .ok (.ireturn, 1) := by decide +kernel
theorem dX4_canFollowInLoaf_0 : decode cX4_canFollowInLoaf 0 = .ok (.aload_n 0, 1) := by decide +kernel
theorem dX4_canFollowInLoaf_1 : decode cX4_canFollowInLoaf 1 = .ok (.iload_n 1, 1) := by decide +kernel
theorem dX4_canFollowInLoaf_2 : decode cX4_canFollowInLoaf 2 = .ok (.invokevirtual 32, 3) := by decide +kernel
theorem dX4_canFollowInLoaf_5 : decode cX4_canFollowInLoaf 5 = .ok (.istore_n 2, 1) := by decide +kernel
theorem dX4_canFollowInLoaf_6 : decode cX4_canFollowInLoaf 6 = .ok (.iload_n 1, 1) := by decide +kernel
theorem dX4_canFollowInLoaf_7 : decode cX4_canFollowInLoaf 7 = .ok (.ifCond .ne 12, 3) := by decide +kernel
theorem dX4_canFollowInLoaf_10 : decode cX4_canFollowInLoaf 10 = .ok (.iload_n 2, 1) := by decide +kernel
theorem dX4_canFollowInLoaf_11 : decode cX4_canFollowInLoaf 11 = .ok (.bipush 50, 2) := by decide +kernel
theorem dX4_canFollowInLoaf_13 : decode cX4_canFollowInLoaf 13 = .ok (.bipush 55, 2) := by decide +kernel
theorem dX4_canFollowInLoaf_15 : decode cX4_canFollowInLoaf 15 = .ok (.invokestatic 43, 3) := by decide +kernel
theorem dX4_canFollowInLoaf_18 : decode cX4_canFollowInLoaf 18 = .ok (.ireturn, 1) := by decide +kernel
theorem dX4_canFollowInLoaf_19 : decode cX4_canFollowInLoaf 19 = .ok (.iload_n 1, 1) := by decide +kernel
theorem dX4_canFollowInLoaf_20 : decode cX4_canFollowInLoaf 20 = .ok (.iconst 1, 1) := by decide +kernel
theorem dX4_canFollowInLoaf_21 : decode cX4_canFollowInLoaf 21 = .ok (.if_icmp .ne 15, 3) := by decide +kernel
theorem dX4_canFollowInLoaf_24 : decode cX4_canFollowInLoaf 24 = .ok (.iload_n 2, 1) := by decide +kernel
theorem dX4_canFollowInLoaf_25 : decode cX4_canFollowInLoaf 25 = .ok (.bipush 58, 2) := by decide +kernel
theorem dX4_canFollowInLoaf_27 : decode cX4_canFollowInLoaf 27 = .ok (.if_icmp .ne 7, 3) := by decide +kernel
theorem dX4_canFollowInLoaf_30 : decode cX4_canFollowInLoaf 30 = .ok (.iconst 1, 1) := by decide +kernel
theorem dX4_canFollowInLoaf_31 : decode cX4_canFollowInLoaf 31 = .ok (.goto 4, 3) := by decide +kernel
theorem dX4_canFollowInLoaf_34 : decode cX4_canFollowInLoaf 34 = .ok (.iconst 0, 1) := by decide +kernel
theorem dX4_canFollowInLoaf_35 : decode cX4_canFollowInLoaf 35 = .ok (.ireturn, 1) := by decide +kernel
theorem dX4_canFollowInLoaf_36 : decode cX4_canFollowInLoaf 36 = .ok (.iload_n 1, 1) := by decide +kernel
theorem dX4_canFollowInLoaf_37 : decode cX4_canFollowInLoaf 37 = .ok (.bipush 50, 2) := by decide +kernel
theorem dX4_canFollowInLoaf_39 : decode cX4_canFollowInLoaf 39 = .ok (.if_icmp .lt 5, 3) := by decide +kernel
theorem dX4_canFollowInLoaf_42 : decode cX4_canFollowInLoaf 42 = .ok (.iconst 0, 1) := by decide +kernel
theorem dX4_canFollowInLoaf_43 : decode cX4_canFollowInLoaf 43 = .ok (.ireturn, 1) := by decide +kernel
theorem dX4_canFollowInLoaf_44 : decode cX4_canFollowInLoaf 44 = .ok (.iload_n 1, 1) := by decide +kernel
theorem dX4_canFollowInLoaf_45 : decode cX4_canFollowInLoaf 45 = .ok (.iconst 2, 1) := by decide +kernel
theorem dX4_canFollowInLoaf_46 : decode cX4_canFollowInLoaf 46 = .ok (.irem, 1) := by decide +kernel
theorem dX4_canFollowInLoaf_47 : decode cX4_canFollowInLoaf 47 = .ok (.ifCond .ne 22, 3) := by decide +kernel
theorem dX4_canFollowInLoaf_50 : decode cX4_canFollowInLoaf 50 = .ok (.iload_n 2, 1) := by decide +kernel
theorem dX4_canFollowInLoaf_51 : decode cX4_canFollowInLoaf 51 = .ok (.bipush 97, 2) := by decide +kernel
theorem dX4_canFollowInLoaf_53 : decode cX4_canFollowInLoaf 53 = .ok (.bipush 97, 2) := by decide +kernel
theorem dX4_canFollowInLoaf_55 : decode cX4_canFollowInLoaf 55 = .ok (.aload_n 0, 1) := by decide +kernel
theorem dX4_canFollowInLoaf_56 : decode cX4_canFollowInLoaf 56 = .ok (.iconst 0, 1) := by decide +kernel
theorem dX4_canFollowInLoaf_57 : decode cX4_canFollowInLoaf 57 = .ok (.invokevirtual 47, 3) := by decide +kernel
theorem dX4_canFollowInLoaf_60 : decode cX4_canFollowInLoaf 60 = .ok (.iadd, 1) := by decide +kernel
theorem dX4_canFollowInLoaf_61 : decode cX4_canFollowInLoaf 61 = .ok (.iconst 2, 1) := by decide +kernel
theorem dX4_canFollowInLoaf_62 : decode cX4_canFollowInLoaf 62 = .ok (.isub, 1) := by decide +kernel
theorem dX4_canFollowInLoaf_63 : decode cX4_canFollowInLoaf 63 = .ok (.invokestatic 43, 3) := by decide +kernel
theorem dX4_canFollowInLoaf_66 : decode cX4_canFollowInLoaf 66 = .ok (.goto 7, 3) := by decide +kernel
theorem dX4_canFollowInLoaf_69 : decode cX4_canFollowInLoaf 69 = .ok (.iload_n 2, 1) := by decide +kernel
theorem dX4_canFollowInLoaf_70 : decode cX4_canFollowInLoaf 70 = .ok (.invokestatic 50, 3) := by decide +kernel
theorem dX4_canFollowInLoaf_73 : decode cX4_canFollowInLoaf 73 = .ok (.ireturn, 1) := by decide +kernel
theorem dX4_readLoaf_0 : decode cX4_readLoaf 0 = .ok (.aload_n 1, 1) := by decide +kernel
theorem dX4_readLoaf_1 : decode cX4_readLoaf 1 = .ok (.aload_n 0, 1) := by decide +kernel
theorem dX4_readLoaf_2 : decode cX4_readLoaf 2 = .ok (.iconst 0, 1) := by decide +kernel
theorem dX4_readLoaf_3 : decode cX4_readLoaf 3 = .ok (.invokevirtual 47, 3) := by decide +kernel
theorem dX4_readLoaf_6 : decode cX4_readLoaf 6 = .ok (.invokevirtual 53, 3) := by decide +kernel
theorem dX4_readLoaf_9 : decode cX4_readLoaf 9 = .ok (.iconst 2, 1) := by decide +kernel
theorem dX4_readLoaf_10 : decode cX4_readLoaf 10 = .ok (.istore_n 2, 1) := by decide +kernel
theorem dX4_readLoaf_11 : decode cX4_readLoaf 11 = .ok (.iload_n 2, 1) := by decide +kernel
theorem dX4_readLoaf_12 : decode cX4_readLoaf 12 = .ok (.aload_n 0, 1) := by decide +kernel
theorem dX4_readLoaf_13 : decode cX4_readLoaf 13 = .ok (.getfield 20, 3) := by decide +kernel
theorem dX4_readLoaf_16 : decode cX4_readLoaf 16 = .ok (.if_icmp .ge 38, 3) := by decide +kernel
theorem dX4_readLoaf_19 : decode cX4_readLoaf 19 = .ok (.aload_n 1, 1) := by decide +kernel
theorem dX4_readLoaf_20 : decode cX4_readLoaf 20 = .ok (.aload_n 0, 1) := by decide +kernel
theorem dX4_readLoaf_21 : decode cX4_readLoaf 21 = .ok (.iload_n 2, 1) := by decide +kernel
theorem dX4_readLoaf_22 : decode cX4_readLoaf 22 = .ok (.invokevirtual 58, 3) := by decide +kernel
theorem dX4_readLoaf_25 : decode cX4_readLoaf 25 = .ok (.aload_n 0, 1) := by decide +kernel
theorem dX4_readLoaf_26 : decode cX4_readLoaf 26 = .ok (.iload_n 2, 1) := by decide +kernel
theorem dX4_readLoaf_27 : decode cX4_readLoaf 27 = .ok (.iconst 1, 1) := by decide +kernel
theorem dX4_readLoaf_28 : decode cX4_readLoaf 28 = .ok (.iadd, 1) := by decide +kernel
theorem dX4_readLoaf_29 : decode cX4_readLoaf 29 = .ok (.invokevirtual 32, 3) := by decide +kernel
theorem dX4_readLoaf_32 : decode cX4_readLoaf 32 = .ok (.bipush 43, 2) := by decide +kernel
theorem dX4_readLoaf_34 : decode cX4_readLoaf 34 = .ok (.if_icmp .ne 7, 3) := by decide +kernel
theorem dX4_readLoaf_37 : decode cX4_readLoaf 37 = .ok (.iconst 1, 1) := by decide +kernel
theorem dX4_readLoaf_38 : decode cX4_readLoaf 38 = .ok (.goto 4, 3) := by decide +kernel
theorem dX4_readLoaf_41 : decode cX4_readLoaf 41 = .ok (.iconst 0, 1) := by decide +kernel
theorem dX4_readLoaf_42 : decode cX4_readLoaf 42 = .ok (.invokestatic 61, 3) := by decide +kernel
theorem dX4_readLoaf_45 : decode cX4_readLoaf 45 = .ok (.invokevirtual 65, 3) := by decide +kernel
theorem dX4_readLoaf_48 : decode cX4_readLoaf 48 = .ok (.iinc 2 2, 3) := by decide +kernel
theorem dX4_readLoaf_51 : decode cX4_readLoaf 51 = .ok (.goto (-40), 3) := by decide +kernel
theorem dX4_readLoaf_54 : decode cX4_readLoaf 54 = .ok (.return_, 1) := by decide +kernel
theorem dX4_isWorks_0 : decode cX4_isWorks 0 = .ok (.iconst 0, 1) := by decide +kernel
theorem dX4_isWorks_1 : decode cX4_isWorks 1 = .ok (.istore_n 1, 1) := by decide +kernel
theorem dX4_isWorks_2 : decode cX4_isWorks 2 = .ok (.iconst 0, 1) := by decide +kernel
theorem dX4_isWorks_3 : decode cX4_isWorks 3 = .ok (.istore_n 2, 1) := by decide +kernel
theorem dX4_isWorks_4 : decode cX4_isWorks 4 = .ok (.iload_n 2, 1) := by decide +kernel
theorem dX4_isWorks_5 : decode cX4_isWorks 5 = .ok (.aload_n 0, 1) := by decide +kernel
theorem dX4_isWorks_6 : decode cX4_isWorks 6 = .ok (.getfield 20, 3) := by decide +kernel
theorem dX4_isWorks_9 : decode cX4_isWorks 9 = .ok (.if_icmp .ge 19, 3) := by decide +kernel
theorem dX4_isWorks_12 : decode cX4_isWorks 12 = .ok (.iload_n 1, 1) := by decide +kernel
theorem dX4_isWorks_13 : decode cX4_isWorks 13 = .ok (.aload_n 0, 1) := by decide +kernel
theorem dX4_isWorks_14 : decode cX4_isWorks 14 = .ok (.iload_n 2, 1) := by decide +kernel
theorem dX4_isWorks_15 : decode cX4_isWorks 15 = .ok (.invokevirtual 32, 3) := by decide +kernel
theorem dX4_isWorks_18 : decode cX4_isWorks 18 = .ok (.invokestatic 68, 3) := by decide +kernel
theorem dX4_isWorks_21 : decode cX4_isWorks 21 = .ok (.istore_n 1, 1) := by decide +kernel
theorem dX4_isWorks_22 : decode cX4_isWorks 22 = .ok (.iinc 2 1, 3) := by decide +kernel
theorem dX4_isWorks_25 : decode cX4_isWorks 25 = .ok (.goto (-21), 3) := by decide +kernel
theorem dX4_isWorks_28 : decode cX4_isWorks 28 = .ok (.iload_n 1, 1) := by decide +kernel
theorem dX4_isWorks_29 : decode cX4_isWorks 29 = .ok (.bipush 7, 2) := by decide +kernel
theorem dX4_isWorks_31 : decode cX4_isWorks 31 = .ok (.if_icmp .ne 7, 3) := by decide +kernel
theorem dX4_isWorks_34 : decode cX4_isWorks 34 = .ok (.iconst 1, 1) := by decide +kernel
theorem dX4_isWorks_35 : decode cX4_isWorks 35 = .ok (.goto 4, 3) := by decide +kernel
theorem dX4_isWorks_38 : decode cX4_isWorks 38 = .ok (.iconst 0, 1) := by decide +kernel
theorem dX4_isWorks_39 : decode cX4_isWorks 39 = .ok (.ireturn, 1) := by decide +kernel
theorem dX4_firstErrorOfWorks_0 : decode cX4_firstErrorOfWorks 0 = .ok (.iconst 0, 1) := by decide +kernel
theorem dX4_firstErrorOfWorks_1 : decode cX4_firstErrorOfWorks 1 = .ok (.istore_n 1, 1) := by decide +kernel
theorem dX4_firstErrorOfWorks_2 : decode cX4_firstErrorOfWorks 2 = .ok (.iconst 0, 1) := by decide +kernel
theorem dX4_firstErrorOfWorks_3 : decode cX4_firstErrorOfWorks 3 = .ok (.istore_n 2, 1) := by decide +kernel
theorem dX4_firstErrorOfWorks_4 : decode cX4_firstErrorOfWorks 4 = .ok (.iload_n 2, 1) := by decide +kernel
theorem dX4_firstErrorOfWorks_5 : decode cX4_firstErrorOfWorks 5 = .ok (.aload_n 0, 1) := by decide +kernel
theorem dX4_firstErrorOfWorks_6 : decode cX4_firstErrorOfWorks 6 = .ok (.getfield 20, 3) := by decide +kernel
theorem dX4_firstErrorOfWorks_9 : decode cX4_firstErrorOfWorks 9 = .ok (.if_icmp .ge 26, 3) := by decide +kernel
theorem dX4_firstErrorOfWorks_12 : decode cX4_firstErrorOfWorks 12 = .ok (.iload_n 1, 1) := by decide +kernel
theorem dX4_firstErrorOfWorks_13 : decode cX4_firstErrorOfWorks 13 = .ok (.aload_n 0, 1) := by decide +kernel
theorem dX4_firstErrorOfWorks_14 : decode cX4_firstErrorOfWorks 14 = .ok (.iload_n 2, 1) := by decide +kernel
theorem dX4_firstErrorOfWorks_15 : decode cX4_firstErrorOfWorks 15 = .ok (.invokevirtual 32, 3) := by decide +kernel
theorem dX4_firstErrorOfWorks_18 : decode cX4_firstErrorOfWorks 18 = .ok (.invokestatic 68, 3) := by decide +kernel
theorem dX4_firstErrorOfWorks_21 : decode cX4_firstErrorOfWorks 21 = .ok (.istore_n 1, 1) := by decide +kernel
theorem dX4_firstErrorOfWorks_22 : decode cX4_firstErrorOfWorks 22 = .ok (.iload_n 1, 1) := by decide +kernel
theorem dX4_firstErrorOfWorks_23 : decode cX4_firstErrorOfWorks 23 = .ok (.iconst (-1), 1) := by decide +kernel
theorem dX4_firstErrorOfWorks_24 : decode cX4_firstErrorOfWorks 24 = .ok (.if_icmp .ne 5, 3) := by decide +kernel
theorem dX4_firstErrorOfWorks_27 : decode cX4_firstErrorOfWorks 27 = .ok (.iload_n 2, 1) := by decide +kernel
theorem dX4_firstErrorOfWorks_28 : decode cX4_firstErrorOfWorks 28 = .ok (.ireturn, 1) := by decide +kernel
theorem dX4_firstErrorOfWorks_29 : decode cX4_firstErrorOfWorks 29 = .ok (.iinc 2 1, 3) := by decide +kernel
theorem dX4_firstErrorOfWorks_32 : decode cX4_firstErrorOfWorks 32 = .ok (.goto (-28), 3) := by decide +kernel
theorem dX4_firstErrorOfWorks_35 : decode cX4_firstErrorOfWorks 35 = .ok (.aload_n 0, 1) := by decide +kernel
theorem dX4_firstErrorOfWorks_36 : decode cX4_firstErrorOfWorks 36 = .ok (.getfield 20, 3) := by decide +kernel
theorem dX4_firstErrorOfWorks_39 : decode cX4_firstErrorOfWorks 39 = .ok (.ireturn, 1) := by decide +kernel
theorem dX4_stateBehind_0 : decode cX4_stateBehind 0 = .ok (.iload_n 0, 1) := by decide +kernel
theorem dX4_stateBehind_1 : decode cX4_stateBehind 1 = .ok (.tableswitch 148 0 7 #[47, 52, 66, 79, 96, 110, 124, 136], 47) := by decide +kernel
theorem dX4_stateBehind_48 : decode cX4_stateBehind 48 = .ok (.iload_n 1, 1) := by decide +kernel
theorem dX4_stateBehind_49 : decode cX4_stateBehind 49 = .ok (.invokestatic 72, 3) := by decide +kernel
theorem dX4_stateBehind_52 : decode cX4_stateBehind 52 = .ok (.ireturn, 1) := by decide +kernel
theorem dX4_stateBehind_53 : decode cX4_stateBehind 53 = .ok (.iload_n 1, 1) := by decide +kernel
theorem dX4_stateBehind_54 : decode cX4_stateBehind 54 = .ok (.invokestatic 75, 3) := by decide +kernel
theorem dX4_stateBehind_57 : decode cX4_stateBehind 57 = .ok (.ifCond .eq 8, 3) := by decide +kernel
theorem dX4_stateBehind_60 : decode cX4_stateBehind 60 = .ok (.bipush 7, 2) := by decide +kernel
theorem dX4_stateBehind_62 : decode cX4_stateBehind 62 = .ok (.goto 4, 3) := by decide +kernel
theorem dX4_stateBehind_65 : decode cX4_stateBehind 65 = .ok (.iconst (-1), 1) := by decide +kernel
theorem dX4_stateBehind_66 : decode cX4_stateBehind 66 = .ok (.ireturn, 1) := by decide +kernel
theorem dX4_stateBehind_67 : decode cX4_stateBehind 67 = .ok (.iload_n 1, 1) := by decide +kernel
theorem dX4_stateBehind_68 : decode cX4_stateBehind 68 = .ok (.invokestatic 75, 3) := by decide +kernel
theorem dX4_stateBehind_71 : decode cX4_stateBehind 71 = .ok (.ifCond .eq 7, 3) := by decide +kernel
theorem dX4_stateBehind_74 : decode cX4_stateBehind 74 = .ok (.iconst 3, 1) := by decide +kernel
theorem dX4_stateBehind_75 : decode cX4_stateBehind 75 = .ok (.goto 4, 3) := by decide +kernel
theorem dX4_stateBehind_78 : decode cX4_stateBehind 78 = .ok (.iconst (-1), 1) := by decide +kernel
theorem dX4_stateBehind_79 : decode cX4_stateBehind 79 = .ok (.ireturn, 1) := by decide +kernel
theorem dX4_stateBehind_80 : decode cX4_stateBehind 80 = .ok (.iload_n 1, 1) := by decide +kernel
theorem dX4_stateBehind_81 : decode cX4_stateBehind 81 = .ok (.bipush 97, 2) := by decide +kernel
theorem dX4_stateBehind_83 : decode cX4_stateBehind 83 = .ok (.bipush 102, 2) := by decide +kernel
theorem dX4_stateBehind_85 : decode cX4_stateBehind 85 = .ok (.invokestatic 43, 3) := by decide +kernel
theorem dX4_stateBehind_88 : decode cX4_stateBehind 88 = .ok (.ifCond .eq 7, 3) := by decide +kernel
theorem dX4_stateBehind_91 : decode cX4_stateBehind 91 = .ok (.iconst 4, 1) := by decide +kernel
theorem dX4_stateBehind_92 : decode cX4_stateBehind 92 = .ok (.goto 4, 3) := by decide +kernel
theorem dX4_stateBehind_95 : decode cX4_stateBehind 95 = .ok (.iconst (-1), 1) := by decide +kernel
theorem dX4_stateBehind_96 : decode cX4_stateBehind 96 = .ok (.ireturn, 1) := by decide +kernel
theorem dX4_stateBehind_97 : decode cX4_stateBehind 97 = .ok (.iload_n 1, 1) := by decide +kernel
theorem dX4_stateBehind_98 : decode cX4_stateBehind 98 = .ok (.invokestatic 50, 3) := by decide +kernel
theorem dX4_stateBehind_101 : decode cX4_stateBehind 101 = .ok (.ifCond .eq 8, 3) := by decide +kernel
theorem dX4_stateBehind_104 : decode cX4_stateBehind 104 = .ok (.bipush 7, 2) := by decide +kernel
theorem dX4_stateBehind_106 : decode cX4_stateBehind 106 = .ok (.goto 4, 3) := by decide +kernel
theorem dX4_stateBehind_109 : decode cX4_stateBehind 109 = .ok (.iconst (-1), 1) := by decide +kernel
theorem dX4_stateBehind_110 : decode cX4_stateBehind 110 = .ok (.ireturn, 1) := by decide +kernel
theorem dX4_stateBehind_111 : decode cX4_stateBehind 111 = .ok (.iload_n 1, 1) := by decide +kernel
theorem dX4_stateBehind_112 : decode cX4_stateBehind 112 = .ok (.invokestatic 75, 3) := by decide +kernel
theorem dX4_stateBehind_115 : decode cX4_stateBehind 115 = .ok (.ifCond .eq 8, 3) := by decide +kernel
theorem dX4_stateBehind_118 : decode cX4_stateBehind 118 = .ok (.bipush 6, 2) := by decide +kernel
theorem dX4_stateBehind_120 : decode cX4_stateBehind 120 = .ok (.goto 4, 3) := by decide +kernel
theorem dX4_stateBehind_123 : decode cX4_stateBehind 123 = .ok (.iconst (-1), 1) := by decide +kernel
theorem dX4_stateBehind_124 : decode cX4_stateBehind 124 = .ok (.ireturn, 1) := by decide +kernel
theorem dX4_stateBehind_125 : decode cX4_stateBehind 125 = .ok (.iload_n 1, 1) := by decide +kernel
theorem dX4_stateBehind_126 : decode cX4_stateBehind 126 = .ok (.bipush 47, 2) := by decide +kernel
theorem dX4_stateBehind_128 : decode cX4_stateBehind 128 = .ok (.if_icmp .ne 7, 3) := by decide +kernel
theorem dX4_stateBehind_131 : decode cX4_stateBehind 131 = .ok (.iconst 1, 1) := by decide +kernel
theorem dX4_stateBehind_132 : decode cX4_stateBehind 132 = .ok (.goto 4, 3) := by decide +kernel
theorem dX4_stateBehind_135 : decode cX4_stateBehind 135 = .ok (.iconst (-1), 1) := by decide +kernel
theorem dX4_stateBehind_136 : decode cX4_stateBehind 136 = .ok (.ireturn, 1) := by decide +kernel
theorem dX4_stateBehind_137 : decode cX4_stateBehind 137 = .ok (.iload_n 1, 1) := by decide +kernel
theorem dX4_stateBehind_138 : decode cX4_stateBehind 138 = .ok (.bipush 59, 2) := by decide +kernel
theorem dX4_stateBehind_140 : decode cX4_stateBehind 140 = .ok (.if_icmp .ne 7, 3) := by decide +kernel
theorem dX4_stateBehind_143 : decode cX4_stateBehind 143 = .ok (.iconst 0, 1) := by decide +kernel
theorem dX4_stateBehind_144 : decode cX4_stateBehind 144 = .ok (.goto 4, 3) := by decide +kernel
theorem dX4_stateBehind_147 : decode cX4_stateBehind 147 = .ok (.iconst (-1), 1) := by decide +kernel
theorem dX4_stateBehind_148 : decode cX4_stateBehind 148 = .ok (.ireturn, 1) := by decide +kernel
theorem dX4_stateBehind_149 : decode cX4_stateBehind 149 = .ok (.iconst (-1), 1) := by decide +kernel
theorem dX4_stateBehind_150 : decode cX4_stateBehind 150 = .ok (.ireturn, 1) := by decide +kernel
theorem dX4_stateBehindLetter_0 : decode cX4_stateBehindLetter 0 = .ok (.iload_n 0, 1) := by decide +kernel
theorem dX4_stateBehindLetter_1 : decode cX4_stateBehindLetter 1 = .ok (.tableswitch 89 106 122 #[85, 89, 87, 87, 89, 89, 89, 89, 87, 89, 87, 89, 89, 89, 83, 89, 87], 83) := by decide +kernel
theorem dX4_stateBehindLetter_84 : decode cX4_stateBehindLetter 84 = .ok (.iconst 2, 1) := by decide +kernel
theorem dX4_stateBehindLetter_85 : decode cX4_stateBehindLetter 85 = .ok (.ireturn, 1) := by decide +kernel
theorem dX4_stateBehindLetter_86 : decode cX4_stateBehindLetter 86 = .ok (.iconst 5, 1) := by decide +kernel
theorem dX4_stateBehindLetter_87 : decode cX4_stateBehindLetter 87 = .ok (.ireturn, 1) := by decide +kernel
theorem dX4_stateBehindLetter_88 : decode cX4_stateBehindLetter 88 = .ok (.iconst 1, 1) := by decide +kernel
theorem dX4_stateBehindLetter_89 : decode cX4_stateBehindLetter 89 = .ok (.ireturn, 1) := by decide +kernel
theorem dX4_stateBehindLetter_90 : decode cX4_stateBehindLetter 90 = .ok (.iconst (-1), 1) := by decide +kernel
theorem dX4_stateBehindLetter_91 : decode cX4_stateBehindLetter 91 = .ok (.ireturn, 1) := by decide +kernel
theorem dX4_parts_0 : decode cX4_parts 0 = .ok (.iconst 1, 1) := by decide +kernel
theorem dX4_parts_1 : decode cX4_parts 1 = .ok (.istore_n 1, 1) := by decide +kernel
theorem dX4_parts_2 : decode cX4_parts 2 = .ok (.iconst 0, 1) := by decide +kernel
theorem dX4_parts_3 : decode cX4_parts 3 = .ok (.istore_n 2, 1) := by decide +kernel
theorem dX4_parts_4 : decode cX4_parts 4 = .ok (.iload_n 2, 1) := by decide +kernel
theorem dX4_parts_5 : decode cX4_parts 5 = .ok (.aload_n 0, 1) := by decide +kernel
theorem dX4_parts_6 : decode cX4_parts 6 = .ok (.getfield 20, 3) := by decide +kernel
theorem dX4_parts_9 : decode cX4_parts 9 = .ok (.if_icmp .ge 27, 3) := by decide +kernel
theorem dX4_parts_12 : decode cX4_parts 12 = .ok (.iload_n 1, 1) := by decide +kernel
theorem dX4_parts_13 : decode cX4_parts 13 = .ok (.aload_n 0, 1) := by decide +kernel
theorem dX4_parts_14 : decode cX4_parts 14 = .ok (.iload_n 2, 1) := by decide +kernel
theorem dX4_parts_15 : decode cX4_parts 15 = .ok (.invokevirtual 32, 3) := by decide +kernel
theorem dX4_parts_18 : decode cX4_parts 18 = .ok (.bipush 59, 2) := by decide +kernel
theorem dX4_parts_20 : decode cX4_parts 20 = .ok (.if_icmp .ne 7, 3) := by decide +kernel
theorem dX4_parts_23 : decode cX4_parts 23 = .ok (.iconst 1, 1) := by decide +kernel
theorem dX4_parts_24 : decode cX4_parts 24 = .ok (.goto 4, 3) := by decide +kernel
theorem dX4_parts_27 : decode cX4_parts 27 = .ok (.iconst 0, 1) := by decide +kernel
theorem dX4_parts_28 : decode cX4_parts 28 = .ok (.iadd, 1) := by decide +kernel
theorem dX4_parts_29 : decode cX4_parts 29 = .ok (.istore_n 1, 1) := by decide +kernel
theorem dX4_parts_30 : decode cX4_parts 30 = .ok (.iinc 2 1, 3) := by decide +kernel
theorem dX4_parts_33 : decode cX4_parts 33 = .ok (.goto (-29), 3) := by decide +kernel
theorem dX4_parts_36 : decode cX4_parts 36 = .ok (.iload_n 1, 1) := by decide +kernel
theorem dX4_parts_37 : decode cX4_parts 37 = .ok (.ireturn, 1) := by decide +kernel
theorem dX4_partSize_0 : decode cX4_partSize 0 = .ok (.aload_n 0, 1) := by decide +kernel
theorem dX4_partSize_1 : decode cX4_partSize 1 = .ok (.iload_n 1, 1) := by decide +kernel
theorem dX4_partSize_2 : decode cX4_partSize 2 = .ok (.invokevirtual 32, 3) := by decide +kernel
theorem dX4_partSize_5 : decode cX4_partSize 5 = .ok (.istore_n 2, 1) := by decide +kernel
theorem dX4_partSize_6 : decode cX4_partSize 6 = .ok (.iload_n 2, 1) := by decide +kernel
theorem dX4_partSize_7 : decode cX4_partSize 7 = .ok (.bipush 120, 2) := by decide +kernel
theorem dX4_partSize_9 : decode cX4_partSize 9 = .ok (.if_icmp .eq 9, 3) := by decide +kernel
theorem dX4_partSize_12 : decode cX4_partSize 12 = .ok (.iload_n 2, 1) := by decide +kernel
theorem dX4_partSize_13 : decode cX4_partSize 13 = .ok (.bipush 106, 2) := by decide +kernel
theorem dX4_partSize_15 : decode cX4_partSize 15 = .ok (.if_icmp .ne 7, 3) := by decide +kernel
theorem dX4_partSize_18 : decode cX4_partSize 18 = .ok (.iconst 4, 1) := by decide +kernel
theorem dX4_partSize_19 : decode cX4_partSize 19 = .ok (.goto 4, 3) := by decide +kernel
theorem dX4_partSize_22 : decode cX4_partSize 22 = .ok (.iconst 2, 1) := by decide +kernel
theorem dX4_partSize_23 : decode cX4_partSize 23 = .ok (.ireturn, 1) := by decide +kernel
theorem dX4_howAt_0 : decode cX4_howAt 0 = .ok (.aload_n 0, 1) := by decide +kernel
theorem dX4_howAt_1 : decode cX4_howAt 1 = .ok (.iload_n 1, 1) := by decide +kernel
theorem dX4_howAt_2 : decode cX4_howAt 2 = .ok (.invokevirtual 32, 3) := by decide +kernel
theorem dX4_howAt_5 : decode cX4_howAt 5 = .ok (.tableswitch 59 108 116 #[57, 51, 59, 59, 59, 59, 55, 59, 53], 51) := by decide +kernel
theorem dX4_howAt_56 : decode cX4_howAt 56 = .ok (.iconst 0, 1) := by decide +kernel
theorem dX4_howAt_57 : decode cX4_howAt 57 = .ok (.ireturn, 1) := by decide +kernel
theorem dX4_howAt_58 : decode cX4_howAt 58 = .ok (.iconst 1, 1) := by decide +kernel
theorem dX4_howAt_59 : decode cX4_howAt 59 = .ok (.ireturn, 1) := by decide +kernel
theorem dX4_howAt_60 : decode cX4_howAt 60 = .ok (.iconst 2, 1) := by decide +kernel
theorem dX4_howAt_61 : decode cX4_howAt 61 = .ok (.ireturn, 1) := by decide +kernel
theorem dX4_howAt_62 : decode cX4_howAt 62 = .ok (.iconst 3, 1) := by decide +kernel
theorem dX4_howAt_63 : decode cX4_howAt 63 = .ok (.ireturn, 1) := by decide +kernel
theorem dX4_howAt_64 : decode cX4_howAt 64 = .ok (.iconst (-1), 1) := by decide +kernel
theorem dX4_howAt_65 : decode cX4_howAt 65 = .ok (.ireturn, 1) := by decide +kernel
theorem dX4_isBetween_0 : decode cX4_isBetween 0 = .ok (.iload_n 0, 1) := by decide +kernel
theorem dX4_isBetween_1 : decode cX4_isBetween 1 = .ok (.iload_n 1, 1) := by decide +kernel
theorem dX4_isBetween_2 : decode cX4_isBetween 2 = .ok (.if_icmp .lt 12, 3) := by decide +kernel
theorem dX4_isBetween_5 : decode cX4_isBetween 5 = .ok (.iload_n 0, 1) := by decide +kernel
theorem dX4_isBetween_6 : decode cX4_isBetween 6 = .ok (.iload_n 2, 1) := by decide +kernel
theorem dX4_isBetween_7 : decode cX4_isBetween 7 = .ok (.if_icmp .gt 7, 3) := by decide +kernel
theorem dX4_isBetween_10 : decode cX4_isBetween 10 = .ok (.iconst 1, 1) := by decide +kernel
theorem dX4_isBetween_11 : decode cX4_isBetween 11 = .ok (.goto 4, 3) := by decide +kernel
theorem dX4_isBetween_14 : decode cX4_isBetween 14 = .ok (.iconst 0, 1) := by decide +kernel
theorem dX4_isBetween_15 : decode cX4_isBetween 15 = .ok (.ireturn, 1) := by decide +kernel
theorem dX4_isLoafDigit_0 : decode cX4_isLoafDigit 0 = .ok (.iload_n 0, 1) := by decide +kernel
theorem dX4_isLoafDigit_1 : decode cX4_isLoafDigit 1 = .ok (.bipush 48, 2) := by decide +kernel
theorem dX4_isLoafDigit_3 : decode cX4_isLoafDigit 3 = .ok (.bipush 53, 2) := by decide +kernel
theorem dX4_isLoafDigit_5 : decode cX4_isLoafDigit 5 = .ok (.invokestatic 43, 3) := by decide +kernel
theorem dX4_isLoafDigit_8 : decode cX4_isLoafDigit 8 = .ok (.ireturn, 1) := by decide +kernel
theorem dX4_isSide_0 : decode cX4_isSide 0 = .ok (.iload_n 0, 1) := by decide +kernel
theorem dX4_isSide_1 : decode cX4_isSide 1 = .ok (.bipush 43, 2) := by decide +kernel
theorem dX4_isSide_3 : decode cX4_isSide 3 = .ok (.if_icmp .eq 9, 3) := by decide +kernel
theorem dX4_isSide_6 : decode cX4_isSide 6 = .ok (.iload_n 0, 1) := by decide +kernel
theorem dX4_isSide_7 : decode cX4_isSide 7 = .ok (.bipush 45, 2) := by decide +kernel
theorem dX4_isSide_9 : decode cX4_isSide 9 = .ok (.if_icmp .ne 7, 3) := by decide +kernel
theorem dX4_isSide_12 : decode cX4_isSide 12 = .ok (.iconst 1, 1) := by decide +kernel
theorem dX4_isSide_13 : decode cX4_isSide 13 = .ok (.goto 4, 3) := by decide +kernel
theorem dX4_isSide_16 : decode cX4_isSide 16 = .ok (.iconst 0, 1) := by decide +kernel
theorem dX4_isSide_17 : decode cX4_isSide 17 = .ok (.ireturn, 1) := by decide +kernel
theorem dX5_init_0 : decode cX5_init 0 = .ok (.aload_n 0, 1) := by decide +kernel
theorem dX5_init_1 : decode cX5_init 1 = .ok (.invokespecial 3, 3) := by decide +kernel
theorem dX5_init_4 : decode cX5_init 4 = .ok (.aload_n 0, 1) := by decide +kernel
theorem dX5_init_5 : decode cX5_init 5 = .ok (.new 9, 3) := by decide +kernel
theorem dX5_init_8 : decode cX5_init 8 = .ok (.dup, 1) := by decide +kernel
theorem dX5_init_9 : decode cX5_init 9 = .ok (.bipush 24, 2) := by decide +kernel
theorem dX5_init_11 : decode cX5_init 11 = .ok (.invokespecial 11, 3) := by decide +kernel
theorem dX5_init_14 : decode cX5_init 14 = .ok (.putfield 14, 3) := by decide +kernel
theorem dX5_init_17 : decode cX5_init 17 = .ok (.aload_n 0, 1) := by decide +kernel
theorem dX5_init_18 : decode cX5_init 18 = .ok (.new 9, 3) := by decide +kernel
theorem dX5_init_21 : decode cX5_init 21 = .ok (.dup, 1) := by decide +kernel
theorem dX5_init_22 : decode cX5_init 22 = .ok (.bipush 24, 2) := by decide +kernel
theorem dX5_init_24 : decode cX5_init 24 = .ok (.invokespecial 11, 3) := by decide +kernel
theorem dX5_init_27 : decode cX5_init 27 = .ok (.putfield 20, 3) := by decide +kernel
theorem dX5_init_30 : decode cX5_init 30 = .ok (.aload_n 0, 1) := by decide +kernel
theorem dX5_init_31 : decode cX5_init 31 = .ok (.new 9, 3) := by decide +kernel
theorem dX5_init_34 : decode cX5_init 34 = .ok (.dup, 1) := by decide +kernel
theorem dX5_init_35 : decode cX5_init 35 = .ok (.bipush 7, 2) := by decide +kernel
theorem dX5_init_37 : decode cX5_init 37 = .ok (.invokespecial 11, 3) := by decide +kernel
theorem dX5_init_40 : decode cX5_init 40 = .ok (.putfield 23, 3) := by decide +kernel
theorem dX5_init_43 : decode cX5_init 43 = .ok (.aload_n 0, 1) := by decide +kernel
theorem dX5_init_44 : decode cX5_init 44 = .ok (.new 9, 3) := by decide +kernel
theorem dX5_init_47 : decode cX5_init 47 = .ok (.dup, 1) := by decide +kernel
theorem dX5_init_48 : decode cX5_init 48 = .ok (.bipush 7, 2) := by decide +kernel
theorem dX5_init_50 : decode cX5_init 50 = .ok (.invokespecial 11, 3) := by decide +kernel
theorem dX5_init_53 : decode cX5_init 53 = .ok (.putfield 26, 3) := by decide +kernel
theorem dX5_init_56 : decode cX5_init 56 = .ok (.aload_n 0, 1) := by decide +kernel
theorem dX5_init_57 : decode cX5_init 57 = .ok (.new 9, 3) := by decide +kernel
theorem dX5_init_60 : decode cX5_init 60 = .ok (.dup, 1) := by decide +kernel
theorem dX5_init_61 : decode cX5_init 61 = .ok (.bipush 7, 2) := by decide +kernel
theorem dX5_init_63 : decode cX5_init 63 = .ok (.invokespecial 11, 3) := by decide +kernel
theorem dX5_init_66 : decode cX5_init 66 = .ok (.putfield 29, 3) := by decide +kernel
theorem dX5_init_69 : decode cX5_init 69 = .ok (.aload_n 0, 1) := by decide +kernel
theorem dX5_init_70 : decode cX5_init 70 = .ok (.new 9, 3) := by decide +kernel
theorem dX5_init_73 : decode cX5_init 73 = .ok (.dup, 1) := by decide +kernel
theorem dX5_init_74 : decode cX5_init 74 = .ok (.bipush 7, 2) := by decide +kernel
theorem dX5_init_76 : decode cX5_init 76 = .ok (.invokespecial 11, 3) := by decide +kernel
theorem dX5_init_79 : decode cX5_init 79 = .ok (.putfield 32, 3) := by decide +kernel
theorem dX5_init_82 : decode cX5_init 82 = .ok (.aload_n 0, 1) := by decide +kernel
theorem dX5_init_83 : decode cX5_init 83 = .ok (.new 9, 3) := by decide +kernel
theorem dX5_init_86 : decode cX5_init 86 = .ok (.dup, 1) := by decide +kernel
theorem dX5_init_87 : decode cX5_init 87 = .ok (.bipush 7, 2) := by decide +kernel
theorem dX5_init_89 : decode cX5_init 89 = .ok (.invokespecial 11, 3) := by decide +kernel
theorem dX5_init_92 : decode cX5_init 92 = .ok (.putfield 35, 3) := by decide +kernel
theorem dX5_init_95 : decode cX5_init 95 = .ok (.aload_n 0, 1) := by decide +kernel
theorem dX5_init_96 : decode cX5_init 96 = .ok (.iconst 2, 1) := by decide +kernel
theorem dX5_init_97 : decode cX5_init 97 = .ok (.putfield 38, 3) := by decide +kernel
theorem dX5_init_100 : decode cX5_init 100 = .ok (.return_, 1) := by decide +kernel
theorem dX5_follow_0 : decode cX5_follow 0 = .ok (.aload_n 0, 1) := by decide +kernel
theorem dX5_follow_1 : decode cX5_follow 1 = .ok (.aload_n 1, 1) := by decide +kernel
theorem dX5_follow_2 : decode cX5_follow 2 = .ok (.invokevirtual 42, 3) := by decide +kernel
theorem dX5_follow_5 : decode cX5_follow 5 = .ok (.putfield 38, 3) := by decide +kernel
theorem dX5_follow_8 : decode cX5_follow 8 = .ok (.iconst 0, 1) := by decide +kernel
theorem dX5_follow_9 : decode cX5_follow 9 = .ok (.istore_n 2, 1) := by decide +kernel
theorem dX5_follow_10 : decode cX5_follow 10 = .ok (.iload_n 2, 1) := by decide +kernel
theorem dX5_follow_11 : decode cX5_follow 11 = .ok (.aload_n 0, 1) := by decide +kernel
theorem dX5_follow_12 : decode cX5_follow 12 = .ok (.getfield 38, 3) := by decide +kernel
theorem dX5_follow_15 : decode cX5_follow 15 = .ok (.if_icmp .ge 36, 3) := by decide +kernel
theorem dX5_follow_18 : decode cX5_follow 18 = .ok (.aload_n 0, 1) := by decide +kernel
theorem dX5_follow_19 : decode cX5_follow 19 = .ok (.getfield 23, 3) := by decide +kernel
theorem dX5_follow_22 : decode cX5_follow 22 = .ok (.iload_n 2, 1) := by decide +kernel
theorem dX5_follow_23 : decode cX5_follow 23 = .ok (.iload_n 2, 1) := by decide +kernel
theorem dX5_follow_24 : decode cX5_follow 24 = .ok (.invokevirtual 47, 3) := by decide +kernel
theorem dX5_follow_27 : decode cX5_follow 27 = .ok (.aload_n 0, 1) := by decide +kernel
theorem dX5_follow_28 : decode cX5_follow 28 = .ok (.getfield 29, 3) := by decide +kernel
theorem dX5_follow_31 : decode cX5_follow 31 = .ok (.iload_n 2, 1) := by decide +kernel
theorem dX5_follow_32 : decode cX5_follow 32 = .ok (.iconst 0, 1) := by decide +kernel
theorem dX5_follow_33 : decode cX5_follow 33 = .ok (.invokevirtual 47, 3) := by decide +kernel
theorem dX5_follow_36 : decode cX5_follow 36 = .ok (.aload_n 0, 1) := by decide +kernel
theorem dX5_follow_37 : decode cX5_follow 37 = .ok (.getfield 32, 3) := by decide +kernel
theorem dX5_follow_40 : decode cX5_follow 40 = .ok (.iload_n 2, 1) := by decide +kernel
theorem dX5_follow_41 : decode cX5_follow 41 = .ok (.iconst 0, 1) := by decide +kernel
theorem dX5_follow_42 : decode cX5_follow 42 = .ok (.invokevirtual 47, 3) := by decide +kernel
theorem dX5_follow_45 : decode cX5_follow 45 = .ok (.iinc 2 1, 3) := by decide +kernel
theorem dX5_follow_48 : decode cX5_follow 48 = .ok (.goto (-38), 3) := by decide +kernel
theorem dX5_follow_51 : decode cX5_follow 51 = .ok (.iconst 0, 1) := by decide +kernel
theorem dX5_follow_52 : decode cX5_follow 52 = .ok (.istore_n 2, 1) := by decide +kernel
theorem dX5_follow_53 : decode cX5_follow 53 = .ok (.iload_n 2, 1) := by decide +kernel
theorem dX5_follow_54 : decode cX5_follow 54 = .ok (.aload_n 1, 1) := by decide +kernel
theorem dX5_follow_55 : decode cX5_follow 55 = .ok (.invokevirtual 51, 3) := by decide +kernel
theorem dX5_follow_58 : decode cX5_follow 58 = .ok (.if_icmp .ge 19, 3) := by decide +kernel
theorem dX5_follow_61 : decode cX5_follow 61 = .ok (.aload_n 0, 1) := by decide +kernel
theorem dX5_follow_62 : decode cX5_follow 62 = .ok (.iload_n 2, 1) := by decide +kernel
theorem dX5_follow_63 : decode cX5_follow 63 = .ok (.aload_n 1, 1) := by decide +kernel
theorem dX5_follow_64 : decode cX5_follow 64 = .ok (.iload_n 2, 1) := by decide +kernel
theorem dX5_follow_65 : decode cX5_follow 65 = .ok (.invokevirtual 54, 3) := by decide +kernel
theorem dX5_follow_68 : decode cX5_follow 68 = .ok (.invokevirtual 58, 3) := by decide +kernel
theorem dX5_follow_71 : decode cX5_follow 71 = .ok (.iinc 2 1, 3) := by decide +kernel
theorem dX5_follow_74 : decode cX5_follow 74 = .ok (.goto (-21), 3) := by decide +kernel
theorem dX5_follow_77 : decode cX5_follow 77 = .ok (.iconst 0, 1) := by decide +kernel
theorem dX5_follow_78 : decode cX5_follow 78 = .ok (.istore_n 2, 1) := by decide +kernel
theorem dX5_follow_79 : decode cX5_follow 79 = .ok (.iload_n 2, 1) := by decide +kernel
theorem dX5_follow_80 : decode cX5_follow 80 = .ok (.aload_n 0, 1) := by decide +kernel
theorem dX5_follow_81 : decode cX5_follow 81 = .ok (.getfield 38, 3) := by decide +kernel
theorem dX5_follow_84 : decode cX5_follow 84 = .ok (.if_icmp .ge 25, 3) := by decide +kernel
theorem dX5_follow_87 : decode cX5_follow 87 = .ok (.aload_n 0, 1) := by decide +kernel
theorem dX5_follow_88 : decode cX5_follow 88 = .ok (.getfield 26, 3) := by decide +kernel
theorem dX5_follow_91 : decode cX5_follow 91 = .ok (.aload_n 0, 1) := by decide +kernel
theorem dX5_follow_92 : decode cX5_follow 92 = .ok (.getfield 23, 3) := by decide +kernel
theorem dX5_follow_95 : decode cX5_follow 95 = .ok (.iload_n 2, 1) := by decide +kernel
theorem dX5_follow_96 : decode cX5_follow 96 = .ok (.invokevirtual 61, 3) := by decide +kernel
theorem dX5_follow_99 : decode cX5_follow 99 = .ok (.iload_n 2, 1) := by decide +kernel
theorem dX5_follow_100 : decode cX5_follow 100 = .ok (.invokevirtual 47, 3) := by decide +kernel
theorem dX5_follow_103 : decode cX5_follow 103 = .ok (.iinc 2 1, 3) := by decide +kernel
theorem dX5_follow_106 : decode cX5_follow 106 = .ok (.goto (-27), 3) := by decide +kernel
theorem dX5_follow_109 : decode cX5_follow 109 = .ok (.return_, 1) := by decide +kernel
theorem dX5_pass_0 : decode cX5_pass 0 = .ok (.iload_n 2, 1) := by decide +kernel
theorem dX5_pass_1 : decode cX5_pass 1 = .ok (.invokestatic 64, 3) := by decide +kernel
theorem dX5_pass_4 : decode cX5_pass 4 = .ok (.istore_n 3, 1) := by decide +kernel
theorem dX5_pass_5 : decode cX5_pass 5 = .ok (.aload_n 0, 1) := by decide +kernel
theorem dX5_pass_6 : decode cX5_pass 6 = .ok (.getfield 23, 3) := by decide +kernel
theorem dX5_pass_9 : decode cX5_pass 9 = .ok (.iload_n 3, 1) := by decide +kernel
theorem dX5_pass_10 : decode cX5_pass 10 = .ok (.invokevirtual 61, 3) := by decide +kernel
theorem dX5_pass_13 : decode cX5_pass 13 = .ok (.istore 4, 2) := by decide +kernel
theorem dX5_pass_15 : decode cX5_pass 15 = .ok (.aload_n 0, 1) := by decide +kernel
theorem dX5_pass_16 : decode cX5_pass 16 = .ok (.getfield 23, 3) := by decide +kernel
theorem dX5_pass_19 : decode cX5_pass 19 = .ok (.iload_n 3, 1) := by decide +kernel
theorem dX5_pass_20 : decode cX5_pass 20 = .ok (.iconst 1, 1) := by decide +kernel
theorem dX5_pass_21 : decode cX5_pass 21 = .ok (.iadd, 1) := by decide +kernel
theorem dX5_pass_22 : decode cX5_pass 22 = .ok (.invokevirtual 61, 3) := by decide +kernel
theorem dX5_pass_25 : decode cX5_pass 25 = .ok (.istore 5, 2) := by decide +kernel
theorem dX5_pass_27 : decode cX5_pass 27 = .ok (.iload_n 2, 1) := by decide +kernel
theorem dX5_pass_28 : decode cX5_pass 28 = .ok (.invokestatic 67, 3) := by decide +kernel
theorem dX5_pass_31 : decode cX5_pass 31 = .ok (.ifCond .eq 8, 3) := by decide +kernel
theorem dX5_pass_34 : decode cX5_pass 34 = .ok (.iload 4, 2) := by decide +kernel
theorem dX5_pass_36 : decode cX5_pass 36 = .ok (.goto 5, 3) := by decide +kernel
theorem dX5_pass_39 : decode cX5_pass 39 = .ok (.iload 5, 2) := by decide +kernel
theorem dX5_pass_41 : decode cX5_pass 41 = .ok (.istore 6, 2) := by decide +kernel
theorem dX5_pass_43 : decode cX5_pass 43 = .ok (.iload_n 2, 1) := by decide +kernel
theorem dX5_pass_44 : decode cX5_pass 44 = .ok (.invokestatic 67, 3) := by decide +kernel
theorem dX5_pass_47 : decode cX5_pass 47 = .ok (.ifCond .eq 8, 3) := by decide +kernel
theorem dX5_pass_50 : decode cX5_pass 50 = .ok (.iload 5, 2) := by decide +kernel
theorem dX5_pass_52 : decode cX5_pass 52 = .ok (.goto 5, 3) := by decide +kernel
theorem dX5_pass_55 : decode cX5_pass 55 = .ok (.iload 4, 2) := by decide +kernel
theorem dX5_pass_57 : decode cX5_pass 57 = .ok (.istore 7, 2) := by decide +kernel
theorem dX5_pass_59 : decode cX5_pass 59 = .ok (.aload_n 0, 1) := by decide +kernel
theorem dX5_pass_60 : decode cX5_pass 60 = .ok (.getfield 20, 3) := by decide +kernel
theorem dX5_pass_63 : decode cX5_pass 63 = .ok (.iload_n 1, 1) := by decide +kernel
theorem dX5_pass_64 : decode cX5_pass 64 = .ok (.iload 6, 2) := by decide +kernel
theorem dX5_pass_66 : decode cX5_pass 66 = .ok (.invokevirtual 47, 3) := by decide +kernel
theorem dX5_pass_69 : decode cX5_pass 69 = .ok (.aload_n 0, 1) := by decide +kernel
theorem dX5_pass_70 : decode cX5_pass 70 = .ok (.getfield 32, 3) := by decide +kernel
theorem dX5_pass_73 : decode cX5_pass 73 = .ok (.iload 6, 2) := by decide +kernel
theorem dX5_pass_75 : decode cX5_pass 75 = .ok (.aload_n 0, 1) := by decide +kernel
theorem dX5_pass_76 : decode cX5_pass 76 = .ok (.getfield 32, 3) := by decide +kernel
theorem dX5_pass_79 : decode cX5_pass 79 = .ok (.iload 6, 2) := by decide +kernel
theorem dX5_pass_81 : decode cX5_pass 81 = .ok (.invokevirtual 61, 3) := by decide +kernel
theorem dX5_pass_84 : decode cX5_pass 84 = .ok (.iconst 1, 1) := by decide +kernel
theorem dX5_pass_85 : decode cX5_pass 85 = .ok (.iadd, 1) := by decide +kernel
theorem dX5_pass_86 : decode cX5_pass 86 = .ok (.invokevirtual 47, 3) := by decide +kernel
theorem dX5_pass_89 : decode cX5_pass 89 = .ok (.aload_n 0, 1) := by decide +kernel
theorem dX5_pass_90 : decode cX5_pass 90 = .ok (.getfield 14, 3) := by decide +kernel
theorem dX5_pass_93 : decode cX5_pass 93 = .ok (.iload_n 1, 1) := by decide +kernel
theorem dX5_pass_94 : decode cX5_pass 94 = .ok (.iload 7, 2) := by decide +kernel
theorem dX5_pass_96 : decode cX5_pass 96 = .ok (.invokevirtual 47, 3) := by decide +kernel
theorem dX5_pass_99 : decode cX5_pass 99 = .ok (.aload_n 0, 1) := by decide +kernel
theorem dX5_pass_100 : decode cX5_pass 100 = .ok (.getfield 29, 3) := by decide +kernel
theorem dX5_pass_103 : decode cX5_pass 103 = .ok (.iload 7, 2) := by decide +kernel
theorem dX5_pass_105 : decode cX5_pass 105 = .ok (.aload_n 0, 1) := by decide +kernel
theorem dX5_pass_106 : decode cX5_pass 106 = .ok (.getfield 29, 3) := by decide +kernel
theorem dX5_pass_109 : decode cX5_pass 109 = .ok (.iload 7, 2) := by decide +kernel
theorem dX5_pass_111 : decode cX5_pass 111 = .ok (.invokevirtual 61, 3) := by decide +kernel
theorem dX5_pass_114 : decode cX5_pass 114 = .ok (.iconst 1, 1) := by decide +kernel
theorem dX5_pass_115 : decode cX5_pass 115 = .ok (.iadd, 1) := by decide +kernel
theorem dX5_pass_116 : decode cX5_pass 116 = .ok (.invokevirtual 47, 3) := by decide +kernel
theorem dX5_pass_119 : decode cX5_pass 119 = .ok (.aload_n 0, 1) := by decide +kernel
theorem dX5_pass_120 : decode cX5_pass 120 = .ok (.getfield 23, 3) := by decide +kernel
theorem dX5_pass_123 : decode cX5_pass 123 = .ok (.iload_n 3, 1) := by decide +kernel
theorem dX5_pass_124 : decode cX5_pass 124 = .ok (.iload 5, 2) := by decide +kernel
theorem dX5_pass_126 : decode cX5_pass 126 = .ok (.invokevirtual 47, 3) := by decide +kernel
theorem dX5_pass_129 : decode cX5_pass 129 = .ok (.aload_n 0, 1) := by decide +kernel
theorem dX5_pass_130 : decode cX5_pass 130 = .ok (.getfield 23, 3) := by decide +kernel
theorem dX5_pass_133 : decode cX5_pass 133 = .ok (.iload_n 3, 1) := by decide +kernel
theorem dX5_pass_134 : decode cX5_pass 134 = .ok (.iconst 1, 1) := by decide +kernel
theorem dX5_pass_135 : decode cX5_pass 135 = .ok (.iadd, 1) := by decide +kernel
theorem dX5_pass_136 : decode cX5_pass 136 = .ok (.iload 4, 2) := by decide +kernel
theorem dX5_pass_138 : decode cX5_pass 138 = .ok (.invokevirtual 47, 3) := by decide +kernel
theorem dX5_pass_141 : decode cX5_pass 141 = .ok (.return_, 1) := by decide +kernel
theorem dX5_copyFrom_0 : decode cX5_copyFrom 0 = .ok (.aload_n 0, 1) := by decide +kernel
theorem dX5_copyFrom_1 : decode cX5_copyFrom 1 = .ok (.aload_n 1, 1) := by decide +kernel
theorem dX5_copyFrom_2 : decode cX5_copyFrom 2 = .ok (.getfield 38, 3) := by decide +kernel
theorem dX5_copyFrom_5 : decode cX5_copyFrom 5 = .ok (.putfield 38, 3) := by decide +kernel
theorem dX5_copyFrom_8 : decode cX5_copyFrom 8 = .ok (.aload_n 0, 1) := by decide +kernel
theorem dX5_copyFrom_9 : decode cX5_copyFrom 9 = .ok (.getfield 14, 3) := by decide +kernel
theorem dX5_copyFrom_12 : decode cX5_copyFrom 12 = .ok (.aload_n 1, 1) := by decide +kernel
theorem dX5_copyFrom_13 : decode cX5_copyFrom 13 = .ok (.getfield 14, 3) := by decide +kernel
theorem dX5_copyFrom_16 : decode cX5_copyFrom 16 = .ok (.invokevirtual 71, 3) := by decide +kernel
theorem dX5_copyFrom_19 : decode cX5_copyFrom 19 = .ok (.aload_n 0, 1) := by decide +kernel
theorem dX5_copyFrom_20 : decode cX5_copyFrom 20 = .ok (.getfield 20, 3) := by decide +kernel
theorem dX5_copyFrom_23 : decode cX5_copyFrom 23 = .ok (.aload_n 1, 1) := by decide +kernel
theorem dX5_copyFrom_24 : decode cX5_copyFrom 24 = .ok (.getfield 20, 3) := by decide +kernel
theorem dX5_copyFrom_27 : decode cX5_copyFrom 27 = .ok (.invokevirtual 71, 3) := by decide +kernel
theorem dX5_copyFrom_30 : decode cX5_copyFrom 30 = .ok (.aload_n 0, 1) := by decide +kernel
theorem dX5_copyFrom_31 : decode cX5_copyFrom 31 = .ok (.getfield 23, 3) := by decide +kernel
theorem dX5_copyFrom_34 : decode cX5_copyFrom 34 = .ok (.aload_n 1, 1) := by decide +kernel
theorem dX5_copyFrom_35 : decode cX5_copyFrom 35 = .ok (.getfield 23, 3) := by decide +kernel
theorem dX5_copyFrom_38 : decode cX5_copyFrom 38 = .ok (.invokevirtual 71, 3) := by decide +kernel
theorem dX5_copyFrom_41 : decode cX5_copyFrom 41 = .ok (.aload_n 0, 1) := by decide +kernel
theorem dX5_copyFrom_42 : decode cX5_copyFrom 42 = .ok (.getfield 26, 3) := by decide +kernel
theorem dX5_copyFrom_45 : decode cX5_copyFrom 45 = .ok (.aload_n 1, 1) := by decide +kernel
theorem dX5_copyFrom_46 : decode cX5_copyFrom 46 = .ok (.getfield 26, 3) := by decide +kernel
theorem dX5_copyFrom_49 : decode cX5_copyFrom 49 = .ok (.invokevirtual 71, 3) := by decide +kernel
theorem dX5_copyFrom_52 : decode cX5_copyFrom 52 = .ok (.aload_n 0, 1) := by decide +kernel
theorem dX5_copyFrom_53 : decode cX5_copyFrom 53 = .ok (.getfield 29, 3) := by decide +kernel
theorem dX5_copyFrom_56 : decode cX5_copyFrom 56 = .ok (.aload_n 1, 1) := by decide +kernel
theorem dX5_copyFrom_57 : decode cX5_copyFrom 57 = .ok (.getfield 29, 3) := by decide +kernel
theorem dX5_copyFrom_60 : decode cX5_copyFrom 60 = .ok (.invokevirtual 71, 3) := by decide +kernel
theorem dX5_copyFrom_63 : decode cX5_copyFrom 63 = .ok (.aload_n 0, 1) := by decide +kernel
theorem dX5_copyFrom_64 : decode cX5_copyFrom 64 = .ok (.getfield 32, 3) := by decide +kernel
theorem dX5_copyFrom_67 : decode cX5_copyFrom 67 = .ok (.aload_n 1, 1) := by decide +kernel
theorem dX5_copyFrom_68 : decode cX5_copyFrom 68 = .ok (.getfield 32, 3) := by decide +kernel
theorem dX5_copyFrom_71 : decode cX5_copyFrom 71 = .ok (.invokevirtual 71, 3) := by decide +kernel
theorem dX5_copyFrom_74 : decode cX5_copyFrom 74 = .ok (.return_, 1) := by decide +kernel
theorem dX5_hiddenAt_0 : decode cX5_hiddenAt 0 = .ok (.aload_n 0, 1) := by decide +kernel
theorem dX5_hiddenAt_1 : decode cX5_hiddenAt 1 = .ok (.getfield 14, 3) := by decide +kernel
theorem dX5_hiddenAt_4 : decode cX5_hiddenAt 4 = .ok (.iload_n 1, 1) := by decide +kernel
theorem dX5_hiddenAt_5 : decode cX5_hiddenAt 5 = .ok (.invokevirtual 61, 3) := by decide +kernel
theorem dX5_hiddenAt_8 : decode cX5_hiddenAt 8 = .ok (.ireturn, 1) := by decide +kernel
theorem dX5_aboveAt_0 : decode cX5_aboveAt 0 = .ok (.aload_n 0, 1) := by decide +kernel
theorem dX5_aboveAt_1 : decode cX5_aboveAt 1 = .ok (.getfield 20, 3) := by decide +kernel
theorem dX5_aboveAt_4 : decode cX5_aboveAt 4 = .ok (.iload_n 1, 1) := by decide +kernel
theorem dX5_aboveAt_5 : decode cX5_aboveAt 5 = .ok (.invokevirtual 61, 3) := by decide +kernel
theorem dX5_aboveAt_8 : decode cX5_aboveAt 8 = .ok (.ireturn, 1) := by decide +kernel
theorem dX5_doughUsed_0 : decode cX5_doughUsed 0 = .ok (.aload_n 0, 1) := by decide +kernel
theorem dX5_doughUsed_1 : decode cX5_doughUsed 1 = .ok (.getfield 32, 3) := by decide +kernel
theorem dX5_doughUsed_4 : decode cX5_doughUsed 4 = .ok (.iload_n 1, 1) := by decide +kernel
theorem dX5_doughUsed_5 : decode cX5_doughUsed 5 = .ok (.invokevirtual 61, 3) := by decide +kernel
theorem dX5_doughUsed_8 : decode cX5_doughUsed 8 = .ok (.iconst 2, 1) := by decide +kernel
theorem dX5_doughUsed_9 : decode cX5_doughUsed 9 = .ok (.aload_n 0, 1) := by decide +kernel
theorem dX5_doughUsed_10 : decode cX5_doughUsed 10 = .ok (.getfield 29, 3) := by decide +kernel
theorem dX5_doughUsed_13 : decode cX5_doughUsed 13 = .ok (.iload_n 1, 1) := by decide +kernel
theorem dX5_doughUsed_14 : decode cX5_doughUsed 14 = .ok (.invokevirtual 61, 3) := by decide +kernel
theorem dX5_doughUsed_17 : decode cX5_doughUsed 17 = .ok (.imul, 1) := by decide +kernel
theorem dX5_doughUsed_18 : decode cX5_doughUsed 18 = .ok (.iadd, 1) := by decide +kernel
theorem dX5_doughUsed_19 : decode cX5_doughUsed 19 = .ok (.ireturn, 1) := by decide +kernel
theorem dX5_doughUsedByAll_0 : decode cX5_doughUsedByAll 0 = .ok (.iconst 0, 1) := by decide +kernel
theorem dX5_doughUsedByAll_1 : decode cX5_doughUsedByAll 1 = .ok (.istore_n 1, 1) := by decide +kernel
theorem dX5_doughUsedByAll_2 : decode cX5_doughUsedByAll 2 = .ok (.iconst 0, 1) := by decide +kernel
theorem dX5_doughUsedByAll_3 : decode cX5_doughUsedByAll 3 = .ok (.istore_n 2, 1) := by decide +kernel
theorem dX5_doughUsedByAll_4 : decode cX5_doughUsedByAll 4 = .ok (.iload_n 2, 1) := by decide +kernel
theorem dX5_doughUsedByAll_5 : decode cX5_doughUsedByAll 5 = .ok (.aload_n 0, 1) := by decide +kernel
theorem dX5_doughUsedByAll_6 : decode cX5_doughUsedByAll 6 = .ok (.getfield 38, 3) := by decide +kernel
theorem dX5_doughUsedByAll_9 : decode cX5_doughUsedByAll 9 = .ok (.if_icmp .ge 17, 3) := by decide +kernel
theorem dX5_doughUsedByAll_12 : decode cX5_doughUsedByAll 12 = .ok (.iload_n 1, 1) := by decide +kernel
theorem dX5_doughUsedByAll_13 : decode cX5_doughUsedByAll 13 = .ok (.aload_n 0, 1) := by decide +kernel
theorem dX5_doughUsedByAll_14 : decode cX5_doughUsedByAll 14 = .ok (.iload_n 2, 1) := by decide +kernel
theorem dX5_doughUsedByAll_15 : decode cX5_doughUsedByAll 15 = .ok (.invokevirtual 75, 3) := by decide +kernel
theorem dX5_doughUsedByAll_18 : decode cX5_doughUsedByAll 18 = .ok (.iadd, 1) := by decide +kernel
theorem dX5_doughUsedByAll_19 : decode cX5_doughUsedByAll 19 = .ok (.istore_n 1, 1) := by decide +kernel
theorem dX5_doughUsedByAll_20 : decode cX5_doughUsedByAll 20 = .ok (.iinc 2 1, 3) := by decide +kernel
theorem dX5_doughUsedByAll_23 : decode cX5_doughUsedByAll 23 = .ok (.goto (-19), 3) := by decide +kernel
theorem dX5_doughUsedByAll_26 : decode cX5_doughUsedByAll 26 = .ok (.iload_n 1, 1) := by decide +kernel
theorem dX5_doughUsedByAll_27 : decode cX5_doughUsedByAll 27 = .ok (.ireturn, 1) := by decide +kernel
theorem dX5_hasDoughForAll_0 : decode cX5_hasDoughForAll 0 = .ok (.iconst 0, 1) := by decide +kernel
theorem dX5_hasDoughForAll_1 : decode cX5_hasDoughForAll 1 = .ok (.istore_n 1, 1) := by decide +kernel
theorem dX5_hasDoughForAll_2 : decode cX5_hasDoughForAll 2 = .ok (.iload_n 1, 1) := by decide +kernel
theorem dX5_hasDoughForAll_3 : decode cX5_hasDoughForAll 3 = .ok (.aload_n 0, 1) := by decide +kernel
theorem dX5_hasDoughForAll_4 : decode cX5_hasDoughForAll 4 = .ok (.getfield 38, 3) := by decide +kernel
theorem dX5_hasDoughForAll_7 : decode cX5_hasDoughForAll 7 = .ok (.if_icmp .ge 21, 3) := by decide +kernel
theorem dX5_hasDoughForAll_10 : decode cX5_hasDoughForAll 10 = .ok (.aload_n 0, 1) := by decide +kernel
theorem dX5_hasDoughForAll_11 : decode cX5_hasDoughForAll 11 = .ok (.iload_n 1, 1) := by decide +kernel
theorem dX5_hasDoughForAll_12 : decode cX5_hasDoughForAll 12 = .ok (.invokevirtual 75, 3) := by decide +kernel
theorem dX5_hasDoughForAll_15 : decode cX5_hasDoughForAll 15 = .ok (.bipush 30, 2) := by decide +kernel
theorem dX5_hasDoughForAll_17 : decode cX5_hasDoughForAll 17 = .ok (.if_icmp .le 5, 3) := by decide +kernel
theorem dX5_hasDoughForAll_20 : decode cX5_hasDoughForAll 20 = .ok (.iconst 0, 1) := by decide +kernel
theorem dX5_hasDoughForAll_21 : decode cX5_hasDoughForAll 21 = .ok (.ireturn, 1) := by decide +kernel
theorem dX5_hasDoughForAll_22 : decode cX5_hasDoughForAll 22 = .ok (.iinc 1 1, 3) := by decide +kernel
theorem dX5_hasDoughForAll_25 : decode cX5_hasDoughForAll 25 = .ok (.goto (-23), 3) := by decide +kernel
theorem dX5_hasDoughForAll_28 : decode cX5_hasDoughForAll 28 = .ok (.iconst 1, 1) := by decide +kernel
theorem dX5_hasDoughForAll_29 : decode cX5_hasDoughForAll 29 = .ok (.ireturn, 1) := by decide +kernel
theorem dX5_numberOfStrand_0 : decode cX5_numberOfStrand 0 = .ok (.iload_n 1, 1) := by decide +kernel
theorem dX5_numberOfStrand_1 : decode cX5_numberOfStrand 1 = .ok (.ifCond .lt 11, 3) := by decide +kernel
theorem dX5_numberOfStrand_4 : decode cX5_numberOfStrand 4 = .ok (.iload_n 1, 1) := by decide +kernel
theorem dX5_numberOfStrand_5 : decode cX5_numberOfStrand 5 = .ok (.aload_n 0, 1) := by decide +kernel
theorem dX5_numberOfStrand_6 : decode cX5_numberOfStrand 6 = .ok (.getfield 38, 3) := by decide +kernel
theorem dX5_numberOfStrand_9 : decode cX5_numberOfStrand 9 = .ok (.if_icmp .lt 5, 3) := by decide +kernel
theorem dX5_numberOfStrand_12 : decode cX5_numberOfStrand 12 = .ok (.iconst (-1), 1) := by decide +kernel
theorem dX5_numberOfStrand_13 : decode cX5_numberOfStrand 13 = .ok (.ireturn, 1) := by decide +kernel
theorem dX5_numberOfStrand_14 : decode cX5_numberOfStrand 14 = .ok (.iload_n 2, 1) := by decide +kernel
theorem dX5_numberOfStrand_15 : decode cX5_numberOfStrand 15 = .ok (.tableswitch 65 0 3 #[29, 38, 47, 56], 29) := by decide +kernel
theorem dX5_numberOfStrand_44 : decode cX5_numberOfStrand 44 = .ok (.aload_n 0, 1) := by decide +kernel
theorem dX5_numberOfStrand_45 : decode cX5_numberOfStrand 45 = .ok (.getfield 26, 3) := by decide +kernel
theorem dX5_numberOfStrand_48 : decode cX5_numberOfStrand 48 = .ok (.iload_n 1, 1) := by decide +kernel
theorem dX5_numberOfStrand_49 : decode cX5_numberOfStrand 49 = .ok (.invokevirtual 61, 3) := by decide +kernel
theorem dX5_numberOfStrand_52 : decode cX5_numberOfStrand 52 = .ok (.ireturn, 1) := by decide +kernel
theorem dX5_numberOfStrand_53 : decode cX5_numberOfStrand 53 = .ok (.aload_n 0, 1) := by decide +kernel
theorem dX5_numberOfStrand_54 : decode cX5_numberOfStrand 54 = .ok (.getfield 29, 3) := by decide +kernel
theorem dX5_numberOfStrand_57 : decode cX5_numberOfStrand 57 = .ok (.iload_n 1, 1) := by decide +kernel
theorem dX5_numberOfStrand_58 : decode cX5_numberOfStrand 58 = .ok (.invokevirtual 61, 3) := by decide +kernel
theorem dX5_numberOfStrand_61 : decode cX5_numberOfStrand 61 = .ok (.ireturn, 1) := by decide +kernel
theorem dX5_numberOfStrand_62 : decode cX5_numberOfStrand 62 = .ok (.aload_n 0, 1) := by decide +kernel
theorem dX5_numberOfStrand_63 : decode cX5_numberOfStrand 63 = .ok (.getfield 32, 3) := by decide +kernel
theorem dX5_numberOfStrand_66 : decode cX5_numberOfStrand 66 = .ok (.iload_n 1, 1) := by decide +kernel
theorem dX5_numberOfStrand_67 : decode cX5_numberOfStrand 67 = .ok (.invokevirtual 61, 3) := by decide +kernel
theorem dX5_numberOfStrand_70 : decode cX5_numberOfStrand 70 = .ok (.ireturn, 1) := by decide +kernel
theorem dX5_numberOfStrand_71 : decode cX5_numberOfStrand 71 = .ok (.bipush 30, 2) := by decide +kernel
theorem dX5_numberOfStrand_73 : decode cX5_numberOfStrand 73 = .ok (.aload_n 0, 1) := by decide +kernel
theorem dX5_numberOfStrand_74 : decode cX5_numberOfStrand 74 = .ok (.iload_n 1, 1) := by decide +kernel
theorem dX5_numberOfStrand_75 : decode cX5_numberOfStrand 75 = .ok (.invokevirtual 75, 3) := by decide +kernel
theorem dX5_numberOfStrand_78 : decode cX5_numberOfStrand 78 = .ok (.isub, 1) := by decide +kernel
theorem dX5_numberOfStrand_79 : decode cX5_numberOfStrand 79 = .ok (.ireturn, 1) := by decide +kernel
theorem dX5_numberOfStrand_80 : decode cX5_numberOfStrand 80 = .ok (.aload_n 0, 1) := by decide +kernel
theorem dX5_numberOfStrand_81 : decode cX5_numberOfStrand 81 = .ok (.getfield 23, 3) := by decide +kernel
theorem dX5_numberOfStrand_84 : decode cX5_numberOfStrand 84 = .ok (.iload_n 1, 1) := by decide +kernel
theorem dX5_numberOfStrand_85 : decode cX5_numberOfStrand 85 = .ok (.invokevirtual 61, 3) := by decide +kernel
theorem dX5_numberOfStrand_88 : decode cX5_numberOfStrand 88 = .ok (.ireturn, 1) := by decide +kernel
theorem dX5_mostHidden_0 : decode cX5_mostHidden 0 = .ok (.iconst 0, 1) := by decide +kernel
theorem dX5_mostHidden_1 : decode cX5_mostHidden 1 = .ok (.istore_n 1, 1) := by decide +kernel
theorem dX5_mostHidden_2 : decode cX5_mostHidden 2 = .ok (.iconst 1, 1) := by decide +kernel
theorem dX5_mostHidden_3 : decode cX5_mostHidden 3 = .ok (.istore_n 2, 1) := by decide +kernel
theorem dX5_mostHidden_4 : decode cX5_mostHidden 4 = .ok (.iload_n 2, 1) := by decide +kernel
theorem dX5_mostHidden_5 : decode cX5_mostHidden 5 = .ok (.aload_n 0, 1) := by decide +kernel
theorem dX5_mostHidden_6 : decode cX5_mostHidden 6 = .ok (.getfield 38, 3) := by decide +kernel
theorem dX5_mostHidden_9 : decode cX5_mostHidden 9 = .ok (.if_icmp .ge 30, 3) := by decide +kernel
theorem dX5_mostHidden_12 : decode cX5_mostHidden 12 = .ok (.aload_n 0, 1) := by decide +kernel
theorem dX5_mostHidden_13 : decode cX5_mostHidden 13 = .ok (.getfield 29, 3) := by decide +kernel
theorem dX5_mostHidden_16 : decode cX5_mostHidden 16 = .ok (.iload_n 2, 1) := by decide +kernel
theorem dX5_mostHidden_17 : decode cX5_mostHidden 17 = .ok (.invokevirtual 61, 3) := by decide +kernel
theorem dX5_mostHidden_20 : decode cX5_mostHidden 20 = .ok (.aload_n 0, 1) := by decide +kernel
theorem dX5_mostHidden_21 : decode cX5_mostHidden 21 = .ok (.getfield 29, 3) := by decide +kernel
theorem dX5_mostHidden_24 : decode cX5_mostHidden 24 = .ok (.iload_n 1, 1) := by decide +kernel
theorem dX5_mostHidden_25 : decode cX5_mostHidden 25 = .ok (.invokevirtual 61, 3) := by decide +kernel
theorem dX5_mostHidden_28 : decode cX5_mostHidden 28 = .ok (.if_icmp .le 5, 3) := by decide +kernel
theorem dX5_mostHidden_31 : decode cX5_mostHidden 31 = .ok (.iload_n 2, 1) := by decide +kernel
theorem dX5_mostHidden_32 : decode cX5_mostHidden 32 = .ok (.istore_n 1, 1) := by decide +kernel
theorem dX5_mostHidden_33 : decode cX5_mostHidden 33 = .ok (.iinc 2 1, 3) := by decide +kernel
theorem dX5_mostHidden_36 : decode cX5_mostHidden 36 = .ok (.goto (-32), 3) := by decide +kernel
theorem dX5_mostHidden_39 : decode cX5_mostHidden 39 = .ok (.iload_n 1, 1) := by decide +kernel
theorem dX5_mostHidden_40 : decode cX5_mostHidden 40 = .ok (.ireturn, 1) := by decide +kernel
theorem dX5_areAllHome_0 : decode cX5_areAllHome 0 = .ok (.iconst 0, 1) := by decide +kernel
theorem dX5_areAllHome_1 : decode cX5_areAllHome 1 = .ok (.istore_n 1, 1) := by decide +kernel
theorem dX5_areAllHome_2 : decode cX5_areAllHome 2 = .ok (.iload_n 1, 1) := by decide +kernel
theorem dX5_areAllHome_3 : decode cX5_areAllHome 3 = .ok (.aload_n 0, 1) := by decide +kernel
theorem dX5_areAllHome_4 : decode cX5_areAllHome 4 = .ok (.getfield 38, 3) := by decide +kernel
theorem dX5_areAllHome_7 : decode cX5_areAllHome 7 = .ok (.if_icmp .ge 23, 3) := by decide +kernel
theorem dX5_areAllHome_10 : decode cX5_areAllHome 10 = .ok (.aload_n 0, 1) := by decide +kernel
theorem dX5_areAllHome_11 : decode cX5_areAllHome 11 = .ok (.getfield 26, 3) := by decide +kernel
theorem dX5_areAllHome_14 : decode cX5_areAllHome 14 = .ok (.iload_n 1, 1) := by decide +kernel
theorem dX5_areAllHome_15 : decode cX5_areAllHome 15 = .ok (.invokevirtual 61, 3) := by decide +kernel
theorem dX5_areAllHome_18 : decode cX5_areAllHome 18 = .ok (.iload_n 1, 1) := by decide +kernel
theorem dX5_areAllHome_19 : decode cX5_areAllHome 19 = .ok (.if_icmp .eq 5, 3) := by decide +kernel
theorem dX5_areAllHome_22 : decode cX5_areAllHome 22 = .ok (.iconst 0, 1) := by decide +kernel
theorem dX5_areAllHome_23 : decode cX5_areAllHome 23 = .ok (.ireturn, 1) := by decide +kernel
theorem dX5_areAllHome_24 : decode cX5_areAllHome 24 = .ok (.iinc 1 1, 3) := by decide +kernel
theorem dX5_areAllHome_27 : decode cX5_areAllHome 27 = .ok (.goto (-25), 3) := by decide +kernel
theorem dX5_areAllHome_30 : decode cX5_areAllHome 30 = .ok (.iconst 1, 1) := by decide +kernel
theorem dX5_areAllHome_31 : decode cX5_areAllHome 31 = .ok (.ireturn, 1) := by decide +kernel
theorem dX5_ringsByGoingRound_0 : decode cX5_ringsByGoingRound 0 = .ok (.iconst 0, 1) := by decide +kernel
theorem dX5_ringsByGoingRound_1 : decode cX5_ringsByGoingRound 1 = .ok (.istore_n 1, 1) := by decide +kernel
theorem dX5_ringsByGoingRound_2 : decode cX5_ringsByGoingRound 2 = .ok (.iconst 0, 1) := by decide +kernel
theorem dX5_ringsByGoingRound_3 : decode cX5_ringsByGoingRound 3 = .ok (.istore_n 2, 1) := by decide +kernel
theorem dX5_ringsByGoingRound_4 : decode cX5_ringsByGoingRound 4 = .ok (.iconst 0, 1) := by decide +kernel
theorem dX5_ringsByGoingRound_5 : decode cX5_ringsByGoingRound 5 = .ok (.istore_n 3, 1) := by decide +kernel
theorem dX5_ringsByGoingRound_6 : decode cX5_ringsByGoingRound 6 = .ok (.iload_n 3, 1) := by decide +kernel
theorem dX5_ringsByGoingRound_7 : decode cX5_ringsByGoingRound 7 = .ok (.aload_n 0, 1) := by decide +kernel
theorem dX5_ringsByGoingRound_8 : decode cX5_ringsByGoingRound 8 = .ok (.getfield 38, 3) := by decide +kernel
theorem dX5_ringsByGoingRound_11 : decode cX5_ringsByGoingRound 11 = .ok (.if_icmp .ge 68, 3) := by decide +kernel
theorem dX5_ringsByGoingRound_14 : decode cX5_ringsByGoingRound 14 = .ok (.iload_n 2, 1) := by decide +kernel
theorem dX5_ringsByGoingRound_15 : decode cX5_ringsByGoingRound 15 = .ok (.iconst 1, 1) := by decide +kernel
theorem dX5_ringsByGoingRound_16 : decode cX5_ringsByGoingRound 16 = .ok (.iload_n 3, 1) := by decide +kernel
theorem dX5_ringsByGoingRound_17 : decode cX5_ringsByGoingRound 17 = .ok (.ishl, 1) := by decide +kernel
theorem dX5_ringsByGoingRound_18 : decode cX5_ringsByGoingRound 18 = .ok (.iand, 1) := by decide +kernel
theorem dX5_ringsByGoingRound_19 : decode cX5_ringsByGoingRound 19 = .ok (.ifCond .ne 6, 3) := by decide +kernel
theorem dX5_ringsByGoingRound_22 : decode cX5_ringsByGoingRound 22 = .ok (.iinc 1 1, 3) := by decide +kernel
theorem dX5_ringsByGoingRound_25 : decode cX5_ringsByGoingRound 25 = .ok (.iload_n 3, 1) := by decide +kernel
theorem dX5_ringsByGoingRound_26 : decode cX5_ringsByGoingRound 26 = .ok (.istore 4, 2) := by decide +kernel
theorem dX5_ringsByGoingRound_28 : decode cX5_ringsByGoingRound 28 = .ok (.iconst 0, 1) := by decide +kernel
theorem dX5_ringsByGoingRound_29 : decode cX5_ringsByGoingRound 29 = .ok (.istore 5, 2) := by decide +kernel
theorem dX5_ringsByGoingRound_31 : decode cX5_ringsByGoingRound 31 = .ok (.iload 5, 2) := by decide +kernel
theorem dX5_ringsByGoingRound_33 : decode cX5_ringsByGoingRound 33 = .ok (.aload_n 0, 1) := by decide +kernel
theorem dX5_ringsByGoingRound_34 : decode cX5_ringsByGoingRound 34 = .ok (.getfield 38, 3) := by decide +kernel
theorem dX5_ringsByGoingRound_37 : decode cX5_ringsByGoingRound 37 = .ok (.if_icmp .ge 36, 3) := by decide +kernel
theorem dX5_ringsByGoingRound_40 : decode cX5_ringsByGoingRound 40 = .ok (.iload_n 2, 1) := by decide +kernel
theorem dX5_ringsByGoingRound_41 : decode cX5_ringsByGoingRound 41 = .ok (.iconst 1, 1) := by decide +kernel
theorem dX5_ringsByGoingRound_42 : decode cX5_ringsByGoingRound 42 = .ok (.iload 4, 2) := by decide +kernel
theorem dX5_ringsByGoingRound_44 : decode cX5_ringsByGoingRound 44 = .ok (.ishl, 1) := by decide +kernel
theorem dX5_ringsByGoingRound_45 : decode cX5_ringsByGoingRound 45 = .ok (.iand, 1) := by decide +kernel
theorem dX5_ringsByGoingRound_46 : decode cX5_ringsByGoingRound 46 = .ok (.ifCond .ne 27, 3) := by decide +kernel
theorem dX5_ringsByGoingRound_49 : decode cX5_ringsByGoingRound 49 = .ok (.iload_n 2, 1) := by decide +kernel
theorem dX5_ringsByGoingRound_50 : decode cX5_ringsByGoingRound 50 = .ok (.iconst 1, 1) := by decide +kernel
theorem dX5_ringsByGoingRound_51 : decode cX5_ringsByGoingRound 51 = .ok (.iload 4, 2) := by decide +kernel
theorem dX5_ringsByGoingRound_53 : decode cX5_ringsByGoingRound 53 = .ok (.ishl, 1) := by decide +kernel
theorem dX5_ringsByGoingRound_54 : decode cX5_ringsByGoingRound 54 = .ok (.ior, 1) := by decide +kernel
theorem dX5_ringsByGoingRound_55 : decode cX5_ringsByGoingRound 55 = .ok (.istore_n 2, 1) := by decide +kernel
theorem dX5_ringsByGoingRound_56 : decode cX5_ringsByGoingRound 56 = .ok (.aload_n 0, 1) := by decide +kernel
theorem dX5_ringsByGoingRound_57 : decode cX5_ringsByGoingRound 57 = .ok (.getfield 26, 3) := by decide +kernel
theorem dX5_ringsByGoingRound_60 : decode cX5_ringsByGoingRound 60 = .ok (.iload 4, 2) := by decide +kernel
theorem dX5_ringsByGoingRound_62 : decode cX5_ringsByGoingRound 62 = .ok (.invokevirtual 61, 3) := by decide +kernel
theorem dX5_ringsByGoingRound_65 : decode cX5_ringsByGoingRound 65 = .ok (.istore 4, 2) := by decide +kernel
theorem dX5_ringsByGoingRound_67 : decode cX5_ringsByGoingRound 67 = .ok (.iinc 5 1, 3) := by decide +kernel
theorem dX5_ringsByGoingRound_70 : decode cX5_ringsByGoingRound 70 = .ok (.goto (-39), 3) := by decide +kernel
theorem dX5_ringsByGoingRound_73 : decode cX5_ringsByGoingRound 73 = .ok (.iinc 3 1, 3) := by decide +kernel
theorem dX5_ringsByGoingRound_76 : decode cX5_ringsByGoingRound 76 = .ok (.goto (-70), 3) := by decide +kernel
theorem dX5_ringsByGoingRound_79 : decode cX5_ringsByGoingRound 79 = .ok (.iload_n 1, 1) := by decide +kernel
theorem dX5_ringsByGoingRound_80 : decode cX5_ringsByGoingRound 80 = .ok (.ireturn, 1) := by decide +kernel
theorem dX5_ringsByJoining_0 : decode cX5_ringsByJoining 0 = .ok (.iconst 0, 1) := by decide +kernel
theorem dX5_ringsByJoining_1 : decode cX5_ringsByJoining 1 = .ok (.istore_n 1, 1) := by decide +kernel
theorem dX5_ringsByJoining_2 : decode cX5_ringsByJoining 2 = .ok (.iload_n 1, 1) := by decide +kernel
theorem dX5_ringsByJoining_3 : decode cX5_ringsByJoining 3 = .ok (.aload_n 0, 1) := by decide +kernel
theorem dX5_ringsByJoining_4 : decode cX5_ringsByJoining 4 = .ok (.getfield 38, 3) := by decide +kernel
theorem dX5_ringsByJoining_7 : decode cX5_ringsByJoining 7 = .ok (.if_icmp .ge 18, 3) := by decide +kernel
theorem dX5_ringsByJoining_10 : decode cX5_ringsByJoining 10 = .ok (.aload_n 0, 1) := by decide +kernel
theorem dX5_ringsByJoining_11 : decode cX5_ringsByJoining 11 = .ok (.getfield 35, 3) := by decide +kernel
theorem dX5_ringsByJoining_14 : decode cX5_ringsByJoining 14 = .ok (.iload_n 1, 1) := by decide +kernel
theorem dX5_ringsByJoining_15 : decode cX5_ringsByJoining 15 = .ok (.iload_n 1, 1) := by decide +kernel
theorem dX5_ringsByJoining_16 : decode cX5_ringsByJoining 16 = .ok (.invokevirtual 47, 3) := by decide +kernel
theorem dX5_ringsByJoining_19 : decode cX5_ringsByJoining 19 = .ok (.iinc 1 1, 3) := by decide +kernel
theorem dX5_ringsByJoining_22 : decode cX5_ringsByJoining 22 = .ok (.goto (-20), 3) := by decide +kernel
theorem dX5_ringsByJoining_25 : decode cX5_ringsByJoining 25 = .ok (.aload_n 0, 1) := by decide +kernel
theorem dX5_ringsByJoining_26 : decode cX5_ringsByJoining 26 = .ok (.getfield 38, 3) := by decide +kernel
theorem dX5_ringsByJoining_29 : decode cX5_ringsByJoining 29 = .ok (.istore_n 1, 1) := by decide +kernel
theorem dX5_ringsByJoining_30 : decode cX5_ringsByJoining 30 = .ok (.iconst 0, 1) := by decide +kernel
theorem dX5_ringsByJoining_31 : decode cX5_ringsByJoining 31 = .ok (.istore_n 2, 1) := by decide +kernel
theorem dX5_ringsByJoining_32 : decode cX5_ringsByJoining 32 = .ok (.iload_n 2, 1) := by decide +kernel
theorem dX5_ringsByJoining_33 : decode cX5_ringsByJoining 33 = .ok (.aload_n 0, 1) := by decide +kernel
theorem dX5_ringsByJoining_34 : decode cX5_ringsByJoining 34 = .ok (.getfield 38, 3) := by decide +kernel
theorem dX5_ringsByJoining_37 : decode cX5_ringsByJoining 37 = .ok (.if_icmp .ge 51, 3) := by decide +kernel
theorem dX5_ringsByJoining_40 : decode cX5_ringsByJoining 40 = .ok (.aload_n 0, 1) := by decide +kernel
theorem dX5_ringsByJoining_41 : decode cX5_ringsByJoining 41 = .ok (.getfield 35, 3) := by decide +kernel
theorem dX5_ringsByJoining_44 : decode cX5_ringsByJoining 44 = .ok (.iload_n 2, 1) := by decide +kernel
theorem dX5_ringsByJoining_45 : decode cX5_ringsByJoining 45 = .ok (.invokevirtual 61, 3) := by decide +kernel
theorem dX5_ringsByJoining_48 : decode cX5_ringsByJoining 48 = .ok (.istore_n 3, 1) := by decide +kernel
theorem dX5_ringsByJoining_49 : decode cX5_ringsByJoining 49 = .ok (.aload_n 0, 1) := by decide +kernel
theorem dX5_ringsByJoining_50 : decode cX5_ringsByJoining 50 = .ok (.getfield 35, 3) := by decide +kernel
theorem dX5_ringsByJoining_53 : decode cX5_ringsByJoining 53 = .ok (.aload_n 0, 1) := by decide +kernel
theorem dX5_ringsByJoining_54 : decode cX5_ringsByJoining 54 = .ok (.getfield 26, 3) := by decide +kernel
theorem dX5_ringsByJoining_57 : decode cX5_ringsByJoining 57 = .ok (.iload_n 2, 1) := by decide +kernel
theorem dX5_ringsByJoining_58 : decode cX5_ringsByJoining 58 = .ok (.invokevirtual 61, 3) := by decide +kernel
theorem dX5_ringsByJoining_61 : decode cX5_ringsByJoining 61 = .ok (.invokevirtual 61, 3) := by decide +kernel
theorem dX5_ringsByJoining_64 : decode cX5_ringsByJoining 64 = .ok (.istore 4, 2) := by decide +kernel
theorem dX5_ringsByJoining_66 : decode cX5_ringsByJoining 66 = .ok (.iload_n 3, 1) := by decide +kernel
theorem dX5_ringsByJoining_67 : decode cX5_ringsByJoining 67 = .ok (.iload 4, 2) := by decide +kernel
theorem dX5_ringsByJoining_69 : decode cX5_ringsByJoining 69 = .ok (.if_icmp .eq 13, 3) := by decide +kernel
theorem dX5_ringsByJoining_72 : decode cX5_ringsByJoining 72 = .ok (.aload_n 0, 1) := by decide +kernel
theorem dX5_ringsByJoining_73 : decode cX5_ringsByJoining 73 = .ok (.iload 4, 2) := by decide +kernel
theorem dX5_ringsByJoining_75 : decode cX5_ringsByJoining 75 = .ok (.iload_n 3, 1) := by decide +kernel
theorem dX5_ringsByJoining_76 : decode cX5_ringsByJoining 76 = .ok (.invokevirtual 78, 3) := by decide +kernel
theorem dX5_ringsByJoining_79 : decode cX5_ringsByJoining 79 = .ok (.iinc 1 (-1), 3) := by decide +kernel
theorem dX5_ringsByJoining_82 : decode cX5_ringsByJoining 82 = .ok (.iinc 2 1, 3) := by decide +kernel
theorem dX5_ringsByJoining_85 : decode cX5_ringsByJoining 85 = .ok (.goto (-53), 3) := by decide +kernel
theorem dX5_ringsByJoining_88 : decode cX5_ringsByJoining 88 = .ok (.iload_n 1, 1) := by decide +kernel
theorem dX5_ringsByJoining_89 : decode cX5_ringsByJoining 89 = .ok (.ireturn, 1) := by decide +kernel
theorem dX5_renameRing_0 : decode cX5_renameRing 0 = .ok (.iconst 0, 1) := by decide +kernel
theorem dX5_renameRing_1 : decode cX5_renameRing 1 = .ok (.istore_n 3, 1) := by decide +kernel
theorem dX5_renameRing_2 : decode cX5_renameRing 2 = .ok (.iload_n 3, 1) := by decide +kernel
theorem dX5_renameRing_3 : decode cX5_renameRing 3 = .ok (.aload_n 0, 1) := by decide +kernel
theorem dX5_renameRing_4 : decode cX5_renameRing 4 = .ok (.getfield 38, 3) := by decide +kernel
theorem dX5_renameRing_7 : decode cX5_renameRing 7 = .ok (.if_icmp .ge 30, 3) := by decide +kernel
theorem dX5_renameRing_10 : decode cX5_renameRing 10 = .ok (.aload_n 0, 1) := by decide +kernel
theorem dX5_renameRing_11 : decode cX5_renameRing 11 = .ok (.getfield 35, 3) := by decide +kernel
theorem dX5_renameRing_14 : decode cX5_renameRing 14 = .ok (.iload_n 3, 1) := by decide +kernel
theorem dX5_renameRing_15 : decode cX5_renameRing 15 = .ok (.invokevirtual 61, 3) := by decide +kernel
theorem dX5_renameRing_18 : decode cX5_renameRing 18 = .ok (.iload_n 1, 1) := by decide +kernel
theorem dX5_renameRing_19 : decode cX5_renameRing 19 = .ok (.if_icmp .ne 12, 3) := by decide +kernel
theorem dX5_renameRing_22 : decode cX5_renameRing 22 = .ok (.aload_n 0, 1) := by decide +kernel
theorem dX5_renameRing_23 : decode cX5_renameRing 23 = .ok (.getfield 35, 3) := by decide +kernel
theorem dX5_renameRing_26 : decode cX5_renameRing 26 = .ok (.iload_n 3, 1) := by decide +kernel
theorem dX5_renameRing_27 : decode cX5_renameRing 27 = .ok (.iload_n 2, 1) := by decide +kernel
theorem dX5_renameRing_28 : decode cX5_renameRing 28 = .ok (.invokevirtual 47, 3) := by decide +kernel
theorem dX5_renameRing_31 : decode cX5_renameRing 31 = .ok (.iinc 3 1, 3) := by decide +kernel
theorem dX5_renameRing_34 : decode cX5_renameRing 34 = .ok (.goto (-32), 3) := by decide +kernel
theorem dX5_renameRing_37 : decode cX5_renameRing 37 = .ok (.return_, 1) := by decide +kernel
theorem dX5_timesUntilHome_0 : decode cX5_timesUntilHome 0 = .ok (.iconst 1, 1) := by decide +kernel
theorem dX5_timesUntilHome_1 : decode cX5_timesUntilHome 1 = .ok (.istore_n 1, 1) := by decide +kernel
theorem dX5_timesUntilHome_2 : decode cX5_timesUntilHome 2 = .ok (.iconst 0, 1) := by decide +kernel
theorem dX5_timesUntilHome_3 : decode cX5_timesUntilHome 3 = .ok (.istore_n 2, 1) := by decide +kernel
theorem dX5_timesUntilHome_4 : decode cX5_timesUntilHome 4 = .ok (.iload_n 2, 1) := by decide +kernel
theorem dX5_timesUntilHome_5 : decode cX5_timesUntilHome 5 = .ok (.aload_n 0, 1) := by decide +kernel
theorem dX5_timesUntilHome_6 : decode cX5_timesUntilHome 6 = .ok (.getfield 38, 3) := by decide +kernel
theorem dX5_timesUntilHome_9 : decode cX5_timesUntilHome 9 = .ok (.if_icmp .ge 19, 3) := by decide +kernel
theorem dX5_timesUntilHome_12 : decode cX5_timesUntilHome 12 = .ok (.iload_n 1, 1) := by decide +kernel
theorem dX5_timesUntilHome_13 : decode cX5_timesUntilHome 13 = .ok (.aload_n 0, 1) := by decide +kernel
theorem dX5_timesUntilHome_14 : decode cX5_timesUntilHome 14 = .ok (.iload_n 2, 1) := by decide +kernel
theorem dX5_timesUntilHome_15 : decode cX5_timesUntilHome 15 = .ok (.invokevirtual 81, 3) := by decide +kernel
theorem dX5_timesUntilHome_18 : decode cX5_timesUntilHome 18 = .ok (.invokestatic 84, 3) := by decide +kernel
theorem dX5_timesUntilHome_21 : decode cX5_timesUntilHome 21 = .ok (.istore_n 1, 1) := by decide +kernel
theorem dX5_timesUntilHome_22 : decode cX5_timesUntilHome 22 = .ok (.iinc 2 1, 3) := by decide +kernel
theorem dX5_timesUntilHome_25 : decode cX5_timesUntilHome 25 = .ok (.goto (-21), 3) := by decide +kernel
theorem dX5_timesUntilHome_28 : decode cX5_timesUntilHome 28 = .ok (.iload_n 1, 1) := by decide +kernel
theorem dX5_timesUntilHome_29 : decode cX5_timesUntilHome 29 = .ok (.ireturn, 1) := by decide +kernel
theorem dX5_roundOf_0 : decode cX5_roundOf 0 = .ok (.aload_n 0, 1) := by decide +kernel
theorem dX5_roundOf_1 : decode cX5_roundOf 1 = .ok (.getfield 26, 3) := by decide +kernel
theorem dX5_roundOf_4 : decode cX5_roundOf 4 = .ok (.iload_n 1, 1) := by decide +kernel
theorem dX5_roundOf_5 : decode cX5_roundOf 5 = .ok (.invokevirtual 61, 3) := by decide +kernel
theorem dX5_roundOf_8 : decode cX5_roundOf 8 = .ok (.istore_n 2, 1) := by decide +kernel
theorem dX5_roundOf_9 : decode cX5_roundOf 9 = .ok (.iconst 1, 1) := by decide +kernel
theorem dX5_roundOf_10 : decode cX5_roundOf 10 = .ok (.istore_n 3, 1) := by decide +kernel
theorem dX5_roundOf_11 : decode cX5_roundOf 11 = .ok (.iconst 0, 1) := by decide +kernel
theorem dX5_roundOf_12 : decode cX5_roundOf 12 = .ok (.istore 4, 2) := by decide +kernel
theorem dX5_roundOf_14 : decode cX5_roundOf 14 = .ok (.iload 4, 2) := by decide +kernel
theorem dX5_roundOf_16 : decode cX5_roundOf 16 = .ok (.aload_n 0, 1) := by decide +kernel
theorem dX5_roundOf_17 : decode cX5_roundOf 17 = .ok (.getfield 38, 3) := by decide +kernel
theorem dX5_roundOf_20 : decode cX5_roundOf 20 = .ok (.if_icmp .ge 26, 3) := by decide +kernel
theorem dX5_roundOf_23 : decode cX5_roundOf 23 = .ok (.iload_n 2, 1) := by decide +kernel
theorem dX5_roundOf_24 : decode cX5_roundOf 24 = .ok (.iload_n 1, 1) := by decide +kernel
theorem dX5_roundOf_25 : decode cX5_roundOf 25 = .ok (.if_icmp .eq 21, 3) := by decide +kernel
theorem dX5_roundOf_28 : decode cX5_roundOf 28 = .ok (.aload_n 0, 1) := by decide +kernel
theorem dX5_roundOf_29 : decode cX5_roundOf 29 = .ok (.getfield 26, 3) := by decide +kernel
theorem dX5_roundOf_32 : decode cX5_roundOf 32 = .ok (.iload_n 2, 1) := by decide +kernel
theorem dX5_roundOf_33 : decode cX5_roundOf 33 = .ok (.invokevirtual 61, 3) := by decide +kernel
theorem dX5_roundOf_36 : decode cX5_roundOf 36 = .ok (.istore_n 2, 1) := by decide +kernel
theorem dX5_roundOf_37 : decode cX5_roundOf 37 = .ok (.iinc 3 1, 3) := by decide +kernel
theorem dX5_roundOf_40 : decode cX5_roundOf 40 = .ok (.iinc 4 1, 3) := by decide +kernel
theorem dX5_roundOf_43 : decode cX5_roundOf 43 = .ok (.goto (-29), 3) := by decide +kernel
theorem dX5_roundOf_46 : decode cX5_roundOf 46 = .ok (.iload_n 3, 1) := by decide +kernel
theorem dX5_roundOf_47 : decode cX5_roundOf 47 = .ok (.ireturn, 1) := by decide +kernel
theorem dX5_leastCommonMultiple_0 : decode cX5_leastCommonMultiple 0 = .ok (.iload_n 0, 1) := by decide +kernel
theorem dX5_leastCommonMultiple_1 : decode cX5_leastCommonMultiple 1 = .ok (.istore_n 2, 1) := by decide +kernel
theorem dX5_leastCommonMultiple_2 : decode cX5_leastCommonMultiple 2 = .ok (.iconst 1, 1) := by decide +kernel
theorem dX5_leastCommonMultiple_3 : decode cX5_leastCommonMultiple 3 = .ok (.istore_n 3, 1) := by decide +kernel
theorem dX5_leastCommonMultiple_4 : decode cX5_leastCommonMultiple 4 = .ok (.iload_n 3, 1) := by decide +kernel
theorem dX5_leastCommonMultiple_5 : decode cX5_leastCommonMultiple 5 = .ok (.iload_n 1, 1) := by decide +kernel
theorem dX5_leastCommonMultiple_6 : decode cX5_leastCommonMultiple 6 = .ok (.if_icmp .ge 23, 3) := by decide +kernel
theorem dX5_leastCommonMultiple_9 : decode cX5_leastCommonMultiple 9 = .ok (.iload_n 1, 1) := by decide +kernel
theorem dX5_leastCommonMultiple_10 : decode cX5_leastCommonMultiple 10 = .ok (.ifCond .le 19, 3) := by decide +kernel
theorem dX5_leastCommonMultiple_13 : decode cX5_leastCommonMultiple 13 = .ok (.iload_n 2, 1) := by decide +kernel
theorem dX5_leastCommonMultiple_14 : decode cX5_leastCommonMultiple 14 = .ok (.iload_n 1, 1) := by decide +kernel
theorem dX5_leastCommonMultiple_15 : decode cX5_leastCommonMultiple 15 = .ok (.irem, 1) := by decide +kernel
theorem dX5_leastCommonMultiple_16 : decode cX5_leastCommonMultiple 16 = .ok (.ifCond .eq 13, 3) := by decide +kernel
theorem dX5_leastCommonMultiple_19 : decode cX5_leastCommonMultiple 19 = .ok (.iload_n 2, 1) := by decide +kernel
theorem dX5_leastCommonMultiple_20 : decode cX5_leastCommonMultiple 20 = .ok (.iload_n 0, 1) := by decide +kernel
theorem dX5_leastCommonMultiple_21 : decode cX5_leastCommonMultiple 21 = .ok (.iadd, 1) := by decide +kernel
theorem dX5_leastCommonMultiple_22 : decode cX5_leastCommonMultiple 22 = .ok (.istore_n 2, 1) := by decide +kernel
theorem dX5_leastCommonMultiple_23 : decode cX5_leastCommonMultiple 23 = .ok (.iinc 3 1, 3) := by decide +kernel
theorem dX5_leastCommonMultiple_26 : decode cX5_leastCommonMultiple 26 = .ok (.goto (-22), 3) := by decide +kernel
theorem dX5_leastCommonMultiple_29 : decode cX5_leastCommonMultiple 29 = .ok (.iload_n 2, 1) := by decide +kernel
theorem dX5_leastCommonMultiple_30 : decode cX5_leastCommonMultiple 30 = .ok (.ireturn, 1) := by decide +kernel
theorem dX6_init_0 : decode cX6_init 0 = .ok (.aload_n 0, 1) := by decide +kernel
theorem dX6_init_1 : decode cX6_init 1 = .ok (.invokespecial 3, 3) := by decide +kernel
theorem dX6_init_4 : decode cX6_init 4 = .ok (.aload_n 0, 1) := by decide +kernel
theorem dX6_init_5 : decode cX6_init 5 = .ok (.new 9, 3) := by decide +kernel
theorem dX6_init_8 : decode cX6_init 8 = .ok (.dup, 1) := by decide +kernel
theorem dX6_init_9 : decode cX6_init 9 = .ok (.bipush 24, 2) := by decide +kernel
theorem dX6_init_11 : decode cX6_init 11 = .ok (.invokespecial 11, 3) := by decide +kernel
theorem dX6_init_14 : decode cX6_init 14 = .ok (.putfield 14, 3) := by decide +kernel
theorem dX6_init_17 : decode cX6_init 17 = .ok (.aload_n 0, 1) := by decide +kernel
theorem dX6_init_18 : decode cX6_init 18 = .ok (.iconst 2, 1) := by decide +kernel
theorem dX6_init_19 : decode cX6_init 19 = .ok (.putfield 20, 3) := by decide +kernel
theorem dX6_init_22 : decode cX6_init 22 = .ok (.aload_n 0, 1) := by decide +kernel
theorem dX6_init_23 : decode cX6_init 23 = .ok (.iconst 0, 1) := by decide +kernel
theorem dX6_init_24 : decode cX6_init 24 = .ok (.putfield 24, 3) := by decide +kernel
theorem dX6_init_27 : decode cX6_init 27 = .ok (.return_, 1) := by decide +kernel
theorem dX6_codeOf_0 : decode cX6_codeOf 0 = .ok (.iconst 2, 1) := by decide +kernel
theorem dX6_codeOf_1 : decode cX6_codeOf 1 = .ok (.iload_n 0, 1) := by decide +kernel
theorem dX6_codeOf_2 : decode cX6_codeOf 2 = .ok (.imul, 1) := by decide +kernel
theorem dX6_codeOf_3 : decode cX6_codeOf 3 = .ok (.iload_n 1, 1) := by decide +kernel
theorem dX6_codeOf_4 : decode cX6_codeOf 4 = .ok (.ifCond .eq 7, 3) := by decide +kernel
theorem dX6_codeOf_7 : decode cX6_codeOf 7 = .ok (.iconst 1, 1) := by decide +kernel
theorem dX6_codeOf_8 : decode cX6_codeOf 8 = .ok (.goto 4, 3) := by decide +kernel
theorem dX6_codeOf_11 : decode cX6_codeOf 11 = .ok (.iconst 0, 1) := by decide +kernel
theorem dX6_codeOf_12 : decode cX6_codeOf 12 = .ok (.iadd, 1) := by decide +kernel
theorem dX6_codeOf_13 : decode cX6_codeOf 13 = .ok (.ireturn, 1) := by decide +kernel
theorem dX6_placeOf_0 : decode cX6_placeOf 0 = .ok (.iload_n 0, 1) := by decide +kernel
theorem dX6_placeOf_1 : decode cX6_placeOf 1 = .ok (.iconst 1, 1) := by decide +kernel
theorem dX6_placeOf_2 : decode cX6_placeOf 2 = .ok (.ishr, 1) := by decide +kernel
theorem dX6_placeOf_3 : decode cX6_placeOf 3 = .ok (.ireturn, 1) := by decide +kernel
theorem dX6_isRight_0 : decode cX6_isRight 0 = .ok (.iload_n 0, 1) := by decide +kernel
theorem dX6_isRight_1 : decode cX6_isRight 1 = .ok (.iconst 1, 1) := by decide +kernel
theorem dX6_isRight_2 : decode cX6_isRight 2 = .ok (.iand, 1) := by decide +kernel
theorem dX6_isRight_3 : decode cX6_isRight 3 = .ok (.iconst 1, 1) := by decide +kernel
theorem dX6_isRight_4 : decode cX6_isRight 4 = .ok (.if_icmp .ne 7, 3) := by decide +kernel
theorem dX6_isRight_7 : decode cX6_isRight 7 = .ok (.iconst 1, 1) := by decide +kernel
theorem dX6_isRight_8 : decode cX6_isRight 8 = .ok (.goto 4, 3) := by decide +kernel
theorem dX6_isRight_11 : decode cX6_isRight 11 = .ok (.iconst 0, 1) := by decide +kernel
theorem dX6_isRight_12 : decode cX6_isRight 12 = .ok (.ireturn, 1) := by decide +kernel
theorem dX6_flipped_0 : decode cX6_flipped 0 = .ok (.iload_n 0, 1) := by decide +kernel
theorem dX6_flipped_1 : decode cX6_flipped 1 = .ok (.iconst 1, 1) := by decide +kernel
theorem dX6_flipped_2 : decode cX6_flipped 2 = .ok (.ixor, 1) := by decide +kernel
theorem dX6_flipped_3 : decode cX6_flipped 3 = .ok (.ireturn, 1) := by decide +kernel
theorem dX6_strands_0 : decode cX6_strands 0 = .ok (.aload_n 0, 1) := by decide +kernel
theorem dX6_strands_1 : decode cX6_strands 1 = .ok (.getfield 20, 3) := by decide +kernel
theorem dX6_strands_4 : decode cX6_strands 4 = .ok (.ireturn, 1) := by decide +kernel
theorem dX6_size_0 : decode cX6_size 0 = .ok (.aload_n 0, 1) := by decide +kernel
theorem dX6_size_1 : decode cX6_size 1 = .ok (.getfield 24, 3) := by decide +kernel
theorem dX6_size_4 : decode cX6_size 4 = .ok (.ireturn, 1) := by decide +kernel
theorem dX6_codeAt_0 : decode cX6_codeAt 0 = .ok (.aload_n 0, 1) := by decide +kernel
theorem dX6_codeAt_1 : decode cX6_codeAt 1 = .ok (.getfield 14, 3) := by decide +kernel
theorem dX6_codeAt_4 : decode cX6_codeAt 4 = .ok (.iload_n 1, 1) := by decide +kernel
theorem dX6_codeAt_5 : decode cX6_codeAt 5 = .ok (.invokevirtual 27, 3) := by decide +kernel
theorem dX6_codeAt_8 : decode cX6_codeAt 8 = .ok (.ireturn, 1) := by decide +kernel
theorem dX6_hasPlace_0 : decode cX6_hasPlace 0 = .ok (.iload_n 1, 1) := by decide +kernel
theorem dX6_hasPlace_1 : decode cX6_hasPlace 1 = .ok (.ifCond .lt 17, 3) := by decide +kernel
theorem dX6_hasPlace_4 : decode cX6_hasPlace 4 = .ok (.iload_n 1, 1) := by decide +kernel
theorem dX6_hasPlace_5 : decode cX6_hasPlace 5 = .ok (.aload_n 0, 1) := by decide +kernel
theorem dX6_hasPlace_6 : decode cX6_hasPlace 6 = .ok (.getfield 20, 3) := by decide +kernel
theorem dX6_hasPlace_9 : decode cX6_hasPlace 9 = .ok (.iconst 2, 1) := by decide +kernel
theorem dX6_hasPlace_10 : decode cX6_hasPlace 10 = .ok (.isub, 1) := by decide +kernel
theorem dX6_hasPlace_11 : decode cX6_hasPlace 11 = .ok (.if_icmp .gt 7, 3) := by decide +kernel
theorem dX6_hasPlace_14 : decode cX6_hasPlace 14 = .ok (.iconst 1, 1) := by decide +kernel
theorem dX6_hasPlace_15 : decode cX6_hasPlace 15 = .ok (.goto 4, 3) := by decide +kernel
theorem dX6_hasPlace_18 : decode cX6_hasPlace 18 = .ok (.iconst 0, 1) := by decide +kernel
theorem dX6_hasPlace_19 : decode cX6_hasPlace 19 = .ok (.ireturn, 1) := by decide +kernel
theorem dX6_begin_0 : decode cX6_begin 0 = .ok (.aload_n 0, 1) := by decide +kernel
theorem dX6_begin_1 : decode cX6_begin 1 = .ok (.iload_n 1, 1) := by decide +kernel
theorem dX6_begin_2 : decode cX6_begin 2 = .ok (.putfield 20, 3) := by decide +kernel
theorem dX6_begin_5 : decode cX6_begin 5 = .ok (.aload_n 0, 1) := by decide +kernel
theorem dX6_begin_6 : decode cX6_begin 6 = .ok (.iconst 0, 1) := by decide +kernel
theorem dX6_begin_7 : decode cX6_begin 7 = .ok (.putfield 24, 3) := by decide +kernel
theorem dX6_begin_10 : decode cX6_begin 10 = .ok (.return_, 1) := by decide +kernel
theorem dX6_add_0 : decode cX6_add 0 = .ok (.aload_n 0, 1) := by decide +kernel
theorem dX6_add_1 : decode cX6_add 1 = .ok (.aload_n 0, 1) := by decide +kernel
theorem dX6_add_2 : decode cX6_add 2 = .ok (.getfield 24, 3) := by decide +kernel
theorem dX6_add_5 : decode cX6_add 5 = .ok (.iload_n 1, 1) := by decide +kernel
theorem dX6_add_6 : decode cX6_add 6 = .ok (.invokevirtual 31, 3) := by decide +kernel
theorem dX6_add_9 : decode cX6_add 9 = .ok (.return_, 1) := by decide +kernel
theorem dX6_addAll_0 : decode cX6_addAll 0 = .ok (.iconst 0, 1) := by decide +kernel
theorem dX6_addAll_1 : decode cX6_addAll 1 = .ok (.istore_n 2, 1) := by decide +kernel
theorem dX6_addAll_2 : decode cX6_addAll 2 = .ok (.iload_n 2, 1) := by decide +kernel
theorem dX6_addAll_3 : decode cX6_addAll 3 = .ok (.aload_n 1, 1) := by decide +kernel
theorem dX6_addAll_4 : decode cX6_addAll 4 = .ok (.getfield 24, 3) := by decide +kernel
theorem dX6_addAll_7 : decode cX6_addAll 7 = .ok (.if_icmp .ge 18, 3) := by decide +kernel
theorem dX6_addAll_10 : decode cX6_addAll 10 = .ok (.aload_n 0, 1) := by decide +kernel
theorem dX6_addAll_11 : decode cX6_addAll 11 = .ok (.aload_n 1, 1) := by decide +kernel
theorem dX6_addAll_12 : decode cX6_addAll 12 = .ok (.iload_n 2, 1) := by decide +kernel
theorem dX6_addAll_13 : decode cX6_addAll 13 = .ok (.invokevirtual 35, 3) := by decide +kernel
theorem dX6_addAll_16 : decode cX6_addAll 16 = .ok (.invokevirtual 38, 3) := by decide +kernel
theorem dX6_addAll_19 : decode cX6_addAll 19 = .ok (.iinc 2 1, 3) := by decide +kernel
theorem dX6_addAll_22 : decode cX6_addAll 22 = .ok (.goto (-20), 3) := by decide +kernel
theorem dX6_addAll_25 : decode cX6_addAll 25 = .ok (.return_, 1) := by decide +kernel
theorem dX6_insertAt_0 : decode cX6_insertAt 0 = .ok (.iload_n 1, 1) := by decide +kernel
theorem dX6_insertAt_1 : decode cX6_insertAt 1 = .ok (.ifCond .lt 20, 3) := by decide +kernel
theorem dX6_insertAt_4 : decode cX6_insertAt 4 = .ok (.iload_n 1, 1) := by decide +kernel
theorem dX6_insertAt_5 : decode cX6_insertAt 5 = .ok (.aload_n 0, 1) := by decide +kernel
theorem dX6_insertAt_6 : decode cX6_insertAt 6 = .ok (.getfield 24, 3) := by decide +kernel
theorem dX6_insertAt_9 : decode cX6_insertAt 9 = .ok (.if_icmp .gt 12, 3) := by decide +kernel
theorem dX6_insertAt_12 : decode cX6_insertAt 12 = .ok (.aload_n 0, 1) := by decide +kernel
theorem dX6_insertAt_13 : decode cX6_insertAt 13 = .ok (.getfield 24, 3) := by decide +kernel
theorem dX6_insertAt_16 : decode cX6_insertAt 16 = .ok (.bipush 24, 2) := by decide +kernel
theorem dX6_insertAt_18 : decode cX6_insertAt 18 = .ok (.if_icmp .lt 4, 3) := by decide +kernel
theorem dX6_insertAt_21 : decode cX6_insertAt 21 = .ok (.return_, 1) := by decide +kernel
theorem dX6_insertAt_22 : decode cX6_insertAt 22 = .ok (.aload_n 0, 1) := by decide +kernel
theorem dX6_insertAt_23 : decode cX6_insertAt 23 = .ok (.getfield 24, 3) := by decide +kernel
theorem dX6_insertAt_26 : decode cX6_insertAt 26 = .ok (.istore_n 3, 1) := by decide +kernel
theorem dX6_insertAt_27 : decode cX6_insertAt 27 = .ok (.iload_n 3, 1) := by decide +kernel
theorem dX6_insertAt_28 : decode cX6_insertAt 28 = .ok (.iload_n 1, 1) := by decide +kernel
theorem dX6_insertAt_29 : decode cX6_insertAt 29 = .ok (.if_icmp .le 27, 3) := by decide +kernel
theorem dX6_insertAt_32 : decode cX6_insertAt 32 = .ok (.aload_n 0, 1) := by decide +kernel
theorem dX6_insertAt_33 : decode cX6_insertAt 33 = .ok (.getfield 14, 3) := by decide +kernel
theorem dX6_insertAt_36 : decode cX6_insertAt 36 = .ok (.iload_n 3, 1) := by decide +kernel
theorem dX6_insertAt_37 : decode cX6_insertAt 37 = .ok (.aload_n 0, 1) := by decide +kernel
theorem dX6_insertAt_38 : decode cX6_insertAt 38 = .ok (.getfield 14, 3) := by decide +kernel
theorem dX6_insertAt_41 : decode cX6_insertAt 41 = .ok (.iload_n 3, 1) := by decide +kernel
theorem dX6_insertAt_42 : decode cX6_insertAt 42 = .ok (.iconst 1, 1) := by decide +kernel
theorem dX6_insertAt_43 : decode cX6_insertAt 43 = .ok (.isub, 1) := by decide +kernel
theorem dX6_insertAt_44 : decode cX6_insertAt 44 = .ok (.invokevirtual 27, 3) := by decide +kernel
theorem dX6_insertAt_47 : decode cX6_insertAt 47 = .ok (.invokevirtual 41, 3) := by decide +kernel
theorem dX6_insertAt_50 : decode cX6_insertAt 50 = .ok (.iinc 3 (-1), 3) := by decide +kernel
theorem dX6_insertAt_53 : decode cX6_insertAt 53 = .ok (.goto (-26), 3) := by decide +kernel
theorem dX6_insertAt_56 : decode cX6_insertAt 56 = .ok (.aload_n 0, 1) := by decide +kernel
theorem dX6_insertAt_57 : decode cX6_insertAt 57 = .ok (.getfield 14, 3) := by decide +kernel
theorem dX6_insertAt_60 : decode cX6_insertAt 60 = .ok (.iload_n 1, 1) := by decide +kernel
theorem dX6_insertAt_61 : decode cX6_insertAt 61 = .ok (.iload_n 2, 1) := by decide +kernel
theorem dX6_insertAt_62 : decode cX6_insertAt 62 = .ok (.invokevirtual 41, 3) := by decide +kernel
theorem dX6_insertAt_65 : decode cX6_insertAt 65 = .ok (.aload_n 0, 1) := by decide +kernel
theorem dX6_insertAt_66 : decode cX6_insertAt 66 = .ok (.dup, 1) := by decide +kernel
theorem dX6_insertAt_67 : decode cX6_insertAt 67 = .ok (.getfield 24, 3) := by decide +kernel
theorem dX6_insertAt_70 : decode cX6_insertAt 70 = .ok (.iconst 1, 1) := by decide +kernel
theorem dX6_insertAt_71 : decode cX6_insertAt 71 = .ok (.iadd, 1) := by decide +kernel
theorem dX6_insertAt_72 : decode cX6_insertAt 72 = .ok (.putfield 24, 3) := by decide +kernel
theorem dX6_insertAt_75 : decode cX6_insertAt 75 = .ok (.return_, 1) := by decide +kernel
theorem dX6_removeAt_0 : decode cX6_removeAt 0 = .ok (.iload_n 1, 1) := by decide +kernel
theorem dX6_removeAt_1 : decode cX6_removeAt 1 = .ok (.ifCond .lt 11, 3) := by decide +kernel
theorem dX6_removeAt_4 : decode cX6_removeAt 4 = .ok (.iload_n 1, 1) := by decide +kernel
theorem dX6_removeAt_5 : decode cX6_removeAt 5 = .ok (.aload_n 0, 1) := by decide +kernel
theorem dX6_removeAt_6 : decode cX6_removeAt 6 = .ok (.getfield 24, 3) := by decide +kernel
theorem dX6_removeAt_9 : decode cX6_removeAt 9 = .ok (.if_icmp .lt 4, 3) := by decide +kernel
theorem dX6_removeAt_12 : decode cX6_removeAt 12 = .ok (.return_, 1) := by decide +kernel
theorem dX6_removeAt_13 : decode cX6_removeAt 13 = .ok (.iload_n 1, 1) := by decide +kernel
theorem dX6_removeAt_14 : decode cX6_removeAt 14 = .ok (.istore_n 2, 1) := by decide +kernel
theorem dX6_removeAt_15 : decode cX6_removeAt 15 = .ok (.iload_n 2, 1) := by decide +kernel
theorem dX6_removeAt_16 : decode cX6_removeAt 16 = .ok (.aload_n 0, 1) := by decide +kernel
theorem dX6_removeAt_17 : decode cX6_removeAt 17 = .ok (.getfield 24, 3) := by decide +kernel
theorem dX6_removeAt_20 : decode cX6_removeAt 20 = .ok (.iconst 1, 1) := by decide +kernel
theorem dX6_removeAt_21 : decode cX6_removeAt 21 = .ok (.isub, 1) := by decide +kernel
theorem dX6_removeAt_22 : decode cX6_removeAt 22 = .ok (.if_icmp .ge 27, 3) := by decide +kernel
theorem dX6_removeAt_25 : decode cX6_removeAt 25 = .ok (.aload_n 0, 1) := by decide +kernel
theorem dX6_removeAt_26 : decode cX6_removeAt 26 = .ok (.getfield 14, 3) := by decide +kernel
theorem dX6_removeAt_29 : decode cX6_removeAt 29 = .ok (.iload_n 2, 1) := by decide +kernel
theorem dX6_removeAt_30 : decode cX6_removeAt 30 = .ok (.aload_n 0, 1) := by decide +kernel
theorem dX6_removeAt_31 : decode cX6_removeAt 31 = .ok (.getfield 14, 3) := by decide +kernel
theorem dX6_removeAt_34 : decode cX6_removeAt 34 = .ok (.iload_n 2, 1) := by decide +kernel
theorem dX6_removeAt_35 : decode cX6_removeAt 35 = .ok (.iconst 1, 1) := by decide +kernel
theorem dX6_removeAt_36 : decode cX6_removeAt 36 = .ok (.iadd, 1) := by decide +kernel
theorem dX6_removeAt_37 : decode cX6_removeAt 37 = .ok (.invokevirtual 27, 3) := by decide +kernel
theorem dX6_removeAt_40 : decode cX6_removeAt 40 = .ok (.invokevirtual 41, 3) := by decide +kernel
theorem dX6_removeAt_43 : decode cX6_removeAt 43 = .ok (.iinc 2 1, 3) := by decide +kernel
theorem dX6_removeAt_46 : decode cX6_removeAt 46 = .ok (.goto (-31), 3) := by decide +kernel
theorem dX6_removeAt_49 : decode cX6_removeAt 49 = .ok (.aload_n 0, 1) := by decide +kernel
theorem dX6_removeAt_50 : decode cX6_removeAt 50 = .ok (.dup, 1) := by decide +kernel
theorem dX6_removeAt_51 : decode cX6_removeAt 51 = .ok (.getfield 24, 3) := by decide +kernel
theorem dX6_removeAt_54 : decode cX6_removeAt 54 = .ok (.iconst 1, 1) := by decide +kernel
theorem dX6_removeAt_55 : decode cX6_removeAt 55 = .ok (.isub, 1) := by decide +kernel
theorem dX6_removeAt_56 : decode cX6_removeAt 56 = .ok (.putfield 24, 3) := by decide +kernel
theorem dX6_removeAt_59 : decode cX6_removeAt 59 = .ok (.return_, 1) := by decide +kernel
theorem dX6_copyFrom_0 : decode cX6_copyFrom 0 = .ok (.aload_n 0, 1) := by decide +kernel
theorem dX6_copyFrom_1 : decode cX6_copyFrom 1 = .ok (.aload_n 1, 1) := by decide +kernel
theorem dX6_copyFrom_2 : decode cX6_copyFrom 2 = .ok (.getfield 20, 3) := by decide +kernel
theorem dX6_copyFrom_5 : decode cX6_copyFrom 5 = .ok (.putfield 20, 3) := by decide +kernel
theorem dX6_copyFrom_8 : decode cX6_copyFrom 8 = .ok (.aload_n 0, 1) := by decide +kernel
theorem dX6_copyFrom_9 : decode cX6_copyFrom 9 = .ok (.aload_n 1, 1) := by decide +kernel
theorem dX6_copyFrom_10 : decode cX6_copyFrom 10 = .ok (.getfield 24, 3) := by decide +kernel
theorem dX6_copyFrom_13 : decode cX6_copyFrom 13 = .ok (.putfield 24, 3) := by decide +kernel
theorem dX6_copyFrom_16 : decode cX6_copyFrom 16 = .ok (.aload_n 0, 1) := by decide +kernel
theorem dX6_copyFrom_17 : decode cX6_copyFrom 17 = .ok (.getfield 14, 3) := by decide +kernel
theorem dX6_copyFrom_20 : decode cX6_copyFrom 20 = .ok (.aload_n 1, 1) := by decide +kernel
theorem dX6_copyFrom_21 : decode cX6_copyFrom 21 = .ok (.getfield 14, 3) := by decide +kernel
theorem dX6_copyFrom_24 : decode cX6_copyFrom 24 = .ok (.invokevirtual 44, 3) := by decide +kernel
theorem dX6_copyFrom_27 : decode cX6_copyFrom 27 = .ok (.return_, 1) := by decide +kernel
theorem dX6_isSame_0 : decode cX6_isSame 0 = .ok (.aload_n 0, 1) := by decide +kernel
theorem dX6_isSame_1 : decode cX6_isSame 1 = .ok (.getfield 20, 3) := by decide +kernel
theorem dX6_isSame_4 : decode cX6_isSame 4 = .ok (.aload_n 1, 1) := by decide +kernel
theorem dX6_isSame_5 : decode cX6_isSame 5 = .ok (.getfield 20, 3) := by decide +kernel
theorem dX6_isSame_8 : decode cX6_isSame 8 = .ok (.if_icmp .ne 14, 3) := by decide +kernel
theorem dX6_isSame_11 : decode cX6_isSame 11 = .ok (.aload_n 0, 1) := by decide +kernel
theorem dX6_isSame_12 : decode cX6_isSame 12 = .ok (.getfield 24, 3) := by decide +kernel
theorem dX6_isSame_15 : decode cX6_isSame 15 = .ok (.aload_n 1, 1) := by decide +kernel
theorem dX6_isSame_16 : decode cX6_isSame 16 = .ok (.getfield 24, 3) := by decide +kernel
theorem dX6_isSame_19 : decode cX6_isSame 19 = .ok (.if_icmp .eq 5, 3) := by decide +kernel
theorem dX6_isSame_22 : decode cX6_isSame 22 = .ok (.iconst 0, 1) := by decide +kernel
theorem dX6_isSame_23 : decode cX6_isSame 23 = .ok (.ireturn, 1) := by decide +kernel
theorem dX6_isSame_24 : decode cX6_isSame 24 = .ok (.iconst 0, 1) := by decide +kernel
theorem dX6_isSame_25 : decode cX6_isSame 25 = .ok (.istore_n 2, 1) := by decide +kernel
theorem dX6_isSame_26 : decode cX6_isSame 26 = .ok (.iload_n 2, 1) := by decide +kernel
theorem dX6_isSame_27 : decode cX6_isSame 27 = .ok (.aload_n 0, 1) := by decide +kernel
theorem dX6_isSame_28 : decode cX6_isSame 28 = .ok (.getfield 24, 3) := by decide +kernel
theorem dX6_isSame_31 : decode cX6_isSame 31 = .ok (.if_icmp .ge 24, 3) := by decide +kernel
theorem dX6_isSame_34 : decode cX6_isSame 34 = .ok (.aload_n 0, 1) := by decide +kernel
theorem dX6_isSame_35 : decode cX6_isSame 35 = .ok (.iload_n 2, 1) := by decide +kernel
theorem dX6_isSame_36 : decode cX6_isSame 36 = .ok (.invokevirtual 35, 3) := by decide +kernel
theorem dX6_isSame_39 : decode cX6_isSame 39 = .ok (.aload_n 1, 1) := by decide +kernel
theorem dX6_isSame_40 : decode cX6_isSame 40 = .ok (.iload_n 2, 1) := by decide +kernel
theorem dX6_isSame_41 : decode cX6_isSame 41 = .ok (.invokevirtual 35, 3) := by decide +kernel
theorem dX6_isSame_44 : decode cX6_isSame 44 = .ok (.if_icmp .eq 5, 3) := by decide +kernel
theorem dX6_isSame_47 : decode cX6_isSame 47 = .ok (.iconst 0, 1) := by decide +kernel
theorem dX6_isSame_48 : decode cX6_isSame 48 = .ok (.ireturn, 1) := by decide +kernel
theorem dX6_isSame_49 : decode cX6_isSame 49 = .ok (.iinc 2 1, 3) := by decide +kernel
theorem dX6_isSame_52 : decode cX6_isSame 52 = .ok (.goto (-26), 3) := by decide +kernel
theorem dX6_isSame_55 : decode cX6_isSame 55 = .ok (.iconst 1, 1) := by decide +kernel
theorem dX6_isSame_56 : decode cX6_isSame 56 = .ok (.ireturn, 1) := by decide +kernel
theorem dX6_rightLessLeft_0 : decode cX6_rightLessLeft 0 = .ok (.iconst 0, 1) := by decide +kernel
theorem dX6_rightLessLeft_1 : decode cX6_rightLessLeft 1 = .ok (.istore_n 1, 1) := by decide +kernel
theorem dX6_rightLessLeft_2 : decode cX6_rightLessLeft 2 = .ok (.iconst 0, 1) := by decide +kernel
theorem dX6_rightLessLeft_3 : decode cX6_rightLessLeft 3 = .ok (.istore_n 2, 1) := by decide +kernel
theorem dX6_rightLessLeft_4 : decode cX6_rightLessLeft 4 = .ok (.iload_n 2, 1) := by decide +kernel
theorem dX6_rightLessLeft_5 : decode cX6_rightLessLeft 5 = .ok (.aload_n 0, 1) := by decide +kernel
theorem dX6_rightLessLeft_6 : decode cX6_rightLessLeft 6 = .ok (.getfield 24, 3) := by decide +kernel
theorem dX6_rightLessLeft_9 : decode cX6_rightLessLeft 9 = .ok (.if_icmp .ge 28, 3) := by decide +kernel
theorem dX6_rightLessLeft_12 : decode cX6_rightLessLeft 12 = .ok (.iload_n 1, 1) := by decide +kernel
theorem dX6_rightLessLeft_13 : decode cX6_rightLessLeft 13 = .ok (.aload_n 0, 1) := by decide +kernel
theorem dX6_rightLessLeft_14 : decode cX6_rightLessLeft 14 = .ok (.iload_n 2, 1) := by decide +kernel
theorem dX6_rightLessLeft_15 : decode cX6_rightLessLeft 15 = .ok (.invokevirtual 35, 3) := by decide +kernel
theorem dX6_rightLessLeft_18 : decode cX6_rightLessLeft 18 = .ok (.invokestatic 48, 3) := by decide +kernel
theorem dX6_rightLessLeft_21 : decode cX6_rightLessLeft 21 = .ok (.ifCond .eq 7, 3) := by decide +kernel
theorem dX6_rightLessLeft_24 : decode cX6_rightLessLeft 24 = .ok (.iconst 1, 1) := by decide +kernel
theorem dX6_rightLessLeft_25 : decode cX6_rightLessLeft 25 = .ok (.goto 4, 3) := by decide +kernel
theorem dX6_rightLessLeft_28 : decode cX6_rightLessLeft 28 = .ok (.iconst (-1), 1) := by decide +kernel
theorem dX6_rightLessLeft_29 : decode cX6_rightLessLeft 29 = .ok (.iadd, 1) := by decide +kernel
theorem dX6_rightLessLeft_30 : decode cX6_rightLessLeft 30 = .ok (.istore_n 1, 1) := by decide +kernel
theorem dX6_rightLessLeft_31 : decode cX6_rightLessLeft 31 = .ok (.iinc 2 1, 3) := by decide +kernel
theorem dX6_rightLessLeft_34 : decode cX6_rightLessLeft 34 = .ok (.goto (-30), 3) := by decide +kernel
theorem dX6_rightLessLeft_37 : decode cX6_rightLessLeft 37 = .ok (.iload_n 1, 1) := by decide +kernel
theorem dX6_rightLessLeft_38 : decode cX6_rightLessLeft 38 = .ok (.ireturn, 1) := by decide +kernel
theorem dX6_makeChanged_0 : decode cX6_makeChanged 0 = .ok (.iload_n 2, 1) := by decide +kernel
theorem dX6_makeChanged_1 : decode cX6_makeChanged 1 = .ok (.iconst 3, 1) := by decide +kernel
theorem dX6_makeChanged_2 : decode cX6_makeChanged 2 = .ok (.if_icmp .ne 9, 3) := by decide +kernel
theorem dX6_makeChanged_5 : decode cX6_makeChanged 5 = .ok (.aload_n 0, 1) := by decide +kernel
theorem dX6_makeChanged_6 : decode cX6_makeChanged 6 = .ok (.aload_n 1, 1) := by decide +kernel
theorem dX6_makeChanged_7 : decode cX6_makeChanged 7 = .ok (.invokevirtual 52, 3) := by decide +kernel
theorem dX6_makeChanged_10 : decode cX6_makeChanged 10 = .ok (.return_, 1) := by decide +kernel
theorem dX6_makeChanged_11 : decode cX6_makeChanged 11 = .ok (.aload_n 0, 1) := by decide +kernel
theorem dX6_makeChanged_12 : decode cX6_makeChanged 12 = .ok (.aload_n 1, 1) := by decide +kernel
theorem dX6_makeChanged_13 : decode cX6_makeChanged 13 = .ok (.getfield 20, 3) := by decide +kernel
theorem dX6_makeChanged_16 : decode cX6_makeChanged 16 = .ok (.invokevirtual 56, 3) := by decide +kernel
theorem dX6_makeChanged_19 : decode cX6_makeChanged 19 = .ok (.iconst 0, 1) := by decide +kernel
theorem dX6_makeChanged_20 : decode cX6_makeChanged 20 = .ok (.istore_n 3, 1) := by decide +kernel
theorem dX6_makeChanged_21 : decode cX6_makeChanged 21 = .ok (.iload_n 3, 1) := by decide +kernel
theorem dX6_makeChanged_22 : decode cX6_makeChanged 22 = .ok (.aload_n 1, 1) := by decide +kernel
theorem dX6_makeChanged_23 : decode cX6_makeChanged 23 = .ok (.getfield 24, 3) := by decide +kernel
theorem dX6_makeChanged_26 : decode cX6_makeChanged 26 = .ok (.if_icmp .ge 86, 3) := by decide +kernel
theorem dX6_makeChanged_29 : decode cX6_makeChanged 29 = .ok (.iload_n 2, 1) := by decide +kernel
theorem dX6_makeChanged_30 : decode cX6_makeChanged 30 = .ok (.lookupswitch 57 #[(0, 26), (1, 41)], 26) := by decide +kernel
theorem dX6_makeChanged_56 : decode cX6_makeChanged 56 = .ok (.aload_n 0, 1) := by decide +kernel
theorem dX6_makeChanged_57 : decode cX6_makeChanged 57 = .ok (.aload_n 1, 1) := by decide +kernel
theorem dX6_makeChanged_58 : decode cX6_makeChanged 58 = .ok (.iload_n 3, 1) := by decide +kernel
theorem dX6_makeChanged_59 : decode cX6_makeChanged 59 = .ok (.invokevirtual 35, 3) := by decide +kernel
theorem dX6_makeChanged_62 : decode cX6_makeChanged 62 = .ok (.invokestatic 59, 3) := by decide +kernel
theorem dX6_makeChanged_65 : decode cX6_makeChanged 65 = .ok (.invokevirtual 38, 3) := by decide +kernel
theorem dX6_makeChanged_68 : decode cX6_makeChanged 68 = .ok (.goto 38, 3) := by decide +kernel
theorem dX6_makeChanged_71 : decode cX6_makeChanged 71 = .ok (.aload_n 0, 1) := by decide +kernel
theorem dX6_makeChanged_72 : decode cX6_makeChanged 72 = .ok (.aload_n 0, 1) := by decide +kernel
theorem dX6_makeChanged_73 : decode cX6_makeChanged 73 = .ok (.aload_n 1, 1) := by decide +kernel
theorem dX6_makeChanged_74 : decode cX6_makeChanged 74 = .ok (.iload_n 3, 1) := by decide +kernel
theorem dX6_makeChanged_75 : decode cX6_makeChanged 75 = .ok (.invokevirtual 35, 3) := by decide +kernel
theorem dX6_makeChanged_78 : decode cX6_makeChanged 78 = .ok (.invokevirtual 62, 3) := by decide +kernel
theorem dX6_makeChanged_81 : decode cX6_makeChanged 81 = .ok (.invokevirtual 38, 3) := by decide +kernel
theorem dX6_makeChanged_84 : decode cX6_makeChanged 84 = .ok (.goto 22, 3) := by decide +kernel
theorem dX6_makeChanged_87 : decode cX6_makeChanged 87 = .ok (.aload_n 0, 1) := by decide +kernel
theorem dX6_makeChanged_88 : decode cX6_makeChanged 88 = .ok (.aload_n 1, 1) := by decide +kernel
theorem dX6_makeChanged_89 : decode cX6_makeChanged 89 = .ok (.aload_n 1, 1) := by decide +kernel
theorem dX6_makeChanged_90 : decode cX6_makeChanged 90 = .ok (.getfield 24, 3) := by decide +kernel
theorem dX6_makeChanged_93 : decode cX6_makeChanged 93 = .ok (.iconst 1, 1) := by decide +kernel
theorem dX6_makeChanged_94 : decode cX6_makeChanged 94 = .ok (.isub, 1) := by decide +kernel
theorem dX6_makeChanged_95 : decode cX6_makeChanged 95 = .ok (.iload_n 3, 1) := by decide +kernel
theorem dX6_makeChanged_96 : decode cX6_makeChanged 96 = .ok (.isub, 1) := by decide +kernel
theorem dX6_makeChanged_97 : decode cX6_makeChanged 97 = .ok (.invokevirtual 35, 3) := by decide +kernel
theorem dX6_makeChanged_100 : decode cX6_makeChanged 100 = .ok (.invokestatic 59, 3) := by decide +kernel
theorem dX6_makeChanged_103 : decode cX6_makeChanged 103 = .ok (.invokevirtual 38, 3) := by decide +kernel
theorem dX6_makeChanged_106 : decode cX6_makeChanged 106 = .ok (.iinc 3 1, 3) := by decide +kernel
theorem dX6_makeChanged_109 : decode cX6_makeChanged 109 = .ok (.goto (-88), 3) := by decide +kernel
theorem dX6_makeChanged_112 : decode cX6_makeChanged 112 = .ok (.return_, 1) := by decide +kernel
theorem dX6_turned_0 : decode cX6_turned 0 = .ok (.aload_n 0, 1) := by decide +kernel
theorem dX6_turned_1 : decode cX6_turned 1 = .ok (.getfield 20, 3) := by decide +kernel
theorem dX6_turned_4 : decode cX6_turned 4 = .ok (.iconst 2, 1) := by decide +kernel
theorem dX6_turned_5 : decode cX6_turned 5 = .ok (.isub, 1) := by decide +kernel
theorem dX6_turned_6 : decode cX6_turned 6 = .ok (.iload_n 1, 1) := by decide +kernel
theorem dX6_turned_7 : decode cX6_turned 7 = .ok (.invokestatic 65, 3) := by decide +kernel
theorem dX6_turned_10 : decode cX6_turned 10 = .ok (.isub, 1) := by decide +kernel
theorem dX6_turned_11 : decode cX6_turned 11 = .ok (.iload_n 1, 1) := by decide +kernel
theorem dX6_turned_12 : decode cX6_turned 12 = .ok (.invokestatic 48, 3) := by decide +kernel
theorem dX6_turned_15 : decode cX6_turned 15 = .ok (.invokestatic 68, 3) := by decide +kernel
theorem dX6_turned_18 : decode cX6_turned 18 = .ok (.ireturn, 1) := by decide +kernel
theorem dX6_makeLoose_0 : decode cX6_makeLoose 0 = .ok (.aload_n 0, 1) := by decide +kernel
theorem dX6_makeLoose_1 : decode cX6_makeLoose 1 = .ok (.aload_n 1, 1) := by decide +kernel
theorem dX6_makeLoose_2 : decode cX6_makeLoose 2 = .ok (.getfield 20, 3) := by decide +kernel
theorem dX6_makeLoose_5 : decode cX6_makeLoose 5 = .ok (.invokevirtual 56, 3) := by decide +kernel
theorem dX6_makeLoose_8 : decode cX6_makeLoose 8 = .ok (.iconst 0, 1) := by decide +kernel
theorem dX6_makeLoose_9 : decode cX6_makeLoose 9 = .ok (.istore_n 2, 1) := by decide +kernel
theorem dX6_makeLoose_10 : decode cX6_makeLoose 10 = .ok (.iload_n 2, 1) := by decide +kernel
theorem dX6_makeLoose_11 : decode cX6_makeLoose 11 = .ok (.aload_n 1, 1) := by decide +kernel
theorem dX6_makeLoose_12 : decode cX6_makeLoose 12 = .ok (.getfield 24, 3) := by decide +kernel
theorem dX6_makeLoose_15 : decode cX6_makeLoose 15 = .ok (.if_icmp .ge 60, 3) := by decide +kernel
theorem dX6_makeLoose_18 : decode cX6_makeLoose 18 = .ok (.aload_n 1, 1) := by decide +kernel
theorem dX6_makeLoose_19 : decode cX6_makeLoose 19 = .ok (.iload_n 2, 1) := by decide +kernel
theorem dX6_makeLoose_20 : decode cX6_makeLoose 20 = .ok (.invokevirtual 35, 3) := by decide +kernel
theorem dX6_makeLoose_23 : decode cX6_makeLoose 23 = .ok (.istore_n 3, 1) := by decide +kernel
theorem dX6_makeLoose_24 : decode cX6_makeLoose 24 = .ok (.aload_n 0, 1) := by decide +kernel
theorem dX6_makeLoose_25 : decode cX6_makeLoose 25 = .ok (.iload_n 3, 1) := by decide +kernel
theorem dX6_makeLoose_26 : decode cX6_makeLoose 26 = .ok (.invokevirtual 72, 3) := by decide +kernel
theorem dX6_makeLoose_29 : decode cX6_makeLoose 29 = .ok (.istore 4, 2) := by decide +kernel
theorem dX6_makeLoose_31 : decode cX6_makeLoose 31 = .ok (.iload 4, 2) := by decide +kernel
theorem dX6_makeLoose_33 : decode cX6_makeLoose 33 = .ok (.ifCond .le 29, 3) := by decide +kernel
theorem dX6_makeLoose_36 : decode cX6_makeLoose 36 = .ok (.aload_n 0, 1) := by decide +kernel
theorem dX6_makeLoose_37 : decode cX6_makeLoose 37 = .ok (.iload 4, 2) := by decide +kernel
theorem dX6_makeLoose_39 : decode cX6_makeLoose 39 = .ok (.iconst 1, 1) := by decide +kernel
theorem dX6_makeLoose_40 : decode cX6_makeLoose 40 = .ok (.isub, 1) := by decide +kernel
theorem dX6_makeLoose_41 : decode cX6_makeLoose 41 = .ok (.invokevirtual 35, 3) := by decide +kernel
theorem dX6_makeLoose_44 : decode cX6_makeLoose 44 = .ok (.iload_n 3, 1) := by decide +kernel
theorem dX6_makeLoose_45 : decode cX6_makeLoose 45 = .ok (.invokestatic 59, 3) := by decide +kernel
theorem dX6_makeLoose_48 : decode cX6_makeLoose 48 = .ok (.if_icmp .ne 14, 3) := by decide +kernel
theorem dX6_makeLoose_51 : decode cX6_makeLoose 51 = .ok (.aload_n 0, 1) := by decide +kernel
theorem dX6_makeLoose_52 : decode cX6_makeLoose 52 = .ok (.iload 4, 2) := by decide +kernel
theorem dX6_makeLoose_54 : decode cX6_makeLoose 54 = .ok (.iconst 1, 1) := by decide +kernel
theorem dX6_makeLoose_55 : decode cX6_makeLoose 55 = .ok (.isub, 1) := by decide +kernel
theorem dX6_makeLoose_56 : decode cX6_makeLoose 56 = .ok (.invokevirtual 75, 3) := by decide +kernel
theorem dX6_makeLoose_59 : decode cX6_makeLoose 59 = .ok (.goto 10, 3) := by decide +kernel
theorem dX6_makeLoose_62 : decode cX6_makeLoose 62 = .ok (.aload_n 0, 1) := by decide +kernel
theorem dX6_makeLoose_63 : decode cX6_makeLoose 63 = .ok (.iload 4, 2) := by decide +kernel
theorem dX6_makeLoose_65 : decode cX6_makeLoose 65 = .ok (.iload_n 3, 1) := by decide +kernel
theorem dX6_makeLoose_66 : decode cX6_makeLoose 66 = .ok (.invokevirtual 31, 3) := by decide +kernel
theorem dX6_makeLoose_69 : decode cX6_makeLoose 69 = .ok (.iinc 2 1, 3) := by decide +kernel
theorem dX6_makeLoose_72 : decode cX6_makeLoose 72 = .ok (.goto (-62), 3) := by decide +kernel
theorem dX6_makeLoose_75 : decode cX6_makeLoose 75 = .ok (.return_, 1) := by decide +kernel
theorem dX6_looseIndexOf_0 : decode cX6_looseIndexOf 0 = .ok (.aload_n 0, 1) := by decide +kernel
theorem dX6_looseIndexOf_1 : decode cX6_looseIndexOf 1 = .ok (.getfield 24, 3) := by decide +kernel
theorem dX6_looseIndexOf_4 : decode cX6_looseIndexOf 4 = .ok (.istore_n 2, 1) := by decide +kernel
theorem dX6_looseIndexOf_5 : decode cX6_looseIndexOf 5 = .ok (.aload_n 0, 1) := by decide +kernel
theorem dX6_looseIndexOf_6 : decode cX6_looseIndexOf 6 = .ok (.getfield 24, 3) := by decide +kernel
theorem dX6_looseIndexOf_9 : decode cX6_looseIndexOf 9 = .ok (.iconst 1, 1) := by decide +kernel
theorem dX6_looseIndexOf_10 : decode cX6_looseIndexOf 10 = .ok (.isub, 1) := by decide +kernel
theorem dX6_looseIndexOf_11 : decode cX6_looseIndexOf 11 = .ok (.istore_n 3, 1) := by decide +kernel
theorem dX6_looseIndexOf_12 : decode cX6_looseIndexOf 12 = .ok (.iload_n 3, 1) := by decide +kernel
theorem dX6_looseIndexOf_13 : decode cX6_looseIndexOf 13 = .ok (.ifCond .lt 31, 3) := by decide +kernel
theorem dX6_looseIndexOf_16 : decode cX6_looseIndexOf 16 = .ok (.aload_n 0, 1) := by decide +kernel
theorem dX6_looseIndexOf_17 : decode cX6_looseIndexOf 17 = .ok (.getfield 14, 3) := by decide +kernel
theorem dX6_looseIndexOf_20 : decode cX6_looseIndexOf 20 = .ok (.iload_n 3, 1) := by decide +kernel
theorem dX6_looseIndexOf_21 : decode cX6_looseIndexOf 21 = .ok (.invokevirtual 27, 3) := by decide +kernel
theorem dX6_looseIndexOf_24 : decode cX6_looseIndexOf 24 = .ok (.invokestatic 65, 3) := by decide +kernel
theorem dX6_looseIndexOf_27 : decode cX6_looseIndexOf 27 = .ok (.iload_n 1, 1) := by decide +kernel
theorem dX6_looseIndexOf_28 : decode cX6_looseIndexOf 28 = .ok (.invokestatic 65, 3) := by decide +kernel
theorem dX6_looseIndexOf_31 : decode cX6_looseIndexOf 31 = .ok (.isub, 1) := by decide +kernel
theorem dX6_looseIndexOf_32 : decode cX6_looseIndexOf 32 = .ok (.iconst 2, 1) := by decide +kernel
theorem dX6_looseIndexOf_33 : decode cX6_looseIndexOf 33 = .ok (.if_icmp .lt 11, 3) := by decide +kernel
theorem dX6_looseIndexOf_36 : decode cX6_looseIndexOf 36 = .ok (.iload_n 3, 1) := by decide +kernel
theorem dX6_looseIndexOf_37 : decode cX6_looseIndexOf 37 = .ok (.istore_n 2, 1) := by decide +kernel
theorem dX6_looseIndexOf_38 : decode cX6_looseIndexOf 38 = .ok (.iinc 3 (-1), 3) := by decide +kernel
theorem dX6_looseIndexOf_41 : decode cX6_looseIndexOf 41 = .ok (.goto (-29), 3) := by decide +kernel
theorem dX6_looseIndexOf_44 : decode cX6_looseIndexOf 44 = .ok (.iload_n 2, 1) := by decide +kernel
theorem dX6_looseIndexOf_45 : decode cX6_looseIndexOf 45 = .ok (.ireturn, 1) := by decide +kernel
theorem dX6_makeShortAtOnce_0 : decode cX6_makeShortAtOnce 0 = .ok (.aload_n 0, 1) := by decide +kernel
theorem dX6_makeShortAtOnce_1 : decode cX6_makeShortAtOnce 1 = .ok (.aload_n 1, 1) := by decide +kernel
theorem dX6_makeShortAtOnce_2 : decode cX6_makeShortAtOnce 2 = .ok (.getfield 20, 3) := by decide +kernel
theorem dX6_makeShortAtOnce_5 : decode cX6_makeShortAtOnce 5 = .ok (.invokevirtual 56, 3) := by decide +kernel
theorem dX6_makeShortAtOnce_8 : decode cX6_makeShortAtOnce 8 = .ok (.iconst 0, 1) := by decide +kernel
theorem dX6_makeShortAtOnce_9 : decode cX6_makeShortAtOnce 9 = .ok (.istore_n 2, 1) := by decide +kernel
theorem dX6_makeShortAtOnce_10 : decode cX6_makeShortAtOnce 10 = .ok (.iload_n 2, 1) := by decide +kernel
theorem dX6_makeShortAtOnce_11 : decode cX6_makeShortAtOnce 11 = .ok (.aload_n 1, 1) := by decide +kernel
theorem dX6_makeShortAtOnce_12 : decode cX6_makeShortAtOnce 12 = .ok (.getfield 24, 3) := by decide +kernel
theorem dX6_makeShortAtOnce_15 : decode cX6_makeShortAtOnce 15 = .ok (.if_icmp .ge 59, 3) := by decide +kernel
theorem dX6_makeShortAtOnce_18 : decode cX6_makeShortAtOnce 18 = .ok (.aload_n 0, 1) := by decide +kernel
theorem dX6_makeShortAtOnce_19 : decode cX6_makeShortAtOnce 19 = .ok (.getfield 24, 3) := by decide +kernel
theorem dX6_makeShortAtOnce_22 : decode cX6_makeShortAtOnce 22 = .ok (.ifCond .le 37, 3) := by decide +kernel
theorem dX6_makeShortAtOnce_25 : decode cX6_makeShortAtOnce 25 = .ok (.aload_n 0, 1) := by decide +kernel
theorem dX6_makeShortAtOnce_26 : decode cX6_makeShortAtOnce 26 = .ok (.aload_n 0, 1) := by decide +kernel
theorem dX6_makeShortAtOnce_27 : decode cX6_makeShortAtOnce 27 = .ok (.getfield 24, 3) := by decide +kernel
theorem dX6_makeShortAtOnce_30 : decode cX6_makeShortAtOnce 30 = .ok (.iconst 1, 1) := by decide +kernel
theorem dX6_makeShortAtOnce_31 : decode cX6_makeShortAtOnce 31 = .ok (.isub, 1) := by decide +kernel
theorem dX6_makeShortAtOnce_32 : decode cX6_makeShortAtOnce 32 = .ok (.invokevirtual 35, 3) := by decide +kernel
theorem dX6_makeShortAtOnce_35 : decode cX6_makeShortAtOnce 35 = .ok (.aload_n 1, 1) := by decide +kernel
theorem dX6_makeShortAtOnce_36 : decode cX6_makeShortAtOnce 36 = .ok (.iload_n 2, 1) := by decide +kernel
theorem dX6_makeShortAtOnce_37 : decode cX6_makeShortAtOnce 37 = .ok (.invokevirtual 35, 3) := by decide +kernel
theorem dX6_makeShortAtOnce_40 : decode cX6_makeShortAtOnce 40 = .ok (.invokestatic 59, 3) := by decide +kernel
theorem dX6_makeShortAtOnce_43 : decode cX6_makeShortAtOnce 43 = .ok (.if_icmp .ne 16, 3) := by decide +kernel
theorem dX6_makeShortAtOnce_46 : decode cX6_makeShortAtOnce 46 = .ok (.aload_n 0, 1) := by decide +kernel
theorem dX6_makeShortAtOnce_47 : decode cX6_makeShortAtOnce 47 = .ok (.aload_n 0, 1) := by decide +kernel
theorem dX6_makeShortAtOnce_48 : decode cX6_makeShortAtOnce 48 = .ok (.getfield 24, 3) := by decide +kernel
theorem dX6_makeShortAtOnce_51 : decode cX6_makeShortAtOnce 51 = .ok (.iconst 1, 1) := by decide +kernel
theorem dX6_makeShortAtOnce_52 : decode cX6_makeShortAtOnce 52 = .ok (.isub, 1) := by decide +kernel
theorem dX6_makeShortAtOnce_53 : decode cX6_makeShortAtOnce 53 = .ok (.invokevirtual 75, 3) := by decide +kernel
theorem dX6_makeShortAtOnce_56 : decode cX6_makeShortAtOnce 56 = .ok (.goto 12, 3) := by decide +kernel
theorem dX6_makeShortAtOnce_59 : decode cX6_makeShortAtOnce 59 = .ok (.aload_n 0, 1) := by decide +kernel
theorem dX6_makeShortAtOnce_60 : decode cX6_makeShortAtOnce 60 = .ok (.aload_n 1, 1) := by decide +kernel
theorem dX6_makeShortAtOnce_61 : decode cX6_makeShortAtOnce 61 = .ok (.iload_n 2, 1) := by decide +kernel
theorem dX6_makeShortAtOnce_62 : decode cX6_makeShortAtOnce 62 = .ok (.invokevirtual 35, 3) := by decide +kernel
theorem dX6_makeShortAtOnce_65 : decode cX6_makeShortAtOnce 65 = .ok (.invokevirtual 38, 3) := by decide +kernel
theorem dX6_makeShortAtOnce_68 : decode cX6_makeShortAtOnce 68 = .ok (.iinc 2 1, 3) := by decide +kernel
theorem dX6_makeShortAtOnce_71 : decode cX6_makeShortAtOnce 71 = .ok (.goto (-61), 3) := by decide +kernel
theorem dX6_makeShortAtOnce_74 : decode cX6_makeShortAtOnce 74 = .ok (.return_, 1) := by decide +kernel
theorem dX6_makeShortByLooking_0 : decode cX6_makeShortByLooking 0 = .ok (.aload_n 0, 1) := by decide +kernel
theorem dX6_makeShortByLooking_1 : decode cX6_makeShortByLooking 1 = .ok (.aload_n 1, 1) := by decide +kernel
theorem dX6_makeShortByLooking_2 : decode cX6_makeShortByLooking 2 = .ok (.invokevirtual 78, 3) := by decide +kernel
theorem dX6_makeShortByLooking_5 : decode cX6_makeShortByLooking 5 = .ok (.aload_n 0, 1) := by decide +kernel
theorem dX6_makeShortByLooking_6 : decode cX6_makeShortByLooking 6 = .ok (.invokevirtual 80, 3) := by decide +kernel
theorem dX6_makeShortByLooking_9 : decode cX6_makeShortByLooking 9 = .ok (.istore_n 2, 1) := by decide +kernel
theorem dX6_makeShortByLooking_10 : decode cX6_makeShortByLooking 10 = .ok (.iconst 0, 1) := by decide +kernel
theorem dX6_makeShortByLooking_11 : decode cX6_makeShortByLooking 11 = .ok (.istore_n 3, 1) := by decide +kernel
theorem dX6_makeShortByLooking_12 : decode cX6_makeShortByLooking 12 = .ok (.iload_n 3, 1) := by decide +kernel
theorem dX6_makeShortByLooking_13 : decode cX6_makeShortByLooking 13 = .ok (.bipush 24, 2) := by decide +kernel
theorem dX6_makeShortByLooking_15 : decode cX6_makeShortByLooking 15 = .ok (.if_icmp .ge 31, 3) := by decide +kernel
theorem dX6_makeShortByLooking_18 : decode cX6_makeShortByLooking 18 = .ok (.iload_n 2, 1) := by decide +kernel
theorem dX6_makeShortByLooking_19 : decode cX6_makeShortByLooking 19 = .ok (.iconst (-1), 1) := by decide +kernel
theorem dX6_makeShortByLooking_20 : decode cX6_makeShortByLooking 20 = .ok (.if_icmp .eq 26, 3) := by decide +kernel
theorem dX6_makeShortByLooking_23 : decode cX6_makeShortByLooking 23 = .ok (.aload_n 0, 1) := by decide +kernel
theorem dX6_makeShortByLooking_24 : decode cX6_makeShortByLooking 24 = .ok (.iload_n 2, 1) := by decide +kernel
theorem dX6_makeShortByLooking_25 : decode cX6_makeShortByLooking 25 = .ok (.iconst 1, 1) := by decide +kernel
theorem dX6_makeShortByLooking_26 : decode cX6_makeShortByLooking 26 = .ok (.iadd, 1) := by decide +kernel
theorem dX6_makeShortByLooking_27 : decode cX6_makeShortByLooking 27 = .ok (.invokevirtual 75, 3) := by decide +kernel
theorem dX6_makeShortByLooking_30 : decode cX6_makeShortByLooking 30 = .ok (.aload_n 0, 1) := by decide +kernel
theorem dX6_makeShortByLooking_31 : decode cX6_makeShortByLooking 31 = .ok (.iload_n 2, 1) := by decide +kernel
theorem dX6_makeShortByLooking_32 : decode cX6_makeShortByLooking 32 = .ok (.invokevirtual 75, 3) := by decide +kernel
theorem dX6_makeShortByLooking_35 : decode cX6_makeShortByLooking 35 = .ok (.aload_n 0, 1) := by decide +kernel
theorem dX6_makeShortByLooking_36 : decode cX6_makeShortByLooking 36 = .ok (.invokevirtual 80, 3) := by decide +kernel
theorem dX6_makeShortByLooking_39 : decode cX6_makeShortByLooking 39 = .ok (.istore_n 2, 1) := by decide +kernel
theorem dX6_makeShortByLooking_40 : decode cX6_makeShortByLooking 40 = .ok (.iinc 3 1, 3) := by decide +kernel
theorem dX6_makeShortByLooking_43 : decode cX6_makeShortByLooking 43 = .ok (.goto (-31), 3) := by decide +kernel
theorem dX6_makeShortByLooking_46 : decode cX6_makeShortByLooking 46 = .ok (.return_, 1) := by decide +kernel
theorem dX6_firstPair_0 : decode cX6_firstPair 0 = .ok (.iconst 0, 1) := by decide +kernel
theorem dX6_firstPair_1 : decode cX6_firstPair 1 = .ok (.istore_n 1, 1) := by decide +kernel
theorem dX6_firstPair_2 : decode cX6_firstPair 2 = .ok (.iload_n 1, 1) := by decide +kernel
theorem dX6_firstPair_3 : decode cX6_firstPair 3 = .ok (.aload_n 0, 1) := by decide +kernel
theorem dX6_firstPair_4 : decode cX6_firstPair 4 = .ok (.getfield 24, 3) := by decide +kernel
theorem dX6_firstPair_7 : decode cX6_firstPair 7 = .ok (.iconst 1, 1) := by decide +kernel
theorem dX6_firstPair_8 : decode cX6_firstPair 8 = .ok (.isub, 1) := by decide +kernel
theorem dX6_firstPair_9 : decode cX6_firstPair 9 = .ok (.if_icmp .ge 29, 3) := by decide +kernel
theorem dX6_firstPair_12 : decode cX6_firstPair 12 = .ok (.aload_n 0, 1) := by decide +kernel
theorem dX6_firstPair_13 : decode cX6_firstPair 13 = .ok (.iload_n 1, 1) := by decide +kernel
theorem dX6_firstPair_14 : decode cX6_firstPair 14 = .ok (.iconst 1, 1) := by decide +kernel
theorem dX6_firstPair_15 : decode cX6_firstPair 15 = .ok (.iadd, 1) := by decide +kernel
theorem dX6_firstPair_16 : decode cX6_firstPair 16 = .ok (.invokevirtual 35, 3) := by decide +kernel
theorem dX6_firstPair_19 : decode cX6_firstPair 19 = .ok (.aload_n 0, 1) := by decide +kernel
theorem dX6_firstPair_20 : decode cX6_firstPair 20 = .ok (.iload_n 1, 1) := by decide +kernel
theorem dX6_firstPair_21 : decode cX6_firstPair 21 = .ok (.invokevirtual 35, 3) := by decide +kernel
theorem dX6_firstPair_24 : decode cX6_firstPair 24 = .ok (.invokestatic 59, 3) := by decide +kernel
theorem dX6_firstPair_27 : decode cX6_firstPair 27 = .ok (.if_icmp .ne 5, 3) := by decide +kernel
theorem dX6_firstPair_30 : decode cX6_firstPair 30 = .ok (.iload_n 1, 1) := by decide +kernel
theorem dX6_firstPair_31 : decode cX6_firstPair 31 = .ok (.ireturn, 1) := by decide +kernel
theorem dX6_firstPair_32 : decode cX6_firstPair 32 = .ok (.iinc 1 1, 3) := by decide +kernel
theorem dX6_firstPair_35 : decode cX6_firstPair 35 = .ok (.goto (-33), 3) := by decide +kernel
theorem dX6_firstPair_38 : decode cX6_firstPair 38 = .ok (.iconst (-1), 1) := by decide +kernel
theorem dX6_firstPair_39 : decode cX6_firstPair 39 = .ok (.ireturn, 1) := by decide +kernel
theorem dX7_init_0 : decode cX7_init 0 = .ok (.aload_n 0, 1) := by decide +kernel
theorem dX7_init_1 : decode cX7_init 1 = .ok (.invokespecial 1, 3) := by decide +kernel
theorem dX7_init_4 : decode cX7_init 4 = .ok (.aload_n 0, 1) := by decide +kernel
theorem dX7_init_5 : decode cX7_init 5 = .ok (.new 7, 3) := by decide +kernel
theorem dX7_init_8 : decode cX7_init 8 = .ok (.dup, 1) := by decide +kernel
theorem dX7_init_9 : decode cX7_init 9 = .ok (.invokespecial 9, 3) := by decide +kernel
theorem dX7_init_12 : decode cX7_init 12 = .ok (.putfield 10, 3) := by decide +kernel
theorem dX7_init_15 : decode cX7_init 15 = .ok (.aload_n 0, 1) := by decide +kernel
theorem dX7_init_16 : decode cX7_init 16 = .ok (.new 16, 3) := by decide +kernel
theorem dX7_init_19 : decode cX7_init 19 = .ok (.dup, 1) := by decide +kernel
theorem dX7_init_20 : decode cX7_init 20 = .ok (.invokespecial 18, 3) := by decide +kernel
theorem dX7_init_23 : decode cX7_init 23 = .ok (.putfield 19, 3) := by decide +kernel
theorem dX7_init_26 : decode cX7_init 26 = .ok (.aload_n 0, 1) := by decide +kernel
theorem dX7_init_27 : decode cX7_init 27 = .ok (.new 23, 3) := by decide +kernel
theorem dX7_init_30 : decode cX7_init 30 = .ok (.dup, 1) := by decide +kernel
theorem dX7_init_31 : decode cX7_init 31 = .ok (.invokespecial 25, 3) := by decide +kernel
theorem dX7_init_34 : decode cX7_init 34 = .ok (.putfield 26, 3) := by decide +kernel
theorem dX7_init_37 : decode cX7_init 37 = .ok (.aload_n 0, 1) := by decide +kernel
theorem dX7_init_38 : decode cX7_init 38 = .ok (.new 16, 3) := by decide +kernel
theorem dX7_init_41 : decode cX7_init 41 = .ok (.dup, 1) := by decide +kernel
theorem dX7_init_42 : decode cX7_init 42 = .ok (.invokespecial 18, 3) := by decide +kernel
theorem dX7_init_45 : decode cX7_init 45 = .ok (.putfield 30, 3) := by decide +kernel
theorem dX7_init_48 : decode cX7_init 48 = .ok (.aload_n 0, 1) := by decide +kernel
theorem dX7_init_49 : decode cX7_init 49 = .ok (.iconst 0, 1) := by decide +kernel
theorem dX7_init_50 : decode cX7_init 50 = .ok (.putfield 33, 3) := by decide +kernel
theorem dX7_init_53 : decode cX7_init 53 = .ok (.aload_n 0, 1) := by decide +kernel
theorem dX7_init_54 : decode cX7_init 54 = .ok (.new 37, 3) := by decide +kernel
theorem dX7_init_57 : decode cX7_init 57 = .ok (.dup, 1) := by decide +kernel
theorem dX7_init_58 : decode cX7_init 58 = .ok (.invokespecial 39, 3) := by decide +kernel
theorem dX7_init_61 : decode cX7_init 61 = .ok (.putfield 40, 3) := by decide +kernel
theorem dX7_init_64 : decode cX7_init 64 = .ok (.aload_n 0, 1) := by decide +kernel
theorem dX7_init_65 : decode cX7_init 65 = .ok (.new 44, 3) := by decide +kernel
theorem dX7_init_68 : decode cX7_init 68 = .ok (.dup, 1) := by decide +kernel
theorem dX7_init_69 : decode cX7_init 69 = .ok (.invokespecial 46, 3) := by decide +kernel
theorem dX7_init_72 : decode cX7_init 72 = .ok (.putfield 47, 3) := by decide +kernel
theorem dX7_init_75 : decode cX7_init 75 = .ok (.aload_n 0, 1) := by decide +kernel
theorem dX7_init_76 : decode cX7_init 76 = .ok (.new 44, 3) := by decide +kernel
theorem dX7_init_79 : decode cX7_init 79 = .ok (.dup, 1) := by decide +kernel
theorem dX7_init_80 : decode cX7_init 80 = .ok (.invokespecial 46, 3) := by decide +kernel
theorem dX7_init_83 : decode cX7_init 83 = .ok (.putfield 51, 3) := by decide +kernel
theorem dX7_init_86 : decode cX7_init 86 = .ok (.return_, 1) := by decide +kernel
theorem dX7_lay_0 : decode cX7_lay 0 = .ok (.aload_n 0, 1) := by decide +kernel
theorem dX7_lay_1 : decode cX7_lay 1 = .ok (.getfield 10, 3) := by decide +kernel
theorem dX7_lay_4 : decode cX7_lay 4 = .ok (.invokevirtual 54, 3) := by decide +kernel
theorem dX7_lay_7 : decode cX7_lay 7 = .ok (.ifCond .ne 13, 3) := by decide +kernel
theorem dX7_lay_10 : decode cX7_lay 10 = .ok (.new 58, 3) := by decide +kernel
theorem dX7_lay_13 : decode cX7_lay 13 = .ok (.dup, 1) := by decide +kernel
theorem dX7_lay_14 : decode cX7_lay 14 = .ok (.ldc 60, 2) := by decide +kernel
theorem dX7_lay_16 : decode cX7_lay 16 = .ok (.invokespecial 62, 3) := by decide +kernel
theorem dX7_lay_19 : decode cX7_lay 19 = .ok (.athrow, 1) := by decide +kernel
theorem dX7_lay_20 : decode cX7_lay 20 = .ok (.aload_n 0, 1) := by decide +kernel
theorem dX7_lay_21 : decode cX7_lay 21 = .ok (.getfield 19, 3) := by decide +kernel
theorem dX7_lay_24 : decode cX7_lay 24 = .ok (.invokevirtual 65, 3) := by decide +kernel
theorem dX7_lay_27 : decode cX7_lay 27 = .ok (.bipush 6, 2) := by decide +kernel
theorem dX7_lay_29 : decode cX7_lay 29 = .ok (.if_icmp .lt 13, 3) := by decide +kernel
theorem dX7_lay_32 : decode cX7_lay 32 = .ok (.new 69, 3) := by decide +kernel
theorem dX7_lay_35 : decode cX7_lay 35 = .ok (.dup, 1) := by decide +kernel
theorem dX7_lay_36 : decode cX7_lay 36 = .ok (.ldc 71, 2) := by decide +kernel
theorem dX7_lay_38 : decode cX7_lay 38 = .ok (.invokespecial 73, 3) := by decide +kernel
theorem dX7_lay_41 : decode cX7_lay 41 = .ok (.athrow, 1) := by decide +kernel
theorem dX7_lay_42 : decode cX7_lay 42 = .ok (.aload_n 0, 1) := by decide +kernel
theorem dX7_lay_43 : decode cX7_lay 43 = .ok (.getfield 10, 3) := by decide +kernel
theorem dX7_lay_46 : decode cX7_lay 46 = .ok (.aload_n 0, 1) := by decide +kernel
theorem dX7_lay_47 : decode cX7_lay 47 = .ok (.getfield 40, 3) := by decide +kernel
theorem dX7_lay_50 : decode cX7_lay 50 = .ok (.invokevirtual 74, 3) := by decide +kernel
theorem dX7_lay_53 : decode cX7_lay 53 = .ok (.invokevirtual 78, 3) := by decide +kernel
theorem dX7_lay_56 : decode cX7_lay 56 = .ok (.aload_n 0, 1) := by decide +kernel
theorem dX7_lay_57 : decode cX7_lay 57 = .ok (.getfield 40, 3) := by decide +kernel
theorem dX7_lay_60 : decode cX7_lay 60 = .ok (.invokevirtual 82, 3) := by decide +kernel
theorem dX7_lay_63 : decode cX7_lay 63 = .ok (.ifCond .eq 13, 3) := by decide +kernel
theorem dX7_lay_66 : decode cX7_lay 66 = .ok (.new 69, 3) := by decide +kernel
theorem dX7_lay_69 : decode cX7_lay 69 = .ok (.dup, 1) := by decide +kernel
theorem dX7_lay_70 : decode cX7_lay 70 = .ok (.ldc 85, 2) := by decide +kernel
theorem dX7_lay_72 : decode cX7_lay 72 = .ok (.invokespecial 73, 3) := by decide +kernel
theorem dX7_lay_75 : decode cX7_lay 75 = .ok (.athrow, 1) := by decide +kernel
theorem dX7_lay_76 : decode cX7_lay 76 = .ok (.aload_n 0, 1) := by decide +kernel
theorem dX7_lay_77 : decode cX7_lay 77 = .ok (.getfield 26, 3) := by decide +kernel
theorem dX7_lay_80 : decode cX7_lay 80 = .ok (.aload_n 0, 1) := by decide +kernel
theorem dX7_lay_81 : decode cX7_lay 81 = .ok (.getfield 19, 3) := by decide +kernel
theorem dX7_lay_84 : decode cX7_lay 84 = .ok (.invokevirtual 87, 3) := by decide +kernel
theorem dX7_lay_87 : decode cX7_lay 87 = .ok (.aload_n 0, 1) := by decide +kernel
theorem dX7_lay_88 : decode cX7_lay 88 = .ok (.getfield 19, 3) := by decide +kernel
theorem dX7_lay_91 : decode cX7_lay 91 = .ok (.aload_n 0, 1) := by decide +kernel
theorem dX7_lay_92 : decode cX7_lay 92 = .ok (.getfield 40, 3) := by decide +kernel
theorem dX7_lay_95 : decode cX7_lay 95 = .ok (.invokevirtual 91, 3) := by decide +kernel
theorem dX7_lay_98 : decode cX7_lay 98 = .ok (.aload_n 0, 1) := by decide +kernel
theorem dX7_lay_99 : decode cX7_lay 99 = .ok (.getfield 10, 3) := by decide +kernel
theorem dX7_lay_102 : decode cX7_lay 102 = .ok (.invokevirtual 95, 3) := by decide +kernel
theorem dX7_lay_105 : decode cX7_lay 105 = .ok (.aload_n 0, 1) := by decide +kernel
theorem dX7_lay_106 : decode cX7_lay 106 = .ok (.getfield 19, 3) := by decide +kernel
theorem dX7_lay_109 : decode cX7_lay 109 = .ok (.invokevirtual 65, 3) := by decide +kernel
theorem dX7_lay_112 : decode cX7_lay 112 = .ok (.iconst 1, 1) := by decide +kernel
theorem dX7_lay_113 : decode cX7_lay 113 = .ok (.isub, 1) := by decide +kernel
theorem dX7_lay_114 : decode cX7_lay 114 = .ok (.ireturn, 1) := by decide +kernel
theorem dX7_bake_0 : decode cX7_bake 0 = .ok (.aload_n 0, 1) := by decide +kernel
theorem dX7_bake_1 : decode cX7_bake 1 = .ok (.iload_n 1, 1) := by decide +kernel
theorem dX7_bake_2 : decode cX7_bake 2 = .ok (.invokevirtual 98, 3) := by decide +kernel
theorem dX7_bake_5 : decode cX7_bake 5 = .ok (.aload_n 0, 1) := by decide +kernel
theorem dX7_bake_6 : decode cX7_bake 6 = .ok (.getfield 19, 3) := by decide +kernel
theorem dX7_bake_9 : decode cX7_bake 9 = .ok (.iload_n 1, 1) := by decide +kernel
theorem dX7_bake_10 : decode cX7_bake 10 = .ok (.invokevirtual 102, 3) := by decide +kernel
theorem dX7_bake_13 : decode cX7_bake 13 = .ok (.invokevirtual 74, 3) := by decide +kernel
theorem dX7_bake_16 : decode cX7_bake 16 = .ok (.invokevirtual 106, 3) := by decide +kernel
theorem dX7_bake_19 : decode cX7_bake 19 = .ok (.istore_n 2, 1) := by decide +kernel
theorem dX7_bake_20 : decode cX7_bake 20 = .ok (.aload_n 0, 1) := by decide +kernel
theorem dX7_bake_21 : decode cX7_bake 21 = .ok (.getfield 26, 3) := by decide +kernel
theorem dX7_bake_24 : decode cX7_bake 24 = .ok (.aload_n 0, 1) := by decide +kernel
theorem dX7_bake_25 : decode cX7_bake 25 = .ok (.getfield 19, 3) := by decide +kernel
theorem dX7_bake_28 : decode cX7_bake 28 = .ok (.invokevirtual 87, 3) := by decide +kernel
theorem dX7_bake_31 : decode cX7_bake 31 = .ok (.aload_n 0, 1) := by decide +kernel
theorem dX7_bake_32 : decode cX7_bake 32 = .ok (.getfield 19, 3) := by decide +kernel
theorem dX7_bake_35 : decode cX7_bake 35 = .ok (.iload_n 1, 1) := by decide +kernel
theorem dX7_bake_36 : decode cX7_bake 36 = .ok (.invokevirtual 107, 3) := by decide +kernel
theorem dX7_bake_39 : decode cX7_bake 39 = .ok (.iload_n 2, 1) := by decide +kernel
theorem dX7_bake_40 : decode cX7_bake 40 = .ok (.ireturn, 1) := by decide +kernel
theorem dX7_cross_0 : decode cX7_cross 0 = .ok (.aload_n 0, 1) := by decide +kernel
theorem dX7_cross_1 : decode cX7_cross 1 = .ok (.iload_n 1, 1) := by decide +kernel
theorem dX7_cross_2 : decode cX7_cross 2 = .ok (.iload_n 2, 1) := by decide +kernel
theorem dX7_cross_3 : decode cX7_cross 3 = .ok (.invokevirtual 110, 3) := by decide +kernel
theorem dX7_cross_6 : decode cX7_cross 6 = .ok (.aload_n 0, 1) := by decide +kernel
theorem dX7_cross_7 : decode cX7_cross 7 = .ok (.iload_n 1, 1) := by decide +kernel
theorem dX7_cross_8 : decode cX7_cross 8 = .ok (.iload_n 2, 1) := by decide +kernel
theorem dX7_cross_9 : decode cX7_cross 9 = .ok (.iload_n 3, 1) := by decide +kernel
theorem dX7_cross_10 : decode cX7_cross 10 = .ok (.invokevirtual 114, 3) := by decide +kernel
theorem dX7_cross_13 : decode cX7_cross 13 = .ok (.invokestatic 118, 3) := by decide +kernel
theorem dX7_cross_16 : decode cX7_cross 16 = .ok (.aload_n 0, 1) := by decide +kernel
theorem dX7_cross_17 : decode cX7_cross 17 = .ok (.getfield 26, 3) := by decide +kernel
theorem dX7_cross_20 : decode cX7_cross 20 = .ok (.aload_n 0, 1) := by decide +kernel
theorem dX7_cross_21 : decode cX7_cross 21 = .ok (.getfield 19, 3) := by decide +kernel
theorem dX7_cross_24 : decode cX7_cross 24 = .ok (.invokevirtual 87, 3) := by decide +kernel
theorem dX7_cross_27 : decode cX7_cross 27 = .ok (.aload_n 0, 1) := by decide +kernel
theorem dX7_cross_28 : decode cX7_cross 28 = .ok (.getfield 19, 3) := by decide +kernel
theorem dX7_cross_31 : decode cX7_cross 31 = .ok (.iload_n 1, 1) := by decide +kernel
theorem dX7_cross_32 : decode cX7_cross 32 = .ok (.invokevirtual 102, 3) := by decide +kernel
theorem dX7_cross_35 : decode cX7_cross 35 = .ok (.aload_n 0, 1) := by decide +kernel
theorem dX7_cross_36 : decode cX7_cross 36 = .ok (.getfield 40, 3) := by decide +kernel
theorem dX7_cross_39 : decode cX7_cross 39 = .ok (.invokevirtual 121, 3) := by decide +kernel
theorem dX7_cross_42 : decode cX7_cross 42 = .ok (.aload_n 0, 1) := by decide +kernel
theorem dX7_cross_43 : decode cX7_cross 43 = .ok (.getfield 40, 3) := by decide +kernel
theorem dX7_cross_46 : decode cX7_cross 46 = .ok (.invokevirtual 124, 3) := by decide +kernel
theorem dX7_cross_49 : decode cX7_cross 49 = .ok (.aload_n 0, 1) := by decide +kernel
theorem dX7_cross_50 : decode cX7_cross 50 = .ok (.getfield 40, 3) := by decide +kernel
theorem dX7_cross_53 : decode cX7_cross 53 = .ok (.invokevirtual 74, 3) := by decide +kernel
theorem dX7_cross_56 : decode cX7_cross 56 = .ok (.invokevirtual 106, 3) := by decide +kernel
theorem dX7_cross_59 : decode cX7_cross 59 = .ok (.iconst 1, 1) := by decide +kernel
theorem dX7_cross_60 : decode cX7_cross 60 = .ok (.isub, 1) := by decide +kernel
theorem dX7_cross_61 : decode cX7_cross 61 = .ok (.invokevirtual 128, 3) := by decide +kernel
theorem dX7_cross_64 : decode cX7_cross 64 = .ok (.ireturn, 1) := by decide +kernel
theorem dX7_back_0 : decode cX7_back 0 = .ok (.aload_n 0, 1) := by decide +kernel
theorem dX7_back_1 : decode cX7_back 1 = .ok (.iload_n 1, 1) := by decide +kernel
theorem dX7_back_2 : decode cX7_back 2 = .ok (.invokevirtual 98, 3) := by decide +kernel
theorem dX7_back_5 : decode cX7_back 5 = .ok (.aload_n 0, 1) := by decide +kernel
theorem dX7_back_6 : decode cX7_back 6 = .ok (.iload_n 1, 1) := by decide +kernel
theorem dX7_back_7 : decode cX7_back 7 = .ok (.invokevirtual 134, 3) := by decide +kernel
theorem dX7_back_10 : decode cX7_back 10 = .ok (.invokestatic 118, 3) := by decide +kernel
theorem dX7_back_13 : decode cX7_back 13 = .ok (.aload_n 0, 1) := by decide +kernel
theorem dX7_back_14 : decode cX7_back 14 = .ok (.getfield 26, 3) := by decide +kernel
theorem dX7_back_17 : decode cX7_back 17 = .ok (.aload_n 0, 1) := by decide +kernel
theorem dX7_back_18 : decode cX7_back 18 = .ok (.getfield 19, 3) := by decide +kernel
theorem dX7_back_21 : decode cX7_back 21 = .ok (.invokevirtual 87, 3) := by decide +kernel
theorem dX7_back_24 : decode cX7_back 24 = .ok (.aload_n 0, 1) := by decide +kernel
theorem dX7_back_25 : decode cX7_back 25 = .ok (.getfield 19, 3) := by decide +kernel
theorem dX7_back_28 : decode cX7_back 28 = .ok (.iload_n 1, 1) := by decide +kernel
theorem dX7_back_29 : decode cX7_back 29 = .ok (.invokevirtual 102, 3) := by decide +kernel
theorem dX7_back_32 : decode cX7_back 32 = .ok (.aload_n 0, 1) := by decide +kernel
theorem dX7_back_33 : decode cX7_back 33 = .ok (.getfield 40, 3) := by decide +kernel
theorem dX7_back_36 : decode cX7_back 36 = .ok (.invokevirtual 121, 3) := by decide +kernel
theorem dX7_back_39 : decode cX7_back 39 = .ok (.aload_n 0, 1) := by decide +kernel
theorem dX7_back_40 : decode cX7_back 40 = .ok (.getfield 40, 3) := by decide +kernel
theorem dX7_back_43 : decode cX7_back 43 = .ok (.invokevirtual 74, 3) := by decide +kernel
theorem dX7_back_46 : decode cX7_back 46 = .ok (.invokevirtual 106, 3) := by decide +kernel
theorem dX7_back_49 : decode cX7_back 49 = .ok (.ireturn, 1) := by decide +kernel
theorem dX7_change_0 : decode cX7_change 0 = .ok (.aload_n 0, 1) := by decide +kernel
theorem dX7_change_1 : decode cX7_change 1 = .ok (.iload_n 1, 1) := by decide +kernel
theorem dX7_change_2 : decode cX7_change 2 = .ok (.invokevirtual 98, 3) := by decide +kernel
theorem dX7_change_5 : decode cX7_change 5 = .ok (.iload_n 2, 1) := by decide +kernel
theorem dX7_change_6 : decode cX7_change 6 = .ok (.iconst 3, 1) := by decide +kernel
theorem dX7_change_7 : decode cX7_change 7 = .ok (.invokestatic 137, 3) := by decide +kernel
theorem dX7_change_10 : decode cX7_change 10 = .ok (.aload_n 0, 1) := by decide +kernel
theorem dX7_change_11 : decode cX7_change 11 = .ok (.iload_n 1, 1) := by decide +kernel
theorem dX7_change_12 : decode cX7_change 12 = .ok (.iload_n 2, 1) := by decide +kernel
theorem dX7_change_13 : decode cX7_change 13 = .ok (.invokevirtual 140, 3) := by decide +kernel
theorem dX7_change_16 : decode cX7_change 16 = .ok (.invokestatic 118, 3) := by decide +kernel
theorem dX7_change_19 : decode cX7_change 19 = .ok (.aload_n 0, 1) := by decide +kernel
theorem dX7_change_20 : decode cX7_change 20 = .ok (.getfield 26, 3) := by decide +kernel
theorem dX7_change_23 : decode cX7_change 23 = .ok (.aload_n 0, 1) := by decide +kernel
theorem dX7_change_24 : decode cX7_change 24 = .ok (.getfield 19, 3) := by decide +kernel
theorem dX7_change_27 : decode cX7_change 27 = .ok (.invokevirtual 87, 3) := by decide +kernel
theorem dX7_change_30 : decode cX7_change 30 = .ok (.aload_n 0, 1) := by decide +kernel
theorem dX7_change_31 : decode cX7_change 31 = .ok (.getfield 19, 3) := by decide +kernel
theorem dX7_change_34 : decode cX7_change 34 = .ok (.iload_n 1, 1) := by decide +kernel
theorem dX7_change_35 : decode cX7_change 35 = .ok (.invokevirtual 102, 3) := by decide +kernel
theorem dX7_change_38 : decode cX7_change 38 = .ok (.aload_n 0, 1) := by decide +kernel
theorem dX7_change_39 : decode cX7_change 39 = .ok (.getfield 40, 3) := by decide +kernel
theorem dX7_change_42 : decode cX7_change 42 = .ok (.invokevirtual 121, 3) := by decide +kernel
theorem dX7_change_45 : decode cX7_change 45 = .ok (.aload_n 0, 1) := by decide +kernel
theorem dX7_change_46 : decode cX7_change 46 = .ok (.getfield 19, 3) := by decide +kernel
theorem dX7_change_49 : decode cX7_change 49 = .ok (.invokevirtual 144, 3) := by decide +kernel
theorem dX7_change_52 : decode cX7_change 52 = .ok (.aload_n 0, 1) := by decide +kernel
theorem dX7_change_53 : decode cX7_change 53 = .ok (.getfield 40, 3) := by decide +kernel
theorem dX7_change_56 : decode cX7_change 56 = .ok (.invokevirtual 74, 3) := by decide +kernel
theorem dX7_change_59 : decode cX7_change 59 = .ok (.invokevirtual 106, 3) := by decide +kernel
theorem dX7_change_62 : decode cX7_change 62 = .ok (.ireturn, 1) := by decide +kernel
theorem dX7_join_0 : decode cX7_join 0 = .ok (.aload_n 0, 1) := by decide +kernel
theorem dX7_join_1 : decode cX7_join 1 = .ok (.iload_n 1, 1) := by decide +kernel
theorem dX7_join_2 : decode cX7_join 2 = .ok (.invokevirtual 98, 3) := by decide +kernel
theorem dX7_join_5 : decode cX7_join 5 = .ok (.aload_n 0, 1) := by decide +kernel
theorem dX7_join_6 : decode cX7_join 6 = .ok (.iload_n 2, 1) := by decide +kernel
theorem dX7_join_7 : decode cX7_join 7 = .ok (.invokevirtual 98, 3) := by decide +kernel
theorem dX7_join_10 : decode cX7_join 10 = .ok (.aload_n 0, 1) := by decide +kernel
theorem dX7_join_11 : decode cX7_join 11 = .ok (.iload_n 1, 1) := by decide +kernel
theorem dX7_join_12 : decode cX7_join 12 = .ok (.iload_n 2, 1) := by decide +kernel
theorem dX7_join_13 : decode cX7_join 13 = .ok (.invokevirtual 147, 3) := by decide +kernel
theorem dX7_join_16 : decode cX7_join 16 = .ok (.invokestatic 118, 3) := by decide +kernel
theorem dX7_join_19 : decode cX7_join 19 = .ok (.aload_n 0, 1) := by decide +kernel
theorem dX7_join_20 : decode cX7_join 20 = .ok (.getfield 26, 3) := by decide +kernel
theorem dX7_join_23 : decode cX7_join 23 = .ok (.aload_n 0, 1) := by decide +kernel
theorem dX7_join_24 : decode cX7_join 24 = .ok (.getfield 19, 3) := by decide +kernel
theorem dX7_join_27 : decode cX7_join 27 = .ok (.invokevirtual 87, 3) := by decide +kernel
theorem dX7_join_30 : decode cX7_join 30 = .ok (.aload_n 0, 1) := by decide +kernel
theorem dX7_join_31 : decode cX7_join 31 = .ok (.getfield 19, 3) := by decide +kernel
theorem dX7_join_34 : decode cX7_join 34 = .ok (.iload_n 1, 1) := by decide +kernel
theorem dX7_join_35 : decode cX7_join 35 = .ok (.invokevirtual 102, 3) := by decide +kernel
theorem dX7_join_38 : decode cX7_join 38 = .ok (.aload_n 0, 1) := by decide +kernel
theorem dX7_join_39 : decode cX7_join 39 = .ok (.getfield 40, 3) := by decide +kernel
theorem dX7_join_42 : decode cX7_join 42 = .ok (.invokevirtual 121, 3) := by decide +kernel
theorem dX7_join_45 : decode cX7_join 45 = .ok (.aload_n 0, 1) := by decide +kernel
theorem dX7_join_46 : decode cX7_join 46 = .ok (.getfield 40, 3) := by decide +kernel
theorem dX7_join_49 : decode cX7_join 49 = .ok (.invokevirtual 74, 3) := by decide +kernel
theorem dX7_join_52 : decode cX7_join 52 = .ok (.invokevirtual 106, 3) := by decide +kernel
theorem dX7_join_55 : decode cX7_join 55 = .ok (.ireturn, 1) := by decide +kernel
theorem dX7_append_0 : decode cX7_append 0 = .ok (.iload_n 1, 1) := by decide +kernel
theorem dX7_append_1 : decode cX7_append 1 = .ok (.bipush 33, 2) := by decide +kernel
theorem dX7_append_3 : decode cX7_append 3 = .ok (.if_icmp .lt 9, 3) := by decide +kernel
theorem dX7_append_6 : decode cX7_append 6 = .ok (.iload_n 1, 1) := by decide +kernel
theorem dX7_append_7 : decode cX7_append 7 = .ok (.bipush 126, 2) := by decide +kernel
theorem dX7_append_9 : decode cX7_append 9 = .ok (.if_icmp .le 13, 3) := by decide +kernel
theorem dX7_append_12 : decode cX7_append 12 = .ok (.new 58, 3) := by decide +kernel
theorem dX7_append_15 : decode cX7_append 15 = .ok (.dup, 1) := by decide +kernel
theorem dX7_append_16 : decode cX7_append 16 = .ok (.ldc 150, 2) := by decide +kernel
theorem dX7_append_18 : decode cX7_append 18 = .ok (.invokespecial 62, 3) := by decide +kernel
theorem dX7_append_21 : decode cX7_append 21 = .ok (.athrow, 1) := by decide +kernel
theorem dX7_append_22 : decode cX7_append 22 = .ok (.aload_n 0, 1) := by decide +kernel
theorem dX7_append_23 : decode cX7_append 23 = .ok (.getfield 10, 3) := by decide +kernel
theorem dX7_append_26 : decode cX7_append 26 = .ok (.invokevirtual 152, 3) := by decide +kernel
theorem dX7_append_29 : decode cX7_append 29 = .ok (.bipush 60, 2) := by decide +kernel
theorem dX7_append_31 : decode cX7_append 31 = .ok (.if_icmp .lt 13, 3) := by decide +kernel
theorem dX7_append_34 : decode cX7_append 34 = .ok (.new 69, 3) := by decide +kernel
theorem dX7_append_37 : decode cX7_append 37 = .ok (.dup, 1) := by decide +kernel
theorem dX7_append_38 : decode cX7_append 38 = .ok (.ldc 153, 2) := by decide +kernel
theorem dX7_append_40 : decode cX7_append 40 = .ok (.invokespecial 73, 3) := by decide +kernel
theorem dX7_append_43 : decode cX7_append 43 = .ok (.athrow, 1) := by decide +kernel
theorem dX7_append_44 : decode cX7_append 44 = .ok (.aload_n 0, 1) := by decide +kernel
theorem dX7_append_45 : decode cX7_append 45 = .ok (.getfield 10, 3) := by decide +kernel
theorem dX7_append_48 : decode cX7_append 48 = .ok (.iload_n 1, 1) := by decide +kernel
theorem dX7_append_49 : decode cX7_append 49 = .ok (.invokevirtual 155, 3) := by decide +kernel
theorem dX7_append_52 : decode cX7_append 52 = .ok (.aload_n 0, 1) := by decide +kernel
theorem dX7_append_53 : decode cX7_append 53 = .ok (.getfield 10, 3) := by decide +kernel
theorem dX7_append_56 : decode cX7_append 56 = .ok (.invokevirtual 152, 3) := by decide +kernel
theorem dX7_append_59 : decode cX7_append 59 = .ok (.ireturn, 1) := by decide +kernel
theorem dX7_clearBuffer_0 : decode cX7_clearBuffer 0 = .ok (.aload_n 0, 1) := by decide +kernel
theorem dX7_clearBuffer_1 : decode cX7_clearBuffer 1 = .ok (.getfield 10, 3) := by decide +kernel
theorem dX7_clearBuffer_4 : decode cX7_clearBuffer 4 = .ok (.invokevirtual 152, 3) := by decide +kernel
theorem dX7_clearBuffer_7 : decode cX7_clearBuffer 7 = .ok (.istore_n 1, 1) := by decide +kernel
theorem dX7_clearBuffer_8 : decode cX7_clearBuffer 8 = .ok (.aload_n 0, 1) := by decide +kernel
theorem dX7_clearBuffer_9 : decode cX7_clearBuffer 9 = .ok (.getfield 10, 3) := by decide +kernel
theorem dX7_clearBuffer_12 : decode cX7_clearBuffer 12 = .ok (.invokevirtual 95, 3) := by decide +kernel
theorem dX7_clearBuffer_15 : decode cX7_clearBuffer 15 = .ok (.iload_n 1, 1) := by decide +kernel
theorem dX7_clearBuffer_16 : decode cX7_clearBuffer 16 = .ok (.ireturn, 1) := by decide +kernel
theorem dX7_firstError_0 : decode cX7_firstError 0 = .ok (.iload_n 1, 1) := by decide +kernel
theorem dX7_firstError_1 : decode cX7_firstError 1 = .ok (.ifCond .eq 13, 3) := by decide +kernel
theorem dX7_firstError_4 : decode cX7_firstError 4 = .ok (.aload_n 0, 1) := by decide +kernel
theorem dX7_firstError_5 : decode cX7_firstError 5 = .ok (.getfield 10, 3) := by decide +kernel
theorem dX7_firstError_8 : decode cX7_firstError 8 = .ok (.invokevirtual 158, 3) := by decide +kernel
theorem dX7_firstError_11 : decode cX7_firstError 11 = .ok (.goto 10, 3) := by decide +kernel
theorem dX7_firstError_14 : decode cX7_firstError 14 = .ok (.aload_n 0, 1) := by decide +kernel
theorem dX7_firstError_15 : decode cX7_firstError 15 = .ok (.getfield 10, 3) := by decide +kernel
theorem dX7_firstError_18 : decode cX7_firstError 18 = .ok (.invokevirtual 161, 3) := by decide +kernel
theorem dX7_firstError_21 : decode cX7_firstError 21 = .ok (.ireturn, 1) := by decide +kernel
theorem dX7_work_0 : decode cX7_work 0 = .ok (.aload_n 0, 1) := by decide +kernel
theorem dX7_work_1 : decode cX7_work 1 = .ok (.getfield 10, 3) := by decide +kernel
theorem dX7_work_4 : decode cX7_work 4 = .ok (.invokevirtual 164, 3) := by decide +kernel
theorem dX7_work_7 : decode cX7_work 7 = .ok (.ifCond .ne 13, 3) := by decide +kernel
theorem dX7_work_10 : decode cX7_work 10 = .ok (.new 58, 3) := by decide +kernel
theorem dX7_work_13 : decode cX7_work 13 = .ok (.dup, 1) := by decide +kernel
theorem dX7_work_14 : decode cX7_work 14 = .ok (.ldc 167, 2) := by decide +kernel
theorem dX7_work_16 : decode cX7_work 16 = .ok (.invokespecial 62, 3) := by decide +kernel
theorem dX7_work_19 : decode cX7_work 19 = .ok (.athrow, 1) := by decide +kernel
theorem dX7_work_20 : decode cX7_work 20 = .ok (.aload_n 0, 1) := by decide +kernel
theorem dX7_work_21 : decode cX7_work 21 = .ok (.getfield 26, 3) := by decide +kernel
theorem dX7_work_24 : decode cX7_work 24 = .ok (.aload_n 0, 1) := by decide +kernel
theorem dX7_work_25 : decode cX7_work 25 = .ok (.getfield 19, 3) := by decide +kernel
theorem dX7_work_28 : decode cX7_work 28 = .ok (.invokevirtual 87, 3) := by decide +kernel
theorem dX7_work_31 : decode cX7_work 31 = .ok (.iconst 0, 1) := by decide +kernel
theorem dX7_work_32 : decode cX7_work 32 = .ok (.istore_n 1, 1) := by decide +kernel
theorem dX7_work_33 : decode cX7_work 33 = .ok (.iconst 0, 1) := by decide +kernel
theorem dX7_work_34 : decode cX7_work 34 = .ok (.istore_n 2, 1) := by decide +kernel
theorem dX7_work_35 : decode cX7_work 35 = .ok (.iconst 0, 1) := by decide +kernel
theorem dX7_work_36 : decode cX7_work 36 = .ok (.istore_n 3, 1) := by decide +kernel
theorem dX7_work_37 : decode cX7_work 37 = .ok (.iconst 0, 1) := by decide +kernel
theorem dX7_work_38 : decode cX7_work 38 = .ok (.istore 4, 2) := by decide +kernel
theorem dX7_work_40 : decode cX7_work 40 = .ok (.iload 4, 2) := by decide +kernel
theorem dX7_work_42 : decode cX7_work 42 = .ok (.aload_n 0, 1) := by decide +kernel
theorem dX7_work_43 : decode cX7_work 43 = .ok (.getfield 10, 3) := by decide +kernel
theorem dX7_work_46 : decode cX7_work 46 = .ok (.invokevirtual 169, 3) := by decide +kernel
theorem dX7_work_49 : decode cX7_work 49 = .ok (.if_icmp .ge 44, 3) := by decide +kernel
theorem dX7_work_52 : decode cX7_work 52 = .ok (.iload_n 2, 1) := by decide +kernel
theorem dX7_work_53 : decode cX7_work 53 = .ok (.ifCond .ne 40, 3) := by decide +kernel
theorem dX7_work_56 : decode cX7_work 56 = .ok (.aload_n 0, 1) := by decide +kernel
theorem dX7_work_57 : decode cX7_work 57 = .ok (.iload_n 3, 1) := by decide +kernel
theorem dX7_work_58 : decode cX7_work 58 = .ok (.invokevirtual 172, 3) := by decide +kernel
theorem dX7_work_61 : decode cX7_work 61 = .ok (.istore_n 2, 1) := by decide +kernel
theorem dX7_work_62 : decode cX7_work 62 = .ok (.iload_n 2, 1) := by decide +kernel
theorem dX7_work_63 : decode cX7_work 63 = .ok (.ifCond .ne 11, 3) := by decide +kernel
theorem dX7_work_66 : decode cX7_work 66 = .ok (.aload_n 0, 1) := by decide +kernel
theorem dX7_work_67 : decode cX7_work 67 = .ok (.iload_n 3, 1) := by decide +kernel
theorem dX7_work_68 : decode cX7_work 68 = .ok (.invokevirtual 175, 3) := by decide +kernel
theorem dX7_work_71 : decode cX7_work 71 = .ok (.iinc 1 1, 3) := by decide +kernel
theorem dX7_work_74 : decode cX7_work 74 = .ok (.iload_n 3, 1) := by decide +kernel
theorem dX7_work_75 : decode cX7_work 75 = .ok (.aload_n 0, 1) := by decide +kernel
theorem dX7_work_76 : decode cX7_work 76 = .ok (.getfield 10, 3) := by decide +kernel
theorem dX7_work_79 : decode cX7_work 79 = .ok (.iload_n 3, 1) := by decide +kernel
theorem dX7_work_80 : decode cX7_work 80 = .ok (.invokevirtual 178, 3) := by decide +kernel
theorem dX7_work_83 : decode cX7_work 83 = .ok (.iconst 1, 1) := by decide +kernel
theorem dX7_work_84 : decode cX7_work 84 = .ok (.iadd, 1) := by decide +kernel
theorem dX7_work_85 : decode cX7_work 85 = .ok (.iadd, 1) := by decide +kernel
theorem dX7_work_86 : decode cX7_work 86 = .ok (.istore_n 3, 1) := by decide +kernel
theorem dX7_work_87 : decode cX7_work 87 = .ok (.iinc 4 1, 3) := by decide +kernel
theorem dX7_work_90 : decode cX7_work 90 = .ok (.goto (-50), 3) := by decide +kernel
theorem dX7_work_93 : decode cX7_work 93 = .ok (.aload_n 0, 1) := by decide +kernel
theorem dX7_work_94 : decode cX7_work 94 = .ok (.getfield 19, 3) := by decide +kernel
theorem dX7_work_97 : decode cX7_work 97 = .ok (.iload_n 2, 1) := by decide +kernel
theorem dX7_work_98 : decode cX7_work 98 = .ok (.ifCond .ne 7, 3) := by decide +kernel
theorem dX7_work_101 : decode cX7_work 101 = .ok (.iconst (-1), 1) := by decide +kernel
theorem dX7_work_102 : decode cX7_work 102 = .ok (.goto 4, 3) := by decide +kernel
theorem dX7_work_105 : decode cX7_work 105 = .ok (.iload_n 1, 1) := by decide +kernel
theorem dX7_work_106 : decode cX7_work 106 = .ok (.iload_n 2, 1) := by decide +kernel
theorem dX7_work_107 : decode cX7_work 107 = .ok (.ifCond .ne 7, 3) := by decide +kernel
theorem dX7_work_110 : decode cX7_work 110 = .ok (.iconst (-1), 1) := by decide +kernel
theorem dX7_work_111 : decode cX7_work 111 = .ok (.goto 4, 3) := by decide +kernel
theorem dX7_work_114 : decode cX7_work 114 = .ok (.iload_n 2, 1) := by decide +kernel
theorem dX7_work_115 : decode cX7_work 115 = .ok (.invokevirtual 181, 3) := by decide +kernel
theorem dX7_work_118 : decode cX7_work 118 = .ok (.aload_n 0, 1) := by decide +kernel
theorem dX7_work_119 : decode cX7_work 119 = .ok (.getfield 10, 3) := by decide +kernel
theorem dX7_work_122 : decode cX7_work 122 = .ok (.invokevirtual 95, 3) := by decide +kernel
theorem dX7_work_125 : decode cX7_work 125 = .ok (.iload_n 1, 1) := by decide +kernel
theorem dX7_work_126 : decode cX7_work 126 = .ok (.ireturn, 1) := by decide +kernel
theorem dX7_stopped_0 : decode cX7_stopped 0 = .ok (.iload_n 1, 1) := by decide +kernel
theorem dX7_stopped_1 : decode cX7_stopped 1 = .ok (.iconst 1, 1) := by decide +kernel
theorem dX7_stopped_2 : decode cX7_stopped 2 = .ok (.invokestatic 137, 3) := by decide +kernel
theorem dX7_stopped_5 : decode cX7_stopped 5 = .ok (.iload_n 1, 1) := by decide +kernel
theorem dX7_stopped_6 : decode cX7_stopped 6 = .ok (.ifCond .ne 13, 3) := by decide +kernel
theorem dX7_stopped_9 : decode cX7_stopped 9 = .ok (.aload_n 0, 1) := by decide +kernel
theorem dX7_stopped_10 : decode cX7_stopped 10 = .ok (.getfield 19, 3) := by decide +kernel
theorem dX7_stopped_13 : decode cX7_stopped 13 = .ok (.invokevirtual 184, 3) := by decide +kernel
theorem dX7_stopped_16 : decode cX7_stopped 16 = .ok (.goto 10, 3) := by decide +kernel
theorem dX7_stopped_19 : decode cX7_stopped 19 = .ok (.aload_n 0, 1) := by decide +kernel
theorem dX7_stopped_20 : decode cX7_stopped 20 = .ok (.getfield 19, 3) := by decide +kernel
theorem dX7_stopped_23 : decode cX7_stopped 23 = .ok (.invokevirtual 187, 3) := by decide +kernel
theorem dX7_stopped_26 : decode cX7_stopped 26 = .ok (.ireturn, 1) := by decide +kernel
theorem dX7_undo_0 : decode cX7_undo 0 = .ok (.aload_n 0, 1) := by decide +kernel
theorem dX7_undo_1 : decode cX7_undo 1 = .ok (.getfield 26, 3) := by decide +kernel
theorem dX7_undo_4 : decode cX7_undo 4 = .ok (.invokevirtual 190, 3) := by decide +kernel
theorem dX7_undo_7 : decode cX7_undo 7 = .ok (.ifCond .ne 13, 3) := by decide +kernel
theorem dX7_undo_10 : decode cX7_undo 10 = .ok (.new 69, 3) := by decide +kernel
theorem dX7_undo_13 : decode cX7_undo 13 = .ok (.dup, 1) := by decide +kernel
theorem dX7_undo_14 : decode cX7_undo 14 = .ok (.ldc 191, 2) := by decide +kernel
theorem dX7_undo_16 : decode cX7_undo 16 = .ok (.invokespecial 73, 3) := by decide +kernel
theorem dX7_undo_19 : decode cX7_undo 19 = .ok (.athrow, 1) := by decide +kernel
theorem dX7_undo_20 : decode cX7_undo 20 = .ok (.aload_n 0, 1) := by decide +kernel
theorem dX7_undo_21 : decode cX7_undo 21 = .ok (.getfield 26, 3) := by decide +kernel
theorem dX7_undo_24 : decode cX7_undo 24 = .ok (.aload_n 0, 1) := by decide +kernel
theorem dX7_undo_25 : decode cX7_undo 25 = .ok (.getfield 19, 3) := by decide +kernel
theorem dX7_undo_28 : decode cX7_undo 28 = .ok (.invokevirtual 193, 3) := by decide +kernel
theorem dX7_undo_31 : decode cX7_undo 31 = .ok (.aload_n 0, 1) := by decide +kernel
theorem dX7_undo_32 : decode cX7_undo 32 = .ok (.getfield 26, 3) := by decide +kernel
theorem dX7_undo_35 : decode cX7_undo 35 = .ok (.invokevirtual 190, 3) := by decide +kernel
theorem dX7_undo_38 : decode cX7_undo 38 = .ok (.ireturn, 1) := by decide +kernel
theorem dX7_keep_0 : decode cX7_keep 0 = .ok (.aload_n 0, 1) := by decide +kernel
theorem dX7_keep_1 : decode cX7_keep 1 = .ok (.getfield 30, 3) := by decide +kernel
theorem dX7_keep_4 : decode cX7_keep 4 = .ok (.aload_n 0, 1) := by decide +kernel
theorem dX7_keep_5 : decode cX7_keep 5 = .ok (.getfield 19, 3) := by decide +kernel
theorem dX7_keep_8 : decode cX7_keep 8 = .ok (.invokevirtual 196, 3) := by decide +kernel
theorem dX7_keep_11 : decode cX7_keep 11 = .ok (.aload_n 0, 1) := by decide +kernel
theorem dX7_keep_12 : decode cX7_keep 12 = .ok (.iconst 1, 1) := by decide +kernel
theorem dX7_keep_13 : decode cX7_keep 13 = .ok (.putfield 33, 3) := by decide +kernel
theorem dX7_keep_16 : decode cX7_keep 16 = .ok (.aload_n 0, 1) := by decide +kernel
theorem dX7_keep_17 : decode cX7_keep 17 = .ok (.getfield 19, 3) := by decide +kernel
theorem dX7_keep_20 : decode cX7_keep 20 = .ok (.invokevirtual 65, 3) := by decide +kernel
theorem dX7_keep_23 : decode cX7_keep 23 = .ok (.ireturn, 1) := by decide +kernel
theorem dX7_restore_0 : decode cX7_restore 0 = .ok (.aload_n 0, 1) := by decide +kernel
theorem dX7_restore_1 : decode cX7_restore 1 = .ok (.getfield 33, 3) := by decide +kernel
theorem dX7_restore_4 : decode cX7_restore 4 = .ok (.ifCond .ne 13, 3) := by decide +kernel
theorem dX7_restore_7 : decode cX7_restore 7 = .ok (.new 69, 3) := by decide +kernel
theorem dX7_restore_10 : decode cX7_restore 10 = .ok (.dup, 1) := by decide +kernel
theorem dX7_restore_11 : decode cX7_restore 11 = .ok (.ldc 198, 2) := by decide +kernel
theorem dX7_restore_13 : decode cX7_restore 13 = .ok (.invokespecial 73, 3) := by decide +kernel
theorem dX7_restore_16 : decode cX7_restore 16 = .ok (.athrow, 1) := by decide +kernel
theorem dX7_restore_17 : decode cX7_restore 17 = .ok (.aload_n 0, 1) := by decide +kernel
theorem dX7_restore_18 : decode cX7_restore 18 = .ok (.getfield 26, 3) := by decide +kernel
theorem dX7_restore_21 : decode cX7_restore 21 = .ok (.aload_n 0, 1) := by decide +kernel
theorem dX7_restore_22 : decode cX7_restore 22 = .ok (.getfield 19, 3) := by decide +kernel
theorem dX7_restore_25 : decode cX7_restore 25 = .ok (.invokevirtual 87, 3) := by decide +kernel
theorem dX7_restore_28 : decode cX7_restore 28 = .ok (.aload_n 0, 1) := by decide +kernel
theorem dX7_restore_29 : decode cX7_restore 29 = .ok (.getfield 19, 3) := by decide +kernel
theorem dX7_restore_32 : decode cX7_restore 32 = .ok (.aload_n 0, 1) := by decide +kernel
theorem dX7_restore_33 : decode cX7_restore 33 = .ok (.getfield 30, 3) := by decide +kernel
theorem dX7_restore_36 : decode cX7_restore 36 = .ok (.invokevirtual 196, 3) := by decide +kernel
theorem dX7_restore_39 : decode cX7_restore 39 = .ok (.aload_n 0, 1) := by decide +kernel
theorem dX7_restore_40 : decode cX7_restore 40 = .ok (.getfield 19, 3) := by decide +kernel
theorem dX7_restore_43 : decode cX7_restore 43 = .ok (.invokevirtual 65, 3) := by decide +kernel
theorem dX7_restore_46 : decode cX7_restore 46 = .ok (.ireturn, 1) := by decide +kernel
theorem dX7_crossing_0 : decode cX7_crossing 0 = .ok (.aload_n 0, 1) := by decide +kernel
theorem dX7_crossing_1 : decode cX7_crossing 1 = .ok (.iload_n 1, 1) := by decide +kernel
theorem dX7_crossing_2 : decode cX7_crossing 2 = .ok (.invokevirtual 98, 3) := by decide +kernel
theorem dX7_crossing_5 : decode cX7_crossing 5 = .ok (.iload_n 2, 1) := by decide +kernel
theorem dX7_crossing_6 : decode cX7_crossing 6 = .ok (.bipush 23, 2) := by decide +kernel
theorem dX7_crossing_8 : decode cX7_crossing 8 = .ok (.invokestatic 137, 3) := by decide +kernel
theorem dX7_crossing_11 : decode cX7_crossing 11 = .ok (.iload_n 3, 1) := by decide +kernel
theorem dX7_crossing_12 : decode cX7_crossing 12 = .ok (.iconst 3, 1) := by decide +kernel
theorem dX7_crossing_13 : decode cX7_crossing 13 = .ok (.invokestatic 137, 3) := by decide +kernel
theorem dX7_crossing_16 : decode cX7_crossing 16 = .ok (.aload_n 0, 1) := by decide +kernel
theorem dX7_crossing_17 : decode cX7_crossing 17 = .ok (.getfield 19, 3) := by decide +kernel
theorem dX7_crossing_20 : decode cX7_crossing 20 = .ok (.iload_n 1, 1) := by decide +kernel
theorem dX7_crossing_21 : decode cX7_crossing 21 = .ok (.invokevirtual 102, 3) := by decide +kernel
theorem dX7_crossing_24 : decode cX7_crossing 24 = .ok (.iload_n 2, 1) := by decide +kernel
theorem dX7_crossing_25 : decode cX7_crossing 25 = .ok (.iload_n 3, 1) := by decide +kernel
theorem dX7_crossing_26 : decode cX7_crossing 26 = .ok (.invokevirtual 200, 3) := by decide +kernel
theorem dX7_crossing_29 : decode cX7_crossing 29 = .ok (.ireturn, 1) := by decide +kernel
theorem dX7_strand_0 : decode cX7_strand 0 = .ok (.aload_n 0, 1) := by decide +kernel
theorem dX7_strand_1 : decode cX7_strand 1 = .ok (.iload_n 1, 1) := by decide +kernel
theorem dX7_strand_2 : decode cX7_strand 2 = .ok (.invokevirtual 98, 3) := by decide +kernel
theorem dX7_strand_5 : decode cX7_strand 5 = .ok (.iload_n 2, 1) := by decide +kernel
theorem dX7_strand_6 : decode cX7_strand 6 = .ok (.bipush 6, 2) := by decide +kernel
theorem dX7_strand_8 : decode cX7_strand 8 = .ok (.invokestatic 137, 3) := by decide +kernel
theorem dX7_strand_11 : decode cX7_strand 11 = .ok (.iload_n 3, 1) := by decide +kernel
theorem dX7_strand_12 : decode cX7_strand 12 = .ok (.iconst 4, 1) := by decide +kernel
theorem dX7_strand_13 : decode cX7_strand 13 = .ok (.invokestatic 137, 3) := by decide +kernel
theorem dX7_strand_16 : decode cX7_strand 16 = .ok (.aload_n 0, 1) := by decide +kernel
theorem dX7_strand_17 : decode cX7_strand 17 = .ok (.getfield 19, 3) := by decide +kernel
theorem dX7_strand_20 : decode cX7_strand 20 = .ok (.iload_n 1, 1) := by decide +kernel
theorem dX7_strand_21 : decode cX7_strand 21 = .ok (.invokevirtual 102, 3) := by decide +kernel
theorem dX7_strand_24 : decode cX7_strand 24 = .ok (.invokevirtual 124, 3) := by decide +kernel
theorem dX7_strand_27 : decode cX7_strand 27 = .ok (.iload_n 2, 1) := by decide +kernel
theorem dX7_strand_28 : decode cX7_strand 28 = .ok (.iload_n 3, 1) := by decide +kernel
theorem dX7_strand_29 : decode cX7_strand 29 = .ok (.invokevirtual 203, 3) := by decide +kernel
theorem dX7_strand_32 : decode cX7_strand 32 = .ok (.ireturn, 1) := by decide +kernel
theorem dX7_loaf_0 : decode cX7_loaf 0 = .ok (.aload_n 0, 1) := by decide +kernel
theorem dX7_loaf_1 : decode cX7_loaf 1 = .ok (.iload_n 1, 1) := by decide +kernel
theorem dX7_loaf_2 : decode cX7_loaf 2 = .ok (.invokevirtual 98, 3) := by decide +kernel
theorem dX7_loaf_5 : decode cX7_loaf 5 = .ok (.iload_n 2, 1) := by decide +kernel
theorem dX7_loaf_6 : decode cX7_loaf 6 = .ok (.bipush 10, 2) := by decide +kernel
theorem dX7_loaf_8 : decode cX7_loaf 8 = .ok (.invokestatic 137, 3) := by decide +kernel
theorem dX7_loaf_11 : decode cX7_loaf 11 = .ok (.aload_n 0, 1) := by decide +kernel
theorem dX7_loaf_12 : decode cX7_loaf 12 = .ok (.iload_n 1, 1) := by decide +kernel
theorem dX7_loaf_13 : decode cX7_loaf 13 = .ok (.iload_n 2, 1) := by decide +kernel
theorem dX7_loaf_14 : decode cX7_loaf 14 = .ok (.invokevirtual 206, 3) := by decide +kernel
theorem dX7_loaf_17 : decode cX7_loaf 17 = .ok (.ireturn, 1) := by decide +kernel
theorem dX7_loose_0 : decode cX7_loose 0 = .ok (.aload_n 0, 1) := by decide +kernel
theorem dX7_loose_1 : decode cX7_loose 1 = .ok (.iload_n 1, 1) := by decide +kernel
theorem dX7_loose_2 : decode cX7_loose 2 = .ok (.invokevirtual 98, 3) := by decide +kernel
theorem dX7_loose_5 : decode cX7_loose 5 = .ok (.iload_n 2, 1) := by decide +kernel
theorem dX7_loose_6 : decode cX7_loose 6 = .ok (.bipush 23, 2) := by decide +kernel
theorem dX7_loose_8 : decode cX7_loose 8 = .ok (.invokestatic 137, 3) := by decide +kernel
theorem dX7_loose_11 : decode cX7_loose 11 = .ok (.aload_n 0, 1) := by decide +kernel
theorem dX7_loose_12 : decode cX7_loose 12 = .ok (.getfield 19, 3) := by decide +kernel
theorem dX7_loose_15 : decode cX7_loose 15 = .ok (.iload_n 1, 1) := by decide +kernel
theorem dX7_loose_16 : decode cX7_loose 16 = .ok (.invokevirtual 102, 3) := by decide +kernel
theorem dX7_loose_19 : decode cX7_loose 19 = .ok (.invokevirtual 209, 3) := by decide +kernel
theorem dX7_loose_22 : decode cX7_loose 22 = .ok (.astore_n 3, 1) := by decide +kernel
theorem dX7_loose_23 : decode cX7_loose 23 = .ok (.iload_n 2, 1) := by decide +kernel
theorem dX7_loose_24 : decode cX7_loose 24 = .ok (.aload_n 3, 1) := by decide +kernel
theorem dX7_loose_25 : decode cX7_loose 25 = .ok (.invokevirtual 106, 3) := by decide +kernel
theorem dX7_loose_28 : decode cX7_loose 28 = .ok (.if_icmp .ge 11, 3) := by decide +kernel
theorem dX7_loose_31 : decode cX7_loose 31 = .ok (.aload_n 3, 1) := by decide +kernel
theorem dX7_loose_32 : decode cX7_loose 32 = .ok (.iload_n 2, 1) := by decide +kernel
theorem dX7_loose_33 : decode cX7_loose 33 = .ok (.invokevirtual 212, 3) := by decide +kernel
theorem dX7_loose_36 : decode cX7_loose 36 = .ok (.goto 4, 3) := by decide +kernel
theorem dX7_loose_39 : decode cX7_loose 39 = .ok (.iconst (-1), 1) := by decide +kernel
theorem dX7_loose_40 : decode cX7_loose 40 = .ok (.ireturn, 1) := by decide +kernel
theorem dX7_count_0 : decode cX7_count 0 = .ok (.iload_n 1, 1) := by decide +kernel
theorem dX7_count_1 : decode cX7_count 1 = .ok (.bipush 6, 2) := by decide +kernel
theorem dX7_count_3 : decode cX7_count 3 = .ok (.invokestatic 137, 3) := by decide +kernel
theorem dX7_count_6 : decode cX7_count 6 = .ok (.aload_n 0, 1) := by decide +kernel
theorem dX7_count_7 : decode cX7_count 7 = .ok (.iload_n 1, 1) := by decide +kernel
theorem dX7_count_8 : decode cX7_count 8 = .ok (.invokevirtual 215, 3) := by decide +kernel
theorem dX7_count_11 : decode cX7_count 11 = .ok (.ireturn, 1) := by decide +kernel
theorem dX7_whyNot_0 : decode cX7_whyNot 0 = .ok (.aload_n 0, 1) := by decide +kernel
theorem dX7_whyNot_1 : decode cX7_whyNot 1 = .ok (.iload_n 1, 1) := by decide +kernel
theorem dX7_whyNot_2 : decode cX7_whyNot 2 = .ok (.iload_n 2, 1) := by decide +kernel
theorem dX7_whyNot_3 : decode cX7_whyNot 3 = .ok (.invokevirtual 110, 3) := by decide +kernel
theorem dX7_whyNot_6 : decode cX7_whyNot 6 = .ok (.aload_n 0, 1) := by decide +kernel
theorem dX7_whyNot_7 : decode cX7_whyNot 7 = .ok (.iload_n 1, 1) := by decide +kernel
theorem dX7_whyNot_8 : decode cX7_whyNot 8 = .ok (.iload_n 2, 1) := by decide +kernel
theorem dX7_whyNot_9 : decode cX7_whyNot 9 = .ok (.iload_n 3, 1) := by decide +kernel
theorem dX7_whyNot_10 : decode cX7_whyNot 10 = .ok (.invokevirtual 114, 3) := by decide +kernel
theorem dX7_whyNot_13 : decode cX7_whyNot 13 = .ok (.ireturn, 1) := by decide +kernel
theorem dX7_ifChanged_0 : decode cX7_ifChanged 0 = .ok (.aload_n 0, 1) := by decide +kernel
theorem dX7_ifChanged_1 : decode cX7_ifChanged 1 = .ok (.iload_n 1, 1) := by decide +kernel
theorem dX7_ifChanged_2 : decode cX7_ifChanged 2 = .ok (.invokevirtual 98, 3) := by decide +kernel
theorem dX7_ifChanged_5 : decode cX7_ifChanged 5 = .ok (.iload_n 2, 1) := by decide +kernel
theorem dX7_ifChanged_6 : decode cX7_ifChanged 6 = .ok (.iconst 3, 1) := by decide +kernel
theorem dX7_ifChanged_7 : decode cX7_ifChanged 7 = .ok (.invokestatic 137, 3) := by decide +kernel
theorem dX7_ifChanged_10 : decode cX7_ifChanged 10 = .ok (.aload_n 0, 1) := by decide +kernel
theorem dX7_ifChanged_11 : decode cX7_ifChanged 11 = .ok (.iload_n 1, 1) := by decide +kernel
theorem dX7_ifChanged_12 : decode cX7_ifChanged 12 = .ok (.iload_n 2, 1) := by decide +kernel
theorem dX7_ifChanged_13 : decode cX7_ifChanged 13 = .ok (.invokevirtual 218, 3) := by decide +kernel
theorem dX7_ifChanged_16 : decode cX7_ifChanged 16 = .ok (.ireturn, 1) := by decide +kernel
theorem dX7_alike_0 : decode cX7_alike 0 = .ok (.aload_n 0, 1) := by decide +kernel
theorem dX7_alike_1 : decode cX7_alike 1 = .ok (.iload_n 1, 1) := by decide +kernel
theorem dX7_alike_2 : decode cX7_alike 2 = .ok (.invokevirtual 98, 3) := by decide +kernel
theorem dX7_alike_5 : decode cX7_alike 5 = .ok (.aload_n 0, 1) := by decide +kernel
theorem dX7_alike_6 : decode cX7_alike 6 = .ok (.iload_n 2, 1) := by decide +kernel
theorem dX7_alike_7 : decode cX7_alike 7 = .ok (.invokevirtual 98, 3) := by decide +kernel
theorem dX7_alike_10 : decode cX7_alike 10 = .ok (.aload_n 0, 1) := by decide +kernel
theorem dX7_alike_11 : decode cX7_alike 11 = .ok (.iload_n 1, 1) := by decide +kernel
theorem dX7_alike_12 : decode cX7_alike 12 = .ok (.iload_n 2, 1) := by decide +kernel
theorem dX7_alike_13 : decode cX7_alike 13 = .ok (.invokevirtual 221, 3) := by decide +kernel
theorem dX7_alike_16 : decode cX7_alike 16 = .ok (.ireturn, 1) := by decide +kernel
theorem dX7_period_0 : decode cX7_period 0 = .ok (.aload_n 0, 1) := by decide +kernel
theorem dX7_period_1 : decode cX7_period 1 = .ok (.iload_n 1, 1) := by decide +kernel
theorem dX7_period_2 : decode cX7_period 2 = .ok (.invokevirtual 98, 3) := by decide +kernel
theorem dX7_period_5 : decode cX7_period 5 = .ok (.aload_n 0, 1) := by decide +kernel
theorem dX7_period_6 : decode cX7_period 6 = .ok (.getfield 19, 3) := by decide +kernel
theorem dX7_period_9 : decode cX7_period 9 = .ok (.iload_n 1, 1) := by decide +kernel
theorem dX7_period_10 : decode cX7_period 10 = .ok (.invokevirtual 102, 3) := by decide +kernel
theorem dX7_period_13 : decode cX7_period 13 = .ok (.invokevirtual 124, 3) := by decide +kernel
theorem dX7_period_16 : decode cX7_period 16 = .ok (.invokevirtual 224, 3) := by decide +kernel
theorem dX7_period_19 : decode cX7_period 19 = .ok (.ireturn, 1) := by decide +kernel
theorem dX7_looseShare_0 : decode cX7_looseShare 0 = .ok (.iconst 0, 1) := by decide +kernel
theorem dX7_looseShare_1 : decode cX7_looseShare 1 = .ok (.istore_n 1, 1) := by decide +kernel
theorem dX7_looseShare_2 : decode cX7_looseShare 2 = .ok (.iconst 0, 1) := by decide +kernel
theorem dX7_looseShare_3 : decode cX7_looseShare 3 = .ok (.istore_n 2, 1) := by decide +kernel
theorem dX7_looseShare_4 : decode cX7_looseShare 4 = .ok (.iload_n 2, 1) := by decide +kernel
theorem dX7_looseShare_5 : decode cX7_looseShare 5 = .ok (.aload_n 0, 1) := by decide +kernel
theorem dX7_looseShare_6 : decode cX7_looseShare 6 = .ok (.getfield 19, 3) := by decide +kernel
theorem dX7_looseShare_9 : decode cX7_looseShare 9 = .ok (.invokevirtual 65, 3) := by decide +kernel
theorem dX7_looseShare_12 : decode cX7_looseShare 12 = .ok (.if_icmp .ge 26, 3) := by decide +kernel
theorem dX7_looseShare_15 : decode cX7_looseShare 15 = .ok (.iload_n 1, 1) := by decide +kernel
theorem dX7_looseShare_16 : decode cX7_looseShare 16 = .ok (.aload_n 0, 1) := by decide +kernel
theorem dX7_looseShare_17 : decode cX7_looseShare 17 = .ok (.getfield 19, 3) := by decide +kernel
theorem dX7_looseShare_20 : decode cX7_looseShare 20 = .ok (.iload_n 2, 1) := by decide +kernel
theorem dX7_looseShare_21 : decode cX7_looseShare 21 = .ok (.invokevirtual 102, 3) := by decide +kernel
theorem dX7_looseShare_24 : decode cX7_looseShare 24 = .ok (.invokevirtual 209, 3) := by decide +kernel
theorem dX7_looseShare_27 : decode cX7_looseShare 27 = .ok (.invokevirtual 106, 3) := by decide +kernel
theorem dX7_looseShare_30 : decode cX7_looseShare 30 = .ok (.iadd, 1) := by decide +kernel
theorem dX7_looseShare_31 : decode cX7_looseShare 31 = .ok (.istore_n 1, 1) := by decide +kernel
theorem dX7_looseShare_32 : decode cX7_looseShare 32 = .ok (.iinc 2 1, 3) := by decide +kernel
theorem dX7_looseShare_35 : decode cX7_looseShare 35 = .ok (.goto (-31), 3) := by decide +kernel
theorem dX7_looseShare_38 : decode cX7_looseShare 38 = .ok (.aload_n 0, 1) := by decide +kernel
theorem dX7_looseShare_39 : decode cX7_looseShare 39 = .ok (.invokevirtual 227, 3) := by decide +kernel
theorem dX7_looseShare_42 : decode cX7_looseShare 42 = .ok (.istore_n 2, 1) := by decide +kernel
theorem dX7_looseShare_43 : decode cX7_looseShare 43 = .ok (.iload_n 2, 1) := by decide +kernel
theorem dX7_looseShare_44 : decode cX7_looseShare 44 = .ok (.ifCond .ne 7, 3) := by decide +kernel
theorem dX7_looseShare_47 : decode cX7_looseShare 47 = .ok (.dconst 1, 1) := by decide +kernel
theorem dX7_looseShare_48 : decode cX7_looseShare 48 = .ok (.goto 8, 3) := by decide +kernel
theorem dX7_looseShare_51 : decode cX7_looseShare 51 = .ok (.iload_n 1, 1) := by decide +kernel
theorem dX7_looseShare_52 : decode cX7_looseShare 52 = .ok (.i2d, 1) := by decide +kernel
theorem dX7_looseShare_53 : decode cX7_looseShare 53 = .ok (.iload_n 2, 1) := by decide +kernel
theorem dX7_looseShare_54 : decode cX7_looseShare 54 = .ok (.i2d, 1) := by decide +kernel
theorem dX7_looseShare_55 : decode cX7_looseShare 55 = .ok (.ddiv, 1) := by decide +kernel
theorem dX7_looseShare_56 : decode cX7_looseShare 56 = .ok (.dreturn, 1) := by decide +kernel
theorem dX7_digest_0 : decode cX7_digest 0 = .ok (.ldc2_w 230, 3) := by decide +kernel
theorem dX7_digest_3 : decode cX7_digest 3 = .ok (.lstore_n 1, 1) := by decide +kernel
theorem dX7_digest_4 : decode cX7_digest 4 = .ok (.iconst 0, 1) := by decide +kernel
theorem dX7_digest_5 : decode cX7_digest 5 = .ok (.istore_n 3, 1) := by decide +kernel
theorem dX7_digest_6 : decode cX7_digest 6 = .ok (.iload_n 3, 1) := by decide +kernel
theorem dX7_digest_7 : decode cX7_digest 7 = .ok (.bipush 6, 2) := by decide +kernel
theorem dX7_digest_9 : decode cX7_digest 9 = .ok (.if_icmp .gt 22, 3) := by decide +kernel
theorem dX7_digest_12 : decode cX7_digest 12 = .ok (.ldc2_w 232, 3) := by decide +kernel
theorem dX7_digest_15 : decode cX7_digest 15 = .ok (.lload_n 1, 1) := by decide +kernel
theorem dX7_digest_16 : decode cX7_digest 16 = .ok (.lmul, 1) := by decide +kernel
theorem dX7_digest_17 : decode cX7_digest 17 = .ok (.aload_n 0, 1) := by decide +kernel
theorem dX7_digest_18 : decode cX7_digest 18 = .ok (.iload_n 3, 1) := by decide +kernel
theorem dX7_digest_19 : decode cX7_digest 19 = .ok (.invokevirtual 215, 3) := by decide +kernel
theorem dX7_digest_22 : decode cX7_digest 22 = .ok (.i2l, 1) := by decide +kernel
theorem dX7_digest_23 : decode cX7_digest 23 = .ok (.ladd, 1) := by decide +kernel
theorem dX7_digest_24 : decode cX7_digest 24 = .ok (.lstore_n 1, 1) := by decide +kernel
theorem dX7_digest_25 : decode cX7_digest 25 = .ok (.iinc 3 1, 3) := by decide +kernel
theorem dX7_digest_28 : decode cX7_digest 28 = .ok (.goto (-22), 3) := by decide +kernel
theorem dX7_digest_31 : decode cX7_digest 31 = .ok (.iconst 0, 1) := by decide +kernel
theorem dX7_digest_32 : decode cX7_digest 32 = .ok (.istore_n 3, 1) := by decide +kernel
theorem dX7_digest_33 : decode cX7_digest 33 = .ok (.iload_n 3, 1) := by decide +kernel
theorem dX7_digest_34 : decode cX7_digest 34 = .ok (.aload_n 0, 1) := by decide +kernel
theorem dX7_digest_35 : decode cX7_digest 35 = .ok (.getfield 19, 3) := by decide +kernel
theorem dX7_digest_38 : decode cX7_digest 38 = .ok (.invokevirtual 65, 3) := by decide +kernel
theorem dX7_digest_41 : decode cX7_digest 41 = .ok (.if_icmp .ge 16, 3) := by decide +kernel
theorem dX7_digest_44 : decode cX7_digest 44 = .ok (.aload_n 0, 1) := by decide +kernel
theorem dX7_digest_45 : decode cX7_digest 45 = .ok (.lload_n 1, 1) := by decide +kernel
theorem dX7_digest_46 : decode cX7_digest 46 = .ok (.iload_n 3, 1) := by decide +kernel
theorem dX7_digest_47 : decode cX7_digest 47 = .ok (.invokevirtual 234, 3) := by decide +kernel
theorem dX7_digest_50 : decode cX7_digest 50 = .ok (.lstore_n 1, 1) := by decide +kernel
theorem dX7_digest_51 : decode cX7_digest 51 = .ok (.iinc 3 1, 3) := by decide +kernel
theorem dX7_digest_54 : decode cX7_digest 54 = .ok (.goto (-21), 3) := by decide +kernel
theorem dX7_digest_57 : decode cX7_digest 57 = .ok (.ldc2_w 232, 3) := by decide +kernel
theorem dX7_digest_60 : decode cX7_digest 60 = .ok (.lload_n 1, 1) := by decide +kernel
theorem dX7_digest_61 : decode cX7_digest 61 = .ok (.lmul, 1) := by decide +kernel
theorem dX7_digest_62 : decode cX7_digest 62 = .ok (.aload_n 0, 1) := by decide +kernel
theorem dX7_digest_63 : decode cX7_digest 63 = .ok (.getfield 19, 3) := by decide +kernel
theorem dX7_digest_66 : decode cX7_digest 66 = .ok (.invokevirtual 184, 3) := by decide +kernel
theorem dX7_digest_69 : decode cX7_digest 69 = .ok (.i2l, 1) := by decide +kernel
theorem dX7_digest_70 : decode cX7_digest 70 = .ok (.ladd, 1) := by decide +kernel
theorem dX7_digest_71 : decode cX7_digest 71 = .ok (.lstore_n 1, 1) := by decide +kernel
theorem dX7_digest_72 : decode cX7_digest 72 = .ok (.ldc2_w 232, 3) := by decide +kernel
theorem dX7_digest_75 : decode cX7_digest 75 = .ok (.lload_n 1, 1) := by decide +kernel
theorem dX7_digest_76 : decode cX7_digest 76 = .ok (.lmul, 1) := by decide +kernel
theorem dX7_digest_77 : decode cX7_digest 77 = .ok (.aload_n 0, 1) := by decide +kernel
theorem dX7_digest_78 : decode cX7_digest 78 = .ok (.getfield 19, 3) := by decide +kernel
theorem dX7_digest_81 : decode cX7_digest 81 = .ok (.invokevirtual 187, 3) := by decide +kernel
theorem dX7_digest_84 : decode cX7_digest 84 = .ok (.i2l, 1) := by decide +kernel
theorem dX7_digest_85 : decode cX7_digest 85 = .ok (.ladd, 1) := by decide +kernel
theorem dX7_digest_86 : decode cX7_digest 86 = .ok (.lstore_n 1, 1) := by decide +kernel
theorem dX7_digest_87 : decode cX7_digest 87 = .ok (.ldc2_w 232, 3) := by decide +kernel
theorem dX7_digest_90 : decode cX7_digest 90 = .ok (.lload_n 1, 1) := by decide +kernel
theorem dX7_digest_91 : decode cX7_digest 91 = .ok (.lmul, 1) := by decide +kernel
theorem dX7_digest_92 : decode cX7_digest 92 = .ok (.aload_n 0, 1) := by decide +kernel
theorem dX7_digest_93 : decode cX7_digest 93 = .ok (.invokevirtual 238, 3) := by decide +kernel
theorem dX7_digest_96 : decode cX7_digest 96 = .ok (.invokestatic 242, 3) := by decide +kernel
theorem dX7_digest_99 : decode cX7_digest 99 = .ok (.ladd, 1) := by decide +kernel
theorem dX7_digest_100 : decode cX7_digest 100 = .ok (.lstore_n 1, 1) := by decide +kernel
theorem dX7_digest_101 : decode cX7_digest 101 = .ok (.ldc2_w 232, 3) := by decide +kernel
theorem dX7_digest_104 : decode cX7_digest 104 = .ok (.lload_n 1, 1) := by decide +kernel
theorem dX7_digest_105 : decode cX7_digest 105 = .ok (.lmul, 1) := by decide +kernel
theorem dX7_digest_106 : decode cX7_digest 106 = .ok (.aload_n 0, 1) := by decide +kernel
theorem dX7_digest_107 : decode cX7_digest 107 = .ok (.getfield 10, 3) := by decide +kernel
theorem dX7_digest_110 : decode cX7_digest 110 = .ok (.invokevirtual 152, 3) := by decide +kernel
theorem dX7_digest_113 : decode cX7_digest 113 = .ok (.i2l, 1) := by decide +kernel
theorem dX7_digest_114 : decode cX7_digest 114 = .ok (.ladd, 1) := by decide +kernel
theorem dX7_digest_115 : decode cX7_digest 115 = .ok (.lstore_n 1, 1) := by decide +kernel
theorem dX7_digest_116 : decode cX7_digest 116 = .ok (.iconst 0, 1) := by decide +kernel
theorem dX7_digest_117 : decode cX7_digest 117 = .ok (.istore_n 3, 1) := by decide +kernel
theorem dX7_digest_118 : decode cX7_digest 118 = .ok (.iload_n 3, 1) := by decide +kernel
theorem dX7_digest_119 : decode cX7_digest 119 = .ok (.aload_n 0, 1) := by decide +kernel
theorem dX7_digest_120 : decode cX7_digest 120 = .ok (.getfield 10, 3) := by decide +kernel
theorem dX7_digest_123 : decode cX7_digest 123 = .ok (.invokevirtual 152, 3) := by decide +kernel
theorem dX7_digest_126 : decode cX7_digest 126 = .ok (.if_icmp .ge 25, 3) := by decide +kernel
theorem dX7_digest_129 : decode cX7_digest 129 = .ok (.ldc2_w 232, 3) := by decide +kernel
theorem dX7_digest_132 : decode cX7_digest 132 = .ok (.lload_n 1, 1) := by decide +kernel
theorem dX7_digest_133 : decode cX7_digest 133 = .ok (.lmul, 1) := by decide +kernel
theorem dX7_digest_134 : decode cX7_digest 134 = .ok (.aload_n 0, 1) := by decide +kernel
theorem dX7_digest_135 : decode cX7_digest 135 = .ok (.getfield 10, 3) := by decide +kernel
theorem dX7_digest_138 : decode cX7_digest 138 = .ok (.iload_n 3, 1) := by decide +kernel
theorem dX7_digest_139 : decode cX7_digest 139 = .ok (.invokevirtual 246, 3) := by decide +kernel
theorem dX7_digest_142 : decode cX7_digest 142 = .ok (.i2l, 1) := by decide +kernel
theorem dX7_digest_143 : decode cX7_digest 143 = .ok (.ladd, 1) := by decide +kernel
theorem dX7_digest_144 : decode cX7_digest 144 = .ok (.lstore_n 1, 1) := by decide +kernel
theorem dX7_digest_145 : decode cX7_digest 145 = .ok (.iinc 3 1, 3) := by decide +kernel
theorem dX7_digest_148 : decode cX7_digest 148 = .ok (.goto (-30), 3) := by decide +kernel
theorem dX7_digest_151 : decode cX7_digest 151 = .ok (.lload_n 1, 1) := by decide +kernel
theorem dX7_digest_152 : decode cX7_digest 152 = .ok (.lreturn, 1) := by decide +kernel
theorem dX7_needLoaf_0 : decode cX7_needLoaf 0 = .ok (.aload_n 0, 1) := by decide +kernel
theorem dX7_needLoaf_1 : decode cX7_needLoaf 1 = .ok (.getfield 19, 3) := by decide +kernel
theorem dX7_needLoaf_4 : decode cX7_needLoaf 4 = .ok (.iload_n 1, 1) := by decide +kernel
theorem dX7_needLoaf_5 : decode cX7_needLoaf 5 = .ok (.invokevirtual 249, 3) := by decide +kernel
theorem dX7_needLoaf_8 : decode cX7_needLoaf 8 = .ok (.ifCond .ne 13, 3) := by decide +kernel
theorem dX7_needLoaf_11 : decode cX7_needLoaf 11 = .ok (.new 253, 3) := by decide +kernel
theorem dX7_needLoaf_14 : decode cX7_needLoaf 14 = .ok (.dup, 1) := by decide +kernel
theorem dX7_needLoaf_15 : decode cX7_needLoaf 15 = .ok (.ldc 255, 2) := by decide +kernel
theorem dX7_needLoaf_17 : decode cX7_needLoaf 17 = .ok (.invokespecial 257, 3) := by decide +kernel
theorem dX7_needLoaf_20 : decode cX7_needLoaf 20 = .ok (.athrow, 1) := by decide +kernel
theorem dX7_needLoaf_21 : decode cX7_needLoaf 21 = .ok (.return_, 1) := by decide +kernel
theorem dX7_needPlace_0 : decode cX7_needPlace 0 = .ok (.aload_n 0, 1) := by decide +kernel
theorem dX7_needPlace_1 : decode cX7_needPlace 1 = .ok (.iload_n 1, 1) := by decide +kernel
theorem dX7_needPlace_2 : decode cX7_needPlace 2 = .ok (.invokevirtual 98, 3) := by decide +kernel
theorem dX7_needPlace_5 : decode cX7_needPlace 5 = .ok (.aload_n 0, 1) := by decide +kernel
theorem dX7_needPlace_6 : decode cX7_needPlace 6 = .ok (.getfield 19, 3) := by decide +kernel
theorem dX7_needPlace_9 : decode cX7_needPlace 9 = .ok (.iload_n 1, 1) := by decide +kernel
theorem dX7_needPlace_10 : decode cX7_needPlace 10 = .ok (.invokevirtual 102, 3) := by decide +kernel
theorem dX7_needPlace_13 : decode cX7_needPlace 13 = .ok (.invokevirtual 74, 3) := by decide +kernel
theorem dX7_needPlace_16 : decode cX7_needPlace 16 = .ok (.iload_n 2, 1) := by decide +kernel
theorem dX7_needPlace_17 : decode cX7_needPlace 17 = .ok (.invokevirtual 258, 3) := by decide +kernel
theorem dX7_needPlace_20 : decode cX7_needPlace 20 = .ok (.ifCond .ne 14, 3) := by decide +kernel
theorem dX7_needPlace_23 : decode cX7_needPlace 23 = .ok (.new 253, 3) := by decide +kernel
theorem dX7_needPlace_26 : decode cX7_needPlace 26 = .ok (.dup, 1) := by decide +kernel
theorem dX7_needPlace_27 : decode cX7_needPlace 27 = .ok (.ldc_w 261, 3) := by decide +kernel
theorem dX7_needPlace_30 : decode cX7_needPlace 30 = .ok (.invokespecial 257, 3) := by decide +kernel
theorem dX7_needPlace_33 : decode cX7_needPlace 33 = .ok (.athrow, 1) := by decide +kernel
theorem dX7_needPlace_34 : decode cX7_needPlace 34 = .ok (.return_, 1) := by decide +kernel
theorem dX7_needUpTo_0 : decode cX7_needUpTo 0 = .ok (.iload_n 0, 1) := by decide +kernel
theorem dX7_needUpTo_1 : decode cX7_needUpTo 1 = .ok (.ifCond .lt 8, 3) := by decide +kernel
theorem dX7_needUpTo_4 : decode cX7_needUpTo 4 = .ok (.iload_n 0, 1) := by decide +kernel
theorem dX7_needUpTo_5 : decode cX7_needUpTo 5 = .ok (.iload_n 1, 1) := by decide +kernel
theorem dX7_needUpTo_6 : decode cX7_needUpTo 6 = .ok (.if_icmp .le 14, 3) := by decide +kernel
theorem dX7_needUpTo_9 : decode cX7_needUpTo 9 = .ok (.new 58, 3) := by decide +kernel
theorem dX7_needUpTo_12 : decode cX7_needUpTo 12 = .ok (.dup, 1) := by decide +kernel
theorem dX7_needUpTo_13 : decode cX7_needUpTo 13 = .ok (.ldc_w 263, 3) := by decide +kernel
theorem dX7_needUpTo_16 : decode cX7_needUpTo 16 = .ok (.invokespecial 62, 3) := by decide +kernel
theorem dX7_needUpTo_19 : decode cX7_needUpTo 19 = .ok (.athrow, 1) := by decide +kernel
theorem dX7_needUpTo_20 : decode cX7_needUpTo 20 = .ok (.return_, 1) := by decide +kernel
theorem dX7_needCan_0 : decode cX7_needCan 0 = .ok (.iload_n 0, 1) := by decide +kernel
theorem dX7_needCan_1 : decode cX7_needCan 1 = .ok (.ifCond .eq 14, 3) := by decide +kernel
theorem dX7_needCan_4 : decode cX7_needCan 4 = .ok (.new 69, 3) := by decide +kernel
theorem dX7_needCan_7 : decode cX7_needCan 7 = .ok (.dup, 1) := by decide +kernel
theorem dX7_needCan_8 : decode cX7_needCan 8 = .ok (.ldc_w 265, 3) := by decide +kernel
theorem dX7_needCan_11 : decode cX7_needCan 11 = .ok (.invokespecial 73, 3) := by decide +kernel
theorem dX7_needCan_14 : decode cX7_needCan 14 = .ok (.athrow, 1) := by decide +kernel
theorem dX7_needCan_15 : decode cX7_needCan 15 = .ok (.return_, 1) := by decide +kernel
theorem dX7_tryCrossing_0 : decode cX7_tryCrossing 0 = .ok (.aload_n 0, 1) := by decide +kernel
theorem dX7_tryCrossing_1 : decode cX7_tryCrossing 1 = .ok (.getfield 19, 3) := by decide +kernel
theorem dX7_tryCrossing_4 : decode cX7_tryCrossing 4 = .ok (.iload_n 1, 1) := by decide +kernel
theorem dX7_tryCrossing_5 : decode cX7_tryCrossing 5 = .ok (.invokevirtual 249, 3) := by decide +kernel
theorem dX7_tryCrossing_8 : decode cX7_tryCrossing 8 = .ok (.ifCond .ne 5, 3) := by decide +kernel
theorem dX7_tryCrossing_11 : decode cX7_tryCrossing 11 = .ok (.iconst 3, 1) := by decide +kernel
theorem dX7_tryCrossing_12 : decode cX7_tryCrossing 12 = .ok (.ireturn, 1) := by decide +kernel
theorem dX7_tryCrossing_13 : decode cX7_tryCrossing 13 = .ok (.aload_n 0, 1) := by decide +kernel
theorem dX7_tryCrossing_14 : decode cX7_tryCrossing 14 = .ok (.getfield 19, 3) := by decide +kernel
theorem dX7_tryCrossing_17 : decode cX7_tryCrossing 17 = .ok (.iload_n 1, 1) := by decide +kernel
theorem dX7_tryCrossing_18 : decode cX7_tryCrossing 18 = .ok (.invokevirtual 102, 3) := by decide +kernel
theorem dX7_tryCrossing_21 : decode cX7_tryCrossing 21 = .ok (.invokevirtual 74, 3) := by decide +kernel
theorem dX7_tryCrossing_24 : decode cX7_tryCrossing 24 = .ok (.astore 4, 2) := by decide +kernel
theorem dX7_tryCrossing_26 : decode cX7_tryCrossing 26 = .ok (.aload 4, 2) := by decide +kernel
theorem dX7_tryCrossing_28 : decode cX7_tryCrossing 28 = .ok (.iload_n 2, 1) := by decide +kernel
theorem dX7_tryCrossing_29 : decode cX7_tryCrossing 29 = .ok (.invokevirtual 258, 3) := by decide +kernel
theorem dX7_tryCrossing_32 : decode cX7_tryCrossing 32 = .ok (.ifCond .ne 5, 3) := by decide +kernel
theorem dX7_tryCrossing_35 : decode cX7_tryCrossing 35 = .ok (.iconst 4, 1) := by decide +kernel
theorem dX7_tryCrossing_36 : decode cX7_tryCrossing 36 = .ok (.ireturn, 1) := by decide +kernel
theorem dX7_tryCrossing_37 : decode cX7_tryCrossing 37 = .ok (.aload 4, 2) := by decide +kernel
theorem dX7_tryCrossing_39 : decode cX7_tryCrossing 39 = .ok (.invokevirtual 106, 3) := by decide +kernel
theorem dX7_tryCrossing_42 : decode cX7_tryCrossing 42 = .ok (.bipush 24, 2) := by decide +kernel
theorem dX7_tryCrossing_44 : decode cX7_tryCrossing 44 = .ok (.if_icmp .lt 5, 3) := by decide +kernel
theorem dX7_tryCrossing_47 : decode cX7_tryCrossing 47 = .ok (.iconst 1, 1) := by decide +kernel
theorem dX7_tryCrossing_48 : decode cX7_tryCrossing 48 = .ok (.ireturn, 1) := by decide +kernel
theorem dX7_tryCrossing_49 : decode cX7_tryCrossing 49 = .ok (.aload_n 0, 1) := by decide +kernel
theorem dX7_tryCrossing_50 : decode cX7_tryCrossing 50 = .ok (.getfield 40, 3) := by decide +kernel
theorem dX7_tryCrossing_53 : decode cX7_tryCrossing 53 = .ok (.invokevirtual 74, 3) := by decide +kernel
theorem dX7_tryCrossing_56 : decode cX7_tryCrossing 56 = .ok (.aload 4, 2) := by decide +kernel
theorem dX7_tryCrossing_58 : decode cX7_tryCrossing 58 = .ok (.invokevirtual 267, 3) := by decide +kernel
theorem dX7_tryCrossing_61 : decode cX7_tryCrossing 61 = .ok (.aload_n 0, 1) := by decide +kernel
theorem dX7_tryCrossing_62 : decode cX7_tryCrossing 62 = .ok (.getfield 40, 3) := by decide +kernel
theorem dX7_tryCrossing_65 : decode cX7_tryCrossing 65 = .ok (.invokevirtual 74, 3) := by decide +kernel
theorem dX7_tryCrossing_68 : decode cX7_tryCrossing 68 = .ok (.iload_n 2, 1) := by decide +kernel
theorem dX7_tryCrossing_69 : decode cX7_tryCrossing 69 = .ok (.iload_n 3, 1) := by decide +kernel
theorem dX7_tryCrossing_70 : decode cX7_tryCrossing 70 = .ok (.invokestatic 269, 3) := by decide +kernel
theorem dX7_tryCrossing_73 : decode cX7_tryCrossing 73 = .ok (.invokevirtual 273, 3) := by decide +kernel
theorem dX7_tryCrossing_76 : decode cX7_tryCrossing 76 = .ok (.aload_n 0, 1) := by decide +kernel
theorem dX7_tryCrossing_77 : decode cX7_tryCrossing 77 = .ok (.getfield 40, 3) := by decide +kernel
theorem dX7_tryCrossing_80 : decode cX7_tryCrossing 80 = .ok (.invokevirtual 82, 3) := by decide +kernel
theorem dX7_tryCrossing_83 : decode cX7_tryCrossing 83 = .ok (.ireturn, 1) := by decide +kernel
theorem dX7_tryTakingBack_0 : decode cX7_tryTakingBack 0 = .ok (.aload_n 0, 1) := by decide +kernel
theorem dX7_tryTakingBack_1 : decode cX7_tryTakingBack 1 = .ok (.getfield 19, 3) := by decide +kernel
theorem dX7_tryTakingBack_4 : decode cX7_tryTakingBack 4 = .ok (.iload_n 1, 1) := by decide +kernel
theorem dX7_tryTakingBack_5 : decode cX7_tryTakingBack 5 = .ok (.invokevirtual 249, 3) := by decide +kernel
theorem dX7_tryTakingBack_8 : decode cX7_tryTakingBack 8 = .ok (.ifCond .ne 5, 3) := by decide +kernel
theorem dX7_tryTakingBack_11 : decode cX7_tryTakingBack 11 = .ok (.iconst 3, 1) := by decide +kernel
theorem dX7_tryTakingBack_12 : decode cX7_tryTakingBack 12 = .ok (.ireturn, 1) := by decide +kernel
theorem dX7_tryTakingBack_13 : decode cX7_tryTakingBack 13 = .ok (.aload_n 0, 1) := by decide +kernel
theorem dX7_tryTakingBack_14 : decode cX7_tryTakingBack 14 = .ok (.getfield 19, 3) := by decide +kernel
theorem dX7_tryTakingBack_17 : decode cX7_tryTakingBack 17 = .ok (.iload_n 1, 1) := by decide +kernel
theorem dX7_tryTakingBack_18 : decode cX7_tryTakingBack 18 = .ok (.invokevirtual 102, 3) := by decide +kernel
theorem dX7_tryTakingBack_21 : decode cX7_tryTakingBack 21 = .ok (.invokevirtual 74, 3) := by decide +kernel
theorem dX7_tryTakingBack_24 : decode cX7_tryTakingBack 24 = .ok (.astore_n 2, 1) := by decide +kernel
theorem dX7_tryTakingBack_25 : decode cX7_tryTakingBack 25 = .ok (.aload_n 2, 1) := by decide +kernel
theorem dX7_tryTakingBack_26 : decode cX7_tryTakingBack 26 = .ok (.invokevirtual 106, 3) := by decide +kernel
theorem dX7_tryTakingBack_29 : decode cX7_tryTakingBack 29 = .ok (.ifCond .ne 6, 3) := by decide +kernel
theorem dX7_tryTakingBack_32 : decode cX7_tryTakingBack 32 = .ok (.bipush 6, 2) := by decide +kernel
theorem dX7_tryTakingBack_34 : decode cX7_tryTakingBack 34 = .ok (.ireturn, 1) := by decide +kernel
theorem dX7_tryTakingBack_35 : decode cX7_tryTakingBack 35 = .ok (.aload_n 0, 1) := by decide +kernel
theorem dX7_tryTakingBack_36 : decode cX7_tryTakingBack 36 = .ok (.getfield 40, 3) := by decide +kernel
theorem dX7_tryTakingBack_39 : decode cX7_tryTakingBack 39 = .ok (.invokevirtual 74, 3) := by decide +kernel
theorem dX7_tryTakingBack_42 : decode cX7_tryTakingBack 42 = .ok (.aload_n 2, 1) := by decide +kernel
theorem dX7_tryTakingBack_43 : decode cX7_tryTakingBack 43 = .ok (.invokevirtual 267, 3) := by decide +kernel
theorem dX7_tryTakingBack_46 : decode cX7_tryTakingBack 46 = .ok (.aload_n 0, 1) := by decide +kernel
theorem dX7_tryTakingBack_47 : decode cX7_tryTakingBack 47 = .ok (.getfield 40, 3) := by decide +kernel
theorem dX7_tryTakingBack_50 : decode cX7_tryTakingBack 50 = .ok (.invokevirtual 74, 3) := by decide +kernel
theorem dX7_tryTakingBack_53 : decode cX7_tryTakingBack 53 = .ok (.aload_n 2, 1) := by decide +kernel
theorem dX7_tryTakingBack_54 : decode cX7_tryTakingBack 54 = .ok (.invokevirtual 106, 3) := by decide +kernel
theorem dX7_tryTakingBack_57 : decode cX7_tryTakingBack 57 = .ok (.iconst 1, 1) := by decide +kernel
theorem dX7_tryTakingBack_58 : decode cX7_tryTakingBack 58 = .ok (.isub, 1) := by decide +kernel
theorem dX7_tryTakingBack_59 : decode cX7_tryTakingBack 59 = .ok (.invokevirtual 276, 3) := by decide +kernel
theorem dX7_tryTakingBack_62 : decode cX7_tryTakingBack 62 = .ok (.aload_n 0, 1) := by decide +kernel
theorem dX7_tryTakingBack_63 : decode cX7_tryTakingBack 63 = .ok (.getfield 40, 3) := by decide +kernel
theorem dX7_tryTakingBack_66 : decode cX7_tryTakingBack 66 = .ok (.invokevirtual 82, 3) := by decide +kernel
theorem dX7_tryTakingBack_69 : decode cX7_tryTakingBack 69 = .ok (.ireturn, 1) := by decide +kernel
theorem dX7_tryChange_0 : decode cX7_tryChange 0 = .ok (.aload_n 0, 1) := by decide +kernel
theorem dX7_tryChange_1 : decode cX7_tryChange 1 = .ok (.getfield 19, 3) := by decide +kernel
theorem dX7_tryChange_4 : decode cX7_tryChange 4 = .ok (.iload_n 1, 1) := by decide +kernel
theorem dX7_tryChange_5 : decode cX7_tryChange 5 = .ok (.invokevirtual 249, 3) := by decide +kernel
theorem dX7_tryChange_8 : decode cX7_tryChange 8 = .ok (.ifCond .ne 5, 3) := by decide +kernel
theorem dX7_tryChange_11 : decode cX7_tryChange 11 = .ok (.iconst 3, 1) := by decide +kernel
theorem dX7_tryChange_12 : decode cX7_tryChange 12 = .ok (.ireturn, 1) := by decide +kernel
theorem dX7_tryChange_13 : decode cX7_tryChange 13 = .ok (.aload_n 0, 1) := by decide +kernel
theorem dX7_tryChange_14 : decode cX7_tryChange 14 = .ok (.getfield 40, 3) := by decide +kernel
theorem dX7_tryChange_17 : decode cX7_tryChange 17 = .ok (.invokevirtual 74, 3) := by decide +kernel
theorem dX7_tryChange_20 : decode cX7_tryChange 20 = .ok (.aload_n 0, 1) := by decide +kernel
theorem dX7_tryChange_21 : decode cX7_tryChange 21 = .ok (.getfield 19, 3) := by decide +kernel
theorem dX7_tryChange_24 : decode cX7_tryChange 24 = .ok (.iload_n 1, 1) := by decide +kernel
theorem dX7_tryChange_25 : decode cX7_tryChange 25 = .ok (.invokevirtual 102, 3) := by decide +kernel
theorem dX7_tryChange_28 : decode cX7_tryChange 28 = .ok (.invokevirtual 74, 3) := by decide +kernel
theorem dX7_tryChange_31 : decode cX7_tryChange 31 = .ok (.iload_n 2, 1) := by decide +kernel
theorem dX7_tryChange_32 : decode cX7_tryChange 32 = .ok (.invokevirtual 279, 3) := by decide +kernel
theorem dX7_tryChange_35 : decode cX7_tryChange 35 = .ok (.aload_n 0, 1) := by decide +kernel
theorem dX7_tryChange_36 : decode cX7_tryChange 36 = .ok (.getfield 40, 3) := by decide +kernel
theorem dX7_tryChange_39 : decode cX7_tryChange 39 = .ok (.invokevirtual 82, 3) := by decide +kernel
theorem dX7_tryChange_42 : decode cX7_tryChange 42 = .ok (.ireturn, 1) := by decide +kernel
theorem dX7_tryJoining_0 : decode cX7_tryJoining 0 = .ok (.aload_n 0, 1) := by decide +kernel
theorem dX7_tryJoining_1 : decode cX7_tryJoining 1 = .ok (.getfield 19, 3) := by decide +kernel
theorem dX7_tryJoining_4 : decode cX7_tryJoining 4 = .ok (.iload_n 1, 1) := by decide +kernel
theorem dX7_tryJoining_5 : decode cX7_tryJoining 5 = .ok (.invokevirtual 249, 3) := by decide +kernel
theorem dX7_tryJoining_8 : decode cX7_tryJoining 8 = .ok (.ifCond .eq 14, 3) := by decide +kernel
theorem dX7_tryJoining_11 : decode cX7_tryJoining 11 = .ok (.aload_n 0, 1) := by decide +kernel
theorem dX7_tryJoining_12 : decode cX7_tryJoining 12 = .ok (.getfield 19, 3) := by decide +kernel
theorem dX7_tryJoining_15 : decode cX7_tryJoining 15 = .ok (.iload_n 2, 1) := by decide +kernel
theorem dX7_tryJoining_16 : decode cX7_tryJoining 16 = .ok (.invokevirtual 249, 3) := by decide +kernel
theorem dX7_tryJoining_19 : decode cX7_tryJoining 19 = .ok (.ifCond .ne 5, 3) := by decide +kernel
theorem dX7_tryJoining_22 : decode cX7_tryJoining 22 = .ok (.iconst 3, 1) := by decide +kernel
theorem dX7_tryJoining_23 : decode cX7_tryJoining 23 = .ok (.ireturn, 1) := by decide +kernel
theorem dX7_tryJoining_24 : decode cX7_tryJoining 24 = .ok (.aload_n 0, 1) := by decide +kernel
theorem dX7_tryJoining_25 : decode cX7_tryJoining 25 = .ok (.getfield 19, 3) := by decide +kernel
theorem dX7_tryJoining_28 : decode cX7_tryJoining 28 = .ok (.iload_n 1, 1) := by decide +kernel
theorem dX7_tryJoining_29 : decode cX7_tryJoining 29 = .ok (.invokevirtual 102, 3) := by decide +kernel
theorem dX7_tryJoining_32 : decode cX7_tryJoining 32 = .ok (.invokevirtual 74, 3) := by decide +kernel
theorem dX7_tryJoining_35 : decode cX7_tryJoining 35 = .ok (.astore_n 3, 1) := by decide +kernel
theorem dX7_tryJoining_36 : decode cX7_tryJoining 36 = .ok (.aload_n 0, 1) := by decide +kernel
theorem dX7_tryJoining_37 : decode cX7_tryJoining 37 = .ok (.getfield 19, 3) := by decide +kernel
theorem dX7_tryJoining_40 : decode cX7_tryJoining 40 = .ok (.iload_n 2, 1) := by decide +kernel
theorem dX7_tryJoining_41 : decode cX7_tryJoining 41 = .ok (.invokevirtual 102, 3) := by decide +kernel
theorem dX7_tryJoining_44 : decode cX7_tryJoining 44 = .ok (.invokevirtual 74, 3) := by decide +kernel
theorem dX7_tryJoining_47 : decode cX7_tryJoining 47 = .ok (.astore 4, 2) := by decide +kernel
theorem dX7_tryJoining_49 : decode cX7_tryJoining 49 = .ok (.aload_n 3, 1) := by decide +kernel
theorem dX7_tryJoining_50 : decode cX7_tryJoining 50 = .ok (.invokevirtual 283, 3) := by decide +kernel
theorem dX7_tryJoining_53 : decode cX7_tryJoining 53 = .ok (.aload 4, 2) := by decide +kernel
theorem dX7_tryJoining_55 : decode cX7_tryJoining 55 = .ok (.invokevirtual 283, 3) := by decide +kernel
theorem dX7_tryJoining_58 : decode cX7_tryJoining 58 = .ok (.if_icmp .eq 5, 3) := by decide +kernel
theorem dX7_tryJoining_61 : decode cX7_tryJoining 61 = .ok (.iconst 5, 1) := by decide +kernel
theorem dX7_tryJoining_62 : decode cX7_tryJoining 62 = .ok (.ireturn, 1) := by decide +kernel
theorem dX7_tryJoining_63 : decode cX7_tryJoining 63 = .ok (.aload_n 3, 1) := by decide +kernel
theorem dX7_tryJoining_64 : decode cX7_tryJoining 64 = .ok (.invokevirtual 106, 3) := by decide +kernel
theorem dX7_tryJoining_67 : decode cX7_tryJoining 67 = .ok (.aload 4, 2) := by decide +kernel
theorem dX7_tryJoining_69 : decode cX7_tryJoining 69 = .ok (.invokevirtual 106, 3) := by decide +kernel
theorem dX7_tryJoining_72 : decode cX7_tryJoining 72 = .ok (.iadd, 1) := by decide +kernel
theorem dX7_tryJoining_73 : decode cX7_tryJoining 73 = .ok (.bipush 24, 2) := by decide +kernel
theorem dX7_tryJoining_75 : decode cX7_tryJoining 75 = .ok (.if_icmp .le 5, 3) := by decide +kernel
theorem dX7_tryJoining_78 : decode cX7_tryJoining 78 = .ok (.iconst 1, 1) := by decide +kernel
theorem dX7_tryJoining_79 : decode cX7_tryJoining 79 = .ok (.ireturn, 1) := by decide +kernel
theorem dX7_tryJoining_80 : decode cX7_tryJoining 80 = .ok (.aload_n 0, 1) := by decide +kernel
theorem dX7_tryJoining_81 : decode cX7_tryJoining 81 = .ok (.getfield 40, 3) := by decide +kernel
theorem dX7_tryJoining_84 : decode cX7_tryJoining 84 = .ok (.invokevirtual 74, 3) := by decide +kernel
theorem dX7_tryJoining_87 : decode cX7_tryJoining 87 = .ok (.aload_n 3, 1) := by decide +kernel
theorem dX7_tryJoining_88 : decode cX7_tryJoining 88 = .ok (.invokevirtual 267, 3) := by decide +kernel
theorem dX7_tryJoining_91 : decode cX7_tryJoining 91 = .ok (.aload_n 0, 1) := by decide +kernel
theorem dX7_tryJoining_92 : decode cX7_tryJoining 92 = .ok (.getfield 40, 3) := by decide +kernel
theorem dX7_tryJoining_95 : decode cX7_tryJoining 95 = .ok (.invokevirtual 74, 3) := by decide +kernel
theorem dX7_tryJoining_98 : decode cX7_tryJoining 98 = .ok (.aload 4, 2) := by decide +kernel
theorem dX7_tryJoining_100 : decode cX7_tryJoining 100 = .ok (.invokevirtual 286, 3) := by decide +kernel
theorem dX7_tryJoining_103 : decode cX7_tryJoining 103 = .ok (.aload_n 0, 1) := by decide +kernel
theorem dX7_tryJoining_104 : decode cX7_tryJoining 104 = .ok (.getfield 40, 3) := by decide +kernel
theorem dX7_tryJoining_107 : decode cX7_tryJoining 107 = .ok (.invokevirtual 82, 3) := by decide +kernel
theorem dX7_tryJoining_110 : decode cX7_tryJoining 110 = .ok (.ireturn, 1) := by decide +kernel
theorem dX7_tryPart_0 : decode cX7_tryPart 0 = .ok (.aload_n 0, 1) := by decide +kernel
theorem dX7_tryPart_1 : decode cX7_tryPart 1 = .ok (.getfield 10, 3) := by decide +kernel
theorem dX7_tryPart_4 : decode cX7_tryPart 4 = .ok (.iload_n 1, 1) := by decide +kernel
theorem dX7_tryPart_5 : decode cX7_tryPart 5 = .ok (.iconst 1, 1) := by decide +kernel
theorem dX7_tryPart_6 : decode cX7_tryPart 6 = .ok (.iadd, 1) := by decide +kernel
theorem dX7_tryPart_7 : decode cX7_tryPart 7 = .ok (.invokevirtual 289, 3) := by decide +kernel
theorem dX7_tryPart_10 : decode cX7_tryPart 10 = .ok (.istore_n 2, 1) := by decide +kernel
theorem dX7_tryPart_11 : decode cX7_tryPart 11 = .ok (.aload_n 0, 1) := by decide +kernel
theorem dX7_tryPart_12 : decode cX7_tryPart 12 = .ok (.getfield 10, 3) := by decide +kernel
theorem dX7_tryPart_15 : decode cX7_tryPart 15 = .ok (.iload_n 1, 1) := by decide +kernel
theorem dX7_tryPart_16 : decode cX7_tryPart 16 = .ok (.invokevirtual 246, 3) := by decide +kernel
theorem dX7_tryPart_19 : decode cX7_tryPart 19 = .ok (.lookupswitch 91 #[(106, 69), (120, 33), (122, 85)], 33) := by decide +kernel
theorem dX7_tryPart_52 : decode cX7_tryPart 52 = .ok (.aload_n 0, 1) := by decide +kernel
theorem dX7_tryPart_53 : decode cX7_tryPart 53 = .ok (.iload_n 2, 1) := by decide +kernel
theorem dX7_tryPart_54 : decode cX7_tryPart 54 = .ok (.aload_n 0, 1) := by decide +kernel
theorem dX7_tryPart_55 : decode cX7_tryPart 55 = .ok (.getfield 10, 3) := by decide +kernel
theorem dX7_tryPart_58 : decode cX7_tryPart 58 = .ok (.iload_n 1, 1) := by decide +kernel
theorem dX7_tryPart_59 : decode cX7_tryPart 59 = .ok (.iconst 2, 1) := by decide +kernel
theorem dX7_tryPart_60 : decode cX7_tryPart 60 = .ok (.iadd, 1) := by decide +kernel
theorem dX7_tryPart_61 : decode cX7_tryPart 61 = .ok (.invokevirtual 292, 3) := by decide +kernel
theorem dX7_tryPart_64 : decode cX7_tryPart 64 = .ok (.aload_n 0, 1) := by decide +kernel
theorem dX7_tryPart_65 : decode cX7_tryPart 65 = .ok (.getfield 10, 3) := by decide +kernel
theorem dX7_tryPart_68 : decode cX7_tryPart 68 = .ok (.iload_n 1, 1) := by decide +kernel
theorem dX7_tryPart_69 : decode cX7_tryPart 69 = .ok (.iconst 3, 1) := by decide +kernel
theorem dX7_tryPart_70 : decode cX7_tryPart 70 = .ok (.iadd, 1) := by decide +kernel
theorem dX7_tryPart_71 : decode cX7_tryPart 71 = .ok (.invokevirtual 246, 3) := by decide +kernel
theorem dX7_tryPart_74 : decode cX7_tryPart 74 = .ok (.bipush 43, 2) := by decide +kernel
theorem dX7_tryPart_76 : decode cX7_tryPart 76 = .ok (.if_icmp .ne 7, 3) := by decide +kernel
theorem dX7_tryPart_79 : decode cX7_tryPart 79 = .ok (.iconst 1, 1) := by decide +kernel
theorem dX7_tryPart_80 : decode cX7_tryPart 80 = .ok (.goto 4, 3) := by decide +kernel
theorem dX7_tryPart_83 : decode cX7_tryPart 83 = .ok (.iconst 0, 1) := by decide +kernel
theorem dX7_tryPart_84 : decode cX7_tryPart 84 = .ok (.invokevirtual 114, 3) := by decide +kernel
theorem dX7_tryPart_87 : decode cX7_tryPart 87 = .ok (.ireturn, 1) := by decide +kernel
theorem dX7_tryPart_88 : decode cX7_tryPart 88 = .ok (.aload_n 0, 1) := by decide +kernel
theorem dX7_tryPart_89 : decode cX7_tryPart 89 = .ok (.iload_n 2, 1) := by decide +kernel
theorem dX7_tryPart_90 : decode cX7_tryPart 90 = .ok (.aload_n 0, 1) := by decide +kernel
theorem dX7_tryPart_91 : decode cX7_tryPart 91 = .ok (.getfield 10, 3) := by decide +kernel
theorem dX7_tryPart_94 : decode cX7_tryPart 94 = .ok (.iload_n 1, 1) := by decide +kernel
theorem dX7_tryPart_95 : decode cX7_tryPart 95 = .ok (.iconst 3, 1) := by decide +kernel
theorem dX7_tryPart_96 : decode cX7_tryPart 96 = .ok (.iadd, 1) := by decide +kernel
theorem dX7_tryPart_97 : decode cX7_tryPart 97 = .ok (.invokevirtual 289, 3) := by decide +kernel
theorem dX7_tryPart_100 : decode cX7_tryPart 100 = .ok (.invokevirtual 147, 3) := by decide +kernel
theorem dX7_tryPart_103 : decode cX7_tryPart 103 = .ok (.ireturn, 1) := by decide +kernel
theorem dX7_tryPart_104 : decode cX7_tryPart 104 = .ok (.aload_n 0, 1) := by decide +kernel
theorem dX7_tryPart_105 : decode cX7_tryPart 105 = .ok (.iload_n 2, 1) := by decide +kernel
theorem dX7_tryPart_106 : decode cX7_tryPart 106 = .ok (.invokevirtual 134, 3) := by decide +kernel
theorem dX7_tryPart_109 : decode cX7_tryPart 109 = .ok (.ireturn, 1) := by decide +kernel
theorem dX7_tryPart_110 : decode cX7_tryPart 110 = .ok (.aload_n 0, 1) := by decide +kernel
theorem dX7_tryPart_111 : decode cX7_tryPart 111 = .ok (.iload_n 2, 1) := by decide +kernel
theorem dX7_tryPart_112 : decode cX7_tryPart 112 = .ok (.aload_n 0, 1) := by decide +kernel
theorem dX7_tryPart_113 : decode cX7_tryPart 113 = .ok (.getfield 10, 3) := by decide +kernel
theorem dX7_tryPart_116 : decode cX7_tryPart 116 = .ok (.iload_n 1, 1) := by decide +kernel
theorem dX7_tryPart_117 : decode cX7_tryPart 117 = .ok (.invokevirtual 295, 3) := by decide +kernel
theorem dX7_tryPart_120 : decode cX7_tryPart 120 = .ok (.invokevirtual 140, 3) := by decide +kernel
theorem dX7_tryPart_123 : decode cX7_tryPart 123 = .ok (.ireturn, 1) := by decide +kernel
theorem dX7_doTriedPart_0 : decode cX7_doTriedPart 0 = .ok (.aload_n 0, 1) := by decide +kernel
theorem dX7_doTriedPart_1 : decode cX7_doTriedPart 1 = .ok (.getfield 19, 3) := by decide +kernel
theorem dX7_doTriedPart_4 : decode cX7_doTriedPart 4 = .ok (.aload_n 0, 1) := by decide +kernel
theorem dX7_doTriedPart_5 : decode cX7_doTriedPart 5 = .ok (.getfield 10, 3) := by decide +kernel
theorem dX7_doTriedPart_8 : decode cX7_doTriedPart 8 = .ok (.iload_n 1, 1) := by decide +kernel
theorem dX7_doTriedPart_9 : decode cX7_doTriedPart 9 = .ok (.iconst 1, 1) := by decide +kernel
theorem dX7_doTriedPart_10 : decode cX7_doTriedPart 10 = .ok (.iadd, 1) := by decide +kernel
theorem dX7_doTriedPart_11 : decode cX7_doTriedPart 11 = .ok (.invokevirtual 289, 3) := by decide +kernel
theorem dX7_doTriedPart_14 : decode cX7_doTriedPart 14 = .ok (.invokevirtual 102, 3) := by decide +kernel
theorem dX7_doTriedPart_17 : decode cX7_doTriedPart 17 = .ok (.aload_n 0, 1) := by decide +kernel
theorem dX7_doTriedPart_18 : decode cX7_doTriedPart 18 = .ok (.getfield 40, 3) := by decide +kernel
theorem dX7_doTriedPart_21 : decode cX7_doTriedPart 21 = .ok (.invokevirtual 121, 3) := by decide +kernel
theorem dX7_doTriedPart_24 : decode cX7_doTriedPart 24 = .ok (.aload_n 0, 1) := by decide +kernel
theorem dX7_doTriedPart_25 : decode cX7_doTriedPart 25 = .ok (.getfield 10, 3) := by decide +kernel
theorem dX7_doTriedPart_28 : decode cX7_doTriedPart 28 = .ok (.iload_n 1, 1) := by decide +kernel
theorem dX7_doTriedPart_29 : decode cX7_doTriedPart 29 = .ok (.invokevirtual 295, 3) := by decide +kernel
theorem dX7_doTriedPart_32 : decode cX7_doTriedPart 32 = .ok (.iconst (-1), 1) := by decide +kernel
theorem dX7_doTriedPart_33 : decode cX7_doTriedPart 33 = .ok (.if_icmp .eq 10, 3) := by decide +kernel
theorem dX7_doTriedPart_36 : decode cX7_doTriedPart 36 = .ok (.aload_n 0, 1) := by decide +kernel
theorem dX7_doTriedPart_37 : decode cX7_doTriedPart 37 = .ok (.getfield 19, 3) := by decide +kernel
theorem dX7_doTriedPart_40 : decode cX7_doTriedPart 40 = .ok (.invokevirtual 144, 3) := by decide +kernel
theorem dX7_doTriedPart_43 : decode cX7_doTriedPart 43 = .ok (.return_, 1) := by decide +kernel
theorem dX7_numberOfLoaf_0 : decode cX7_numberOfLoaf 0 = .ok (.aload_n 0, 1) := by decide +kernel
theorem dX7_numberOfLoaf_1 : decode cX7_numberOfLoaf 1 = .ok (.getfield 19, 3) := by decide +kernel
theorem dX7_numberOfLoaf_4 : decode cX7_numberOfLoaf 4 = .ok (.iload_n 1, 1) := by decide +kernel
theorem dX7_numberOfLoaf_5 : decode cX7_numberOfLoaf 5 = .ok (.invokevirtual 102, 3) := by decide +kernel
theorem dX7_numberOfLoaf_8 : decode cX7_numberOfLoaf 8 = .ok (.astore_n 3, 1) := by decide +kernel
theorem dX7_numberOfLoaf_9 : decode cX7_numberOfLoaf 9 = .ok (.iload_n 2, 1) := by decide +kernel
theorem dX7_numberOfLoaf_10 : decode cX7_numberOfLoaf 10 = .ok (.tableswitch 167 0 9 #[54, 62, 70, 81, 89, 97, 116, 135, 143, 159], 54) := by decide +kernel
theorem dX7_numberOfLoaf_64 : decode cX7_numberOfLoaf 64 = .ok (.aload_n 3, 1) := by decide +kernel
theorem dX7_numberOfLoaf_65 : decode cX7_numberOfLoaf 65 = .ok (.invokevirtual 74, 3) := by decide +kernel
theorem dX7_numberOfLoaf_68 : decode cX7_numberOfLoaf 68 = .ok (.invokevirtual 283, 3) := by decide +kernel
theorem dX7_numberOfLoaf_71 : decode cX7_numberOfLoaf 71 = .ok (.ireturn, 1) := by decide +kernel
theorem dX7_numberOfLoaf_72 : decode cX7_numberOfLoaf 72 = .ok (.aload_n 3, 1) := by decide +kernel
theorem dX7_numberOfLoaf_73 : decode cX7_numberOfLoaf 73 = .ok (.invokevirtual 74, 3) := by decide +kernel
theorem dX7_numberOfLoaf_76 : decode cX7_numberOfLoaf 76 = .ok (.invokevirtual 106, 3) := by decide +kernel
theorem dX7_numberOfLoaf_79 : decode cX7_numberOfLoaf 79 = .ok (.ireturn, 1) := by decide +kernel
theorem dX7_numberOfLoaf_80 : decode cX7_numberOfLoaf 80 = .ok (.bipush 100, 2) := by decide +kernel
theorem dX7_numberOfLoaf_82 : decode cX7_numberOfLoaf 82 = .ok (.aload_n 3, 1) := by decide +kernel
theorem dX7_numberOfLoaf_83 : decode cX7_numberOfLoaf 83 = .ok (.invokevirtual 74, 3) := by decide +kernel
theorem dX7_numberOfLoaf_86 : decode cX7_numberOfLoaf 86 = .ok (.invokevirtual 298, 3) := by decide +kernel
theorem dX7_numberOfLoaf_89 : decode cX7_numberOfLoaf 89 = .ok (.iadd, 1) := by decide +kernel
theorem dX7_numberOfLoaf_90 : decode cX7_numberOfLoaf 90 = .ok (.ireturn, 1) := by decide +kernel
theorem dX7_numberOfLoaf_91 : decode cX7_numberOfLoaf 91 = .ok (.aload_n 3, 1) := by decide +kernel
theorem dX7_numberOfLoaf_92 : decode cX7_numberOfLoaf 92 = .ok (.invokevirtual 124, 3) := by decide +kernel
theorem dX7_numberOfLoaf_95 : decode cX7_numberOfLoaf 95 = .ok (.invokevirtual 301, 3) := by decide +kernel
theorem dX7_numberOfLoaf_98 : decode cX7_numberOfLoaf 98 = .ok (.ireturn, 1) := by decide +kernel
theorem dX7_numberOfLoaf_99 : decode cX7_numberOfLoaf 99 = .ok (.aload_n 3, 1) := by decide +kernel
theorem dX7_numberOfLoaf_100 : decode cX7_numberOfLoaf 100 = .ok (.invokevirtual 124, 3) := by decide +kernel
theorem dX7_numberOfLoaf_103 : decode cX7_numberOfLoaf 103 = .ok (.invokevirtual 304, 3) := by decide +kernel
theorem dX7_numberOfLoaf_106 : decode cX7_numberOfLoaf 106 = .ok (.ireturn, 1) := by decide +kernel
theorem dX7_numberOfLoaf_107 : decode cX7_numberOfLoaf 107 = .ok (.aload_n 0, 1) := by decide +kernel
theorem dX7_numberOfLoaf_108 : decode cX7_numberOfLoaf 108 = .ok (.getfield 51, 3) := by decide +kernel
theorem dX7_numberOfLoaf_111 : decode cX7_numberOfLoaf 111 = .ok (.aload_n 3, 1) := by decide +kernel
theorem dX7_numberOfLoaf_112 : decode cX7_numberOfLoaf 112 = .ok (.invokevirtual 74, 3) := by decide +kernel
theorem dX7_numberOfLoaf_115 : decode cX7_numberOfLoaf 115 = .ok (.invokevirtual 307, 3) := by decide +kernel
theorem dX7_numberOfLoaf_118 : decode cX7_numberOfLoaf 118 = .ok (.aload_n 0, 1) := by decide +kernel
theorem dX7_numberOfLoaf_119 : decode cX7_numberOfLoaf 119 = .ok (.getfield 51, 3) := by decide +kernel
theorem dX7_numberOfLoaf_122 : decode cX7_numberOfLoaf 122 = .ok (.invokevirtual 106, 3) := by decide +kernel
theorem dX7_numberOfLoaf_125 : decode cX7_numberOfLoaf 125 = .ok (.ireturn, 1) := by decide +kernel
theorem dX7_numberOfLoaf_126 : decode cX7_numberOfLoaf 126 = .ok (.aload_n 0, 1) := by decide +kernel
theorem dX7_numberOfLoaf_127 : decode cX7_numberOfLoaf 127 = .ok (.getfield 51, 3) := by decide +kernel
theorem dX7_numberOfLoaf_130 : decode cX7_numberOfLoaf 130 = .ok (.aload_n 3, 1) := by decide +kernel
theorem dX7_numberOfLoaf_131 : decode cX7_numberOfLoaf 131 = .ok (.invokevirtual 74, 3) := by decide +kernel
theorem dX7_numberOfLoaf_134 : decode cX7_numberOfLoaf 134 = .ok (.invokevirtual 310, 3) := by decide +kernel
theorem dX7_numberOfLoaf_137 : decode cX7_numberOfLoaf 137 = .ok (.aload_n 0, 1) := by decide +kernel
theorem dX7_numberOfLoaf_138 : decode cX7_numberOfLoaf 138 = .ok (.getfield 51, 3) := by decide +kernel
theorem dX7_numberOfLoaf_141 : decode cX7_numberOfLoaf 141 = .ok (.invokevirtual 106, 3) := by decide +kernel
theorem dX7_numberOfLoaf_144 : decode cX7_numberOfLoaf 144 = .ok (.ireturn, 1) := by decide +kernel
theorem dX7_numberOfLoaf_145 : decode cX7_numberOfLoaf 145 = .ok (.aload_n 3, 1) := by decide +kernel
theorem dX7_numberOfLoaf_146 : decode cX7_numberOfLoaf 146 = .ok (.invokevirtual 209, 3) := by decide +kernel
theorem dX7_numberOfLoaf_149 : decode cX7_numberOfLoaf 149 = .ok (.invokevirtual 106, 3) := by decide +kernel
theorem dX7_numberOfLoaf_152 : decode cX7_numberOfLoaf 152 = .ok (.ireturn, 1) := by decide +kernel
theorem dX7_numberOfLoaf_153 : decode cX7_numberOfLoaf 153 = .ok (.aload_n 3, 1) := by decide +kernel
theorem dX7_numberOfLoaf_154 : decode cX7_numberOfLoaf 154 = .ok (.invokevirtual 124, 3) := by decide +kernel
theorem dX7_numberOfLoaf_157 : decode cX7_numberOfLoaf 157 = .ok (.invokevirtual 313, 3) := by decide +kernel
theorem dX7_numberOfLoaf_160 : decode cX7_numberOfLoaf 160 = .ok (.ifCond .eq 7, 3) := by decide +kernel
theorem dX7_numberOfLoaf_163 : decode cX7_numberOfLoaf 163 = .ok (.iconst 1, 1) := by decide +kernel
theorem dX7_numberOfLoaf_164 : decode cX7_numberOfLoaf 164 = .ok (.goto 4, 3) := by decide +kernel
theorem dX7_numberOfLoaf_167 : decode cX7_numberOfLoaf 167 = .ok (.iconst 0, 1) := by decide +kernel
theorem dX7_numberOfLoaf_168 : decode cX7_numberOfLoaf 168 = .ok (.ireturn, 1) := by decide +kernel
theorem dX7_numberOfLoaf_169 : decode cX7_numberOfLoaf 169 = .ok (.aload_n 3, 1) := by decide +kernel
theorem dX7_numberOfLoaf_170 : decode cX7_numberOfLoaf 170 = .ok (.invokevirtual 124, 3) := by decide +kernel
theorem dX7_numberOfLoaf_173 : decode cX7_numberOfLoaf 173 = .ok (.invokevirtual 316, 3) := by decide +kernel
theorem dX7_numberOfLoaf_176 : decode cX7_numberOfLoaf 176 = .ok (.ireturn, 1) := by decide +kernel
theorem dX7_numberOfLoaf_177 : decode cX7_numberOfLoaf 177 = .ok (.aload_n 0, 1) := by decide +kernel
theorem dX7_numberOfLoaf_178 : decode cX7_numberOfLoaf 178 = .ok (.iload_n 1, 1) := by decide +kernel
theorem dX7_numberOfLoaf_179 : decode cX7_numberOfLoaf 179 = .ok (.invokevirtual 319, 3) := by decide +kernel
theorem dX7_numberOfLoaf_182 : decode cX7_numberOfLoaf 182 = .ok (.ireturn, 1) := by decide +kernel
theorem dX7_numberOfBoard_0 : decode cX7_numberOfBoard 0 = .ok (.iload_n 1, 1) := by decide +kernel
theorem dX7_numberOfBoard_1 : decode cX7_numberOfBoard 1 = .ok (.tableswitch 77 0 5 #[39, 47, 52, 57, 64, 69], 39) := by decide +kernel
theorem dX7_numberOfBoard_40 : decode cX7_numberOfBoard 40 = .ok (.aload_n 0, 1) := by decide +kernel
theorem dX7_numberOfBoard_41 : decode cX7_numberOfBoard 41 = .ok (.getfield 19, 3) := by decide +kernel
theorem dX7_numberOfBoard_44 : decode cX7_numberOfBoard 44 = .ok (.invokevirtual 65, 3) := by decide +kernel
theorem dX7_numberOfBoard_47 : decode cX7_numberOfBoard 47 = .ok (.ireturn, 1) := by decide +kernel
theorem dX7_numberOfBoard_48 : decode cX7_numberOfBoard 48 = .ok (.aload_n 0, 1) := by decide +kernel
theorem dX7_numberOfBoard_49 : decode cX7_numberOfBoard 49 = .ok (.invokevirtual 227, 3) := by decide +kernel
theorem dX7_numberOfBoard_52 : decode cX7_numberOfBoard 52 = .ok (.ireturn, 1) := by decide +kernel
theorem dX7_numberOfBoard_53 : decode cX7_numberOfBoard 53 = .ok (.aload_n 0, 1) := by decide +kernel
theorem dX7_numberOfBoard_54 : decode cX7_numberOfBoard 54 = .ok (.invokevirtual 322, 3) := by decide +kernel
theorem dX7_numberOfBoard_57 : decode cX7_numberOfBoard 57 = .ok (.ireturn, 1) := by decide +kernel
theorem dX7_numberOfBoard_58 : decode cX7_numberOfBoard 58 = .ok (.iconst 3, 1) := by decide +kernel
theorem dX7_numberOfBoard_59 : decode cX7_numberOfBoard 59 = .ok (.aload_n 0, 1) := by decide +kernel
theorem dX7_numberOfBoard_60 : decode cX7_numberOfBoard 60 = .ok (.invokevirtual 227, 3) := by decide +kernel
theorem dX7_numberOfBoard_63 : decode cX7_numberOfBoard 63 = .ok (.imul, 1) := by decide +kernel
theorem dX7_numberOfBoard_64 : decode cX7_numberOfBoard 64 = .ok (.ireturn, 1) := by decide +kernel
theorem dX7_numberOfBoard_65 : decode cX7_numberOfBoard 65 = .ok (.aload_n 0, 1) := by decide +kernel
theorem dX7_numberOfBoard_66 : decode cX7_numberOfBoard 66 = .ok (.invokevirtual 325, 3) := by decide +kernel
theorem dX7_numberOfBoard_69 : decode cX7_numberOfBoard 69 = .ok (.ireturn, 1) := by decide +kernel
theorem dX7_numberOfBoard_70 : decode cX7_numberOfBoard 70 = .ok (.aload_n 0, 1) := by decide +kernel
theorem dX7_numberOfBoard_71 : decode cX7_numberOfBoard 71 = .ok (.getfield 19, 3) := by decide +kernel
theorem dX7_numberOfBoard_74 : decode cX7_numberOfBoard 74 = .ok (.invokevirtual 328, 3) := by decide +kernel
theorem dX7_numberOfBoard_77 : decode cX7_numberOfBoard 77 = .ok (.ireturn, 1) := by decide +kernel
theorem dX7_numberOfBoard_78 : decode cX7_numberOfBoard 78 = .ok (.aload_n 0, 1) := by decide +kernel
theorem dX7_numberOfBoard_79 : decode cX7_numberOfBoard 79 = .ok (.getfield 26, 3) := by decide +kernel
theorem dX7_numberOfBoard_82 : decode cX7_numberOfBoard 82 = .ok (.invokevirtual 190, 3) := by decide +kernel
theorem dX7_numberOfBoard_85 : decode cX7_numberOfBoard 85 = .ok (.ireturn, 1) := by decide +kernel
theorem dX7_crossingsOfAll_0 : decode cX7_crossingsOfAll 0 = .ok (.iconst 0, 1) := by decide +kernel
theorem dX7_crossingsOfAll_1 : decode cX7_crossingsOfAll 1 = .ok (.istore_n 1, 1) := by decide +kernel
theorem dX7_crossingsOfAll_2 : decode cX7_crossingsOfAll 2 = .ok (.iconst 0, 1) := by decide +kernel
theorem dX7_crossingsOfAll_3 : decode cX7_crossingsOfAll 3 = .ok (.istore_n 2, 1) := by decide +kernel
theorem dX7_crossingsOfAll_4 : decode cX7_crossingsOfAll 4 = .ok (.iload_n 2, 1) := by decide +kernel
theorem dX7_crossingsOfAll_5 : decode cX7_crossingsOfAll 5 = .ok (.aload_n 0, 1) := by decide +kernel
theorem dX7_crossingsOfAll_6 : decode cX7_crossingsOfAll 6 = .ok (.getfield 19, 3) := by decide +kernel
theorem dX7_crossingsOfAll_9 : decode cX7_crossingsOfAll 9 = .ok (.invokevirtual 65, 3) := by decide +kernel
theorem dX7_crossingsOfAll_12 : decode cX7_crossingsOfAll 12 = .ok (.if_icmp .ge 26, 3) := by decide +kernel
theorem dX7_crossingsOfAll_15 : decode cX7_crossingsOfAll 15 = .ok (.iload_n 1, 1) := by decide +kernel
theorem dX7_crossingsOfAll_16 : decode cX7_crossingsOfAll 16 = .ok (.aload_n 0, 1) := by decide +kernel
theorem dX7_crossingsOfAll_17 : decode cX7_crossingsOfAll 17 = .ok (.getfield 19, 3) := by decide +kernel
theorem dX7_crossingsOfAll_20 : decode cX7_crossingsOfAll 20 = .ok (.iload_n 2, 1) := by decide +kernel
theorem dX7_crossingsOfAll_21 : decode cX7_crossingsOfAll 21 = .ok (.invokevirtual 102, 3) := by decide +kernel
theorem dX7_crossingsOfAll_24 : decode cX7_crossingsOfAll 24 = .ok (.invokevirtual 74, 3) := by decide +kernel
theorem dX7_crossingsOfAll_27 : decode cX7_crossingsOfAll 27 = .ok (.invokevirtual 106, 3) := by decide +kernel
theorem dX7_crossingsOfAll_30 : decode cX7_crossingsOfAll 30 = .ok (.iadd, 1) := by decide +kernel
theorem dX7_crossingsOfAll_31 : decode cX7_crossingsOfAll 31 = .ok (.istore_n 1, 1) := by decide +kernel
theorem dX7_crossingsOfAll_32 : decode cX7_crossingsOfAll 32 = .ok (.iinc 2 1, 3) := by decide +kernel
theorem dX7_crossingsOfAll_35 : decode cX7_crossingsOfAll 35 = .ok (.goto (-31), 3) := by decide +kernel
theorem dX7_crossingsOfAll_38 : decode cX7_crossingsOfAll 38 = .ok (.iload_n 1, 1) := by decide +kernel
theorem dX7_crossingsOfAll_39 : decode cX7_crossingsOfAll 39 = .ok (.ireturn, 1) := by decide +kernel
theorem dX7_doughUsedByStrands_0 : decode cX7_doughUsedByStrands 0 = .ok (.iconst 0, 1) := by decide +kernel
theorem dX7_doughUsedByStrands_1 : decode cX7_doughUsedByStrands 1 = .ok (.istore_n 1, 1) := by decide +kernel
theorem dX7_doughUsedByStrands_2 : decode cX7_doughUsedByStrands 2 = .ok (.iconst 0, 1) := by decide +kernel
theorem dX7_doughUsedByStrands_3 : decode cX7_doughUsedByStrands 3 = .ok (.istore_n 2, 1) := by decide +kernel
theorem dX7_doughUsedByStrands_4 : decode cX7_doughUsedByStrands 4 = .ok (.iload_n 2, 1) := by decide +kernel
theorem dX7_doughUsedByStrands_5 : decode cX7_doughUsedByStrands 5 = .ok (.aload_n 0, 1) := by decide +kernel
theorem dX7_doughUsedByStrands_6 : decode cX7_doughUsedByStrands 6 = .ok (.getfield 19, 3) := by decide +kernel
theorem dX7_doughUsedByStrands_9 : decode cX7_doughUsedByStrands 9 = .ok (.invokevirtual 65, 3) := by decide +kernel
theorem dX7_doughUsedByStrands_12 : decode cX7_doughUsedByStrands 12 = .ok (.if_icmp .ge 26, 3) := by decide +kernel
theorem dX7_doughUsedByStrands_15 : decode cX7_doughUsedByStrands 15 = .ok (.iload_n 1, 1) := by decide +kernel
theorem dX7_doughUsedByStrands_16 : decode cX7_doughUsedByStrands 16 = .ok (.aload_n 0, 1) := by decide +kernel
theorem dX7_doughUsedByStrands_17 : decode cX7_doughUsedByStrands 17 = .ok (.getfield 19, 3) := by decide +kernel
theorem dX7_doughUsedByStrands_20 : decode cX7_doughUsedByStrands 20 = .ok (.iload_n 2, 1) := by decide +kernel
theorem dX7_doughUsedByStrands_21 : decode cX7_doughUsedByStrands 21 = .ok (.invokevirtual 102, 3) := by decide +kernel
theorem dX7_doughUsedByStrands_24 : decode cX7_doughUsedByStrands 24 = .ok (.invokevirtual 124, 3) := by decide +kernel
theorem dX7_doughUsedByStrands_27 : decode cX7_doughUsedByStrands 27 = .ok (.invokevirtual 331, 3) := by decide +kernel
theorem dX7_doughUsedByStrands_30 : decode cX7_doughUsedByStrands 30 = .ok (.iadd, 1) := by decide +kernel
theorem dX7_doughUsedByStrands_31 : decode cX7_doughUsedByStrands 31 = .ok (.istore_n 1, 1) := by decide +kernel
theorem dX7_doughUsedByStrands_32 : decode cX7_doughUsedByStrands 32 = .ok (.iinc 2 1, 3) := by decide +kernel
theorem dX7_doughUsedByStrands_35 : decode cX7_doughUsedByStrands 35 = .ok (.goto (-31), 3) := by decide +kernel
theorem dX7_doughUsedByStrands_38 : decode cX7_doughUsedByStrands 38 = .ok (.iload_n 1, 1) := by decide +kernel
theorem dX7_doughUsedByStrands_39 : decode cX7_doughUsedByStrands 39 = .ok (.ireturn, 1) := by decide +kernel
theorem dX7_kinds_0 : decode cX7_kinds 0 = .ok (.iconst 0, 1) := by decide +kernel
theorem dX7_kinds_1 : decode cX7_kinds 1 = .ok (.istore_n 1, 1) := by decide +kernel
theorem dX7_kinds_2 : decode cX7_kinds 2 = .ok (.iconst 0, 1) := by decide +kernel
theorem dX7_kinds_3 : decode cX7_kinds 3 = .ok (.istore_n 2, 1) := by decide +kernel
theorem dX7_kinds_4 : decode cX7_kinds 4 = .ok (.iload_n 2, 1) := by decide +kernel
theorem dX7_kinds_5 : decode cX7_kinds 5 = .ok (.aload_n 0, 1) := by decide +kernel
theorem dX7_kinds_6 : decode cX7_kinds 6 = .ok (.getfield 19, 3) := by decide +kernel
theorem dX7_kinds_9 : decode cX7_kinds 9 = .ok (.invokevirtual 65, 3) := by decide +kernel
theorem dX7_kinds_12 : decode cX7_kinds 12 = .ok (.if_icmp .ge 21, 3) := by decide +kernel
theorem dX7_kinds_15 : decode cX7_kinds 15 = .ok (.aload_n 0, 1) := by decide +kernel
theorem dX7_kinds_16 : decode cX7_kinds 16 = .ok (.iload_n 2, 1) := by decide +kernel
theorem dX7_kinds_17 : decode cX7_kinds 17 = .ok (.invokevirtual 319, 3) := by decide +kernel
theorem dX7_kinds_20 : decode cX7_kinds 20 = .ok (.iload_n 2, 1) := by decide +kernel
theorem dX7_kinds_21 : decode cX7_kinds 21 = .ok (.if_icmp .ne 6, 3) := by decide +kernel
theorem dX7_kinds_24 : decode cX7_kinds 24 = .ok (.iinc 1 1, 3) := by decide +kernel
theorem dX7_kinds_27 : decode cX7_kinds 27 = .ok (.iinc 2 1, 3) := by decide +kernel
theorem dX7_kinds_30 : decode cX7_kinds 30 = .ok (.goto (-26), 3) := by decide +kernel
theorem dX7_kinds_33 : decode cX7_kinds 33 = .ok (.iload_n 1, 1) := by decide +kernel
theorem dX7_kinds_34 : decode cX7_kinds 34 = .ok (.ireturn, 1) := by decide +kernel
theorem dX7_firstAlike_0 : decode cX7_firstAlike 0 = .ok (.aload_n 0, 1) := by decide +kernel
theorem dX7_firstAlike_1 : decode cX7_firstAlike 1 = .ok (.getfield 19, 3) := by decide +kernel
theorem dX7_firstAlike_4 : decode cX7_firstAlike 4 = .ok (.iload_n 1, 1) := by decide +kernel
theorem dX7_firstAlike_5 : decode cX7_firstAlike 5 = .ok (.invokevirtual 102, 3) := by decide +kernel
theorem dX7_firstAlike_8 : decode cX7_firstAlike 8 = .ok (.invokevirtual 209, 3) := by decide +kernel
theorem dX7_firstAlike_11 : decode cX7_firstAlike 11 = .ok (.astore_n 2, 1) := by decide +kernel
theorem dX7_firstAlike_12 : decode cX7_firstAlike 12 = .ok (.iconst 0, 1) := by decide +kernel
theorem dX7_firstAlike_13 : decode cX7_firstAlike 13 = .ok (.istore_n 3, 1) := by decide +kernel
theorem dX7_firstAlike_14 : decode cX7_firstAlike 14 = .ok (.iload_n 3, 1) := by decide +kernel
theorem dX7_firstAlike_15 : decode cX7_firstAlike 15 = .ok (.iload_n 1, 1) := by decide +kernel
theorem dX7_firstAlike_16 : decode cX7_firstAlike 16 = .ok (.if_icmp .ge 29, 3) := by decide +kernel
theorem dX7_firstAlike_19 : decode cX7_firstAlike 19 = .ok (.aload_n 0, 1) := by decide +kernel
theorem dX7_firstAlike_20 : decode cX7_firstAlike 20 = .ok (.getfield 19, 3) := by decide +kernel
theorem dX7_firstAlike_23 : decode cX7_firstAlike 23 = .ok (.iload_n 3, 1) := by decide +kernel
theorem dX7_firstAlike_24 : decode cX7_firstAlike 24 = .ok (.invokevirtual 102, 3) := by decide +kernel
theorem dX7_firstAlike_27 : decode cX7_firstAlike 27 = .ok (.invokevirtual 209, 3) := by decide +kernel
theorem dX7_firstAlike_30 : decode cX7_firstAlike 30 = .ok (.aload_n 2, 1) := by decide +kernel
theorem dX7_firstAlike_31 : decode cX7_firstAlike 31 = .ok (.invokevirtual 334, 3) := by decide +kernel
theorem dX7_firstAlike_34 : decode cX7_firstAlike 34 = .ok (.ifCond .eq 5, 3) := by decide +kernel
theorem dX7_firstAlike_37 : decode cX7_firstAlike 37 = .ok (.iload_n 3, 1) := by decide +kernel
theorem dX7_firstAlike_38 : decode cX7_firstAlike 38 = .ok (.ireturn, 1) := by decide +kernel
theorem dX7_firstAlike_39 : decode cX7_firstAlike 39 = .ok (.iinc 3 1, 3) := by decide +kernel
theorem dX7_firstAlike_42 : decode cX7_firstAlike 42 = .ok (.goto (-28), 3) := by decide +kernel
theorem dX7_firstAlike_45 : decode cX7_firstAlike 45 = .ok (.iload_n 1, 1) := by decide +kernel
theorem dX7_firstAlike_46 : decode cX7_firstAlike 46 = .ok (.ireturn, 1) := by decide +kernel
theorem dX7_looseSizeIfChanged_0 : decode cX7_looseSizeIfChanged 0 = .ok (.aload_n 0, 1) := by decide +kernel
theorem dX7_looseSizeIfChanged_1 : decode cX7_looseSizeIfChanged 1 = .ok (.getfield 47, 3) := by decide +kernel
theorem dX7_looseSizeIfChanged_4 : decode cX7_looseSizeIfChanged 4 = .ok (.aload_n 0, 1) := by decide +kernel
theorem dX7_looseSizeIfChanged_5 : decode cX7_looseSizeIfChanged 5 = .ok (.getfield 19, 3) := by decide +kernel
theorem dX7_looseSizeIfChanged_8 : decode cX7_looseSizeIfChanged 8 = .ok (.iload_n 1, 1) := by decide +kernel
theorem dX7_looseSizeIfChanged_9 : decode cX7_looseSizeIfChanged 9 = .ok (.invokevirtual 102, 3) := by decide +kernel
theorem dX7_looseSizeIfChanged_12 : decode cX7_looseSizeIfChanged 12 = .ok (.invokevirtual 74, 3) := by decide +kernel
theorem dX7_looseSizeIfChanged_15 : decode cX7_looseSizeIfChanged 15 = .ok (.iload_n 2, 1) := by decide +kernel
theorem dX7_looseSizeIfChanged_16 : decode cX7_looseSizeIfChanged 16 = .ok (.invokevirtual 279, 3) := by decide +kernel
theorem dX7_looseSizeIfChanged_19 : decode cX7_looseSizeIfChanged 19 = .ok (.aload_n 0, 1) := by decide +kernel
theorem dX7_looseSizeIfChanged_20 : decode cX7_looseSizeIfChanged 20 = .ok (.getfield 51, 3) := by decide +kernel
theorem dX7_looseSizeIfChanged_23 : decode cX7_looseSizeIfChanged 23 = .ok (.aload_n 0, 1) := by decide +kernel
theorem dX7_looseSizeIfChanged_24 : decode cX7_looseSizeIfChanged 24 = .ok (.getfield 47, 3) := by decide +kernel
theorem dX7_looseSizeIfChanged_27 : decode cX7_looseSizeIfChanged 27 = .ok (.invokevirtual 338, 3) := by decide +kernel
theorem dX7_looseSizeIfChanged_30 : decode cX7_looseSizeIfChanged 30 = .ok (.aload_n 0, 1) := by decide +kernel
theorem dX7_looseSizeIfChanged_31 : decode cX7_looseSizeIfChanged 31 = .ok (.getfield 51, 3) := by decide +kernel
theorem dX7_looseSizeIfChanged_34 : decode cX7_looseSizeIfChanged 34 = .ok (.invokevirtual 106, 3) := by decide +kernel
theorem dX7_looseSizeIfChanged_37 : decode cX7_looseSizeIfChanged 37 = .ok (.ireturn, 1) := by decide +kernel
theorem dX7_likeness_0 : decode cX7_likeness 0 = .ok (.aload_n 0, 1) := by decide +kernel
theorem dX7_likeness_1 : decode cX7_likeness 1 = .ok (.getfield 19, 3) := by decide +kernel
theorem dX7_likeness_4 : decode cX7_likeness 4 = .ok (.iload_n 2, 1) := by decide +kernel
theorem dX7_likeness_5 : decode cX7_likeness 5 = .ok (.invokevirtual 102, 3) := by decide +kernel
theorem dX7_likeness_8 : decode cX7_likeness 8 = .ok (.invokevirtual 209, 3) := by decide +kernel
theorem dX7_likeness_11 : decode cX7_likeness 11 = .ok (.astore_n 3, 1) := by decide +kernel
theorem dX7_likeness_12 : decode cX7_likeness 12 = .ok (.aload_n 0, 1) := by decide +kernel
theorem dX7_likeness_13 : decode cX7_likeness 13 = .ok (.getfield 19, 3) := by decide +kernel
theorem dX7_likeness_16 : decode cX7_likeness 16 = .ok (.iload_n 1, 1) := by decide +kernel
theorem dX7_likeness_17 : decode cX7_likeness 17 = .ok (.invokevirtual 102, 3) := by decide +kernel
theorem dX7_likeness_20 : decode cX7_likeness 20 = .ok (.invokevirtual 209, 3) := by decide +kernel
theorem dX7_likeness_23 : decode cX7_likeness 23 = .ok (.aload_n 3, 1) := by decide +kernel
theorem dX7_likeness_24 : decode cX7_likeness 24 = .ok (.invokevirtual 334, 3) := by decide +kernel
theorem dX7_likeness_27 : decode cX7_likeness 27 = .ok (.ifCond .eq 5, 3) := by decide +kernel
theorem dX7_likeness_30 : decode cX7_likeness 30 = .ok (.iconst 1, 1) := by decide +kernel
theorem dX7_likeness_31 : decode cX7_likeness 31 = .ok (.ireturn, 1) := by decide +kernel
theorem dX7_likeness_32 : decode cX7_likeness 32 = .ok (.iconst 0, 1) := by decide +kernel
theorem dX7_likeness_33 : decode cX7_likeness 33 = .ok (.istore 4, 2) := by decide +kernel
theorem dX7_likeness_35 : decode cX7_likeness 35 = .ok (.iload 4, 2) := by decide +kernel
theorem dX7_likeness_37 : decode cX7_likeness 37 = .ok (.iconst 2, 1) := by decide +kernel
theorem dX7_likeness_38 : decode cX7_likeness 38 = .ok (.if_icmp .gt 56, 3) := by decide +kernel
theorem dX7_likeness_41 : decode cX7_likeness 41 = .ok (.aload_n 0, 1) := by decide +kernel
theorem dX7_likeness_42 : decode cX7_likeness 42 = .ok (.getfield 47, 3) := by decide +kernel
theorem dX7_likeness_45 : decode cX7_likeness 45 = .ok (.aload_n 0, 1) := by decide +kernel
theorem dX7_likeness_46 : decode cX7_likeness 46 = .ok (.getfield 19, 3) := by decide +kernel
theorem dX7_likeness_49 : decode cX7_likeness 49 = .ok (.iload_n 1, 1) := by decide +kernel
theorem dX7_likeness_50 : decode cX7_likeness 50 = .ok (.invokevirtual 102, 3) := by decide +kernel
theorem dX7_likeness_53 : decode cX7_likeness 53 = .ok (.invokevirtual 74, 3) := by decide +kernel
theorem dX7_likeness_56 : decode cX7_likeness 56 = .ok (.iload 4, 2) := by decide +kernel
theorem dX7_likeness_58 : decode cX7_likeness 58 = .ok (.invokevirtual 279, 3) := by decide +kernel
theorem dX7_likeness_61 : decode cX7_likeness 61 = .ok (.aload_n 0, 1) := by decide +kernel
theorem dX7_likeness_62 : decode cX7_likeness 62 = .ok (.getfield 51, 3) := by decide +kernel
theorem dX7_likeness_65 : decode cX7_likeness 65 = .ok (.aload_n 0, 1) := by decide +kernel
theorem dX7_likeness_66 : decode cX7_likeness 66 = .ok (.getfield 47, 3) := by decide +kernel
theorem dX7_likeness_69 : decode cX7_likeness 69 = .ok (.invokevirtual 338, 3) := by decide +kernel
theorem dX7_likeness_72 : decode cX7_likeness 72 = .ok (.aload_n 0, 1) := by decide +kernel
theorem dX7_likeness_73 : decode cX7_likeness 73 = .ok (.getfield 51, 3) := by decide +kernel
theorem dX7_likeness_76 : decode cX7_likeness 76 = .ok (.aload_n 3, 1) := by decide +kernel
theorem dX7_likeness_77 : decode cX7_likeness 77 = .ok (.invokevirtual 334, 3) := by decide +kernel
theorem dX7_likeness_80 : decode cX7_likeness 80 = .ok (.ifCond .eq 8, 3) := by decide +kernel
theorem dX7_likeness_83 : decode cX7_likeness 83 = .ok (.iconst 2, 1) := by decide +kernel
theorem dX7_likeness_84 : decode cX7_likeness 84 = .ok (.iload 4, 2) := by decide +kernel
theorem dX7_likeness_86 : decode cX7_likeness 86 = .ok (.iadd, 1) := by decide +kernel
theorem dX7_likeness_87 : decode cX7_likeness 87 = .ok (.ireturn, 1) := by decide +kernel
theorem dX7_likeness_88 : decode cX7_likeness 88 = .ok (.iinc 4 1, 3) := by decide +kernel
theorem dX7_likeness_91 : decode cX7_likeness 91 = .ok (.goto (-56), 3) := by decide +kernel
theorem dX7_likeness_94 : decode cX7_likeness 94 = .ok (.iconst 0, 1) := by decide +kernel
theorem dX7_likeness_95 : decode cX7_likeness 95 = .ok (.ireturn, 1) := by decide +kernel
theorem dX7_hashOfLoaf_0 : decode cX7_hashOfLoaf 0 = .ok (.lload_n 1, 1) := by decide +kernel
theorem dX7_hashOfLoaf_1 : decode cX7_hashOfLoaf 1 = .ok (.lstore 4, 2) := by decide +kernel
theorem dX7_hashOfLoaf_3 : decode cX7_hashOfLoaf 3 = .ok (.iconst 0, 1) := by decide +kernel
theorem dX7_hashOfLoaf_4 : decode cX7_hashOfLoaf 4 = .ok (.istore 6, 2) := by decide +kernel
theorem dX7_hashOfLoaf_6 : decode cX7_hashOfLoaf 6 = .ok (.iload 6, 2) := by decide +kernel
theorem dX7_hashOfLoaf_8 : decode cX7_hashOfLoaf 8 = .ok (.bipush 10, 2) := by decide +kernel
theorem dX7_hashOfLoaf_10 : decode cX7_hashOfLoaf 10 = .ok (.if_icmp .gt 26, 3) := by decide +kernel
theorem dX7_hashOfLoaf_13 : decode cX7_hashOfLoaf 13 = .ok (.ldc2_w 232, 3) := by decide +kernel
theorem dX7_hashOfLoaf_16 : decode cX7_hashOfLoaf 16 = .ok (.lload 4, 2) := by decide +kernel
theorem dX7_hashOfLoaf_18 : decode cX7_hashOfLoaf 18 = .ok (.lmul, 1) := by decide +kernel
theorem dX7_hashOfLoaf_19 : decode cX7_hashOfLoaf 19 = .ok (.aload_n 0, 1) := by decide +kernel
theorem dX7_hashOfLoaf_20 : decode cX7_hashOfLoaf 20 = .ok (.iload_n 3, 1) := by decide +kernel
theorem dX7_hashOfLoaf_21 : decode cX7_hashOfLoaf 21 = .ok (.iload 6, 2) := by decide +kernel
theorem dX7_hashOfLoaf_23 : decode cX7_hashOfLoaf 23 = .ok (.invokevirtual 206, 3) := by decide +kernel
theorem dX7_hashOfLoaf_26 : decode cX7_hashOfLoaf 26 = .ok (.i2l, 1) := by decide +kernel
theorem dX7_hashOfLoaf_27 : decode cX7_hashOfLoaf 27 = .ok (.ladd, 1) := by decide +kernel
theorem dX7_hashOfLoaf_28 : decode cX7_hashOfLoaf 28 = .ok (.lstore 4, 2) := by decide +kernel
theorem dX7_hashOfLoaf_30 : decode cX7_hashOfLoaf 30 = .ok (.iinc 6 1, 3) := by decide +kernel
theorem dX7_hashOfLoaf_33 : decode cX7_hashOfLoaf 33 = .ok (.goto (-27), 3) := by decide +kernel
theorem dX7_hashOfLoaf_36 : decode cX7_hashOfLoaf 36 = .ok (.ldc2_w 232, 3) := by decide +kernel
theorem dX7_hashOfLoaf_39 : decode cX7_hashOfLoaf 39 = .ok (.lload 4, 2) := by decide +kernel
theorem dX7_hashOfLoaf_41 : decode cX7_hashOfLoaf 41 = .ok (.lmul, 1) := by decide +kernel
theorem dX7_hashOfLoaf_42 : decode cX7_hashOfLoaf 42 = .ok (.aload_n 0, 1) := by decide +kernel
theorem dX7_hashOfLoaf_43 : decode cX7_hashOfLoaf 43 = .ok (.getfield 19, 3) := by decide +kernel
theorem dX7_hashOfLoaf_46 : decode cX7_hashOfLoaf 46 = .ok (.iload_n 3, 1) := by decide +kernel
theorem dX7_hashOfLoaf_47 : decode cX7_hashOfLoaf 47 = .ok (.invokevirtual 102, 3) := by decide +kernel
theorem dX7_hashOfLoaf_50 : decode cX7_hashOfLoaf 50 = .ok (.invokevirtual 124, 3) := by decide +kernel
theorem dX7_hashOfLoaf_53 : decode cX7_hashOfLoaf 53 = .ok (.invokevirtual 224, 3) := by decide +kernel
theorem dX7_hashOfLoaf_56 : decode cX7_hashOfLoaf 56 = .ok (.i2l, 1) := by decide +kernel
theorem dX7_hashOfLoaf_57 : decode cX7_hashOfLoaf 57 = .ok (.ladd, 1) := by decide +kernel
theorem dX7_hashOfLoaf_58 : decode cX7_hashOfLoaf 58 = .ok (.lstore 4, 2) := by decide +kernel
theorem dX7_hashOfLoaf_60 : decode cX7_hashOfLoaf 60 = .ok (.iconst 0, 1) := by decide +kernel
theorem dX7_hashOfLoaf_61 : decode cX7_hashOfLoaf 61 = .ok (.istore 6, 2) := by decide +kernel
theorem dX7_hashOfLoaf_63 : decode cX7_hashOfLoaf 63 = .ok (.iload 6, 2) := by decide +kernel
theorem dX7_hashOfLoaf_65 : decode cX7_hashOfLoaf 65 = .ok (.iconst 3, 1) := by decide +kernel
theorem dX7_hashOfLoaf_66 : decode cX7_hashOfLoaf 66 = .ok (.if_icmp .gt 26, 3) := by decide +kernel
theorem dX7_hashOfLoaf_69 : decode cX7_hashOfLoaf 69 = .ok (.ldc2_w 232, 3) := by decide +kernel
theorem dX7_hashOfLoaf_72 : decode cX7_hashOfLoaf 72 = .ok (.lload 4, 2) := by decide +kernel
theorem dX7_hashOfLoaf_74 : decode cX7_hashOfLoaf 74 = .ok (.lmul, 1) := by decide +kernel
theorem dX7_hashOfLoaf_75 : decode cX7_hashOfLoaf 75 = .ok (.aload_n 0, 1) := by decide +kernel
theorem dX7_hashOfLoaf_76 : decode cX7_hashOfLoaf 76 = .ok (.iload_n 3, 1) := by decide +kernel
theorem dX7_hashOfLoaf_77 : decode cX7_hashOfLoaf 77 = .ok (.iload 6, 2) := by decide +kernel
theorem dX7_hashOfLoaf_79 : decode cX7_hashOfLoaf 79 = .ok (.invokevirtual 218, 3) := by decide +kernel
theorem dX7_hashOfLoaf_82 : decode cX7_hashOfLoaf 82 = .ok (.i2l, 1) := by decide +kernel
theorem dX7_hashOfLoaf_83 : decode cX7_hashOfLoaf 83 = .ok (.ladd, 1) := by decide +kernel
theorem dX7_hashOfLoaf_84 : decode cX7_hashOfLoaf 84 = .ok (.lstore 4, 2) := by decide +kernel
theorem dX7_hashOfLoaf_86 : decode cX7_hashOfLoaf 86 = .ok (.iinc 6 1, 3) := by decide +kernel
theorem dX7_hashOfLoaf_89 : decode cX7_hashOfLoaf 89 = .ok (.goto (-26), 3) := by decide +kernel
theorem dX7_hashOfLoaf_92 : decode cX7_hashOfLoaf 92 = .ok (.aload_n 0, 1) := by decide +kernel
theorem dX7_hashOfLoaf_93 : decode cX7_hashOfLoaf 93 = .ok (.getfield 19, 3) := by decide +kernel
theorem dX7_hashOfLoaf_96 : decode cX7_hashOfLoaf 96 = .ok (.iload_n 3, 1) := by decide +kernel
theorem dX7_hashOfLoaf_97 : decode cX7_hashOfLoaf 97 = .ok (.invokevirtual 102, 3) := by decide +kernel
theorem dX7_hashOfLoaf_100 : decode cX7_hashOfLoaf 100 = .ok (.lload 4, 2) := by decide +kernel
theorem dX7_hashOfLoaf_102 : decode cX7_hashOfLoaf 102 = .ok (.invokevirtual 341, 3) := by decide +kernel
theorem dX7_hashOfLoaf_105 : decode cX7_hashOfLoaf 105 = .ok (.lstore 4, 2) := by decide +kernel
theorem dX7_hashOfLoaf_107 : decode cX7_hashOfLoaf 107 = .ok (.iconst 0, 1) := by decide +kernel
theorem dX7_hashOfLoaf_108 : decode cX7_hashOfLoaf 108 = .ok (.istore 6, 2) := by decide +kernel
theorem dX7_hashOfLoaf_110 : decode cX7_hashOfLoaf 110 = .ok (.iload 6, 2) := by decide +kernel
theorem dX7_hashOfLoaf_112 : decode cX7_hashOfLoaf 112 = .ok (.aload_n 0, 1) := by decide +kernel
theorem dX7_hashOfLoaf_113 : decode cX7_hashOfLoaf 113 = .ok (.getfield 19, 3) := by decide +kernel
theorem dX7_hashOfLoaf_116 : decode cX7_hashOfLoaf 116 = .ok (.invokevirtual 65, 3) := by decide +kernel
theorem dX7_hashOfLoaf_119 : decode cX7_hashOfLoaf 119 = .ok (.if_icmp .ge 26, 3) := by decide +kernel
theorem dX7_hashOfLoaf_122 : decode cX7_hashOfLoaf 122 = .ok (.ldc2_w 232, 3) := by decide +kernel
theorem dX7_hashOfLoaf_125 : decode cX7_hashOfLoaf 125 = .ok (.lload 4, 2) := by decide +kernel
theorem dX7_hashOfLoaf_127 : decode cX7_hashOfLoaf 127 = .ok (.lmul, 1) := by decide +kernel
theorem dX7_hashOfLoaf_128 : decode cX7_hashOfLoaf 128 = .ok (.aload_n 0, 1) := by decide +kernel
theorem dX7_hashOfLoaf_129 : decode cX7_hashOfLoaf 129 = .ok (.iload_n 3, 1) := by decide +kernel
theorem dX7_hashOfLoaf_130 : decode cX7_hashOfLoaf 130 = .ok (.iload 6, 2) := by decide +kernel
theorem dX7_hashOfLoaf_132 : decode cX7_hashOfLoaf 132 = .ok (.invokevirtual 221, 3) := by decide +kernel
theorem dX7_hashOfLoaf_135 : decode cX7_hashOfLoaf 135 = .ok (.i2l, 1) := by decide +kernel
theorem dX7_hashOfLoaf_136 : decode cX7_hashOfLoaf 136 = .ok (.ladd, 1) := by decide +kernel
theorem dX7_hashOfLoaf_137 : decode cX7_hashOfLoaf 137 = .ok (.lstore 4, 2) := by decide +kernel
theorem dX7_hashOfLoaf_139 : decode cX7_hashOfLoaf 139 = .ok (.iinc 6 1, 3) := by decide +kernel
theorem dX7_hashOfLoaf_142 : decode cX7_hashOfLoaf 142 = .ok (.goto (-32), 3) := by decide +kernel
theorem dX7_hashOfLoaf_145 : decode cX7_hashOfLoaf 145 = .ok (.lload 4, 2) := by decide +kernel
theorem dX7_hashOfLoaf_147 : decode cX7_hashOfLoaf 147 = .ok (.lreturn, 1) := by decide +kernel
theorem dX7_bitsOfShare_0 : decode cX7_bitsOfShare 0 = .ok (.dload_n 0, 1) := by decide +kernel
theorem dX7_bitsOfShare_1 : decode cX7_bitsOfShare 1 = .ok (.dconst 0, 1) := by decide +kernel
theorem dX7_bitsOfShare_2 : decode cX7_bitsOfShare 2 = .ok (.dcmp .g, 1) := by decide +kernel
theorem dX7_bitsOfShare_3 : decode cX7_bitsOfShare 3 = .ok (.ifCond .gt 5, 3) := by decide +kernel
theorem dX7_bitsOfShare_6 : decode cX7_bitsOfShare 6 = .ok (.lconst 0, 1) := by decide +kernel
theorem dX7_bitsOfShare_7 : decode cX7_bitsOfShare 7 = .ok (.lreturn, 1) := by decide +kernel
theorem dX7_bitsOfShare_8 : decode cX7_bitsOfShare 8 = .ok (.dload_n 0, 1) := by decide +kernel
theorem dX7_bitsOfShare_9 : decode cX7_bitsOfShare 9 = .ok (.dstore_n 2, 1) := by decide +kernel
theorem dX7_bitsOfShare_10 : decode cX7_bitsOfShare 10 = .ok (.ldc2_w 345, 3) := by decide +kernel
theorem dX7_bitsOfShare_13 : decode cX7_bitsOfShare 13 = .ok (.lstore 4, 2) := by decide +kernel
theorem dX7_bitsOfShare_15 : decode cX7_bitsOfShare 15 = .ok (.iconst 0, 1) := by decide +kernel
theorem dX7_bitsOfShare_16 : decode cX7_bitsOfShare 16 = .ok (.istore 6, 2) := by decide +kernel
theorem dX7_bitsOfShare_18 : decode cX7_bitsOfShare 18 = .ok (.iload 6, 2) := by decide +kernel
theorem dX7_bitsOfShare_20 : decode cX7_bitsOfShare 20 = .ok (.sipush 1023, 3) := by decide +kernel
theorem dX7_bitsOfShare_23 : decode cX7_bitsOfShare 23 = .ok (.if_icmp .ge 27, 3) := by decide +kernel
theorem dX7_bitsOfShare_26 : decode cX7_bitsOfShare 26 = .ok (.dload_n 2, 1) := by decide +kernel
theorem dX7_bitsOfShare_27 : decode cX7_bitsOfShare 27 = .ok (.dconst 1, 1) := by decide +kernel
theorem dX7_bitsOfShare_28 : decode cX7_bitsOfShare 28 = .ok (.dcmp .g, 1) := by decide +kernel
theorem dX7_bitsOfShare_29 : decode cX7_bitsOfShare 29 = .ok (.ifCond .ge 21, 3) := by decide +kernel
theorem dX7_bitsOfShare_32 : decode cX7_bitsOfShare 32 = .ok (.dload_n 2, 1) := by decide +kernel
theorem dX7_bitsOfShare_33 : decode cX7_bitsOfShare 33 = .ok (.ldc2_w 347, 3) := by decide +kernel
theorem dX7_bitsOfShare_36 : decode cX7_bitsOfShare 36 = .ok (.dmul, 1) := by decide +kernel
theorem dX7_bitsOfShare_37 : decode cX7_bitsOfShare 37 = .ok (.dstore_n 2, 1) := by decide +kernel
theorem dX7_bitsOfShare_38 : decode cX7_bitsOfShare 38 = .ok (.lload 4, 2) := by decide +kernel
theorem dX7_bitsOfShare_40 : decode cX7_bitsOfShare 40 = .ok (.lconst 1, 1) := by decide +kernel
theorem dX7_bitsOfShare_41 : decode cX7_bitsOfShare 41 = .ok (.lsub, 1) := by decide +kernel
theorem dX7_bitsOfShare_42 : decode cX7_bitsOfShare 42 = .ok (.lstore 4, 2) := by decide +kernel
theorem dX7_bitsOfShare_44 : decode cX7_bitsOfShare 44 = .ok (.iinc 6 1, 3) := by decide +kernel
theorem dX7_bitsOfShare_47 : decode cX7_bitsOfShare 47 = .ok (.goto (-29), 3) := by decide +kernel
theorem dX7_bitsOfShare_50 : decode cX7_bitsOfShare 50 = .ok (.dload_n 2, 1) := by decide +kernel
theorem dX7_bitsOfShare_51 : decode cX7_bitsOfShare 51 = .ok (.dconst 1, 1) := by decide +kernel
theorem dX7_bitsOfShare_52 : decode cX7_bitsOfShare 52 = .ok (.dsub, 1) := by decide +kernel
theorem dX7_bitsOfShare_53 : decode cX7_bitsOfShare 53 = .ok (.ldc2_w 349, 3) := by decide +kernel
theorem dX7_bitsOfShare_56 : decode cX7_bitsOfShare 56 = .ok (.dmul, 1) := by decide +kernel
theorem dX7_bitsOfShare_57 : decode cX7_bitsOfShare 57 = .ok (.d2l, 1) := by decide +kernel
theorem dX7_bitsOfShare_58 : decode cX7_bitsOfShare 58 = .ok (.lstore 6, 2) := by decide +kernel
theorem dX7_bitsOfShare_60 : decode cX7_bitsOfShare 60 = .ok (.lload 4, 2) := by decide +kernel
theorem dX7_bitsOfShare_62 : decode cX7_bitsOfShare 62 = .ok (.bipush 52, 2) := by decide +kernel
theorem dX7_bitsOfShare_64 : decode cX7_bitsOfShare 64 = .ok (.lshl, 1) := by decide +kernel
theorem dX7_bitsOfShare_65 : decode cX7_bitsOfShare 65 = .ok (.lload 6, 2) := by decide +kernel
theorem dX7_bitsOfShare_67 : decode cX7_bitsOfShare 67 = .ok (.ladd, 1) := by decide +kernel
theorem dX7_bitsOfShare_68 : decode cX7_bitsOfShare 68 = .ok (.lreturn, 1) := by decide +kernel
theorem dX8_init_0 : decode cX8_init 0 = .ok (.aload_n 0, 1) := by decide +kernel
theorem dX8_init_1 : decode cX8_init 1 = .ok (.invokespecial 1, 3) := by decide +kernel
theorem dX8_init_4 : decode cX8_init 4 = .ok (.aload_n 0, 1) := by decide +kernel
theorem dX8_init_5 : decode cX8_init 5 = .ok (.sipush 160, 3) := by decide +kernel
theorem dX8_init_8 : decode cX8_init 8 = .ok (.newarray .int, 2) := by decide +kernel
theorem dX8_init_10 : decode cX8_init 10 = .ok (.putfield 7, 3) := by decide +kernel
theorem dX8_init_13 : decode cX8_init 13 = .ok (.aload_n 0, 1) := by decide +kernel
theorem dX8_init_14 : decode cX8_init 14 = .ok (.sipush 960, 3) := by decide +kernel
theorem dX8_init_17 : decode cX8_init 17 = .ok (.newarray .int, 2) := by decide +kernel
theorem dX8_init_19 : decode cX8_init 19 = .ok (.putfield 13, 3) := by decide +kernel
theorem dX8_init_22 : decode cX8_init 22 = .ok (.aload_n 0, 1) := by decide +kernel
theorem dX8_init_23 : decode cX8_init 23 = .ok (.sipush 160, 3) := by decide +kernel
theorem dX8_init_26 : decode cX8_init 26 = .ok (.newarray .int, 2) := by decide +kernel
theorem dX8_init_28 : decode cX8_init 28 = .ok (.putfield 16, 3) := by decide +kernel
theorem dX8_init_31 : decode cX8_init 31 = .ok (.aload_n 0, 1) := by decide +kernel
theorem dX8_init_32 : decode cX8_init 32 = .ok (.bipush 60, 2) := by decide +kernel
theorem dX8_init_34 : decode cX8_init 34 = .ok (.newarray .int, 2) := by decide +kernel
theorem dX8_init_36 : decode cX8_init 36 = .ok (.putfield 19, 3) := by decide +kernel
theorem dX8_init_39 : decode cX8_init 39 = .ok (.aload_n 0, 1) := by decide +kernel
theorem dX8_init_40 : decode cX8_init 40 = .ok (.bipush 50, 2) := by decide +kernel
theorem dX8_init_42 : decode cX8_init 42 = .ok (.newarray .int, 2) := by decide +kernel
theorem dX8_init_44 : decode cX8_init 44 = .ok (.putfield 22, 3) := by decide +kernel
theorem dX8_init_47 : decode cX8_init 47 = .ok (.aload_n 0, 1) := by decide +kernel
theorem dX8_init_48 : decode cX8_init 48 = .ok (.bipush 7, 2) := by decide +kernel
theorem dX8_init_50 : decode cX8_init 50 = .ok (.newarray .int, 2) := by decide +kernel
theorem dX8_init_52 : decode cX8_init 52 = .ok (.putfield 25, 3) := by decide +kernel
theorem dX8_init_55 : decode cX8_init 55 = .ok (.aload_n 0, 1) := by decide +kernel
theorem dX8_init_56 : decode cX8_init 56 = .ok (.bipush 7, 2) := by decide +kernel
theorem dX8_init_58 : decode cX8_init 58 = .ok (.newarray .int, 2) := by decide +kernel
theorem dX8_init_60 : decode cX8_init 60 = .ok (.putfield 28, 3) := by decide +kernel
theorem dX8_init_63 : decode cX8_init 63 = .ok (.aload_n 0, 1) := by decide +kernel
theorem dX8_init_64 : decode cX8_init 64 = .ok (.bipush 7, 2) := by decide +kernel
theorem dX8_init_66 : decode cX8_init 66 = .ok (.newarray .int, 2) := by decide +kernel
theorem dX8_init_68 : decode cX8_init 68 = .ok (.putfield 31, 3) := by decide +kernel
theorem dX8_init_71 : decode cX8_init 71 = .ok (.aload_n 0, 1) := by decide +kernel
theorem dX8_init_72 : decode cX8_init 72 = .ok (.bipush 50, 2) := by decide +kernel
theorem dX8_init_74 : decode cX8_init 74 = .ok (.newarray .int, 2) := by decide +kernel
theorem dX8_init_76 : decode cX8_init 76 = .ok (.putfield 34, 3) := by decide +kernel
theorem dX8_init_79 : decode cX8_init 79 = .ok (.aload_n 0, 1) := by decide +kernel
theorem dX8_init_80 : decode cX8_init 80 = .ok (.sipush 132, 3) := by decide +kernel
theorem dX8_init_83 : decode cX8_init 83 = .ok (.newarray .int, 2) := by decide +kernel
theorem dX8_init_85 : decode cX8_init 85 = .ok (.putfield 37, 3) := by decide +kernel
theorem dX8_init_88 : decode cX8_init 88 = .ok (.aload_n 0, 1) := by decide +kernel
theorem dX8_init_89 : decode cX8_init 89 = .ok (.iconst 0, 1) := by decide +kernel
theorem dX8_init_90 : decode cX8_init 90 = .ok (.putfield 40, 3) := by decide +kernel
theorem dX8_init_93 : decode cX8_init 93 = .ok (.aload_n 0, 1) := by decide +kernel
theorem dX8_init_94 : decode cX8_init 94 = .ok (.getfield 7, 3) := by decide +kernel
theorem dX8_init_97 : decode cX8_init 97 = .ok (.iconst 2, 1) := by decide +kernel
theorem dX8_init_98 : decode cX8_init 98 = .ok (.iconst (-1), 1) := by decide +kernel
theorem dX8_init_99 : decode cX8_init 99 = .ok (.iastore, 1) := by decide +kernel
theorem dX8_init_100 : decode cX8_init 100 = .ok (.aload_n 0, 1) := by decide +kernel
theorem dX8_init_101 : decode cX8_init 101 = .ok (.getfield 7, 3) := by decide +kernel
theorem dX8_init_104 : decode cX8_init 104 = .ok (.iconst 3, 1) := by decide +kernel
theorem dX8_init_105 : decode cX8_init 105 = .ok (.iconst (-1), 1) := by decide +kernel
theorem dX8_init_106 : decode cX8_init 106 = .ok (.iastore, 1) := by decide +kernel
theorem dX8_init_107 : decode cX8_init 107 = .ok (.return_, 1) := by decide +kernel
theorem dX8_thrown_0 : decode cX8_thrown 0 = .ok (.aload_n 0, 1) := by decide +kernel
theorem dX8_thrown_1 : decode cX8_thrown 1 = .ok (.getfield 40, 3) := by decide +kernel
theorem dX8_thrown_4 : decode cX8_thrown 4 = .ok (.ireturn, 1) := by decide +kernel
theorem dX8_fails_0 : decode cX8_fails 0 = .ok (.aload_n 0, 1) := by decide +kernel
theorem dX8_fails_1 : decode cX8_fails 1 = .ok (.iload_n 1, 1) := by decide +kernel
theorem dX8_fails_2 : decode cX8_fails 2 = .ok (.putfield 40, 3) := by decide +kernel
theorem dX8_fails_5 : decode cX8_fails 5 = .ok (.iconst 0, 1) := by decide +kernel
theorem dX8_fails_6 : decode cX8_fails 6 = .ok (.ireturn, 1) := by decide +kernel
theorem dX8_in_0 : decode cX8_in 0 = .ok (.iload_n 0, 1) := by decide +kernel
theorem dX8_in_1 : decode cX8_in 1 = .ok (.iload_n 1, 1) := by decide +kernel
theorem dX8_in_2 : decode cX8_in 2 = .ok (.if_icmp .lt 12, 3) := by decide +kernel
theorem dX8_in_5 : decode cX8_in 5 = .ok (.iload_n 0, 1) := by decide +kernel
theorem dX8_in_6 : decode cX8_in 6 = .ok (.iload_n 2, 1) := by decide +kernel
theorem dX8_in_7 : decode cX8_in 7 = .ok (.if_icmp .gt 7, 3) := by decide +kernel
theorem dX8_in_10 : decode cX8_in 10 = .ok (.iconst 1, 1) := by decide +kernel
theorem dX8_in_11 : decode cX8_in 11 = .ok (.goto 4, 3) := by decide +kernel
theorem dX8_in_14 : decode cX8_in 14 = .ok (.iconst 0, 1) := by decide +kernel
theorem dX8_in_15 : decode cX8_in 15 = .ok (.ireturn, 1) := by decide +kernel
theorem dX8_isLoaf_0 : decode cX8_isLoaf 0 = .ok (.iload_n 1, 1) := by decide +kernel
theorem dX8_isLoaf_1 : decode cX8_isLoaf 1 = .ok (.iconst 0, 1) := by decide +kernel
theorem dX8_isLoaf_2 : decode cX8_isLoaf 2 = .ok (.aload_n 0, 1) := by decide +kernel
theorem dX8_isLoaf_3 : decode cX8_isLoaf 3 = .ok (.getfield 7, 3) := by decide +kernel
theorem dX8_isLoaf_6 : decode cX8_isLoaf 6 = .ok (.iconst 0, 1) := by decide +kernel
theorem dX8_isLoaf_7 : decode cX8_isLoaf 7 = .ok (.iaload, 1) := by decide +kernel
theorem dX8_isLoaf_8 : decode cX8_isLoaf 8 = .ok (.iconst 1, 1) := by decide +kernel
theorem dX8_isLoaf_9 : decode cX8_isLoaf 9 = .ok (.isub, 1) := by decide +kernel
theorem dX8_isLoaf_10 : decode cX8_isLoaf 10 = .ok (.invokestatic 44, 3) := by decide +kernel
theorem dX8_isLoaf_13 : decode cX8_isLoaf 13 = .ok (.ireturn, 1) := by decide +kernel
theorem dX8_of_0 : decode cX8_of 0 = .ok (.aload_n 0, 1) := by decide +kernel
theorem dX8_of_1 : decode cX8_of 1 = .ok (.getfield 7, 3) := by decide +kernel
theorem dX8_of_4 : decode cX8_of 4 = .ok (.iconst 4, 1) := by decide +kernel
theorem dX8_of_5 : decode cX8_of 5 = .ok (.bipush 26, 2) := by decide +kernel
theorem dX8_of_7 : decode cX8_of 7 = .ok (.iload_n 1, 1) := by decide +kernel
theorem dX8_of_8 : decode cX8_of 8 = .ok (.imul, 1) := by decide +kernel
theorem dX8_of_9 : decode cX8_of 9 = .ok (.iadd, 1) := by decide +kernel
theorem dX8_of_10 : decode cX8_of 10 = .ok (.iload_n 2, 1) := by decide +kernel
theorem dX8_of_11 : decode cX8_of 11 = .ok (.iadd, 1) := by decide +kernel
theorem dX8_of_12 : decode cX8_of 12 = .ok (.iaload, 1) := by decide +kernel
theorem dX8_of_13 : decode cX8_of 13 = .ok (.ireturn, 1) := by decide +kernel
theorem dX8_store_0 : decode cX8_store 0 = .ok (.aload_n 0, 1) := by decide +kernel
theorem dX8_store_1 : decode cX8_store 1 = .ok (.getfield 7, 3) := by decide +kernel
theorem dX8_store_4 : decode cX8_store 4 = .ok (.iconst 4, 1) := by decide +kernel
theorem dX8_store_5 : decode cX8_store 5 = .ok (.bipush 26, 2) := by decide +kernel
theorem dX8_store_7 : decode cX8_store 7 = .ok (.iload_n 1, 1) := by decide +kernel
theorem dX8_store_8 : decode cX8_store 8 = .ok (.imul, 1) := by decide +kernel
theorem dX8_store_9 : decode cX8_store 9 = .ok (.iadd, 1) := by decide +kernel
theorem dX8_store_10 : decode cX8_store 10 = .ok (.iload_n 2, 1) := by decide +kernel
theorem dX8_store_11 : decode cX8_store 11 = .ok (.iadd, 1) := by decide +kernel
theorem dX8_store_12 : decode cX8_store 12 = .ok (.iload_n 3, 1) := by decide +kernel
theorem dX8_store_13 : decode cX8_store 13 = .ok (.iastore, 1) := by decide +kernel
theorem dX8_store_14 : decode cX8_store 14 = .ok (.return_, 1) := by decide +kernel
theorem dX8_records_0 : decode cX8_records 0 = .ok (.aload_n 0, 1) := by decide +kernel
theorem dX8_records_1 : decode cX8_records 1 = .ok (.getfield 48, 3) := by decide +kernel
theorem dX8_records_4 : decode cX8_records 4 = .ok (.bipush 6, 2) := by decide +kernel
theorem dX8_records_6 : decode cX8_records 6 = .ok (.if_icmp .ne 44, 3) := by decide +kernel
theorem dX8_records_9 : decode cX8_records 9 = .ok (.iconst 0, 1) := by decide +kernel
theorem dX8_records_10 : decode cX8_records 10 = .ok (.istore_n 1, 1) := by decide +kernel
theorem dX8_records_11 : decode cX8_records 11 = .ok (.iload_n 1, 1) := by decide +kernel
theorem dX8_records_12 : decode cX8_records 12 = .ok (.sipush 800, 3) := by decide +kernel
theorem dX8_records_15 : decode cX8_records 15 = .ok (.if_icmp .ge 25, 3) := by decide +kernel
theorem dX8_records_18 : decode cX8_records 18 = .ok (.aload_n 0, 1) := by decide +kernel
theorem dX8_records_19 : decode cX8_records 19 = .ok (.getfield 13, 3) := by decide +kernel
theorem dX8_records_22 : decode cX8_records 22 = .ok (.iload_n 1, 1) := by decide +kernel
theorem dX8_records_23 : decode cX8_records 23 = .ok (.aload_n 0, 1) := by decide +kernel
theorem dX8_records_24 : decode cX8_records 24 = .ok (.getfield 13, 3) := by decide +kernel
theorem dX8_records_27 : decode cX8_records 27 = .ok (.iload_n 1, 1) := by decide +kernel
theorem dX8_records_28 : decode cX8_records 28 = .ok (.sipush 160, 3) := by decide +kernel
theorem dX8_records_31 : decode cX8_records 31 = .ok (.iadd, 1) := by decide +kernel
theorem dX8_records_32 : decode cX8_records 32 = .ok (.iaload, 1) := by decide +kernel
theorem dX8_records_33 : decode cX8_records 33 = .ok (.iastore, 1) := by decide +kernel
theorem dX8_records_34 : decode cX8_records 34 = .ok (.iinc 1 1, 3) := by decide +kernel
theorem dX8_records_37 : decode cX8_records 37 = .ok (.goto (-26), 3) := by decide +kernel
theorem dX8_records_40 : decode cX8_records 40 = .ok (.aload_n 0, 1) := by decide +kernel
theorem dX8_records_41 : decode cX8_records 41 = .ok (.dup, 1) := by decide +kernel
theorem dX8_records_42 : decode cX8_records 42 = .ok (.getfield 48, 3) := by decide +kernel
theorem dX8_records_45 : decode cX8_records 45 = .ok (.iconst 1, 1) := by decide +kernel
theorem dX8_records_46 : decode cX8_records 46 = .ok (.isub, 1) := by decide +kernel
theorem dX8_records_47 : decode cX8_records 47 = .ok (.putfield 48, 3) := by decide +kernel
theorem dX8_records_50 : decode cX8_records 50 = .ok (.iconst 0, 1) := by decide +kernel
theorem dX8_records_51 : decode cX8_records 51 = .ok (.istore_n 1, 1) := by decide +kernel
theorem dX8_records_52 : decode cX8_records 52 = .ok (.iload_n 1, 1) := by decide +kernel
theorem dX8_records_53 : decode cX8_records 53 = .ok (.sipush 160, 3) := by decide +kernel
theorem dX8_records_56 : decode cX8_records 56 = .ok (.if_icmp .ge 30, 3) := by decide +kernel
theorem dX8_records_59 : decode cX8_records 59 = .ok (.aload_n 0, 1) := by decide +kernel
theorem dX8_records_60 : decode cX8_records 60 = .ok (.getfield 13, 3) := by decide +kernel
theorem dX8_records_63 : decode cX8_records 63 = .ok (.sipush 160, 3) := by decide +kernel
theorem dX8_records_66 : decode cX8_records 66 = .ok (.aload_n 0, 1) := by decide +kernel
theorem dX8_records_67 : decode cX8_records 67 = .ok (.getfield 48, 3) := by decide +kernel
theorem dX8_records_70 : decode cX8_records 70 = .ok (.imul, 1) := by decide +kernel
theorem dX8_records_71 : decode cX8_records 71 = .ok (.iload_n 1, 1) := by decide +kernel
theorem dX8_records_72 : decode cX8_records 72 = .ok (.iadd, 1) := by decide +kernel
theorem dX8_records_73 : decode cX8_records 73 = .ok (.aload_n 0, 1) := by decide +kernel
theorem dX8_records_74 : decode cX8_records 74 = .ok (.getfield 7, 3) := by decide +kernel
theorem dX8_records_77 : decode cX8_records 77 = .ok (.iload_n 1, 1) := by decide +kernel
theorem dX8_records_78 : decode cX8_records 78 = .ok (.iaload, 1) := by decide +kernel
theorem dX8_records_79 : decode cX8_records 79 = .ok (.iastore, 1) := by decide +kernel
theorem dX8_records_80 : decode cX8_records 80 = .ok (.iinc 1 1, 3) := by decide +kernel
theorem dX8_records_83 : decode cX8_records 83 = .ok (.goto (-31), 3) := by decide +kernel
theorem dX8_records_86 : decode cX8_records 86 = .ok (.aload_n 0, 1) := by decide +kernel
theorem dX8_records_87 : decode cX8_records 87 = .ok (.dup, 1) := by decide +kernel
theorem dX8_records_88 : decode cX8_records 88 = .ok (.getfield 48, 3) := by decide +kernel
theorem dX8_records_91 : decode cX8_records 91 = .ok (.iconst 1, 1) := by decide +kernel
theorem dX8_records_92 : decode cX8_records 92 = .ok (.iadd, 1) := by decide +kernel
theorem dX8_records_93 : decode cX8_records 93 = .ok (.putfield 48, 3) := by decide +kernel
theorem dX8_records_96 : decode cX8_records 96 = .ok (.return_, 1) := by decide +kernel
theorem dX8_takes_0 : decode cX8_takes 0 = .ok (.aload_n 0, 1) := by decide +kernel
theorem dX8_takes_1 : decode cX8_takes 1 = .ok (.aload_n 0, 1) := by decide +kernel
theorem dX8_takes_2 : decode cX8_takes 2 = .ok (.iload_n 1, 1) := by decide +kernel
theorem dX8_takes_3 : decode cX8_takes 3 = .ok (.iconst 0, 1) := by decide +kernel
theorem dX8_takes_4 : decode cX8_takes 4 = .ok (.invokevirtual 51, 3) := by decide +kernel
theorem dX8_takes_7 : decode cX8_takes 7 = .ok (.putfield 55, 3) := by decide +kernel
theorem dX8_takes_10 : decode cX8_takes 10 = .ok (.aload_n 0, 1) := by decide +kernel
theorem dX8_takes_11 : decode cX8_takes 11 = .ok (.aload_n 0, 1) := by decide +kernel
theorem dX8_takes_12 : decode cX8_takes 12 = .ok (.iload_n 1, 1) := by decide +kernel
theorem dX8_takes_13 : decode cX8_takes 13 = .ok (.iconst 1, 1) := by decide +kernel
theorem dX8_takes_14 : decode cX8_takes 14 = .ok (.invokevirtual 51, 3) := by decide +kernel
theorem dX8_takes_17 : decode cX8_takes 17 = .ok (.putfield 58, 3) := by decide +kernel
theorem dX8_takes_20 : decode cX8_takes 20 = .ok (.iconst 0, 1) := by decide +kernel
theorem dX8_takes_21 : decode cX8_takes 21 = .ok (.istore_n 2, 1) := by decide +kernel
theorem dX8_takes_22 : decode cX8_takes 22 = .ok (.iload_n 2, 1) := by decide +kernel
theorem dX8_takes_23 : decode cX8_takes 23 = .ok (.aload_n 0, 1) := by decide +kernel
theorem dX8_takes_24 : decode cX8_takes 24 = .ok (.getfield 58, 3) := by decide +kernel
theorem dX8_takes_27 : decode cX8_takes 27 = .ok (.if_icmp .ge 23, 3) := by decide +kernel
theorem dX8_takes_30 : decode cX8_takes 30 = .ok (.aload_n 0, 1) := by decide +kernel
theorem dX8_takes_31 : decode cX8_takes 31 = .ok (.getfield 22, 3) := by decide +kernel
theorem dX8_takes_34 : decode cX8_takes 34 = .ok (.iload_n 2, 1) := by decide +kernel
theorem dX8_takes_35 : decode cX8_takes 35 = .ok (.aload_n 0, 1) := by decide +kernel
theorem dX8_takes_36 : decode cX8_takes 36 = .ok (.iload_n 1, 1) := by decide +kernel
theorem dX8_takes_37 : decode cX8_takes 37 = .ok (.iconst 2, 1) := by decide +kernel
theorem dX8_takes_38 : decode cX8_takes 38 = .ok (.iload_n 2, 1) := by decide +kernel
theorem dX8_takes_39 : decode cX8_takes 39 = .ok (.iadd, 1) := by decide +kernel
theorem dX8_takes_40 : decode cX8_takes 40 = .ok (.invokevirtual 51, 3) := by decide +kernel
theorem dX8_takes_43 : decode cX8_takes 43 = .ok (.iastore, 1) := by decide +kernel
theorem dX8_takes_44 : decode cX8_takes 44 = .ok (.iinc 2 1, 3) := by decide +kernel
theorem dX8_takes_47 : decode cX8_takes 47 = .ok (.goto (-25), 3) := by decide +kernel
theorem dX8_takes_50 : decode cX8_takes 50 = .ok (.return_, 1) := by decide +kernel
theorem dX8_takesMore_0 : decode cX8_takesMore 0 = .ok (.iconst 0, 1) := by decide +kernel
theorem dX8_takesMore_1 : decode cX8_takesMore 1 = .ok (.istore_n 2, 1) := by decide +kernel
theorem dX8_takesMore_2 : decode cX8_takesMore 2 = .ok (.iload_n 2, 1) := by decide +kernel
theorem dX8_takesMore_3 : decode cX8_takesMore 3 = .ok (.aload_n 0, 1) := by decide +kernel
theorem dX8_takesMore_4 : decode cX8_takesMore 4 = .ok (.iload_n 1, 1) := by decide +kernel
theorem dX8_takesMore_5 : decode cX8_takesMore 5 = .ok (.iconst 1, 1) := by decide +kernel
theorem dX8_takesMore_6 : decode cX8_takesMore 6 = .ok (.invokevirtual 51, 3) := by decide +kernel
theorem dX8_takesMore_9 : decode cX8_takesMore 9 = .ok (.if_icmp .ge 36, 3) := by decide +kernel
theorem dX8_takesMore_12 : decode cX8_takesMore 12 = .ok (.aload_n 0, 1) := by decide +kernel
theorem dX8_takesMore_13 : decode cX8_takesMore 13 = .ok (.getfield 22, 3) := by decide +kernel
theorem dX8_takesMore_16 : decode cX8_takesMore 16 = .ok (.aload_n 0, 1) := by decide +kernel
theorem dX8_takesMore_17 : decode cX8_takesMore 17 = .ok (.getfield 58, 3) := by decide +kernel
theorem dX8_takesMore_20 : decode cX8_takesMore 20 = .ok (.aload_n 0, 1) := by decide +kernel
theorem dX8_takesMore_21 : decode cX8_takesMore 21 = .ok (.iload_n 1, 1) := by decide +kernel
theorem dX8_takesMore_22 : decode cX8_takesMore 22 = .ok (.iconst 2, 1) := by decide +kernel
theorem dX8_takesMore_23 : decode cX8_takesMore 23 = .ok (.iload_n 2, 1) := by decide +kernel
theorem dX8_takesMore_24 : decode cX8_takesMore 24 = .ok (.iadd, 1) := by decide +kernel
theorem dX8_takesMore_25 : decode cX8_takesMore 25 = .ok (.invokevirtual 51, 3) := by decide +kernel
theorem dX8_takesMore_28 : decode cX8_takesMore 28 = .ok (.iastore, 1) := by decide +kernel
theorem dX8_takesMore_29 : decode cX8_takesMore 29 = .ok (.aload_n 0, 1) := by decide +kernel
theorem dX8_takesMore_30 : decode cX8_takesMore 30 = .ok (.dup, 1) := by decide +kernel
theorem dX8_takesMore_31 : decode cX8_takesMore 31 = .ok (.getfield 58, 3) := by decide +kernel
theorem dX8_takesMore_34 : decode cX8_takesMore 34 = .ok (.iconst 1, 1) := by decide +kernel
theorem dX8_takesMore_35 : decode cX8_takesMore 35 = .ok (.iadd, 1) := by decide +kernel
theorem dX8_takesMore_36 : decode cX8_takesMore 36 = .ok (.putfield 58, 3) := by decide +kernel
theorem dX8_takesMore_39 : decode cX8_takesMore 39 = .ok (.iinc 2 1, 3) := by decide +kernel
theorem dX8_takesMore_42 : decode cX8_takesMore 42 = .ok (.goto (-40), 3) := by decide +kernel
theorem dX8_takesMore_45 : decode cX8_takesMore 45 = .ok (.return_, 1) := by decide +kernel
theorem dX8_puts_0 : decode cX8_puts 0 = .ok (.aload_n 0, 1) := by decide +kernel
theorem dX8_puts_1 : decode cX8_puts 1 = .ok (.iload_n 1, 1) := by decide +kernel
theorem dX8_puts_2 : decode cX8_puts 2 = .ok (.iconst 0, 1) := by decide +kernel
theorem dX8_puts_3 : decode cX8_puts 3 = .ok (.aload_n 0, 1) := by decide +kernel
theorem dX8_puts_4 : decode cX8_puts 4 = .ok (.getfield 55, 3) := by decide +kernel
theorem dX8_puts_7 : decode cX8_puts 7 = .ok (.invokevirtual 61, 3) := by decide +kernel
theorem dX8_puts_10 : decode cX8_puts 10 = .ok (.aload_n 0, 1) := by decide +kernel
theorem dX8_puts_11 : decode cX8_puts 11 = .ok (.iload_n 1, 1) := by decide +kernel
theorem dX8_puts_12 : decode cX8_puts 12 = .ok (.iconst 1, 1) := by decide +kernel
theorem dX8_puts_13 : decode cX8_puts 13 = .ok (.aload_n 0, 1) := by decide +kernel
theorem dX8_puts_14 : decode cX8_puts 14 = .ok (.getfield 58, 3) := by decide +kernel
theorem dX8_puts_17 : decode cX8_puts 17 = .ok (.invokevirtual 61, 3) := by decide +kernel
theorem dX8_puts_20 : decode cX8_puts 20 = .ok (.iconst 0, 1) := by decide +kernel
theorem dX8_puts_21 : decode cX8_puts 21 = .ok (.istore_n 2, 1) := by decide +kernel
theorem dX8_puts_22 : decode cX8_puts 22 = .ok (.iload_n 2, 1) := by decide +kernel
theorem dX8_puts_23 : decode cX8_puts 23 = .ok (.bipush 24, 2) := by decide +kernel
theorem dX8_puts_25 : decode cX8_puts 25 = .ok (.if_icmp .ge 35, 3) := by decide +kernel
theorem dX8_puts_28 : decode cX8_puts 28 = .ok (.aload_n 0, 1) := by decide +kernel
theorem dX8_puts_29 : decode cX8_puts 29 = .ok (.iload_n 1, 1) := by decide +kernel
theorem dX8_puts_30 : decode cX8_puts 30 = .ok (.iconst 2, 1) := by decide +kernel
theorem dX8_puts_31 : decode cX8_puts 31 = .ok (.iload_n 2, 1) := by decide +kernel
theorem dX8_puts_32 : decode cX8_puts 32 = .ok (.iadd, 1) := by decide +kernel
theorem dX8_puts_33 : decode cX8_puts 33 = .ok (.iload_n 2, 1) := by decide +kernel
theorem dX8_puts_34 : decode cX8_puts 34 = .ok (.aload_n 0, 1) := by decide +kernel
theorem dX8_puts_35 : decode cX8_puts 35 = .ok (.getfield 58, 3) := by decide +kernel
theorem dX8_puts_38 : decode cX8_puts 38 = .ok (.if_icmp .ge 12, 3) := by decide +kernel
theorem dX8_puts_41 : decode cX8_puts 41 = .ok (.aload_n 0, 1) := by decide +kernel
theorem dX8_puts_42 : decode cX8_puts 42 = .ok (.getfield 22, 3) := by decide +kernel
theorem dX8_puts_45 : decode cX8_puts 45 = .ok (.iload_n 2, 1) := by decide +kernel
theorem dX8_puts_46 : decode cX8_puts 46 = .ok (.iaload, 1) := by decide +kernel
theorem dX8_puts_47 : decode cX8_puts 47 = .ok (.goto 4, 3) := by decide +kernel
theorem dX8_puts_50 : decode cX8_puts 50 = .ok (.iconst 0, 1) := by decide +kernel
theorem dX8_puts_51 : decode cX8_puts 51 = .ok (.invokevirtual 61, 3) := by decide +kernel
theorem dX8_puts_54 : decode cX8_puts 54 = .ok (.iinc 2 1, 3) := by decide +kernel
theorem dX8_puts_57 : decode cX8_puts 57 = .ok (.goto (-35), 3) := by decide +kernel
theorem dX8_puts_60 : decode cX8_puts 60 = .ok (.return_, 1) := by decide +kernel
theorem dX8_mirrors_0 : decode cX8_mirrors 0 = .ok (.iconst 0, 1) := by decide +kernel
theorem dX8_mirrors_1 : decode cX8_mirrors 1 = .ok (.istore_n 1, 1) := by decide +kernel
theorem dX8_mirrors_2 : decode cX8_mirrors 2 = .ok (.iload_n 1, 1) := by decide +kernel
theorem dX8_mirrors_3 : decode cX8_mirrors 3 = .ok (.aload_n 0, 1) := by decide +kernel
theorem dX8_mirrors_4 : decode cX8_mirrors 4 = .ok (.getfield 58, 3) := by decide +kernel
theorem dX8_mirrors_7 : decode cX8_mirrors 7 = .ok (.if_icmp .ge 46, 3) := by decide +kernel
theorem dX8_mirrors_10 : decode cX8_mirrors 10 = .ok (.aload_n 0, 1) := by decide +kernel
theorem dX8_mirrors_11 : decode cX8_mirrors 11 = .ok (.getfield 22, 3) := by decide +kernel
theorem dX8_mirrors_14 : decode cX8_mirrors 14 = .ok (.iload_n 1, 1) := by decide +kernel
theorem dX8_mirrors_15 : decode cX8_mirrors 15 = .ok (.aload_n 0, 1) := by decide +kernel
theorem dX8_mirrors_16 : decode cX8_mirrors 16 = .ok (.getfield 22, 3) := by decide +kernel
theorem dX8_mirrors_19 : decode cX8_mirrors 19 = .ok (.iload_n 1, 1) := by decide +kernel
theorem dX8_mirrors_20 : decode cX8_mirrors 20 = .ok (.iaload, 1) := by decide +kernel
theorem dX8_mirrors_21 : decode cX8_mirrors 21 = .ok (.iconst 2, 1) := by decide +kernel
theorem dX8_mirrors_22 : decode cX8_mirrors 22 = .ok (.irem, 1) := by decide +kernel
theorem dX8_mirrors_23 : decode cX8_mirrors 23 = .ok (.iconst 1, 1) := by decide +kernel
theorem dX8_mirrors_24 : decode cX8_mirrors 24 = .ok (.if_icmp .ne 14, 3) := by decide +kernel
theorem dX8_mirrors_27 : decode cX8_mirrors 27 = .ok (.aload_n 0, 1) := by decide +kernel
theorem dX8_mirrors_28 : decode cX8_mirrors 28 = .ok (.getfield 22, 3) := by decide +kernel
theorem dX8_mirrors_31 : decode cX8_mirrors 31 = .ok (.iload_n 1, 1) := by decide +kernel
theorem dX8_mirrors_32 : decode cX8_mirrors 32 = .ok (.iaload, 1) := by decide +kernel
theorem dX8_mirrors_33 : decode cX8_mirrors 33 = .ok (.iconst 1, 1) := by decide +kernel
theorem dX8_mirrors_34 : decode cX8_mirrors 34 = .ok (.isub, 1) := by decide +kernel
theorem dX8_mirrors_35 : decode cX8_mirrors 35 = .ok (.goto 11, 3) := by decide +kernel
theorem dX8_mirrors_38 : decode cX8_mirrors 38 = .ok (.aload_n 0, 1) := by decide +kernel
theorem dX8_mirrors_39 : decode cX8_mirrors 39 = .ok (.getfield 22, 3) := by decide +kernel
theorem dX8_mirrors_42 : decode cX8_mirrors 42 = .ok (.iload_n 1, 1) := by decide +kernel
theorem dX8_mirrors_43 : decode cX8_mirrors 43 = .ok (.iaload, 1) := by decide +kernel
theorem dX8_mirrors_44 : decode cX8_mirrors 44 = .ok (.iconst 1, 1) := by decide +kernel
theorem dX8_mirrors_45 : decode cX8_mirrors 45 = .ok (.iadd, 1) := by decide +kernel
theorem dX8_mirrors_46 : decode cX8_mirrors 46 = .ok (.iastore, 1) := by decide +kernel
theorem dX8_mirrors_47 : decode cX8_mirrors 47 = .ok (.iinc 1 1, 3) := by decide +kernel
theorem dX8_mirrors_50 : decode cX8_mirrors 50 = .ok (.goto (-48), 3) := by decide +kernel
theorem dX8_mirrors_53 : decode cX8_mirrors 53 = .ok (.return_, 1) := by decide +kernel
theorem dX8_turns_0 : decode cX8_turns 0 = .ok (.iconst 0, 1) := by decide +kernel
theorem dX8_turns_1 : decode cX8_turns 1 = .ok (.istore_n 1, 1) := by decide +kernel
theorem dX8_turns_2 : decode cX8_turns 2 = .ok (.iload_n 1, 1) := by decide +kernel
theorem dX8_turns_3 : decode cX8_turns 3 = .ok (.aload_n 0, 1) := by decide +kernel
theorem dX8_turns_4 : decode cX8_turns 4 = .ok (.getfield 58, 3) := by decide +kernel
theorem dX8_turns_7 : decode cX8_turns 7 = .ok (.if_icmp .ge 41, 3) := by decide +kernel
theorem dX8_turns_10 : decode cX8_turns 10 = .ok (.aload_n 0, 1) := by decide +kernel
theorem dX8_turns_11 : decode cX8_turns 11 = .ok (.getfield 22, 3) := by decide +kernel
theorem dX8_turns_14 : decode cX8_turns 14 = .ok (.iload_n 1, 1) := by decide +kernel
theorem dX8_turns_15 : decode cX8_turns 15 = .ok (.iconst 2, 1) := by decide +kernel
theorem dX8_turns_16 : decode cX8_turns 16 = .ok (.aload_n 0, 1) := by decide +kernel
theorem dX8_turns_17 : decode cX8_turns 17 = .ok (.getfield 55, 3) := by decide +kernel
theorem dX8_turns_20 : decode cX8_turns 20 = .ok (.iconst 2, 1) := by decide +kernel
theorem dX8_turns_21 : decode cX8_turns 21 = .ok (.isub, 1) := by decide +kernel
theorem dX8_turns_22 : decode cX8_turns 22 = .ok (.aload_n 0, 1) := by decide +kernel
theorem dX8_turns_23 : decode cX8_turns 23 = .ok (.getfield 22, 3) := by decide +kernel
theorem dX8_turns_26 : decode cX8_turns 26 = .ok (.iload_n 1, 1) := by decide +kernel
theorem dX8_turns_27 : decode cX8_turns 27 = .ok (.iaload, 1) := by decide +kernel
theorem dX8_turns_28 : decode cX8_turns 28 = .ok (.iconst 2, 1) := by decide +kernel
theorem dX8_turns_29 : decode cX8_turns 29 = .ok (.idiv, 1) := by decide +kernel
theorem dX8_turns_30 : decode cX8_turns 30 = .ok (.isub, 1) := by decide +kernel
theorem dX8_turns_31 : decode cX8_turns 31 = .ok (.imul, 1) := by decide +kernel
theorem dX8_turns_32 : decode cX8_turns 32 = .ok (.aload_n 0, 1) := by decide +kernel
theorem dX8_turns_33 : decode cX8_turns 33 = .ok (.getfield 22, 3) := by decide +kernel
theorem dX8_turns_36 : decode cX8_turns 36 = .ok (.iload_n 1, 1) := by decide +kernel
theorem dX8_turns_37 : decode cX8_turns 37 = .ok (.iaload, 1) := by decide +kernel
theorem dX8_turns_38 : decode cX8_turns 38 = .ok (.iconst 2, 1) := by decide +kernel
theorem dX8_turns_39 : decode cX8_turns 39 = .ok (.irem, 1) := by decide +kernel
theorem dX8_turns_40 : decode cX8_turns 40 = .ok (.iadd, 1) := by decide +kernel
theorem dX8_turns_41 : decode cX8_turns 41 = .ok (.iastore, 1) := by decide +kernel
theorem dX8_turns_42 : decode cX8_turns 42 = .ok (.iinc 1 1, 3) := by decide +kernel
theorem dX8_turns_45 : decode cX8_turns 45 = .ok (.goto (-43), 3) := by decide +kernel
theorem dX8_turns_48 : decode cX8_turns 48 = .ok (.return_, 1) := by decide +kernel
theorem dX8_reverses_0 : decode cX8_reverses 0 = .ok (.iconst 0, 1) := by decide +kernel
theorem dX8_reverses_1 : decode cX8_reverses 1 = .ok (.istore_n 1, 1) := by decide +kernel
theorem dX8_reverses_2 : decode cX8_reverses 2 = .ok (.iload_n 1, 1) := by decide +kernel
theorem dX8_reverses_3 : decode cX8_reverses 3 = .ok (.aload_n 0, 1) := by decide +kernel
theorem dX8_reverses_4 : decode cX8_reverses 4 = .ok (.getfield 58, 3) := by decide +kernel
theorem dX8_reverses_7 : decode cX8_reverses 7 = .ok (.iconst 2, 1) := by decide +kernel
theorem dX8_reverses_8 : decode cX8_reverses 8 = .ok (.idiv, 1) := by decide +kernel
theorem dX8_reverses_9 : decode cX8_reverses 9 = .ok (.if_icmp .ge 49, 3) := by decide +kernel
theorem dX8_reverses_12 : decode cX8_reverses 12 = .ok (.aload_n 0, 1) := by decide +kernel
theorem dX8_reverses_13 : decode cX8_reverses 13 = .ok (.getfield 22, 3) := by decide +kernel
theorem dX8_reverses_16 : decode cX8_reverses 16 = .ok (.iload_n 1, 1) := by decide +kernel
theorem dX8_reverses_17 : decode cX8_reverses 17 = .ok (.iaload, 1) := by decide +kernel
theorem dX8_reverses_18 : decode cX8_reverses 18 = .ok (.istore_n 2, 1) := by decide +kernel
theorem dX8_reverses_19 : decode cX8_reverses 19 = .ok (.aload_n 0, 1) := by decide +kernel
theorem dX8_reverses_20 : decode cX8_reverses 20 = .ok (.getfield 22, 3) := by decide +kernel
theorem dX8_reverses_23 : decode cX8_reverses 23 = .ok (.iload_n 1, 1) := by decide +kernel
theorem dX8_reverses_24 : decode cX8_reverses 24 = .ok (.aload_n 0, 1) := by decide +kernel
theorem dX8_reverses_25 : decode cX8_reverses 25 = .ok (.getfield 22, 3) := by decide +kernel
theorem dX8_reverses_28 : decode cX8_reverses 28 = .ok (.aload_n 0, 1) := by decide +kernel
theorem dX8_reverses_29 : decode cX8_reverses 29 = .ok (.getfield 58, 3) := by decide +kernel
theorem dX8_reverses_32 : decode cX8_reverses 32 = .ok (.iconst 1, 1) := by decide +kernel
theorem dX8_reverses_33 : decode cX8_reverses 33 = .ok (.isub, 1) := by decide +kernel
theorem dX8_reverses_34 : decode cX8_reverses 34 = .ok (.iload_n 1, 1) := by decide +kernel
theorem dX8_reverses_35 : decode cX8_reverses 35 = .ok (.isub, 1) := by decide +kernel
theorem dX8_reverses_36 : decode cX8_reverses 36 = .ok (.iaload, 1) := by decide +kernel
theorem dX8_reverses_37 : decode cX8_reverses 37 = .ok (.iastore, 1) := by decide +kernel
theorem dX8_reverses_38 : decode cX8_reverses 38 = .ok (.aload_n 0, 1) := by decide +kernel
theorem dX8_reverses_39 : decode cX8_reverses 39 = .ok (.getfield 22, 3) := by decide +kernel
theorem dX8_reverses_42 : decode cX8_reverses 42 = .ok (.aload_n 0, 1) := by decide +kernel
theorem dX8_reverses_43 : decode cX8_reverses 43 = .ok (.getfield 58, 3) := by decide +kernel
theorem dX8_reverses_46 : decode cX8_reverses 46 = .ok (.iconst 1, 1) := by decide +kernel
theorem dX8_reverses_47 : decode cX8_reverses 47 = .ok (.isub, 1) := by decide +kernel
theorem dX8_reverses_48 : decode cX8_reverses 48 = .ok (.iload_n 1, 1) := by decide +kernel
theorem dX8_reverses_49 : decode cX8_reverses 49 = .ok (.isub, 1) := by decide +kernel
theorem dX8_reverses_50 : decode cX8_reverses 50 = .ok (.iload_n 2, 1) := by decide +kernel
theorem dX8_reverses_51 : decode cX8_reverses 51 = .ok (.iastore, 1) := by decide +kernel
theorem dX8_reverses_52 : decode cX8_reverses 52 = .ok (.iinc 1 1, 3) := by decide +kernel
theorem dX8_reverses_55 : decode cX8_reverses 55 = .ok (.goto (-53), 3) := by decide +kernel
theorem dX8_reverses_58 : decode cX8_reverses 58 = .ok (.aload_n 0, 1) := by decide +kernel
theorem dX8_reverses_59 : decode cX8_reverses 59 = .ok (.invokevirtual 65, 3) := by decide +kernel
theorem dX8_reverses_62 : decode cX8_reverses 62 = .ok (.return_, 1) := by decide +kernel
theorem dX8_isUndone_0 : decode cX8_isUndone 0 = .ok (.aload_n 0, 1) := by decide +kernel
theorem dX8_isUndone_1 : decode cX8_isUndone 1 = .ok (.getfield 22, 3) := by decide +kernel
theorem dX8_isUndone_4 : decode cX8_isUndone 4 = .ok (.iload_n 1, 1) := by decide +kernel
theorem dX8_isUndone_5 : decode cX8_isUndone 5 = .ok (.iaload, 1) := by decide +kernel
theorem dX8_isUndone_6 : decode cX8_isUndone 6 = .ok (.iconst 2, 1) := by decide +kernel
theorem dX8_isUndone_7 : decode cX8_isUndone 7 = .ok (.idiv, 1) := by decide +kernel
theorem dX8_isUndone_8 : decode cX8_isUndone 8 = .ok (.aload_n 0, 1) := by decide +kernel
theorem dX8_isUndone_9 : decode cX8_isUndone 9 = .ok (.getfield 22, 3) := by decide +kernel
theorem dX8_isUndone_12 : decode cX8_isUndone 12 = .ok (.iload_n 1, 1) := by decide +kernel
theorem dX8_isUndone_13 : decode cX8_isUndone 13 = .ok (.iconst 1, 1) := by decide +kernel
theorem dX8_isUndone_14 : decode cX8_isUndone 14 = .ok (.iadd, 1) := by decide +kernel
theorem dX8_isUndone_15 : decode cX8_isUndone 15 = .ok (.iaload, 1) := by decide +kernel
theorem dX8_isUndone_16 : decode cX8_isUndone 16 = .ok (.iconst 2, 1) := by decide +kernel
theorem dX8_isUndone_17 : decode cX8_isUndone 17 = .ok (.idiv, 1) := by decide +kernel
theorem dX8_isUndone_18 : decode cX8_isUndone 18 = .ok (.if_icmp .ne 24, 3) := by decide +kernel
theorem dX8_isUndone_21 : decode cX8_isUndone 21 = .ok (.aload_n 0, 1) := by decide +kernel
theorem dX8_isUndone_22 : decode cX8_isUndone 22 = .ok (.getfield 22, 3) := by decide +kernel
theorem dX8_isUndone_25 : decode cX8_isUndone 25 = .ok (.iload_n 1, 1) := by decide +kernel
theorem dX8_isUndone_26 : decode cX8_isUndone 26 = .ok (.iaload, 1) := by decide +kernel
theorem dX8_isUndone_27 : decode cX8_isUndone 27 = .ok (.aload_n 0, 1) := by decide +kernel
theorem dX8_isUndone_28 : decode cX8_isUndone 28 = .ok (.getfield 22, 3) := by decide +kernel
theorem dX8_isUndone_31 : decode cX8_isUndone 31 = .ok (.iload_n 1, 1) := by decide +kernel
theorem dX8_isUndone_32 : decode cX8_isUndone 32 = .ok (.iconst 1, 1) := by decide +kernel
theorem dX8_isUndone_33 : decode cX8_isUndone 33 = .ok (.iadd, 1) := by decide +kernel
theorem dX8_isUndone_34 : decode cX8_isUndone 34 = .ok (.iaload, 1) := by decide +kernel
theorem dX8_isUndone_35 : decode cX8_isUndone 35 = .ok (.if_icmp .eq 7, 3) := by decide +kernel
theorem dX8_isUndone_38 : decode cX8_isUndone 38 = .ok (.iconst 1, 1) := by decide +kernel
theorem dX8_isUndone_39 : decode cX8_isUndone 39 = .ok (.goto 4, 3) := by decide +kernel
theorem dX8_isUndone_42 : decode cX8_isUndone 42 = .ok (.iconst 0, 1) := by decide +kernel
theorem dX8_isUndone_43 : decode cX8_isUndone 43 = .ok (.ireturn, 1) := by decide +kernel
theorem dX8_takesOut_0 : decode cX8_takesOut 0 = .ok (.aload_n 0, 1) := by decide +kernel
theorem dX8_takesOut_1 : decode cX8_takesOut 1 = .ok (.dup, 1) := by decide +kernel
theorem dX8_takesOut_2 : decode cX8_takesOut 2 = .ok (.getfield 58, 3) := by decide +kernel
theorem dX8_takesOut_5 : decode cX8_takesOut 5 = .ok (.iconst 2, 1) := by decide +kernel
theorem dX8_takesOut_6 : decode cX8_takesOut 6 = .ok (.isub, 1) := by decide +kernel
theorem dX8_takesOut_7 : decode cX8_takesOut 7 = .ok (.putfield 58, 3) := by decide +kernel
theorem dX8_takesOut_10 : decode cX8_takesOut 10 = .ok (.iload_n 1, 1) := by decide +kernel
theorem dX8_takesOut_11 : decode cX8_takesOut 11 = .ok (.istore_n 2, 1) := by decide +kernel
theorem dX8_takesOut_12 : decode cX8_takesOut 12 = .ok (.iload_n 2, 1) := by decide +kernel
theorem dX8_takesOut_13 : decode cX8_takesOut 13 = .ok (.aload_n 0, 1) := by decide +kernel
theorem dX8_takesOut_14 : decode cX8_takesOut 14 = .ok (.getfield 58, 3) := by decide +kernel
theorem dX8_takesOut_17 : decode cX8_takesOut 17 = .ok (.if_icmp .ge 23, 3) := by decide +kernel
theorem dX8_takesOut_20 : decode cX8_takesOut 20 = .ok (.aload_n 0, 1) := by decide +kernel
theorem dX8_takesOut_21 : decode cX8_takesOut 21 = .ok (.getfield 22, 3) := by decide +kernel
theorem dX8_takesOut_24 : decode cX8_takesOut 24 = .ok (.iload_n 2, 1) := by decide +kernel
theorem dX8_takesOut_25 : decode cX8_takesOut 25 = .ok (.aload_n 0, 1) := by decide +kernel
theorem dX8_takesOut_26 : decode cX8_takesOut 26 = .ok (.getfield 22, 3) := by decide +kernel
theorem dX8_takesOut_29 : decode cX8_takesOut 29 = .ok (.iload_n 2, 1) := by decide +kernel
theorem dX8_takesOut_30 : decode cX8_takesOut 30 = .ok (.iconst 2, 1) := by decide +kernel
theorem dX8_takesOut_31 : decode cX8_takesOut 31 = .ok (.iadd, 1) := by decide +kernel
theorem dX8_takesOut_32 : decode cX8_takesOut 32 = .ok (.iaload, 1) := by decide +kernel
theorem dX8_takesOut_33 : decode cX8_takesOut 33 = .ok (.iastore, 1) := by decide +kernel
theorem dX8_takesOut_34 : decode cX8_takesOut 34 = .ok (.iinc 2 1, 3) := by decide +kernel
theorem dX8_takesOut_37 : decode cX8_takesOut 37 = .ok (.goto (-25), 3) := by decide +kernel
theorem dX8_takesOut_40 : decode cX8_takesOut 40 = .ok (.return_, 1) := by decide +kernel
theorem dX8_firstUndone_0 : decode cX8_firstUndone 0 = .ok (.iconst 0, 1) := by decide +kernel
theorem dX8_firstUndone_1 : decode cX8_firstUndone 1 = .ok (.istore_n 1, 1) := by decide +kernel
theorem dX8_firstUndone_2 : decode cX8_firstUndone 2 = .ok (.iload_n 1, 1) := by decide +kernel
theorem dX8_firstUndone_3 : decode cX8_firstUndone 3 = .ok (.iconst 1, 1) := by decide +kernel
theorem dX8_firstUndone_4 : decode cX8_firstUndone 4 = .ok (.iadd, 1) := by decide +kernel
theorem dX8_firstUndone_5 : decode cX8_firstUndone 5 = .ok (.aload_n 0, 1) := by decide +kernel
theorem dX8_firstUndone_6 : decode cX8_firstUndone 6 = .ok (.getfield 58, 3) := by decide +kernel
theorem dX8_firstUndone_9 : decode cX8_firstUndone 9 = .ok (.if_icmp .ge 19, 3) := by decide +kernel
theorem dX8_firstUndone_12 : decode cX8_firstUndone 12 = .ok (.aload_n 0, 1) := by decide +kernel
theorem dX8_firstUndone_13 : decode cX8_firstUndone 13 = .ok (.iload_n 1, 1) := by decide +kernel
theorem dX8_firstUndone_14 : decode cX8_firstUndone 14 = .ok (.invokevirtual 68, 3) := by decide +kernel
theorem dX8_firstUndone_17 : decode cX8_firstUndone 17 = .ok (.ifCond .eq 5, 3) := by decide +kernel
theorem dX8_firstUndone_20 : decode cX8_firstUndone 20 = .ok (.iload_n 1, 1) := by decide +kernel
theorem dX8_firstUndone_21 : decode cX8_firstUndone 21 = .ok (.ireturn, 1) := by decide +kernel
theorem dX8_firstUndone_22 : decode cX8_firstUndone 22 = .ok (.iinc 1 1, 3) := by decide +kernel
theorem dX8_firstUndone_25 : decode cX8_firstUndone 25 = .ok (.goto (-23), 3) := by decide +kernel
theorem dX8_firstUndone_28 : decode cX8_firstUndone 28 = .ok (.iconst (-1), 1) := by decide +kernel
theorem dX8_firstUndone_29 : decode cX8_firstUndone 29 = .ok (.ireturn, 1) := by decide +kernel
theorem dX8_firstFar_0 : decode cX8_firstFar 0 = .ok (.iconst 0, 1) := by decide +kernel
theorem dX8_firstFar_1 : decode cX8_firstFar 1 = .ok (.istore_n 1, 1) := by decide +kernel
theorem dX8_firstFar_2 : decode cX8_firstFar 2 = .ok (.iload_n 1, 1) := by decide +kernel
theorem dX8_firstFar_3 : decode cX8_firstFar 3 = .ok (.iconst 1, 1) := by decide +kernel
theorem dX8_firstFar_4 : decode cX8_firstFar 4 = .ok (.iadd, 1) := by decide +kernel
theorem dX8_firstFar_5 : decode cX8_firstFar 5 = .ok (.aload_n 0, 1) := by decide +kernel
theorem dX8_firstFar_6 : decode cX8_firstFar 6 = .ok (.getfield 58, 3) := by decide +kernel
theorem dX8_firstFar_9 : decode cX8_firstFar 9 = .ok (.if_icmp .ge 34, 3) := by decide +kernel
theorem dX8_firstFar_12 : decode cX8_firstFar 12 = .ok (.aload_n 0, 1) := by decide +kernel
theorem dX8_firstFar_13 : decode cX8_firstFar 13 = .ok (.getfield 22, 3) := by decide +kernel
theorem dX8_firstFar_16 : decode cX8_firstFar 16 = .ok (.iload_n 1, 1) := by decide +kernel
theorem dX8_firstFar_17 : decode cX8_firstFar 17 = .ok (.iaload, 1) := by decide +kernel
theorem dX8_firstFar_18 : decode cX8_firstFar 18 = .ok (.iconst 2, 1) := by decide +kernel
theorem dX8_firstFar_19 : decode cX8_firstFar 19 = .ok (.idiv, 1) := by decide +kernel
theorem dX8_firstFar_20 : decode cX8_firstFar 20 = .ok (.aload_n 0, 1) := by decide +kernel
theorem dX8_firstFar_21 : decode cX8_firstFar 21 = .ok (.getfield 22, 3) := by decide +kernel
theorem dX8_firstFar_24 : decode cX8_firstFar 24 = .ok (.iload_n 1, 1) := by decide +kernel
theorem dX8_firstFar_25 : decode cX8_firstFar 25 = .ok (.iconst 1, 1) := by decide +kernel
theorem dX8_firstFar_26 : decode cX8_firstFar 26 = .ok (.iadd, 1) := by decide +kernel
theorem dX8_firstFar_27 : decode cX8_firstFar 27 = .ok (.iaload, 1) := by decide +kernel
theorem dX8_firstFar_28 : decode cX8_firstFar 28 = .ok (.iconst 2, 1) := by decide +kernel
theorem dX8_firstFar_29 : decode cX8_firstFar 29 = .ok (.idiv, 1) := by decide +kernel
theorem dX8_firstFar_30 : decode cX8_firstFar 30 = .ok (.iconst 2, 1) := by decide +kernel
theorem dX8_firstFar_31 : decode cX8_firstFar 31 = .ok (.iadd, 1) := by decide +kernel
theorem dX8_firstFar_32 : decode cX8_firstFar 32 = .ok (.if_icmp .lt 5, 3) := by decide +kernel
theorem dX8_firstFar_35 : decode cX8_firstFar 35 = .ok (.iload_n 1, 1) := by decide +kernel
theorem dX8_firstFar_36 : decode cX8_firstFar 36 = .ok (.ireturn, 1) := by decide +kernel
theorem dX8_firstFar_37 : decode cX8_firstFar 37 = .ok (.iinc 1 1, 3) := by decide +kernel
theorem dX8_firstFar_40 : decode cX8_firstFar 40 = .ok (.goto (-38), 3) := by decide +kernel
theorem dX8_firstFar_43 : decode cX8_firstFar 43 = .ok (.iconst (-1), 1) := by decide +kernel
theorem dX8_firstFar_44 : decode cX8_firstFar 44 = .ok (.ireturn, 1) := by decide +kernel
theorem dX8_loosens_0 : decode cX8_loosens 0 = .ok (.iconst 1, 1) := by decide +kernel
theorem dX8_loosens_1 : decode cX8_loosens 1 = .ok (.istore_n 1, 1) := by decide +kernel
theorem dX8_loosens_2 : decode cX8_loosens 2 = .ok (.iload_n 1, 1) := by decide +kernel
theorem dX8_loosens_3 : decode cX8_loosens 3 = .ok (.ifCond .eq 88, 3) := by decide +kernel
theorem dX8_loosens_6 : decode cX8_loosens 6 = .ok (.aload_n 0, 1) := by decide +kernel
theorem dX8_loosens_7 : decode cX8_loosens 7 = .ok (.invokevirtual 72, 3) := by decide +kernel
theorem dX8_loosens_10 : decode cX8_loosens 10 = .ok (.istore_n 2, 1) := by decide +kernel
theorem dX8_loosens_11 : decode cX8_loosens 11 = .ok (.iload_n 2, 1) := by decide +kernel
theorem dX8_loosens_12 : decode cX8_loosens 12 = .ok (.iconst (-1), 1) := by decide +kernel
theorem dX8_loosens_13 : decode cX8_loosens 13 = .ok (.if_icmp .ne 10, 3) := by decide +kernel
theorem dX8_loosens_16 : decode cX8_loosens 16 = .ok (.aload_n 0, 1) := by decide +kernel
theorem dX8_loosens_17 : decode cX8_loosens 17 = .ok (.invokevirtual 76, 3) := by decide +kernel
theorem dX8_loosens_20 : decode cX8_loosens 20 = .ok (.goto 4, 3) := by decide +kernel
theorem dX8_loosens_23 : decode cX8_loosens 23 = .ok (.iconst (-1), 1) := by decide +kernel
theorem dX8_loosens_24 : decode cX8_loosens 24 = .ok (.istore_n 3, 1) := by decide +kernel
theorem dX8_loosens_25 : decode cX8_loosens 25 = .ok (.iload_n 2, 1) := by decide +kernel
theorem dX8_loosens_26 : decode cX8_loosens 26 = .ok (.iconst (-1), 1) := by decide +kernel
theorem dX8_loosens_27 : decode cX8_loosens 27 = .ok (.if_icmp .ne 8, 3) := by decide +kernel
theorem dX8_loosens_30 : decode cX8_loosens 30 = .ok (.iload_n 3, 1) := by decide +kernel
theorem dX8_loosens_31 : decode cX8_loosens 31 = .ok (.iconst (-1), 1) := by decide +kernel
theorem dX8_loosens_32 : decode cX8_loosens 32 = .ok (.if_icmp .eq 7, 3) := by decide +kernel
theorem dX8_loosens_35 : decode cX8_loosens 35 = .ok (.iconst 1, 1) := by decide +kernel
theorem dX8_loosens_36 : decode cX8_loosens 36 = .ok (.goto 4, 3) := by decide +kernel
theorem dX8_loosens_39 : decode cX8_loosens 39 = .ok (.iconst 0, 1) := by decide +kernel
theorem dX8_loosens_40 : decode cX8_loosens 40 = .ok (.istore_n 1, 1) := by decide +kernel
theorem dX8_loosens_41 : decode cX8_loosens 41 = .ok (.iload_n 2, 1) := by decide +kernel
theorem dX8_loosens_42 : decode cX8_loosens 42 = .ok (.iconst (-1), 1) := by decide +kernel
theorem dX8_loosens_43 : decode cX8_loosens 43 = .ok (.if_icmp .eq 8, 3) := by decide +kernel
theorem dX8_loosens_46 : decode cX8_loosens 46 = .ok (.aload_n 0, 1) := by decide +kernel
theorem dX8_loosens_47 : decode cX8_loosens 47 = .ok (.iload_n 2, 1) := by decide +kernel
theorem dX8_loosens_48 : decode cX8_loosens 48 = .ok (.invokevirtual 79, 3) := by decide +kernel
theorem dX8_loosens_51 : decode cX8_loosens 51 = .ok (.iload_n 3, 1) := by decide +kernel
theorem dX8_loosens_52 : decode cX8_loosens 52 = .ok (.iconst (-1), 1) := by decide +kernel
theorem dX8_loosens_53 : decode cX8_loosens 53 = .ok (.if_icmp .eq 35, 3) := by decide +kernel
theorem dX8_loosens_56 : decode cX8_loosens 56 = .ok (.aload_n 0, 1) := by decide +kernel
theorem dX8_loosens_57 : decode cX8_loosens 57 = .ok (.getfield 22, 3) := by decide +kernel
theorem dX8_loosens_60 : decode cX8_loosens 60 = .ok (.iload_n 3, 1) := by decide +kernel
theorem dX8_loosens_61 : decode cX8_loosens 61 = .ok (.iaload, 1) := by decide +kernel
theorem dX8_loosens_62 : decode cX8_loosens 62 = .ok (.istore 4, 2) := by decide +kernel
theorem dX8_loosens_64 : decode cX8_loosens 64 = .ok (.aload_n 0, 1) := by decide +kernel
theorem dX8_loosens_65 : decode cX8_loosens 65 = .ok (.getfield 22, 3) := by decide +kernel
theorem dX8_loosens_68 : decode cX8_loosens 68 = .ok (.iload_n 3, 1) := by decide +kernel
theorem dX8_loosens_69 : decode cX8_loosens 69 = .ok (.aload_n 0, 1) := by decide +kernel
theorem dX8_loosens_70 : decode cX8_loosens 70 = .ok (.getfield 22, 3) := by decide +kernel
theorem dX8_loosens_73 : decode cX8_loosens 73 = .ok (.iload_n 3, 1) := by decide +kernel
theorem dX8_loosens_74 : decode cX8_loosens 74 = .ok (.iconst 1, 1) := by decide +kernel
theorem dX8_loosens_75 : decode cX8_loosens 75 = .ok (.iadd, 1) := by decide +kernel
theorem dX8_loosens_76 : decode cX8_loosens 76 = .ok (.iaload, 1) := by decide +kernel
theorem dX8_loosens_77 : decode cX8_loosens 77 = .ok (.iastore, 1) := by decide +kernel
theorem dX8_loosens_78 : decode cX8_loosens 78 = .ok (.aload_n 0, 1) := by decide +kernel
theorem dX8_loosens_79 : decode cX8_loosens 79 = .ok (.getfield 22, 3) := by decide +kernel
theorem dX8_loosens_82 : decode cX8_loosens 82 = .ok (.iload_n 3, 1) := by decide +kernel
theorem dX8_loosens_83 : decode cX8_loosens 83 = .ok (.iconst 1, 1) := by decide +kernel
theorem dX8_loosens_84 : decode cX8_loosens 84 = .ok (.iadd, 1) := by decide +kernel
theorem dX8_loosens_85 : decode cX8_loosens 85 = .ok (.iload 4, 2) := by decide +kernel
theorem dX8_loosens_87 : decode cX8_loosens 87 = .ok (.iastore, 1) := by decide +kernel
theorem dX8_loosens_88 : decode cX8_loosens 88 = .ok (.goto (-86), 3) := by decide +kernel
theorem dX8_loosens_91 : decode cX8_loosens 91 = .ok (.return_, 1) := by decide +kernel
theorem dX8_shortens_0 : decode cX8_shortens 0 = .ok (.aload_n 0, 1) := by decide +kernel
theorem dX8_shortens_1 : decode cX8_shortens 1 = .ok (.invokevirtual 72, 3) := by decide +kernel
theorem dX8_shortens_4 : decode cX8_shortens 4 = .ok (.istore_n 1, 1) := by decide +kernel
theorem dX8_shortens_5 : decode cX8_shortens 5 = .ok (.iload_n 1, 1) := by decide +kernel
theorem dX8_shortens_6 : decode cX8_shortens 6 = .ok (.iconst (-1), 1) := by decide +kernel
theorem dX8_shortens_7 : decode cX8_shortens 7 = .ok (.if_icmp .eq 16, 3) := by decide +kernel
theorem dX8_shortens_10 : decode cX8_shortens 10 = .ok (.aload_n 0, 1) := by decide +kernel
theorem dX8_shortens_11 : decode cX8_shortens 11 = .ok (.iload_n 1, 1) := by decide +kernel
theorem dX8_shortens_12 : decode cX8_shortens 12 = .ok (.invokevirtual 79, 3) := by decide +kernel
theorem dX8_shortens_15 : decode cX8_shortens 15 = .ok (.aload_n 0, 1) := by decide +kernel
theorem dX8_shortens_16 : decode cX8_shortens 16 = .ok (.invokevirtual 72, 3) := by decide +kernel
theorem dX8_shortens_19 : decode cX8_shortens 19 = .ok (.istore_n 1, 1) := by decide +kernel
theorem dX8_shortens_20 : decode cX8_shortens 20 = .ok (.goto (-15), 3) := by decide +kernel
theorem dX8_shortens_23 : decode cX8_shortens 23 = .ok (.return_, 1) := by decide +kernel
theorem dX8_walks_0 : decode cX8_walks 0 = .ok (.iconst 0, 1) := by decide +kernel
theorem dX8_walks_1 : decode cX8_walks 1 = .ok (.istore_n 2, 1) := by decide +kernel
theorem dX8_walks_2 : decode cX8_walks 2 = .ok (.iload_n 2, 1) := by decide +kernel
theorem dX8_walks_3 : decode cX8_walks 3 = .ok (.bipush 7, 2) := by decide +kernel
theorem dX8_walks_5 : decode cX8_walks 5 = .ok (.if_icmp .ge 30, 3) := by decide +kernel
theorem dX8_walks_8 : decode cX8_walks 8 = .ok (.aload_n 0, 1) := by decide +kernel
theorem dX8_walks_9 : decode cX8_walks 9 = .ok (.getfield 25, 3) := by decide +kernel
theorem dX8_walks_12 : decode cX8_walks 12 = .ok (.iload_n 2, 1) := by decide +kernel
theorem dX8_walks_13 : decode cX8_walks 13 = .ok (.iload_n 2, 1) := by decide +kernel
theorem dX8_walks_14 : decode cX8_walks 14 = .ok (.iastore, 1) := by decide +kernel
theorem dX8_walks_15 : decode cX8_walks 15 = .ok (.aload_n 0, 1) := by decide +kernel
theorem dX8_walks_16 : decode cX8_walks 16 = .ok (.getfield 28, 3) := by decide +kernel
theorem dX8_walks_19 : decode cX8_walks 19 = .ok (.iload_n 2, 1) := by decide +kernel
theorem dX8_walks_20 : decode cX8_walks 20 = .ok (.iconst 0, 1) := by decide +kernel
theorem dX8_walks_21 : decode cX8_walks 21 = .ok (.iastore, 1) := by decide +kernel
theorem dX8_walks_22 : decode cX8_walks 22 = .ok (.aload_n 0, 1) := by decide +kernel
theorem dX8_walks_23 : decode cX8_walks 23 = .ok (.getfield 31, 3) := by decide +kernel
theorem dX8_walks_26 : decode cX8_walks 26 = .ok (.iload_n 2, 1) := by decide +kernel
theorem dX8_walks_27 : decode cX8_walks 27 = .ok (.iconst 0, 1) := by decide +kernel
theorem dX8_walks_28 : decode cX8_walks 28 = .ok (.iastore, 1) := by decide +kernel
theorem dX8_walks_29 : decode cX8_walks 29 = .ok (.iinc 2 1, 3) := by decide +kernel
theorem dX8_walks_32 : decode cX8_walks 32 = .ok (.goto (-30), 3) := by decide +kernel
theorem dX8_walks_35 : decode cX8_walks 35 = .ok (.iconst 0, 1) := by decide +kernel
theorem dX8_walks_36 : decode cX8_walks 36 = .ok (.istore_n 2, 1) := by decide +kernel
theorem dX8_walks_37 : decode cX8_walks 37 = .ok (.iload_n 2, 1) := by decide +kernel
theorem dX8_walks_38 : decode cX8_walks 38 = .ok (.iload_n 1, 1) := by decide +kernel
theorem dX8_walks_39 : decode cX8_walks 39 = .ok (.if_icmp .ge 126, 3) := by decide +kernel
theorem dX8_walks_42 : decode cX8_walks 42 = .ok (.aload_n 0, 1) := by decide +kernel
theorem dX8_walks_43 : decode cX8_walks 43 = .ok (.getfield 22, 3) := by decide +kernel
theorem dX8_walks_46 : decode cX8_walks 46 = .ok (.iload_n 2, 1) := by decide +kernel
theorem dX8_walks_47 : decode cX8_walks 47 = .ok (.iaload, 1) := by decide +kernel
theorem dX8_walks_48 : decode cX8_walks 48 = .ok (.iconst 2, 1) := by decide +kernel
theorem dX8_walks_49 : decode cX8_walks 49 = .ok (.idiv, 1) := by decide +kernel
theorem dX8_walks_50 : decode cX8_walks 50 = .ok (.istore_n 3, 1) := by decide +kernel
theorem dX8_walks_51 : decode cX8_walks 51 = .ok (.aload_n 0, 1) := by decide +kernel
theorem dX8_walks_52 : decode cX8_walks 52 = .ok (.getfield 25, 3) := by decide +kernel
theorem dX8_walks_55 : decode cX8_walks 55 = .ok (.iload_n 3, 1) := by decide +kernel
theorem dX8_walks_56 : decode cX8_walks 56 = .ok (.iaload, 1) := by decide +kernel
theorem dX8_walks_57 : decode cX8_walks 57 = .ok (.istore 4, 2) := by decide +kernel
theorem dX8_walks_59 : decode cX8_walks 59 = .ok (.aload_n 0, 1) := by decide +kernel
theorem dX8_walks_60 : decode cX8_walks 60 = .ok (.getfield 25, 3) := by decide +kernel
theorem dX8_walks_63 : decode cX8_walks 63 = .ok (.iload_n 3, 1) := by decide +kernel
theorem dX8_walks_64 : decode cX8_walks 64 = .ok (.iconst 1, 1) := by decide +kernel
theorem dX8_walks_65 : decode cX8_walks 65 = .ok (.iadd, 1) := by decide +kernel
theorem dX8_walks_66 : decode cX8_walks 66 = .ok (.iaload, 1) := by decide +kernel
theorem dX8_walks_67 : decode cX8_walks 67 = .ok (.istore 5, 2) := by decide +kernel
theorem dX8_walks_69 : decode cX8_walks 69 = .ok (.aload_n 0, 1) := by decide +kernel
theorem dX8_walks_70 : decode cX8_walks 70 = .ok (.aload_n 0, 1) := by decide +kernel
theorem dX8_walks_71 : decode cX8_walks 71 = .ok (.getfield 22, 3) := by decide +kernel
theorem dX8_walks_74 : decode cX8_walks 74 = .ok (.iload_n 2, 1) := by decide +kernel
theorem dX8_walks_75 : decode cX8_walks 75 = .ok (.iaload, 1) := by decide +kernel
theorem dX8_walks_76 : decode cX8_walks 76 = .ok (.iconst 2, 1) := by decide +kernel
theorem dX8_walks_77 : decode cX8_walks 77 = .ok (.irem, 1) := by decide +kernel
theorem dX8_walks_78 : decode cX8_walks 78 = .ok (.iconst 1, 1) := by decide +kernel
theorem dX8_walks_79 : decode cX8_walks 79 = .ok (.if_icmp .ne 8, 3) := by decide +kernel
theorem dX8_walks_82 : decode cX8_walks 82 = .ok (.iload 4, 2) := by decide +kernel
theorem dX8_walks_84 : decode cX8_walks 84 = .ok (.goto 5, 3) := by decide +kernel
theorem dX8_walks_87 : decode cX8_walks 87 = .ok (.iload 5, 2) := by decide +kernel
theorem dX8_walks_89 : decode cX8_walks 89 = .ok (.putfield 83, 3) := by decide +kernel
theorem dX8_walks_92 : decode cX8_walks 92 = .ok (.aload_n 0, 1) := by decide +kernel
theorem dX8_walks_93 : decode cX8_walks 93 = .ok (.aload_n 0, 1) := by decide +kernel
theorem dX8_walks_94 : decode cX8_walks 94 = .ok (.getfield 22, 3) := by decide +kernel
theorem dX8_walks_97 : decode cX8_walks 97 = .ok (.iload_n 2, 1) := by decide +kernel
theorem dX8_walks_98 : decode cX8_walks 98 = .ok (.iaload, 1) := by decide +kernel
theorem dX8_walks_99 : decode cX8_walks 99 = .ok (.iconst 2, 1) := by decide +kernel
theorem dX8_walks_100 : decode cX8_walks 100 = .ok (.irem, 1) := by decide +kernel
theorem dX8_walks_101 : decode cX8_walks 101 = .ok (.iconst 1, 1) := by decide +kernel
theorem dX8_walks_102 : decode cX8_walks 102 = .ok (.if_icmp .ne 8, 3) := by decide +kernel
theorem dX8_walks_105 : decode cX8_walks 105 = .ok (.iload 5, 2) := by decide +kernel
theorem dX8_walks_107 : decode cX8_walks 107 = .ok (.goto 5, 3) := by decide +kernel
theorem dX8_walks_110 : decode cX8_walks 110 = .ok (.iload 4, 2) := by decide +kernel
theorem dX8_walks_112 : decode cX8_walks 112 = .ok (.putfield 86, 3) := by decide +kernel
theorem dX8_walks_115 : decode cX8_walks 115 = .ok (.aload_n 0, 1) := by decide +kernel
theorem dX8_walks_116 : decode cX8_walks 116 = .ok (.getfield 31, 3) := by decide +kernel
theorem dX8_walks_119 : decode cX8_walks 119 = .ok (.aload_n 0, 1) := by decide +kernel
theorem dX8_walks_120 : decode cX8_walks 120 = .ok (.getfield 83, 3) := by decide +kernel
theorem dX8_walks_123 : decode cX8_walks 123 = .ok (.dup2, 1) := by decide +kernel
theorem dX8_walks_124 : decode cX8_walks 124 = .ok (.iaload, 1) := by decide +kernel
theorem dX8_walks_125 : decode cX8_walks 125 = .ok (.iconst 1, 1) := by decide +kernel
theorem dX8_walks_126 : decode cX8_walks 126 = .ok (.iadd, 1) := by decide +kernel
theorem dX8_walks_127 : decode cX8_walks 127 = .ok (.iastore, 1) := by decide +kernel
theorem dX8_walks_128 : decode cX8_walks 128 = .ok (.aload_n 0, 1) := by decide +kernel
theorem dX8_walks_129 : decode cX8_walks 129 = .ok (.getfield 28, 3) := by decide +kernel
theorem dX8_walks_132 : decode cX8_walks 132 = .ok (.aload_n 0, 1) := by decide +kernel
theorem dX8_walks_133 : decode cX8_walks 133 = .ok (.getfield 86, 3) := by decide +kernel
theorem dX8_walks_136 : decode cX8_walks 136 = .ok (.dup2, 1) := by decide +kernel
theorem dX8_walks_137 : decode cX8_walks 137 = .ok (.iaload, 1) := by decide +kernel
theorem dX8_walks_138 : decode cX8_walks 138 = .ok (.iconst 1, 1) := by decide +kernel
theorem dX8_walks_139 : decode cX8_walks 139 = .ok (.iadd, 1) := by decide +kernel
theorem dX8_walks_140 : decode cX8_walks 140 = .ok (.iastore, 1) := by decide +kernel
theorem dX8_walks_141 : decode cX8_walks 141 = .ok (.aload_n 0, 1) := by decide +kernel
theorem dX8_walks_142 : decode cX8_walks 142 = .ok (.getfield 25, 3) := by decide +kernel
theorem dX8_walks_145 : decode cX8_walks 145 = .ok (.iload_n 3, 1) := by decide +kernel
theorem dX8_walks_146 : decode cX8_walks 146 = .ok (.iload 5, 2) := by decide +kernel
theorem dX8_walks_148 : decode cX8_walks 148 = .ok (.iastore, 1) := by decide +kernel
theorem dX8_walks_149 : decode cX8_walks 149 = .ok (.aload_n 0, 1) := by decide +kernel
theorem dX8_walks_150 : decode cX8_walks 150 = .ok (.getfield 25, 3) := by decide +kernel
theorem dX8_walks_153 : decode cX8_walks 153 = .ok (.iload_n 3, 1) := by decide +kernel
theorem dX8_walks_154 : decode cX8_walks 154 = .ok (.iconst 1, 1) := by decide +kernel
theorem dX8_walks_155 : decode cX8_walks 155 = .ok (.iadd, 1) := by decide +kernel
theorem dX8_walks_156 : decode cX8_walks 156 = .ok (.iload 4, 2) := by decide +kernel
theorem dX8_walks_158 : decode cX8_walks 158 = .ok (.iastore, 1) := by decide +kernel
theorem dX8_walks_159 : decode cX8_walks 159 = .ok (.iinc 2 1, 3) := by decide +kernel
theorem dX8_walks_162 : decode cX8_walks 162 = .ok (.goto (-125), 3) := by decide +kernel
theorem dX8_walks_165 : decode cX8_walks 165 = .ok (.return_, 1) := by decide +kernel
theorem dX8_why_0 : decode cX8_why 0 = .ok (.aload_n 0, 1) := by decide +kernel
theorem dX8_why_1 : decode cX8_why 1 = .ok (.getfield 58, 3) := by decide +kernel
theorem dX8_why_4 : decode cX8_why 4 = .ok (.bipush 24, 2) := by decide +kernel
theorem dX8_why_6 : decode cX8_why 6 = .ok (.if_icmp .le 5, 3) := by decide +kernel
theorem dX8_why_9 : decode cX8_why 9 = .ok (.iconst 1, 1) := by decide +kernel
theorem dX8_why_10 : decode cX8_why 10 = .ok (.ireturn, 1) := by decide +kernel
theorem dX8_why_11 : decode cX8_why 11 = .ok (.aload_n 0, 1) := by decide +kernel
theorem dX8_why_12 : decode cX8_why 12 = .ok (.aload_n 0, 1) := by decide +kernel
theorem dX8_why_13 : decode cX8_why 13 = .ok (.getfield 58, 3) := by decide +kernel
theorem dX8_why_16 : decode cX8_why 16 = .ok (.invokevirtual 89, 3) := by decide +kernel
theorem dX8_why_19 : decode cX8_why 19 = .ok (.iconst 0, 1) := by decide +kernel
theorem dX8_why_20 : decode cX8_why 20 = .ok (.istore_n 1, 1) := by decide +kernel
theorem dX8_why_21 : decode cX8_why 21 = .ok (.iconst 0, 1) := by decide +kernel
theorem dX8_why_22 : decode cX8_why 22 = .ok (.istore_n 2, 1) := by decide +kernel
theorem dX8_why_23 : decode cX8_why 23 = .ok (.iload_n 2, 1) := by decide +kernel
theorem dX8_why_24 : decode cX8_why 24 = .ok (.aload_n 0, 1) := by decide +kernel
theorem dX8_why_25 : decode cX8_why 25 = .ok (.getfield 55, 3) := by decide +kernel
theorem dX8_why_28 : decode cX8_why 28 = .ok (.if_icmp .ge 35, 3) := by decide +kernel
theorem dX8_why_31 : decode cX8_why 31 = .ok (.aload_n 0, 1) := by decide +kernel
theorem dX8_why_32 : decode cX8_why 32 = .ok (.getfield 31, 3) := by decide +kernel
theorem dX8_why_35 : decode cX8_why 35 = .ok (.iload_n 2, 1) := by decide +kernel
theorem dX8_why_36 : decode cX8_why 36 = .ok (.iaload, 1) := by decide +kernel
theorem dX8_why_37 : decode cX8_why 37 = .ok (.iconst 2, 1) := by decide +kernel
theorem dX8_why_38 : decode cX8_why 38 = .ok (.aload_n 0, 1) := by decide +kernel
theorem dX8_why_39 : decode cX8_why 39 = .ok (.getfield 28, 3) := by decide +kernel
theorem dX8_why_42 : decode cX8_why 42 = .ok (.iload_n 2, 1) := by decide +kernel
theorem dX8_why_43 : decode cX8_why 43 = .ok (.iaload, 1) := by decide +kernel
theorem dX8_why_44 : decode cX8_why 44 = .ok (.imul, 1) := by decide +kernel
theorem dX8_why_45 : decode cX8_why 45 = .ok (.iadd, 1) := by decide +kernel
theorem dX8_why_46 : decode cX8_why 46 = .ok (.bipush 30, 2) := by decide +kernel
theorem dX8_why_48 : decode cX8_why 48 = .ok (.if_icmp .le 7, 3) := by decide +kernel
theorem dX8_why_51 : decode cX8_why 51 = .ok (.iconst 2, 1) := by decide +kernel
theorem dX8_why_52 : decode cX8_why 52 = .ok (.goto 4, 3) := by decide +kernel
theorem dX8_why_55 : decode cX8_why 55 = .ok (.iload_n 1, 1) := by decide +kernel
theorem dX8_why_56 : decode cX8_why 56 = .ok (.istore_n 1, 1) := by decide +kernel
theorem dX8_why_57 : decode cX8_why 57 = .ok (.iinc 2 1, 3) := by decide +kernel
theorem dX8_why_60 : decode cX8_why 60 = .ok (.goto (-37), 3) := by decide +kernel
theorem dX8_why_63 : decode cX8_why 63 = .ok (.iload_n 1, 1) := by decide +kernel
theorem dX8_why_64 : decode cX8_why 64 = .ok (.ireturn, 1) := by decide +kernel
theorem dX8_keepsOther_0 : decode cX8_keepsOther 0 = .ok (.aload_n 0, 1) := by decide +kernel
theorem dX8_keepsOther_1 : decode cX8_keepsOther 1 = .ok (.aload_n 0, 1) := by decide +kernel
theorem dX8_keepsOther_2 : decode cX8_keepsOther 2 = .ok (.getfield 58, 3) := by decide +kernel
theorem dX8_keepsOther_5 : decode cX8_keepsOther 5 = .ok (.putfield 92, 3) := by decide +kernel
theorem dX8_keepsOther_8 : decode cX8_keepsOther 8 = .ok (.iconst 0, 1) := by decide +kernel
theorem dX8_keepsOther_9 : decode cX8_keepsOther 9 = .ok (.istore_n 1, 1) := by decide +kernel
theorem dX8_keepsOther_10 : decode cX8_keepsOther 10 = .ok (.iload_n 1, 1) := by decide +kernel
theorem dX8_keepsOther_11 : decode cX8_keepsOther 11 = .ok (.aload_n 0, 1) := by decide +kernel
theorem dX8_keepsOther_12 : decode cX8_keepsOther 12 = .ok (.getfield 58, 3) := by decide +kernel
theorem dX8_keepsOther_15 : decode cX8_keepsOther 15 = .ok (.if_icmp .ge 21, 3) := by decide +kernel
theorem dX8_keepsOther_18 : decode cX8_keepsOther 18 = .ok (.aload_n 0, 1) := by decide +kernel
theorem dX8_keepsOther_19 : decode cX8_keepsOther 19 = .ok (.getfield 34, 3) := by decide +kernel
theorem dX8_keepsOther_22 : decode cX8_keepsOther 22 = .ok (.iload_n 1, 1) := by decide +kernel
theorem dX8_keepsOther_23 : decode cX8_keepsOther 23 = .ok (.aload_n 0, 1) := by decide +kernel
theorem dX8_keepsOther_24 : decode cX8_keepsOther 24 = .ok (.getfield 22, 3) := by decide +kernel
theorem dX8_keepsOther_27 : decode cX8_keepsOther 27 = .ok (.iload_n 1, 1) := by decide +kernel
theorem dX8_keepsOther_28 : decode cX8_keepsOther 28 = .ok (.iaload, 1) := by decide +kernel
theorem dX8_keepsOther_29 : decode cX8_keepsOther 29 = .ok (.iastore, 1) := by decide +kernel
theorem dX8_keepsOther_30 : decode cX8_keepsOther 30 = .ok (.iinc 1 1, 3) := by decide +kernel
theorem dX8_keepsOther_33 : decode cX8_keepsOther 33 = .ok (.goto (-23), 3) := by decide +kernel
theorem dX8_keepsOther_36 : decode cX8_keepsOther 36 = .ok (.return_, 1) := by decide +kernel
theorem dX8_isLikeOther_0 : decode cX8_isLikeOther 0 = .ok (.aload_n 0, 1) := by decide +kernel
theorem dX8_isLikeOther_1 : decode cX8_isLikeOther 1 = .ok (.getfield 58, 3) := by decide +kernel
theorem dX8_isLikeOther_4 : decode cX8_isLikeOther 4 = .ok (.aload_n 0, 1) := by decide +kernel
theorem dX8_isLikeOther_5 : decode cX8_isLikeOther 5 = .ok (.getfield 92, 3) := by decide +kernel
theorem dX8_isLikeOther_8 : decode cX8_isLikeOther 8 = .ok (.if_icmp .ne 7, 3) := by decide +kernel
theorem dX8_isLikeOther_11 : decode cX8_isLikeOther 11 = .ok (.iconst 1, 1) := by decide +kernel
theorem dX8_isLikeOther_12 : decode cX8_isLikeOther 12 = .ok (.goto 4, 3) := by decide +kernel
theorem dX8_isLikeOther_15 : decode cX8_isLikeOther 15 = .ok (.iconst 0, 1) := by decide +kernel
theorem dX8_isLikeOther_16 : decode cX8_isLikeOther 16 = .ok (.istore_n 1, 1) := by decide +kernel
theorem dX8_isLikeOther_17 : decode cX8_isLikeOther 17 = .ok (.iconst 0, 1) := by decide +kernel
theorem dX8_isLikeOther_18 : decode cX8_isLikeOther 18 = .ok (.istore_n 2, 1) := by decide +kernel
theorem dX8_isLikeOther_19 : decode cX8_isLikeOther 19 = .ok (.iload_n 2, 1) := by decide +kernel
theorem dX8_isLikeOther_20 : decode cX8_isLikeOther 20 = .ok (.aload_n 0, 1) := by decide +kernel
theorem dX8_isLikeOther_21 : decode cX8_isLikeOther 21 = .ok (.getfield 58, 3) := by decide +kernel
theorem dX8_isLikeOther_24 : decode cX8_isLikeOther 24 = .ok (.if_icmp .ge 34, 3) := by decide +kernel
theorem dX8_isLikeOther_27 : decode cX8_isLikeOther 27 = .ok (.iload_n 1, 1) := by decide +kernel
theorem dX8_isLikeOther_28 : decode cX8_isLikeOther 28 = .ok (.ifCond .eq 30, 3) := by decide +kernel
theorem dX8_isLikeOther_31 : decode cX8_isLikeOther 31 = .ok (.aload_n 0, 1) := by decide +kernel
theorem dX8_isLikeOther_32 : decode cX8_isLikeOther 32 = .ok (.getfield 22, 3) := by decide +kernel
theorem dX8_isLikeOther_35 : decode cX8_isLikeOther 35 = .ok (.iload_n 2, 1) := by decide +kernel
theorem dX8_isLikeOther_36 : decode cX8_isLikeOther 36 = .ok (.iaload, 1) := by decide +kernel
theorem dX8_isLikeOther_37 : decode cX8_isLikeOther 37 = .ok (.aload_n 0, 1) := by decide +kernel
theorem dX8_isLikeOther_38 : decode cX8_isLikeOther 38 = .ok (.getfield 34, 3) := by decide +kernel
theorem dX8_isLikeOther_41 : decode cX8_isLikeOther 41 = .ok (.iload_n 2, 1) := by decide +kernel
theorem dX8_isLikeOther_42 : decode cX8_isLikeOther 42 = .ok (.iaload, 1) := by decide +kernel
theorem dX8_isLikeOther_43 : decode cX8_isLikeOther 43 = .ok (.if_icmp .ne 7, 3) := by decide +kernel
theorem dX8_isLikeOther_46 : decode cX8_isLikeOther 46 = .ok (.iconst 1, 1) := by decide +kernel
theorem dX8_isLikeOther_47 : decode cX8_isLikeOther 47 = .ok (.goto 4, 3) := by decide +kernel
theorem dX8_isLikeOther_50 : decode cX8_isLikeOther 50 = .ok (.iconst 0, 1) := by decide +kernel
theorem dX8_isLikeOther_51 : decode cX8_isLikeOther 51 = .ok (.istore_n 1, 1) := by decide +kernel
theorem dX8_isLikeOther_52 : decode cX8_isLikeOther 52 = .ok (.iinc 2 1, 3) := by decide +kernel
theorem dX8_isLikeOther_55 : decode cX8_isLikeOther 55 = .ok (.goto (-36), 3) := by decide +kernel
theorem dX8_isLikeOther_58 : decode cX8_isLikeOther 58 = .ok (.iload_n 1, 1) := by decide +kernel
theorem dX8_isLikeOther_59 : decode cX8_isLikeOther 59 = .ok (.ireturn, 1) := by decide +kernel
theorem dX8_changes_0 : decode cX8_changes 0 = .ok (.iload_n 1, 1) := by decide +kernel
theorem dX8_changes_1 : decode cX8_changes 1 = .ok (.ifCond .ne 7, 3) := by decide +kernel
theorem dX8_changes_4 : decode cX8_changes 4 = .ok (.aload_n 0, 1) := by decide +kernel
theorem dX8_changes_5 : decode cX8_changes 5 = .ok (.invokevirtual 65, 3) := by decide +kernel
theorem dX8_changes_8 : decode cX8_changes 8 = .ok (.iload_n 1, 1) := by decide +kernel
theorem dX8_changes_9 : decode cX8_changes 9 = .ok (.iconst 1, 1) := by decide +kernel
theorem dX8_changes_10 : decode cX8_changes 10 = .ok (.if_icmp .ne 7, 3) := by decide +kernel
theorem dX8_changes_13 : decode cX8_changes 13 = .ok (.aload_n 0, 1) := by decide +kernel
theorem dX8_changes_14 : decode cX8_changes 14 = .ok (.invokevirtual 95, 3) := by decide +kernel
theorem dX8_changes_17 : decode cX8_changes 17 = .ok (.iload_n 1, 1) := by decide +kernel
theorem dX8_changes_18 : decode cX8_changes 18 = .ok (.iconst 2, 1) := by decide +kernel
theorem dX8_changes_19 : decode cX8_changes 19 = .ok (.if_icmp .ne 7, 3) := by decide +kernel
theorem dX8_changes_22 : decode cX8_changes 22 = .ok (.aload_n 0, 1) := by decide +kernel
theorem dX8_changes_23 : decode cX8_changes 23 = .ok (.invokevirtual 98, 3) := by decide +kernel
theorem dX8_changes_26 : decode cX8_changes 26 = .ok (.iload_n 1, 1) := by decide +kernel
theorem dX8_changes_27 : decode cX8_changes 27 = .ok (.iconst 3, 1) := by decide +kernel
theorem dX8_changes_28 : decode cX8_changes 28 = .ok (.if_icmp .ne 7, 3) := by decide +kernel
theorem dX8_changes_31 : decode cX8_changes 31 = .ok (.aload_n 0, 1) := by decide +kernel
theorem dX8_changes_32 : decode cX8_changes 32 = .ok (.invokevirtual 101, 3) := by decide +kernel
theorem dX8_changes_35 : decode cX8_changes 35 = .ok (.return_, 1) := by decide +kernel
theorem dX8_refusesCross_0 : decode cX8_refusesCross 0 = .ok (.aload_n 0, 1) := by decide +kernel
theorem dX8_refusesCross_1 : decode cX8_refusesCross 1 = .ok (.iload_n 1, 1) := by decide +kernel
theorem dX8_refusesCross_2 : decode cX8_refusesCross 2 = .ok (.invokevirtual 104, 3) := by decide +kernel
theorem dX8_refusesCross_5 : decode cX8_refusesCross 5 = .ok (.ifCond .ne 5, 3) := by decide +kernel
theorem dX8_refusesCross_8 : decode cX8_refusesCross 8 = .ok (.iconst 3, 1) := by decide +kernel
theorem dX8_refusesCross_9 : decode cX8_refusesCross 9 = .ok (.ireturn, 1) := by decide +kernel
theorem dX8_refusesCross_10 : decode cX8_refusesCross 10 = .ok (.iload_n 2, 1) := by decide +kernel
theorem dX8_refusesCross_11 : decode cX8_refusesCross 11 = .ok (.iconst 0, 1) := by decide +kernel
theorem dX8_refusesCross_12 : decode cX8_refusesCross 12 = .ok (.aload_n 0, 1) := by decide +kernel
theorem dX8_refusesCross_13 : decode cX8_refusesCross 13 = .ok (.iload_n 1, 1) := by decide +kernel
theorem dX8_refusesCross_14 : decode cX8_refusesCross 14 = .ok (.iconst 0, 1) := by decide +kernel
theorem dX8_refusesCross_15 : decode cX8_refusesCross 15 = .ok (.invokevirtual 51, 3) := by decide +kernel
theorem dX8_refusesCross_18 : decode cX8_refusesCross 18 = .ok (.iconst 2, 1) := by decide +kernel
theorem dX8_refusesCross_19 : decode cX8_refusesCross 19 = .ok (.isub, 1) := by decide +kernel
theorem dX8_refusesCross_20 : decode cX8_refusesCross 20 = .ok (.invokestatic 44, 3) := by decide +kernel
theorem dX8_refusesCross_23 : decode cX8_refusesCross 23 = .ok (.ifCond .ne 5, 3) := by decide +kernel
theorem dX8_refusesCross_26 : decode cX8_refusesCross 26 = .ok (.iconst 4, 1) := by decide +kernel
theorem dX8_refusesCross_27 : decode cX8_refusesCross 27 = .ok (.ireturn, 1) := by decide +kernel
theorem dX8_refusesCross_28 : decode cX8_refusesCross 28 = .ok (.aload_n 0, 1) := by decide +kernel
theorem dX8_refusesCross_29 : decode cX8_refusesCross 29 = .ok (.iload_n 1, 1) := by decide +kernel
theorem dX8_refusesCross_30 : decode cX8_refusesCross 30 = .ok (.invokevirtual 107, 3) := by decide +kernel
theorem dX8_refusesCross_33 : decode cX8_refusesCross 33 = .ok (.aload_n 0, 1) := by decide +kernel
theorem dX8_refusesCross_34 : decode cX8_refusesCross 34 = .ok (.getfield 22, 3) := by decide +kernel
theorem dX8_refusesCross_37 : decode cX8_refusesCross 37 = .ok (.aload_n 0, 1) := by decide +kernel
theorem dX8_refusesCross_38 : decode cX8_refusesCross 38 = .ok (.getfield 58, 3) := by decide +kernel
theorem dX8_refusesCross_41 : decode cX8_refusesCross 41 = .ok (.iconst 2, 1) := by decide +kernel
theorem dX8_refusesCross_42 : decode cX8_refusesCross 42 = .ok (.iload_n 2, 1) := by decide +kernel
theorem dX8_refusesCross_43 : decode cX8_refusesCross 43 = .ok (.imul, 1) := by decide +kernel
theorem dX8_refusesCross_44 : decode cX8_refusesCross 44 = .ok (.iload_n 3, 1) := by decide +kernel
theorem dX8_refusesCross_45 : decode cX8_refusesCross 45 = .ok (.iadd, 1) := by decide +kernel
theorem dX8_refusesCross_46 : decode cX8_refusesCross 46 = .ok (.iastore, 1) := by decide +kernel
theorem dX8_refusesCross_47 : decode cX8_refusesCross 47 = .ok (.aload_n 0, 1) := by decide +kernel
theorem dX8_refusesCross_48 : decode cX8_refusesCross 48 = .ok (.dup, 1) := by decide +kernel
theorem dX8_refusesCross_49 : decode cX8_refusesCross 49 = .ok (.getfield 58, 3) := by decide +kernel
theorem dX8_refusesCross_52 : decode cX8_refusesCross 52 = .ok (.iconst 1, 1) := by decide +kernel
theorem dX8_refusesCross_53 : decode cX8_refusesCross 53 = .ok (.iadd, 1) := by decide +kernel
theorem dX8_refusesCross_54 : decode cX8_refusesCross 54 = .ok (.putfield 58, 3) := by decide +kernel
theorem dX8_refusesCross_57 : decode cX8_refusesCross 57 = .ok (.aload_n 0, 1) := by decide +kernel
theorem dX8_refusesCross_58 : decode cX8_refusesCross 58 = .ok (.invokevirtual 110, 3) := by decide +kernel
theorem dX8_refusesCross_61 : decode cX8_refusesCross 61 = .ok (.ireturn, 1) := by decide +kernel
theorem dX8_refusesChange_0 : decode cX8_refusesChange 0 = .ok (.aload_n 0, 1) := by decide +kernel
theorem dX8_refusesChange_1 : decode cX8_refusesChange 1 = .ok (.iload_n 1, 1) := by decide +kernel
theorem dX8_refusesChange_2 : decode cX8_refusesChange 2 = .ok (.invokevirtual 104, 3) := by decide +kernel
theorem dX8_refusesChange_5 : decode cX8_refusesChange 5 = .ok (.ifCond .ne 5, 3) := by decide +kernel
theorem dX8_refusesChange_8 : decode cX8_refusesChange 8 = .ok (.iconst 3, 1) := by decide +kernel
theorem dX8_refusesChange_9 : decode cX8_refusesChange 9 = .ok (.ireturn, 1) := by decide +kernel
theorem dX8_refusesChange_10 : decode cX8_refusesChange 10 = .ok (.aload_n 0, 1) := by decide +kernel
theorem dX8_refusesChange_11 : decode cX8_refusesChange 11 = .ok (.iload_n 1, 1) := by decide +kernel
theorem dX8_refusesChange_12 : decode cX8_refusesChange 12 = .ok (.invokevirtual 107, 3) := by decide +kernel
theorem dX8_refusesChange_15 : decode cX8_refusesChange 15 = .ok (.aload_n 0, 1) := by decide +kernel
theorem dX8_refusesChange_16 : decode cX8_refusesChange 16 = .ok (.iload_n 2, 1) := by decide +kernel
theorem dX8_refusesChange_17 : decode cX8_refusesChange 17 = .ok (.invokevirtual 113, 3) := by decide +kernel
theorem dX8_refusesChange_20 : decode cX8_refusesChange 20 = .ok (.aload_n 0, 1) := by decide +kernel
theorem dX8_refusesChange_21 : decode cX8_refusesChange 21 = .ok (.invokevirtual 110, 3) := by decide +kernel
theorem dX8_refusesChange_24 : decode cX8_refusesChange 24 = .ok (.ireturn, 1) := by decide +kernel
theorem dX8_refusesJoin_0 : decode cX8_refusesJoin 0 = .ok (.aload_n 0, 1) := by decide +kernel
theorem dX8_refusesJoin_1 : decode cX8_refusesJoin 1 = .ok (.iload_n 1, 1) := by decide +kernel
theorem dX8_refusesJoin_2 : decode cX8_refusesJoin 2 = .ok (.invokevirtual 104, 3) := by decide +kernel
theorem dX8_refusesJoin_5 : decode cX8_refusesJoin 5 = .ok (.ifCond .eq 11, 3) := by decide +kernel
theorem dX8_refusesJoin_8 : decode cX8_refusesJoin 8 = .ok (.aload_n 0, 1) := by decide +kernel
theorem dX8_refusesJoin_9 : decode cX8_refusesJoin 9 = .ok (.iload_n 2, 1) := by decide +kernel
theorem dX8_refusesJoin_10 : decode cX8_refusesJoin 10 = .ok (.invokevirtual 104, 3) := by decide +kernel
theorem dX8_refusesJoin_13 : decode cX8_refusesJoin 13 = .ok (.ifCond .ne 5, 3) := by decide +kernel
theorem dX8_refusesJoin_16 : decode cX8_refusesJoin 16 = .ok (.iconst 3, 1) := by decide +kernel
theorem dX8_refusesJoin_17 : decode cX8_refusesJoin 17 = .ok (.ireturn, 1) := by decide +kernel
theorem dX8_refusesJoin_18 : decode cX8_refusesJoin 18 = .ok (.aload_n 0, 1) := by decide +kernel
theorem dX8_refusesJoin_19 : decode cX8_refusesJoin 19 = .ok (.iload_n 1, 1) := by decide +kernel
theorem dX8_refusesJoin_20 : decode cX8_refusesJoin 20 = .ok (.iconst 0, 1) := by decide +kernel
theorem dX8_refusesJoin_21 : decode cX8_refusesJoin 21 = .ok (.invokevirtual 51, 3) := by decide +kernel
theorem dX8_refusesJoin_24 : decode cX8_refusesJoin 24 = .ok (.aload_n 0, 1) := by decide +kernel
theorem dX8_refusesJoin_25 : decode cX8_refusesJoin 25 = .ok (.iload_n 2, 1) := by decide +kernel
theorem dX8_refusesJoin_26 : decode cX8_refusesJoin 26 = .ok (.iconst 0, 1) := by decide +kernel
theorem dX8_refusesJoin_27 : decode cX8_refusesJoin 27 = .ok (.invokevirtual 51, 3) := by decide +kernel
theorem dX8_refusesJoin_30 : decode cX8_refusesJoin 30 = .ok (.if_icmp .eq 5, 3) := by decide +kernel
theorem dX8_refusesJoin_33 : decode cX8_refusesJoin 33 = .ok (.iconst 5, 1) := by decide +kernel
theorem dX8_refusesJoin_34 : decode cX8_refusesJoin 34 = .ok (.ireturn, 1) := by decide +kernel
theorem dX8_refusesJoin_35 : decode cX8_refusesJoin 35 = .ok (.aload_n 0, 1) := by decide +kernel
theorem dX8_refusesJoin_36 : decode cX8_refusesJoin 36 = .ok (.iload_n 1, 1) := by decide +kernel
theorem dX8_refusesJoin_37 : decode cX8_refusesJoin 37 = .ok (.invokevirtual 107, 3) := by decide +kernel
theorem dX8_refusesJoin_40 : decode cX8_refusesJoin 40 = .ok (.aload_n 0, 1) := by decide +kernel
theorem dX8_refusesJoin_41 : decode cX8_refusesJoin 41 = .ok (.iload_n 2, 1) := by decide +kernel
theorem dX8_refusesJoin_42 : decode cX8_refusesJoin 42 = .ok (.invokevirtual 116, 3) := by decide +kernel
theorem dX8_refusesJoin_45 : decode cX8_refusesJoin 45 = .ok (.aload_n 0, 1) := by decide +kernel
theorem dX8_refusesJoin_46 : decode cX8_refusesJoin 46 = .ok (.invokevirtual 110, 3) := by decide +kernel
theorem dX8_refusesJoin_49 : decode cX8_refusesJoin 49 = .ok (.ireturn, 1) := by decide +kernel
theorem dX8_refusesBack_0 : decode cX8_refusesBack 0 = .ok (.aload_n 0, 1) := by decide +kernel
theorem dX8_refusesBack_1 : decode cX8_refusesBack 1 = .ok (.iload_n 1, 1) := by decide +kernel
theorem dX8_refusesBack_2 : decode cX8_refusesBack 2 = .ok (.invokevirtual 104, 3) := by decide +kernel
theorem dX8_refusesBack_5 : decode cX8_refusesBack 5 = .ok (.ifCond .ne 7, 3) := by decide +kernel
theorem dX8_refusesBack_8 : decode cX8_refusesBack 8 = .ok (.iconst 3, 1) := by decide +kernel
theorem dX8_refusesBack_9 : decode cX8_refusesBack 9 = .ok (.goto 18, 3) := by decide +kernel
theorem dX8_refusesBack_12 : decode cX8_refusesBack 12 = .ok (.aload_n 0, 1) := by decide +kernel
theorem dX8_refusesBack_13 : decode cX8_refusesBack 13 = .ok (.iload_n 1, 1) := by decide +kernel
theorem dX8_refusesBack_14 : decode cX8_refusesBack 14 = .ok (.iconst 1, 1) := by decide +kernel
theorem dX8_refusesBack_15 : decode cX8_refusesBack 15 = .ok (.invokevirtual 51, 3) := by decide +kernel
theorem dX8_refusesBack_18 : decode cX8_refusesBack 18 = .ok (.ifCond .ne 8, 3) := by decide +kernel
theorem dX8_refusesBack_21 : decode cX8_refusesBack 21 = .ok (.bipush 6, 2) := by decide +kernel
theorem dX8_refusesBack_23 : decode cX8_refusesBack 23 = .ok (.goto 4, 3) := by decide +kernel
theorem dX8_refusesBack_26 : decode cX8_refusesBack 26 = .ok (.iconst 0, 1) := by decide +kernel
theorem dX8_refusesBack_27 : decode cX8_refusesBack 27 = .ok (.ireturn, 1) := by decide +kernel
theorem dX8_lay_0 : decode cX8_lay 0 = .ok (.aload_n 0, 1) := by decide +kernel
theorem dX8_lay_1 : decode cX8_lay 1 = .ok (.iconst 0, 1) := by decide +kernel
theorem dX8_lay_2 : decode cX8_lay 2 = .ok (.putfield 40, 3) := by decide +kernel
theorem dX8_lay_5 : decode cX8_lay 5 = .ok (.aload_n 0, 1) := by decide +kernel
theorem dX8_lay_6 : decode cX8_lay 6 = .ok (.invokevirtual 119, 3) := by decide +kernel
theorem dX8_lay_9 : decode cX8_lay 9 = .ok (.ifCond .ne 9, 3) := by decide +kernel
theorem dX8_lay_12 : decode cX8_lay 12 = .ok (.aload_n 0, 1) := by decide +kernel
theorem dX8_lay_13 : decode cX8_lay 13 = .ok (.iconst 1, 1) := by decide +kernel
theorem dX8_lay_14 : decode cX8_lay 14 = .ok (.invokevirtual 123, 3) := by decide +kernel
theorem dX8_lay_17 : decode cX8_lay 17 = .ok (.ireturn, 1) := by decide +kernel
theorem dX8_lay_18 : decode cX8_lay 18 = .ok (.aload_n 0, 1) := by decide +kernel
theorem dX8_lay_19 : decode cX8_lay 19 = .ok (.getfield 7, 3) := by decide +kernel
theorem dX8_lay_22 : decode cX8_lay 22 = .ok (.iconst 0, 1) := by decide +kernel
theorem dX8_lay_23 : decode cX8_lay 23 = .ok (.iaload, 1) := by decide +kernel
theorem dX8_lay_24 : decode cX8_lay 24 = .ok (.bipush 6, 2) := by decide +kernel
theorem dX8_lay_26 : decode cX8_lay 26 = .ok (.if_icmp .eq 10, 3) := by decide +kernel
theorem dX8_lay_29 : decode cX8_lay 29 = .ok (.aload_n 0, 1) := by decide +kernel
theorem dX8_lay_30 : decode cX8_lay 30 = .ok (.invokevirtual 110, 3) := by decide +kernel
theorem dX8_lay_33 : decode cX8_lay 33 = .ok (.ifCond .eq 9, 3) := by decide +kernel
theorem dX8_lay_36 : decode cX8_lay 36 = .ok (.aload_n 0, 1) := by decide +kernel
theorem dX8_lay_37 : decode cX8_lay 37 = .ok (.iconst 2, 1) := by decide +kernel
theorem dX8_lay_38 : decode cX8_lay 38 = .ok (.invokevirtual 123, 3) := by decide +kernel
theorem dX8_lay_41 : decode cX8_lay 41 = .ok (.ireturn, 1) := by decide +kernel
theorem dX8_lay_42 : decode cX8_lay 42 = .ok (.aload_n 0, 1) := by decide +kernel
theorem dX8_lay_43 : decode cX8_lay 43 = .ok (.invokevirtual 127, 3) := by decide +kernel
theorem dX8_lay_46 : decode cX8_lay 46 = .ok (.aload_n 0, 1) := by decide +kernel
theorem dX8_lay_47 : decode cX8_lay 47 = .ok (.aload_n 0, 1) := by decide +kernel
theorem dX8_lay_48 : decode cX8_lay 48 = .ok (.getfield 7, 3) := by decide +kernel
theorem dX8_lay_51 : decode cX8_lay 51 = .ok (.iconst 0, 1) := by decide +kernel
theorem dX8_lay_52 : decode cX8_lay 52 = .ok (.iaload, 1) := by decide +kernel
theorem dX8_lay_53 : decode cX8_lay 53 = .ok (.invokevirtual 130, 3) := by decide +kernel
theorem dX8_lay_56 : decode cX8_lay 56 = .ok (.aload_n 0, 1) := by decide +kernel
theorem dX8_lay_57 : decode cX8_lay 57 = .ok (.getfield 7, 3) := by decide +kernel
theorem dX8_lay_60 : decode cX8_lay 60 = .ok (.iconst 0, 1) := by decide +kernel
theorem dX8_lay_61 : decode cX8_lay 61 = .ok (.dup2, 1) := by decide +kernel
theorem dX8_lay_62 : decode cX8_lay 62 = .ok (.iaload, 1) := by decide +kernel
theorem dX8_lay_63 : decode cX8_lay 63 = .ok (.iconst 1, 1) := by decide +kernel
theorem dX8_lay_64 : decode cX8_lay 64 = .ok (.iadd, 1) := by decide +kernel
theorem dX8_lay_65 : decode cX8_lay 65 = .ok (.iastore, 1) := by decide +kernel
theorem dX8_lay_66 : decode cX8_lay 66 = .ok (.aload_n 0, 1) := by decide +kernel
theorem dX8_lay_67 : decode cX8_lay 67 = .ok (.iconst 0, 1) := by decide +kernel
theorem dX8_lay_68 : decode cX8_lay 68 = .ok (.putfield 133, 3) := by decide +kernel
theorem dX8_lay_71 : decode cX8_lay 71 = .ok (.aload_n 0, 1) := by decide +kernel
theorem dX8_lay_72 : decode cX8_lay 72 = .ok (.getfield 7, 3) := by decide +kernel
theorem dX8_lay_75 : decode cX8_lay 75 = .ok (.iconst 0, 1) := by decide +kernel
theorem dX8_lay_76 : decode cX8_lay 76 = .ok (.iaload, 1) := by decide +kernel
theorem dX8_lay_77 : decode cX8_lay 77 = .ok (.iconst 1, 1) := by decide +kernel
theorem dX8_lay_78 : decode cX8_lay 78 = .ok (.isub, 1) := by decide +kernel
theorem dX8_lay_79 : decode cX8_lay 79 = .ok (.ireturn, 1) := by decide +kernel
theorem dX8_bake_0 : decode cX8_bake 0 = .ok (.aload_n 0, 1) := by decide +kernel
theorem dX8_bake_1 : decode cX8_bake 1 = .ok (.iconst 0, 1) := by decide +kernel
theorem dX8_bake_2 : decode cX8_bake 2 = .ok (.putfield 40, 3) := by decide +kernel
theorem dX8_bake_5 : decode cX8_bake 5 = .ok (.aload_n 0, 1) := by decide +kernel
theorem dX8_bake_6 : decode cX8_bake 6 = .ok (.iload_n 1, 1) := by decide +kernel
theorem dX8_bake_7 : decode cX8_bake 7 = .ok (.invokevirtual 104, 3) := by decide +kernel
theorem dX8_bake_10 : decode cX8_bake 10 = .ok (.ifCond .ne 9, 3) := by decide +kernel
theorem dX8_bake_13 : decode cX8_bake 13 = .ok (.aload_n 0, 1) := by decide +kernel
theorem dX8_bake_14 : decode cX8_bake 14 = .ok (.iconst 1, 1) := by decide +kernel
theorem dX8_bake_15 : decode cX8_bake 15 = .ok (.invokevirtual 123, 3) := by decide +kernel
theorem dX8_bake_18 : decode cX8_bake 18 = .ok (.ireturn, 1) := by decide +kernel
theorem dX8_bake_19 : decode cX8_bake 19 = .ok (.aload_n 0, 1) := by decide +kernel
theorem dX8_bake_20 : decode cX8_bake 20 = .ok (.invokevirtual 127, 3) := by decide +kernel
theorem dX8_bake_23 : decode cX8_bake 23 = .ok (.aload_n 0, 1) := by decide +kernel
theorem dX8_bake_24 : decode cX8_bake 24 = .ok (.iload_n 1, 1) := by decide +kernel
theorem dX8_bake_25 : decode cX8_bake 25 = .ok (.iconst 1, 1) := by decide +kernel
theorem dX8_bake_26 : decode cX8_bake 26 = .ok (.invokevirtual 51, 3) := by decide +kernel
theorem dX8_bake_29 : decode cX8_bake 29 = .ok (.istore_n 2, 1) := by decide +kernel
theorem dX8_bake_30 : decode cX8_bake 30 = .ok (.aload_n 0, 1) := by decide +kernel
theorem dX8_bake_31 : decode cX8_bake 31 = .ok (.getfield 7, 3) := by decide +kernel
theorem dX8_bake_34 : decode cX8_bake 34 = .ok (.iconst 0, 1) := by decide +kernel
theorem dX8_bake_35 : decode cX8_bake 35 = .ok (.dup2, 1) := by decide +kernel
theorem dX8_bake_36 : decode cX8_bake 36 = .ok (.iaload, 1) := by decide +kernel
theorem dX8_bake_37 : decode cX8_bake 37 = .ok (.iconst 1, 1) := by decide +kernel
theorem dX8_bake_38 : decode cX8_bake 38 = .ok (.isub, 1) := by decide +kernel
theorem dX8_bake_39 : decode cX8_bake 39 = .ok (.iastore, 1) := by decide +kernel
theorem dX8_bake_40 : decode cX8_bake 40 = .ok (.iload_n 1, 1) := by decide +kernel
theorem dX8_bake_41 : decode cX8_bake 41 = .ok (.istore_n 3, 1) := by decide +kernel
theorem dX8_bake_42 : decode cX8_bake 42 = .ok (.iload_n 3, 1) := by decide +kernel
theorem dX8_bake_43 : decode cX8_bake 43 = .ok (.aload_n 0, 1) := by decide +kernel
theorem dX8_bake_44 : decode cX8_bake 44 = .ok (.getfield 7, 3) := by decide +kernel
theorem dX8_bake_47 : decode cX8_bake 47 = .ok (.iconst 0, 1) := by decide +kernel
theorem dX8_bake_48 : decode cX8_bake 48 = .ok (.iaload, 1) := by decide +kernel
theorem dX8_bake_49 : decode cX8_bake 49 = .ok (.if_icmp .ge 21, 3) := by decide +kernel
theorem dX8_bake_52 : decode cX8_bake 52 = .ok (.aload_n 0, 1) := by decide +kernel
theorem dX8_bake_53 : decode cX8_bake 53 = .ok (.iload_n 3, 1) := by decide +kernel
theorem dX8_bake_54 : decode cX8_bake 54 = .ok (.iconst 1, 1) := by decide +kernel
theorem dX8_bake_55 : decode cX8_bake 55 = .ok (.iadd, 1) := by decide +kernel
theorem dX8_bake_56 : decode cX8_bake 56 = .ok (.invokevirtual 107, 3) := by decide +kernel
theorem dX8_bake_59 : decode cX8_bake 59 = .ok (.aload_n 0, 1) := by decide +kernel
theorem dX8_bake_60 : decode cX8_bake 60 = .ok (.iload_n 3, 1) := by decide +kernel
theorem dX8_bake_61 : decode cX8_bake 61 = .ok (.invokevirtual 130, 3) := by decide +kernel
theorem dX8_bake_64 : decode cX8_bake 64 = .ok (.iinc 3 1, 3) := by decide +kernel
theorem dX8_bake_67 : decode cX8_bake 67 = .ok (.goto (-25), 3) := by decide +kernel
theorem dX8_bake_70 : decode cX8_bake 70 = .ok (.iconst 0, 1) := by decide +kernel
theorem dX8_bake_71 : decode cX8_bake 71 = .ok (.istore_n 3, 1) := by decide +kernel
theorem dX8_bake_72 : decode cX8_bake 72 = .ok (.iload_n 3, 1) := by decide +kernel
theorem dX8_bake_73 : decode cX8_bake 73 = .ok (.bipush 26, 2) := by decide +kernel
theorem dX8_bake_75 : decode cX8_bake 75 = .ok (.if_icmp .ge 21, 3) := by decide +kernel
theorem dX8_bake_78 : decode cX8_bake 78 = .ok (.aload_n 0, 1) := by decide +kernel
theorem dX8_bake_79 : decode cX8_bake 79 = .ok (.aload_n 0, 1) := by decide +kernel
theorem dX8_bake_80 : decode cX8_bake 80 = .ok (.getfield 7, 3) := by decide +kernel
theorem dX8_bake_83 : decode cX8_bake 83 = .ok (.iconst 0, 1) := by decide +kernel
theorem dX8_bake_84 : decode cX8_bake 84 = .ok (.iaload, 1) := by decide +kernel
theorem dX8_bake_85 : decode cX8_bake 85 = .ok (.iload_n 3, 1) := by decide +kernel
theorem dX8_bake_86 : decode cX8_bake 86 = .ok (.iconst 0, 1) := by decide +kernel
theorem dX8_bake_87 : decode cX8_bake 87 = .ok (.invokevirtual 61, 3) := by decide +kernel
theorem dX8_bake_90 : decode cX8_bake 90 = .ok (.iinc 3 1, 3) := by decide +kernel
theorem dX8_bake_93 : decode cX8_bake 93 = .ok (.goto (-21), 3) := by decide +kernel
theorem dX8_bake_96 : decode cX8_bake 96 = .ok (.iload_n 2, 1) := by decide +kernel
theorem dX8_bake_97 : decode cX8_bake 97 = .ok (.ireturn, 1) := by decide +kernel
theorem dX8_cross_0 : decode cX8_cross 0 = .ok (.aload_n 0, 1) := by decide +kernel
theorem dX8_cross_1 : decode cX8_cross 1 = .ok (.iconst 0, 1) := by decide +kernel
theorem dX8_cross_2 : decode cX8_cross 2 = .ok (.putfield 40, 3) := by decide +kernel
theorem dX8_cross_5 : decode cX8_cross 5 = .ok (.aload_n 0, 1) := by decide +kernel
theorem dX8_cross_6 : decode cX8_cross 6 = .ok (.iload_n 1, 1) := by decide +kernel
theorem dX8_cross_7 : decode cX8_cross 7 = .ok (.iload_n 2, 1) := by decide +kernel
theorem dX8_cross_8 : decode cX8_cross 8 = .ok (.iload_n 3, 1) := by decide +kernel
theorem dX8_cross_9 : decode cX8_cross 9 = .ok (.ifCond .eq 7, 3) := by decide +kernel
theorem dX8_cross_12 : decode cX8_cross 12 = .ok (.iconst 1, 1) := by decide +kernel
theorem dX8_cross_13 : decode cX8_cross 13 = .ok (.goto 4, 3) := by decide +kernel
theorem dX8_cross_16 : decode cX8_cross 16 = .ok (.iconst 0, 1) := by decide +kernel
theorem dX8_cross_17 : decode cX8_cross 17 = .ok (.invokevirtual 136, 3) := by decide +kernel
theorem dX8_cross_20 : decode cX8_cross 20 = .ok (.istore 4, 2) := by decide +kernel
theorem dX8_cross_22 : decode cX8_cross 22 = .ok (.iload 4, 2) := by decide +kernel
theorem dX8_cross_24 : decode cX8_cross 24 = .ok (.ifCond .eq 19, 3) := by decide +kernel
theorem dX8_cross_27 : decode cX8_cross 27 = .ok (.aload_n 0, 1) := by decide +kernel
theorem dX8_cross_28 : decode cX8_cross 28 = .ok (.iload 4, 2) := by decide +kernel
theorem dX8_cross_30 : decode cX8_cross 30 = .ok (.iconst 3, 1) := by decide +kernel
theorem dX8_cross_31 : decode cX8_cross 31 = .ok (.if_icmp .ge 7, 3) := by decide +kernel
theorem dX8_cross_34 : decode cX8_cross 34 = .ok (.iconst 2, 1) := by decide +kernel
theorem dX8_cross_35 : decode cX8_cross 35 = .ok (.goto 4, 3) := by decide +kernel
theorem dX8_cross_38 : decode cX8_cross 38 = .ok (.iconst 1, 1) := by decide +kernel
theorem dX8_cross_39 : decode cX8_cross 39 = .ok (.invokevirtual 123, 3) := by decide +kernel
theorem dX8_cross_42 : decode cX8_cross 42 = .ok (.ireturn, 1) := by decide +kernel
theorem dX8_cross_43 : decode cX8_cross 43 = .ok (.aload_n 0, 1) := by decide +kernel
theorem dX8_cross_44 : decode cX8_cross 44 = .ok (.invokevirtual 127, 3) := by decide +kernel
theorem dX8_cross_47 : decode cX8_cross 47 = .ok (.aload_n 0, 1) := by decide +kernel
theorem dX8_cross_48 : decode cX8_cross 48 = .ok (.iload_n 1, 1) := by decide +kernel
theorem dX8_cross_49 : decode cX8_cross 49 = .ok (.invokevirtual 130, 3) := by decide +kernel
theorem dX8_cross_52 : decode cX8_cross 52 = .ok (.aload_n 0, 1) := by decide +kernel
theorem dX8_cross_53 : decode cX8_cross 53 = .ok (.getfield 86, 3) := by decide +kernel
theorem dX8_cross_56 : decode cX8_cross 56 = .ok (.ireturn, 1) := by decide +kernel
theorem dX8_back_0 : decode cX8_back 0 = .ok (.aload_n 0, 1) := by decide +kernel
theorem dX8_back_1 : decode cX8_back 1 = .ok (.iconst 0, 1) := by decide +kernel
theorem dX8_back_2 : decode cX8_back 2 = .ok (.putfield 40, 3) := by decide +kernel
theorem dX8_back_5 : decode cX8_back 5 = .ok (.aload_n 0, 1) := by decide +kernel
theorem dX8_back_6 : decode cX8_back 6 = .ok (.iload_n 1, 1) := by decide +kernel
theorem dX8_back_7 : decode cX8_back 7 = .ok (.invokevirtual 140, 3) := by decide +kernel
theorem dX8_back_10 : decode cX8_back 10 = .ok (.istore_n 2, 1) := by decide +kernel
theorem dX8_back_11 : decode cX8_back 11 = .ok (.iload_n 2, 1) := by decide +kernel
theorem dX8_back_12 : decode cX8_back 12 = .ok (.ifCond .eq 18, 3) := by decide +kernel
theorem dX8_back_15 : decode cX8_back 15 = .ok (.aload_n 0, 1) := by decide +kernel
theorem dX8_back_16 : decode cX8_back 16 = .ok (.iload_n 2, 1) := by decide +kernel
theorem dX8_back_17 : decode cX8_back 17 = .ok (.iconst 3, 1) := by decide +kernel
theorem dX8_back_18 : decode cX8_back 18 = .ok (.if_icmp .ne 7, 3) := by decide +kernel
theorem dX8_back_21 : decode cX8_back 21 = .ok (.iconst 1, 1) := by decide +kernel
theorem dX8_back_22 : decode cX8_back 22 = .ok (.goto 4, 3) := by decide +kernel
theorem dX8_back_25 : decode cX8_back 25 = .ok (.iconst 2, 1) := by decide +kernel
theorem dX8_back_26 : decode cX8_back 26 = .ok (.invokevirtual 123, 3) := by decide +kernel
theorem dX8_back_29 : decode cX8_back 29 = .ok (.ireturn, 1) := by decide +kernel
theorem dX8_back_30 : decode cX8_back 30 = .ok (.aload_n 0, 1) := by decide +kernel
theorem dX8_back_31 : decode cX8_back 31 = .ok (.invokevirtual 127, 3) := by decide +kernel
theorem dX8_back_34 : decode cX8_back 34 = .ok (.aload_n 0, 1) := by decide +kernel
theorem dX8_back_35 : decode cX8_back 35 = .ok (.iload_n 1, 1) := by decide +kernel
theorem dX8_back_36 : decode cX8_back 36 = .ok (.invokevirtual 143, 3) := by decide +kernel
theorem dX8_back_39 : decode cX8_back 39 = .ok (.aload_n 0, 1) := by decide +kernel
theorem dX8_back_40 : decode cX8_back 40 = .ok (.iload_n 1, 1) := by decide +kernel
theorem dX8_back_41 : decode cX8_back 41 = .ok (.iconst 1, 1) := by decide +kernel
theorem dX8_back_42 : decode cX8_back 42 = .ok (.invokevirtual 51, 3) := by decide +kernel
theorem dX8_back_45 : decode cX8_back 45 = .ok (.ireturn, 1) := by decide +kernel
theorem dX8_takesBack_0 : decode cX8_takesBack 0 = .ok (.aload_n 0, 1) := by decide +kernel
theorem dX8_takesBack_1 : decode cX8_takesBack 1 = .ok (.iload_n 1, 1) := by decide +kernel
theorem dX8_takesBack_2 : decode cX8_takesBack 2 = .ok (.invokevirtual 107, 3) := by decide +kernel
theorem dX8_takesBack_5 : decode cX8_takesBack 5 = .ok (.aload_n 0, 1) := by decide +kernel
theorem dX8_takesBack_6 : decode cX8_takesBack 6 = .ok (.dup, 1) := by decide +kernel
theorem dX8_takesBack_7 : decode cX8_takesBack 7 = .ok (.getfield 58, 3) := by decide +kernel
theorem dX8_takesBack_10 : decode cX8_takesBack 10 = .ok (.iconst 1, 1) := by decide +kernel
theorem dX8_takesBack_11 : decode cX8_takesBack 11 = .ok (.isub, 1) := by decide +kernel
theorem dX8_takesBack_12 : decode cX8_takesBack 12 = .ok (.putfield 58, 3) := by decide +kernel
theorem dX8_takesBack_15 : decode cX8_takesBack 15 = .ok (.aload_n 0, 1) := by decide +kernel
theorem dX8_takesBack_16 : decode cX8_takesBack 16 = .ok (.iload_n 1, 1) := by decide +kernel
theorem dX8_takesBack_17 : decode cX8_takesBack 17 = .ok (.invokevirtual 130, 3) := by decide +kernel
theorem dX8_takesBack_20 : decode cX8_takesBack 20 = .ok (.return_, 1) := by decide +kernel
theorem dX8_change_0 : decode cX8_change 0 = .ok (.aload_n 0, 1) := by decide +kernel
theorem dX8_change_1 : decode cX8_change 1 = .ok (.iconst 0, 1) := by decide +kernel
theorem dX8_change_2 : decode cX8_change 2 = .ok (.putfield 40, 3) := by decide +kernel
theorem dX8_change_5 : decode cX8_change 5 = .ok (.aload_n 0, 1) := by decide +kernel
theorem dX8_change_6 : decode cX8_change 6 = .ok (.iload_n 1, 1) := by decide +kernel
theorem dX8_change_7 : decode cX8_change 7 = .ok (.invokevirtual 104, 3) := by decide +kernel
theorem dX8_change_10 : decode cX8_change 10 = .ok (.ifCond .ne 9, 3) := by decide +kernel
theorem dX8_change_13 : decode cX8_change 13 = .ok (.aload_n 0, 1) := by decide +kernel
theorem dX8_change_14 : decode cX8_change 14 = .ok (.iconst 1, 1) := by decide +kernel
theorem dX8_change_15 : decode cX8_change 15 = .ok (.invokevirtual 123, 3) := by decide +kernel
theorem dX8_change_18 : decode cX8_change 18 = .ok (.ireturn, 1) := by decide +kernel
theorem dX8_change_19 : decode cX8_change 19 = .ok (.iload_n 2, 1) := by decide +kernel
theorem dX8_change_20 : decode cX8_change 20 = .ok (.iconst 0, 1) := by decide +kernel
theorem dX8_change_21 : decode cX8_change 21 = .ok (.iconst 3, 1) := by decide +kernel
theorem dX8_change_22 : decode cX8_change 22 = .ok (.invokestatic 44, 3) := by decide +kernel
theorem dX8_change_25 : decode cX8_change 25 = .ok (.ifCond .ne 9, 3) := by decide +kernel
theorem dX8_change_28 : decode cX8_change 28 = .ok (.aload_n 0, 1) := by decide +kernel
theorem dX8_change_29 : decode cX8_change 29 = .ok (.iconst 2, 1) := by decide +kernel
theorem dX8_change_30 : decode cX8_change 30 = .ok (.invokevirtual 123, 3) := by decide +kernel
theorem dX8_change_33 : decode cX8_change 33 = .ok (.ireturn, 1) := by decide +kernel
theorem dX8_change_34 : decode cX8_change 34 = .ok (.aload_n 0, 1) := by decide +kernel
theorem dX8_change_35 : decode cX8_change 35 = .ok (.iload_n 1, 1) := by decide +kernel
theorem dX8_change_36 : decode cX8_change 36 = .ok (.iload_n 2, 1) := by decide +kernel
theorem dX8_change_37 : decode cX8_change 37 = .ok (.invokevirtual 146, 3) := by decide +kernel
theorem dX8_change_40 : decode cX8_change 40 = .ok (.ifCond .eq 9, 3) := by decide +kernel
theorem dX8_change_43 : decode cX8_change 43 = .ok (.aload_n 0, 1) := by decide +kernel
theorem dX8_change_44 : decode cX8_change 44 = .ok (.iconst 3, 1) := by decide +kernel
theorem dX8_change_45 : decode cX8_change 45 = .ok (.invokevirtual 123, 3) := by decide +kernel
theorem dX8_change_48 : decode cX8_change 48 = .ok (.ireturn, 1) := by decide +kernel
theorem dX8_change_49 : decode cX8_change 49 = .ok (.aload_n 0, 1) := by decide +kernel
theorem dX8_change_50 : decode cX8_change 50 = .ok (.invokevirtual 127, 3) := by decide +kernel
theorem dX8_change_53 : decode cX8_change 53 = .ok (.aload_n 0, 1) := by decide +kernel
theorem dX8_change_54 : decode cX8_change 54 = .ok (.iload_n 1, 1) := by decide +kernel
theorem dX8_change_55 : decode cX8_change 55 = .ok (.invokevirtual 130, 3) := by decide +kernel
theorem dX8_change_58 : decode cX8_change 58 = .ok (.aload_n 0, 1) := by decide +kernel
theorem dX8_change_59 : decode cX8_change 59 = .ok (.getfield 7, 3) := by decide +kernel
theorem dX8_change_62 : decode cX8_change 62 = .ok (.iconst 1, 1) := by decide +kernel
theorem dX8_change_63 : decode cX8_change 63 = .ok (.dup2, 1) := by decide +kernel
theorem dX8_change_64 : decode cX8_change 64 = .ok (.iaload, 1) := by decide +kernel
theorem dX8_change_65 : decode cX8_change 65 = .ok (.iconst 1, 1) := by decide +kernel
theorem dX8_change_66 : decode cX8_change 66 = .ok (.iadd, 1) := by decide +kernel
theorem dX8_change_67 : decode cX8_change 67 = .ok (.iastore, 1) := by decide +kernel
theorem dX8_change_68 : decode cX8_change 68 = .ok (.aload_n 0, 1) := by decide +kernel
theorem dX8_change_69 : decode cX8_change 69 = .ok (.iload_n 1, 1) := by decide +kernel
theorem dX8_change_70 : decode cX8_change 70 = .ok (.iconst 1, 1) := by decide +kernel
theorem dX8_change_71 : decode cX8_change 71 = .ok (.invokevirtual 51, 3) := by decide +kernel
theorem dX8_change_74 : decode cX8_change 74 = .ok (.ireturn, 1) := by decide +kernel
theorem dX8_join_0 : decode cX8_join 0 = .ok (.aload_n 0, 1) := by decide +kernel
theorem dX8_join_1 : decode cX8_join 1 = .ok (.iconst 0, 1) := by decide +kernel
theorem dX8_join_2 : decode cX8_join 2 = .ok (.putfield 40, 3) := by decide +kernel
theorem dX8_join_5 : decode cX8_join 5 = .ok (.aload_n 0, 1) := by decide +kernel
theorem dX8_join_6 : decode cX8_join 6 = .ok (.iload_n 1, 1) := by decide +kernel
theorem dX8_join_7 : decode cX8_join 7 = .ok (.iload_n 2, 1) := by decide +kernel
theorem dX8_join_8 : decode cX8_join 8 = .ok (.invokevirtual 149, 3) := by decide +kernel
theorem dX8_join_11 : decode cX8_join 11 = .ok (.istore_n 3, 1) := by decide +kernel
theorem dX8_join_12 : decode cX8_join 12 = .ok (.iload_n 3, 1) := by decide +kernel
theorem dX8_join_13 : decode cX8_join 13 = .ok (.ifCond .eq 18, 3) := by decide +kernel
theorem dX8_join_16 : decode cX8_join 16 = .ok (.aload_n 0, 1) := by decide +kernel
theorem dX8_join_17 : decode cX8_join 17 = .ok (.iload_n 3, 1) := by decide +kernel
theorem dX8_join_18 : decode cX8_join 18 = .ok (.iconst 3, 1) := by decide +kernel
theorem dX8_join_19 : decode cX8_join 19 = .ok (.if_icmp .ne 7, 3) := by decide +kernel
theorem dX8_join_22 : decode cX8_join 22 = .ok (.iconst 1, 1) := by decide +kernel
theorem dX8_join_23 : decode cX8_join 23 = .ok (.goto 4, 3) := by decide +kernel
theorem dX8_join_26 : decode cX8_join 26 = .ok (.iconst 2, 1) := by decide +kernel
theorem dX8_join_27 : decode cX8_join 27 = .ok (.invokevirtual 123, 3) := by decide +kernel
theorem dX8_join_30 : decode cX8_join 30 = .ok (.ireturn, 1) := by decide +kernel
theorem dX8_join_31 : decode cX8_join 31 = .ok (.aload_n 0, 1) := by decide +kernel
theorem dX8_join_32 : decode cX8_join 32 = .ok (.invokevirtual 127, 3) := by decide +kernel
theorem dX8_join_35 : decode cX8_join 35 = .ok (.aload_n 0, 1) := by decide +kernel
theorem dX8_join_36 : decode cX8_join 36 = .ok (.iload_n 1, 1) := by decide +kernel
theorem dX8_join_37 : decode cX8_join 37 = .ok (.invokevirtual 130, 3) := by decide +kernel
theorem dX8_join_40 : decode cX8_join 40 = .ok (.aload_n 0, 1) := by decide +kernel
theorem dX8_join_41 : decode cX8_join 41 = .ok (.iload_n 1, 1) := by decide +kernel
theorem dX8_join_42 : decode cX8_join 42 = .ok (.iconst 1, 1) := by decide +kernel
theorem dX8_join_43 : decode cX8_join 43 = .ok (.invokevirtual 51, 3) := by decide +kernel
theorem dX8_join_46 : decode cX8_join 46 = .ok (.ireturn, 1) := by decide +kernel
theorem dX8_append_0 : decode cX8_append 0 = .ok (.aload_n 0, 1) := by decide +kernel
theorem dX8_append_1 : decode cX8_append 1 = .ok (.iconst 0, 1) := by decide +kernel
theorem dX8_append_2 : decode cX8_append 2 = .ok (.putfield 40, 3) := by decide +kernel
theorem dX8_append_5 : decode cX8_append 5 = .ok (.iload_n 1, 1) := by decide +kernel
theorem dX8_append_6 : decode cX8_append 6 = .ok (.bipush 33, 2) := by decide +kernel
theorem dX8_append_8 : decode cX8_append 8 = .ok (.bipush 126, 2) := by decide +kernel
theorem dX8_append_10 : decode cX8_append 10 = .ok (.invokestatic 44, 3) := by decide +kernel
theorem dX8_append_13 : decode cX8_append 13 = .ok (.ifCond .ne 9, 3) := by decide +kernel
theorem dX8_append_16 : decode cX8_append 16 = .ok (.aload_n 0, 1) := by decide +kernel
theorem dX8_append_17 : decode cX8_append 17 = .ok (.iconst 1, 1) := by decide +kernel
theorem dX8_append_18 : decode cX8_append 18 = .ok (.invokevirtual 123, 3) := by decide +kernel
theorem dX8_append_21 : decode cX8_append 21 = .ok (.ireturn, 1) := by decide +kernel
theorem dX8_append_22 : decode cX8_append 22 = .ok (.aload_n 0, 1) := by decide +kernel
theorem dX8_append_23 : decode cX8_append 23 = .ok (.getfield 133, 3) := by decide +kernel
theorem dX8_append_26 : decode cX8_append 26 = .ok (.bipush 60, 2) := by decide +kernel
theorem dX8_append_28 : decode cX8_append 28 = .ok (.if_icmp .ne 9, 3) := by decide +kernel
theorem dX8_append_31 : decode cX8_append 31 = .ok (.aload_n 0, 1) := by decide +kernel
theorem dX8_append_32 : decode cX8_append 32 = .ok (.iconst 2, 1) := by decide +kernel
theorem dX8_append_33 : decode cX8_append 33 = .ok (.invokevirtual 123, 3) := by decide +kernel
theorem dX8_append_36 : decode cX8_append 36 = .ok (.ireturn, 1) := by decide +kernel
theorem dX8_append_37 : decode cX8_append 37 = .ok (.aload_n 0, 1) := by decide +kernel
theorem dX8_append_38 : decode cX8_append 38 = .ok (.getfield 19, 3) := by decide +kernel
theorem dX8_append_41 : decode cX8_append 41 = .ok (.aload_n 0, 1) := by decide +kernel
theorem dX8_append_42 : decode cX8_append 42 = .ok (.getfield 133, 3) := by decide +kernel
theorem dX8_append_45 : decode cX8_append 45 = .ok (.iload_n 1, 1) := by decide +kernel
theorem dX8_append_46 : decode cX8_append 46 = .ok (.iastore, 1) := by decide +kernel
theorem dX8_append_47 : decode cX8_append 47 = .ok (.aload_n 0, 1) := by decide +kernel
theorem dX8_append_48 : decode cX8_append 48 = .ok (.dup, 1) := by decide +kernel
theorem dX8_append_49 : decode cX8_append 49 = .ok (.getfield 133, 3) := by decide +kernel
theorem dX8_append_52 : decode cX8_append 52 = .ok (.iconst 1, 1) := by decide +kernel
theorem dX8_append_53 : decode cX8_append 53 = .ok (.iadd, 1) := by decide +kernel
theorem dX8_append_54 : decode cX8_append 54 = .ok (.putfield 133, 3) := by decide +kernel
theorem dX8_append_57 : decode cX8_append 57 = .ok (.aload_n 0, 1) := by decide +kernel
theorem dX8_append_58 : decode cX8_append 58 = .ok (.getfield 133, 3) := by decide +kernel
theorem dX8_append_61 : decode cX8_append 61 = .ok (.ireturn, 1) := by decide +kernel
theorem dX8_clearBuffer_0 : decode cX8_clearBuffer 0 = .ok (.aload_n 0, 1) := by decide +kernel
theorem dX8_clearBuffer_1 : decode cX8_clearBuffer 1 = .ok (.iconst 0, 1) := by decide +kernel
theorem dX8_clearBuffer_2 : decode cX8_clearBuffer 2 = .ok (.putfield 40, 3) := by decide +kernel
theorem dX8_clearBuffer_5 : decode cX8_clearBuffer 5 = .ok (.aload_n 0, 1) := by decide +kernel
theorem dX8_clearBuffer_6 : decode cX8_clearBuffer 6 = .ok (.getfield 133, 3) := by decide +kernel
theorem dX8_clearBuffer_9 : decode cX8_clearBuffer 9 = .ok (.istore_n 1, 1) := by decide +kernel
theorem dX8_clearBuffer_10 : decode cX8_clearBuffer 10 = .ok (.aload_n 0, 1) := by decide +kernel
theorem dX8_clearBuffer_11 : decode cX8_clearBuffer 11 = .ok (.iconst 0, 1) := by decide +kernel
theorem dX8_clearBuffer_12 : decode cX8_clearBuffer 12 = .ok (.putfield 133, 3) := by decide +kernel
theorem dX8_clearBuffer_15 : decode cX8_clearBuffer 15 = .ok (.iload_n 1, 1) := by decide +kernel
theorem dX8_clearBuffer_16 : decode cX8_clearBuffer 16 = .ok (.ireturn, 1) := by decide +kernel
theorem dX8_sign_0 : decode cX8_sign 0 = .ok (.aload_n 0, 1) := by decide +kernel
theorem dX8_sign_1 : decode cX8_sign 1 = .ok (.getfield 152, 3) := by decide +kernel
theorem dX8_sign_4 : decode cX8_sign 4 = .ok (.aload_n 0, 1) := by decide +kernel
theorem dX8_sign_5 : decode cX8_sign 5 = .ok (.getfield 133, 3) := by decide +kernel
theorem dX8_sign_8 : decode cX8_sign 8 = .ok (.if_icmp .ge 15, 3) := by decide +kernel
theorem dX8_sign_11 : decode cX8_sign 11 = .ok (.aload_n 0, 1) := by decide +kernel
theorem dX8_sign_12 : decode cX8_sign 12 = .ok (.getfield 19, 3) := by decide +kernel
theorem dX8_sign_15 : decode cX8_sign 15 = .ok (.aload_n 0, 1) := by decide +kernel
theorem dX8_sign_16 : decode cX8_sign 16 = .ok (.getfield 152, 3) := by decide +kernel
theorem dX8_sign_19 : decode cX8_sign 19 = .ok (.iaload, 1) := by decide +kernel
theorem dX8_sign_20 : decode cX8_sign 20 = .ok (.goto 4, 3) := by decide +kernel
theorem dX8_sign_23 : decode cX8_sign 23 = .ok (.iconst 0, 1) := by decide +kernel
theorem dX8_sign_24 : decode cX8_sign 24 = .ok (.ireturn, 1) := by decide +kernel
theorem dX8_reads_0 : decode cX8_reads 0 = .ok (.aload_n 0, 1) := by decide +kernel
theorem dX8_reads_1 : decode cX8_reads 1 = .ok (.aload_n 0, 1) := by decide +kernel
theorem dX8_reads_2 : decode cX8_reads 2 = .ok (.getfield 155, 3) := by decide +kernel
theorem dX8_reads_5 : decode cX8_reads 5 = .ok (.ifCond .eq 19, 3) := by decide +kernel
theorem dX8_reads_8 : decode cX8_reads 8 = .ok (.aload_n 0, 1) := by decide +kernel
theorem dX8_reads_9 : decode cX8_reads 9 = .ok (.invokevirtual 159, 3) := by decide +kernel
theorem dX8_reads_12 : decode cX8_reads 12 = .ok (.iload_n 1, 1) := by decide +kernel
theorem dX8_reads_13 : decode cX8_reads 13 = .ok (.iload_n 2, 1) := by decide +kernel
theorem dX8_reads_14 : decode cX8_reads 14 = .ok (.invokestatic 44, 3) := by decide +kernel
theorem dX8_reads_17 : decode cX8_reads 17 = .ok (.ifCond .eq 7, 3) := by decide +kernel
theorem dX8_reads_20 : decode cX8_reads 20 = .ok (.iconst 1, 1) := by decide +kernel
theorem dX8_reads_21 : decode cX8_reads 21 = .ok (.goto 4, 3) := by decide +kernel
theorem dX8_reads_24 : decode cX8_reads 24 = .ok (.iconst 0, 1) := by decide +kernel
theorem dX8_reads_25 : decode cX8_reads 25 = .ok (.putfield 155, 3) := by decide +kernel
theorem dX8_reads_28 : decode cX8_reads 28 = .ok (.aload_n 0, 1) := by decide +kernel
theorem dX8_reads_29 : decode cX8_reads 29 = .ok (.invokevirtual 159, 3) := by decide +kernel
theorem dX8_reads_32 : decode cX8_reads 32 = .ok (.iload_n 1, 1) := by decide +kernel
theorem dX8_reads_33 : decode cX8_reads 33 = .ok (.isub, 1) := by decide +kernel
theorem dX8_reads_34 : decode cX8_reads 34 = .ok (.istore_n 3, 1) := by decide +kernel
theorem dX8_reads_35 : decode cX8_reads 35 = .ok (.aload_n 0, 1) := by decide +kernel
theorem dX8_reads_36 : decode cX8_reads 36 = .ok (.dup, 1) := by decide +kernel
theorem dX8_reads_37 : decode cX8_reads 37 = .ok (.getfield 152, 3) := by decide +kernel
theorem dX8_reads_40 : decode cX8_reads 40 = .ok (.aload_n 0, 1) := by decide +kernel
theorem dX8_reads_41 : decode cX8_reads 41 = .ok (.getfield 155, 3) := by decide +kernel
theorem dX8_reads_44 : decode cX8_reads 44 = .ok (.ifCond .eq 7, 3) := by decide +kernel
theorem dX8_reads_47 : decode cX8_reads 47 = .ok (.iconst 1, 1) := by decide +kernel
theorem dX8_reads_48 : decode cX8_reads 48 = .ok (.goto 4, 3) := by decide +kernel
theorem dX8_reads_51 : decode cX8_reads 51 = .ok (.iconst 0, 1) := by decide +kernel
theorem dX8_reads_52 : decode cX8_reads 52 = .ok (.iadd, 1) := by decide +kernel
theorem dX8_reads_53 : decode cX8_reads 53 = .ok (.putfield 152, 3) := by decide +kernel
theorem dX8_reads_56 : decode cX8_reads 56 = .ok (.iload_n 3, 1) := by decide +kernel
theorem dX8_reads_57 : decode cX8_reads 57 = .ok (.ireturn, 1) := by decide +kernel
theorem dX8_readsSide_0 : decode cX8_readsSide 0 = .ok (.aload_n 0, 1) := by decide +kernel
theorem dX8_readsSide_1 : decode cX8_readsSide 1 = .ok (.invokevirtual 159, 3) := by decide +kernel
theorem dX8_readsSide_4 : decode cX8_readsSide 4 = .ok (.bipush 43, 2) := by decide +kernel
theorem dX8_readsSide_6 : decode cX8_readsSide 6 = .ok (.if_icmp .ne 7, 3) := by decide +kernel
theorem dX8_readsSide_9 : decode cX8_readsSide 9 = .ok (.iconst 1, 1) := by decide +kernel
theorem dX8_readsSide_10 : decode cX8_readsSide 10 = .ok (.goto 4, 3) := by decide +kernel
theorem dX8_readsSide_13 : decode cX8_readsSide 13 = .ok (.iconst 0, 1) := by decide +kernel
theorem dX8_readsSide_14 : decode cX8_readsSide 14 = .ok (.istore_n 1, 1) := by decide +kernel
theorem dX8_readsSide_15 : decode cX8_readsSide 15 = .ok (.aload_n 0, 1) := by decide +kernel
theorem dX8_readsSide_16 : decode cX8_readsSide 16 = .ok (.aload_n 0, 1) := by decide +kernel
theorem dX8_readsSide_17 : decode cX8_readsSide 17 = .ok (.getfield 155, 3) := by decide +kernel
theorem dX8_readsSide_20 : decode cX8_readsSide 20 = .ok (.ifCond .eq 25, 3) := by decide +kernel
theorem dX8_readsSide_23 : decode cX8_readsSide 23 = .ok (.aload_n 0, 1) := by decide +kernel
theorem dX8_readsSide_24 : decode cX8_readsSide 24 = .ok (.invokevirtual 159, 3) := by decide +kernel
theorem dX8_readsSide_27 : decode cX8_readsSide 27 = .ok (.bipush 43, 2) := by decide +kernel
theorem dX8_readsSide_29 : decode cX8_readsSide 29 = .ok (.if_icmp .eq 12, 3) := by decide +kernel
theorem dX8_readsSide_32 : decode cX8_readsSide 32 = .ok (.aload_n 0, 1) := by decide +kernel
theorem dX8_readsSide_33 : decode cX8_readsSide 33 = .ok (.invokevirtual 159, 3) := by decide +kernel
theorem dX8_readsSide_36 : decode cX8_readsSide 36 = .ok (.bipush 45, 2) := by decide +kernel
theorem dX8_readsSide_38 : decode cX8_readsSide 38 = .ok (.if_icmp .ne 7, 3) := by decide +kernel
theorem dX8_readsSide_41 : decode cX8_readsSide 41 = .ok (.iconst 1, 1) := by decide +kernel
theorem dX8_readsSide_42 : decode cX8_readsSide 42 = .ok (.goto 4, 3) := by decide +kernel
theorem dX8_readsSide_45 : decode cX8_readsSide 45 = .ok (.iconst 0, 1) := by decide +kernel
theorem dX8_readsSide_46 : decode cX8_readsSide 46 = .ok (.putfield 155, 3) := by decide +kernel
theorem dX8_readsSide_49 : decode cX8_readsSide 49 = .ok (.aload_n 0, 1) := by decide +kernel
theorem dX8_readsSide_50 : decode cX8_readsSide 50 = .ok (.dup, 1) := by decide +kernel
theorem dX8_readsSide_51 : decode cX8_readsSide 51 = .ok (.getfield 152, 3) := by decide +kernel
theorem dX8_readsSide_54 : decode cX8_readsSide 54 = .ok (.aload_n 0, 1) := by decide +kernel
theorem dX8_readsSide_55 : decode cX8_readsSide 55 = .ok (.getfield 155, 3) := by decide +kernel
theorem dX8_readsSide_58 : decode cX8_readsSide 58 = .ok (.ifCond .eq 7, 3) := by decide +kernel
theorem dX8_readsSide_61 : decode cX8_readsSide 61 = .ok (.iconst 1, 1) := by decide +kernel
theorem dX8_readsSide_62 : decode cX8_readsSide 62 = .ok (.goto 4, 3) := by decide +kernel
theorem dX8_readsSide_65 : decode cX8_readsSide 65 = .ok (.iconst 0, 1) := by decide +kernel
theorem dX8_readsSide_66 : decode cX8_readsSide 66 = .ok (.iadd, 1) := by decide +kernel
theorem dX8_readsSide_67 : decode cX8_readsSide 67 = .ok (.putfield 152, 3) := by decide +kernel
theorem dX8_readsSide_70 : decode cX8_readsSide 70 = .ok (.iload_n 1, 1) := by decide +kernel
theorem dX8_readsSide_71 : decode cX8_readsSide 71 = .ok (.ireturn, 1) := by decide +kernel
theorem dX8_readsLoaf_0 : decode cX8_readsLoaf 0 = .ok (.aload_n 0, 1) := by decide +kernel
theorem dX8_readsLoaf_1 : decode cX8_readsLoaf 1 = .ok (.iconst 0, 1) := by decide +kernel
theorem dX8_readsLoaf_2 : decode cX8_readsLoaf 2 = .ok (.putfield 152, 3) := by decide +kernel
theorem dX8_readsLoaf_5 : decode cX8_readsLoaf 5 = .ok (.aload_n 0, 1) := by decide +kernel
theorem dX8_readsLoaf_6 : decode cX8_readsLoaf 6 = .ok (.iconst 1, 1) := by decide +kernel
theorem dX8_readsLoaf_7 : decode cX8_readsLoaf 7 = .ok (.putfield 155, 3) := by decide +kernel
theorem dX8_readsLoaf_10 : decode cX8_readsLoaf 10 = .ok (.aload_n 0, 1) := by decide +kernel
theorem dX8_readsLoaf_11 : decode cX8_readsLoaf 11 = .ok (.iconst 2, 1) := by decide +kernel
theorem dX8_readsLoaf_12 : decode cX8_readsLoaf 12 = .ok (.aload_n 0, 1) := by decide +kernel
theorem dX8_readsLoaf_13 : decode cX8_readsLoaf 13 = .ok (.bipush 50, 2) := by decide +kernel
theorem dX8_readsLoaf_15 : decode cX8_readsLoaf 15 = .ok (.bipush 55, 2) := by decide +kernel
theorem dX8_readsLoaf_17 : decode cX8_readsLoaf 17 = .ok (.invokevirtual 162, 3) := by decide +kernel
theorem dX8_readsLoaf_20 : decode cX8_readsLoaf 20 = .ok (.iadd, 1) := by decide +kernel
theorem dX8_readsLoaf_21 : decode cX8_readsLoaf 21 = .ok (.putfield 55, 3) := by decide +kernel
theorem dX8_readsLoaf_24 : decode cX8_readsLoaf 24 = .ok (.aload_n 0, 1) := by decide +kernel
theorem dX8_readsLoaf_25 : decode cX8_readsLoaf 25 = .ok (.bipush 58, 2) := by decide +kernel
theorem dX8_readsLoaf_27 : decode cX8_readsLoaf 27 = .ok (.bipush 58, 2) := by decide +kernel
theorem dX8_readsLoaf_29 : decode cX8_readsLoaf 29 = .ok (.invokevirtual 162, 3) := by decide +kernel
theorem dX8_readsLoaf_32 : decode cX8_readsLoaf 32 = .ok (.pop, 1) := by decide +kernel
theorem dX8_readsLoaf_33 : decode cX8_readsLoaf 33 = .ok (.aload_n 0, 1) := by decide +kernel
theorem dX8_readsLoaf_34 : decode cX8_readsLoaf 34 = .ok (.iconst 0, 1) := by decide +kernel
theorem dX8_readsLoaf_35 : decode cX8_readsLoaf 35 = .ok (.putfield 58, 3) := by decide +kernel
theorem dX8_readsLoaf_38 : decode cX8_readsLoaf 38 = .ok (.aload_n 0, 1) := by decide +kernel
theorem dX8_readsLoaf_39 : decode cX8_readsLoaf 39 = .ok (.getfield 155, 3) := by decide +kernel
theorem dX8_readsLoaf_42 : decode cX8_readsLoaf 42 = .ok (.ifCond .eq 87, 3) := by decide +kernel
theorem dX8_readsLoaf_45 : decode cX8_readsLoaf 45 = .ok (.aload_n 0, 1) := by decide +kernel
theorem dX8_readsLoaf_46 : decode cX8_readsLoaf 46 = .ok (.getfield 152, 3) := by decide +kernel
theorem dX8_readsLoaf_49 : decode cX8_readsLoaf 49 = .ok (.aload_n 0, 1) := by decide +kernel
theorem dX8_readsLoaf_50 : decode cX8_readsLoaf 50 = .ok (.getfield 133, 3) := by decide +kernel
theorem dX8_readsLoaf_53 : decode cX8_readsLoaf 53 = .ok (.if_icmp .ge 76, 3) := by decide +kernel
theorem dX8_readsLoaf_56 : decode cX8_readsLoaf 56 = .ok (.aload_n 0, 1) := by decide +kernel
theorem dX8_readsLoaf_57 : decode cX8_readsLoaf 57 = .ok (.aload_n 0, 1) := by decide +kernel
theorem dX8_readsLoaf_58 : decode cX8_readsLoaf 58 = .ok (.getfield 58, 3) := by decide +kernel
theorem dX8_readsLoaf_61 : decode cX8_readsLoaf 61 = .ok (.bipush 24, 2) := by decide +kernel
theorem dX8_readsLoaf_63 : decode cX8_readsLoaf 63 = .ok (.if_icmp .ge 7, 3) := by decide +kernel
theorem dX8_readsLoaf_66 : decode cX8_readsLoaf 66 = .ok (.iconst 1, 1) := by decide +kernel
theorem dX8_readsLoaf_67 : decode cX8_readsLoaf 67 = .ok (.goto 4, 3) := by decide +kernel
theorem dX8_readsLoaf_70 : decode cX8_readsLoaf 70 = .ok (.iconst 0, 1) := by decide +kernel
theorem dX8_readsLoaf_71 : decode cX8_readsLoaf 71 = .ok (.putfield 155, 3) := by decide +kernel
theorem dX8_readsLoaf_74 : decode cX8_readsLoaf 74 = .ok (.aload_n 0, 1) := by decide +kernel
theorem dX8_readsLoaf_75 : decode cX8_readsLoaf 75 = .ok (.bipush 97, 2) := by decide +kernel
theorem dX8_readsLoaf_77 : decode cX8_readsLoaf 77 = .ok (.bipush 97, 2) := by decide +kernel
theorem dX8_readsLoaf_79 : decode cX8_readsLoaf 79 = .ok (.aload_n 0, 1) := by decide +kernel
theorem dX8_readsLoaf_80 : decode cX8_readsLoaf 80 = .ok (.getfield 55, 3) := by decide +kernel
theorem dX8_readsLoaf_83 : decode cX8_readsLoaf 83 = .ok (.iadd, 1) := by decide +kernel
theorem dX8_readsLoaf_84 : decode cX8_readsLoaf 84 = .ok (.iconst 2, 1) := by decide +kernel
theorem dX8_readsLoaf_85 : decode cX8_readsLoaf 85 = .ok (.isub, 1) := by decide +kernel
theorem dX8_readsLoaf_86 : decode cX8_readsLoaf 86 = .ok (.invokevirtual 162, 3) := by decide +kernel
theorem dX8_readsLoaf_89 : decode cX8_readsLoaf 89 = .ok (.istore_n 1, 1) := by decide +kernel
theorem dX8_readsLoaf_90 : decode cX8_readsLoaf 90 = .ok (.aload_n 0, 1) := by decide +kernel
theorem dX8_readsLoaf_91 : decode cX8_readsLoaf 91 = .ok (.invokevirtual 165, 3) := by decide +kernel
theorem dX8_readsLoaf_94 : decode cX8_readsLoaf 94 = .ok (.istore_n 2, 1) := by decide +kernel
theorem dX8_readsLoaf_95 : decode cX8_readsLoaf 95 = .ok (.aload_n 0, 1) := by decide +kernel
theorem dX8_readsLoaf_96 : decode cX8_readsLoaf 96 = .ok (.getfield 155, 3) := by decide +kernel
theorem dX8_readsLoaf_99 : decode cX8_readsLoaf 99 = .ok (.ifCond .eq 27, 3) := by decide +kernel
theorem dX8_readsLoaf_102 : decode cX8_readsLoaf 102 = .ok (.aload_n 0, 1) := by decide +kernel
theorem dX8_readsLoaf_103 : decode cX8_readsLoaf 103 = .ok (.getfield 22, 3) := by decide +kernel
theorem dX8_readsLoaf_106 : decode cX8_readsLoaf 106 = .ok (.aload_n 0, 1) := by decide +kernel
theorem dX8_readsLoaf_107 : decode cX8_readsLoaf 107 = .ok (.getfield 58, 3) := by decide +kernel
theorem dX8_readsLoaf_110 : decode cX8_readsLoaf 110 = .ok (.iconst 2, 1) := by decide +kernel
theorem dX8_readsLoaf_111 : decode cX8_readsLoaf 111 = .ok (.iload_n 1, 1) := by decide +kernel
theorem dX8_readsLoaf_112 : decode cX8_readsLoaf 112 = .ok (.imul, 1) := by decide +kernel
theorem dX8_readsLoaf_113 : decode cX8_readsLoaf 113 = .ok (.iload_n 2, 1) := by decide +kernel
theorem dX8_readsLoaf_114 : decode cX8_readsLoaf 114 = .ok (.iadd, 1) := by decide +kernel
theorem dX8_readsLoaf_115 : decode cX8_readsLoaf 115 = .ok (.iastore, 1) := by decide +kernel
theorem dX8_readsLoaf_116 : decode cX8_readsLoaf 116 = .ok (.aload_n 0, 1) := by decide +kernel
theorem dX8_readsLoaf_117 : decode cX8_readsLoaf 117 = .ok (.dup, 1) := by decide +kernel
theorem dX8_readsLoaf_118 : decode cX8_readsLoaf 118 = .ok (.getfield 58, 3) := by decide +kernel
theorem dX8_readsLoaf_121 : decode cX8_readsLoaf 121 = .ok (.iconst 1, 1) := by decide +kernel
theorem dX8_readsLoaf_122 : decode cX8_readsLoaf 122 = .ok (.iadd, 1) := by decide +kernel
theorem dX8_readsLoaf_123 : decode cX8_readsLoaf 123 = .ok (.putfield 58, 3) := by decide +kernel
theorem dX8_readsLoaf_126 : decode cX8_readsLoaf 126 = .ok (.goto (-88), 3) := by decide +kernel
theorem dX8_readsLoaf_129 : decode cX8_readsLoaf 129 = .ok (.aload_n 0, 1) := by decide +kernel
theorem dX8_readsLoaf_130 : decode cX8_readsLoaf 130 = .ok (.getfield 155, 3) := by decide +kernel
theorem dX8_readsLoaf_133 : decode cX8_readsLoaf 133 = .ok (.ireturn, 1) := by decide +kernel
theorem dX8_readsPart_0 : decode cX8_readsPart 0 = .ok (.iconst 4, 1) := by decide +kernel
theorem dX8_readsPart_1 : decode cX8_readsPart 1 = .ok (.aload_n 0, 1) := by decide +kernel
theorem dX8_readsPart_2 : decode cX8_readsPart 2 = .ok (.getfield 168, 3) := by decide +kernel
theorem dX8_readsPart_5 : decode cX8_readsPart 5 = .ok (.imul, 1) := by decide +kernel
theorem dX8_readsPart_6 : decode cX8_readsPart 6 = .ok (.istore_n 1, 1) := by decide +kernel
theorem dX8_readsPart_7 : decode cX8_readsPart 7 = .ok (.aload_n 0, 1) := by decide +kernel
theorem dX8_readsPart_8 : decode cX8_readsPart 8 = .ok (.invokevirtual 159, 3) := by decide +kernel
theorem dX8_readsPart_11 : decode cX8_readsPart 11 = .ok (.istore_n 2, 1) := by decide +kernel
theorem dX8_readsPart_12 : decode cX8_readsPart 12 = .ok (.aload_n 0, 1) := by decide +kernel
theorem dX8_readsPart_13 : decode cX8_readsPart 13 = .ok (.iload_n 2, 1) := by decide +kernel
theorem dX8_readsPart_14 : decode cX8_readsPart 14 = .ok (.bipush 120, 2) := by decide +kernel
theorem dX8_readsPart_16 : decode cX8_readsPart 16 = .ok (.if_icmp .eq 39, 3) := by decide +kernel
theorem dX8_readsPart_19 : decode cX8_readsPart 19 = .ok (.iload_n 2, 1) := by decide +kernel
theorem dX8_readsPart_20 : decode cX8_readsPart 20 = .ok (.bipush 109, 2) := by decide +kernel
theorem dX8_readsPart_22 : decode cX8_readsPart 22 = .ok (.if_icmp .eq 33, 3) := by decide +kernel
theorem dX8_readsPart_25 : decode cX8_readsPart 25 = .ok (.iload_n 2, 1) := by decide +kernel
theorem dX8_readsPart_26 : decode cX8_readsPart 26 = .ok (.bipush 116, 2) := by decide +kernel
theorem dX8_readsPart_28 : decode cX8_readsPart 28 = .ok (.if_icmp .eq 27, 3) := by decide +kernel
theorem dX8_readsPart_31 : decode cX8_readsPart 31 = .ok (.iload_n 2, 1) := by decide +kernel
theorem dX8_readsPart_32 : decode cX8_readsPart 32 = .ok (.bipush 114, 2) := by decide +kernel
theorem dX8_readsPart_34 : decode cX8_readsPart 34 = .ok (.if_icmp .eq 21, 3) := by decide +kernel
theorem dX8_readsPart_37 : decode cX8_readsPart 37 = .ok (.iload_n 2, 1) := by decide +kernel
theorem dX8_readsPart_38 : decode cX8_readsPart 38 = .ok (.bipush 108, 2) := by decide +kernel
theorem dX8_readsPart_40 : decode cX8_readsPart 40 = .ok (.if_icmp .eq 15, 3) := by decide +kernel
theorem dX8_readsPart_43 : decode cX8_readsPart 43 = .ok (.iload_n 2, 1) := by decide +kernel
theorem dX8_readsPart_44 : decode cX8_readsPart 44 = .ok (.bipush 106, 2) := by decide +kernel
theorem dX8_readsPart_46 : decode cX8_readsPart 46 = .ok (.if_icmp .eq 9, 3) := by decide +kernel
theorem dX8_readsPart_49 : decode cX8_readsPart 49 = .ok (.iload_n 2, 1) := by decide +kernel
theorem dX8_readsPart_50 : decode cX8_readsPart 50 = .ok (.bipush 122, 2) := by decide +kernel
theorem dX8_readsPart_52 : decode cX8_readsPart 52 = .ok (.if_icmp .ne 7, 3) := by decide +kernel
theorem dX8_readsPart_55 : decode cX8_readsPart 55 = .ok (.iconst 1, 1) := by decide +kernel
theorem dX8_readsPart_56 : decode cX8_readsPart 56 = .ok (.goto 4, 3) := by decide +kernel
theorem dX8_readsPart_59 : decode cX8_readsPart 59 = .ok (.iconst 0, 1) := by decide +kernel
theorem dX8_readsPart_60 : decode cX8_readsPart 60 = .ok (.putfield 155, 3) := by decide +kernel
theorem dX8_readsPart_63 : decode cX8_readsPart 63 = .ok (.aload_n 0, 1) := by decide +kernel
theorem dX8_readsPart_64 : decode cX8_readsPart 64 = .ok (.dup, 1) := by decide +kernel
theorem dX8_readsPart_65 : decode cX8_readsPart 65 = .ok (.getfield 152, 3) := by decide +kernel
theorem dX8_readsPart_68 : decode cX8_readsPart 68 = .ok (.aload_n 0, 1) := by decide +kernel
theorem dX8_readsPart_69 : decode cX8_readsPart 69 = .ok (.getfield 155, 3) := by decide +kernel
theorem dX8_readsPart_72 : decode cX8_readsPart 72 = .ok (.ifCond .eq 7, 3) := by decide +kernel
theorem dX8_readsPart_75 : decode cX8_readsPart 75 = .ok (.iconst 1, 1) := by decide +kernel
theorem dX8_readsPart_76 : decode cX8_readsPart 76 = .ok (.goto 4, 3) := by decide +kernel
theorem dX8_readsPart_79 : decode cX8_readsPart 79 = .ok (.iconst 0, 1) := by decide +kernel
theorem dX8_readsPart_80 : decode cX8_readsPart 80 = .ok (.iadd, 1) := by decide +kernel
theorem dX8_readsPart_81 : decode cX8_readsPart 81 = .ok (.putfield 152, 3) := by decide +kernel
theorem dX8_readsPart_84 : decode cX8_readsPart 84 = .ok (.aload_n 0, 1) := by decide +kernel
theorem dX8_readsPart_85 : decode cX8_readsPart 85 = .ok (.getfield 37, 3) := by decide +kernel
theorem dX8_readsPart_88 : decode cX8_readsPart 88 = .ok (.iload_n 1, 1) := by decide +kernel
theorem dX8_readsPart_89 : decode cX8_readsPart 89 = .ok (.iload_n 2, 1) := by decide +kernel
theorem dX8_readsPart_90 : decode cX8_readsPart 90 = .ok (.iastore, 1) := by decide +kernel
theorem dX8_readsPart_91 : decode cX8_readsPart 91 = .ok (.aload_n 0, 1) := by decide +kernel
theorem dX8_readsPart_92 : decode cX8_readsPart 92 = .ok (.getfield 37, 3) := by decide +kernel
theorem dX8_readsPart_95 : decode cX8_readsPart 95 = .ok (.iload_n 1, 1) := by decide +kernel
theorem dX8_readsPart_96 : decode cX8_readsPart 96 = .ok (.iconst 1, 1) := by decide +kernel
theorem dX8_readsPart_97 : decode cX8_readsPart 97 = .ok (.iadd, 1) := by decide +kernel
theorem dX8_readsPart_98 : decode cX8_readsPart 98 = .ok (.aload_n 0, 1) := by decide +kernel
theorem dX8_readsPart_99 : decode cX8_readsPart 99 = .ok (.bipush 48, 2) := by decide +kernel
theorem dX8_readsPart_101 : decode cX8_readsPart 101 = .ok (.bipush 53, 2) := by decide +kernel
theorem dX8_readsPart_103 : decode cX8_readsPart 103 = .ok (.invokevirtual 162, 3) := by decide +kernel
theorem dX8_readsPart_106 : decode cX8_readsPart 106 = .ok (.iastore, 1) := by decide +kernel
theorem dX8_readsPart_107 : decode cX8_readsPart 107 = .ok (.iload_n 2, 1) := by decide +kernel
theorem dX8_readsPart_108 : decode cX8_readsPart 108 = .ok (.bipush 120, 2) := by decide +kernel
theorem dX8_readsPart_110 : decode cX8_readsPart 110 = .ok (.if_icmp .ne 31, 3) := by decide +kernel
theorem dX8_readsPart_113 : decode cX8_readsPart 113 = .ok (.aload_n 0, 1) := by decide +kernel
theorem dX8_readsPart_114 : decode cX8_readsPart 114 = .ok (.getfield 37, 3) := by decide +kernel
theorem dX8_readsPart_117 : decode cX8_readsPart 117 = .ok (.iload_n 1, 1) := by decide +kernel
theorem dX8_readsPart_118 : decode cX8_readsPart 118 = .ok (.iconst 2, 1) := by decide +kernel
theorem dX8_readsPart_119 : decode cX8_readsPart 119 = .ok (.iadd, 1) := by decide +kernel
theorem dX8_readsPart_120 : decode cX8_readsPart 120 = .ok (.aload_n 0, 1) := by decide +kernel
theorem dX8_readsPart_121 : decode cX8_readsPart 121 = .ok (.bipush 97, 2) := by decide +kernel
theorem dX8_readsPart_123 : decode cX8_readsPart 123 = .ok (.bipush 102, 2) := by decide +kernel
theorem dX8_readsPart_125 : decode cX8_readsPart 125 = .ok (.invokevirtual 162, 3) := by decide +kernel
theorem dX8_readsPart_128 : decode cX8_readsPart 128 = .ok (.iastore, 1) := by decide +kernel
theorem dX8_readsPart_129 : decode cX8_readsPart 129 = .ok (.aload_n 0, 1) := by decide +kernel
theorem dX8_readsPart_130 : decode cX8_readsPart 130 = .ok (.getfield 37, 3) := by decide +kernel
theorem dX8_readsPart_133 : decode cX8_readsPart 133 = .ok (.iload_n 1, 1) := by decide +kernel
theorem dX8_readsPart_134 : decode cX8_readsPart 134 = .ok (.iconst 3, 1) := by decide +kernel
theorem dX8_readsPart_135 : decode cX8_readsPart 135 = .ok (.iadd, 1) := by decide +kernel
theorem dX8_readsPart_136 : decode cX8_readsPart 136 = .ok (.aload_n 0, 1) := by decide +kernel
theorem dX8_readsPart_137 : decode cX8_readsPart 137 = .ok (.invokevirtual 165, 3) := by decide +kernel
theorem dX8_readsPart_140 : decode cX8_readsPart 140 = .ok (.iastore, 1) := by decide +kernel
theorem dX8_readsPart_141 : decode cX8_readsPart 141 = .ok (.iload_n 2, 1) := by decide +kernel
theorem dX8_readsPart_142 : decode cX8_readsPart 142 = .ok (.bipush 106, 2) := by decide +kernel
theorem dX8_readsPart_144 : decode cX8_readsPart 144 = .ok (.if_icmp .ne 28, 3) := by decide +kernel
theorem dX8_readsPart_147 : decode cX8_readsPart 147 = .ok (.aload_n 0, 1) := by decide +kernel
theorem dX8_readsPart_148 : decode cX8_readsPart 148 = .ok (.bipush 47, 2) := by decide +kernel
theorem dX8_readsPart_150 : decode cX8_readsPart 150 = .ok (.bipush 47, 2) := by decide +kernel
theorem dX8_readsPart_152 : decode cX8_readsPart 152 = .ok (.invokevirtual 162, 3) := by decide +kernel
theorem dX8_readsPart_155 : decode cX8_readsPart 155 = .ok (.pop, 1) := by decide +kernel
theorem dX8_readsPart_156 : decode cX8_readsPart 156 = .ok (.aload_n 0, 1) := by decide +kernel
theorem dX8_readsPart_157 : decode cX8_readsPart 157 = .ok (.getfield 37, 3) := by decide +kernel
theorem dX8_readsPart_160 : decode cX8_readsPart 160 = .ok (.iload_n 1, 1) := by decide +kernel
theorem dX8_readsPart_161 : decode cX8_readsPart 161 = .ok (.iconst 2, 1) := by decide +kernel
theorem dX8_readsPart_162 : decode cX8_readsPart 162 = .ok (.iadd, 1) := by decide +kernel
theorem dX8_readsPart_163 : decode cX8_readsPart 163 = .ok (.aload_n 0, 1) := by decide +kernel
theorem dX8_readsPart_164 : decode cX8_readsPart 164 = .ok (.bipush 48, 2) := by decide +kernel
theorem dX8_readsPart_166 : decode cX8_readsPart 166 = .ok (.bipush 53, 2) := by decide +kernel
theorem dX8_readsPart_168 : decode cX8_readsPart 168 = .ok (.invokevirtual 162, 3) := by decide +kernel
theorem dX8_readsPart_171 : decode cX8_readsPart 171 = .ok (.iastore, 1) := by decide +kernel
theorem dX8_readsPart_172 : decode cX8_readsPart 172 = .ok (.aload_n 0, 1) := by decide +kernel
theorem dX8_readsPart_173 : decode cX8_readsPart 173 = .ok (.dup, 1) := by decide +kernel
theorem dX8_readsPart_174 : decode cX8_readsPart 174 = .ok (.getfield 168, 3) := by decide +kernel
theorem dX8_readsPart_177 : decode cX8_readsPart 177 = .ok (.aload_n 0, 1) := by decide +kernel
theorem dX8_readsPart_178 : decode cX8_readsPart 178 = .ok (.getfield 155, 3) := by decide +kernel
theorem dX8_readsPart_181 : decode cX8_readsPart 181 = .ok (.ifCond .eq 7, 3) := by decide +kernel
theorem dX8_readsPart_184 : decode cX8_readsPart 184 = .ok (.iconst 1, 1) := by decide +kernel
theorem dX8_readsPart_185 : decode cX8_readsPart 185 = .ok (.goto 4, 3) := by decide +kernel
theorem dX8_readsPart_188 : decode cX8_readsPart 188 = .ok (.iconst 0, 1) := by decide +kernel
theorem dX8_readsPart_189 : decode cX8_readsPart 189 = .ok (.iadd, 1) := by decide +kernel
theorem dX8_readsPart_190 : decode cX8_readsPart 190 = .ok (.putfield 168, 3) := by decide +kernel
theorem dX8_readsPart_193 : decode cX8_readsPart 193 = .ok (.return_, 1) := by decide +kernel
theorem dX8_readsWorks_0 : decode cX8_readsWorks 0 = .ok (.aload_n 0, 1) := by decide +kernel
theorem dX8_readsWorks_1 : decode cX8_readsWorks 1 = .ok (.iconst 0, 1) := by decide +kernel
theorem dX8_readsWorks_2 : decode cX8_readsWorks 2 = .ok (.putfield 152, 3) := by decide +kernel
theorem dX8_readsWorks_5 : decode cX8_readsWorks 5 = .ok (.aload_n 0, 1) := by decide +kernel
theorem dX8_readsWorks_6 : decode cX8_readsWorks 6 = .ok (.iconst 0, 1) := by decide +kernel
theorem dX8_readsWorks_7 : decode cX8_readsWorks 7 = .ok (.putfield 168, 3) := by decide +kernel
theorem dX8_readsWorks_10 : decode cX8_readsWorks 10 = .ok (.aload_n 0, 1) := by decide +kernel
theorem dX8_readsWorks_11 : decode cX8_readsWorks 11 = .ok (.iconst 1, 1) := by decide +kernel
theorem dX8_readsWorks_12 : decode cX8_readsWorks 12 = .ok (.putfield 155, 3) := by decide +kernel
theorem dX8_readsWorks_15 : decode cX8_readsWorks 15 = .ok (.aload_n 0, 1) := by decide +kernel
theorem dX8_readsWorks_16 : decode cX8_readsWorks 16 = .ok (.invokevirtual 171, 3) := by decide +kernel
theorem dX8_readsWorks_19 : decode cX8_readsWorks 19 = .ok (.aload_n 0, 1) := by decide +kernel
theorem dX8_readsWorks_20 : decode cX8_readsWorks 20 = .ok (.getfield 155, 3) := by decide +kernel
theorem dX8_readsWorks_23 : decode cX8_readsWorks 23 = .ok (.ifCond .eq 37, 3) := by decide +kernel
theorem dX8_readsWorks_26 : decode cX8_readsWorks 26 = .ok (.aload_n 0, 1) := by decide +kernel
theorem dX8_readsWorks_27 : decode cX8_readsWorks 27 = .ok (.getfield 152, 3) := by decide +kernel
theorem dX8_readsWorks_30 : decode cX8_readsWorks 30 = .ok (.aload_n 0, 1) := by decide +kernel
theorem dX8_readsWorks_31 : decode cX8_readsWorks 31 = .ok (.getfield 133, 3) := by decide +kernel
theorem dX8_readsWorks_34 : decode cX8_readsWorks 34 = .ok (.if_icmp .ge 26, 3) := by decide +kernel
theorem dX8_readsWorks_37 : decode cX8_readsWorks 37 = .ok (.aload_n 0, 1) := by decide +kernel
theorem dX8_readsWorks_38 : decode cX8_readsWorks 38 = .ok (.bipush 59, 2) := by decide +kernel
theorem dX8_readsWorks_40 : decode cX8_readsWorks 40 = .ok (.bipush 59, 2) := by decide +kernel
theorem dX8_readsWorks_42 : decode cX8_readsWorks 42 = .ok (.invokevirtual 162, 3) := by decide +kernel
theorem dX8_readsWorks_45 : decode cX8_readsWorks 45 = .ok (.pop, 1) := by decide +kernel
theorem dX8_readsWorks_46 : decode cX8_readsWorks 46 = .ok (.aload_n 0, 1) := by decide +kernel
theorem dX8_readsWorks_47 : decode cX8_readsWorks 47 = .ok (.getfield 155, 3) := by decide +kernel
theorem dX8_readsWorks_50 : decode cX8_readsWorks 50 = .ok (.ifCond .eq (-31), 3) := by decide +kernel
theorem dX8_readsWorks_53 : decode cX8_readsWorks 53 = .ok (.aload_n 0, 1) := by decide +kernel
theorem dX8_readsWorks_54 : decode cX8_readsWorks 54 = .ok (.invokevirtual 171, 3) := by decide +kernel
theorem dX8_readsWorks_57 : decode cX8_readsWorks 57 = .ok (.goto (-38), 3) := by decide +kernel
theorem dX8_readsWorks_60 : decode cX8_readsWorks 60 = .ok (.aload_n 0, 1) := by decide +kernel
theorem dX8_readsWorks_61 : decode cX8_readsWorks 61 = .ok (.getfield 155, 3) := by decide +kernel
theorem dX8_readsWorks_64 : decode cX8_readsWorks 64 = .ok (.ireturn, 1) := by decide +kernel
theorem dX8_firstError_0 : decode cX8_firstError 0 = .ok (.aload_n 0, 1) := by decide +kernel
theorem dX8_firstError_1 : decode cX8_firstError 1 = .ok (.iconst 0, 1) := by decide +kernel
theorem dX8_firstError_2 : decode cX8_firstError 2 = .ok (.putfield 40, 3) := by decide +kernel
theorem dX8_firstError_5 : decode cX8_firstError 5 = .ok (.iload_n 1, 1) := by decide +kernel
theorem dX8_firstError_6 : decode cX8_firstError 6 = .ok (.ifCond .eq 10, 3) := by decide +kernel
theorem dX8_firstError_9 : decode cX8_firstError 9 = .ok (.aload_n 0, 1) := by decide +kernel
theorem dX8_firstError_10 : decode cX8_firstError 10 = .ok (.invokevirtual 174, 3) := by decide +kernel
theorem dX8_firstError_13 : decode cX8_firstError 13 = .ok (.goto 7, 3) := by decide +kernel
theorem dX8_firstError_16 : decode cX8_firstError 16 = .ok (.aload_n 0, 1) := by decide +kernel
theorem dX8_firstError_17 : decode cX8_firstError 17 = .ok (.invokevirtual 119, 3) := by decide +kernel
theorem dX8_firstError_20 : decode cX8_firstError 20 = .ok (.istore_n 2, 1) := by decide +kernel
theorem dX8_firstError_21 : decode cX8_firstError 21 = .ok (.iload_n 2, 1) := by decide +kernel
theorem dX8_firstError_22 : decode cX8_firstError 22 = .ok (.ifCond .eq 10, 3) := by decide +kernel
theorem dX8_firstError_25 : decode cX8_firstError 25 = .ok (.aload_n 0, 1) := by decide +kernel
theorem dX8_firstError_26 : decode cX8_firstError 26 = .ok (.getfield 133, 3) := by decide +kernel
theorem dX8_firstError_29 : decode cX8_firstError 29 = .ok (.goto 7, 3) := by decide +kernel
theorem dX8_firstError_32 : decode cX8_firstError 32 = .ok (.aload_n 0, 1) := by decide +kernel
theorem dX8_firstError_33 : decode cX8_firstError 33 = .ok (.getfield 152, 3) := by decide +kernel
theorem dX8_firstError_36 : decode cX8_firstError 36 = .ok (.ireturn, 1) := by decide +kernel
theorem dX8_howOf_0 : decode cX8_howOf 0 = .ok (.iload_n 0, 1) := by decide +kernel
theorem dX8_howOf_1 : decode cX8_howOf 1 = .ok (.bipush 109, 2) := by decide +kernel
theorem dX8_howOf_3 : decode cX8_howOf 3 = .ok (.if_icmp .ne 7, 3) := by decide +kernel
theorem dX8_howOf_6 : decode cX8_howOf 6 = .ok (.iconst 0, 1) := by decide +kernel
theorem dX8_howOf_7 : decode cX8_howOf 7 = .ok (.goto 24, 3) := by decide +kernel
theorem dX8_howOf_10 : decode cX8_howOf 10 = .ok (.iload_n 0, 1) := by decide +kernel
theorem dX8_howOf_11 : decode cX8_howOf 11 = .ok (.bipush 116, 2) := by decide +kernel
theorem dX8_howOf_13 : decode cX8_howOf 13 = .ok (.if_icmp .ne 7, 3) := by decide +kernel
theorem dX8_howOf_16 : decode cX8_howOf 16 = .ok (.iconst 1, 1) := by decide +kernel
theorem dX8_howOf_17 : decode cX8_howOf 17 = .ok (.goto 14, 3) := by decide +kernel
theorem dX8_howOf_20 : decode cX8_howOf 20 = .ok (.iload_n 0, 1) := by decide +kernel
theorem dX8_howOf_21 : decode cX8_howOf 21 = .ok (.bipush 114, 2) := by decide +kernel
theorem dX8_howOf_23 : decode cX8_howOf 23 = .ok (.if_icmp .ne 7, 3) := by decide +kernel
theorem dX8_howOf_26 : decode cX8_howOf 26 = .ok (.iconst 2, 1) := by decide +kernel
theorem dX8_howOf_27 : decode cX8_howOf 27 = .ok (.goto 4, 3) := by decide +kernel
theorem dX8_howOf_30 : decode cX8_howOf 30 = .ok (.iconst 3, 1) := by decide +kernel
theorem dX8_howOf_31 : decode cX8_howOf 31 = .ok (.ireturn, 1) := by decide +kernel
theorem dX8_does_0 : decode cX8_does 0 = .ok (.aload_n 0, 1) := by decide +kernel
theorem dX8_does_1 : decode cX8_does 1 = .ok (.getfield 37, 3) := by decide +kernel
theorem dX8_does_4 : decode cX8_does 4 = .ok (.iload_n 1, 1) := by decide +kernel
theorem dX8_does_5 : decode cX8_does 5 = .ok (.iaload, 1) := by decide +kernel
theorem dX8_does_6 : decode cX8_does 6 = .ok (.istore_n 2, 1) := by decide +kernel
theorem dX8_does_7 : decode cX8_does 7 = .ok (.aload_n 0, 1) := by decide +kernel
theorem dX8_does_8 : decode cX8_does 8 = .ok (.getfield 37, 3) := by decide +kernel
theorem dX8_does_11 : decode cX8_does 11 = .ok (.iload_n 1, 1) := by decide +kernel
theorem dX8_does_12 : decode cX8_does 12 = .ok (.iconst 1, 1) := by decide +kernel
theorem dX8_does_13 : decode cX8_does 13 = .ok (.iadd, 1) := by decide +kernel
theorem dX8_does_14 : decode cX8_does 14 = .ok (.iaload, 1) := by decide +kernel
theorem dX8_does_15 : decode cX8_does 15 = .ok (.istore_n 3, 1) := by decide +kernel
theorem dX8_does_16 : decode cX8_does 16 = .ok (.iload_n 2, 1) := by decide +kernel
theorem dX8_does_17 : decode cX8_does 17 = .ok (.bipush 120, 2) := by decide +kernel
theorem dX8_does_19 : decode cX8_does 19 = .ok (.if_icmp .ne 27, 3) := by decide +kernel
theorem dX8_does_22 : decode cX8_does 22 = .ok (.aload_n 0, 1) := by decide +kernel
theorem dX8_does_23 : decode cX8_does 23 = .ok (.iload_n 3, 1) := by decide +kernel
theorem dX8_does_24 : decode cX8_does 24 = .ok (.aload_n 0, 1) := by decide +kernel
theorem dX8_does_25 : decode cX8_does 25 = .ok (.getfield 37, 3) := by decide +kernel
theorem dX8_does_28 : decode cX8_does 28 = .ok (.iload_n 1, 1) := by decide +kernel
theorem dX8_does_29 : decode cX8_does 29 = .ok (.iconst 2, 1) := by decide +kernel
theorem dX8_does_30 : decode cX8_does 30 = .ok (.iadd, 1) := by decide +kernel
theorem dX8_does_31 : decode cX8_does 31 = .ok (.iaload, 1) := by decide +kernel
theorem dX8_does_32 : decode cX8_does 32 = .ok (.aload_n 0, 1) := by decide +kernel
theorem dX8_does_33 : decode cX8_does 33 = .ok (.getfield 37, 3) := by decide +kernel
theorem dX8_does_36 : decode cX8_does 36 = .ok (.iload_n 1, 1) := by decide +kernel
theorem dX8_does_37 : decode cX8_does 37 = .ok (.iconst 3, 1) := by decide +kernel
theorem dX8_does_38 : decode cX8_does 38 = .ok (.iadd, 1) := by decide +kernel
theorem dX8_does_39 : decode cX8_does 39 = .ok (.iaload, 1) := by decide +kernel
theorem dX8_does_40 : decode cX8_does 40 = .ok (.invokevirtual 136, 3) := by decide +kernel
theorem dX8_does_43 : decode cX8_does 43 = .ok (.goto 48, 3) := by decide +kernel
theorem dX8_does_46 : decode cX8_does 46 = .ok (.iload_n 2, 1) := by decide +kernel
theorem dX8_does_47 : decode cX8_does 47 = .ok (.bipush 106, 2) := by decide +kernel
theorem dX8_does_49 : decode cX8_does 49 = .ok (.if_icmp .ne 19, 3) := by decide +kernel
theorem dX8_does_52 : decode cX8_does 52 = .ok (.aload_n 0, 1) := by decide +kernel
theorem dX8_does_53 : decode cX8_does 53 = .ok (.iload_n 3, 1) := by decide +kernel
theorem dX8_does_54 : decode cX8_does 54 = .ok (.aload_n 0, 1) := by decide +kernel
theorem dX8_does_55 : decode cX8_does 55 = .ok (.getfield 37, 3) := by decide +kernel
theorem dX8_does_58 : decode cX8_does 58 = .ok (.iload_n 1, 1) := by decide +kernel
theorem dX8_does_59 : decode cX8_does 59 = .ok (.iconst 2, 1) := by decide +kernel
theorem dX8_does_60 : decode cX8_does 60 = .ok (.iadd, 1) := by decide +kernel
theorem dX8_does_61 : decode cX8_does 61 = .ok (.iaload, 1) := by decide +kernel
theorem dX8_does_62 : decode cX8_does 62 = .ok (.invokevirtual 149, 3) := by decide +kernel
theorem dX8_does_65 : decode cX8_does 65 = .ok (.goto 26, 3) := by decide +kernel
theorem dX8_does_68 : decode cX8_does 68 = .ok (.iload_n 2, 1) := by decide +kernel
theorem dX8_does_69 : decode cX8_does 69 = .ok (.bipush 122, 2) := by decide +kernel
theorem dX8_does_71 : decode cX8_does 71 = .ok (.if_icmp .ne 11, 3) := by decide +kernel
theorem dX8_does_74 : decode cX8_does 74 = .ok (.aload_n 0, 1) := by decide +kernel
theorem dX8_does_75 : decode cX8_does 75 = .ok (.iload_n 3, 1) := by decide +kernel
theorem dX8_does_76 : decode cX8_does 76 = .ok (.invokevirtual 140, 3) := by decide +kernel
theorem dX8_does_79 : decode cX8_does 79 = .ok (.goto 12, 3) := by decide +kernel
theorem dX8_does_82 : decode cX8_does 82 = .ok (.aload_n 0, 1) := by decide +kernel
theorem dX8_does_83 : decode cX8_does 83 = .ok (.iload_n 3, 1) := by decide +kernel
theorem dX8_does_84 : decode cX8_does 84 = .ok (.iload_n 2, 1) := by decide +kernel
theorem dX8_does_85 : decode cX8_does 85 = .ok (.invokestatic 177, 3) := by decide +kernel
theorem dX8_does_88 : decode cX8_does 88 = .ok (.invokevirtual 146, 3) := by decide +kernel
theorem dX8_does_91 : decode cX8_does 91 = .ok (.istore 4, 2) := by decide +kernel
theorem dX8_does_93 : decode cX8_does 93 = .ok (.iload 4, 2) := by decide +kernel
theorem dX8_does_95 : decode cX8_does 95 = .ok (.ifCond .eq 6, 3) := by decide +kernel
theorem dX8_does_98 : decode cX8_does 98 = .ok (.iload 4, 2) := by decide +kernel
theorem dX8_does_100 : decode cX8_does 100 = .ok (.ireturn, 1) := by decide +kernel
theorem dX8_does_101 : decode cX8_does 101 = .ok (.iload_n 2, 1) := by decide +kernel
theorem dX8_does_102 : decode cX8_does 102 = .ok (.bipush 122, 2) := by decide +kernel
theorem dX8_does_104 : decode cX8_does 104 = .ok (.if_icmp .ne 11, 3) := by decide +kernel
theorem dX8_does_107 : decode cX8_does 107 = .ok (.aload_n 0, 1) := by decide +kernel
theorem dX8_does_108 : decode cX8_does 108 = .ok (.iload_n 3, 1) := by decide +kernel
theorem dX8_does_109 : decode cX8_does 109 = .ok (.invokevirtual 143, 3) := by decide +kernel
theorem dX8_does_112 : decode cX8_does 112 = .ok (.goto 34, 3) := by decide +kernel
theorem dX8_does_115 : decode cX8_does 115 = .ok (.aload_n 0, 1) := by decide +kernel
theorem dX8_does_116 : decode cX8_does 116 = .ok (.iload_n 3, 1) := by decide +kernel
theorem dX8_does_117 : decode cX8_does 117 = .ok (.invokevirtual 130, 3) := by decide +kernel
theorem dX8_does_120 : decode cX8_does 120 = .ok (.aload_n 0, 1) := by decide +kernel
theorem dX8_does_121 : decode cX8_does 121 = .ok (.getfield 7, 3) := by decide +kernel
theorem dX8_does_124 : decode cX8_does 124 = .ok (.iconst 1, 1) := by decide +kernel
theorem dX8_does_125 : decode cX8_does 125 = .ok (.dup2, 1) := by decide +kernel
theorem dX8_does_126 : decode cX8_does 126 = .ok (.iaload, 1) := by decide +kernel
theorem dX8_does_127 : decode cX8_does 127 = .ok (.iload_n 2, 1) := by decide +kernel
theorem dX8_does_128 : decode cX8_does 128 = .ok (.bipush 120, 2) := by decide +kernel
theorem dX8_does_130 : decode cX8_does 130 = .ok (.if_icmp .eq 9, 3) := by decide +kernel
theorem dX8_does_133 : decode cX8_does 133 = .ok (.iload_n 2, 1) := by decide +kernel
theorem dX8_does_134 : decode cX8_does 134 = .ok (.bipush 106, 2) := by decide +kernel
theorem dX8_does_136 : decode cX8_does 136 = .ok (.if_icmp .ne 7, 3) := by decide +kernel
theorem dX8_does_139 : decode cX8_does 139 = .ok (.iconst 0, 1) := by decide +kernel
theorem dX8_does_140 : decode cX8_does 140 = .ok (.goto 4, 3) := by decide +kernel
theorem dX8_does_143 : decode cX8_does 143 = .ok (.iconst 1, 1) := by decide +kernel
theorem dX8_does_144 : decode cX8_does 144 = .ok (.iadd, 1) := by decide +kernel
theorem dX8_does_145 : decode cX8_does 145 = .ok (.iastore, 1) := by decide +kernel
theorem dX8_does_146 : decode cX8_does 146 = .ok (.iconst 0, 1) := by decide +kernel
theorem dX8_does_147 : decode cX8_does 147 = .ok (.ireturn, 1) := by decide +kernel
theorem dX8_work_0 : decode cX8_work 0 = .ok (.aload_n 0, 1) := by decide +kernel
theorem dX8_work_1 : decode cX8_work 1 = .ok (.iconst 0, 1) := by decide +kernel
theorem dX8_work_2 : decode cX8_work 2 = .ok (.putfield 40, 3) := by decide +kernel
theorem dX8_work_5 : decode cX8_work 5 = .ok (.aload_n 0, 1) := by decide +kernel
theorem dX8_work_6 : decode cX8_work 6 = .ok (.invokevirtual 174, 3) := by decide +kernel
theorem dX8_work_9 : decode cX8_work 9 = .ok (.ifCond .ne 9, 3) := by decide +kernel
theorem dX8_work_12 : decode cX8_work 12 = .ok (.aload_n 0, 1) := by decide +kernel
theorem dX8_work_13 : decode cX8_work 13 = .ok (.iconst 1, 1) := by decide +kernel
theorem dX8_work_14 : decode cX8_work 14 = .ok (.invokevirtual 123, 3) := by decide +kernel
theorem dX8_work_17 : decode cX8_work 17 = .ok (.ireturn, 1) := by decide +kernel
theorem dX8_work_18 : decode cX8_work 18 = .ok (.aload_n 0, 1) := by decide +kernel
theorem dX8_work_19 : decode cX8_work 19 = .ok (.invokevirtual 127, 3) := by decide +kernel
theorem dX8_work_22 : decode cX8_work 22 = .ok (.aload_n 0, 1) := by decide +kernel
theorem dX8_work_23 : decode cX8_work 23 = .ok (.iconst 0, 1) := by decide +kernel
theorem dX8_work_24 : decode cX8_work 24 = .ok (.putfield 133, 3) := by decide +kernel
theorem dX8_work_27 : decode cX8_work 27 = .ok (.iconst 0, 1) := by decide +kernel
theorem dX8_work_28 : decode cX8_work 28 = .ok (.istore_n 1, 1) := by decide +kernel
theorem dX8_work_29 : decode cX8_work 29 = .ok (.iconst 0, 1) := by decide +kernel
theorem dX8_work_30 : decode cX8_work 30 = .ok (.istore_n 2, 1) := by decide +kernel
theorem dX8_work_31 : decode cX8_work 31 = .ok (.iload_n 1, 1) := by decide +kernel
theorem dX8_work_32 : decode cX8_work 32 = .ok (.aload_n 0, 1) := by decide +kernel
theorem dX8_work_33 : decode cX8_work 33 = .ok (.getfield 168, 3) := by decide +kernel
theorem dX8_work_36 : decode cX8_work 36 = .ok (.if_icmp .ge 30, 3) := by decide +kernel
theorem dX8_work_39 : decode cX8_work 39 = .ok (.iload_n 2, 1) := by decide +kernel
theorem dX8_work_40 : decode cX8_work 40 = .ok (.ifCond .ne 26, 3) := by decide +kernel
theorem dX8_work_43 : decode cX8_work 43 = .ok (.aload_n 0, 1) := by decide +kernel
theorem dX8_work_44 : decode cX8_work 44 = .ok (.iconst 4, 1) := by decide +kernel
theorem dX8_work_45 : decode cX8_work 45 = .ok (.iload_n 1, 1) := by decide +kernel
theorem dX8_work_46 : decode cX8_work 46 = .ok (.imul, 1) := by decide +kernel
theorem dX8_work_47 : decode cX8_work 47 = .ok (.invokevirtual 180, 3) := by decide +kernel
theorem dX8_work_50 : decode cX8_work 50 = .ok (.istore_n 2, 1) := by decide +kernel
theorem dX8_work_51 : decode cX8_work 51 = .ok (.iload_n 1, 1) := by decide +kernel
theorem dX8_work_52 : decode cX8_work 52 = .ok (.iload_n 2, 1) := by decide +kernel
theorem dX8_work_53 : decode cX8_work 53 = .ok (.ifCond .ne 7, 3) := by decide +kernel
theorem dX8_work_56 : decode cX8_work 56 = .ok (.iconst 1, 1) := by decide +kernel
theorem dX8_work_57 : decode cX8_work 57 = .ok (.goto 4, 3) := by decide +kernel
theorem dX8_work_60 : decode cX8_work 60 = .ok (.iconst 0, 1) := by decide +kernel
theorem dX8_work_61 : decode cX8_work 61 = .ok (.iadd, 1) := by decide +kernel
theorem dX8_work_62 : decode cX8_work 62 = .ok (.istore_n 1, 1) := by decide +kernel
theorem dX8_work_63 : decode cX8_work 63 = .ok (.goto (-32), 3) := by decide +kernel
theorem dX8_work_66 : decode cX8_work 66 = .ok (.aload_n 0, 1) := by decide +kernel
theorem dX8_work_67 : decode cX8_work 67 = .ok (.getfield 7, 3) := by decide +kernel
theorem dX8_work_70 : decode cX8_work 70 = .ok (.iconst 2, 1) := by decide +kernel
theorem dX8_work_71 : decode cX8_work 71 = .ok (.iload_n 2, 1) := by decide +kernel
theorem dX8_work_72 : decode cX8_work 72 = .ok (.ifCond .ne 7, 3) := by decide +kernel
theorem dX8_work_75 : decode cX8_work 75 = .ok (.iconst (-1), 1) := by decide +kernel
theorem dX8_work_76 : decode cX8_work 76 = .ok (.goto 4, 3) := by decide +kernel
theorem dX8_work_79 : decode cX8_work 79 = .ok (.iload_n 1, 1) := by decide +kernel
theorem dX8_work_80 : decode cX8_work 80 = .ok (.iastore, 1) := by decide +kernel
theorem dX8_work_81 : decode cX8_work 81 = .ok (.aload_n 0, 1) := by decide +kernel
theorem dX8_work_82 : decode cX8_work 82 = .ok (.getfield 7, 3) := by decide +kernel
theorem dX8_work_85 : decode cX8_work 85 = .ok (.iconst 3, 1) := by decide +kernel
theorem dX8_work_86 : decode cX8_work 86 = .ok (.iload_n 2, 1) := by decide +kernel
theorem dX8_work_87 : decode cX8_work 87 = .ok (.ifCond .ne 7, 3) := by decide +kernel
theorem dX8_work_90 : decode cX8_work 90 = .ok (.iconst (-1), 1) := by decide +kernel
theorem dX8_work_91 : decode cX8_work 91 = .ok (.goto 4, 3) := by decide +kernel
theorem dX8_work_94 : decode cX8_work 94 = .ok (.iload_n 2, 1) := by decide +kernel
theorem dX8_work_95 : decode cX8_work 95 = .ok (.iastore, 1) := by decide +kernel
theorem dX8_work_96 : decode cX8_work 96 = .ok (.iload_n 1, 1) := by decide +kernel
theorem dX8_work_97 : decode cX8_work 97 = .ok (.ireturn, 1) := by decide +kernel
theorem dX8_stopped_0 : decode cX8_stopped 0 = .ok (.aload_n 0, 1) := by decide +kernel
theorem dX8_stopped_1 : decode cX8_stopped 1 = .ok (.iconst 0, 1) := by decide +kernel
theorem dX8_stopped_2 : decode cX8_stopped 2 = .ok (.putfield 40, 3) := by decide +kernel
theorem dX8_stopped_5 : decode cX8_stopped 5 = .ok (.iload_n 1, 1) := by decide +kernel
theorem dX8_stopped_6 : decode cX8_stopped 6 = .ok (.iconst 0, 1) := by decide +kernel
theorem dX8_stopped_7 : decode cX8_stopped 7 = .ok (.iconst 1, 1) := by decide +kernel
theorem dX8_stopped_8 : decode cX8_stopped 8 = .ok (.invokestatic 44, 3) := by decide +kernel
theorem dX8_stopped_11 : decode cX8_stopped 11 = .ok (.ifCond .eq 14, 3) := by decide +kernel
theorem dX8_stopped_14 : decode cX8_stopped 14 = .ok (.aload_n 0, 1) := by decide +kernel
theorem dX8_stopped_15 : decode cX8_stopped 15 = .ok (.getfield 7, 3) := by decide +kernel
theorem dX8_stopped_18 : decode cX8_stopped 18 = .ok (.iconst 2, 1) := by decide +kernel
theorem dX8_stopped_19 : decode cX8_stopped 19 = .ok (.iload_n 1, 1) := by decide +kernel
theorem dX8_stopped_20 : decode cX8_stopped 20 = .ok (.iadd, 1) := by decide +kernel
theorem dX8_stopped_21 : decode cX8_stopped 21 = .ok (.iaload, 1) := by decide +kernel
theorem dX8_stopped_22 : decode cX8_stopped 22 = .ok (.goto 8, 3) := by decide +kernel
theorem dX8_stopped_25 : decode cX8_stopped 25 = .ok (.aload_n 0, 1) := by decide +kernel
theorem dX8_stopped_26 : decode cX8_stopped 26 = .ok (.iconst 1, 1) := by decide +kernel
theorem dX8_stopped_27 : decode cX8_stopped 27 = .ok (.invokevirtual 123, 3) := by decide +kernel
theorem dX8_stopped_30 : decode cX8_stopped 30 = .ok (.ireturn, 1) := by decide +kernel
theorem dX8_undo_0 : decode cX8_undo 0 = .ok (.aload_n 0, 1) := by decide +kernel
theorem dX8_undo_1 : decode cX8_undo 1 = .ok (.iconst 0, 1) := by decide +kernel
theorem dX8_undo_2 : decode cX8_undo 2 = .ok (.putfield 40, 3) := by decide +kernel
theorem dX8_undo_5 : decode cX8_undo 5 = .ok (.aload_n 0, 1) := by decide +kernel
theorem dX8_undo_6 : decode cX8_undo 6 = .ok (.getfield 48, 3) := by decide +kernel
theorem dX8_undo_9 : decode cX8_undo 9 = .ok (.ifCond .ne 9, 3) := by decide +kernel
theorem dX8_undo_12 : decode cX8_undo 12 = .ok (.aload_n 0, 1) := by decide +kernel
theorem dX8_undo_13 : decode cX8_undo 13 = .ok (.iconst 1, 1) := by decide +kernel
theorem dX8_undo_14 : decode cX8_undo 14 = .ok (.invokevirtual 123, 3) := by decide +kernel
theorem dX8_undo_17 : decode cX8_undo 17 = .ok (.ireturn, 1) := by decide +kernel
theorem dX8_undo_18 : decode cX8_undo 18 = .ok (.aload_n 0, 1) := by decide +kernel
theorem dX8_undo_19 : decode cX8_undo 19 = .ok (.dup, 1) := by decide +kernel
theorem dX8_undo_20 : decode cX8_undo 20 = .ok (.getfield 48, 3) := by decide +kernel
theorem dX8_undo_23 : decode cX8_undo 23 = .ok (.iconst 1, 1) := by decide +kernel
theorem dX8_undo_24 : decode cX8_undo 24 = .ok (.isub, 1) := by decide +kernel
theorem dX8_undo_25 : decode cX8_undo 25 = .ok (.putfield 48, 3) := by decide +kernel
theorem dX8_undo_28 : decode cX8_undo 28 = .ok (.iconst 0, 1) := by decide +kernel
theorem dX8_undo_29 : decode cX8_undo 29 = .ok (.istore_n 1, 1) := by decide +kernel
theorem dX8_undo_30 : decode cX8_undo 30 = .ok (.iload_n 1, 1) := by decide +kernel
theorem dX8_undo_31 : decode cX8_undo 31 = .ok (.sipush 160, 3) := by decide +kernel
theorem dX8_undo_34 : decode cX8_undo 34 = .ok (.if_icmp .ge 30, 3) := by decide +kernel
theorem dX8_undo_37 : decode cX8_undo 37 = .ok (.aload_n 0, 1) := by decide +kernel
theorem dX8_undo_38 : decode cX8_undo 38 = .ok (.getfield 7, 3) := by decide +kernel
theorem dX8_undo_41 : decode cX8_undo 41 = .ok (.iload_n 1, 1) := by decide +kernel
theorem dX8_undo_42 : decode cX8_undo 42 = .ok (.aload_n 0, 1) := by decide +kernel
theorem dX8_undo_43 : decode cX8_undo 43 = .ok (.getfield 13, 3) := by decide +kernel
theorem dX8_undo_46 : decode cX8_undo 46 = .ok (.sipush 160, 3) := by decide +kernel
theorem dX8_undo_49 : decode cX8_undo 49 = .ok (.aload_n 0, 1) := by decide +kernel
theorem dX8_undo_50 : decode cX8_undo 50 = .ok (.getfield 48, 3) := by decide +kernel
theorem dX8_undo_53 : decode cX8_undo 53 = .ok (.imul, 1) := by decide +kernel
theorem dX8_undo_54 : decode cX8_undo 54 = .ok (.iload_n 1, 1) := by decide +kernel
theorem dX8_undo_55 : decode cX8_undo 55 = .ok (.iadd, 1) := by decide +kernel
theorem dX8_undo_56 : decode cX8_undo 56 = .ok (.iaload, 1) := by decide +kernel
theorem dX8_undo_57 : decode cX8_undo 57 = .ok (.iastore, 1) := by decide +kernel
theorem dX8_undo_58 : decode cX8_undo 58 = .ok (.iinc 1 1, 3) := by decide +kernel
theorem dX8_undo_61 : decode cX8_undo 61 = .ok (.goto (-31), 3) := by decide +kernel
theorem dX8_undo_64 : decode cX8_undo 64 = .ok (.aload_n 0, 1) := by decide +kernel
theorem dX8_undo_65 : decode cX8_undo 65 = .ok (.getfield 48, 3) := by decide +kernel
theorem dX8_undo_68 : decode cX8_undo 68 = .ok (.ireturn, 1) := by decide +kernel
theorem dX8_keep_0 : decode cX8_keep 0 = .ok (.aload_n 0, 1) := by decide +kernel
theorem dX8_keep_1 : decode cX8_keep 1 = .ok (.iconst 0, 1) := by decide +kernel
theorem dX8_keep_2 : decode cX8_keep 2 = .ok (.putfield 40, 3) := by decide +kernel
theorem dX8_keep_5 : decode cX8_keep 5 = .ok (.iconst 0, 1) := by decide +kernel
theorem dX8_keep_6 : decode cX8_keep 6 = .ok (.istore_n 1, 1) := by decide +kernel
theorem dX8_keep_7 : decode cX8_keep 7 = .ok (.iload_n 1, 1) := by decide +kernel
theorem dX8_keep_8 : decode cX8_keep 8 = .ok (.sipush 160, 3) := by decide +kernel
theorem dX8_keep_11 : decode cX8_keep 11 = .ok (.if_icmp .ge 21, 3) := by decide +kernel
theorem dX8_keep_14 : decode cX8_keep 14 = .ok (.aload_n 0, 1) := by decide +kernel
theorem dX8_keep_15 : decode cX8_keep 15 = .ok (.getfield 16, 3) := by decide +kernel
theorem dX8_keep_18 : decode cX8_keep 18 = .ok (.iload_n 1, 1) := by decide +kernel
theorem dX8_keep_19 : decode cX8_keep 19 = .ok (.aload_n 0, 1) := by decide +kernel
theorem dX8_keep_20 : decode cX8_keep 20 = .ok (.getfield 7, 3) := by decide +kernel
theorem dX8_keep_23 : decode cX8_keep 23 = .ok (.iload_n 1, 1) := by decide +kernel
theorem dX8_keep_24 : decode cX8_keep 24 = .ok (.iaload, 1) := by decide +kernel
theorem dX8_keep_25 : decode cX8_keep 25 = .ok (.iastore, 1) := by decide +kernel
theorem dX8_keep_26 : decode cX8_keep 26 = .ok (.iinc 1 1, 3) := by decide +kernel
theorem dX8_keep_29 : decode cX8_keep 29 = .ok (.goto (-22), 3) := by decide +kernel
theorem dX8_keep_32 : decode cX8_keep 32 = .ok (.aload_n 0, 1) := by decide +kernel
theorem dX8_keep_33 : decode cX8_keep 33 = .ok (.iconst 1, 1) := by decide +kernel
theorem dX8_keep_34 : decode cX8_keep 34 = .ok (.putfield 183, 3) := by decide +kernel
theorem dX8_keep_37 : decode cX8_keep 37 = .ok (.aload_n 0, 1) := by decide +kernel
theorem dX8_keep_38 : decode cX8_keep 38 = .ok (.getfield 7, 3) := by decide +kernel
theorem dX8_keep_41 : decode cX8_keep 41 = .ok (.iconst 0, 1) := by decide +kernel
theorem dX8_keep_42 : decode cX8_keep 42 = .ok (.iaload, 1) := by decide +kernel
theorem dX8_keep_43 : decode cX8_keep 43 = .ok (.ireturn, 1) := by decide +kernel
theorem dX8_restore_0 : decode cX8_restore 0 = .ok (.aload_n 0, 1) := by decide +kernel
theorem dX8_restore_1 : decode cX8_restore 1 = .ok (.iconst 0, 1) := by decide +kernel
theorem dX8_restore_2 : decode cX8_restore 2 = .ok (.putfield 40, 3) := by decide +kernel
theorem dX8_restore_5 : decode cX8_restore 5 = .ok (.aload_n 0, 1) := by decide +kernel
theorem dX8_restore_6 : decode cX8_restore 6 = .ok (.getfield 183, 3) := by decide +kernel
theorem dX8_restore_9 : decode cX8_restore 9 = .ok (.ifCond .ne 9, 3) := by decide +kernel
theorem dX8_restore_12 : decode cX8_restore 12 = .ok (.aload_n 0, 1) := by decide +kernel
theorem dX8_restore_13 : decode cX8_restore 13 = .ok (.iconst 1, 1) := by decide +kernel
theorem dX8_restore_14 : decode cX8_restore 14 = .ok (.invokevirtual 123, 3) := by decide +kernel
theorem dX8_restore_17 : decode cX8_restore 17 = .ok (.ireturn, 1) := by decide +kernel
theorem dX8_restore_18 : decode cX8_restore 18 = .ok (.aload_n 0, 1) := by decide +kernel
theorem dX8_restore_19 : decode cX8_restore 19 = .ok (.invokevirtual 127, 3) := by decide +kernel
theorem dX8_restore_22 : decode cX8_restore 22 = .ok (.iconst 0, 1) := by decide +kernel
theorem dX8_restore_23 : decode cX8_restore 23 = .ok (.istore_n 1, 1) := by decide +kernel
theorem dX8_restore_24 : decode cX8_restore 24 = .ok (.iload_n 1, 1) := by decide +kernel
theorem dX8_restore_25 : decode cX8_restore 25 = .ok (.sipush 160, 3) := by decide +kernel
theorem dX8_restore_28 : decode cX8_restore 28 = .ok (.if_icmp .ge 21, 3) := by decide +kernel
theorem dX8_restore_31 : decode cX8_restore 31 = .ok (.aload_n 0, 1) := by decide +kernel
theorem dX8_restore_32 : decode cX8_restore 32 = .ok (.getfield 7, 3) := by decide +kernel
theorem dX8_restore_35 : decode cX8_restore 35 = .ok (.iload_n 1, 1) := by decide +kernel
theorem dX8_restore_36 : decode cX8_restore 36 = .ok (.aload_n 0, 1) := by decide +kernel
theorem dX8_restore_37 : decode cX8_restore 37 = .ok (.getfield 16, 3) := by decide +kernel
theorem dX8_restore_40 : decode cX8_restore 40 = .ok (.iload_n 1, 1) := by decide +kernel
theorem dX8_restore_41 : decode cX8_restore 41 = .ok (.iaload, 1) := by decide +kernel
theorem dX8_restore_42 : decode cX8_restore 42 = .ok (.iastore, 1) := by decide +kernel
theorem dX8_restore_43 : decode cX8_restore 43 = .ok (.iinc 1 1, 3) := by decide +kernel
theorem dX8_restore_46 : decode cX8_restore 46 = .ok (.goto (-22), 3) := by decide +kernel
theorem dX8_restore_49 : decode cX8_restore 49 = .ok (.aload_n 0, 1) := by decide +kernel
theorem dX8_restore_50 : decode cX8_restore 50 = .ok (.getfield 7, 3) := by decide +kernel
theorem dX8_restore_53 : decode cX8_restore 53 = .ok (.iconst 0, 1) := by decide +kernel
theorem dX8_restore_54 : decode cX8_restore 54 = .ok (.iaload, 1) := by decide +kernel
theorem dX8_restore_55 : decode cX8_restore 55 = .ok (.ireturn, 1) := by decide +kernel
theorem dX8_tellsCrossing_0 : decode cX8_tellsCrossing 0 = .ok (.iload_n 2, 1) := by decide +kernel
theorem dX8_tellsCrossing_1 : decode cX8_tellsCrossing 1 = .ok (.aload_n 0, 1) := by decide +kernel
theorem dX8_tellsCrossing_2 : decode cX8_tellsCrossing 2 = .ok (.iload_n 1, 1) := by decide +kernel
theorem dX8_tellsCrossing_3 : decode cX8_tellsCrossing 3 = .ok (.iconst 1, 1) := by decide +kernel
theorem dX8_tellsCrossing_4 : decode cX8_tellsCrossing 4 = .ok (.invokevirtual 51, 3) := by decide +kernel
theorem dX8_tellsCrossing_7 : decode cX8_tellsCrossing 7 = .ok (.if_icmp .lt 5, 3) := by decide +kernel
theorem dX8_tellsCrossing_10 : decode cX8_tellsCrossing 10 = .ok (.iconst (-1), 1) := by decide +kernel
theorem dX8_tellsCrossing_11 : decode cX8_tellsCrossing 11 = .ok (.ireturn, 1) := by decide +kernel
theorem dX8_tellsCrossing_12 : decode cX8_tellsCrossing 12 = .ok (.aload_n 0, 1) := by decide +kernel
theorem dX8_tellsCrossing_13 : decode cX8_tellsCrossing 13 = .ok (.iload_n 1, 1) := by decide +kernel
theorem dX8_tellsCrossing_14 : decode cX8_tellsCrossing 14 = .ok (.invokevirtual 107, 3) := by decide +kernel
theorem dX8_tellsCrossing_17 : decode cX8_tellsCrossing 17 = .ok (.aload_n 0, 1) := by decide +kernel
theorem dX8_tellsCrossing_18 : decode cX8_tellsCrossing 18 = .ok (.iload_n 2, 1) := by decide +kernel
theorem dX8_tellsCrossing_19 : decode cX8_tellsCrossing 19 = .ok (.iconst 1, 1) := by decide +kernel
theorem dX8_tellsCrossing_20 : decode cX8_tellsCrossing 20 = .ok (.iadd, 1) := by decide +kernel
theorem dX8_tellsCrossing_21 : decode cX8_tellsCrossing 21 = .ok (.invokevirtual 89, 3) := by decide +kernel
theorem dX8_tellsCrossing_24 : decode cX8_tellsCrossing 24 = .ok (.iload_n 3, 1) := by decide +kernel
theorem dX8_tellsCrossing_25 : decode cX8_tellsCrossing 25 = .ok (.ifCond .ne 14, 3) := by decide +kernel
theorem dX8_tellsCrossing_28 : decode cX8_tellsCrossing 28 = .ok (.aload_n 0, 1) := by decide +kernel
theorem dX8_tellsCrossing_29 : decode cX8_tellsCrossing 29 = .ok (.getfield 22, 3) := by decide +kernel
theorem dX8_tellsCrossing_32 : decode cX8_tellsCrossing 32 = .ok (.iload_n 2, 1) := by decide +kernel
theorem dX8_tellsCrossing_33 : decode cX8_tellsCrossing 33 = .ok (.iaload, 1) := by decide +kernel
theorem dX8_tellsCrossing_34 : decode cX8_tellsCrossing 34 = .ok (.iconst 2, 1) := by decide +kernel
theorem dX8_tellsCrossing_35 : decode cX8_tellsCrossing 35 = .ok (.idiv, 1) := by decide +kernel
theorem dX8_tellsCrossing_36 : decode cX8_tellsCrossing 36 = .ok (.goto 35, 3) := by decide +kernel
theorem dX8_tellsCrossing_39 : decode cX8_tellsCrossing 39 = .ok (.iload_n 3, 1) := by decide +kernel
theorem dX8_tellsCrossing_40 : decode cX8_tellsCrossing 40 = .ok (.iconst 1, 1) := by decide +kernel
theorem dX8_tellsCrossing_41 : decode cX8_tellsCrossing 41 = .ok (.if_icmp .ne 14, 3) := by decide +kernel
theorem dX8_tellsCrossing_44 : decode cX8_tellsCrossing 44 = .ok (.aload_n 0, 1) := by decide +kernel
theorem dX8_tellsCrossing_45 : decode cX8_tellsCrossing 45 = .ok (.getfield 22, 3) := by decide +kernel
theorem dX8_tellsCrossing_48 : decode cX8_tellsCrossing 48 = .ok (.iload_n 2, 1) := by decide +kernel
theorem dX8_tellsCrossing_49 : decode cX8_tellsCrossing 49 = .ok (.iaload, 1) := by decide +kernel
theorem dX8_tellsCrossing_50 : decode cX8_tellsCrossing 50 = .ok (.iconst 2, 1) := by decide +kernel
theorem dX8_tellsCrossing_51 : decode cX8_tellsCrossing 51 = .ok (.irem, 1) := by decide +kernel
theorem dX8_tellsCrossing_52 : decode cX8_tellsCrossing 52 = .ok (.goto 19, 3) := by decide +kernel
theorem dX8_tellsCrossing_55 : decode cX8_tellsCrossing 55 = .ok (.iload_n 3, 1) := by decide +kernel
theorem dX8_tellsCrossing_56 : decode cX8_tellsCrossing 56 = .ok (.iconst 2, 1) := by decide +kernel
theorem dX8_tellsCrossing_57 : decode cX8_tellsCrossing 57 = .ok (.if_icmp .ne 10, 3) := by decide +kernel
theorem dX8_tellsCrossing_60 : decode cX8_tellsCrossing 60 = .ok (.aload_n 0, 1) := by decide +kernel
theorem dX8_tellsCrossing_61 : decode cX8_tellsCrossing 61 = .ok (.getfield 86, 3) := by decide +kernel
theorem dX8_tellsCrossing_64 : decode cX8_tellsCrossing 64 = .ok (.goto 7, 3) := by decide +kernel
theorem dX8_tellsCrossing_67 : decode cX8_tellsCrossing 67 = .ok (.aload_n 0, 1) := by decide +kernel
theorem dX8_tellsCrossing_68 : decode cX8_tellsCrossing 68 = .ok (.getfield 83, 3) := by decide +kernel
theorem dX8_tellsCrossing_71 : decode cX8_tellsCrossing 71 = .ok (.ireturn, 1) := by decide +kernel
theorem dX8_crossing_0 : decode cX8_crossing 0 = .ok (.aload_n 0, 1) := by decide +kernel
theorem dX8_crossing_1 : decode cX8_crossing 1 = .ok (.iconst 0, 1) := by decide +kernel
theorem dX8_crossing_2 : decode cX8_crossing 2 = .ok (.putfield 40, 3) := by decide +kernel
theorem dX8_crossing_5 : decode cX8_crossing 5 = .ok (.aload_n 0, 1) := by decide +kernel
theorem dX8_crossing_6 : decode cX8_crossing 6 = .ok (.iload_n 1, 1) := by decide +kernel
theorem dX8_crossing_7 : decode cX8_crossing 7 = .ok (.invokevirtual 104, 3) := by decide +kernel
theorem dX8_crossing_10 : decode cX8_crossing 10 = .ok (.ifCond .ne 9, 3) := by decide +kernel
theorem dX8_crossing_13 : decode cX8_crossing 13 = .ok (.aload_n 0, 1) := by decide +kernel
theorem dX8_crossing_14 : decode cX8_crossing 14 = .ok (.iconst 1, 1) := by decide +kernel
theorem dX8_crossing_15 : decode cX8_crossing 15 = .ok (.invokevirtual 123, 3) := by decide +kernel
theorem dX8_crossing_18 : decode cX8_crossing 18 = .ok (.ireturn, 1) := by decide +kernel
theorem dX8_crossing_19 : decode cX8_crossing 19 = .ok (.iload_n 2, 1) := by decide +kernel
theorem dX8_crossing_20 : decode cX8_crossing 20 = .ok (.iconst 0, 1) := by decide +kernel
theorem dX8_crossing_21 : decode cX8_crossing 21 = .ok (.bipush 23, 2) := by decide +kernel
theorem dX8_crossing_23 : decode cX8_crossing 23 = .ok (.invokestatic 44, 3) := by decide +kernel
theorem dX8_crossing_26 : decode cX8_crossing 26 = .ok (.ifCond .eq 22, 3) := by decide +kernel
theorem dX8_crossing_29 : decode cX8_crossing 29 = .ok (.iload_n 3, 1) := by decide +kernel
theorem dX8_crossing_30 : decode cX8_crossing 30 = .ok (.iconst 0, 1) := by decide +kernel
theorem dX8_crossing_31 : decode cX8_crossing 31 = .ok (.iconst 3, 1) := by decide +kernel
theorem dX8_crossing_32 : decode cX8_crossing 32 = .ok (.invokestatic 44, 3) := by decide +kernel
theorem dX8_crossing_35 : decode cX8_crossing 35 = .ok (.ifCond .eq 13, 3) := by decide +kernel
theorem dX8_crossing_38 : decode cX8_crossing 38 = .ok (.aload_n 0, 1) := by decide +kernel
theorem dX8_crossing_39 : decode cX8_crossing 39 = .ok (.iload_n 1, 1) := by decide +kernel
theorem dX8_crossing_40 : decode cX8_crossing 40 = .ok (.iload_n 2, 1) := by decide +kernel
theorem dX8_crossing_41 : decode cX8_crossing 41 = .ok (.iload_n 3, 1) := by decide +kernel
theorem dX8_crossing_42 : decode cX8_crossing 42 = .ok (.invokevirtual 186, 3) := by decide +kernel
theorem dX8_crossing_45 : decode cX8_crossing 45 = .ok (.goto 8, 3) := by decide +kernel
theorem dX8_crossing_48 : decode cX8_crossing 48 = .ok (.aload_n 0, 1) := by decide +kernel
theorem dX8_crossing_49 : decode cX8_crossing 49 = .ok (.iconst 2, 1) := by decide +kernel
theorem dX8_crossing_50 : decode cX8_crossing 50 = .ok (.invokevirtual 123, 3) := by decide +kernel
theorem dX8_crossing_53 : decode cX8_crossing 53 = .ok (.ireturn, 1) := by decide +kernel
theorem dX8_placeOf_0 : decode cX8_placeOf 0 = .ok (.iconst (-1), 1) := by decide +kernel
theorem dX8_placeOf_1 : decode cX8_placeOf 1 = .ok (.istore_n 2, 1) := by decide +kernel
theorem dX8_placeOf_2 : decode cX8_placeOf 2 = .ok (.iconst 0, 1) := by decide +kernel
theorem dX8_placeOf_3 : decode cX8_placeOf 3 = .ok (.istore_n 3, 1) := by decide +kernel
theorem dX8_placeOf_4 : decode cX8_placeOf 4 = .ok (.iload_n 3, 1) := by decide +kernel
theorem dX8_placeOf_5 : decode cX8_placeOf 5 = .ok (.aload_n 0, 1) := by decide +kernel
theorem dX8_placeOf_6 : decode cX8_placeOf 6 = .ok (.getfield 55, 3) := by decide +kernel
theorem dX8_placeOf_9 : decode cX8_placeOf 9 = .ok (.if_icmp .ge 25, 3) := by decide +kernel
theorem dX8_placeOf_12 : decode cX8_placeOf 12 = .ok (.aload_n 0, 1) := by decide +kernel
theorem dX8_placeOf_13 : decode cX8_placeOf 13 = .ok (.getfield 25, 3) := by decide +kernel
theorem dX8_placeOf_16 : decode cX8_placeOf 16 = .ok (.iload_n 3, 1) := by decide +kernel
theorem dX8_placeOf_17 : decode cX8_placeOf 17 = .ok (.iaload, 1) := by decide +kernel
theorem dX8_placeOf_18 : decode cX8_placeOf 18 = .ok (.iload_n 1, 1) := by decide +kernel
theorem dX8_placeOf_19 : decode cX8_placeOf 19 = .ok (.if_icmp .ne 7, 3) := by decide +kernel
theorem dX8_placeOf_22 : decode cX8_placeOf 22 = .ok (.iload_n 3, 1) := by decide +kernel
theorem dX8_placeOf_23 : decode cX8_placeOf 23 = .ok (.goto 4, 3) := by decide +kernel
theorem dX8_placeOf_26 : decode cX8_placeOf 26 = .ok (.iload_n 2, 1) := by decide +kernel
theorem dX8_placeOf_27 : decode cX8_placeOf 27 = .ok (.istore_n 2, 1) := by decide +kernel
theorem dX8_placeOf_28 : decode cX8_placeOf 28 = .ok (.iinc 3 1, 3) := by decide +kernel
theorem dX8_placeOf_31 : decode cX8_placeOf 31 = .ok (.goto (-27), 3) := by decide +kernel
theorem dX8_placeOf_34 : decode cX8_placeOf 34 = .ok (.iload_n 2, 1) := by decide +kernel
theorem dX8_placeOf_35 : decode cX8_placeOf 35 = .ok (.ireturn, 1) := by decide +kernel
theorem dX8_tellsStrand_0 : decode cX8_tellsStrand 0 = .ok (.iload_n 2, 1) := by decide +kernel
theorem dX8_tellsStrand_1 : decode cX8_tellsStrand 1 = .ok (.aload_n 0, 1) := by decide +kernel
theorem dX8_tellsStrand_2 : decode cX8_tellsStrand 2 = .ok (.iload_n 1, 1) := by decide +kernel
theorem dX8_tellsStrand_3 : decode cX8_tellsStrand 3 = .ok (.iconst 0, 1) := by decide +kernel
theorem dX8_tellsStrand_4 : decode cX8_tellsStrand 4 = .ok (.invokevirtual 51, 3) := by decide +kernel
theorem dX8_tellsStrand_7 : decode cX8_tellsStrand 7 = .ok (.if_icmp .lt 5, 3) := by decide +kernel
theorem dX8_tellsStrand_10 : decode cX8_tellsStrand 10 = .ok (.iconst (-1), 1) := by decide +kernel
theorem dX8_tellsStrand_11 : decode cX8_tellsStrand 11 = .ok (.ireturn, 1) := by decide +kernel
theorem dX8_tellsStrand_12 : decode cX8_tellsStrand 12 = .ok (.aload_n 0, 1) := by decide +kernel
theorem dX8_tellsStrand_13 : decode cX8_tellsStrand 13 = .ok (.iload_n 1, 1) := by decide +kernel
theorem dX8_tellsStrand_14 : decode cX8_tellsStrand 14 = .ok (.invokevirtual 107, 3) := by decide +kernel
theorem dX8_tellsStrand_17 : decode cX8_tellsStrand 17 = .ok (.aload_n 0, 1) := by decide +kernel
theorem dX8_tellsStrand_18 : decode cX8_tellsStrand 18 = .ok (.aload_n 0, 1) := by decide +kernel
theorem dX8_tellsStrand_19 : decode cX8_tellsStrand 19 = .ok (.getfield 58, 3) := by decide +kernel
theorem dX8_tellsStrand_22 : decode cX8_tellsStrand 22 = .ok (.invokevirtual 89, 3) := by decide +kernel
theorem dX8_tellsStrand_25 : decode cX8_tellsStrand 25 = .ok (.iload_n 3, 1) := by decide +kernel
theorem dX8_tellsStrand_26 : decode cX8_tellsStrand 26 = .ok (.tableswitch 69 0 3 #[30, 36, 43, 50], 30) := by decide +kernel
theorem dX8_tellsStrand_56 : decode cX8_tellsStrand 56 = .ok (.aload_n 0, 1) := by decide +kernel
theorem dX8_tellsStrand_57 : decode cX8_tellsStrand 57 = .ok (.iload_n 2, 1) := by decide +kernel
theorem dX8_tellsStrand_58 : decode cX8_tellsStrand 58 = .ok (.invokevirtual 189, 3) := by decide +kernel
theorem dX8_tellsStrand_61 : decode cX8_tellsStrand 61 = .ok (.ireturn, 1) := by decide +kernel
theorem dX8_tellsStrand_62 : decode cX8_tellsStrand 62 = .ok (.aload_n 0, 1) := by decide +kernel
theorem dX8_tellsStrand_63 : decode cX8_tellsStrand 63 = .ok (.getfield 28, 3) := by decide +kernel
theorem dX8_tellsStrand_66 : decode cX8_tellsStrand 66 = .ok (.iload_n 2, 1) := by decide +kernel
theorem dX8_tellsStrand_67 : decode cX8_tellsStrand 67 = .ok (.iaload, 1) := by decide +kernel
theorem dX8_tellsStrand_68 : decode cX8_tellsStrand 68 = .ok (.ireturn, 1) := by decide +kernel
theorem dX8_tellsStrand_69 : decode cX8_tellsStrand 69 = .ok (.aload_n 0, 1) := by decide +kernel
theorem dX8_tellsStrand_70 : decode cX8_tellsStrand 70 = .ok (.getfield 31, 3) := by decide +kernel
theorem dX8_tellsStrand_73 : decode cX8_tellsStrand 73 = .ok (.iload_n 2, 1) := by decide +kernel
theorem dX8_tellsStrand_74 : decode cX8_tellsStrand 74 = .ok (.iaload, 1) := by decide +kernel
theorem dX8_tellsStrand_75 : decode cX8_tellsStrand 75 = .ok (.ireturn, 1) := by decide +kernel
theorem dX8_tellsStrand_76 : decode cX8_tellsStrand 76 = .ok (.bipush 30, 2) := by decide +kernel
theorem dX8_tellsStrand_78 : decode cX8_tellsStrand 78 = .ok (.aload_n 0, 1) := by decide +kernel
theorem dX8_tellsStrand_79 : decode cX8_tellsStrand 79 = .ok (.getfield 31, 3) := by decide +kernel
theorem dX8_tellsStrand_82 : decode cX8_tellsStrand 82 = .ok (.iload_n 2, 1) := by decide +kernel
theorem dX8_tellsStrand_83 : decode cX8_tellsStrand 83 = .ok (.iaload, 1) := by decide +kernel
theorem dX8_tellsStrand_84 : decode cX8_tellsStrand 84 = .ok (.isub, 1) := by decide +kernel
theorem dX8_tellsStrand_85 : decode cX8_tellsStrand 85 = .ok (.iconst 2, 1) := by decide +kernel
theorem dX8_tellsStrand_86 : decode cX8_tellsStrand 86 = .ok (.aload_n 0, 1) := by decide +kernel
theorem dX8_tellsStrand_87 : decode cX8_tellsStrand 87 = .ok (.getfield 28, 3) := by decide +kernel
theorem dX8_tellsStrand_90 : decode cX8_tellsStrand 90 = .ok (.iload_n 2, 1) := by decide +kernel
theorem dX8_tellsStrand_91 : decode cX8_tellsStrand 91 = .ok (.iaload, 1) := by decide +kernel
theorem dX8_tellsStrand_92 : decode cX8_tellsStrand 92 = .ok (.imul, 1) := by decide +kernel
theorem dX8_tellsStrand_93 : decode cX8_tellsStrand 93 = .ok (.isub, 1) := by decide +kernel
theorem dX8_tellsStrand_94 : decode cX8_tellsStrand 94 = .ok (.ireturn, 1) := by decide +kernel
theorem dX8_tellsStrand_95 : decode cX8_tellsStrand 95 = .ok (.aload_n 0, 1) := by decide +kernel
theorem dX8_tellsStrand_96 : decode cX8_tellsStrand 96 = .ok (.getfield 25, 3) := by decide +kernel
theorem dX8_tellsStrand_99 : decode cX8_tellsStrand 99 = .ok (.iload_n 2, 1) := by decide +kernel
theorem dX8_tellsStrand_100 : decode cX8_tellsStrand 100 = .ok (.iaload, 1) := by decide +kernel
theorem dX8_tellsStrand_101 : decode cX8_tellsStrand 101 = .ok (.ireturn, 1) := by decide +kernel
theorem dX8_strand_0 : decode cX8_strand 0 = .ok (.aload_n 0, 1) := by decide +kernel
theorem dX8_strand_1 : decode cX8_strand 1 = .ok (.iconst 0, 1) := by decide +kernel
theorem dX8_strand_2 : decode cX8_strand 2 = .ok (.putfield 40, 3) := by decide +kernel
theorem dX8_strand_5 : decode cX8_strand 5 = .ok (.aload_n 0, 1) := by decide +kernel
theorem dX8_strand_6 : decode cX8_strand 6 = .ok (.iload_n 1, 1) := by decide +kernel
theorem dX8_strand_7 : decode cX8_strand 7 = .ok (.invokevirtual 104, 3) := by decide +kernel
theorem dX8_strand_10 : decode cX8_strand 10 = .ok (.ifCond .ne 9, 3) := by decide +kernel
theorem dX8_strand_13 : decode cX8_strand 13 = .ok (.aload_n 0, 1) := by decide +kernel
theorem dX8_strand_14 : decode cX8_strand 14 = .ok (.iconst 1, 1) := by decide +kernel
theorem dX8_strand_15 : decode cX8_strand 15 = .ok (.invokevirtual 123, 3) := by decide +kernel
theorem dX8_strand_18 : decode cX8_strand 18 = .ok (.ireturn, 1) := by decide +kernel
theorem dX8_strand_19 : decode cX8_strand 19 = .ok (.iload_n 2, 1) := by decide +kernel
theorem dX8_strand_20 : decode cX8_strand 20 = .ok (.iconst 0, 1) := by decide +kernel
theorem dX8_strand_21 : decode cX8_strand 21 = .ok (.bipush 6, 2) := by decide +kernel
theorem dX8_strand_23 : decode cX8_strand 23 = .ok (.invokestatic 44, 3) := by decide +kernel
theorem dX8_strand_26 : decode cX8_strand 26 = .ok (.ifCond .eq 22, 3) := by decide +kernel
theorem dX8_strand_29 : decode cX8_strand 29 = .ok (.iload_n 3, 1) := by decide +kernel
theorem dX8_strand_30 : decode cX8_strand 30 = .ok (.iconst 0, 1) := by decide +kernel
theorem dX8_strand_31 : decode cX8_strand 31 = .ok (.iconst 4, 1) := by decide +kernel
theorem dX8_strand_32 : decode cX8_strand 32 = .ok (.invokestatic 44, 3) := by decide +kernel
theorem dX8_strand_35 : decode cX8_strand 35 = .ok (.ifCond .eq 13, 3) := by decide +kernel
theorem dX8_strand_38 : decode cX8_strand 38 = .ok (.aload_n 0, 1) := by decide +kernel
theorem dX8_strand_39 : decode cX8_strand 39 = .ok (.iload_n 1, 1) := by decide +kernel
theorem dX8_strand_40 : decode cX8_strand 40 = .ok (.iload_n 2, 1) := by decide +kernel
theorem dX8_strand_41 : decode cX8_strand 41 = .ok (.iload_n 3, 1) := by decide +kernel
theorem dX8_strand_42 : decode cX8_strand 42 = .ok (.invokevirtual 192, 3) := by decide +kernel
theorem dX8_strand_45 : decode cX8_strand 45 = .ok (.goto 8, 3) := by decide +kernel
theorem dX8_strand_48 : decode cX8_strand 48 = .ok (.aload_n 0, 1) := by decide +kernel
theorem dX8_strand_49 : decode cX8_strand 49 = .ok (.iconst 2, 1) := by decide +kernel
theorem dX8_strand_50 : decode cX8_strand 50 = .ok (.invokevirtual 123, 3) := by decide +kernel
theorem dX8_strand_53 : decode cX8_strand 53 = .ok (.ireturn, 1) := by decide +kernel
theorem dX8_rings_0 : decode cX8_rings 0 = .ok (.iconst 0, 1) := by decide +kernel
theorem dX8_rings_1 : decode cX8_rings 1 = .ok (.istore_n 1, 1) := by decide +kernel
theorem dX8_rings_2 : decode cX8_rings 2 = .ok (.iconst 0, 1) := by decide +kernel
theorem dX8_rings_3 : decode cX8_rings 3 = .ok (.istore_n 2, 1) := by decide +kernel
theorem dX8_rings_4 : decode cX8_rings 4 = .ok (.iconst 0, 1) := by decide +kernel
theorem dX8_rings_5 : decode cX8_rings 5 = .ok (.istore_n 3, 1) := by decide +kernel
theorem dX8_rings_6 : decode cX8_rings 6 = .ok (.iload_n 3, 1) := by decide +kernel
theorem dX8_rings_7 : decode cX8_rings 7 = .ok (.aload_n 0, 1) := by decide +kernel
theorem dX8_rings_8 : decode cX8_rings 8 = .ok (.getfield 55, 3) := by decide +kernel
theorem dX8_rings_11 : decode cX8_rings 11 = .ok (.if_icmp .ge 56, 3) := by decide +kernel
theorem dX8_rings_14 : decode cX8_rings 14 = .ok (.iload_n 2, 1) := by decide +kernel
theorem dX8_rings_15 : decode cX8_rings 15 = .ok (.iload_n 1, 1) := by decide +kernel
theorem dX8_rings_16 : decode cX8_rings 16 = .ok (.iload_n 3, 1) := by decide +kernel
theorem dX8_rings_17 : decode cX8_rings 17 = .ok (.ishr, 1) := by decide +kernel
theorem dX8_rings_18 : decode cX8_rings 18 = .ok (.iconst 1, 1) := by decide +kernel
theorem dX8_rings_19 : decode cX8_rings 19 = .ok (.iand, 1) := by decide +kernel
theorem dX8_rings_20 : decode cX8_rings 20 = .ok (.ifCond .ne 7, 3) := by decide +kernel
theorem dX8_rings_23 : decode cX8_rings 23 = .ok (.iconst 1, 1) := by decide +kernel
theorem dX8_rings_24 : decode cX8_rings 24 = .ok (.goto 4, 3) := by decide +kernel
theorem dX8_rings_27 : decode cX8_rings 27 = .ok (.iconst 0, 1) := by decide +kernel
theorem dX8_rings_28 : decode cX8_rings 28 = .ok (.iadd, 1) := by decide +kernel
theorem dX8_rings_29 : decode cX8_rings 29 = .ok (.istore_n 2, 1) := by decide +kernel
theorem dX8_rings_30 : decode cX8_rings 30 = .ok (.iload_n 3, 1) := by decide +kernel
theorem dX8_rings_31 : decode cX8_rings 31 = .ok (.istore 4, 2) := by decide +kernel
theorem dX8_rings_33 : decode cX8_rings 33 = .ok (.iload_n 1, 1) := by decide +kernel
theorem dX8_rings_34 : decode cX8_rings 34 = .ok (.iload 4, 2) := by decide +kernel
theorem dX8_rings_36 : decode cX8_rings 36 = .ok (.ishr, 1) := by decide +kernel
theorem dX8_rings_37 : decode cX8_rings 37 = .ok (.iconst 1, 1) := by decide +kernel
theorem dX8_rings_38 : decode cX8_rings 38 = .ok (.iand, 1) := by decide +kernel
theorem dX8_rings_39 : decode cX8_rings 39 = .ok (.ifCond .ne 22, 3) := by decide +kernel
theorem dX8_rings_42 : decode cX8_rings 42 = .ok (.iload_n 1, 1) := by decide +kernel
theorem dX8_rings_43 : decode cX8_rings 43 = .ok (.iconst 1, 1) := by decide +kernel
theorem dX8_rings_44 : decode cX8_rings 44 = .ok (.iload 4, 2) := by decide +kernel
theorem dX8_rings_46 : decode cX8_rings 46 = .ok (.ishl, 1) := by decide +kernel
theorem dX8_rings_47 : decode cX8_rings 47 = .ok (.ior, 1) := by decide +kernel
theorem dX8_rings_48 : decode cX8_rings 48 = .ok (.istore_n 1, 1) := by decide +kernel
theorem dX8_rings_49 : decode cX8_rings 49 = .ok (.aload_n 0, 1) := by decide +kernel
theorem dX8_rings_50 : decode cX8_rings 50 = .ok (.getfield 25, 3) := by decide +kernel
theorem dX8_rings_53 : decode cX8_rings 53 = .ok (.iload 4, 2) := by decide +kernel
theorem dX8_rings_55 : decode cX8_rings 55 = .ok (.iaload, 1) := by decide +kernel
theorem dX8_rings_56 : decode cX8_rings 56 = .ok (.istore 4, 2) := by decide +kernel
theorem dX8_rings_58 : decode cX8_rings 58 = .ok (.goto (-25), 3) := by decide +kernel
theorem dX8_rings_61 : decode cX8_rings 61 = .ok (.iinc 3 1, 3) := by decide +kernel
theorem dX8_rings_64 : decode cX8_rings 64 = .ok (.goto (-58), 3) := by decide +kernel
theorem dX8_rings_67 : decode cX8_rings 67 = .ok (.iload_n 2, 1) := by decide +kernel
theorem dX8_rings_68 : decode cX8_rings 68 = .ok (.ireturn, 1) := by decide +kernel
theorem dX8_rightLessLeft_0 : decode cX8_rightLessLeft 0 = .ok (.iconst 0, 1) := by decide +kernel
theorem dX8_rightLessLeft_1 : decode cX8_rightLessLeft 1 = .ok (.istore_n 1, 1) := by decide +kernel
theorem dX8_rightLessLeft_2 : decode cX8_rightLessLeft 2 = .ok (.iconst 0, 1) := by decide +kernel
theorem dX8_rightLessLeft_3 : decode cX8_rightLessLeft 3 = .ok (.istore_n 2, 1) := by decide +kernel
theorem dX8_rightLessLeft_4 : decode cX8_rightLessLeft 4 = .ok (.iload_n 2, 1) := by decide +kernel
theorem dX8_rightLessLeft_5 : decode cX8_rightLessLeft 5 = .ok (.aload_n 0, 1) := by decide +kernel
theorem dX8_rightLessLeft_6 : decode cX8_rightLessLeft 6 = .ok (.getfield 58, 3) := by decide +kernel
theorem dX8_rightLessLeft_9 : decode cX8_rightLessLeft 9 = .ok (.if_icmp .ge 29, 3) := by decide +kernel
theorem dX8_rightLessLeft_12 : decode cX8_rightLessLeft 12 = .ok (.iload_n 1, 1) := by decide +kernel
theorem dX8_rightLessLeft_13 : decode cX8_rightLessLeft 13 = .ok (.aload_n 0, 1) := by decide +kernel
theorem dX8_rightLessLeft_14 : decode cX8_rightLessLeft 14 = .ok (.getfield 22, 3) := by decide +kernel
theorem dX8_rightLessLeft_17 : decode cX8_rightLessLeft 17 = .ok (.iload_n 2, 1) := by decide +kernel
theorem dX8_rightLessLeft_18 : decode cX8_rightLessLeft 18 = .ok (.iaload, 1) := by decide +kernel
theorem dX8_rightLessLeft_19 : decode cX8_rightLessLeft 19 = .ok (.iconst 2, 1) := by decide +kernel
theorem dX8_rightLessLeft_20 : decode cX8_rightLessLeft 20 = .ok (.irem, 1) := by decide +kernel
theorem dX8_rightLessLeft_21 : decode cX8_rightLessLeft 21 = .ok (.iconst 1, 1) := by decide +kernel
theorem dX8_rightLessLeft_22 : decode cX8_rightLessLeft 22 = .ok (.if_icmp .ne 7, 3) := by decide +kernel
theorem dX8_rightLessLeft_25 : decode cX8_rightLessLeft 25 = .ok (.iconst 1, 1) := by decide +kernel
theorem dX8_rightLessLeft_26 : decode cX8_rightLessLeft 26 = .ok (.goto 4, 3) := by decide +kernel
theorem dX8_rightLessLeft_29 : decode cX8_rightLessLeft 29 = .ok (.iconst (-1), 1) := by decide +kernel
theorem dX8_rightLessLeft_30 : decode cX8_rightLessLeft 30 = .ok (.iadd, 1) := by decide +kernel
theorem dX8_rightLessLeft_31 : decode cX8_rightLessLeft 31 = .ok (.istore_n 1, 1) := by decide +kernel
theorem dX8_rightLessLeft_32 : decode cX8_rightLessLeft 32 = .ok (.iinc 2 1, 3) := by decide +kernel
theorem dX8_rightLessLeft_35 : decode cX8_rightLessLeft 35 = .ok (.goto (-31), 3) := by decide +kernel
theorem dX8_rightLessLeft_38 : decode cX8_rightLessLeft 38 = .ok (.iload_n 1, 1) := by decide +kernel
theorem dX8_rightLessLeft_39 : decode cX8_rightLessLeft 39 = .ok (.ireturn, 1) := by decide +kernel
theorem dX8_mostHidden_0 : decode cX8_mostHidden 0 = .ok (.iconst 0, 1) := by decide +kernel
theorem dX8_mostHidden_1 : decode cX8_mostHidden 1 = .ok (.istore_n 1, 1) := by decide +kernel
theorem dX8_mostHidden_2 : decode cX8_mostHidden 2 = .ok (.iconst 1, 1) := by decide +kernel
theorem dX8_mostHidden_3 : decode cX8_mostHidden 3 = .ok (.istore_n 2, 1) := by decide +kernel
theorem dX8_mostHidden_4 : decode cX8_mostHidden 4 = .ok (.iload_n 2, 1) := by decide +kernel
theorem dX8_mostHidden_5 : decode cX8_mostHidden 5 = .ok (.aload_n 0, 1) := by decide +kernel
theorem dX8_mostHidden_6 : decode cX8_mostHidden 6 = .ok (.getfield 55, 3) := by decide +kernel
theorem dX8_mostHidden_9 : decode cX8_mostHidden 9 = .ok (.if_icmp .ge 30, 3) := by decide +kernel
theorem dX8_mostHidden_12 : decode cX8_mostHidden 12 = .ok (.aload_n 0, 1) := by decide +kernel
theorem dX8_mostHidden_13 : decode cX8_mostHidden 13 = .ok (.getfield 28, 3) := by decide +kernel
theorem dX8_mostHidden_16 : decode cX8_mostHidden 16 = .ok (.iload_n 2, 1) := by decide +kernel
theorem dX8_mostHidden_17 : decode cX8_mostHidden 17 = .ok (.iaload, 1) := by decide +kernel
theorem dX8_mostHidden_18 : decode cX8_mostHidden 18 = .ok (.aload_n 0, 1) := by decide +kernel
theorem dX8_mostHidden_19 : decode cX8_mostHidden 19 = .ok (.getfield 28, 3) := by decide +kernel
theorem dX8_mostHidden_22 : decode cX8_mostHidden 22 = .ok (.iload_n 1, 1) := by decide +kernel
theorem dX8_mostHidden_23 : decode cX8_mostHidden 23 = .ok (.iaload, 1) := by decide +kernel
theorem dX8_mostHidden_24 : decode cX8_mostHidden 24 = .ok (.if_icmp .le 7, 3) := by decide +kernel
theorem dX8_mostHidden_27 : decode cX8_mostHidden 27 = .ok (.iload_n 2, 1) := by decide +kernel
theorem dX8_mostHidden_28 : decode cX8_mostHidden 28 = .ok (.goto 4, 3) := by decide +kernel
theorem dX8_mostHidden_31 : decode cX8_mostHidden 31 = .ok (.iload_n 1, 1) := by decide +kernel
theorem dX8_mostHidden_32 : decode cX8_mostHidden 32 = .ok (.istore_n 1, 1) := by decide +kernel
theorem dX8_mostHidden_33 : decode cX8_mostHidden 33 = .ok (.iinc 2 1, 3) := by decide +kernel
theorem dX8_mostHidden_36 : decode cX8_mostHidden 36 = .ok (.goto (-32), 3) := by decide +kernel
theorem dX8_mostHidden_39 : decode cX8_mostHidden 39 = .ok (.iload_n 1, 1) := by decide +kernel
theorem dX8_mostHidden_40 : decode cX8_mostHidden 40 = .ok (.ireturn, 1) := by decide +kernel
theorem dX8_areAlike_0 : decode cX8_areAlike 0 = .ok (.aload_n 0, 1) := by decide +kernel
theorem dX8_areAlike_1 : decode cX8_areAlike 1 = .ok (.iload_n 1, 1) := by decide +kernel
theorem dX8_areAlike_2 : decode cX8_areAlike 2 = .ok (.invokevirtual 107, 3) := by decide +kernel
theorem dX8_areAlike_5 : decode cX8_areAlike 5 = .ok (.aload_n 0, 1) := by decide +kernel
theorem dX8_areAlike_6 : decode cX8_areAlike 6 = .ok (.invokevirtual 101, 3) := by decide +kernel
theorem dX8_areAlike_9 : decode cX8_areAlike 9 = .ok (.aload_n 0, 1) := by decide +kernel
theorem dX8_areAlike_10 : decode cX8_areAlike 10 = .ok (.invokevirtual 195, 3) := by decide +kernel
theorem dX8_areAlike_13 : decode cX8_areAlike 13 = .ok (.aload_n 0, 1) := by decide +kernel
theorem dX8_areAlike_14 : decode cX8_areAlike 14 = .ok (.iload_n 2, 1) := by decide +kernel
theorem dX8_areAlike_15 : decode cX8_areAlike 15 = .ok (.invokevirtual 107, 3) := by decide +kernel
theorem dX8_areAlike_18 : decode cX8_areAlike 18 = .ok (.aload_n 0, 1) := by decide +kernel
theorem dX8_areAlike_19 : decode cX8_areAlike 19 = .ok (.invokevirtual 101, 3) := by decide +kernel
theorem dX8_areAlike_22 : decode cX8_areAlike 22 = .ok (.aload_n 0, 1) := by decide +kernel
theorem dX8_areAlike_23 : decode cX8_areAlike 23 = .ok (.iload_n 1, 1) := by decide +kernel
theorem dX8_areAlike_24 : decode cX8_areAlike 24 = .ok (.iconst 0, 1) := by decide +kernel
theorem dX8_areAlike_25 : decode cX8_areAlike 25 = .ok (.invokevirtual 51, 3) := by decide +kernel
theorem dX8_areAlike_28 : decode cX8_areAlike 28 = .ok (.aload_n 0, 1) := by decide +kernel
theorem dX8_areAlike_29 : decode cX8_areAlike 29 = .ok (.iload_n 2, 1) := by decide +kernel
theorem dX8_areAlike_30 : decode cX8_areAlike 30 = .ok (.iconst 0, 1) := by decide +kernel
theorem dX8_areAlike_31 : decode cX8_areAlike 31 = .ok (.invokevirtual 51, 3) := by decide +kernel
theorem dX8_areAlike_34 : decode cX8_areAlike 34 = .ok (.if_icmp .ne 14, 3) := by decide +kernel
theorem dX8_areAlike_37 : decode cX8_areAlike 37 = .ok (.aload_n 0, 1) := by decide +kernel
theorem dX8_areAlike_38 : decode cX8_areAlike 38 = .ok (.invokevirtual 198, 3) := by decide +kernel
theorem dX8_areAlike_41 : decode cX8_areAlike 41 = .ok (.ifCond .eq 7, 3) := by decide +kernel
theorem dX8_areAlike_44 : decode cX8_areAlike 44 = .ok (.iconst 1, 1) := by decide +kernel
theorem dX8_areAlike_45 : decode cX8_areAlike 45 = .ok (.goto 4, 3) := by decide +kernel
theorem dX8_areAlike_48 : decode cX8_areAlike 48 = .ok (.iconst 0, 1) := by decide +kernel
theorem dX8_areAlike_49 : decode cX8_areAlike 49 = .ok (.ireturn, 1) := by decide +kernel
theorem dX8_firstAlike_0 : decode cX8_firstAlike 0 = .ok (.iload_n 1, 1) := by decide +kernel
theorem dX8_firstAlike_1 : decode cX8_firstAlike 1 = .ok (.istore_n 2, 1) := by decide +kernel
theorem dX8_firstAlike_2 : decode cX8_firstAlike 2 = .ok (.iload_n 1, 1) := by decide +kernel
theorem dX8_firstAlike_3 : decode cX8_firstAlike 3 = .ok (.iconst 1, 1) := by decide +kernel
theorem dX8_firstAlike_4 : decode cX8_firstAlike 4 = .ok (.isub, 1) := by decide +kernel
theorem dX8_firstAlike_5 : decode cX8_firstAlike 5 = .ok (.istore_n 3, 1) := by decide +kernel
theorem dX8_firstAlike_6 : decode cX8_firstAlike 6 = .ok (.iload_n 3, 1) := by decide +kernel
theorem dX8_firstAlike_7 : decode cX8_firstAlike 7 = .ok (.ifCond .lt 24, 3) := by decide +kernel
theorem dX8_firstAlike_10 : decode cX8_firstAlike 10 = .ok (.aload_n 0, 1) := by decide +kernel
theorem dX8_firstAlike_11 : decode cX8_firstAlike 11 = .ok (.iload_n 3, 1) := by decide +kernel
theorem dX8_firstAlike_12 : decode cX8_firstAlike 12 = .ok (.iload_n 1, 1) := by decide +kernel
theorem dX8_firstAlike_13 : decode cX8_firstAlike 13 = .ok (.invokevirtual 201, 3) := by decide +kernel
theorem dX8_firstAlike_16 : decode cX8_firstAlike 16 = .ok (.ifCond .eq 7, 3) := by decide +kernel
theorem dX8_firstAlike_19 : decode cX8_firstAlike 19 = .ok (.iload_n 3, 1) := by decide +kernel
theorem dX8_firstAlike_20 : decode cX8_firstAlike 20 = .ok (.goto 4, 3) := by decide +kernel
theorem dX8_firstAlike_23 : decode cX8_firstAlike 23 = .ok (.iload_n 2, 1) := by decide +kernel
theorem dX8_firstAlike_24 : decode cX8_firstAlike 24 = .ok (.istore_n 2, 1) := by decide +kernel
theorem dX8_firstAlike_25 : decode cX8_firstAlike 25 = .ok (.iinc 3 (-1), 3) := by decide +kernel
theorem dX8_firstAlike_28 : decode cX8_firstAlike 28 = .ok (.goto (-22), 3) := by decide +kernel
theorem dX8_firstAlike_31 : decode cX8_firstAlike 31 = .ok (.iload_n 2, 1) := by decide +kernel
theorem dX8_firstAlike_32 : decode cX8_firstAlike 32 = .ok (.ireturn, 1) := by decide +kernel
theorem dX8_looseLength_0 : decode cX8_looseLength 0 = .ok (.aload_n 0, 1) := by decide +kernel
theorem dX8_looseLength_1 : decode cX8_looseLength 1 = .ok (.iload_n 1, 1) := by decide +kernel
theorem dX8_looseLength_2 : decode cX8_looseLength 2 = .ok (.invokevirtual 107, 3) := by decide +kernel
theorem dX8_looseLength_5 : decode cX8_looseLength 5 = .ok (.aload_n 0, 1) := by decide +kernel
theorem dX8_looseLength_6 : decode cX8_looseLength 6 = .ok (.invokevirtual 101, 3) := by decide +kernel
theorem dX8_looseLength_9 : decode cX8_looseLength 9 = .ok (.aload_n 0, 1) := by decide +kernel
theorem dX8_looseLength_10 : decode cX8_looseLength 10 = .ok (.getfield 58, 3) := by decide +kernel
theorem dX8_looseLength_13 : decode cX8_looseLength 13 = .ok (.ireturn, 1) := by decide +kernel
theorem dX8_shortLength_0 : decode cX8_shortLength 0 = .ok (.aload_n 0, 1) := by decide +kernel
theorem dX8_shortLength_1 : decode cX8_shortLength 1 = .ok (.iload_n 1, 1) := by decide +kernel
theorem dX8_shortLength_2 : decode cX8_shortLength 2 = .ok (.invokevirtual 107, 3) := by decide +kernel
theorem dX8_shortLength_5 : decode cX8_shortLength 5 = .ok (.aload_n 0, 1) := by decide +kernel
theorem dX8_shortLength_6 : decode cX8_shortLength 6 = .ok (.invokevirtual 205, 3) := by decide +kernel
theorem dX8_shortLength_9 : decode cX8_shortLength 9 = .ok (.aload_n 0, 1) := by decide +kernel
theorem dX8_shortLength_10 : decode cX8_shortLength 10 = .ok (.getfield 58, 3) := by decide +kernel
theorem dX8_shortLength_13 : decode cX8_shortLength 13 = .ok (.ireturn, 1) := by decide +kernel
theorem dX8_tellsLoaf_0 : decode cX8_tellsLoaf 0 = .ok (.aload_n 0, 1) := by decide +kernel
theorem dX8_tellsLoaf_1 : decode cX8_tellsLoaf 1 = .ok (.iload_n 1, 1) := by decide +kernel
theorem dX8_tellsLoaf_2 : decode cX8_tellsLoaf 2 = .ok (.invokevirtual 107, 3) := by decide +kernel
theorem dX8_tellsLoaf_5 : decode cX8_tellsLoaf 5 = .ok (.aload_n 0, 1) := by decide +kernel
theorem dX8_tellsLoaf_6 : decode cX8_tellsLoaf 6 = .ok (.aload_n 0, 1) := by decide +kernel
theorem dX8_tellsLoaf_7 : decode cX8_tellsLoaf 7 = .ok (.getfield 58, 3) := by decide +kernel
theorem dX8_tellsLoaf_10 : decode cX8_tellsLoaf 10 = .ok (.invokevirtual 89, 3) := by decide +kernel
theorem dX8_tellsLoaf_13 : decode cX8_tellsLoaf 13 = .ok (.iload_n 2, 1) := by decide +kernel
theorem dX8_tellsLoaf_14 : decode cX8_tellsLoaf 14 = .ok (.tableswitch 108 0 9 #[54, 54, 61, 69, 69, 74, 74, 80, 86, 103], 54) := by decide +kernel
theorem dX8_tellsLoaf_68 : decode cX8_tellsLoaf 68 = .ok (.aload_n 0, 1) := by decide +kernel
theorem dX8_tellsLoaf_69 : decode cX8_tellsLoaf 69 = .ok (.iload_n 1, 1) := by decide +kernel
theorem dX8_tellsLoaf_70 : decode cX8_tellsLoaf 70 = .ok (.iload_n 2, 1) := by decide +kernel
theorem dX8_tellsLoaf_71 : decode cX8_tellsLoaf 71 = .ok (.invokevirtual 51, 3) := by decide +kernel
theorem dX8_tellsLoaf_74 : decode cX8_tellsLoaf 74 = .ok (.ireturn, 1) := by decide +kernel
theorem dX8_tellsLoaf_75 : decode cX8_tellsLoaf 75 = .ok (.bipush 100, 2) := by decide +kernel
theorem dX8_tellsLoaf_77 : decode cX8_tellsLoaf 77 = .ok (.aload_n 0, 1) := by decide +kernel
theorem dX8_tellsLoaf_78 : decode cX8_tellsLoaf 78 = .ok (.invokevirtual 208, 3) := by decide +kernel
theorem dX8_tellsLoaf_81 : decode cX8_tellsLoaf 81 = .ok (.iadd, 1) := by decide +kernel
theorem dX8_tellsLoaf_82 : decode cX8_tellsLoaf 82 = .ok (.ireturn, 1) := by decide +kernel
theorem dX8_tellsLoaf_83 : decode cX8_tellsLoaf 83 = .ok (.aload_n 0, 1) := by decide +kernel
theorem dX8_tellsLoaf_84 : decode cX8_tellsLoaf 84 = .ok (.invokevirtual 211, 3) := by decide +kernel
theorem dX8_tellsLoaf_87 : decode cX8_tellsLoaf 87 = .ok (.ireturn, 1) := by decide +kernel
theorem dX8_tellsLoaf_88 : decode cX8_tellsLoaf 88 = .ok (.aload_n 0, 1) := by decide +kernel
theorem dX8_tellsLoaf_89 : decode cX8_tellsLoaf 89 = .ok (.iload_n 1, 1) := by decide +kernel
theorem dX8_tellsLoaf_90 : decode cX8_tellsLoaf 90 = .ok (.invokevirtual 214, 3) := by decide +kernel
theorem dX8_tellsLoaf_93 : decode cX8_tellsLoaf 93 = .ok (.ireturn, 1) := by decide +kernel
theorem dX8_tellsLoaf_94 : decode cX8_tellsLoaf 94 = .ok (.aload_n 0, 1) := by decide +kernel
theorem dX8_tellsLoaf_95 : decode cX8_tellsLoaf 95 = .ok (.iload_n 1, 1) := by decide +kernel
theorem dX8_tellsLoaf_96 : decode cX8_tellsLoaf 96 = .ok (.invokevirtual 217, 3) := by decide +kernel
theorem dX8_tellsLoaf_99 : decode cX8_tellsLoaf 99 = .ok (.ireturn, 1) := by decide +kernel
theorem dX8_tellsLoaf_100 : decode cX8_tellsLoaf 100 = .ok (.aload_n 0, 1) := by decide +kernel
theorem dX8_tellsLoaf_101 : decode cX8_tellsLoaf 101 = .ok (.invokevirtual 211, 3) := by decide +kernel
theorem dX8_tellsLoaf_104 : decode cX8_tellsLoaf 104 = .ok (.aload_n 0, 1) := by decide +kernel
theorem dX8_tellsLoaf_105 : decode cX8_tellsLoaf 105 = .ok (.getfield 55, 3) := by decide +kernel
theorem dX8_tellsLoaf_108 : decode cX8_tellsLoaf 108 = .ok (.if_icmp .ne 7, 3) := by decide +kernel
theorem dX8_tellsLoaf_111 : decode cX8_tellsLoaf 111 = .ok (.iconst 1, 1) := by decide +kernel
theorem dX8_tellsLoaf_112 : decode cX8_tellsLoaf 112 = .ok (.goto 4, 3) := by decide +kernel
theorem dX8_tellsLoaf_115 : decode cX8_tellsLoaf 115 = .ok (.iconst 0, 1) := by decide +kernel
theorem dX8_tellsLoaf_116 : decode cX8_tellsLoaf 116 = .ok (.ireturn, 1) := by decide +kernel
theorem dX8_tellsLoaf_117 : decode cX8_tellsLoaf 117 = .ok (.aload_n 0, 1) := by decide +kernel
theorem dX8_tellsLoaf_118 : decode cX8_tellsLoaf 118 = .ok (.invokevirtual 220, 3) := by decide +kernel
theorem dX8_tellsLoaf_121 : decode cX8_tellsLoaf 121 = .ok (.ireturn, 1) := by decide +kernel
theorem dX8_tellsLoaf_122 : decode cX8_tellsLoaf 122 = .ok (.aload_n 0, 1) := by decide +kernel
theorem dX8_tellsLoaf_123 : decode cX8_tellsLoaf 123 = .ok (.iload_n 1, 1) := by decide +kernel
theorem dX8_tellsLoaf_124 : decode cX8_tellsLoaf 124 = .ok (.invokevirtual 223, 3) := by decide +kernel
theorem dX8_tellsLoaf_127 : decode cX8_tellsLoaf 127 = .ok (.ireturn, 1) := by decide +kernel
theorem dX8_loaf_0 : decode cX8_loaf 0 = .ok (.aload_n 0, 1) := by decide +kernel
theorem dX8_loaf_1 : decode cX8_loaf 1 = .ok (.iconst 0, 1) := by decide +kernel
theorem dX8_loaf_2 : decode cX8_loaf 2 = .ok (.putfield 40, 3) := by decide +kernel
theorem dX8_loaf_5 : decode cX8_loaf 5 = .ok (.aload_n 0, 1) := by decide +kernel
theorem dX8_loaf_6 : decode cX8_loaf 6 = .ok (.iload_n 1, 1) := by decide +kernel
theorem dX8_loaf_7 : decode cX8_loaf 7 = .ok (.invokevirtual 104, 3) := by decide +kernel
theorem dX8_loaf_10 : decode cX8_loaf 10 = .ok (.ifCond .ne 9, 3) := by decide +kernel
theorem dX8_loaf_13 : decode cX8_loaf 13 = .ok (.aload_n 0, 1) := by decide +kernel
theorem dX8_loaf_14 : decode cX8_loaf 14 = .ok (.iconst 1, 1) := by decide +kernel
theorem dX8_loaf_15 : decode cX8_loaf 15 = .ok (.invokevirtual 123, 3) := by decide +kernel
theorem dX8_loaf_18 : decode cX8_loaf 18 = .ok (.ireturn, 1) := by decide +kernel
theorem dX8_loaf_19 : decode cX8_loaf 19 = .ok (.iload_n 2, 1) := by decide +kernel
theorem dX8_loaf_20 : decode cX8_loaf 20 = .ok (.iconst 0, 1) := by decide +kernel
theorem dX8_loaf_21 : decode cX8_loaf 21 = .ok (.bipush 10, 2) := by decide +kernel
theorem dX8_loaf_23 : decode cX8_loaf 23 = .ok (.invokestatic 44, 3) := by decide +kernel
theorem dX8_loaf_26 : decode cX8_loaf 26 = .ok (.ifCond .eq 12, 3) := by decide +kernel
theorem dX8_loaf_29 : decode cX8_loaf 29 = .ok (.aload_n 0, 1) := by decide +kernel
theorem dX8_loaf_30 : decode cX8_loaf 30 = .ok (.iload_n 1, 1) := by decide +kernel
theorem dX8_loaf_31 : decode cX8_loaf 31 = .ok (.iload_n 2, 1) := by decide +kernel
theorem dX8_loaf_32 : decode cX8_loaf 32 = .ok (.invokevirtual 226, 3) := by decide +kernel
theorem dX8_loaf_35 : decode cX8_loaf 35 = .ok (.goto 8, 3) := by decide +kernel
theorem dX8_loaf_38 : decode cX8_loaf 38 = .ok (.aload_n 0, 1) := by decide +kernel
theorem dX8_loaf_39 : decode cX8_loaf 39 = .ok (.iconst 2, 1) := by decide +kernel
theorem dX8_loaf_40 : decode cX8_loaf 40 = .ok (.invokevirtual 123, 3) := by decide +kernel
theorem dX8_loaf_43 : decode cX8_loaf 43 = .ok (.ireturn, 1) := by decide +kernel
theorem dX8_tellsLoose_0 : decode cX8_tellsLoose 0 = .ok (.iload_n 2, 1) := by decide +kernel
theorem dX8_tellsLoose_1 : decode cX8_tellsLoose 1 = .ok (.aload_n 0, 1) := by decide +kernel
theorem dX8_tellsLoose_2 : decode cX8_tellsLoose 2 = .ok (.iload_n 1, 1) := by decide +kernel
theorem dX8_tellsLoose_3 : decode cX8_tellsLoose 3 = .ok (.invokevirtual 217, 3) := by decide +kernel
theorem dX8_tellsLoose_6 : decode cX8_tellsLoose 6 = .ok (.if_icmp .ge 12, 3) := by decide +kernel
theorem dX8_tellsLoose_9 : decode cX8_tellsLoose 9 = .ok (.aload_n 0, 1) := by decide +kernel
theorem dX8_tellsLoose_10 : decode cX8_tellsLoose 10 = .ok (.getfield 22, 3) := by decide +kernel
theorem dX8_tellsLoose_13 : decode cX8_tellsLoose 13 = .ok (.iload_n 2, 1) := by decide +kernel
theorem dX8_tellsLoose_14 : decode cX8_tellsLoose 14 = .ok (.iaload, 1) := by decide +kernel
theorem dX8_tellsLoose_15 : decode cX8_tellsLoose 15 = .ok (.goto 4, 3) := by decide +kernel
theorem dX8_tellsLoose_18 : decode cX8_tellsLoose 18 = .ok (.iconst (-1), 1) := by decide +kernel
theorem dX8_tellsLoose_19 : decode cX8_tellsLoose 19 = .ok (.ireturn, 1) := by decide +kernel
theorem dX8_loose_0 : decode cX8_loose 0 = .ok (.aload_n 0, 1) := by decide +kernel
theorem dX8_loose_1 : decode cX8_loose 1 = .ok (.iconst 0, 1) := by decide +kernel
theorem dX8_loose_2 : decode cX8_loose 2 = .ok (.putfield 40, 3) := by decide +kernel
theorem dX8_loose_5 : decode cX8_loose 5 = .ok (.aload_n 0, 1) := by decide +kernel
theorem dX8_loose_6 : decode cX8_loose 6 = .ok (.iload_n 1, 1) := by decide +kernel
theorem dX8_loose_7 : decode cX8_loose 7 = .ok (.invokevirtual 104, 3) := by decide +kernel
theorem dX8_loose_10 : decode cX8_loose 10 = .ok (.ifCond .ne 9, 3) := by decide +kernel
theorem dX8_loose_13 : decode cX8_loose 13 = .ok (.aload_n 0, 1) := by decide +kernel
theorem dX8_loose_14 : decode cX8_loose 14 = .ok (.iconst 1, 1) := by decide +kernel
theorem dX8_loose_15 : decode cX8_loose 15 = .ok (.invokevirtual 123, 3) := by decide +kernel
theorem dX8_loose_18 : decode cX8_loose 18 = .ok (.ireturn, 1) := by decide +kernel
theorem dX8_loose_19 : decode cX8_loose 19 = .ok (.iload_n 2, 1) := by decide +kernel
theorem dX8_loose_20 : decode cX8_loose 20 = .ok (.iconst 0, 1) := by decide +kernel
theorem dX8_loose_21 : decode cX8_loose 21 = .ok (.bipush 23, 2) := by decide +kernel
theorem dX8_loose_23 : decode cX8_loose 23 = .ok (.invokestatic 44, 3) := by decide +kernel
theorem dX8_loose_26 : decode cX8_loose 26 = .ok (.ifCond .eq 12, 3) := by decide +kernel
theorem dX8_loose_29 : decode cX8_loose 29 = .ok (.aload_n 0, 1) := by decide +kernel
theorem dX8_loose_30 : decode cX8_loose 30 = .ok (.iload_n 1, 1) := by decide +kernel
theorem dX8_loose_31 : decode cX8_loose 31 = .ok (.iload_n 2, 1) := by decide +kernel
theorem dX8_loose_32 : decode cX8_loose 32 = .ok (.invokevirtual 229, 3) := by decide +kernel
theorem dX8_loose_35 : decode cX8_loose 35 = .ok (.goto 8, 3) := by decide +kernel
theorem dX8_loose_38 : decode cX8_loose 38 = .ok (.aload_n 0, 1) := by decide +kernel
theorem dX8_loose_39 : decode cX8_loose 39 = .ok (.iconst 2, 1) := by decide +kernel
theorem dX8_loose_40 : decode cX8_loose 40 = .ok (.invokevirtual 123, 3) := by decide +kernel
theorem dX8_loose_43 : decode cX8_loose 43 = .ok (.ireturn, 1) := by decide +kernel
theorem dX8_crossings_0 : decode cX8_crossings 0 = .ok (.iconst 0, 1) := by decide +kernel
theorem dX8_crossings_1 : decode cX8_crossings 1 = .ok (.istore_n 1, 1) := by decide +kernel
theorem dX8_crossings_2 : decode cX8_crossings 2 = .ok (.iconst 0, 1) := by decide +kernel
theorem dX8_crossings_3 : decode cX8_crossings 3 = .ok (.istore_n 2, 1) := by decide +kernel
theorem dX8_crossings_4 : decode cX8_crossings 4 = .ok (.iload_n 2, 1) := by decide +kernel
theorem dX8_crossings_5 : decode cX8_crossings 5 = .ok (.aload_n 0, 1) := by decide +kernel
theorem dX8_crossings_6 : decode cX8_crossings 6 = .ok (.getfield 7, 3) := by decide +kernel
theorem dX8_crossings_9 : decode cX8_crossings 9 = .ok (.iconst 0, 1) := by decide +kernel
theorem dX8_crossings_10 : decode cX8_crossings 10 = .ok (.iaload, 1) := by decide +kernel
theorem dX8_crossings_11 : decode cX8_crossings 11 = .ok (.if_icmp .ge 18, 3) := by decide +kernel
theorem dX8_crossings_14 : decode cX8_crossings 14 = .ok (.iload_n 1, 1) := by decide +kernel
theorem dX8_crossings_15 : decode cX8_crossings 15 = .ok (.aload_n 0, 1) := by decide +kernel
theorem dX8_crossings_16 : decode cX8_crossings 16 = .ok (.iload_n 2, 1) := by decide +kernel
theorem dX8_crossings_17 : decode cX8_crossings 17 = .ok (.iconst 1, 1) := by decide +kernel
theorem dX8_crossings_18 : decode cX8_crossings 18 = .ok (.invokevirtual 51, 3) := by decide +kernel
theorem dX8_crossings_21 : decode cX8_crossings 21 = .ok (.iadd, 1) := by decide +kernel
theorem dX8_crossings_22 : decode cX8_crossings 22 = .ok (.istore_n 1, 1) := by decide +kernel
theorem dX8_crossings_23 : decode cX8_crossings 23 = .ok (.iinc 2 1, 3) := by decide +kernel
theorem dX8_crossings_26 : decode cX8_crossings 26 = .ok (.goto (-22), 3) := by decide +kernel
theorem dX8_crossings_29 : decode cX8_crossings 29 = .ok (.iload_n 1, 1) := by decide +kernel
theorem dX8_crossings_30 : decode cX8_crossings 30 = .ok (.ireturn, 1) := by decide +kernel
theorem dX8_kinds_0 : decode cX8_kinds 0 = .ok (.iconst 0, 1) := by decide +kernel
theorem dX8_kinds_1 : decode cX8_kinds 1 = .ok (.istore_n 1, 1) := by decide +kernel
theorem dX8_kinds_2 : decode cX8_kinds 2 = .ok (.iconst 0, 1) := by decide +kernel
theorem dX8_kinds_3 : decode cX8_kinds 3 = .ok (.istore_n 2, 1) := by decide +kernel
theorem dX8_kinds_4 : decode cX8_kinds 4 = .ok (.iload_n 2, 1) := by decide +kernel
theorem dX8_kinds_5 : decode cX8_kinds 5 = .ok (.aload_n 0, 1) := by decide +kernel
theorem dX8_kinds_6 : decode cX8_kinds 6 = .ok (.getfield 7, 3) := by decide +kernel
theorem dX8_kinds_9 : decode cX8_kinds 9 = .ok (.iconst 0, 1) := by decide +kernel
theorem dX8_kinds_10 : decode cX8_kinds 10 = .ok (.iaload, 1) := by decide +kernel
theorem dX8_kinds_11 : decode cX8_kinds 11 = .ok (.if_icmp .ge 26, 3) := by decide +kernel
theorem dX8_kinds_14 : decode cX8_kinds 14 = .ok (.iload_n 1, 1) := by decide +kernel
theorem dX8_kinds_15 : decode cX8_kinds 15 = .ok (.aload_n 0, 1) := by decide +kernel
theorem dX8_kinds_16 : decode cX8_kinds 16 = .ok (.iload_n 2, 1) := by decide +kernel
theorem dX8_kinds_17 : decode cX8_kinds 17 = .ok (.invokevirtual 223, 3) := by decide +kernel
theorem dX8_kinds_20 : decode cX8_kinds 20 = .ok (.iload_n 2, 1) := by decide +kernel
theorem dX8_kinds_21 : decode cX8_kinds 21 = .ok (.if_icmp .ne 7, 3) := by decide +kernel
theorem dX8_kinds_24 : decode cX8_kinds 24 = .ok (.iconst 1, 1) := by decide +kernel
theorem dX8_kinds_25 : decode cX8_kinds 25 = .ok (.goto 4, 3) := by decide +kernel
theorem dX8_kinds_28 : decode cX8_kinds 28 = .ok (.iconst 0, 1) := by decide +kernel
theorem dX8_kinds_29 : decode cX8_kinds 29 = .ok (.iadd, 1) := by decide +kernel
theorem dX8_kinds_30 : decode cX8_kinds 30 = .ok (.istore_n 1, 1) := by decide +kernel
theorem dX8_kinds_31 : decode cX8_kinds 31 = .ok (.iinc 2 1, 3) := by decide +kernel
theorem dX8_kinds_34 : decode cX8_kinds 34 = .ok (.goto (-30), 3) := by decide +kernel
theorem dX8_kinds_37 : decode cX8_kinds 37 = .ok (.iload_n 1, 1) := by decide +kernel
theorem dX8_kinds_38 : decode cX8_kinds 38 = .ok (.ireturn, 1) := by decide +kernel
theorem dX8_tellsCount_0 : decode cX8_tellsCount 0 = .ok (.iload_n 1, 1) := by decide +kernel
theorem dX8_tellsCount_1 : decode cX8_tellsCount 1 = .ok (.tableswitch 70 0 5 #[39, 46, 51, 51, 58, 63], 39) := by decide +kernel
theorem dX8_tellsCount_40 : decode cX8_tellsCount 40 = .ok (.aload_n 0, 1) := by decide +kernel
theorem dX8_tellsCount_41 : decode cX8_tellsCount 41 = .ok (.getfield 7, 3) := by decide +kernel
theorem dX8_tellsCount_44 : decode cX8_tellsCount 44 = .ok (.iconst 0, 1) := by decide +kernel
theorem dX8_tellsCount_45 : decode cX8_tellsCount 45 = .ok (.iaload, 1) := by decide +kernel
theorem dX8_tellsCount_46 : decode cX8_tellsCount 46 = .ok (.ireturn, 1) := by decide +kernel
theorem dX8_tellsCount_47 : decode cX8_tellsCount 47 = .ok (.aload_n 0, 1) := by decide +kernel
theorem dX8_tellsCount_48 : decode cX8_tellsCount 48 = .ok (.invokevirtual 232, 3) := by decide +kernel
theorem dX8_tellsCount_51 : decode cX8_tellsCount 51 = .ok (.ireturn, 1) := by decide +kernel
theorem dX8_tellsCount_52 : decode cX8_tellsCount 52 = .ok (.iconst 3, 1) := by decide +kernel
theorem dX8_tellsCount_53 : decode cX8_tellsCount 53 = .ok (.aload_n 0, 1) := by decide +kernel
theorem dX8_tellsCount_54 : decode cX8_tellsCount 54 = .ok (.invokevirtual 232, 3) := by decide +kernel
theorem dX8_tellsCount_57 : decode cX8_tellsCount 57 = .ok (.imul, 1) := by decide +kernel
theorem dX8_tellsCount_58 : decode cX8_tellsCount 58 = .ok (.ireturn, 1) := by decide +kernel
theorem dX8_tellsCount_59 : decode cX8_tellsCount 59 = .ok (.aload_n 0, 1) := by decide +kernel
theorem dX8_tellsCount_60 : decode cX8_tellsCount 60 = .ok (.invokevirtual 235, 3) := by decide +kernel
theorem dX8_tellsCount_63 : decode cX8_tellsCount 63 = .ok (.ireturn, 1) := by decide +kernel
theorem dX8_tellsCount_64 : decode cX8_tellsCount 64 = .ok (.aload_n 0, 1) := by decide +kernel
theorem dX8_tellsCount_65 : decode cX8_tellsCount 65 = .ok (.getfield 7, 3) := by decide +kernel
theorem dX8_tellsCount_68 : decode cX8_tellsCount 68 = .ok (.iconst 1, 1) := by decide +kernel
theorem dX8_tellsCount_69 : decode cX8_tellsCount 69 = .ok (.iaload, 1) := by decide +kernel
theorem dX8_tellsCount_70 : decode cX8_tellsCount 70 = .ok (.ireturn, 1) := by decide +kernel
theorem dX8_tellsCount_71 : decode cX8_tellsCount 71 = .ok (.aload_n 0, 1) := by decide +kernel
theorem dX8_tellsCount_72 : decode cX8_tellsCount 72 = .ok (.getfield 48, 3) := by decide +kernel
theorem dX8_tellsCount_75 : decode cX8_tellsCount 75 = .ok (.ireturn, 1) := by decide +kernel
theorem dX8_count_0 : decode cX8_count 0 = .ok (.aload_n 0, 1) := by decide +kernel
theorem dX8_count_1 : decode cX8_count 1 = .ok (.iconst 0, 1) := by decide +kernel
theorem dX8_count_2 : decode cX8_count 2 = .ok (.putfield 40, 3) := by decide +kernel
theorem dX8_count_5 : decode cX8_count 5 = .ok (.iload_n 1, 1) := by decide +kernel
theorem dX8_count_6 : decode cX8_count 6 = .ok (.iconst 0, 1) := by decide +kernel
theorem dX8_count_7 : decode cX8_count 7 = .ok (.bipush 6, 2) := by decide +kernel
theorem dX8_count_9 : decode cX8_count 9 = .ok (.invokestatic 44, 3) := by decide +kernel
theorem dX8_count_12 : decode cX8_count 12 = .ok (.ifCond .eq 11, 3) := by decide +kernel
theorem dX8_count_15 : decode cX8_count 15 = .ok (.aload_n 0, 1) := by decide +kernel
theorem dX8_count_16 : decode cX8_count 16 = .ok (.iload_n 1, 1) := by decide +kernel
theorem dX8_count_17 : decode cX8_count 17 = .ok (.invokevirtual 238, 3) := by decide +kernel
theorem dX8_count_20 : decode cX8_count 20 = .ok (.goto 8, 3) := by decide +kernel
theorem dX8_count_23 : decode cX8_count 23 = .ok (.aload_n 0, 1) := by decide +kernel
theorem dX8_count_24 : decode cX8_count 24 = .ok (.iconst 1, 1) := by decide +kernel
theorem dX8_count_25 : decode cX8_count 25 = .ok (.invokevirtual 123, 3) := by decide +kernel
theorem dX8_count_28 : decode cX8_count 28 = .ok (.ireturn, 1) := by decide +kernel
theorem dX8_whyNot_0 : decode cX8_whyNot 0 = .ok (.aload_n 0, 1) := by decide +kernel
theorem dX8_whyNot_1 : decode cX8_whyNot 1 = .ok (.iconst 0, 1) := by decide +kernel
theorem dX8_whyNot_2 : decode cX8_whyNot 2 = .ok (.putfield 40, 3) := by decide +kernel
theorem dX8_whyNot_5 : decode cX8_whyNot 5 = .ok (.aload_n 0, 1) := by decide +kernel
theorem dX8_whyNot_6 : decode cX8_whyNot 6 = .ok (.iload_n 1, 1) := by decide +kernel
theorem dX8_whyNot_7 : decode cX8_whyNot 7 = .ok (.iload_n 2, 1) := by decide +kernel
theorem dX8_whyNot_8 : decode cX8_whyNot 8 = .ok (.iload_n 3, 1) := by decide +kernel
theorem dX8_whyNot_9 : decode cX8_whyNot 9 = .ok (.ifCond .eq 7, 3) := by decide +kernel
theorem dX8_whyNot_12 : decode cX8_whyNot 12 = .ok (.iconst 1, 1) := by decide +kernel
theorem dX8_whyNot_13 : decode cX8_whyNot 13 = .ok (.goto 4, 3) := by decide +kernel
theorem dX8_whyNot_16 : decode cX8_whyNot 16 = .ok (.iconst 0, 1) := by decide +kernel
theorem dX8_whyNot_17 : decode cX8_whyNot 17 = .ok (.invokevirtual 136, 3) := by decide +kernel
theorem dX8_whyNot_20 : decode cX8_whyNot 20 = .ok (.istore 4, 2) := by decide +kernel
theorem dX8_whyNot_22 : decode cX8_whyNot 22 = .ok (.iload 4, 2) := by decide +kernel
theorem dX8_whyNot_24 : decode cX8_whyNot 24 = .ok (.iconst 3, 1) := by decide +kernel
theorem dX8_whyNot_25 : decode cX8_whyNot 25 = .ok (.if_icmp .ge 8, 3) := by decide +kernel
theorem dX8_whyNot_28 : decode cX8_whyNot 28 = .ok (.iload 4, 2) := by decide +kernel
theorem dX8_whyNot_30 : decode cX8_whyNot 30 = .ok (.goto 8, 3) := by decide +kernel
theorem dX8_whyNot_33 : decode cX8_whyNot 33 = .ok (.aload_n 0, 1) := by decide +kernel
theorem dX8_whyNot_34 : decode cX8_whyNot 34 = .ok (.iconst 1, 1) := by decide +kernel
theorem dX8_whyNot_35 : decode cX8_whyNot 35 = .ok (.invokevirtual 123, 3) := by decide +kernel
theorem dX8_whyNot_38 : decode cX8_whyNot 38 = .ok (.ireturn, 1) := by decide +kernel
theorem dX8_looseBehind_0 : decode cX8_looseBehind 0 = .ok (.aload_n 0, 1) := by decide +kernel
theorem dX8_looseBehind_1 : decode cX8_looseBehind 1 = .ok (.iload_n 1, 1) := by decide +kernel
theorem dX8_looseBehind_2 : decode cX8_looseBehind 2 = .ok (.invokevirtual 107, 3) := by decide +kernel
theorem dX8_looseBehind_5 : decode cX8_looseBehind 5 = .ok (.aload_n 0, 1) := by decide +kernel
theorem dX8_looseBehind_6 : decode cX8_looseBehind 6 = .ok (.iload_n 2, 1) := by decide +kernel
theorem dX8_looseBehind_7 : decode cX8_looseBehind 7 = .ok (.invokevirtual 113, 3) := by decide +kernel
theorem dX8_looseBehind_10 : decode cX8_looseBehind 10 = .ok (.aload_n 0, 1) := by decide +kernel
theorem dX8_looseBehind_11 : decode cX8_looseBehind 11 = .ok (.invokevirtual 101, 3) := by decide +kernel
theorem dX8_looseBehind_14 : decode cX8_looseBehind 14 = .ok (.aload_n 0, 1) := by decide +kernel
theorem dX8_looseBehind_15 : decode cX8_looseBehind 15 = .ok (.getfield 58, 3) := by decide +kernel
theorem dX8_looseBehind_18 : decode cX8_looseBehind 18 = .ok (.ireturn, 1) := by decide +kernel
theorem dX8_ifChanged_0 : decode cX8_ifChanged 0 = .ok (.aload_n 0, 1) := by decide +kernel
theorem dX8_ifChanged_1 : decode cX8_ifChanged 1 = .ok (.iconst 0, 1) := by decide +kernel
theorem dX8_ifChanged_2 : decode cX8_ifChanged 2 = .ok (.putfield 40, 3) := by decide +kernel
theorem dX8_ifChanged_5 : decode cX8_ifChanged 5 = .ok (.aload_n 0, 1) := by decide +kernel
theorem dX8_ifChanged_6 : decode cX8_ifChanged 6 = .ok (.iload_n 1, 1) := by decide +kernel
theorem dX8_ifChanged_7 : decode cX8_ifChanged 7 = .ok (.invokevirtual 104, 3) := by decide +kernel
theorem dX8_ifChanged_10 : decode cX8_ifChanged 10 = .ok (.ifCond .ne 9, 3) := by decide +kernel
theorem dX8_ifChanged_13 : decode cX8_ifChanged 13 = .ok (.aload_n 0, 1) := by decide +kernel
theorem dX8_ifChanged_14 : decode cX8_ifChanged 14 = .ok (.iconst 1, 1) := by decide +kernel
theorem dX8_ifChanged_15 : decode cX8_ifChanged 15 = .ok (.invokevirtual 123, 3) := by decide +kernel
theorem dX8_ifChanged_18 : decode cX8_ifChanged 18 = .ok (.ireturn, 1) := by decide +kernel
theorem dX8_ifChanged_19 : decode cX8_ifChanged 19 = .ok (.iload_n 2, 1) := by decide +kernel
theorem dX8_ifChanged_20 : decode cX8_ifChanged 20 = .ok (.iconst 0, 1) := by decide +kernel
theorem dX8_ifChanged_21 : decode cX8_ifChanged 21 = .ok (.iconst 3, 1) := by decide +kernel
theorem dX8_ifChanged_22 : decode cX8_ifChanged 22 = .ok (.invokestatic 44, 3) := by decide +kernel
theorem dX8_ifChanged_25 : decode cX8_ifChanged 25 = .ok (.ifCond .eq 12, 3) := by decide +kernel
theorem dX8_ifChanged_28 : decode cX8_ifChanged 28 = .ok (.aload_n 0, 1) := by decide +kernel
theorem dX8_ifChanged_29 : decode cX8_ifChanged 29 = .ok (.iload_n 1, 1) := by decide +kernel
theorem dX8_ifChanged_30 : decode cX8_ifChanged 30 = .ok (.iload_n 2, 1) := by decide +kernel
theorem dX8_ifChanged_31 : decode cX8_ifChanged 31 = .ok (.invokevirtual 241, 3) := by decide +kernel
theorem dX8_ifChanged_34 : decode cX8_ifChanged 34 = .ok (.goto 8, 3) := by decide +kernel
theorem dX8_ifChanged_37 : decode cX8_ifChanged 37 = .ok (.aload_n 0, 1) := by decide +kernel
theorem dX8_ifChanged_38 : decode cX8_ifChanged 38 = .ok (.iconst 2, 1) := by decide +kernel
theorem dX8_ifChanged_39 : decode cX8_ifChanged 39 = .ok (.invokevirtual 123, 3) := by decide +kernel
theorem dX8_ifChanged_42 : decode cX8_ifChanged 42 = .ok (.ireturn, 1) := by decide +kernel
theorem dX8_likeness_0 : decode cX8_likeness 0 = .ok (.aload_n 0, 1) := by decide +kernel
theorem dX8_likeness_1 : decode cX8_likeness 1 = .ok (.iload_n 1, 1) := by decide +kernel
theorem dX8_likeness_2 : decode cX8_likeness 2 = .ok (.iconst 0, 1) := by decide +kernel
theorem dX8_likeness_3 : decode cX8_likeness 3 = .ok (.invokevirtual 51, 3) := by decide +kernel
theorem dX8_likeness_6 : decode cX8_likeness 6 = .ok (.aload_n 0, 1) := by decide +kernel
theorem dX8_likeness_7 : decode cX8_likeness 7 = .ok (.iload_n 2, 1) := by decide +kernel
theorem dX8_likeness_8 : decode cX8_likeness 8 = .ok (.iconst 0, 1) := by decide +kernel
theorem dX8_likeness_9 : decode cX8_likeness 9 = .ok (.invokevirtual 51, 3) := by decide +kernel
theorem dX8_likeness_12 : decode cX8_likeness 12 = .ok (.if_icmp .eq 5, 3) := by decide +kernel
theorem dX8_likeness_15 : decode cX8_likeness 15 = .ok (.iconst 0, 1) := by decide +kernel
theorem dX8_likeness_16 : decode cX8_likeness 16 = .ok (.ireturn, 1) := by decide +kernel
theorem dX8_likeness_17 : decode cX8_likeness 17 = .ok (.aload_n 0, 1) := by decide +kernel
theorem dX8_likeness_18 : decode cX8_likeness 18 = .ok (.iload_n 2, 1) := by decide +kernel
theorem dX8_likeness_19 : decode cX8_likeness 19 = .ok (.invokevirtual 217, 3) := by decide +kernel
theorem dX8_likeness_22 : decode cX8_likeness 22 = .ok (.pop, 1) := by decide +kernel
theorem dX8_likeness_23 : decode cX8_likeness 23 = .ok (.aload_n 0, 1) := by decide +kernel
theorem dX8_likeness_24 : decode cX8_likeness 24 = .ok (.invokevirtual 195, 3) := by decide +kernel
theorem dX8_likeness_27 : decode cX8_likeness 27 = .ok (.iconst 0, 1) := by decide +kernel
theorem dX8_likeness_28 : decode cX8_likeness 28 = .ok (.istore_n 3, 1) := by decide +kernel
theorem dX8_likeness_29 : decode cX8_likeness 29 = .ok (.iload_n 3, 1) := by decide +kernel
theorem dX8_likeness_30 : decode cX8_likeness 30 = .ok (.iconst 4, 1) := by decide +kernel
theorem dX8_likeness_31 : decode cX8_likeness 31 = .ok (.if_icmp .ge 36, 3) := by decide +kernel
theorem dX8_likeness_34 : decode cX8_likeness 34 = .ok (.aload_n 0, 1) := by decide +kernel
theorem dX8_likeness_35 : decode cX8_likeness 35 = .ok (.iload_n 1, 1) := by decide +kernel
theorem dX8_likeness_36 : decode cX8_likeness 36 = .ok (.invokevirtual 107, 3) := by decide +kernel
theorem dX8_likeness_39 : decode cX8_likeness 39 = .ok (.aload_n 0, 1) := by decide +kernel
theorem dX8_likeness_40 : decode cX8_likeness 40 = .ok (.iload_n 3, 1) := by decide +kernel
theorem dX8_likeness_41 : decode cX8_likeness 41 = .ok (.iconst 1, 1) := by decide +kernel
theorem dX8_likeness_42 : decode cX8_likeness 42 = .ok (.isub, 1) := by decide +kernel
theorem dX8_likeness_43 : decode cX8_likeness 43 = .ok (.invokevirtual 113, 3) := by decide +kernel
theorem dX8_likeness_46 : decode cX8_likeness 46 = .ok (.aload_n 0, 1) := by decide +kernel
theorem dX8_likeness_47 : decode cX8_likeness 47 = .ok (.invokevirtual 101, 3) := by decide +kernel
theorem dX8_likeness_50 : decode cX8_likeness 50 = .ok (.aload_n 0, 1) := by decide +kernel
theorem dX8_likeness_51 : decode cX8_likeness 51 = .ok (.invokevirtual 198, 3) := by decide +kernel
theorem dX8_likeness_54 : decode cX8_likeness 54 = .ok (.ifCond .eq 7, 3) := by decide +kernel
theorem dX8_likeness_57 : decode cX8_likeness 57 = .ok (.iload_n 3, 1) := by decide +kernel
theorem dX8_likeness_58 : decode cX8_likeness 58 = .ok (.iconst 1, 1) := by decide +kernel
theorem dX8_likeness_59 : decode cX8_likeness 59 = .ok (.iadd, 1) := by decide +kernel
theorem dX8_likeness_60 : decode cX8_likeness 60 = .ok (.ireturn, 1) := by decide +kernel
theorem dX8_likeness_61 : decode cX8_likeness 61 = .ok (.iinc 3 1, 3) := by decide +kernel
theorem dX8_likeness_64 : decode cX8_likeness 64 = .ok (.goto (-35), 3) := by decide +kernel
theorem dX8_likeness_67 : decode cX8_likeness 67 = .ok (.iconst 0, 1) := by decide +kernel
theorem dX8_likeness_68 : decode cX8_likeness 68 = .ok (.ireturn, 1) := by decide +kernel
theorem dX8_alike_0 : decode cX8_alike 0 = .ok (.aload_n 0, 1) := by decide +kernel
theorem dX8_alike_1 : decode cX8_alike 1 = .ok (.iconst 0, 1) := by decide +kernel
theorem dX8_alike_2 : decode cX8_alike 2 = .ok (.putfield 40, 3) := by decide +kernel
theorem dX8_alike_5 : decode cX8_alike 5 = .ok (.aload_n 0, 1) := by decide +kernel
theorem dX8_alike_6 : decode cX8_alike 6 = .ok (.iload_n 1, 1) := by decide +kernel
theorem dX8_alike_7 : decode cX8_alike 7 = .ok (.invokevirtual 104, 3) := by decide +kernel
theorem dX8_alike_10 : decode cX8_alike 10 = .ok (.ifCond .eq 20, 3) := by decide +kernel
theorem dX8_alike_13 : decode cX8_alike 13 = .ok (.aload_n 0, 1) := by decide +kernel
theorem dX8_alike_14 : decode cX8_alike 14 = .ok (.iload_n 2, 1) := by decide +kernel
theorem dX8_alike_15 : decode cX8_alike 15 = .ok (.invokevirtual 104, 3) := by decide +kernel
theorem dX8_alike_18 : decode cX8_alike 18 = .ok (.ifCond .eq 12, 3) := by decide +kernel
theorem dX8_alike_21 : decode cX8_alike 21 = .ok (.aload_n 0, 1) := by decide +kernel
theorem dX8_alike_22 : decode cX8_alike 22 = .ok (.iload_n 1, 1) := by decide +kernel
theorem dX8_alike_23 : decode cX8_alike 23 = .ok (.iload_n 2, 1) := by decide +kernel
theorem dX8_alike_24 : decode cX8_alike 24 = .ok (.invokevirtual 244, 3) := by decide +kernel
theorem dX8_alike_27 : decode cX8_alike 27 = .ok (.goto 8, 3) := by decide +kernel
theorem dX8_alike_30 : decode cX8_alike 30 = .ok (.aload_n 0, 1) := by decide +kernel
theorem dX8_alike_31 : decode cX8_alike 31 = .ok (.iconst 1, 1) := by decide +kernel
theorem dX8_alike_32 : decode cX8_alike 32 = .ok (.invokevirtual 123, 3) := by decide +kernel
theorem dX8_alike_35 : decode cX8_alike 35 = .ok (.ireturn, 1) := by decide +kernel
theorem dX8_common_0 : decode cX8_common 0 = .ok (.iload_n 0, 1) := by decide +kernel
theorem dX8_common_1 : decode cX8_common 1 = .ok (.istore_n 2, 1) := by decide +kernel
theorem dX8_common_2 : decode cX8_common 2 = .ok (.iload_n 1, 1) := by decide +kernel
theorem dX8_common_3 : decode cX8_common 3 = .ok (.istore_n 3, 1) := by decide +kernel
theorem dX8_common_4 : decode cX8_common 4 = .ok (.iload_n 3, 1) := by decide +kernel
theorem dX8_common_5 : decode cX8_common 5 = .ok (.ifCond .eq 16, 3) := by decide +kernel
theorem dX8_common_8 : decode cX8_common 8 = .ok (.iload_n 2, 1) := by decide +kernel
theorem dX8_common_9 : decode cX8_common 9 = .ok (.iload_n 3, 1) := by decide +kernel
theorem dX8_common_10 : decode cX8_common 10 = .ok (.irem, 1) := by decide +kernel
theorem dX8_common_11 : decode cX8_common 11 = .ok (.istore 4, 2) := by decide +kernel
theorem dX8_common_13 : decode cX8_common 13 = .ok (.iload_n 3, 1) := by decide +kernel
theorem dX8_common_14 : decode cX8_common 14 = .ok (.istore_n 2, 1) := by decide +kernel
theorem dX8_common_15 : decode cX8_common 15 = .ok (.iload 4, 2) := by decide +kernel
theorem dX8_common_17 : decode cX8_common 17 = .ok (.istore_n 3, 1) := by decide +kernel
theorem dX8_common_18 : decode cX8_common 18 = .ok (.goto (-14), 3) := by decide +kernel
theorem dX8_common_21 : decode cX8_common 21 = .ok (.iload_n 0, 1) := by decide +kernel
theorem dX8_common_22 : decode cX8_common 22 = .ok (.iload_n 2, 1) := by decide +kernel
theorem dX8_common_23 : decode cX8_common 23 = .ok (.idiv, 1) := by decide +kernel
theorem dX8_common_24 : decode cX8_common 24 = .ok (.iload_n 1, 1) := by decide +kernel
theorem dX8_common_25 : decode cX8_common 25 = .ok (.imul, 1) := by decide +kernel
theorem dX8_common_26 : decode cX8_common 26 = .ok (.ireturn, 1) := by decide +kernel
theorem dX8_periodOf_0 : decode cX8_periodOf 0 = .ok (.aload_n 0, 1) := by decide +kernel
theorem dX8_periodOf_1 : decode cX8_periodOf 1 = .ok (.iload_n 1, 1) := by decide +kernel
theorem dX8_periodOf_2 : decode cX8_periodOf 2 = .ok (.invokevirtual 107, 3) := by decide +kernel
theorem dX8_periodOf_5 : decode cX8_periodOf 5 = .ok (.aload_n 0, 1) := by decide +kernel
theorem dX8_periodOf_6 : decode cX8_periodOf 6 = .ok (.aload_n 0, 1) := by decide +kernel
theorem dX8_periodOf_7 : decode cX8_periodOf 7 = .ok (.getfield 58, 3) := by decide +kernel
theorem dX8_periodOf_10 : decode cX8_periodOf 10 = .ok (.invokevirtual 89, 3) := by decide +kernel
theorem dX8_periodOf_13 : decode cX8_periodOf 13 = .ok (.iconst 1, 1) := by decide +kernel
theorem dX8_periodOf_14 : decode cX8_periodOf 14 = .ok (.istore_n 2, 1) := by decide +kernel
theorem dX8_periodOf_15 : decode cX8_periodOf 15 = .ok (.iconst 0, 1) := by decide +kernel
theorem dX8_periodOf_16 : decode cX8_periodOf 16 = .ok (.istore_n 3, 1) := by decide +kernel
theorem dX8_periodOf_17 : decode cX8_periodOf 17 = .ok (.iload_n 3, 1) := by decide +kernel
theorem dX8_periodOf_18 : decode cX8_periodOf 18 = .ok (.aload_n 0, 1) := by decide +kernel
theorem dX8_periodOf_19 : decode cX8_periodOf 19 = .ok (.getfield 55, 3) := by decide +kernel
theorem dX8_periodOf_22 : decode cX8_periodOf 22 = .ok (.if_icmp .ge 48, 3) := by decide +kernel
theorem dX8_periodOf_25 : decode cX8_periodOf 25 = .ok (.iconst 1, 1) := by decide +kernel
theorem dX8_periodOf_26 : decode cX8_periodOf 26 = .ok (.istore 4, 2) := by decide +kernel
theorem dX8_periodOf_28 : decode cX8_periodOf 28 = .ok (.aload_n 0, 1) := by decide +kernel
theorem dX8_periodOf_29 : decode cX8_periodOf 29 = .ok (.getfield 25, 3) := by decide +kernel
theorem dX8_periodOf_32 : decode cX8_periodOf 32 = .ok (.iload_n 3, 1) := by decide +kernel
theorem dX8_periodOf_33 : decode cX8_periodOf 33 = .ok (.iaload, 1) := by decide +kernel
theorem dX8_periodOf_34 : decode cX8_periodOf 34 = .ok (.istore 5, 2) := by decide +kernel
theorem dX8_periodOf_36 : decode cX8_periodOf 36 = .ok (.iload 5, 2) := by decide +kernel
theorem dX8_periodOf_38 : decode cX8_periodOf 38 = .ok (.iload_n 3, 1) := by decide +kernel
theorem dX8_periodOf_39 : decode cX8_periodOf 39 = .ok (.if_icmp .eq 18, 3) := by decide +kernel
theorem dX8_periodOf_42 : decode cX8_periodOf 42 = .ok (.iinc 4 1, 3) := by decide +kernel
theorem dX8_periodOf_45 : decode cX8_periodOf 45 = .ok (.aload_n 0, 1) := by decide +kernel
theorem dX8_periodOf_46 : decode cX8_periodOf 46 = .ok (.getfield 25, 3) := by decide +kernel
theorem dX8_periodOf_49 : decode cX8_periodOf 49 = .ok (.iload 5, 2) := by decide +kernel
theorem dX8_periodOf_51 : decode cX8_periodOf 51 = .ok (.iaload, 1) := by decide +kernel
theorem dX8_periodOf_52 : decode cX8_periodOf 52 = .ok (.istore 5, 2) := by decide +kernel
theorem dX8_periodOf_54 : decode cX8_periodOf 54 = .ok (.goto (-18), 3) := by decide +kernel
theorem dX8_periodOf_57 : decode cX8_periodOf 57 = .ok (.iload_n 2, 1) := by decide +kernel
theorem dX8_periodOf_58 : decode cX8_periodOf 58 = .ok (.iload 4, 2) := by decide +kernel
theorem dX8_periodOf_60 : decode cX8_periodOf 60 = .ok (.invokestatic 247, 3) := by decide +kernel
theorem dX8_periodOf_63 : decode cX8_periodOf 63 = .ok (.istore_n 2, 1) := by decide +kernel
theorem dX8_periodOf_64 : decode cX8_periodOf 64 = .ok (.iinc 3 1, 3) := by decide +kernel
theorem dX8_periodOf_67 : decode cX8_periodOf 67 = .ok (.goto (-50), 3) := by decide +kernel
theorem dX8_periodOf_70 : decode cX8_periodOf 70 = .ok (.iload_n 2, 1) := by decide +kernel
theorem dX8_periodOf_71 : decode cX8_periodOf 71 = .ok (.ireturn, 1) := by decide +kernel
theorem dX8_period_0 : decode cX8_period 0 = .ok (.aload_n 0, 1) := by decide +kernel
theorem dX8_period_1 : decode cX8_period 1 = .ok (.iconst 0, 1) := by decide +kernel
theorem dX8_period_2 : decode cX8_period 2 = .ok (.putfield 40, 3) := by decide +kernel
theorem dX8_period_5 : decode cX8_period 5 = .ok (.aload_n 0, 1) := by decide +kernel
theorem dX8_period_6 : decode cX8_period 6 = .ok (.iload_n 1, 1) := by decide +kernel
theorem dX8_period_7 : decode cX8_period 7 = .ok (.invokevirtual 104, 3) := by decide +kernel
theorem dX8_period_10 : decode cX8_period 10 = .ok (.ifCond .eq 11, 3) := by decide +kernel
theorem dX8_period_13 : decode cX8_period 13 = .ok (.aload_n 0, 1) := by decide +kernel
theorem dX8_period_14 : decode cX8_period 14 = .ok (.iload_n 1, 1) := by decide +kernel
theorem dX8_period_15 : decode cX8_period 15 = .ok (.invokevirtual 250, 3) := by decide +kernel
theorem dX8_period_18 : decode cX8_period 18 = .ok (.goto 8, 3) := by decide +kernel
theorem dX8_period_21 : decode cX8_period 21 = .ok (.aload_n 0, 1) := by decide +kernel
theorem dX8_period_22 : decode cX8_period 22 = .ok (.iconst 1, 1) := by decide +kernel
theorem dX8_period_23 : decode cX8_period 23 = .ok (.invokevirtual 123, 3) := by decide +kernel
theorem dX8_period_26 : decode cX8_period 26 = .ok (.ireturn, 1) := by decide +kernel
theorem dX8_looseShare_0 : decode cX8_looseShare 0 = .ok (.aload_n 0, 1) := by decide +kernel
theorem dX8_looseShare_1 : decode cX8_looseShare 1 = .ok (.iconst 0, 1) := by decide +kernel
theorem dX8_looseShare_2 : decode cX8_looseShare 2 = .ok (.putfield 40, 3) := by decide +kernel
theorem dX8_looseShare_5 : decode cX8_looseShare 5 = .ok (.aload_n 0, 1) := by decide +kernel
theorem dX8_looseShare_6 : decode cX8_looseShare 6 = .ok (.invokevirtual 253, 3) := by decide +kernel
theorem dX8_looseShare_9 : decode cX8_looseShare 9 = .ok (.dreturn, 1) := by decide +kernel
theorem dX8_share_0 : decode cX8_share 0 = .ok (.iconst 0, 1) := by decide +kernel
theorem dX8_share_1 : decode cX8_share 1 = .ok (.istore_n 1, 1) := by decide +kernel
theorem dX8_share_2 : decode cX8_share 2 = .ok (.iconst 0, 1) := by decide +kernel
theorem dX8_share_3 : decode cX8_share 3 = .ok (.istore_n 2, 1) := by decide +kernel
theorem dX8_share_4 : decode cX8_share 4 = .ok (.iload_n 2, 1) := by decide +kernel
theorem dX8_share_5 : decode cX8_share 5 = .ok (.aload_n 0, 1) := by decide +kernel
theorem dX8_share_6 : decode cX8_share 6 = .ok (.getfield 7, 3) := by decide +kernel
theorem dX8_share_9 : decode cX8_share 9 = .ok (.iconst 0, 1) := by decide +kernel
theorem dX8_share_10 : decode cX8_share 10 = .ok (.iaload, 1) := by decide +kernel
theorem dX8_share_11 : decode cX8_share 11 = .ok (.if_icmp .ge 17, 3) := by decide +kernel
theorem dX8_share_14 : decode cX8_share 14 = .ok (.iload_n 1, 1) := by decide +kernel
theorem dX8_share_15 : decode cX8_share 15 = .ok (.aload_n 0, 1) := by decide +kernel
theorem dX8_share_16 : decode cX8_share 16 = .ok (.iload_n 2, 1) := by decide +kernel
theorem dX8_share_17 : decode cX8_share 17 = .ok (.invokevirtual 217, 3) := by decide +kernel
theorem dX8_share_20 : decode cX8_share 20 = .ok (.iadd, 1) := by decide +kernel
theorem dX8_share_21 : decode cX8_share 21 = .ok (.istore_n 1, 1) := by decide +kernel
theorem dX8_share_22 : decode cX8_share 22 = .ok (.iinc 2 1, 3) := by decide +kernel
theorem dX8_share_25 : decode cX8_share 25 = .ok (.goto (-21), 3) := by decide +kernel
theorem dX8_share_28 : decode cX8_share 28 = .ok (.aload_n 0, 1) := by decide +kernel
theorem dX8_share_29 : decode cX8_share 29 = .ok (.invokevirtual 232, 3) := by decide +kernel
theorem dX8_share_32 : decode cX8_share 32 = .ok (.ifCond .ne 7, 3) := by decide +kernel
theorem dX8_share_35 : decode cX8_share 35 = .ok (.dconst 1, 1) := by decide +kernel
theorem dX8_share_36 : decode cX8_share 36 = .ok (.goto 11, 3) := by decide +kernel
theorem dX8_share_39 : decode cX8_share 39 = .ok (.iload_n 1, 1) := by decide +kernel
theorem dX8_share_40 : decode cX8_share 40 = .ok (.i2d, 1) := by decide +kernel
theorem dX8_share_41 : decode cX8_share 41 = .ok (.aload_n 0, 1) := by decide +kernel
theorem dX8_share_42 : decode cX8_share 42 = .ok (.invokevirtual 232, 3) := by decide +kernel
theorem dX8_share_45 : decode cX8_share 45 = .ok (.i2d, 1) := by decide +kernel
theorem dX8_share_46 : decode cX8_share 46 = .ok (.ddiv, 1) := by decide +kernel
theorem dX8_share_47 : decode cX8_share 47 = .ok (.dreturn, 1) := by decide +kernel
theorem dX8_digestLoaf_0 : decode cX8_digestLoaf 0 = .ok (.lload_n 1, 1) := by decide +kernel
theorem dX8_digestLoaf_1 : decode cX8_digestLoaf 1 = .ok (.lstore 4, 2) := by decide +kernel
theorem dX8_digestLoaf_3 : decode cX8_digestLoaf 3 = .ok (.iconst 0, 1) := by decide +kernel
theorem dX8_digestLoaf_4 : decode cX8_digestLoaf 4 = .ok (.istore 6, 2) := by decide +kernel
theorem dX8_digestLoaf_6 : decode cX8_digestLoaf 6 = .ok (.iload 6, 2) := by decide +kernel
theorem dX8_digestLoaf_8 : decode cX8_digestLoaf 8 = .ok (.bipush 11, 2) := by decide +kernel
theorem dX8_digestLoaf_10 : decode cX8_digestLoaf 10 = .ok (.if_icmp .ge 26, 3) := by decide +kernel
theorem dX8_digestLoaf_13 : decode cX8_digestLoaf 13 = .ok (.ldc2_w 257, 3) := by decide +kernel
theorem dX8_digestLoaf_16 : decode cX8_digestLoaf 16 = .ok (.lload 4, 2) := by decide +kernel
theorem dX8_digestLoaf_18 : decode cX8_digestLoaf 18 = .ok (.lmul, 1) := by decide +kernel
theorem dX8_digestLoaf_19 : decode cX8_digestLoaf 19 = .ok (.aload_n 0, 1) := by decide +kernel
theorem dX8_digestLoaf_20 : decode cX8_digestLoaf 20 = .ok (.iload_n 3, 1) := by decide +kernel
theorem dX8_digestLoaf_21 : decode cX8_digestLoaf 21 = .ok (.iload 6, 2) := by decide +kernel
theorem dX8_digestLoaf_23 : decode cX8_digestLoaf 23 = .ok (.invokevirtual 226, 3) := by decide +kernel
theorem dX8_digestLoaf_26 : decode cX8_digestLoaf 26 = .ok (.i2l, 1) := by decide +kernel
theorem dX8_digestLoaf_27 : decode cX8_digestLoaf 27 = .ok (.ladd, 1) := by decide +kernel
theorem dX8_digestLoaf_28 : decode cX8_digestLoaf 28 = .ok (.lstore 4, 2) := by decide +kernel
theorem dX8_digestLoaf_30 : decode cX8_digestLoaf 30 = .ok (.iinc 6 1, 3) := by decide +kernel
theorem dX8_digestLoaf_33 : decode cX8_digestLoaf 33 = .ok (.goto (-27), 3) := by decide +kernel
theorem dX8_digestLoaf_36 : decode cX8_digestLoaf 36 = .ok (.ldc2_w 257, 3) := by decide +kernel
theorem dX8_digestLoaf_39 : decode cX8_digestLoaf 39 = .ok (.lload 4, 2) := by decide +kernel
theorem dX8_digestLoaf_41 : decode cX8_digestLoaf 41 = .ok (.lmul, 1) := by decide +kernel
theorem dX8_digestLoaf_42 : decode cX8_digestLoaf 42 = .ok (.aload_n 0, 1) := by decide +kernel
theorem dX8_digestLoaf_43 : decode cX8_digestLoaf 43 = .ok (.iload_n 3, 1) := by decide +kernel
theorem dX8_digestLoaf_44 : decode cX8_digestLoaf 44 = .ok (.invokevirtual 250, 3) := by decide +kernel
theorem dX8_digestLoaf_47 : decode cX8_digestLoaf 47 = .ok (.i2l, 1) := by decide +kernel
theorem dX8_digestLoaf_48 : decode cX8_digestLoaf 48 = .ok (.ladd, 1) := by decide +kernel
theorem dX8_digestLoaf_49 : decode cX8_digestLoaf 49 = .ok (.lstore 4, 2) := by decide +kernel
theorem dX8_digestLoaf_51 : decode cX8_digestLoaf 51 = .ok (.iconst 0, 1) := by decide +kernel
theorem dX8_digestLoaf_52 : decode cX8_digestLoaf 52 = .ok (.istore 6, 2) := by decide +kernel
theorem dX8_digestLoaf_54 : decode cX8_digestLoaf 54 = .ok (.iload 6, 2) := by decide +kernel
theorem dX8_digestLoaf_56 : decode cX8_digestLoaf 56 = .ok (.iconst 4, 1) := by decide +kernel
theorem dX8_digestLoaf_57 : decode cX8_digestLoaf 57 = .ok (.if_icmp .ge 26, 3) := by decide +kernel
theorem dX8_digestLoaf_60 : decode cX8_digestLoaf 60 = .ok (.ldc2_w 257, 3) := by decide +kernel
theorem dX8_digestLoaf_63 : decode cX8_digestLoaf 63 = .ok (.lload 4, 2) := by decide +kernel
theorem dX8_digestLoaf_65 : decode cX8_digestLoaf 65 = .ok (.lmul, 1) := by decide +kernel
theorem dX8_digestLoaf_66 : decode cX8_digestLoaf 66 = .ok (.aload_n 0, 1) := by decide +kernel
theorem dX8_digestLoaf_67 : decode cX8_digestLoaf 67 = .ok (.iload_n 3, 1) := by decide +kernel
theorem dX8_digestLoaf_68 : decode cX8_digestLoaf 68 = .ok (.iload 6, 2) := by decide +kernel
theorem dX8_digestLoaf_70 : decode cX8_digestLoaf 70 = .ok (.invokevirtual 241, 3) := by decide +kernel
theorem dX8_digestLoaf_73 : decode cX8_digestLoaf 73 = .ok (.i2l, 1) := by decide +kernel
theorem dX8_digestLoaf_74 : decode cX8_digestLoaf 74 = .ok (.ladd, 1) := by decide +kernel
theorem dX8_digestLoaf_75 : decode cX8_digestLoaf 75 = .ok (.lstore 4, 2) := by decide +kernel
theorem dX8_digestLoaf_77 : decode cX8_digestLoaf 77 = .ok (.iinc 6 1, 3) := by decide +kernel
theorem dX8_digestLoaf_80 : decode cX8_digestLoaf 80 = .ok (.goto (-26), 3) := by decide +kernel
theorem dX8_digestLoaf_83 : decode cX8_digestLoaf 83 = .ok (.iconst 0, 1) := by decide +kernel
theorem dX8_digestLoaf_84 : decode cX8_digestLoaf 84 = .ok (.istore 6, 2) := by decide +kernel
theorem dX8_digestLoaf_86 : decode cX8_digestLoaf 86 = .ok (.iload 6, 2) := by decide +kernel
theorem dX8_digestLoaf_88 : decode cX8_digestLoaf 88 = .ok (.aload_n 0, 1) := by decide +kernel
theorem dX8_digestLoaf_89 : decode cX8_digestLoaf 89 = .ok (.iload_n 3, 1) := by decide +kernel
theorem dX8_digestLoaf_90 : decode cX8_digestLoaf 90 = .ok (.iconst 1, 1) := by decide +kernel
theorem dX8_digestLoaf_91 : decode cX8_digestLoaf 91 = .ok (.invokevirtual 51, 3) := by decide +kernel
theorem dX8_digestLoaf_94 : decode cX8_digestLoaf 94 = .ok (.if_icmp .ge 43, 3) := by decide +kernel
theorem dX8_digestLoaf_97 : decode cX8_digestLoaf 97 = .ok (.iconst 0, 1) := by decide +kernel
theorem dX8_digestLoaf_98 : decode cX8_digestLoaf 98 = .ok (.istore 7, 2) := by decide +kernel
theorem dX8_digestLoaf_100 : decode cX8_digestLoaf 100 = .ok (.iload 7, 2) := by decide +kernel
theorem dX8_digestLoaf_102 : decode cX8_digestLoaf 102 = .ok (.iconst 4, 1) := by decide +kernel
theorem dX8_digestLoaf_103 : decode cX8_digestLoaf 103 = .ok (.if_icmp .ge 28, 3) := by decide +kernel
theorem dX8_digestLoaf_106 : decode cX8_digestLoaf 106 = .ok (.ldc2_w 257, 3) := by decide +kernel
theorem dX8_digestLoaf_109 : decode cX8_digestLoaf 109 = .ok (.lload 4, 2) := by decide +kernel
theorem dX8_digestLoaf_111 : decode cX8_digestLoaf 111 = .ok (.lmul, 1) := by decide +kernel
theorem dX8_digestLoaf_112 : decode cX8_digestLoaf 112 = .ok (.aload_n 0, 1) := by decide +kernel
theorem dX8_digestLoaf_113 : decode cX8_digestLoaf 113 = .ok (.iload_n 3, 1) := by decide +kernel
theorem dX8_digestLoaf_114 : decode cX8_digestLoaf 114 = .ok (.iload 6, 2) := by decide +kernel
theorem dX8_digestLoaf_116 : decode cX8_digestLoaf 116 = .ok (.iload 7, 2) := by decide +kernel
theorem dX8_digestLoaf_118 : decode cX8_digestLoaf 118 = .ok (.invokevirtual 186, 3) := by decide +kernel
theorem dX8_digestLoaf_121 : decode cX8_digestLoaf 121 = .ok (.i2l, 1) := by decide +kernel
theorem dX8_digestLoaf_122 : decode cX8_digestLoaf 122 = .ok (.ladd, 1) := by decide +kernel
theorem dX8_digestLoaf_123 : decode cX8_digestLoaf 123 = .ok (.lstore 4, 2) := by decide +kernel
theorem dX8_digestLoaf_125 : decode cX8_digestLoaf 125 = .ok (.iinc 7 1, 3) := by decide +kernel
theorem dX8_digestLoaf_128 : decode cX8_digestLoaf 128 = .ok (.goto (-28), 3) := by decide +kernel
theorem dX8_digestLoaf_131 : decode cX8_digestLoaf 131 = .ok (.iinc 6 1, 3) := by decide +kernel
theorem dX8_digestLoaf_134 : decode cX8_digestLoaf 134 = .ok (.goto (-48), 3) := by decide +kernel
theorem dX8_digestLoaf_137 : decode cX8_digestLoaf 137 = .ok (.aload_n 0, 1) := by decide +kernel
theorem dX8_digestLoaf_138 : decode cX8_digestLoaf 138 = .ok (.iload_n 3, 1) := by decide +kernel
theorem dX8_digestLoaf_139 : decode cX8_digestLoaf 139 = .ok (.invokevirtual 217, 3) := by decide +kernel
theorem dX8_digestLoaf_142 : decode cX8_digestLoaf 142 = .ok (.istore 6, 2) := by decide +kernel
theorem dX8_digestLoaf_144 : decode cX8_digestLoaf 144 = .ok (.iconst 0, 1) := by decide +kernel
theorem dX8_digestLoaf_145 : decode cX8_digestLoaf 145 = .ok (.istore 7, 2) := by decide +kernel
theorem dX8_digestLoaf_147 : decode cX8_digestLoaf 147 = .ok (.iload 7, 2) := by decide +kernel
theorem dX8_digestLoaf_149 : decode cX8_digestLoaf 149 = .ok (.iload 6, 2) := by decide +kernel
theorem dX8_digestLoaf_151 : decode cX8_digestLoaf 151 = .ok (.if_icmp .ge 26, 3) := by decide +kernel
theorem dX8_digestLoaf_154 : decode cX8_digestLoaf 154 = .ok (.ldc2_w 257, 3) := by decide +kernel
theorem dX8_digestLoaf_157 : decode cX8_digestLoaf 157 = .ok (.lload 4, 2) := by decide +kernel
theorem dX8_digestLoaf_159 : decode cX8_digestLoaf 159 = .ok (.lmul, 1) := by decide +kernel
theorem dX8_digestLoaf_160 : decode cX8_digestLoaf 160 = .ok (.aload_n 0, 1) := by decide +kernel
theorem dX8_digestLoaf_161 : decode cX8_digestLoaf 161 = .ok (.getfield 22, 3) := by decide +kernel
theorem dX8_digestLoaf_164 : decode cX8_digestLoaf 164 = .ok (.iload 7, 2) := by decide +kernel
theorem dX8_digestLoaf_166 : decode cX8_digestLoaf 166 = .ok (.iaload, 1) := by decide +kernel
theorem dX8_digestLoaf_167 : decode cX8_digestLoaf 167 = .ok (.i2l, 1) := by decide +kernel
theorem dX8_digestLoaf_168 : decode cX8_digestLoaf 168 = .ok (.ladd, 1) := by decide +kernel
theorem dX8_digestLoaf_169 : decode cX8_digestLoaf 169 = .ok (.lstore 4, 2) := by decide +kernel
theorem dX8_digestLoaf_171 : decode cX8_digestLoaf 171 = .ok (.iinc 7 1, 3) := by decide +kernel
theorem dX8_digestLoaf_174 : decode cX8_digestLoaf 174 = .ok (.goto (-27), 3) := by decide +kernel
theorem dX8_digestLoaf_177 : decode cX8_digestLoaf 177 = .ok (.iconst 0, 1) := by decide +kernel
theorem dX8_digestLoaf_178 : decode cX8_digestLoaf 178 = .ok (.istore 7, 2) := by decide +kernel
theorem dX8_digestLoaf_180 : decode cX8_digestLoaf 180 = .ok (.iload 7, 2) := by decide +kernel
theorem dX8_digestLoaf_182 : decode cX8_digestLoaf 182 = .ok (.aload_n 0, 1) := by decide +kernel
theorem dX8_digestLoaf_183 : decode cX8_digestLoaf 183 = .ok (.iload_n 3, 1) := by decide +kernel
theorem dX8_digestLoaf_184 : decode cX8_digestLoaf 184 = .ok (.iconst 0, 1) := by decide +kernel
theorem dX8_digestLoaf_185 : decode cX8_digestLoaf 185 = .ok (.invokevirtual 51, 3) := by decide +kernel
theorem dX8_digestLoaf_188 : decode cX8_digestLoaf 188 = .ok (.if_icmp .ge 43, 3) := by decide +kernel
theorem dX8_digestLoaf_191 : decode cX8_digestLoaf 191 = .ok (.iconst 0, 1) := by decide +kernel
theorem dX8_digestLoaf_192 : decode cX8_digestLoaf 192 = .ok (.istore 8, 2) := by decide +kernel
theorem dX8_digestLoaf_194 : decode cX8_digestLoaf 194 = .ok (.iload 8, 2) := by decide +kernel
theorem dX8_digestLoaf_196 : decode cX8_digestLoaf 196 = .ok (.iconst 5, 1) := by decide +kernel
theorem dX8_digestLoaf_197 : decode cX8_digestLoaf 197 = .ok (.if_icmp .ge 28, 3) := by decide +kernel
theorem dX8_digestLoaf_200 : decode cX8_digestLoaf 200 = .ok (.ldc2_w 257, 3) := by decide +kernel
theorem dX8_digestLoaf_203 : decode cX8_digestLoaf 203 = .ok (.lload 4, 2) := by decide +kernel
theorem dX8_digestLoaf_205 : decode cX8_digestLoaf 205 = .ok (.lmul, 1) := by decide +kernel
theorem dX8_digestLoaf_206 : decode cX8_digestLoaf 206 = .ok (.aload_n 0, 1) := by decide +kernel
theorem dX8_digestLoaf_207 : decode cX8_digestLoaf 207 = .ok (.iload_n 3, 1) := by decide +kernel
theorem dX8_digestLoaf_208 : decode cX8_digestLoaf 208 = .ok (.iload 7, 2) := by decide +kernel
theorem dX8_digestLoaf_210 : decode cX8_digestLoaf 210 = .ok (.iload 8, 2) := by decide +kernel
theorem dX8_digestLoaf_212 : decode cX8_digestLoaf 212 = .ok (.invokevirtual 192, 3) := by decide +kernel
theorem dX8_digestLoaf_215 : decode cX8_digestLoaf 215 = .ok (.i2l, 1) := by decide +kernel
theorem dX8_digestLoaf_216 : decode cX8_digestLoaf 216 = .ok (.ladd, 1) := by decide +kernel
theorem dX8_digestLoaf_217 : decode cX8_digestLoaf 217 = .ok (.lstore 4, 2) := by decide +kernel
theorem dX8_digestLoaf_219 : decode cX8_digestLoaf 219 = .ok (.iinc 8 1, 3) := by decide +kernel
theorem dX8_digestLoaf_222 : decode cX8_digestLoaf 222 = .ok (.goto (-28), 3) := by decide +kernel
theorem dX8_digestLoaf_225 : decode cX8_digestLoaf 225 = .ok (.iinc 7 1, 3) := by decide +kernel
theorem dX8_digestLoaf_228 : decode cX8_digestLoaf 228 = .ok (.goto (-48), 3) := by decide +kernel
theorem dX8_digestLoaf_231 : decode cX8_digestLoaf 231 = .ok (.iconst 0, 1) := by decide +kernel
theorem dX8_digestLoaf_232 : decode cX8_digestLoaf 232 = .ok (.istore 7, 2) := by decide +kernel
theorem dX8_digestLoaf_234 : decode cX8_digestLoaf 234 = .ok (.iload 7, 2) := by decide +kernel
theorem dX8_digestLoaf_236 : decode cX8_digestLoaf 236 = .ok (.aload_n 0, 1) := by decide +kernel
theorem dX8_digestLoaf_237 : decode cX8_digestLoaf 237 = .ok (.getfield 7, 3) := by decide +kernel
theorem dX8_digestLoaf_240 : decode cX8_digestLoaf 240 = .ok (.iconst 0, 1) := by decide +kernel
theorem dX8_digestLoaf_241 : decode cX8_digestLoaf 241 = .ok (.iaload, 1) := by decide +kernel
theorem dX8_digestLoaf_242 : decode cX8_digestLoaf 242 = .ok (.if_icmp .ge 26, 3) := by decide +kernel
theorem dX8_digestLoaf_245 : decode cX8_digestLoaf 245 = .ok (.ldc2_w 257, 3) := by decide +kernel
theorem dX8_digestLoaf_248 : decode cX8_digestLoaf 248 = .ok (.lload 4, 2) := by decide +kernel
theorem dX8_digestLoaf_250 : decode cX8_digestLoaf 250 = .ok (.lmul, 1) := by decide +kernel
theorem dX8_digestLoaf_251 : decode cX8_digestLoaf 251 = .ok (.aload_n 0, 1) := by decide +kernel
theorem dX8_digestLoaf_252 : decode cX8_digestLoaf 252 = .ok (.iload_n 3, 1) := by decide +kernel
theorem dX8_digestLoaf_253 : decode cX8_digestLoaf 253 = .ok (.iload 7, 2) := by decide +kernel
theorem dX8_digestLoaf_255 : decode cX8_digestLoaf 255 = .ok (.invokevirtual 244, 3) := by decide +kernel
theorem dX8_digestLoaf_258 : decode cX8_digestLoaf 258 = .ok (.i2l, 1) := by decide +kernel
theorem dX8_digestLoaf_259 : decode cX8_digestLoaf 259 = .ok (.ladd, 1) := by decide +kernel
theorem dX8_digestLoaf_260 : decode cX8_digestLoaf 260 = .ok (.lstore 4, 2) := by decide +kernel
theorem dX8_digestLoaf_262 : decode cX8_digestLoaf 262 = .ok (.iinc 7 1, 3) := by decide +kernel
theorem dX8_digestLoaf_265 : decode cX8_digestLoaf 265 = .ok (.goto (-31), 3) := by decide +kernel
theorem dX8_digestLoaf_268 : decode cX8_digestLoaf 268 = .ok (.lload 4, 2) := by decide +kernel
theorem dX8_digestLoaf_270 : decode cX8_digestLoaf 270 = .ok (.lreturn, 1) := by decide +kernel
theorem dX8_digest_0 : decode cX8_digest 0 = .ok (.aload_n 0, 1) := by decide +kernel
theorem dX8_digest_1 : decode cX8_digest 1 = .ok (.iconst 0, 1) := by decide +kernel
theorem dX8_digest_2 : decode cX8_digest 2 = .ok (.putfield 40, 3) := by decide +kernel
theorem dX8_digest_5 : decode cX8_digest 5 = .ok (.ldc2_w 259, 3) := by decide +kernel
theorem dX8_digest_8 : decode cX8_digest 8 = .ok (.lstore_n 1, 1) := by decide +kernel
theorem dX8_digest_9 : decode cX8_digest 9 = .ok (.iconst 0, 1) := by decide +kernel
theorem dX8_digest_10 : decode cX8_digest 10 = .ok (.istore_n 3, 1) := by decide +kernel
theorem dX8_digest_11 : decode cX8_digest 11 = .ok (.iload_n 3, 1) := by decide +kernel
theorem dX8_digest_12 : decode cX8_digest 12 = .ok (.bipush 7, 2) := by decide +kernel
theorem dX8_digest_14 : decode cX8_digest 14 = .ok (.if_icmp .ge 22, 3) := by decide +kernel
theorem dX8_digest_17 : decode cX8_digest 17 = .ok (.ldc2_w 257, 3) := by decide +kernel
theorem dX8_digest_20 : decode cX8_digest 20 = .ok (.lload_n 1, 1) := by decide +kernel
theorem dX8_digest_21 : decode cX8_digest 21 = .ok (.lmul, 1) := by decide +kernel
theorem dX8_digest_22 : decode cX8_digest 22 = .ok (.aload_n 0, 1) := by decide +kernel
theorem dX8_digest_23 : decode cX8_digest 23 = .ok (.iload_n 3, 1) := by decide +kernel
theorem dX8_digest_24 : decode cX8_digest 24 = .ok (.invokevirtual 238, 3) := by decide +kernel
theorem dX8_digest_27 : decode cX8_digest 27 = .ok (.i2l, 1) := by decide +kernel
theorem dX8_digest_28 : decode cX8_digest 28 = .ok (.ladd, 1) := by decide +kernel
theorem dX8_digest_29 : decode cX8_digest 29 = .ok (.lstore_n 1, 1) := by decide +kernel
theorem dX8_digest_30 : decode cX8_digest 30 = .ok (.iinc 3 1, 3) := by decide +kernel
theorem dX8_digest_33 : decode cX8_digest 33 = .ok (.goto (-22), 3) := by decide +kernel
theorem dX8_digest_36 : decode cX8_digest 36 = .ok (.iconst 0, 1) := by decide +kernel
theorem dX8_digest_37 : decode cX8_digest 37 = .ok (.istore_n 3, 1) := by decide +kernel
theorem dX8_digest_38 : decode cX8_digest 38 = .ok (.iload_n 3, 1) := by decide +kernel
theorem dX8_digest_39 : decode cX8_digest 39 = .ok (.aload_n 0, 1) := by decide +kernel
theorem dX8_digest_40 : decode cX8_digest 40 = .ok (.getfield 7, 3) := by decide +kernel
theorem dX8_digest_43 : decode cX8_digest 43 = .ok (.iconst 0, 1) := by decide +kernel
theorem dX8_digest_44 : decode cX8_digest 44 = .ok (.iaload, 1) := by decide +kernel
theorem dX8_digest_45 : decode cX8_digest 45 = .ok (.if_icmp .ge 16, 3) := by decide +kernel
theorem dX8_digest_48 : decode cX8_digest 48 = .ok (.aload_n 0, 1) := by decide +kernel
theorem dX8_digest_49 : decode cX8_digest 49 = .ok (.lload_n 1, 1) := by decide +kernel
theorem dX8_digest_50 : decode cX8_digest 50 = .ok (.iload_n 3, 1) := by decide +kernel
theorem dX8_digest_51 : decode cX8_digest 51 = .ok (.invokevirtual 261, 3) := by decide +kernel
theorem dX8_digest_54 : decode cX8_digest 54 = .ok (.lstore_n 1, 1) := by decide +kernel
theorem dX8_digest_55 : decode cX8_digest 55 = .ok (.iinc 3 1, 3) := by decide +kernel
theorem dX8_digest_58 : decode cX8_digest 58 = .ok (.goto (-20), 3) := by decide +kernel
theorem dX8_digest_61 : decode cX8_digest 61 = .ok (.ldc2_w 257, 3) := by decide +kernel
theorem dX8_digest_64 : decode cX8_digest 64 = .ok (.ldc2_w 257, 3) := by decide +kernel
theorem dX8_digest_67 : decode cX8_digest 67 = .ok (.lload_n 1, 1) := by decide +kernel
theorem dX8_digest_68 : decode cX8_digest 68 = .ok (.lmul, 1) := by decide +kernel
theorem dX8_digest_69 : decode cX8_digest 69 = .ok (.aload_n 0, 1) := by decide +kernel
theorem dX8_digest_70 : decode cX8_digest 70 = .ok (.getfield 7, 3) := by decide +kernel
theorem dX8_digest_73 : decode cX8_digest 73 = .ok (.iconst 2, 1) := by decide +kernel
theorem dX8_digest_74 : decode cX8_digest 74 = .ok (.iaload, 1) := by decide +kernel
theorem dX8_digest_75 : decode cX8_digest 75 = .ok (.i2l, 1) := by decide +kernel
theorem dX8_digest_76 : decode cX8_digest 76 = .ok (.ladd, 1) := by decide +kernel
theorem dX8_digest_77 : decode cX8_digest 77 = .ok (.lmul, 1) := by decide +kernel
theorem dX8_digest_78 : decode cX8_digest 78 = .ok (.aload_n 0, 1) := by decide +kernel
theorem dX8_digest_79 : decode cX8_digest 79 = .ok (.getfield 7, 3) := by decide +kernel
theorem dX8_digest_82 : decode cX8_digest 82 = .ok (.iconst 3, 1) := by decide +kernel
theorem dX8_digest_83 : decode cX8_digest 83 = .ok (.iaload, 1) := by decide +kernel
theorem dX8_digest_84 : decode cX8_digest 84 = .ok (.i2l, 1) := by decide +kernel
theorem dX8_digest_85 : decode cX8_digest 85 = .ok (.ladd, 1) := by decide +kernel
theorem dX8_digest_86 : decode cX8_digest 86 = .ok (.lstore_n 1, 1) := by decide +kernel
theorem dX8_digest_87 : decode cX8_digest 87 = .ok (.ldc2_w 257, 3) := by decide +kernel
theorem dX8_digest_90 : decode cX8_digest 90 = .ok (.lload_n 1, 1) := by decide +kernel
theorem dX8_digest_91 : decode cX8_digest 91 = .ok (.lmul, 1) := by decide +kernel
theorem dX8_digest_92 : decode cX8_digest 92 = .ok (.aload_n 0, 1) := by decide +kernel
theorem dX8_digest_93 : decode cX8_digest 93 = .ok (.invokevirtual 253, 3) := by decide +kernel
theorem dX8_digest_96 : decode cX8_digest 96 = .ok (.invokestatic 265, 3) := by decide +kernel
theorem dX8_digest_99 : decode cX8_digest 99 = .ok (.ladd, 1) := by decide +kernel
theorem dX8_digest_100 : decode cX8_digest 100 = .ok (.lstore_n 1, 1) := by decide +kernel
theorem dX8_digest_101 : decode cX8_digest 101 = .ok (.ldc2_w 257, 3) := by decide +kernel
theorem dX8_digest_104 : decode cX8_digest 104 = .ok (.lload_n 1, 1) := by decide +kernel
theorem dX8_digest_105 : decode cX8_digest 105 = .ok (.lmul, 1) := by decide +kernel
theorem dX8_digest_106 : decode cX8_digest 106 = .ok (.aload_n 0, 1) := by decide +kernel
theorem dX8_digest_107 : decode cX8_digest 107 = .ok (.getfield 133, 3) := by decide +kernel
theorem dX8_digest_110 : decode cX8_digest 110 = .ok (.i2l, 1) := by decide +kernel
theorem dX8_digest_111 : decode cX8_digest 111 = .ok (.ladd, 1) := by decide +kernel
theorem dX8_digest_112 : decode cX8_digest 112 = .ok (.lstore_n 1, 1) := by decide +kernel
theorem dX8_digest_113 : decode cX8_digest 113 = .ok (.iconst 0, 1) := by decide +kernel
theorem dX8_digest_114 : decode cX8_digest 114 = .ok (.istore_n 3, 1) := by decide +kernel
theorem dX8_digest_115 : decode cX8_digest 115 = .ok (.iload_n 3, 1) := by decide +kernel
theorem dX8_digest_116 : decode cX8_digest 116 = .ok (.aload_n 0, 1) := by decide +kernel
theorem dX8_digest_117 : decode cX8_digest 117 = .ok (.getfield 133, 3) := by decide +kernel
theorem dX8_digest_120 : decode cX8_digest 120 = .ok (.if_icmp .ge 23, 3) := by decide +kernel
theorem dX8_digest_123 : decode cX8_digest 123 = .ok (.ldc2_w 257, 3) := by decide +kernel
theorem dX8_digest_126 : decode cX8_digest 126 = .ok (.lload_n 1, 1) := by decide +kernel
theorem dX8_digest_127 : decode cX8_digest 127 = .ok (.lmul, 1) := by decide +kernel
theorem dX8_digest_128 : decode cX8_digest 128 = .ok (.aload_n 0, 1) := by decide +kernel
theorem dX8_digest_129 : decode cX8_digest 129 = .ok (.getfield 19, 3) := by decide +kernel
theorem dX8_digest_132 : decode cX8_digest 132 = .ok (.iload_n 3, 1) := by decide +kernel
theorem dX8_digest_133 : decode cX8_digest 133 = .ok (.iaload, 1) := by decide +kernel
theorem dX8_digest_134 : decode cX8_digest 134 = .ok (.i2l, 1) := by decide +kernel
theorem dX8_digest_135 : decode cX8_digest 135 = .ok (.ladd, 1) := by decide +kernel
theorem dX8_digest_136 : decode cX8_digest 136 = .ok (.lstore_n 1, 1) := by decide +kernel
theorem dX8_digest_137 : decode cX8_digest 137 = .ok (.iinc 3 1, 3) := by decide +kernel
theorem dX8_digest_140 : decode cX8_digest 140 = .ok (.goto (-25), 3) := by decide +kernel
theorem dX8_digest_143 : decode cX8_digest 143 = .ok (.lload_n 1, 1) := by decide +kernel
theorem dX8_digest_144 : decode cX8_digest 144 = .ok (.lreturn, 1) := by decide +kernel
theorem dJxe99ae_isNaN_b9ae7_0 : decode cJxe99ae_isNaN_b9ae7 0 = .ok (.dload_n 0, 1) := by decide +kernel
theorem dJxe99ae_isNaN_b9ae7_1 : decode cJxe99ae_isNaN_b9ae7 1 = .ok (.dload_n 0, 1) := by decide +kernel
theorem dJxe99ae_isNaN_b9ae7_2 : decode cJxe99ae_isNaN_b9ae7 2 = .ok (.dcmp .l, 1) := by decide +kernel
theorem dJxe99ae_isNaN_b9ae7_3 : decode cJxe99ae_isNaN_b9ae7 3 = .ok (.ifCond .eq 7, 3) := by decide +kernel
theorem dJxe99ae_isNaN_b9ae7_6 : decode cJxe99ae_isNaN_b9ae7 6 = .ok (.iconst 1, 1) := by decide +kernel
theorem dJxe99ae_isNaN_b9ae7_7 : decode cJxe99ae_isNaN_b9ae7 7 = .ok (.goto 4, 3) := by decide +kernel
theorem dJxe99ae_isNaN_b9ae7_10 : decode cJxe99ae_isNaN_b9ae7 10 = .ok (.iconst 0, 1) := by decide +kernel
theorem dJxe99ae_isNaN_b9ae7_11 : decode cJxe99ae_isNaN_b9ae7 11 = .ok (.ireturn, 1) := by decide +kernel
theorem dJxe99ae_doubleToLongBits_ccdee_0 : decode cJxe99ae_doubleToLongBits_ccdee 0 = .ok (.dload_n 0, 1) := by decide +kernel
theorem dJxe99ae_doubleToLongBits_ccdee_1 : decode cJxe99ae_doubleToLongBits_ccdee 1 = .ok (.invokestatic 122, 3) := by decide +kernel
theorem dJxe99ae_doubleToLongBits_ccdee_4 : decode cJxe99ae_doubleToLongBits_ccdee 4 = .ok (.ifCond .ne 8, 3) := by decide +kernel
theorem dJxe99ae_doubleToLongBits_ccdee_7 : decode cJxe99ae_doubleToLongBits_ccdee 7 = .ok (.dload_n 0, 1) := by decide +kernel
theorem dJxe99ae_doubleToLongBits_ccdee_8 : decode cJxe99ae_doubleToLongBits_ccdee 8 = .ok (.invokestatic 134, 3) := by decide +kernel
theorem dJxe99ae_doubleToLongBits_ccdee_11 : decode cJxe99ae_doubleToLongBits_ccdee 11 = .ok (.lreturn, 1) := by decide +kernel
theorem dJxe99ae_doubleToLongBits_ccdee_12 : decode cJxe99ae_doubleToLongBits_ccdee 12 = .ok (.ldc2_w 137, 3) := by decide +kernel
theorem dJxe99ae_doubleToLongBits_ccdee_15 : decode cJxe99ae_doubleToLongBits_ccdee 15 = .ok (.lreturn, 1) := by decide +kernel
theorem dJ9_floorMod_7cf53_0 : decode cJ9_floorMod_7cf53 0 = .ok (.iload_n 0, 1) := by decide +kernel
theorem dJ9_floorMod_7cf53_1 : decode cJ9_floorMod_7cf53 1 = .ok (.iload_n 1, 1) := by decide +kernel
theorem dJ9_floorMod_7cf53_2 : decode cJ9_floorMod_7cf53 2 = .ok (.irem, 1) := by decide +kernel
theorem dJ9_floorMod_7cf53_3 : decode cJ9_floorMod_7cf53 3 = .ok (.istore_n 2, 1) := by decide +kernel
theorem dJ9_floorMod_7cf53_4 : decode cJ9_floorMod_7cf53 4 = .ok (.iload_n 0, 1) := by decide +kernel
theorem dJ9_floorMod_7cf53_5 : decode cJ9_floorMod_7cf53 5 = .ok (.iload_n 1, 1) := by decide +kernel
theorem dJ9_floorMod_7cf53_6 : decode cJ9_floorMod_7cf53 6 = .ok (.ixor, 1) := by decide +kernel
theorem dJ9_floorMod_7cf53_7 : decode cJ9_floorMod_7cf53 7 = .ok (.ifCond .ge 11, 3) := by decide +kernel
theorem dJ9_floorMod_7cf53_10 : decode cJ9_floorMod_7cf53 10 = .ok (.iload_n 2, 1) := by decide +kernel
theorem dJ9_floorMod_7cf53_11 : decode cJ9_floorMod_7cf53 11 = .ok (.ifCond .eq 7, 3) := by decide +kernel
theorem dJ9_floorMod_7cf53_14 : decode cJ9_floorMod_7cf53 14 = .ok (.iload_n 2, 1) := by decide +kernel
theorem dJ9_floorMod_7cf53_15 : decode cJ9_floorMod_7cf53 15 = .ok (.iload_n 1, 1) := by decide +kernel
theorem dJ9_floorMod_7cf53_16 : decode cJ9_floorMod_7cf53 16 = .ok (.iadd, 1) := by decide +kernel
theorem dJ9_floorMod_7cf53_17 : decode cJ9_floorMod_7cf53 17 = .ok (.ireturn, 1) := by decide +kernel
theorem dJ9_floorMod_7cf53_18 : decode cJ9_floorMod_7cf53 18 = .ok (.iload_n 2, 1) := by decide +kernel
theorem dJ9_floorMod_7cf53_19 : decode cJ9_floorMod_7cf53 19 = .ok (.ireturn, 1) := by decide +kernel
theorem dJ9_min_7cf53_0 : decode cJ9_min_7cf53 0 = .ok (.iload_n 0, 1) := by decide +kernel
theorem dJ9_min_7cf53_1 : decode cJ9_min_7cf53 1 = .ok (.iload_n 1, 1) := by decide +kernel
theorem dJ9_min_7cf53_2 : decode cJ9_min_7cf53 2 = .ok (.if_icmp .gt 7, 3) := by decide +kernel
theorem dJ9_min_7cf53_5 : decode cJ9_min_7cf53 5 = .ok (.iload_n 0, 1) := by decide +kernel
theorem dJ9_min_7cf53_6 : decode cJ9_min_7cf53 6 = .ok (.goto 4, 3) := by decide +kernel
theorem dJ9_min_7cf53_9 : decode cJ9_min_7cf53 9 = .ok (.iload_n 1, 1) := by decide +kernel
theorem dJ9_min_7cf53_10 : decode cJ9_min_7cf53 10 = .ok (.ireturn, 1) := by decide +kernel
theorem dL_lay_0 : decode cL_lay 0 = .ok (.aload_n 1, 1) := by decide +kernel
theorem dL_lay_1 : decode cL_lay 1 = .ok (.iconst 0, 1) := by decide +kernel
theorem dL_lay_2 : decode cL_lay 2 = .ok (.aload_n 0, 1) := by decide +kernel
theorem dL_lay_3 : decode cL_lay 3 = .ok (.invokevirtual 7, 3) := by decide +kernel
theorem dL_lay_6 : decode cL_lay 6 = .ok (.i2l, 1) := by decide +kernel
theorem dL_lay_7 : decode cL_lay 7 = .ok (.lastore, 1) := by decide +kernel
theorem dL_lay_8 : decode cL_lay 8 = .ok (.goto 9, 3) := by decide +kernel
theorem dL_lay_11 : decode cL_lay 11 = .ok (.astore_n 2, 1) := by decide +kernel
theorem dL_lay_12 : decode cL_lay 12 = .ok (.iconst 1, 1) := by decide +kernel
theorem dL_lay_13 : decode cL_lay 13 = .ok (.ireturn, 1) := by decide +kernel
theorem dL_lay_14 : decode cL_lay 14 = .ok (.astore_n 2, 1) := by decide +kernel
theorem dL_lay_15 : decode cL_lay 15 = .ok (.iconst 2, 1) := by decide +kernel
theorem dL_lay_16 : decode cL_lay 16 = .ok (.ireturn, 1) := by decide +kernel
theorem dL_lay_17 : decode cL_lay 17 = .ok (.iconst 0, 1) := by decide +kernel
theorem dL_lay_18 : decode cL_lay 18 = .ok (.ireturn, 1) := by decide +kernel
theorem dL_bake_0 : decode cL_bake 0 = .ok (.aload_n 2, 1) := by decide +kernel
theorem dL_bake_1 : decode cL_bake 1 = .ok (.iconst 0, 1) := by decide +kernel
theorem dL_bake_2 : decode cL_bake 2 = .ok (.aload_n 0, 1) := by decide +kernel
theorem dL_bake_3 : decode cL_bake 3 = .ok (.iload_n 1, 1) := by decide +kernel
theorem dL_bake_4 : decode cL_bake 4 = .ok (.invokevirtual 17, 3) := by decide +kernel
theorem dL_bake_7 : decode cL_bake 7 = .ok (.i2l, 1) := by decide +kernel
theorem dL_bake_8 : decode cL_bake 8 = .ok (.lastore, 1) := by decide +kernel
theorem dL_bake_9 : decode cL_bake 9 = .ok (.goto 6, 3) := by decide +kernel
theorem dL_bake_12 : decode cL_bake 12 = .ok (.astore_n 3, 1) := by decide +kernel
theorem dL_bake_13 : decode cL_bake 13 = .ok (.iconst 1, 1) := by decide +kernel
theorem dL_bake_14 : decode cL_bake 14 = .ok (.ireturn, 1) := by decide +kernel
theorem dL_bake_15 : decode cL_bake 15 = .ok (.iconst 0, 1) := by decide +kernel
theorem dL_bake_16 : decode cL_bake 16 = .ok (.ireturn, 1) := by decide +kernel
theorem dL_cross_0 : decode cL_cross 0 = .ok (.aload 4, 2) := by decide +kernel
theorem dL_cross_2 : decode cL_cross 2 = .ok (.iconst 0, 1) := by decide +kernel
theorem dL_cross_3 : decode cL_cross 3 = .ok (.aload_n 0, 1) := by decide +kernel
theorem dL_cross_4 : decode cL_cross 4 = .ok (.iload_n 1, 1) := by decide +kernel
theorem dL_cross_5 : decode cL_cross 5 = .ok (.iload_n 2, 1) := by decide +kernel
theorem dL_cross_6 : decode cL_cross 6 = .ok (.iload_n 3, 1) := by decide +kernel
theorem dL_cross_7 : decode cL_cross 7 = .ok (.invokevirtual 23, 3) := by decide +kernel
theorem dL_cross_10 : decode cL_cross 10 = .ok (.i2l, 1) := by decide +kernel
theorem dL_cross_11 : decode cL_cross 11 = .ok (.lastore, 1) := by decide +kernel
theorem dL_cross_12 : decode cL_cross 12 = .ok (.goto 11, 3) := by decide +kernel
theorem dL_cross_15 : decode cL_cross 15 = .ok (.astore 5, 2) := by decide +kernel
theorem dL_cross_17 : decode cL_cross 17 = .ok (.iconst 1, 1) := by decide +kernel
theorem dL_cross_18 : decode cL_cross 18 = .ok (.ireturn, 1) := by decide +kernel
theorem dL_cross_19 : decode cL_cross 19 = .ok (.astore 5, 2) := by decide +kernel
theorem dL_cross_21 : decode cL_cross 21 = .ok (.iconst 2, 1) := by decide +kernel
theorem dL_cross_22 : decode cL_cross 22 = .ok (.ireturn, 1) := by decide +kernel
theorem dL_cross_23 : decode cL_cross 23 = .ok (.iconst 0, 1) := by decide +kernel
theorem dL_cross_24 : decode cL_cross 24 = .ok (.ireturn, 1) := by decide +kernel
theorem dL_back_0 : decode cL_back 0 = .ok (.aload_n 2, 1) := by decide +kernel
theorem dL_back_1 : decode cL_back 1 = .ok (.iconst 0, 1) := by decide +kernel
theorem dL_back_2 : decode cL_back 2 = .ok (.aload_n 0, 1) := by decide +kernel
theorem dL_back_3 : decode cL_back 3 = .ok (.iload_n 1, 1) := by decide +kernel
theorem dL_back_4 : decode cL_back 4 = .ok (.invokevirtual 27, 3) := by decide +kernel
theorem dL_back_7 : decode cL_back 7 = .ok (.i2l, 1) := by decide +kernel
theorem dL_back_8 : decode cL_back 8 = .ok (.lastore, 1) := by decide +kernel
theorem dL_back_9 : decode cL_back 9 = .ok (.goto 9, 3) := by decide +kernel
theorem dL_back_12 : decode cL_back 12 = .ok (.astore_n 3, 1) := by decide +kernel
theorem dL_back_13 : decode cL_back 13 = .ok (.iconst 1, 1) := by decide +kernel
theorem dL_back_14 : decode cL_back 14 = .ok (.ireturn, 1) := by decide +kernel
theorem dL_back_15 : decode cL_back 15 = .ok (.astore_n 3, 1) := by decide +kernel
theorem dL_back_16 : decode cL_back 16 = .ok (.iconst 2, 1) := by decide +kernel
theorem dL_back_17 : decode cL_back 17 = .ok (.ireturn, 1) := by decide +kernel
theorem dL_back_18 : decode cL_back 18 = .ok (.iconst 0, 1) := by decide +kernel
theorem dL_back_19 : decode cL_back 19 = .ok (.ireturn, 1) := by decide +kernel
theorem dL_change_0 : decode cL_change 0 = .ok (.aload_n 3, 1) := by decide +kernel
theorem dL_change_1 : decode cL_change 1 = .ok (.iconst 0, 1) := by decide +kernel
theorem dL_change_2 : decode cL_change 2 = .ok (.aload_n 0, 1) := by decide +kernel
theorem dL_change_3 : decode cL_change 3 = .ok (.iload_n 1, 1) := by decide +kernel
theorem dL_change_4 : decode cL_change 4 = .ok (.iload_n 2, 1) := by decide +kernel
theorem dL_change_5 : decode cL_change 5 = .ok (.invokevirtual 30, 3) := by decide +kernel
theorem dL_change_8 : decode cL_change 8 = .ok (.i2l, 1) := by decide +kernel
theorem dL_change_9 : decode cL_change 9 = .ok (.lastore, 1) := by decide +kernel
theorem dL_change_10 : decode cL_change 10 = .ok (.goto 15, 3) := by decide +kernel
theorem dL_change_13 : decode cL_change 13 = .ok (.astore 4, 2) := by decide +kernel
theorem dL_change_15 : decode cL_change 15 = .ok (.iconst 1, 1) := by decide +kernel
theorem dL_change_16 : decode cL_change 16 = .ok (.ireturn, 1) := by decide +kernel
theorem dL_change_17 : decode cL_change 17 = .ok (.astore 4, 2) := by decide +kernel
theorem dL_change_19 : decode cL_change 19 = .ok (.iconst 2, 1) := by decide +kernel
theorem dL_change_20 : decode cL_change 20 = .ok (.ireturn, 1) := by decide +kernel
theorem dL_change_21 : decode cL_change 21 = .ok (.astore 4, 2) := by decide +kernel
theorem dL_change_23 : decode cL_change 23 = .ok (.iconst 3, 1) := by decide +kernel
theorem dL_change_24 : decode cL_change 24 = .ok (.ireturn, 1) := by decide +kernel
theorem dL_change_25 : decode cL_change 25 = .ok (.iconst 0, 1) := by decide +kernel
theorem dL_change_26 : decode cL_change 26 = .ok (.ireturn, 1) := by decide +kernel
theorem dL_join_0 : decode cL_join 0 = .ok (.aload_n 3, 1) := by decide +kernel
theorem dL_join_1 : decode cL_join 1 = .ok (.iconst 0, 1) := by decide +kernel
theorem dL_join_2 : decode cL_join 2 = .ok (.aload_n 0, 1) := by decide +kernel
theorem dL_join_3 : decode cL_join 3 = .ok (.iload_n 1, 1) := by decide +kernel
theorem dL_join_4 : decode cL_join 4 = .ok (.iload_n 2, 1) := by decide +kernel
theorem dL_join_5 : decode cL_join 5 = .ok (.invokevirtual 34, 3) := by decide +kernel
theorem dL_join_8 : decode cL_join 8 = .ok (.i2l, 1) := by decide +kernel
theorem dL_join_9 : decode cL_join 9 = .ok (.lastore, 1) := by decide +kernel
theorem dL_join_10 : decode cL_join 10 = .ok (.goto 11, 3) := by decide +kernel
theorem dL_join_13 : decode cL_join 13 = .ok (.astore 4, 2) := by decide +kernel
theorem dL_join_15 : decode cL_join 15 = .ok (.iconst 1, 1) := by decide +kernel
theorem dL_join_16 : decode cL_join 16 = .ok (.ireturn, 1) := by decide +kernel
theorem dL_join_17 : decode cL_join 17 = .ok (.astore 4, 2) := by decide +kernel
theorem dL_join_19 : decode cL_join 19 = .ok (.iconst 2, 1) := by decide +kernel
theorem dL_join_20 : decode cL_join 20 = .ok (.ireturn, 1) := by decide +kernel
theorem dL_join_21 : decode cL_join 21 = .ok (.iconst 0, 1) := by decide +kernel
theorem dL_join_22 : decode cL_join 22 = .ok (.ireturn, 1) := by decide +kernel
theorem dL_append_0 : decode cL_append 0 = .ok (.aload_n 2, 1) := by decide +kernel
theorem dL_append_1 : decode cL_append 1 = .ok (.iconst 0, 1) := by decide +kernel
theorem dL_append_2 : decode cL_append 2 = .ok (.aload_n 0, 1) := by decide +kernel
theorem dL_append_3 : decode cL_append 3 = .ok (.iload_n 1, 1) := by decide +kernel
theorem dL_append_4 : decode cL_append 4 = .ok (.invokevirtual 37, 3) := by decide +kernel
theorem dL_append_7 : decode cL_append 7 = .ok (.i2l, 1) := by decide +kernel
theorem dL_append_8 : decode cL_append 8 = .ok (.lastore, 1) := by decide +kernel
theorem dL_append_9 : decode cL_append 9 = .ok (.goto 9, 3) := by decide +kernel
theorem dL_append_12 : decode cL_append 12 = .ok (.astore_n 3, 1) := by decide +kernel
theorem dL_append_13 : decode cL_append 13 = .ok (.iconst 1, 1) := by decide +kernel
theorem dL_append_14 : decode cL_append 14 = .ok (.ireturn, 1) := by decide +kernel
theorem dL_append_15 : decode cL_append 15 = .ok (.astore_n 3, 1) := by decide +kernel
theorem dL_append_16 : decode cL_append 16 = .ok (.iconst 2, 1) := by decide +kernel
theorem dL_append_17 : decode cL_append 17 = .ok (.ireturn, 1) := by decide +kernel
theorem dL_append_18 : decode cL_append 18 = .ok (.iconst 0, 1) := by decide +kernel
theorem dL_append_19 : decode cL_append 19 = .ok (.ireturn, 1) := by decide +kernel
theorem dL_work_0 : decode cL_work 0 = .ok (.aload_n 1, 1) := by decide +kernel
theorem dL_work_1 : decode cL_work 1 = .ok (.iconst 0, 1) := by decide +kernel
theorem dL_work_2 : decode cL_work 2 = .ok (.aload_n 0, 1) := by decide +kernel
theorem dL_work_3 : decode cL_work 3 = .ok (.invokevirtual 40, 3) := by decide +kernel
theorem dL_work_6 : decode cL_work 6 = .ok (.i2l, 1) := by decide +kernel
theorem dL_work_7 : decode cL_work 7 = .ok (.lastore, 1) := by decide +kernel
theorem dL_work_8 : decode cL_work 8 = .ok (.goto 6, 3) := by decide +kernel
theorem dL_work_11 : decode cL_work 11 = .ok (.astore_n 2, 1) := by decide +kernel
theorem dL_work_12 : decode cL_work 12 = .ok (.iconst 1, 1) := by decide +kernel
theorem dL_work_13 : decode cL_work 13 = .ok (.ireturn, 1) := by decide +kernel
theorem dL_work_14 : decode cL_work 14 = .ok (.iconst 0, 1) := by decide +kernel
theorem dL_work_15 : decode cL_work 15 = .ok (.ireturn, 1) := by decide +kernel
theorem dL_stopped_0 : decode cL_stopped 0 = .ok (.aload_n 2, 1) := by decide +kernel
theorem dL_stopped_1 : decode cL_stopped 1 = .ok (.iconst 0, 1) := by decide +kernel
theorem dL_stopped_2 : decode cL_stopped 2 = .ok (.aload_n 0, 1) := by decide +kernel
theorem dL_stopped_3 : decode cL_stopped 3 = .ok (.iload_n 1, 1) := by decide +kernel
theorem dL_stopped_4 : decode cL_stopped 4 = .ok (.invokevirtual 43, 3) := by decide +kernel
theorem dL_stopped_7 : decode cL_stopped 7 = .ok (.i2l, 1) := by decide +kernel
theorem dL_stopped_8 : decode cL_stopped 8 = .ok (.lastore, 1) := by decide +kernel
theorem dL_stopped_9 : decode cL_stopped 9 = .ok (.goto 6, 3) := by decide +kernel
theorem dL_stopped_12 : decode cL_stopped 12 = .ok (.astore_n 3, 1) := by decide +kernel
theorem dL_stopped_13 : decode cL_stopped 13 = .ok (.iconst 1, 1) := by decide +kernel
theorem dL_stopped_14 : decode cL_stopped 14 = .ok (.ireturn, 1) := by decide +kernel
theorem dL_stopped_15 : decode cL_stopped 15 = .ok (.iconst 0, 1) := by decide +kernel
theorem dL_stopped_16 : decode cL_stopped 16 = .ok (.ireturn, 1) := by decide +kernel
theorem dL_undo_0 : decode cL_undo 0 = .ok (.aload_n 1, 1) := by decide +kernel
theorem dL_undo_1 : decode cL_undo 1 = .ok (.iconst 0, 1) := by decide +kernel
theorem dL_undo_2 : decode cL_undo 2 = .ok (.aload_n 0, 1) := by decide +kernel
theorem dL_undo_3 : decode cL_undo 3 = .ok (.invokevirtual 46, 3) := by decide +kernel
theorem dL_undo_6 : decode cL_undo 6 = .ok (.i2l, 1) := by decide +kernel
theorem dL_undo_7 : decode cL_undo 7 = .ok (.lastore, 1) := by decide +kernel
theorem dL_undo_8 : decode cL_undo 8 = .ok (.goto 6, 3) := by decide +kernel
theorem dL_undo_11 : decode cL_undo 11 = .ok (.astore_n 2, 1) := by decide +kernel
theorem dL_undo_12 : decode cL_undo 12 = .ok (.iconst 1, 1) := by decide +kernel
theorem dL_undo_13 : decode cL_undo 13 = .ok (.ireturn, 1) := by decide +kernel
theorem dL_undo_14 : decode cL_undo 14 = .ok (.iconst 0, 1) := by decide +kernel
theorem dL_undo_15 : decode cL_undo 15 = .ok (.ireturn, 1) := by decide +kernel
theorem dL_restore_0 : decode cL_restore 0 = .ok (.aload_n 1, 1) := by decide +kernel
theorem dL_restore_1 : decode cL_restore 1 = .ok (.iconst 0, 1) := by decide +kernel
theorem dL_restore_2 : decode cL_restore 2 = .ok (.aload_n 0, 1) := by decide +kernel
theorem dL_restore_3 : decode cL_restore 3 = .ok (.invokevirtual 49, 3) := by decide +kernel
theorem dL_restore_6 : decode cL_restore 6 = .ok (.i2l, 1) := by decide +kernel
theorem dL_restore_7 : decode cL_restore 7 = .ok (.lastore, 1) := by decide +kernel
theorem dL_restore_8 : decode cL_restore 8 = .ok (.goto 6, 3) := by decide +kernel
theorem dL_restore_11 : decode cL_restore 11 = .ok (.astore_n 2, 1) := by decide +kernel
theorem dL_restore_12 : decode cL_restore 12 = .ok (.iconst 1, 1) := by decide +kernel
theorem dL_restore_13 : decode cL_restore 13 = .ok (.ireturn, 1) := by decide +kernel
theorem dL_restore_14 : decode cL_restore 14 = .ok (.iconst 0, 1) := by decide +kernel
theorem dL_restore_15 : decode cL_restore 15 = .ok (.ireturn, 1) := by decide +kernel
theorem dL_crossing_0 : decode cL_crossing 0 = .ok (.aload 4, 2) := by decide +kernel
theorem dL_crossing_2 : decode cL_crossing 2 = .ok (.iconst 0, 1) := by decide +kernel
theorem dL_crossing_3 : decode cL_crossing 3 = .ok (.aload_n 0, 1) := by decide +kernel
theorem dL_crossing_4 : decode cL_crossing 4 = .ok (.iload_n 1, 1) := by decide +kernel
theorem dL_crossing_5 : decode cL_crossing 5 = .ok (.iload_n 2, 1) := by decide +kernel
theorem dL_crossing_6 : decode cL_crossing 6 = .ok (.iload_n 3, 1) := by decide +kernel
theorem dL_crossing_7 : decode cL_crossing 7 = .ok (.invokevirtual 52, 3) := by decide +kernel
theorem dL_crossing_10 : decode cL_crossing 10 = .ok (.i2l, 1) := by decide +kernel
theorem dL_crossing_11 : decode cL_crossing 11 = .ok (.lastore, 1) := by decide +kernel
theorem dL_crossing_12 : decode cL_crossing 12 = .ok (.goto 11, 3) := by decide +kernel
theorem dL_crossing_15 : decode cL_crossing 15 = .ok (.astore 5, 2) := by decide +kernel
theorem dL_crossing_17 : decode cL_crossing 17 = .ok (.iconst 1, 1) := by decide +kernel
theorem dL_crossing_18 : decode cL_crossing 18 = .ok (.ireturn, 1) := by decide +kernel
theorem dL_crossing_19 : decode cL_crossing 19 = .ok (.astore 5, 2) := by decide +kernel
theorem dL_crossing_21 : decode cL_crossing 21 = .ok (.iconst 2, 1) := by decide +kernel
theorem dL_crossing_22 : decode cL_crossing 22 = .ok (.ireturn, 1) := by decide +kernel
theorem dL_crossing_23 : decode cL_crossing 23 = .ok (.iconst 0, 1) := by decide +kernel
theorem dL_crossing_24 : decode cL_crossing 24 = .ok (.ireturn, 1) := by decide +kernel
theorem dL_strand_0 : decode cL_strand 0 = .ok (.aload 4, 2) := by decide +kernel
theorem dL_strand_2 : decode cL_strand 2 = .ok (.iconst 0, 1) := by decide +kernel
theorem dL_strand_3 : decode cL_strand 3 = .ok (.aload_n 0, 1) := by decide +kernel
theorem dL_strand_4 : decode cL_strand 4 = .ok (.iload_n 1, 1) := by decide +kernel
theorem dL_strand_5 : decode cL_strand 5 = .ok (.iload_n 2, 1) := by decide +kernel
theorem dL_strand_6 : decode cL_strand 6 = .ok (.iload_n 3, 1) := by decide +kernel
theorem dL_strand_7 : decode cL_strand 7 = .ok (.invokevirtual 56, 3) := by decide +kernel
theorem dL_strand_10 : decode cL_strand 10 = .ok (.i2l, 1) := by decide +kernel
theorem dL_strand_11 : decode cL_strand 11 = .ok (.lastore, 1) := by decide +kernel
theorem dL_strand_12 : decode cL_strand 12 = .ok (.goto 11, 3) := by decide +kernel
theorem dL_strand_15 : decode cL_strand 15 = .ok (.astore 5, 2) := by decide +kernel
theorem dL_strand_17 : decode cL_strand 17 = .ok (.iconst 1, 1) := by decide +kernel
theorem dL_strand_18 : decode cL_strand 18 = .ok (.ireturn, 1) := by decide +kernel
theorem dL_strand_19 : decode cL_strand 19 = .ok (.astore 5, 2) := by decide +kernel
theorem dL_strand_21 : decode cL_strand 21 = .ok (.iconst 2, 1) := by decide +kernel
theorem dL_strand_22 : decode cL_strand 22 = .ok (.ireturn, 1) := by decide +kernel
theorem dL_strand_23 : decode cL_strand 23 = .ok (.iconst 0, 1) := by decide +kernel
theorem dL_strand_24 : decode cL_strand 24 = .ok (.ireturn, 1) := by decide +kernel
theorem dL_loaf_0 : decode cL_loaf 0 = .ok (.aload_n 3, 1) := by decide +kernel
theorem dL_loaf_1 : decode cL_loaf 1 = .ok (.iconst 0, 1) := by decide +kernel
theorem dL_loaf_2 : decode cL_loaf 2 = .ok (.aload_n 0, 1) := by decide +kernel
theorem dL_loaf_3 : decode cL_loaf 3 = .ok (.iload_n 1, 1) := by decide +kernel
theorem dL_loaf_4 : decode cL_loaf 4 = .ok (.iload_n 2, 1) := by decide +kernel
theorem dL_loaf_5 : decode cL_loaf 5 = .ok (.invokevirtual 59, 3) := by decide +kernel
theorem dL_loaf_8 : decode cL_loaf 8 = .ok (.i2l, 1) := by decide +kernel
theorem dL_loaf_9 : decode cL_loaf 9 = .ok (.lastore, 1) := by decide +kernel
theorem dL_loaf_10 : decode cL_loaf 10 = .ok (.goto 11, 3) := by decide +kernel
theorem dL_loaf_13 : decode cL_loaf 13 = .ok (.astore 4, 2) := by decide +kernel
theorem dL_loaf_15 : decode cL_loaf 15 = .ok (.iconst 1, 1) := by decide +kernel
theorem dL_loaf_16 : decode cL_loaf 16 = .ok (.ireturn, 1) := by decide +kernel
theorem dL_loaf_17 : decode cL_loaf 17 = .ok (.astore 4, 2) := by decide +kernel
theorem dL_loaf_19 : decode cL_loaf 19 = .ok (.iconst 2, 1) := by decide +kernel
theorem dL_loaf_20 : decode cL_loaf 20 = .ok (.ireturn, 1) := by decide +kernel
theorem dL_loaf_21 : decode cL_loaf 21 = .ok (.iconst 0, 1) := by decide +kernel
theorem dL_loaf_22 : decode cL_loaf 22 = .ok (.ireturn, 1) := by decide +kernel
theorem dL_loose_0 : decode cL_loose 0 = .ok (.aload_n 3, 1) := by decide +kernel
theorem dL_loose_1 : decode cL_loose 1 = .ok (.iconst 0, 1) := by decide +kernel
theorem dL_loose_2 : decode cL_loose 2 = .ok (.aload_n 0, 1) := by decide +kernel
theorem dL_loose_3 : decode cL_loose 3 = .ok (.iload_n 1, 1) := by decide +kernel
theorem dL_loose_4 : decode cL_loose 4 = .ok (.iload_n 2, 1) := by decide +kernel
theorem dL_loose_5 : decode cL_loose 5 = .ok (.invokevirtual 62, 3) := by decide +kernel
theorem dL_loose_8 : decode cL_loose 8 = .ok (.i2l, 1) := by decide +kernel
theorem dL_loose_9 : decode cL_loose 9 = .ok (.lastore, 1) := by decide +kernel
theorem dL_loose_10 : decode cL_loose 10 = .ok (.goto 11, 3) := by decide +kernel
theorem dL_loose_13 : decode cL_loose 13 = .ok (.astore 4, 2) := by decide +kernel
theorem dL_loose_15 : decode cL_loose 15 = .ok (.iconst 1, 1) := by decide +kernel
theorem dL_loose_16 : decode cL_loose 16 = .ok (.ireturn, 1) := by decide +kernel
theorem dL_loose_17 : decode cL_loose 17 = .ok (.astore 4, 2) := by decide +kernel
theorem dL_loose_19 : decode cL_loose 19 = .ok (.iconst 2, 1) := by decide +kernel
theorem dL_loose_20 : decode cL_loose 20 = .ok (.ireturn, 1) := by decide +kernel
theorem dL_loose_21 : decode cL_loose 21 = .ok (.iconst 0, 1) := by decide +kernel
theorem dL_loose_22 : decode cL_loose 22 = .ok (.ireturn, 1) := by decide +kernel
theorem dL_count_0 : decode cL_count 0 = .ok (.aload_n 2, 1) := by decide +kernel
theorem dL_count_1 : decode cL_count 1 = .ok (.iconst 0, 1) := by decide +kernel
theorem dL_count_2 : decode cL_count 2 = .ok (.aload_n 0, 1) := by decide +kernel
theorem dL_count_3 : decode cL_count 3 = .ok (.iload_n 1, 1) := by decide +kernel
theorem dL_count_4 : decode cL_count 4 = .ok (.invokevirtual 65, 3) := by decide +kernel
theorem dL_count_7 : decode cL_count 7 = .ok (.i2l, 1) := by decide +kernel
theorem dL_count_8 : decode cL_count 8 = .ok (.lastore, 1) := by decide +kernel
theorem dL_count_9 : decode cL_count 9 = .ok (.goto 6, 3) := by decide +kernel
theorem dL_count_12 : decode cL_count 12 = .ok (.astore_n 3, 1) := by decide +kernel
theorem dL_count_13 : decode cL_count 13 = .ok (.iconst 1, 1) := by decide +kernel
theorem dL_count_14 : decode cL_count 14 = .ok (.ireturn, 1) := by decide +kernel
theorem dL_count_15 : decode cL_count 15 = .ok (.iconst 0, 1) := by decide +kernel
theorem dL_count_16 : decode cL_count 16 = .ok (.ireturn, 1) := by decide +kernel
theorem dL_whyNot_0 : decode cL_whyNot 0 = .ok (.aload 4, 2) := by decide +kernel
theorem dL_whyNot_2 : decode cL_whyNot 2 = .ok (.iconst 0, 1) := by decide +kernel
theorem dL_whyNot_3 : decode cL_whyNot 3 = .ok (.aload_n 0, 1) := by decide +kernel
theorem dL_whyNot_4 : decode cL_whyNot 4 = .ok (.iload_n 1, 1) := by decide +kernel
theorem dL_whyNot_5 : decode cL_whyNot 5 = .ok (.iload_n 2, 1) := by decide +kernel
theorem dL_whyNot_6 : decode cL_whyNot 6 = .ok (.iload_n 3, 1) := by decide +kernel
theorem dL_whyNot_7 : decode cL_whyNot 7 = .ok (.invokevirtual 68, 3) := by decide +kernel
theorem dL_whyNot_10 : decode cL_whyNot 10 = .ok (.i2l, 1) := by decide +kernel
theorem dL_whyNot_11 : decode cL_whyNot 11 = .ok (.lastore, 1) := by decide +kernel
theorem dL_whyNot_12 : decode cL_whyNot 12 = .ok (.goto 7, 3) := by decide +kernel
theorem dL_whyNot_15 : decode cL_whyNot 15 = .ok (.astore 5, 2) := by decide +kernel
theorem dL_whyNot_17 : decode cL_whyNot 17 = .ok (.iconst 1, 1) := by decide +kernel
theorem dL_whyNot_18 : decode cL_whyNot 18 = .ok (.ireturn, 1) := by decide +kernel
theorem dL_whyNot_19 : decode cL_whyNot 19 = .ok (.iconst 0, 1) := by decide +kernel
theorem dL_whyNot_20 : decode cL_whyNot 20 = .ok (.ireturn, 1) := by decide +kernel
theorem dL_ifChanged_0 : decode cL_ifChanged 0 = .ok (.aload_n 3, 1) := by decide +kernel
theorem dL_ifChanged_1 : decode cL_ifChanged 1 = .ok (.iconst 0, 1) := by decide +kernel
theorem dL_ifChanged_2 : decode cL_ifChanged 2 = .ok (.aload_n 0, 1) := by decide +kernel
theorem dL_ifChanged_3 : decode cL_ifChanged 3 = .ok (.iload_n 1, 1) := by decide +kernel
theorem dL_ifChanged_4 : decode cL_ifChanged 4 = .ok (.iload_n 2, 1) := by decide +kernel
theorem dL_ifChanged_5 : decode cL_ifChanged 5 = .ok (.invokevirtual 71, 3) := by decide +kernel
theorem dL_ifChanged_8 : decode cL_ifChanged 8 = .ok (.i2l, 1) := by decide +kernel
theorem dL_ifChanged_9 : decode cL_ifChanged 9 = .ok (.lastore, 1) := by decide +kernel
theorem dL_ifChanged_10 : decode cL_ifChanged 10 = .ok (.goto 11, 3) := by decide +kernel
theorem dL_ifChanged_13 : decode cL_ifChanged 13 = .ok (.astore 4, 2) := by decide +kernel
theorem dL_ifChanged_15 : decode cL_ifChanged 15 = .ok (.iconst 1, 1) := by decide +kernel
theorem dL_ifChanged_16 : decode cL_ifChanged 16 = .ok (.ireturn, 1) := by decide +kernel
theorem dL_ifChanged_17 : decode cL_ifChanged 17 = .ok (.astore 4, 2) := by decide +kernel
theorem dL_ifChanged_19 : decode cL_ifChanged 19 = .ok (.iconst 2, 1) := by decide +kernel
theorem dL_ifChanged_20 : decode cL_ifChanged 20 = .ok (.ireturn, 1) := by decide +kernel
theorem dL_ifChanged_21 : decode cL_ifChanged 21 = .ok (.iconst 0, 1) := by decide +kernel
theorem dL_ifChanged_22 : decode cL_ifChanged 22 = .ok (.ireturn, 1) := by decide +kernel
theorem dL_alike_0 : decode cL_alike 0 = .ok (.aload_n 3, 1) := by decide +kernel
theorem dL_alike_1 : decode cL_alike 1 = .ok (.iconst 0, 1) := by decide +kernel
theorem dL_alike_2 : decode cL_alike 2 = .ok (.aload_n 0, 1) := by decide +kernel
theorem dL_alike_3 : decode cL_alike 3 = .ok (.iload_n 1, 1) := by decide +kernel
theorem dL_alike_4 : decode cL_alike 4 = .ok (.iload_n 2, 1) := by decide +kernel
theorem dL_alike_5 : decode cL_alike 5 = .ok (.invokevirtual 74, 3) := by decide +kernel
theorem dL_alike_8 : decode cL_alike 8 = .ok (.i2l, 1) := by decide +kernel
theorem dL_alike_9 : decode cL_alike 9 = .ok (.lastore, 1) := by decide +kernel
theorem dL_alike_10 : decode cL_alike 10 = .ok (.goto 7, 3) := by decide +kernel
theorem dL_alike_13 : decode cL_alike 13 = .ok (.astore 4, 2) := by decide +kernel
theorem dL_alike_15 : decode cL_alike 15 = .ok (.iconst 1, 1) := by decide +kernel
theorem dL_alike_16 : decode cL_alike 16 = .ok (.ireturn, 1) := by decide +kernel
theorem dL_alike_17 : decode cL_alike 17 = .ok (.iconst 0, 1) := by decide +kernel
theorem dL_alike_18 : decode cL_alike 18 = .ok (.ireturn, 1) := by decide +kernel
theorem dL_period_0 : decode cL_period 0 = .ok (.aload_n 2, 1) := by decide +kernel
theorem dL_period_1 : decode cL_period 1 = .ok (.iconst 0, 1) := by decide +kernel
theorem dL_period_2 : decode cL_period 2 = .ok (.aload_n 0, 1) := by decide +kernel
theorem dL_period_3 : decode cL_period 3 = .ok (.iload_n 1, 1) := by decide +kernel
theorem dL_period_4 : decode cL_period 4 = .ok (.invokevirtual 77, 3) := by decide +kernel
theorem dL_period_7 : decode cL_period 7 = .ok (.i2l, 1) := by decide +kernel
theorem dL_period_8 : decode cL_period 8 = .ok (.lastore, 1) := by decide +kernel
theorem dL_period_9 : decode cL_period 9 = .ok (.goto 6, 3) := by decide +kernel
theorem dL_period_12 : decode cL_period 12 = .ok (.astore_n 3, 1) := by decide +kernel
theorem dL_period_13 : decode cL_period 13 = .ok (.iconst 1, 1) := by decide +kernel
theorem dL_period_14 : decode cL_period 14 = .ok (.ireturn, 1) := by decide +kernel
theorem dL_period_15 : decode cL_period 15 = .ok (.iconst 0, 1) := by decide +kernel
theorem dL_period_16 : decode cL_period 16 = .ok (.ireturn, 1) := by decide +kernel
theorem dL_law_0 : decode cL_law 0 = .ok (.new 8, 3) := by decide +kernel
theorem dL_law_3 : decode cL_law 3 = .ok (.dup, 1) := by decide +kernel
theorem dL_law_4 : decode cL_law 4 = .ok (.invokespecial 80, 3) := by decide +kernel
theorem dL_law_7 : decode cL_law 7 = .ok (.astore_n 1, 1) := by decide +kernel
theorem dL_law_8 : decode cL_law 8 = .ok (.new 81, 3) := by decide +kernel
theorem dL_law_11 : decode cL_law 11 = .ok (.dup, 1) := by decide +kernel
theorem dL_law_12 : decode cL_law 12 = .ok (.invokespecial 83, 3) := by decide +kernel
theorem dL_law_15 : decode cL_law 15 = .ok (.astore_n 2, 1) := by decide +kernel
theorem dL_law_16 : decode cL_law 16 = .ok (.iconst 1, 1) := by decide +kernel
theorem dL_law_17 : decode cL_law 17 = .ok (.newarray .long, 2) := by decide +kernel
theorem dL_law_19 : decode cL_law 19 = .ok (.astore_n 3, 1) := by decide +kernel
theorem dL_law_20 : decode cL_law 20 = .ok (.iconst 0, 1) := by decide +kernel
theorem dL_law_21 : decode cL_law 21 = .ok (.istore 4, 2) := by decide +kernel
theorem dL_law_23 : decode cL_law 23 = .ok (.iload 4, 2) := by decide +kernel
theorem dL_law_25 : decode cL_law 25 = .ok (.aload_n 0, 1) := by decide +kernel
theorem dL_law_26 : decode cL_law 26 = .ok (.arraylength, 1) := by decide +kernel
theorem dL_law_27 : decode cL_law 27 = .ok (.iconst 4, 1) := by decide +kernel
theorem dL_law_28 : decode cL_law 28 = .ok (.isub, 1) := by decide +kernel
theorem dL_law_29 : decode cL_law 29 = .ok (.if_icmp .gt 1523, 3) := by decide +kernel
theorem dL_law_32 : decode cL_law 32 = .ok (.aload_n 0, 1) := by decide +kernel
theorem dL_law_33 : decode cL_law 33 = .ok (.iload 4, 2) := by decide +kernel
theorem dL_law_35 : decode cL_law 35 = .ok (.iaload, 1) := by decide +kernel
theorem dL_law_36 : decode cL_law 36 = .ok (.bipush 31, 2) := by decide +kernel
theorem dL_law_38 : decode cL_law 38 = .ok (.iand, 1) := by decide +kernel
theorem dL_law_39 : decode cL_law 39 = .ok (.tableswitch 1507 0 24 #[113, 157, 213, 309, 365, 433, 501, 557, 570, 611, 655, 711, 755, 768, 812, 892, 972, 1040, 1108, 1164, 1260, 1328, 1396, 1452, 1493], 113) := by decide +kernel
theorem dL_law_152 : decode cL_law 152 = .ok (.aload_n 1, 1) := by decide +kernel
theorem dL_law_153 : decode cL_law 153 = .ok (.aload_n 3, 1) := by decide +kernel
theorem dL_law_154 : decode cL_law 154 = .ok (.invokestatic 84, 3) := by decide +kernel
theorem dL_law_157 : decode cL_law 157 = .ok (.istore 5, 2) := by decide +kernel
theorem dL_law_159 : decode cL_law 159 = .ok (.aload_n 2, 1) := by decide +kernel
theorem dL_law_160 : decode cL_law 160 = .ok (.invokevirtual 89, 3) := by decide +kernel
theorem dL_law_163 : decode cL_law 163 = .ok (.istore 6, 2) := by decide +kernel
theorem dL_law_165 : decode cL_law 165 = .ok (.aload_n 2, 1) := by decide +kernel
theorem dL_law_166 : decode cL_law 166 = .ok (.invokevirtual 90, 3) := by decide +kernel
theorem dL_law_169 : decode cL_law 169 = .ok (.iload 5, 2) := by decide +kernel
theorem dL_law_171 : decode cL_law 171 = .ok (.if_icmp .eq 5, 3) := by decide +kernel
theorem dL_law_174 : decode cL_law 174 = .ok (.iconst 0, 1) := by decide +kernel
theorem dL_law_175 : decode cL_law 175 = .ok (.ireturn, 1) := by decide +kernel
theorem dL_law_176 : decode cL_law 176 = .ok (.iload 5, 2) := by decide +kernel
theorem dL_law_178 : decode cL_law 178 = .ok (.ifCond .ne 15, 3) := by decide +kernel
theorem dL_law_181 : decode cL_law 181 = .ok (.aload_n 3, 1) := by decide +kernel
theorem dL_law_182 : decode cL_law 182 = .ok (.iconst 0, 1) := by decide +kernel
theorem dL_law_183 : decode cL_law 183 = .ok (.laload, 1) := by decide +kernel
theorem dL_law_184 : decode cL_law 184 = .ok (.iload 6, 2) := by decide +kernel
theorem dL_law_186 : decode cL_law 186 = .ok (.i2l, 1) := by decide +kernel
theorem dL_law_187 : decode cL_law 187 = .ok (.lcmp, 1) := by decide +kernel
theorem dL_law_188 : decode cL_law 188 = .ok (.ifCond .eq 5, 3) := by decide +kernel
theorem dL_law_191 : decode cL_law 191 = .ok (.iconst 0, 1) := by decide +kernel
theorem dL_law_192 : decode cL_law 192 = .ok (.ireturn, 1) := by decide +kernel
theorem dL_law_193 : decode cL_law 193 = .ok (.goto 1353, 3) := by decide +kernel
theorem dL_law_196 : decode cL_law 196 = .ok (.aload_n 1, 1) := by decide +kernel
theorem dL_law_197 : decode cL_law 197 = .ok (.aload_n 0, 1) := by decide +kernel
theorem dL_law_198 : decode cL_law 198 = .ok (.iload 4, 2) := by decide +kernel
theorem dL_law_200 : decode cL_law 200 = .ok (.iconst 1, 1) := by decide +kernel
theorem dL_law_201 : decode cL_law 201 = .ok (.iadd, 1) := by decide +kernel
theorem dL_law_202 : decode cL_law 202 = .ok (.iaload, 1) := by decide +kernel
theorem dL_law_203 : decode cL_law 203 = .ok (.aload_n 3, 1) := by decide +kernel
theorem dL_law_204 : decode cL_law 204 = .ok (.invokestatic 93, 3) := by decide +kernel
theorem dL_law_207 : decode cL_law 207 = .ok (.istore 5, 2) := by decide +kernel
theorem dL_law_209 : decode cL_law 209 = .ok (.aload_n 2, 1) := by decide +kernel
theorem dL_law_210 : decode cL_law 210 = .ok (.aload_n 0, 1) := by decide +kernel
theorem dL_law_211 : decode cL_law 211 = .ok (.iload 4, 2) := by decide +kernel
theorem dL_law_213 : decode cL_law 213 = .ok (.iconst 1, 1) := by decide +kernel
theorem dL_law_214 : decode cL_law 214 = .ok (.iadd, 1) := by decide +kernel
theorem dL_law_215 : decode cL_law 215 = .ok (.iaload, 1) := by decide +kernel
theorem dL_law_216 : decode cL_law 216 = .ok (.invokevirtual 96, 3) := by decide +kernel
theorem dL_law_219 : decode cL_law 219 = .ok (.istore 6, 2) := by decide +kernel
theorem dL_law_221 : decode cL_law 221 = .ok (.aload_n 2, 1) := by decide +kernel
theorem dL_law_222 : decode cL_law 222 = .ok (.invokevirtual 90, 3) := by decide +kernel
theorem dL_law_225 : decode cL_law 225 = .ok (.iload 5, 2) := by decide +kernel
theorem dL_law_227 : decode cL_law 227 = .ok (.if_icmp .eq 5, 3) := by decide +kernel
theorem dL_law_230 : decode cL_law 230 = .ok (.iconst 0, 1) := by decide +kernel
theorem dL_law_231 : decode cL_law 231 = .ok (.ireturn, 1) := by decide +kernel
theorem dL_law_232 : decode cL_law 232 = .ok (.iload 5, 2) := by decide +kernel
theorem dL_law_234 : decode cL_law 234 = .ok (.ifCond .ne 15, 3) := by decide +kernel
theorem dL_law_237 : decode cL_law 237 = .ok (.aload_n 3, 1) := by decide +kernel
theorem dL_law_238 : decode cL_law 238 = .ok (.iconst 0, 1) := by decide +kernel
theorem dL_law_239 : decode cL_law 239 = .ok (.laload, 1) := by decide +kernel
theorem dL_law_240 : decode cL_law 240 = .ok (.iload 6, 2) := by decide +kernel
theorem dL_law_242 : decode cL_law 242 = .ok (.i2l, 1) := by decide +kernel
theorem dL_law_243 : decode cL_law 243 = .ok (.lcmp, 1) := by decide +kernel
theorem dL_law_244 : decode cL_law 244 = .ok (.ifCond .eq 5, 3) := by decide +kernel
theorem dL_law_247 : decode cL_law 247 = .ok (.iconst 0, 1) := by decide +kernel
theorem dL_law_248 : decode cL_law 248 = .ok (.ireturn, 1) := by decide +kernel
theorem dL_law_249 : decode cL_law 249 = .ok (.goto 1297, 3) := by decide +kernel
theorem dL_law_252 : decode cL_law 252 = .ok (.aload_n 1, 1) := by decide +kernel
theorem dL_law_253 : decode cL_law 253 = .ok (.aload_n 0, 1) := by decide +kernel
theorem dL_law_254 : decode cL_law 254 = .ok (.iload 4, 2) := by decide +kernel
theorem dL_law_256 : decode cL_law 256 = .ok (.iconst 1, 1) := by decide +kernel
theorem dL_law_257 : decode cL_law 257 = .ok (.iadd, 1) := by decide +kernel
theorem dL_law_258 : decode cL_law 258 = .ok (.iaload, 1) := by decide +kernel
theorem dL_law_259 : decode cL_law 259 = .ok (.aload_n 0, 1) := by decide +kernel
theorem dL_law_260 : decode cL_law 260 = .ok (.iload 4, 2) := by decide +kernel
theorem dL_law_262 : decode cL_law 262 = .ok (.iconst 2, 1) := by decide +kernel
theorem dL_law_263 : decode cL_law 263 = .ok (.iadd, 1) := by decide +kernel
theorem dL_law_264 : decode cL_law 264 = .ok (.iaload, 1) := by decide +kernel
theorem dL_law_265 : decode cL_law 265 = .ok (.aload_n 0, 1) := by decide +kernel
theorem dL_law_266 : decode cL_law 266 = .ok (.iload 4, 2) := by decide +kernel
theorem dL_law_268 : decode cL_law 268 = .ok (.iconst 3, 1) := by decide +kernel
theorem dL_law_269 : decode cL_law 269 = .ok (.iadd, 1) := by decide +kernel
theorem dL_law_270 : decode cL_law 270 = .ok (.iaload, 1) := by decide +kernel
theorem dL_law_271 : decode cL_law 271 = .ok (.ifCond .eq 7, 3) := by decide +kernel
theorem dL_law_274 : decode cL_law 274 = .ok (.iconst 1, 1) := by decide +kernel
theorem dL_law_275 : decode cL_law 275 = .ok (.goto 4, 3) := by decide +kernel
theorem dL_law_278 : decode cL_law 278 = .ok (.iconst 0, 1) := by decide +kernel
theorem dL_law_279 : decode cL_law 279 = .ok (.aload_n 3, 1) := by decide +kernel
theorem dL_law_280 : decode cL_law 280 = .ok (.invokestatic 97, 3) := by decide +kernel
theorem dL_law_283 : decode cL_law 283 = .ok (.istore 5, 2) := by decide +kernel
theorem dL_law_285 : decode cL_law 285 = .ok (.aload_n 2, 1) := by decide +kernel
theorem dL_law_286 : decode cL_law 286 = .ok (.aload_n 0, 1) := by decide +kernel
theorem dL_law_287 : decode cL_law 287 = .ok (.iload 4, 2) := by decide +kernel
theorem dL_law_289 : decode cL_law 289 = .ok (.iconst 1, 1) := by decide +kernel
theorem dL_law_290 : decode cL_law 290 = .ok (.iadd, 1) := by decide +kernel
theorem dL_law_291 : decode cL_law 291 = .ok (.iaload, 1) := by decide +kernel
theorem dL_law_292 : decode cL_law 292 = .ok (.aload_n 0, 1) := by decide +kernel
theorem dL_law_293 : decode cL_law 293 = .ok (.iload 4, 2) := by decide +kernel
theorem dL_law_295 : decode cL_law 295 = .ok (.iconst 2, 1) := by decide +kernel
theorem dL_law_296 : decode cL_law 296 = .ok (.iadd, 1) := by decide +kernel
theorem dL_law_297 : decode cL_law 297 = .ok (.iaload, 1) := by decide +kernel
theorem dL_law_298 : decode cL_law 298 = .ok (.aload_n 0, 1) := by decide +kernel
theorem dL_law_299 : decode cL_law 299 = .ok (.iload 4, 2) := by decide +kernel
theorem dL_law_301 : decode cL_law 301 = .ok (.iconst 3, 1) := by decide +kernel
theorem dL_law_302 : decode cL_law 302 = .ok (.iadd, 1) := by decide +kernel
theorem dL_law_303 : decode cL_law 303 = .ok (.iaload, 1) := by decide +kernel
theorem dL_law_304 : decode cL_law 304 = .ok (.ifCond .eq 7, 3) := by decide +kernel
theorem dL_law_307 : decode cL_law 307 = .ok (.iconst 1, 1) := by decide +kernel
theorem dL_law_308 : decode cL_law 308 = .ok (.goto 4, 3) := by decide +kernel
theorem dL_law_311 : decode cL_law 311 = .ok (.iconst 0, 1) := by decide +kernel
theorem dL_law_312 : decode cL_law 312 = .ok (.invokevirtual 100, 3) := by decide +kernel
theorem dL_law_315 : decode cL_law 315 = .ok (.istore 6, 2) := by decide +kernel
theorem dL_law_317 : decode cL_law 317 = .ok (.aload_n 2, 1) := by decide +kernel
theorem dL_law_318 : decode cL_law 318 = .ok (.invokevirtual 90, 3) := by decide +kernel
theorem dL_law_321 : decode cL_law 321 = .ok (.iload 5, 2) := by decide +kernel
theorem dL_law_323 : decode cL_law 323 = .ok (.if_icmp .eq 5, 3) := by decide +kernel
theorem dL_law_326 : decode cL_law 326 = .ok (.iconst 0, 1) := by decide +kernel
theorem dL_law_327 : decode cL_law 327 = .ok (.ireturn, 1) := by decide +kernel
theorem dL_law_328 : decode cL_law 328 = .ok (.iload 5, 2) := by decide +kernel
theorem dL_law_330 : decode cL_law 330 = .ok (.ifCond .ne 15, 3) := by decide +kernel
theorem dL_law_333 : decode cL_law 333 = .ok (.aload_n 3, 1) := by decide +kernel
theorem dL_law_334 : decode cL_law 334 = .ok (.iconst 0, 1) := by decide +kernel
theorem dL_law_335 : decode cL_law 335 = .ok (.laload, 1) := by decide +kernel
theorem dL_law_336 : decode cL_law 336 = .ok (.iload 6, 2) := by decide +kernel
theorem dL_law_338 : decode cL_law 338 = .ok (.i2l, 1) := by decide +kernel
theorem dL_law_339 : decode cL_law 339 = .ok (.lcmp, 1) := by decide +kernel
theorem dL_law_340 : decode cL_law 340 = .ok (.ifCond .eq 5, 3) := by decide +kernel
theorem dL_law_343 : decode cL_law 343 = .ok (.iconst 0, 1) := by decide +kernel
theorem dL_law_344 : decode cL_law 344 = .ok (.ireturn, 1) := by decide +kernel
theorem dL_law_345 : decode cL_law 345 = .ok (.goto 1201, 3) := by decide +kernel
theorem dL_law_348 : decode cL_law 348 = .ok (.aload_n 1, 1) := by decide +kernel
theorem dL_law_349 : decode cL_law 349 = .ok (.aload_n 0, 1) := by decide +kernel
theorem dL_law_350 : decode cL_law 350 = .ok (.iload 4, 2) := by decide +kernel
theorem dL_law_352 : decode cL_law 352 = .ok (.iconst 1, 1) := by decide +kernel
theorem dL_law_353 : decode cL_law 353 = .ok (.iadd, 1) := by decide +kernel
theorem dL_law_354 : decode cL_law 354 = .ok (.iaload, 1) := by decide +kernel
theorem dL_law_355 : decode cL_law 355 = .ok (.aload_n 3, 1) := by decide +kernel
theorem dL_law_356 : decode cL_law 356 = .ok (.invokestatic 101, 3) := by decide +kernel
theorem dL_law_359 : decode cL_law 359 = .ok (.istore 5, 2) := by decide +kernel
theorem dL_law_361 : decode cL_law 361 = .ok (.aload_n 2, 1) := by decide +kernel
theorem dL_law_362 : decode cL_law 362 = .ok (.aload_n 0, 1) := by decide +kernel
theorem dL_law_363 : decode cL_law 363 = .ok (.iload 4, 2) := by decide +kernel
theorem dL_law_365 : decode cL_law 365 = .ok (.iconst 1, 1) := by decide +kernel
theorem dL_law_366 : decode cL_law 366 = .ok (.iadd, 1) := by decide +kernel
theorem dL_law_367 : decode cL_law 367 = .ok (.iaload, 1) := by decide +kernel
theorem dL_law_368 : decode cL_law 368 = .ok (.invokevirtual 103, 3) := by decide +kernel
theorem dL_law_371 : decode cL_law 371 = .ok (.istore 6, 2) := by decide +kernel
theorem dL_law_373 : decode cL_law 373 = .ok (.aload_n 2, 1) := by decide +kernel
theorem dL_law_374 : decode cL_law 374 = .ok (.invokevirtual 90, 3) := by decide +kernel
theorem dL_law_377 : decode cL_law 377 = .ok (.iload 5, 2) := by decide +kernel
theorem dL_law_379 : decode cL_law 379 = .ok (.if_icmp .eq 5, 3) := by decide +kernel
theorem dL_law_382 : decode cL_law 382 = .ok (.iconst 0, 1) := by decide +kernel
theorem dL_law_383 : decode cL_law 383 = .ok (.ireturn, 1) := by decide +kernel
theorem dL_law_384 : decode cL_law 384 = .ok (.iload 5, 2) := by decide +kernel
theorem dL_law_386 : decode cL_law 386 = .ok (.ifCond .ne 15, 3) := by decide +kernel
theorem dL_law_389 : decode cL_law 389 = .ok (.aload_n 3, 1) := by decide +kernel
theorem dL_law_390 : decode cL_law 390 = .ok (.iconst 0, 1) := by decide +kernel
theorem dL_law_391 : decode cL_law 391 = .ok (.laload, 1) := by decide +kernel
theorem dL_law_392 : decode cL_law 392 = .ok (.iload 6, 2) := by decide +kernel
theorem dL_law_394 : decode cL_law 394 = .ok (.i2l, 1) := by decide +kernel
theorem dL_law_395 : decode cL_law 395 = .ok (.lcmp, 1) := by decide +kernel
theorem dL_law_396 : decode cL_law 396 = .ok (.ifCond .eq 5, 3) := by decide +kernel
theorem dL_law_399 : decode cL_law 399 = .ok (.iconst 0, 1) := by decide +kernel
theorem dL_law_400 : decode cL_law 400 = .ok (.ireturn, 1) := by decide +kernel
theorem dL_law_401 : decode cL_law 401 = .ok (.goto 1145, 3) := by decide +kernel
theorem dL_law_404 : decode cL_law 404 = .ok (.aload_n 1, 1) := by decide +kernel
theorem dL_law_405 : decode cL_law 405 = .ok (.aload_n 0, 1) := by decide +kernel
theorem dL_law_406 : decode cL_law 406 = .ok (.iload 4, 2) := by decide +kernel
theorem dL_law_408 : decode cL_law 408 = .ok (.iconst 1, 1) := by decide +kernel
theorem dL_law_409 : decode cL_law 409 = .ok (.iadd, 1) := by decide +kernel
theorem dL_law_410 : decode cL_law 410 = .ok (.iaload, 1) := by decide +kernel
theorem dL_law_411 : decode cL_law 411 = .ok (.aload_n 0, 1) := by decide +kernel
theorem dL_law_412 : decode cL_law 412 = .ok (.iload 4, 2) := by decide +kernel
theorem dL_law_414 : decode cL_law 414 = .ok (.iconst 2, 1) := by decide +kernel
theorem dL_law_415 : decode cL_law 415 = .ok (.iadd, 1) := by decide +kernel
theorem dL_law_416 : decode cL_law 416 = .ok (.iaload, 1) := by decide +kernel
theorem dL_law_417 : decode cL_law 417 = .ok (.aload_n 3, 1) := by decide +kernel
theorem dL_law_418 : decode cL_law 418 = .ok (.invokestatic 104, 3) := by decide +kernel
theorem dL_law_421 : decode cL_law 421 = .ok (.istore 5, 2) := by decide +kernel
theorem dL_law_423 : decode cL_law 423 = .ok (.aload_n 2, 1) := by decide +kernel
theorem dL_law_424 : decode cL_law 424 = .ok (.aload_n 0, 1) := by decide +kernel
theorem dL_law_425 : decode cL_law 425 = .ok (.iload 4, 2) := by decide +kernel
theorem dL_law_427 : decode cL_law 427 = .ok (.iconst 1, 1) := by decide +kernel
theorem dL_law_428 : decode cL_law 428 = .ok (.iadd, 1) := by decide +kernel
theorem dL_law_429 : decode cL_law 429 = .ok (.iaload, 1) := by decide +kernel
theorem dL_law_430 : decode cL_law 430 = .ok (.aload_n 0, 1) := by decide +kernel
theorem dL_law_431 : decode cL_law 431 = .ok (.iload 4, 2) := by decide +kernel
theorem dL_law_433 : decode cL_law 433 = .ok (.iconst 2, 1) := by decide +kernel
theorem dL_law_434 : decode cL_law 434 = .ok (.iadd, 1) := by decide +kernel
theorem dL_law_435 : decode cL_law 435 = .ok (.iaload, 1) := by decide +kernel
theorem dL_law_436 : decode cL_law 436 = .ok (.invokevirtual 107, 3) := by decide +kernel
theorem dL_law_439 : decode cL_law 439 = .ok (.istore 6, 2) := by decide +kernel
theorem dL_law_441 : decode cL_law 441 = .ok (.aload_n 2, 1) := by decide +kernel
theorem dL_law_442 : decode cL_law 442 = .ok (.invokevirtual 90, 3) := by decide +kernel
theorem dL_law_445 : decode cL_law 445 = .ok (.iload 5, 2) := by decide +kernel
theorem dL_law_447 : decode cL_law 447 = .ok (.if_icmp .eq 5, 3) := by decide +kernel
theorem dL_law_450 : decode cL_law 450 = .ok (.iconst 0, 1) := by decide +kernel
theorem dL_law_451 : decode cL_law 451 = .ok (.ireturn, 1) := by decide +kernel
theorem dL_law_452 : decode cL_law 452 = .ok (.iload 5, 2) := by decide +kernel
theorem dL_law_454 : decode cL_law 454 = .ok (.ifCond .ne 15, 3) := by decide +kernel
theorem dL_law_457 : decode cL_law 457 = .ok (.aload_n 3, 1) := by decide +kernel
theorem dL_law_458 : decode cL_law 458 = .ok (.iconst 0, 1) := by decide +kernel
theorem dL_law_459 : decode cL_law 459 = .ok (.laload, 1) := by decide +kernel
theorem dL_law_460 : decode cL_law 460 = .ok (.iload 6, 2) := by decide +kernel
theorem dL_law_462 : decode cL_law 462 = .ok (.i2l, 1) := by decide +kernel
theorem dL_law_463 : decode cL_law 463 = .ok (.lcmp, 1) := by decide +kernel
theorem dL_law_464 : decode cL_law 464 = .ok (.ifCond .eq 5, 3) := by decide +kernel
theorem dL_law_467 : decode cL_law 467 = .ok (.iconst 0, 1) := by decide +kernel
theorem dL_law_468 : decode cL_law 468 = .ok (.ireturn, 1) := by decide +kernel
theorem dL_law_469 : decode cL_law 469 = .ok (.goto 1077, 3) := by decide +kernel
theorem dL_law_472 : decode cL_law 472 = .ok (.aload_n 1, 1) := by decide +kernel
theorem dL_law_473 : decode cL_law 473 = .ok (.aload_n 0, 1) := by decide +kernel
theorem dL_law_474 : decode cL_law 474 = .ok (.iload 4, 2) := by decide +kernel
theorem dL_law_476 : decode cL_law 476 = .ok (.iconst 1, 1) := by decide +kernel
theorem dL_law_477 : decode cL_law 477 = .ok (.iadd, 1) := by decide +kernel
theorem dL_law_478 : decode cL_law 478 = .ok (.iaload, 1) := by decide +kernel
theorem dL_law_479 : decode cL_law 479 = .ok (.aload_n 0, 1) := by decide +kernel
theorem dL_law_480 : decode cL_law 480 = .ok (.iload 4, 2) := by decide +kernel
theorem dL_law_482 : decode cL_law 482 = .ok (.iconst 2, 1) := by decide +kernel
theorem dL_law_483 : decode cL_law 483 = .ok (.iadd, 1) := by decide +kernel
theorem dL_law_484 : decode cL_law 484 = .ok (.iaload, 1) := by decide +kernel
theorem dL_law_485 : decode cL_law 485 = .ok (.aload_n 3, 1) := by decide +kernel
theorem dL_law_486 : decode cL_law 486 = .ok (.invokestatic 108, 3) := by decide +kernel
theorem dL_law_489 : decode cL_law 489 = .ok (.istore 5, 2) := by decide +kernel
theorem dL_law_491 : decode cL_law 491 = .ok (.aload_n 2, 1) := by decide +kernel
theorem dL_law_492 : decode cL_law 492 = .ok (.aload_n 0, 1) := by decide +kernel
theorem dL_law_493 : decode cL_law 493 = .ok (.iload 4, 2) := by decide +kernel
theorem dL_law_495 : decode cL_law 495 = .ok (.iconst 1, 1) := by decide +kernel
theorem dL_law_496 : decode cL_law 496 = .ok (.iadd, 1) := by decide +kernel
theorem dL_law_497 : decode cL_law 497 = .ok (.iaload, 1) := by decide +kernel
theorem dL_law_498 : decode cL_law 498 = .ok (.aload_n 0, 1) := by decide +kernel
theorem dL_law_499 : decode cL_law 499 = .ok (.iload 4, 2) := by decide +kernel
theorem dL_law_501 : decode cL_law 501 = .ok (.iconst 2, 1) := by decide +kernel
theorem dL_law_502 : decode cL_law 502 = .ok (.iadd, 1) := by decide +kernel
theorem dL_law_503 : decode cL_law 503 = .ok (.iaload, 1) := by decide +kernel
theorem dL_law_504 : decode cL_law 504 = .ok (.invokevirtual 110, 3) := by decide +kernel
theorem dL_law_507 : decode cL_law 507 = .ok (.istore 6, 2) := by decide +kernel
theorem dL_law_509 : decode cL_law 509 = .ok (.aload_n 2, 1) := by decide +kernel
theorem dL_law_510 : decode cL_law 510 = .ok (.invokevirtual 90, 3) := by decide +kernel
theorem dL_law_513 : decode cL_law 513 = .ok (.iload 5, 2) := by decide +kernel
theorem dL_law_515 : decode cL_law 515 = .ok (.if_icmp .eq 5, 3) := by decide +kernel
theorem dL_law_518 : decode cL_law 518 = .ok (.iconst 0, 1) := by decide +kernel
theorem dL_law_519 : decode cL_law 519 = .ok (.ireturn, 1) := by decide +kernel
theorem dL_law_520 : decode cL_law 520 = .ok (.iload 5, 2) := by decide +kernel
theorem dL_law_522 : decode cL_law 522 = .ok (.ifCond .ne 15, 3) := by decide +kernel
theorem dL_law_525 : decode cL_law 525 = .ok (.aload_n 3, 1) := by decide +kernel
theorem dL_law_526 : decode cL_law 526 = .ok (.iconst 0, 1) := by decide +kernel
theorem dL_law_527 : decode cL_law 527 = .ok (.laload, 1) := by decide +kernel
theorem dL_law_528 : decode cL_law 528 = .ok (.iload 6, 2) := by decide +kernel
theorem dL_law_530 : decode cL_law 530 = .ok (.i2l, 1) := by decide +kernel
theorem dL_law_531 : decode cL_law 531 = .ok (.lcmp, 1) := by decide +kernel
theorem dL_law_532 : decode cL_law 532 = .ok (.ifCond .eq 5, 3) := by decide +kernel
theorem dL_law_535 : decode cL_law 535 = .ok (.iconst 0, 1) := by decide +kernel
theorem dL_law_536 : decode cL_law 536 = .ok (.ireturn, 1) := by decide +kernel
theorem dL_law_537 : decode cL_law 537 = .ok (.goto 1009, 3) := by decide +kernel
theorem dL_law_540 : decode cL_law 540 = .ok (.aload_n 1, 1) := by decide +kernel
theorem dL_law_541 : decode cL_law 541 = .ok (.aload_n 0, 1) := by decide +kernel
theorem dL_law_542 : decode cL_law 542 = .ok (.iload 4, 2) := by decide +kernel
theorem dL_law_544 : decode cL_law 544 = .ok (.iconst 1, 1) := by decide +kernel
theorem dL_law_545 : decode cL_law 545 = .ok (.iadd, 1) := by decide +kernel
theorem dL_law_546 : decode cL_law 546 = .ok (.iaload, 1) := by decide +kernel
theorem dL_law_547 : decode cL_law 547 = .ok (.aload_n 3, 1) := by decide +kernel
theorem dL_law_548 : decode cL_law 548 = .ok (.invokestatic 111, 3) := by decide +kernel
theorem dL_law_551 : decode cL_law 551 = .ok (.istore 5, 2) := by decide +kernel
theorem dL_law_553 : decode cL_law 553 = .ok (.aload_n 2, 1) := by decide +kernel
theorem dL_law_554 : decode cL_law 554 = .ok (.aload_n 0, 1) := by decide +kernel
theorem dL_law_555 : decode cL_law 555 = .ok (.iload 4, 2) := by decide +kernel
theorem dL_law_557 : decode cL_law 557 = .ok (.iconst 1, 1) := by decide +kernel
theorem dL_law_558 : decode cL_law 558 = .ok (.iadd, 1) := by decide +kernel
theorem dL_law_559 : decode cL_law 559 = .ok (.iaload, 1) := by decide +kernel
theorem dL_law_560 : decode cL_law 560 = .ok (.invokevirtual 113, 3) := by decide +kernel
theorem dL_law_563 : decode cL_law 563 = .ok (.istore 6, 2) := by decide +kernel
theorem dL_law_565 : decode cL_law 565 = .ok (.aload_n 2, 1) := by decide +kernel
theorem dL_law_566 : decode cL_law 566 = .ok (.invokevirtual 90, 3) := by decide +kernel
theorem dL_law_569 : decode cL_law 569 = .ok (.iload 5, 2) := by decide +kernel
theorem dL_law_571 : decode cL_law 571 = .ok (.if_icmp .eq 5, 3) := by decide +kernel
theorem dL_law_574 : decode cL_law 574 = .ok (.iconst 0, 1) := by decide +kernel
theorem dL_law_575 : decode cL_law 575 = .ok (.ireturn, 1) := by decide +kernel
theorem dL_law_576 : decode cL_law 576 = .ok (.iload 5, 2) := by decide +kernel
theorem dL_law_578 : decode cL_law 578 = .ok (.ifCond .ne 15, 3) := by decide +kernel
theorem dL_law_581 : decode cL_law 581 = .ok (.aload_n 3, 1) := by decide +kernel
theorem dL_law_582 : decode cL_law 582 = .ok (.iconst 0, 1) := by decide +kernel
theorem dL_law_583 : decode cL_law 583 = .ok (.laload, 1) := by decide +kernel
theorem dL_law_584 : decode cL_law 584 = .ok (.iload 6, 2) := by decide +kernel
theorem dL_law_586 : decode cL_law 586 = .ok (.i2l, 1) := by decide +kernel
theorem dL_law_587 : decode cL_law 587 = .ok (.lcmp, 1) := by decide +kernel
theorem dL_law_588 : decode cL_law 588 = .ok (.ifCond .eq 5, 3) := by decide +kernel
theorem dL_law_591 : decode cL_law 591 = .ok (.iconst 0, 1) := by decide +kernel
theorem dL_law_592 : decode cL_law 592 = .ok (.ireturn, 1) := by decide +kernel
theorem dL_law_593 : decode cL_law 593 = .ok (.goto 953, 3) := by decide +kernel
theorem dL_law_596 : decode cL_law 596 = .ok (.aload_n 1, 1) := by decide +kernel
theorem dL_law_597 : decode cL_law 597 = .ok (.invokevirtual 114, 3) := by decide +kernel
theorem dL_law_600 : decode cL_law 600 = .ok (.aload_n 2, 1) := by decide +kernel
theorem dL_law_601 : decode cL_law 601 = .ok (.invokevirtual 117, 3) := by decide +kernel
theorem dL_law_604 : decode cL_law 604 = .ok (.if_icmp .eq 942, 3) := by decide +kernel
theorem dL_law_607 : decode cL_law 607 = .ok (.iconst 0, 1) := by decide +kernel
theorem dL_law_608 : decode cL_law 608 = .ok (.ireturn, 1) := by decide +kernel
theorem dL_law_609 : decode cL_law 609 = .ok (.aload_n 1, 1) := by decide +kernel
theorem dL_law_610 : decode cL_law 610 = .ok (.aload_n 0, 1) := by decide +kernel
theorem dL_law_611 : decode cL_law 611 = .ok (.iload 4, 2) := by decide +kernel
theorem dL_law_613 : decode cL_law 613 = .ok (.iconst 1, 1) := by decide +kernel
theorem dL_law_614 : decode cL_law 614 = .ok (.iadd, 1) := by decide +kernel
theorem dL_law_615 : decode cL_law 615 = .ok (.iaload, 1) := by decide +kernel
theorem dL_law_616 : decode cL_law 616 = .ok (.ifCond .eq 7, 3) := by decide +kernel
theorem dL_law_619 : decode cL_law 619 = .ok (.iconst 1, 1) := by decide +kernel
theorem dL_law_620 : decode cL_law 620 = .ok (.goto 4, 3) := by decide +kernel
theorem dL_law_623 : decode cL_law 623 = .ok (.iconst 0, 1) := by decide +kernel
theorem dL_law_624 : decode cL_law 624 = .ok (.invokevirtual 118, 3) := by decide +kernel
theorem dL_law_627 : decode cL_law 627 = .ok (.aload_n 2, 1) := by decide +kernel
theorem dL_law_628 : decode cL_law 628 = .ok (.aload_n 0, 1) := by decide +kernel
theorem dL_law_629 : decode cL_law 629 = .ok (.iload 4, 2) := by decide +kernel
theorem dL_law_631 : decode cL_law 631 = .ok (.iconst 1, 1) := by decide +kernel
theorem dL_law_632 : decode cL_law 632 = .ok (.iadd, 1) := by decide +kernel
theorem dL_law_633 : decode cL_law 633 = .ok (.iaload, 1) := by decide +kernel
theorem dL_law_634 : decode cL_law 634 = .ok (.ifCond .eq 7, 3) := by decide +kernel
theorem dL_law_637 : decode cL_law 637 = .ok (.iconst 1, 1) := by decide +kernel
theorem dL_law_638 : decode cL_law 638 = .ok (.goto 4, 3) := by decide +kernel
theorem dL_law_641 : decode cL_law 641 = .ok (.iconst 0, 1) := by decide +kernel
theorem dL_law_642 : decode cL_law 642 = .ok (.invokevirtual 122, 3) := by decide +kernel
theorem dL_law_645 : decode cL_law 645 = .ok (.if_icmp .eq 901, 3) := by decide +kernel
theorem dL_law_648 : decode cL_law 648 = .ok (.iconst 0, 1) := by decide +kernel
theorem dL_law_649 : decode cL_law 649 = .ok (.ireturn, 1) := by decide +kernel
theorem dL_law_650 : decode cL_law 650 = .ok (.aload_n 1, 1) := by decide +kernel
theorem dL_law_651 : decode cL_law 651 = .ok (.aload_n 3, 1) := by decide +kernel
theorem dL_law_652 : decode cL_law 652 = .ok (.invokestatic 123, 3) := by decide +kernel
theorem dL_law_655 : decode cL_law 655 = .ok (.istore 5, 2) := by decide +kernel
theorem dL_law_657 : decode cL_law 657 = .ok (.aload_n 2, 1) := by decide +kernel
theorem dL_law_658 : decode cL_law 658 = .ok (.invokevirtual 125, 3) := by decide +kernel
theorem dL_law_661 : decode cL_law 661 = .ok (.istore 6, 2) := by decide +kernel
theorem dL_law_663 : decode cL_law 663 = .ok (.aload_n 2, 1) := by decide +kernel
theorem dL_law_664 : decode cL_law 664 = .ok (.invokevirtual 90, 3) := by decide +kernel
theorem dL_law_667 : decode cL_law 667 = .ok (.iload 5, 2) := by decide +kernel
theorem dL_law_669 : decode cL_law 669 = .ok (.if_icmp .eq 5, 3) := by decide +kernel
theorem dL_law_672 : decode cL_law 672 = .ok (.iconst 0, 1) := by decide +kernel
theorem dL_law_673 : decode cL_law 673 = .ok (.ireturn, 1) := by decide +kernel
theorem dL_law_674 : decode cL_law 674 = .ok (.iload 5, 2) := by decide +kernel
theorem dL_law_676 : decode cL_law 676 = .ok (.ifCond .ne 15, 3) := by decide +kernel
theorem dL_law_679 : decode cL_law 679 = .ok (.aload_n 3, 1) := by decide +kernel
theorem dL_law_680 : decode cL_law 680 = .ok (.iconst 0, 1) := by decide +kernel
theorem dL_law_681 : decode cL_law 681 = .ok (.laload, 1) := by decide +kernel
theorem dL_law_682 : decode cL_law 682 = .ok (.iload 6, 2) := by decide +kernel
theorem dL_law_684 : decode cL_law 684 = .ok (.i2l, 1) := by decide +kernel
theorem dL_law_685 : decode cL_law 685 = .ok (.lcmp, 1) := by decide +kernel
theorem dL_law_686 : decode cL_law 686 = .ok (.ifCond .eq 5, 3) := by decide +kernel
theorem dL_law_689 : decode cL_law 689 = .ok (.iconst 0, 1) := by decide +kernel
theorem dL_law_690 : decode cL_law 690 = .ok (.ireturn, 1) := by decide +kernel
theorem dL_law_691 : decode cL_law 691 = .ok (.goto 855, 3) := by decide +kernel
theorem dL_law_694 : decode cL_law 694 = .ok (.aload_n 1, 1) := by decide +kernel
theorem dL_law_695 : decode cL_law 695 = .ok (.aload_n 0, 1) := by decide +kernel
theorem dL_law_696 : decode cL_law 696 = .ok (.iload 4, 2) := by decide +kernel
theorem dL_law_698 : decode cL_law 698 = .ok (.iconst 1, 1) := by decide +kernel
theorem dL_law_699 : decode cL_law 699 = .ok (.iadd, 1) := by decide +kernel
theorem dL_law_700 : decode cL_law 700 = .ok (.iaload, 1) := by decide +kernel
theorem dL_law_701 : decode cL_law 701 = .ok (.aload_n 3, 1) := by decide +kernel
theorem dL_law_702 : decode cL_law 702 = .ok (.invokestatic 126, 3) := by decide +kernel
theorem dL_law_705 : decode cL_law 705 = .ok (.istore 5, 2) := by decide +kernel
theorem dL_law_707 : decode cL_law 707 = .ok (.aload_n 2, 1) := by decide +kernel
theorem dL_law_708 : decode cL_law 708 = .ok (.aload_n 0, 1) := by decide +kernel
theorem dL_law_709 : decode cL_law 709 = .ok (.iload 4, 2) := by decide +kernel
theorem dL_law_711 : decode cL_law 711 = .ok (.iconst 1, 1) := by decide +kernel
theorem dL_law_712 : decode cL_law 712 = .ok (.iadd, 1) := by decide +kernel
theorem dL_law_713 : decode cL_law 713 = .ok (.iaload, 1) := by decide +kernel
theorem dL_law_714 : decode cL_law 714 = .ok (.invokevirtual 128, 3) := by decide +kernel
theorem dL_law_717 : decode cL_law 717 = .ok (.istore 6, 2) := by decide +kernel
theorem dL_law_719 : decode cL_law 719 = .ok (.aload_n 2, 1) := by decide +kernel
theorem dL_law_720 : decode cL_law 720 = .ok (.invokevirtual 90, 3) := by decide +kernel
theorem dL_law_723 : decode cL_law 723 = .ok (.iload 5, 2) := by decide +kernel
theorem dL_law_725 : decode cL_law 725 = .ok (.if_icmp .eq 5, 3) := by decide +kernel
theorem dL_law_728 : decode cL_law 728 = .ok (.iconst 0, 1) := by decide +kernel
theorem dL_law_729 : decode cL_law 729 = .ok (.ireturn, 1) := by decide +kernel
theorem dL_law_730 : decode cL_law 730 = .ok (.iload 5, 2) := by decide +kernel
theorem dL_law_732 : decode cL_law 732 = .ok (.ifCond .ne 15, 3) := by decide +kernel
theorem dL_law_735 : decode cL_law 735 = .ok (.aload_n 3, 1) := by decide +kernel
theorem dL_law_736 : decode cL_law 736 = .ok (.iconst 0, 1) := by decide +kernel
theorem dL_law_737 : decode cL_law 737 = .ok (.laload, 1) := by decide +kernel
theorem dL_law_738 : decode cL_law 738 = .ok (.iload 6, 2) := by decide +kernel
theorem dL_law_740 : decode cL_law 740 = .ok (.i2l, 1) := by decide +kernel
theorem dL_law_741 : decode cL_law 741 = .ok (.lcmp, 1) := by decide +kernel
theorem dL_law_742 : decode cL_law 742 = .ok (.ifCond .eq 5, 3) := by decide +kernel
theorem dL_law_745 : decode cL_law 745 = .ok (.iconst 0, 1) := by decide +kernel
theorem dL_law_746 : decode cL_law 746 = .ok (.ireturn, 1) := by decide +kernel
theorem dL_law_747 : decode cL_law 747 = .ok (.goto 799, 3) := by decide +kernel
theorem dL_law_750 : decode cL_law 750 = .ok (.aload_n 1, 1) := by decide +kernel
theorem dL_law_751 : decode cL_law 751 = .ok (.aload_n 3, 1) := by decide +kernel
theorem dL_law_752 : decode cL_law 752 = .ok (.invokestatic 129, 3) := by decide +kernel
theorem dL_law_755 : decode cL_law 755 = .ok (.istore 5, 2) := by decide +kernel
theorem dL_law_757 : decode cL_law 757 = .ok (.aload_n 2, 1) := by decide +kernel
theorem dL_law_758 : decode cL_law 758 = .ok (.invokevirtual 131, 3) := by decide +kernel
theorem dL_law_761 : decode cL_law 761 = .ok (.istore 6, 2) := by decide +kernel
theorem dL_law_763 : decode cL_law 763 = .ok (.aload_n 2, 1) := by decide +kernel
theorem dL_law_764 : decode cL_law 764 = .ok (.invokevirtual 90, 3) := by decide +kernel
theorem dL_law_767 : decode cL_law 767 = .ok (.iload 5, 2) := by decide +kernel
theorem dL_law_769 : decode cL_law 769 = .ok (.if_icmp .eq 5, 3) := by decide +kernel
theorem dL_law_772 : decode cL_law 772 = .ok (.iconst 0, 1) := by decide +kernel
theorem dL_law_773 : decode cL_law 773 = .ok (.ireturn, 1) := by decide +kernel
theorem dL_law_774 : decode cL_law 774 = .ok (.iload 5, 2) := by decide +kernel
theorem dL_law_776 : decode cL_law 776 = .ok (.ifCond .ne 15, 3) := by decide +kernel
theorem dL_law_779 : decode cL_law 779 = .ok (.aload_n 3, 1) := by decide +kernel
theorem dL_law_780 : decode cL_law 780 = .ok (.iconst 0, 1) := by decide +kernel
theorem dL_law_781 : decode cL_law 781 = .ok (.laload, 1) := by decide +kernel
theorem dL_law_782 : decode cL_law 782 = .ok (.iload 6, 2) := by decide +kernel
theorem dL_law_784 : decode cL_law 784 = .ok (.i2l, 1) := by decide +kernel
theorem dL_law_785 : decode cL_law 785 = .ok (.lcmp, 1) := by decide +kernel
theorem dL_law_786 : decode cL_law 786 = .ok (.ifCond .eq 5, 3) := by decide +kernel
theorem dL_law_789 : decode cL_law 789 = .ok (.iconst 0, 1) := by decide +kernel
theorem dL_law_790 : decode cL_law 790 = .ok (.ireturn, 1) := by decide +kernel
theorem dL_law_791 : decode cL_law 791 = .ok (.goto 755, 3) := by decide +kernel
theorem dL_law_794 : decode cL_law 794 = .ok (.aload_n 1, 1) := by decide +kernel
theorem dL_law_795 : decode cL_law 795 = .ok (.invokevirtual 132, 3) := by decide +kernel
theorem dL_law_798 : decode cL_law 798 = .ok (.aload_n 2, 1) := by decide +kernel
theorem dL_law_799 : decode cL_law 799 = .ok (.invokevirtual 135, 3) := by decide +kernel
theorem dL_law_802 : decode cL_law 802 = .ok (.if_icmp .eq 744, 3) := by decide +kernel
theorem dL_law_805 : decode cL_law 805 = .ok (.iconst 0, 1) := by decide +kernel
theorem dL_law_806 : decode cL_law 806 = .ok (.ireturn, 1) := by decide +kernel
theorem dL_law_807 : decode cL_law 807 = .ok (.aload_n 1, 1) := by decide +kernel
theorem dL_law_808 : decode cL_law 808 = .ok (.aload_n 3, 1) := by decide +kernel
theorem dL_law_809 : decode cL_law 809 = .ok (.invokestatic 136, 3) := by decide +kernel
theorem dL_law_812 : decode cL_law 812 = .ok (.istore 5, 2) := by decide +kernel
theorem dL_law_814 : decode cL_law 814 = .ok (.aload_n 2, 1) := by decide +kernel
theorem dL_law_815 : decode cL_law 815 = .ok (.invokevirtual 138, 3) := by decide +kernel
theorem dL_law_818 : decode cL_law 818 = .ok (.istore 6, 2) := by decide +kernel
theorem dL_law_820 : decode cL_law 820 = .ok (.aload_n 2, 1) := by decide +kernel
theorem dL_law_821 : decode cL_law 821 = .ok (.invokevirtual 90, 3) := by decide +kernel
theorem dL_law_824 : decode cL_law 824 = .ok (.iload 5, 2) := by decide +kernel
theorem dL_law_826 : decode cL_law 826 = .ok (.if_icmp .eq 5, 3) := by decide +kernel
theorem dL_law_829 : decode cL_law 829 = .ok (.iconst 0, 1) := by decide +kernel
theorem dL_law_830 : decode cL_law 830 = .ok (.ireturn, 1) := by decide +kernel
theorem dL_law_831 : decode cL_law 831 = .ok (.iload 5, 2) := by decide +kernel
theorem dL_law_833 : decode cL_law 833 = .ok (.ifCond .ne 15, 3) := by decide +kernel
theorem dL_law_836 : decode cL_law 836 = .ok (.aload_n 3, 1) := by decide +kernel
theorem dL_law_837 : decode cL_law 837 = .ok (.iconst 0, 1) := by decide +kernel
theorem dL_law_838 : decode cL_law 838 = .ok (.laload, 1) := by decide +kernel
theorem dL_law_839 : decode cL_law 839 = .ok (.iload 6, 2) := by decide +kernel
theorem dL_law_841 : decode cL_law 841 = .ok (.i2l, 1) := by decide +kernel
theorem dL_law_842 : decode cL_law 842 = .ok (.lcmp, 1) := by decide +kernel
theorem dL_law_843 : decode cL_law 843 = .ok (.ifCond .eq 5, 3) := by decide +kernel
theorem dL_law_846 : decode cL_law 846 = .ok (.iconst 0, 1) := by decide +kernel
theorem dL_law_847 : decode cL_law 847 = .ok (.ireturn, 1) := by decide +kernel
theorem dL_law_848 : decode cL_law 848 = .ok (.goto 698, 3) := by decide +kernel
theorem dL_law_851 : decode cL_law 851 = .ok (.aload_n 1, 1) := by decide +kernel
theorem dL_law_852 : decode cL_law 852 = .ok (.aload_n 0, 1) := by decide +kernel
theorem dL_law_853 : decode cL_law 853 = .ok (.iload 4, 2) := by decide +kernel
theorem dL_law_855 : decode cL_law 855 = .ok (.iconst 1, 1) := by decide +kernel
theorem dL_law_856 : decode cL_law 856 = .ok (.iadd, 1) := by decide +kernel
theorem dL_law_857 : decode cL_law 857 = .ok (.iaload, 1) := by decide +kernel
theorem dL_law_858 : decode cL_law 858 = .ok (.aload_n 0, 1) := by decide +kernel
theorem dL_law_859 : decode cL_law 859 = .ok (.iload 4, 2) := by decide +kernel
theorem dL_law_861 : decode cL_law 861 = .ok (.iconst 2, 1) := by decide +kernel
theorem dL_law_862 : decode cL_law 862 = .ok (.iadd, 1) := by decide +kernel
theorem dL_law_863 : decode cL_law 863 = .ok (.iaload, 1) := by decide +kernel
theorem dL_law_864 : decode cL_law 864 = .ok (.aload_n 0, 1) := by decide +kernel
theorem dL_law_865 : decode cL_law 865 = .ok (.iload 4, 2) := by decide +kernel
theorem dL_law_867 : decode cL_law 867 = .ok (.iconst 3, 1) := by decide +kernel
theorem dL_law_868 : decode cL_law 868 = .ok (.iadd, 1) := by decide +kernel
theorem dL_law_869 : decode cL_law 869 = .ok (.iaload, 1) := by decide +kernel
theorem dL_law_870 : decode cL_law 870 = .ok (.aload_n 3, 1) := by decide +kernel
theorem dL_law_871 : decode cL_law 871 = .ok (.invokestatic 139, 3) := by decide +kernel
theorem dL_law_874 : decode cL_law 874 = .ok (.istore 5, 2) := by decide +kernel
theorem dL_law_876 : decode cL_law 876 = .ok (.aload_n 2, 1) := by decide +kernel
theorem dL_law_877 : decode cL_law 877 = .ok (.aload_n 0, 1) := by decide +kernel
theorem dL_law_878 : decode cL_law 878 = .ok (.iload 4, 2) := by decide +kernel
theorem dL_law_880 : decode cL_law 880 = .ok (.iconst 1, 1) := by decide +kernel
theorem dL_law_881 : decode cL_law 881 = .ok (.iadd, 1) := by decide +kernel
theorem dL_law_882 : decode cL_law 882 = .ok (.iaload, 1) := by decide +kernel
theorem dL_law_883 : decode cL_law 883 = .ok (.aload_n 0, 1) := by decide +kernel
theorem dL_law_884 : decode cL_law 884 = .ok (.iload 4, 2) := by decide +kernel
theorem dL_law_886 : decode cL_law 886 = .ok (.iconst 2, 1) := by decide +kernel
theorem dL_law_887 : decode cL_law 887 = .ok (.iadd, 1) := by decide +kernel
theorem dL_law_888 : decode cL_law 888 = .ok (.iaload, 1) := by decide +kernel
theorem dL_law_889 : decode cL_law 889 = .ok (.aload_n 0, 1) := by decide +kernel
theorem dL_law_890 : decode cL_law 890 = .ok (.iload 4, 2) := by decide +kernel
theorem dL_law_892 : decode cL_law 892 = .ok (.iconst 3, 1) := by decide +kernel
theorem dL_law_893 : decode cL_law 893 = .ok (.iadd, 1) := by decide +kernel
theorem dL_law_894 : decode cL_law 894 = .ok (.iaload, 1) := by decide +kernel
theorem dL_law_895 : decode cL_law 895 = .ok (.invokevirtual 142, 3) := by decide +kernel
theorem dL_law_898 : decode cL_law 898 = .ok (.istore 6, 2) := by decide +kernel
theorem dL_law_900 : decode cL_law 900 = .ok (.aload_n 2, 1) := by decide +kernel
theorem dL_law_901 : decode cL_law 901 = .ok (.invokevirtual 90, 3) := by decide +kernel
theorem dL_law_904 : decode cL_law 904 = .ok (.iload 5, 2) := by decide +kernel
theorem dL_law_906 : decode cL_law 906 = .ok (.if_icmp .eq 5, 3) := by decide +kernel
theorem dL_law_909 : decode cL_law 909 = .ok (.iconst 0, 1) := by decide +kernel
theorem dL_law_910 : decode cL_law 910 = .ok (.ireturn, 1) := by decide +kernel
theorem dL_law_911 : decode cL_law 911 = .ok (.iload 5, 2) := by decide +kernel
theorem dL_law_913 : decode cL_law 913 = .ok (.ifCond .ne 15, 3) := by decide +kernel
theorem dL_law_916 : decode cL_law 916 = .ok (.aload_n 3, 1) := by decide +kernel
theorem dL_law_917 : decode cL_law 917 = .ok (.iconst 0, 1) := by decide +kernel
theorem dL_law_918 : decode cL_law 918 = .ok (.laload, 1) := by decide +kernel
theorem dL_law_919 : decode cL_law 919 = .ok (.iload 6, 2) := by decide +kernel
theorem dL_law_921 : decode cL_law 921 = .ok (.i2l, 1) := by decide +kernel
theorem dL_law_922 : decode cL_law 922 = .ok (.lcmp, 1) := by decide +kernel
theorem dL_law_923 : decode cL_law 923 = .ok (.ifCond .eq 5, 3) := by decide +kernel
theorem dL_law_926 : decode cL_law 926 = .ok (.iconst 0, 1) := by decide +kernel
theorem dL_law_927 : decode cL_law 927 = .ok (.ireturn, 1) := by decide +kernel
theorem dL_law_928 : decode cL_law 928 = .ok (.goto 618, 3) := by decide +kernel
theorem dL_law_931 : decode cL_law 931 = .ok (.aload_n 1, 1) := by decide +kernel
theorem dL_law_932 : decode cL_law 932 = .ok (.aload_n 0, 1) := by decide +kernel
theorem dL_law_933 : decode cL_law 933 = .ok (.iload 4, 2) := by decide +kernel
theorem dL_law_935 : decode cL_law 935 = .ok (.iconst 1, 1) := by decide +kernel
theorem dL_law_936 : decode cL_law 936 = .ok (.iadd, 1) := by decide +kernel
theorem dL_law_937 : decode cL_law 937 = .ok (.iaload, 1) := by decide +kernel
theorem dL_law_938 : decode cL_law 938 = .ok (.aload_n 0, 1) := by decide +kernel
theorem dL_law_939 : decode cL_law 939 = .ok (.iload 4, 2) := by decide +kernel
theorem dL_law_941 : decode cL_law 941 = .ok (.iconst 2, 1) := by decide +kernel
theorem dL_law_942 : decode cL_law 942 = .ok (.iadd, 1) := by decide +kernel
theorem dL_law_943 : decode cL_law 943 = .ok (.iaload, 1) := by decide +kernel
theorem dL_law_944 : decode cL_law 944 = .ok (.aload_n 0, 1) := by decide +kernel
theorem dL_law_945 : decode cL_law 945 = .ok (.iload 4, 2) := by decide +kernel
theorem dL_law_947 : decode cL_law 947 = .ok (.iconst 3, 1) := by decide +kernel
theorem dL_law_948 : decode cL_law 948 = .ok (.iadd, 1) := by decide +kernel
theorem dL_law_949 : decode cL_law 949 = .ok (.iaload, 1) := by decide +kernel
theorem dL_law_950 : decode cL_law 950 = .ok (.aload_n 3, 1) := by decide +kernel
theorem dL_law_951 : decode cL_law 951 = .ok (.invokestatic 143, 3) := by decide +kernel
theorem dL_law_954 : decode cL_law 954 = .ok (.istore 5, 2) := by decide +kernel
theorem dL_law_956 : decode cL_law 956 = .ok (.aload_n 2, 1) := by decide +kernel
theorem dL_law_957 : decode cL_law 957 = .ok (.aload_n 0, 1) := by decide +kernel
theorem dL_law_958 : decode cL_law 958 = .ok (.iload 4, 2) := by decide +kernel
theorem dL_law_960 : decode cL_law 960 = .ok (.iconst 1, 1) := by decide +kernel
theorem dL_law_961 : decode cL_law 961 = .ok (.iadd, 1) := by decide +kernel
theorem dL_law_962 : decode cL_law 962 = .ok (.iaload, 1) := by decide +kernel
theorem dL_law_963 : decode cL_law 963 = .ok (.aload_n 0, 1) := by decide +kernel
theorem dL_law_964 : decode cL_law 964 = .ok (.iload 4, 2) := by decide +kernel
theorem dL_law_966 : decode cL_law 966 = .ok (.iconst 2, 1) := by decide +kernel
theorem dL_law_967 : decode cL_law 967 = .ok (.iadd, 1) := by decide +kernel
theorem dL_law_968 : decode cL_law 968 = .ok (.iaload, 1) := by decide +kernel
theorem dL_law_969 : decode cL_law 969 = .ok (.aload_n 0, 1) := by decide +kernel
theorem dL_law_970 : decode cL_law 970 = .ok (.iload 4, 2) := by decide +kernel
theorem dL_law_972 : decode cL_law 972 = .ok (.iconst 3, 1) := by decide +kernel
theorem dL_law_973 : decode cL_law 973 = .ok (.iadd, 1) := by decide +kernel
theorem dL_law_974 : decode cL_law 974 = .ok (.iaload, 1) := by decide +kernel
theorem dL_law_975 : decode cL_law 975 = .ok (.invokevirtual 145, 3) := by decide +kernel
theorem dL_law_978 : decode cL_law 978 = .ok (.istore 6, 2) := by decide +kernel
theorem dL_law_980 : decode cL_law 980 = .ok (.aload_n 2, 1) := by decide +kernel
theorem dL_law_981 : decode cL_law 981 = .ok (.invokevirtual 90, 3) := by decide +kernel
theorem dL_law_984 : decode cL_law 984 = .ok (.iload 5, 2) := by decide +kernel
theorem dL_law_986 : decode cL_law 986 = .ok (.if_icmp .eq 5, 3) := by decide +kernel
theorem dL_law_989 : decode cL_law 989 = .ok (.iconst 0, 1) := by decide +kernel
theorem dL_law_990 : decode cL_law 990 = .ok (.ireturn, 1) := by decide +kernel
theorem dL_law_991 : decode cL_law 991 = .ok (.iload 5, 2) := by decide +kernel
theorem dL_law_993 : decode cL_law 993 = .ok (.ifCond .ne 15, 3) := by decide +kernel
theorem dL_law_996 : decode cL_law 996 = .ok (.aload_n 3, 1) := by decide +kernel
theorem dL_law_997 : decode cL_law 997 = .ok (.iconst 0, 1) := by decide +kernel
theorem dL_law_998 : decode cL_law 998 = .ok (.laload, 1) := by decide +kernel
theorem dL_law_999 : decode cL_law 999 = .ok (.iload 6, 2) := by decide +kernel
theorem dL_law_1001 : decode cL_law 1001 = .ok (.i2l, 1) := by decide +kernel
theorem dL_law_1002 : decode cL_law 1002 = .ok (.lcmp, 1) := by decide +kernel
theorem dL_law_1003 : decode cL_law 1003 = .ok (.ifCond .eq 5, 3) := by decide +kernel
theorem dL_law_1006 : decode cL_law 1006 = .ok (.iconst 0, 1) := by decide +kernel
theorem dL_law_1007 : decode cL_law 1007 = .ok (.ireturn, 1) := by decide +kernel
theorem dL_law_1008 : decode cL_law 1008 = .ok (.goto 538, 3) := by decide +kernel
theorem dL_law_1011 : decode cL_law 1011 = .ok (.aload_n 1, 1) := by decide +kernel
theorem dL_law_1012 : decode cL_law 1012 = .ok (.aload_n 0, 1) := by decide +kernel
theorem dL_law_1013 : decode cL_law 1013 = .ok (.iload 4, 2) := by decide +kernel
theorem dL_law_1015 : decode cL_law 1015 = .ok (.iconst 1, 1) := by decide +kernel
theorem dL_law_1016 : decode cL_law 1016 = .ok (.iadd, 1) := by decide +kernel
theorem dL_law_1017 : decode cL_law 1017 = .ok (.iaload, 1) := by decide +kernel
theorem dL_law_1018 : decode cL_law 1018 = .ok (.aload_n 0, 1) := by decide +kernel
theorem dL_law_1019 : decode cL_law 1019 = .ok (.iload 4, 2) := by decide +kernel
theorem dL_law_1021 : decode cL_law 1021 = .ok (.iconst 2, 1) := by decide +kernel
theorem dL_law_1022 : decode cL_law 1022 = .ok (.iadd, 1) := by decide +kernel
theorem dL_law_1023 : decode cL_law 1023 = .ok (.iaload, 1) := by decide +kernel
theorem dL_law_1024 : decode cL_law 1024 = .ok (.aload_n 3, 1) := by decide +kernel
theorem dL_law_1025 : decode cL_law 1025 = .ok (.invokestatic 146, 3) := by decide +kernel
theorem dL_law_1028 : decode cL_law 1028 = .ok (.istore 5, 2) := by decide +kernel
theorem dL_law_1030 : decode cL_law 1030 = .ok (.aload_n 2, 1) := by decide +kernel
theorem dL_law_1031 : decode cL_law 1031 = .ok (.aload_n 0, 1) := by decide +kernel
theorem dL_law_1032 : decode cL_law 1032 = .ok (.iload 4, 2) := by decide +kernel
theorem dL_law_1034 : decode cL_law 1034 = .ok (.iconst 1, 1) := by decide +kernel
theorem dL_law_1035 : decode cL_law 1035 = .ok (.iadd, 1) := by decide +kernel
theorem dL_law_1036 : decode cL_law 1036 = .ok (.iaload, 1) := by decide +kernel
theorem dL_law_1037 : decode cL_law 1037 = .ok (.aload_n 0, 1) := by decide +kernel
theorem dL_law_1038 : decode cL_law 1038 = .ok (.iload 4, 2) := by decide +kernel
theorem dL_law_1040 : decode cL_law 1040 = .ok (.iconst 2, 1) := by decide +kernel
theorem dL_law_1041 : decode cL_law 1041 = .ok (.iadd, 1) := by decide +kernel
theorem dL_law_1042 : decode cL_law 1042 = .ok (.iaload, 1) := by decide +kernel
theorem dL_law_1043 : decode cL_law 1043 = .ok (.invokevirtual 148, 3) := by decide +kernel
theorem dL_law_1046 : decode cL_law 1046 = .ok (.istore 6, 2) := by decide +kernel
theorem dL_law_1048 : decode cL_law 1048 = .ok (.aload_n 2, 1) := by decide +kernel
theorem dL_law_1049 : decode cL_law 1049 = .ok (.invokevirtual 90, 3) := by decide +kernel
theorem dL_law_1052 : decode cL_law 1052 = .ok (.iload 5, 2) := by decide +kernel
theorem dL_law_1054 : decode cL_law 1054 = .ok (.if_icmp .eq 5, 3) := by decide +kernel
theorem dL_law_1057 : decode cL_law 1057 = .ok (.iconst 0, 1) := by decide +kernel
theorem dL_law_1058 : decode cL_law 1058 = .ok (.ireturn, 1) := by decide +kernel
theorem dL_law_1059 : decode cL_law 1059 = .ok (.iload 5, 2) := by decide +kernel
theorem dL_law_1061 : decode cL_law 1061 = .ok (.ifCond .ne 15, 3) := by decide +kernel
theorem dL_law_1064 : decode cL_law 1064 = .ok (.aload_n 3, 1) := by decide +kernel
theorem dL_law_1065 : decode cL_law 1065 = .ok (.iconst 0, 1) := by decide +kernel
theorem dL_law_1066 : decode cL_law 1066 = .ok (.laload, 1) := by decide +kernel
theorem dL_law_1067 : decode cL_law 1067 = .ok (.iload 6, 2) := by decide +kernel
theorem dL_law_1069 : decode cL_law 1069 = .ok (.i2l, 1) := by decide +kernel
theorem dL_law_1070 : decode cL_law 1070 = .ok (.lcmp, 1) := by decide +kernel
theorem dL_law_1071 : decode cL_law 1071 = .ok (.ifCond .eq 5, 3) := by decide +kernel
theorem dL_law_1074 : decode cL_law 1074 = .ok (.iconst 0, 1) := by decide +kernel
theorem dL_law_1075 : decode cL_law 1075 = .ok (.ireturn, 1) := by decide +kernel
theorem dL_law_1076 : decode cL_law 1076 = .ok (.goto 470, 3) := by decide +kernel
theorem dL_law_1079 : decode cL_law 1079 = .ok (.aload_n 1, 1) := by decide +kernel
theorem dL_law_1080 : decode cL_law 1080 = .ok (.aload_n 0, 1) := by decide +kernel
theorem dL_law_1081 : decode cL_law 1081 = .ok (.iload 4, 2) := by decide +kernel
theorem dL_law_1083 : decode cL_law 1083 = .ok (.iconst 1, 1) := by decide +kernel
theorem dL_law_1084 : decode cL_law 1084 = .ok (.iadd, 1) := by decide +kernel
theorem dL_law_1085 : decode cL_law 1085 = .ok (.iaload, 1) := by decide +kernel
theorem dL_law_1086 : decode cL_law 1086 = .ok (.aload_n 0, 1) := by decide +kernel
theorem dL_law_1087 : decode cL_law 1087 = .ok (.iload 4, 2) := by decide +kernel
theorem dL_law_1089 : decode cL_law 1089 = .ok (.iconst 2, 1) := by decide +kernel
theorem dL_law_1090 : decode cL_law 1090 = .ok (.iadd, 1) := by decide +kernel
theorem dL_law_1091 : decode cL_law 1091 = .ok (.iaload, 1) := by decide +kernel
theorem dL_law_1092 : decode cL_law 1092 = .ok (.aload_n 3, 1) := by decide +kernel
theorem dL_law_1093 : decode cL_law 1093 = .ok (.invokestatic 149, 3) := by decide +kernel
theorem dL_law_1096 : decode cL_law 1096 = .ok (.istore 5, 2) := by decide +kernel
theorem dL_law_1098 : decode cL_law 1098 = .ok (.aload_n 2, 1) := by decide +kernel
theorem dL_law_1099 : decode cL_law 1099 = .ok (.aload_n 0, 1) := by decide +kernel
theorem dL_law_1100 : decode cL_law 1100 = .ok (.iload 4, 2) := by decide +kernel
theorem dL_law_1102 : decode cL_law 1102 = .ok (.iconst 1, 1) := by decide +kernel
theorem dL_law_1103 : decode cL_law 1103 = .ok (.iadd, 1) := by decide +kernel
theorem dL_law_1104 : decode cL_law 1104 = .ok (.iaload, 1) := by decide +kernel
theorem dL_law_1105 : decode cL_law 1105 = .ok (.aload_n 0, 1) := by decide +kernel
theorem dL_law_1106 : decode cL_law 1106 = .ok (.iload 4, 2) := by decide +kernel
theorem dL_law_1108 : decode cL_law 1108 = .ok (.iconst 2, 1) := by decide +kernel
theorem dL_law_1109 : decode cL_law 1109 = .ok (.iadd, 1) := by decide +kernel
theorem dL_law_1110 : decode cL_law 1110 = .ok (.iaload, 1) := by decide +kernel
theorem dL_law_1111 : decode cL_law 1111 = .ok (.invokevirtual 151, 3) := by decide +kernel
theorem dL_law_1114 : decode cL_law 1114 = .ok (.istore 6, 2) := by decide +kernel
theorem dL_law_1116 : decode cL_law 1116 = .ok (.aload_n 2, 1) := by decide +kernel
theorem dL_law_1117 : decode cL_law 1117 = .ok (.invokevirtual 90, 3) := by decide +kernel
theorem dL_law_1120 : decode cL_law 1120 = .ok (.iload 5, 2) := by decide +kernel
theorem dL_law_1122 : decode cL_law 1122 = .ok (.if_icmp .eq 5, 3) := by decide +kernel
theorem dL_law_1125 : decode cL_law 1125 = .ok (.iconst 0, 1) := by decide +kernel
theorem dL_law_1126 : decode cL_law 1126 = .ok (.ireturn, 1) := by decide +kernel
theorem dL_law_1127 : decode cL_law 1127 = .ok (.iload 5, 2) := by decide +kernel
theorem dL_law_1129 : decode cL_law 1129 = .ok (.ifCond .ne 15, 3) := by decide +kernel
theorem dL_law_1132 : decode cL_law 1132 = .ok (.aload_n 3, 1) := by decide +kernel
theorem dL_law_1133 : decode cL_law 1133 = .ok (.iconst 0, 1) := by decide +kernel
theorem dL_law_1134 : decode cL_law 1134 = .ok (.laload, 1) := by decide +kernel
theorem dL_law_1135 : decode cL_law 1135 = .ok (.iload 6, 2) := by decide +kernel
theorem dL_law_1137 : decode cL_law 1137 = .ok (.i2l, 1) := by decide +kernel
theorem dL_law_1138 : decode cL_law 1138 = .ok (.lcmp, 1) := by decide +kernel
theorem dL_law_1139 : decode cL_law 1139 = .ok (.ifCond .eq 5, 3) := by decide +kernel
theorem dL_law_1142 : decode cL_law 1142 = .ok (.iconst 0, 1) := by decide +kernel
theorem dL_law_1143 : decode cL_law 1143 = .ok (.ireturn, 1) := by decide +kernel
theorem dL_law_1144 : decode cL_law 1144 = .ok (.goto 402, 3) := by decide +kernel
theorem dL_law_1147 : decode cL_law 1147 = .ok (.aload_n 1, 1) := by decide +kernel
theorem dL_law_1148 : decode cL_law 1148 = .ok (.aload_n 0, 1) := by decide +kernel
theorem dL_law_1149 : decode cL_law 1149 = .ok (.iload 4, 2) := by decide +kernel
theorem dL_law_1151 : decode cL_law 1151 = .ok (.iconst 1, 1) := by decide +kernel
theorem dL_law_1152 : decode cL_law 1152 = .ok (.iadd, 1) := by decide +kernel
theorem dL_law_1153 : decode cL_law 1153 = .ok (.iaload, 1) := by decide +kernel
theorem dL_law_1154 : decode cL_law 1154 = .ok (.aload_n 3, 1) := by decide +kernel
theorem dL_law_1155 : decode cL_law 1155 = .ok (.invokestatic 152, 3) := by decide +kernel
theorem dL_law_1158 : decode cL_law 1158 = .ok (.istore 5, 2) := by decide +kernel
theorem dL_law_1160 : decode cL_law 1160 = .ok (.aload_n 2, 1) := by decide +kernel
theorem dL_law_1161 : decode cL_law 1161 = .ok (.aload_n 0, 1) := by decide +kernel
theorem dL_law_1162 : decode cL_law 1162 = .ok (.iload 4, 2) := by decide +kernel
theorem dL_law_1164 : decode cL_law 1164 = .ok (.iconst 1, 1) := by decide +kernel
theorem dL_law_1165 : decode cL_law 1165 = .ok (.iadd, 1) := by decide +kernel
theorem dL_law_1166 : decode cL_law 1166 = .ok (.iaload, 1) := by decide +kernel
theorem dL_law_1167 : decode cL_law 1167 = .ok (.invokevirtual 154, 3) := by decide +kernel
theorem dL_law_1170 : decode cL_law 1170 = .ok (.istore 6, 2) := by decide +kernel
theorem dL_law_1172 : decode cL_law 1172 = .ok (.aload_n 2, 1) := by decide +kernel
theorem dL_law_1173 : decode cL_law 1173 = .ok (.invokevirtual 90, 3) := by decide +kernel
theorem dL_law_1176 : decode cL_law 1176 = .ok (.iload 5, 2) := by decide +kernel
theorem dL_law_1178 : decode cL_law 1178 = .ok (.if_icmp .eq 5, 3) := by decide +kernel
theorem dL_law_1181 : decode cL_law 1181 = .ok (.iconst 0, 1) := by decide +kernel
theorem dL_law_1182 : decode cL_law 1182 = .ok (.ireturn, 1) := by decide +kernel
theorem dL_law_1183 : decode cL_law 1183 = .ok (.iload 5, 2) := by decide +kernel
theorem dL_law_1185 : decode cL_law 1185 = .ok (.ifCond .ne 15, 3) := by decide +kernel
theorem dL_law_1188 : decode cL_law 1188 = .ok (.aload_n 3, 1) := by decide +kernel
theorem dL_law_1189 : decode cL_law 1189 = .ok (.iconst 0, 1) := by decide +kernel
theorem dL_law_1190 : decode cL_law 1190 = .ok (.laload, 1) := by decide +kernel
theorem dL_law_1191 : decode cL_law 1191 = .ok (.iload 6, 2) := by decide +kernel
theorem dL_law_1193 : decode cL_law 1193 = .ok (.i2l, 1) := by decide +kernel
theorem dL_law_1194 : decode cL_law 1194 = .ok (.lcmp, 1) := by decide +kernel
theorem dL_law_1195 : decode cL_law 1195 = .ok (.ifCond .eq 5, 3) := by decide +kernel
theorem dL_law_1198 : decode cL_law 1198 = .ok (.iconst 0, 1) := by decide +kernel
theorem dL_law_1199 : decode cL_law 1199 = .ok (.ireturn, 1) := by decide +kernel
theorem dL_law_1200 : decode cL_law 1200 = .ok (.goto 346, 3) := by decide +kernel
theorem dL_law_1203 : decode cL_law 1203 = .ok (.aload_n 1, 1) := by decide +kernel
theorem dL_law_1204 : decode cL_law 1204 = .ok (.aload_n 0, 1) := by decide +kernel
theorem dL_law_1205 : decode cL_law 1205 = .ok (.iload 4, 2) := by decide +kernel
theorem dL_law_1207 : decode cL_law 1207 = .ok (.iconst 1, 1) := by decide +kernel
theorem dL_law_1208 : decode cL_law 1208 = .ok (.iadd, 1) := by decide +kernel
theorem dL_law_1209 : decode cL_law 1209 = .ok (.iaload, 1) := by decide +kernel
theorem dL_law_1210 : decode cL_law 1210 = .ok (.aload_n 0, 1) := by decide +kernel
theorem dL_law_1211 : decode cL_law 1211 = .ok (.iload 4, 2) := by decide +kernel
theorem dL_law_1213 : decode cL_law 1213 = .ok (.iconst 2, 1) := by decide +kernel
theorem dL_law_1214 : decode cL_law 1214 = .ok (.iadd, 1) := by decide +kernel
theorem dL_law_1215 : decode cL_law 1215 = .ok (.iaload, 1) := by decide +kernel
theorem dL_law_1216 : decode cL_law 1216 = .ok (.aload_n 0, 1) := by decide +kernel
theorem dL_law_1217 : decode cL_law 1217 = .ok (.iload 4, 2) := by decide +kernel
theorem dL_law_1219 : decode cL_law 1219 = .ok (.iconst 3, 1) := by decide +kernel
theorem dL_law_1220 : decode cL_law 1220 = .ok (.iadd, 1) := by decide +kernel
theorem dL_law_1221 : decode cL_law 1221 = .ok (.iaload, 1) := by decide +kernel
theorem dL_law_1222 : decode cL_law 1222 = .ok (.ifCond .eq 7, 3) := by decide +kernel
theorem dL_law_1225 : decode cL_law 1225 = .ok (.iconst 1, 1) := by decide +kernel
theorem dL_law_1226 : decode cL_law 1226 = .ok (.goto 4, 3) := by decide +kernel
theorem dL_law_1229 : decode cL_law 1229 = .ok (.iconst 0, 1) := by decide +kernel
theorem dL_law_1230 : decode cL_law 1230 = .ok (.aload_n 3, 1) := by decide +kernel
theorem dL_law_1231 : decode cL_law 1231 = .ok (.invokestatic 155, 3) := by decide +kernel
theorem dL_law_1234 : decode cL_law 1234 = .ok (.istore 5, 2) := by decide +kernel
theorem dL_law_1236 : decode cL_law 1236 = .ok (.aload_n 2, 1) := by decide +kernel
theorem dL_law_1237 : decode cL_law 1237 = .ok (.aload_n 0, 1) := by decide +kernel
theorem dL_law_1238 : decode cL_law 1238 = .ok (.iload 4, 2) := by decide +kernel
theorem dL_law_1240 : decode cL_law 1240 = .ok (.iconst 1, 1) := by decide +kernel
theorem dL_law_1241 : decode cL_law 1241 = .ok (.iadd, 1) := by decide +kernel
theorem dL_law_1242 : decode cL_law 1242 = .ok (.iaload, 1) := by decide +kernel
theorem dL_law_1243 : decode cL_law 1243 = .ok (.aload_n 0, 1) := by decide +kernel
theorem dL_law_1244 : decode cL_law 1244 = .ok (.iload 4, 2) := by decide +kernel
theorem dL_law_1246 : decode cL_law 1246 = .ok (.iconst 2, 1) := by decide +kernel
theorem dL_law_1247 : decode cL_law 1247 = .ok (.iadd, 1) := by decide +kernel
theorem dL_law_1248 : decode cL_law 1248 = .ok (.iaload, 1) := by decide +kernel
theorem dL_law_1249 : decode cL_law 1249 = .ok (.aload_n 0, 1) := by decide +kernel
theorem dL_law_1250 : decode cL_law 1250 = .ok (.iload 4, 2) := by decide +kernel
theorem dL_law_1252 : decode cL_law 1252 = .ok (.iconst 3, 1) := by decide +kernel
theorem dL_law_1253 : decode cL_law 1253 = .ok (.iadd, 1) := by decide +kernel
theorem dL_law_1254 : decode cL_law 1254 = .ok (.iaload, 1) := by decide +kernel
theorem dL_law_1255 : decode cL_law 1255 = .ok (.ifCond .eq 7, 3) := by decide +kernel
theorem dL_law_1258 : decode cL_law 1258 = .ok (.iconst 1, 1) := by decide +kernel
theorem dL_law_1259 : decode cL_law 1259 = .ok (.goto 4, 3) := by decide +kernel
theorem dL_law_1262 : decode cL_law 1262 = .ok (.iconst 0, 1) := by decide +kernel
theorem dL_law_1263 : decode cL_law 1263 = .ok (.invokevirtual 157, 3) := by decide +kernel
theorem dL_law_1266 : decode cL_law 1266 = .ok (.istore 6, 2) := by decide +kernel
theorem dL_law_1268 : decode cL_law 1268 = .ok (.aload_n 2, 1) := by decide +kernel
theorem dL_law_1269 : decode cL_law 1269 = .ok (.invokevirtual 90, 3) := by decide +kernel
theorem dL_law_1272 : decode cL_law 1272 = .ok (.iload 5, 2) := by decide +kernel
theorem dL_law_1274 : decode cL_law 1274 = .ok (.if_icmp .eq 5, 3) := by decide +kernel
theorem dL_law_1277 : decode cL_law 1277 = .ok (.iconst 0, 1) := by decide +kernel
theorem dL_law_1278 : decode cL_law 1278 = .ok (.ireturn, 1) := by decide +kernel
theorem dL_law_1279 : decode cL_law 1279 = .ok (.iload 5, 2) := by decide +kernel
theorem dL_law_1281 : decode cL_law 1281 = .ok (.ifCond .ne 15, 3) := by decide +kernel
theorem dL_law_1284 : decode cL_law 1284 = .ok (.aload_n 3, 1) := by decide +kernel
theorem dL_law_1285 : decode cL_law 1285 = .ok (.iconst 0, 1) := by decide +kernel
theorem dL_law_1286 : decode cL_law 1286 = .ok (.laload, 1) := by decide +kernel
theorem dL_law_1287 : decode cL_law 1287 = .ok (.iload 6, 2) := by decide +kernel
theorem dL_law_1289 : decode cL_law 1289 = .ok (.i2l, 1) := by decide +kernel
theorem dL_law_1290 : decode cL_law 1290 = .ok (.lcmp, 1) := by decide +kernel
theorem dL_law_1291 : decode cL_law 1291 = .ok (.ifCond .eq 5, 3) := by decide +kernel
theorem dL_law_1294 : decode cL_law 1294 = .ok (.iconst 0, 1) := by decide +kernel
theorem dL_law_1295 : decode cL_law 1295 = .ok (.ireturn, 1) := by decide +kernel
theorem dL_law_1296 : decode cL_law 1296 = .ok (.goto 250, 3) := by decide +kernel
theorem dL_law_1299 : decode cL_law 1299 = .ok (.aload_n 1, 1) := by decide +kernel
theorem dL_law_1300 : decode cL_law 1300 = .ok (.aload_n 0, 1) := by decide +kernel
theorem dL_law_1301 : decode cL_law 1301 = .ok (.iload 4, 2) := by decide +kernel
theorem dL_law_1303 : decode cL_law 1303 = .ok (.iconst 1, 1) := by decide +kernel
theorem dL_law_1304 : decode cL_law 1304 = .ok (.iadd, 1) := by decide +kernel
theorem dL_law_1305 : decode cL_law 1305 = .ok (.iaload, 1) := by decide +kernel
theorem dL_law_1306 : decode cL_law 1306 = .ok (.aload_n 0, 1) := by decide +kernel
theorem dL_law_1307 : decode cL_law 1307 = .ok (.iload 4, 2) := by decide +kernel
theorem dL_law_1309 : decode cL_law 1309 = .ok (.iconst 2, 1) := by decide +kernel
theorem dL_law_1310 : decode cL_law 1310 = .ok (.iadd, 1) := by decide +kernel
theorem dL_law_1311 : decode cL_law 1311 = .ok (.iaload, 1) := by decide +kernel
theorem dL_law_1312 : decode cL_law 1312 = .ok (.aload_n 3, 1) := by decide +kernel
theorem dL_law_1313 : decode cL_law 1313 = .ok (.invokestatic 158, 3) := by decide +kernel
theorem dL_law_1316 : decode cL_law 1316 = .ok (.istore 5, 2) := by decide +kernel
theorem dL_law_1318 : decode cL_law 1318 = .ok (.aload_n 2, 1) := by decide +kernel
theorem dL_law_1319 : decode cL_law 1319 = .ok (.aload_n 0, 1) := by decide +kernel
theorem dL_law_1320 : decode cL_law 1320 = .ok (.iload 4, 2) := by decide +kernel
theorem dL_law_1322 : decode cL_law 1322 = .ok (.iconst 1, 1) := by decide +kernel
theorem dL_law_1323 : decode cL_law 1323 = .ok (.iadd, 1) := by decide +kernel
theorem dL_law_1324 : decode cL_law 1324 = .ok (.iaload, 1) := by decide +kernel
theorem dL_law_1325 : decode cL_law 1325 = .ok (.aload_n 0, 1) := by decide +kernel
theorem dL_law_1326 : decode cL_law 1326 = .ok (.iload 4, 2) := by decide +kernel
theorem dL_law_1328 : decode cL_law 1328 = .ok (.iconst 2, 1) := by decide +kernel
theorem dL_law_1329 : decode cL_law 1329 = .ok (.iadd, 1) := by decide +kernel
theorem dL_law_1330 : decode cL_law 1330 = .ok (.iaload, 1) := by decide +kernel
theorem dL_law_1331 : decode cL_law 1331 = .ok (.invokevirtual 160, 3) := by decide +kernel
theorem dL_law_1334 : decode cL_law 1334 = .ok (.istore 6, 2) := by decide +kernel
theorem dL_law_1336 : decode cL_law 1336 = .ok (.aload_n 2, 1) := by decide +kernel
theorem dL_law_1337 : decode cL_law 1337 = .ok (.invokevirtual 90, 3) := by decide +kernel
theorem dL_law_1340 : decode cL_law 1340 = .ok (.iload 5, 2) := by decide +kernel
theorem dL_law_1342 : decode cL_law 1342 = .ok (.if_icmp .eq 5, 3) := by decide +kernel
theorem dL_law_1345 : decode cL_law 1345 = .ok (.iconst 0, 1) := by decide +kernel
theorem dL_law_1346 : decode cL_law 1346 = .ok (.ireturn, 1) := by decide +kernel
theorem dL_law_1347 : decode cL_law 1347 = .ok (.iload 5, 2) := by decide +kernel
theorem dL_law_1349 : decode cL_law 1349 = .ok (.ifCond .ne 15, 3) := by decide +kernel
theorem dL_law_1352 : decode cL_law 1352 = .ok (.aload_n 3, 1) := by decide +kernel
theorem dL_law_1353 : decode cL_law 1353 = .ok (.iconst 0, 1) := by decide +kernel
theorem dL_law_1354 : decode cL_law 1354 = .ok (.laload, 1) := by decide +kernel
theorem dL_law_1355 : decode cL_law 1355 = .ok (.iload 6, 2) := by decide +kernel
theorem dL_law_1357 : decode cL_law 1357 = .ok (.i2l, 1) := by decide +kernel
theorem dL_law_1358 : decode cL_law 1358 = .ok (.lcmp, 1) := by decide +kernel
theorem dL_law_1359 : decode cL_law 1359 = .ok (.ifCond .eq 5, 3) := by decide +kernel
theorem dL_law_1362 : decode cL_law 1362 = .ok (.iconst 0, 1) := by decide +kernel
theorem dL_law_1363 : decode cL_law 1363 = .ok (.ireturn, 1) := by decide +kernel
theorem dL_law_1364 : decode cL_law 1364 = .ok (.goto 182, 3) := by decide +kernel
theorem dL_law_1367 : decode cL_law 1367 = .ok (.aload_n 1, 1) := by decide +kernel
theorem dL_law_1368 : decode cL_law 1368 = .ok (.aload_n 0, 1) := by decide +kernel
theorem dL_law_1369 : decode cL_law 1369 = .ok (.iload 4, 2) := by decide +kernel
theorem dL_law_1371 : decode cL_law 1371 = .ok (.iconst 1, 1) := by decide +kernel
theorem dL_law_1372 : decode cL_law 1372 = .ok (.iadd, 1) := by decide +kernel
theorem dL_law_1373 : decode cL_law 1373 = .ok (.iaload, 1) := by decide +kernel
theorem dL_law_1374 : decode cL_law 1374 = .ok (.aload_n 0, 1) := by decide +kernel
theorem dL_law_1375 : decode cL_law 1375 = .ok (.iload 4, 2) := by decide +kernel
theorem dL_law_1377 : decode cL_law 1377 = .ok (.iconst 2, 1) := by decide +kernel
theorem dL_law_1378 : decode cL_law 1378 = .ok (.iadd, 1) := by decide +kernel
theorem dL_law_1379 : decode cL_law 1379 = .ok (.iaload, 1) := by decide +kernel
theorem dL_law_1380 : decode cL_law 1380 = .ok (.aload_n 3, 1) := by decide +kernel
theorem dL_law_1381 : decode cL_law 1381 = .ok (.invokestatic 161, 3) := by decide +kernel
theorem dL_law_1384 : decode cL_law 1384 = .ok (.istore 5, 2) := by decide +kernel
theorem dL_law_1386 : decode cL_law 1386 = .ok (.aload_n 2, 1) := by decide +kernel
theorem dL_law_1387 : decode cL_law 1387 = .ok (.aload_n 0, 1) := by decide +kernel
theorem dL_law_1388 : decode cL_law 1388 = .ok (.iload 4, 2) := by decide +kernel
theorem dL_law_1390 : decode cL_law 1390 = .ok (.iconst 1, 1) := by decide +kernel
theorem dL_law_1391 : decode cL_law 1391 = .ok (.iadd, 1) := by decide +kernel
theorem dL_law_1392 : decode cL_law 1392 = .ok (.iaload, 1) := by decide +kernel
theorem dL_law_1393 : decode cL_law 1393 = .ok (.aload_n 0, 1) := by decide +kernel
theorem dL_law_1394 : decode cL_law 1394 = .ok (.iload 4, 2) := by decide +kernel
theorem dL_law_1396 : decode cL_law 1396 = .ok (.iconst 2, 1) := by decide +kernel
theorem dL_law_1397 : decode cL_law 1397 = .ok (.iadd, 1) := by decide +kernel
theorem dL_law_1398 : decode cL_law 1398 = .ok (.iaload, 1) := by decide +kernel
theorem dL_law_1399 : decode cL_law 1399 = .ok (.invokevirtual 163, 3) := by decide +kernel
theorem dL_law_1402 : decode cL_law 1402 = .ok (.istore 6, 2) := by decide +kernel
theorem dL_law_1404 : decode cL_law 1404 = .ok (.aload_n 2, 1) := by decide +kernel
theorem dL_law_1405 : decode cL_law 1405 = .ok (.invokevirtual 90, 3) := by decide +kernel
theorem dL_law_1408 : decode cL_law 1408 = .ok (.iload 5, 2) := by decide +kernel
theorem dL_law_1410 : decode cL_law 1410 = .ok (.if_icmp .eq 5, 3) := by decide +kernel
theorem dL_law_1413 : decode cL_law 1413 = .ok (.iconst 0, 1) := by decide +kernel
theorem dL_law_1414 : decode cL_law 1414 = .ok (.ireturn, 1) := by decide +kernel
theorem dL_law_1415 : decode cL_law 1415 = .ok (.iload 5, 2) := by decide +kernel
theorem dL_law_1417 : decode cL_law 1417 = .ok (.ifCond .ne 15, 3) := by decide +kernel
theorem dL_law_1420 : decode cL_law 1420 = .ok (.aload_n 3, 1) := by decide +kernel
theorem dL_law_1421 : decode cL_law 1421 = .ok (.iconst 0, 1) := by decide +kernel
theorem dL_law_1422 : decode cL_law 1422 = .ok (.laload, 1) := by decide +kernel
theorem dL_law_1423 : decode cL_law 1423 = .ok (.iload 6, 2) := by decide +kernel
theorem dL_law_1425 : decode cL_law 1425 = .ok (.i2l, 1) := by decide +kernel
theorem dL_law_1426 : decode cL_law 1426 = .ok (.lcmp, 1) := by decide +kernel
theorem dL_law_1427 : decode cL_law 1427 = .ok (.ifCond .eq 5, 3) := by decide +kernel
theorem dL_law_1430 : decode cL_law 1430 = .ok (.iconst 0, 1) := by decide +kernel
theorem dL_law_1431 : decode cL_law 1431 = .ok (.ireturn, 1) := by decide +kernel
theorem dL_law_1432 : decode cL_law 1432 = .ok (.goto 114, 3) := by decide +kernel
theorem dL_law_1435 : decode cL_law 1435 = .ok (.aload_n 1, 1) := by decide +kernel
theorem dL_law_1436 : decode cL_law 1436 = .ok (.aload_n 0, 1) := by decide +kernel
theorem dL_law_1437 : decode cL_law 1437 = .ok (.iload 4, 2) := by decide +kernel
theorem dL_law_1439 : decode cL_law 1439 = .ok (.iconst 1, 1) := by decide +kernel
theorem dL_law_1440 : decode cL_law 1440 = .ok (.iadd, 1) := by decide +kernel
theorem dL_law_1441 : decode cL_law 1441 = .ok (.iaload, 1) := by decide +kernel
theorem dL_law_1442 : decode cL_law 1442 = .ok (.aload_n 3, 1) := by decide +kernel
theorem dL_law_1443 : decode cL_law 1443 = .ok (.invokestatic 164, 3) := by decide +kernel
theorem dL_law_1446 : decode cL_law 1446 = .ok (.istore 5, 2) := by decide +kernel
theorem dL_law_1448 : decode cL_law 1448 = .ok (.aload_n 2, 1) := by decide +kernel
theorem dL_law_1449 : decode cL_law 1449 = .ok (.aload_n 0, 1) := by decide +kernel
theorem dL_law_1450 : decode cL_law 1450 = .ok (.iload 4, 2) := by decide +kernel
theorem dL_law_1452 : decode cL_law 1452 = .ok (.iconst 1, 1) := by decide +kernel
theorem dL_law_1453 : decode cL_law 1453 = .ok (.iadd, 1) := by decide +kernel
theorem dL_law_1454 : decode cL_law 1454 = .ok (.iaload, 1) := by decide +kernel
theorem dL_law_1455 : decode cL_law 1455 = .ok (.invokevirtual 166, 3) := by decide +kernel
theorem dL_law_1458 : decode cL_law 1458 = .ok (.istore 6, 2) := by decide +kernel
theorem dL_law_1460 : decode cL_law 1460 = .ok (.aload_n 2, 1) := by decide +kernel
theorem dL_law_1461 : decode cL_law 1461 = .ok (.invokevirtual 90, 3) := by decide +kernel
theorem dL_law_1464 : decode cL_law 1464 = .ok (.iload 5, 2) := by decide +kernel
theorem dL_law_1466 : decode cL_law 1466 = .ok (.if_icmp .eq 5, 3) := by decide +kernel
theorem dL_law_1469 : decode cL_law 1469 = .ok (.iconst 0, 1) := by decide +kernel
theorem dL_law_1470 : decode cL_law 1470 = .ok (.ireturn, 1) := by decide +kernel
theorem dL_law_1471 : decode cL_law 1471 = .ok (.iload 5, 2) := by decide +kernel
theorem dL_law_1473 : decode cL_law 1473 = .ok (.ifCond .ne 15, 3) := by decide +kernel
theorem dL_law_1476 : decode cL_law 1476 = .ok (.aload_n 3, 1) := by decide +kernel
theorem dL_law_1477 : decode cL_law 1477 = .ok (.iconst 0, 1) := by decide +kernel
theorem dL_law_1478 : decode cL_law 1478 = .ok (.laload, 1) := by decide +kernel
theorem dL_law_1479 : decode cL_law 1479 = .ok (.iload 6, 2) := by decide +kernel
theorem dL_law_1481 : decode cL_law 1481 = .ok (.i2l, 1) := by decide +kernel
theorem dL_law_1482 : decode cL_law 1482 = .ok (.lcmp, 1) := by decide +kernel
theorem dL_law_1483 : decode cL_law 1483 = .ok (.ifCond .eq 5, 3) := by decide +kernel
theorem dL_law_1486 : decode cL_law 1486 = .ok (.iconst 0, 1) := by decide +kernel
theorem dL_law_1487 : decode cL_law 1487 = .ok (.ireturn, 1) := by decide +kernel
theorem dL_law_1488 : decode cL_law 1488 = .ok (.goto 58, 3) := by decide +kernel
theorem dL_law_1491 : decode cL_law 1491 = .ok (.aload_n 1, 1) := by decide +kernel
theorem dL_law_1492 : decode cL_law 1492 = .ok (.invokevirtual 167, 3) := by decide +kernel
theorem dL_law_1495 : decode cL_law 1495 = .ok (.dstore 5, 2) := by decide +kernel
theorem dL_law_1497 : decode cL_law 1497 = .ok (.aload_n 2, 1) := by decide +kernel
theorem dL_law_1498 : decode cL_law 1498 = .ok (.invokevirtual 171, 3) := by decide +kernel
theorem dL_law_1501 : decode cL_law 1501 = .ok (.dstore 7, 2) := by decide +kernel
theorem dL_law_1503 : decode cL_law 1503 = .ok (.dload 5, 2) := by decide +kernel
theorem dL_law_1505 : decode cL_law 1505 = .ok (.dload 7, 2) := by decide +kernel
theorem dL_law_1507 : decode cL_law 1507 = .ok (.dcmp .l, 1) := by decide +kernel
theorem dL_law_1508 : decode cL_law 1508 = .ok (.ifCond .eq 21, 3) := by decide +kernel
theorem dL_law_1511 : decode cL_law 1511 = .ok (.dload 5, 2) := by decide +kernel
theorem dL_law_1513 : decode cL_law 1513 = .ok (.dload 5, 2) := by decide +kernel
theorem dL_law_1515 : decode cL_law 1515 = .ok (.dcmp .l, 1) := by decide +kernel
theorem dL_law_1516 : decode cL_law 1516 = .ok (.ifCond .eq 11, 3) := by decide +kernel
theorem dL_law_1519 : decode cL_law 1519 = .ok (.dload 7, 2) := by decide +kernel
theorem dL_law_1521 : decode cL_law 1521 = .ok (.dload 7, 2) := by decide +kernel
theorem dL_law_1523 : decode cL_law 1523 = .ok (.dcmp .l, 1) := by decide +kernel
theorem dL_law_1524 : decode cL_law 1524 = .ok (.ifCond .ne 5, 3) := by decide +kernel
theorem dL_law_1527 : decode cL_law 1527 = .ok (.iconst 0, 1) := by decide +kernel
theorem dL_law_1528 : decode cL_law 1528 = .ok (.ireturn, 1) := by decide +kernel
theorem dL_law_1529 : decode cL_law 1529 = .ok (.goto 17, 3) := by decide +kernel
theorem dL_law_1532 : decode cL_law 1532 = .ok (.aload_n 1, 1) := by decide +kernel
theorem dL_law_1533 : decode cL_law 1533 = .ok (.invokevirtual 172, 3) := by decide +kernel
theorem dL_law_1536 : decode cL_law 1536 = .ok (.aload_n 2, 1) := by decide +kernel
theorem dL_law_1537 : decode cL_law 1537 = .ok (.invokevirtual 176, 3) := by decide +kernel
theorem dL_law_1540 : decode cL_law 1540 = .ok (.lcmp, 1) := by decide +kernel
theorem dL_law_1541 : decode cL_law 1541 = .ok (.ifCond .eq 5, 3) := by decide +kernel
theorem dL_law_1544 : decode cL_law 1544 = .ok (.iconst 0, 1) := by decide +kernel
theorem dL_law_1545 : decode cL_law 1545 = .ok (.ireturn, 1) := by decide +kernel
theorem dL_law_1546 : decode cL_law 1546 = .ok (.iinc 4 4, 3) := by decide +kernel
theorem dL_law_1549 : decode cL_law 1549 = .ok (.goto (-1526), 3) := by decide +kernel
theorem dL_law_1552 : decode cL_law 1552 = .ok (.iconst 1, 1) := by decide +kernel
theorem dL_law_1553 : decode cL_law 1553 = .ok (.ireturn, 1) := by decide +kernel
