/-! rows that decode each instruction -/
theorem dX0_init_0 : decode cX0_init 0 = .ok (.aload_n 0, 1) := by decide +kernel
theorem dX0_init_1 : decode cX0_init 1 = .ok (.invokespecial 3, 3) := by decide +kernel
theorem dX0_init_4 : decode cX0_init 4 = .ok (.aload_n 0, 1) := by decide +kernel
theorem dX0_init_5 : decode cX0_init 5 = .ok (.bipush 6, 2) := by decide +kernel
theorem dX0_init_7 : decode cX0_init 7 = .ok (.anewarray 9, 3) := by decide +kernel
theorem dX0_init_10 : decode cX0_init 10 = .ok (.putfield 11, 3) := by decide +kernel
theorem dX0_init_13 : decode cX0_init 13 = .ok (.aload_n 0, 1) := by decide +kernel
theorem dX0_init_14 : decode cX0_init 14 = .ok (.new 9, 3) := by decide +kernel
theorem dX0_init_17 : decode cX0_init 17 = .ok (.dup, 1) := by decide +kernel
theorem dX0_init_18 : decode cX0_init 18 = .ok (.invokespecial 17, 3) := by decide +kernel
theorem dX0_init_21 : decode cX0_init 21 = .ok (.putfield 18, 3) := by decide +kernel
theorem dX0_init_24 : decode cX0_init 24 = .ok (.aload_n 0, 1) := by decide +kernel
theorem dX0_init_25 : decode cX0_init 25 = .ok (.iconst 0, 1) := by decide +kernel
theorem dX0_init_26 : decode cX0_init 26 = .ok (.putfield 22, 3) := by decide +kernel
theorem dX0_init_29 : decode cX0_init 29 = .ok (.aload_n 0, 1) := by decide +kernel
theorem dX0_init_30 : decode cX0_init 30 = .ok (.iconst 0, 1) := by decide +kernel
theorem dX0_init_31 : decode cX0_init 31 = .ok (.putfield 26, 3) := by decide +kernel
theorem dX0_init_34 : decode cX0_init 34 = .ok (.aload_n 0, 1) := by decide +kernel
theorem dX0_init_35 : decode cX0_init 35 = .ok (.iconst (-1), 1) := by decide +kernel
theorem dX0_init_36 : decode cX0_init 36 = .ok (.putfield 29, 3) := by decide +kernel
theorem dX0_init_39 : decode cX0_init 39 = .ok (.aload_n 0, 1) := by decide +kernel
theorem dX0_init_40 : decode cX0_init 40 = .ok (.iconst (-1), 1) := by decide +kernel
theorem dX0_init_41 : decode cX0_init 41 = .ok (.putfield 32, 3) := by decide +kernel
theorem dX0_init_44 : decode cX0_init 44 = .ok (.iconst 0, 1) := by decide +kernel
theorem dX0_init_45 : decode cX0_init 45 = .ok (.istore_n 1, 1) := by decide +kernel
theorem dX0_init_46 : decode cX0_init 46 = .ok (.iload_n 1, 1) := by decide +kernel
theorem dX0_init_47 : decode cX0_init 47 = .ok (.aload_n 0, 1) := by decide +kernel
theorem dX0_init_48 : decode cX0_init 48 = .ok (.getfield 11, 3) := by decide +kernel
theorem dX0_init_51 : decode cX0_init 51 = .ok (.arraylength, 1) := by decide +kernel
theorem dX0_init_52 : decode cX0_init 52 = .ok (.if_icmp .ge 22, 3) := by decide +kernel
theorem dX0_init_55 : decode cX0_init 55 = .ok (.aload_n 0, 1) := by decide +kernel
theorem dX0_init_56 : decode cX0_init 56 = .ok (.getfield 11, 3) := by decide +kernel
theorem dX0_init_59 : decode cX0_init 59 = .ok (.iload_n 1, 1) := by decide +kernel
theorem dX0_init_60 : decode cX0_init 60 = .ok (.new 9, 3) := by decide +kernel
theorem dX0_init_63 : decode cX0_init 63 = .ok (.dup, 1) := by decide +kernel
theorem dX0_init_64 : decode cX0_init 64 = .ok (.invokespecial 17, 3) := by decide +kernel
theorem dX0_init_67 : decode cX0_init 67 = .ok (.aastore, 1) := by decide +kernel
theorem dX0_init_68 : decode cX0_init 68 = .ok (.iinc 1 1, 3) := by decide +kernel
theorem dX0_init_71 : decode cX0_init 71 = .ok (.goto (-25), 3) := by decide +kernel
theorem dX0_init_74 : decode cX0_init 74 = .ok (.return_, 1) := by decide +kernel
theorem dX0_size_0 : decode cX0_size 0 = .ok (.aload_n 0, 1) := by decide +kernel
theorem dX0_size_1 : decode cX0_size 1 = .ok (.getfield 22, 3) := by decide +kernel
theorem dX0_size_4 : decode cX0_size 4 = .ok (.ireturn, 1) := by decide +kernel
theorem dX0_has_0 : decode cX0_has 0 = .ok (.iload_n 1, 1) := by decide +kernel
theorem dX0_has_1 : decode cX0_has 1 = .ok (.ifCond .lt 15, 3) := by decide +kernel
theorem dX0_has_4 : decode cX0_has 4 = .ok (.iload_n 1, 1) := by decide +kernel
theorem dX0_has_5 : decode cX0_has 5 = .ok (.aload_n 0, 1) := by decide +kernel
theorem dX0_has_6 : decode cX0_has 6 = .ok (.getfield 22, 3) := by decide +kernel
theorem dX0_has_9 : decode cX0_has 9 = .ok (.if_icmp .ge 7, 3) := by decide +kernel
theorem dX0_has_12 : decode cX0_has 12 = .ok (.iconst 1, 1) := by decide +kernel
theorem dX0_has_13 : decode cX0_has 13 = .ok (.goto 4, 3) := by decide +kernel
theorem dX0_has_16 : decode cX0_has 16 = .ok (.iconst 0, 1) := by decide +kernel
theorem dX0_has_17 : decode cX0_has 17 = .ok (.ireturn, 1) := by decide +kernel
theorem dX0_at_0 : decode cX0_at 0 = .ok (.iload_n 1, 1) := by decide +kernel
theorem dX0_at_1 : decode cX0_at 1 = .ok (.ifCond .lt 21, 3) := by decide +kernel
theorem dX0_at_4 : decode cX0_at 4 = .ok (.iload_n 1, 1) := by decide +kernel
theorem dX0_at_5 : decode cX0_at 5 = .ok (.aload_n 0, 1) := by decide +kernel
theorem dX0_at_6 : decode cX0_at 6 = .ok (.getfield 11, 3) := by decide +kernel
theorem dX0_at_9 : decode cX0_at 9 = .ok (.arraylength, 1) := by decide +kernel
theorem dX0_at_10 : decode cX0_at 10 = .ok (.if_icmp .ge 12, 3) := by decide +kernel
theorem dX0_at_13 : decode cX0_at 13 = .ok (.aload_n 0, 1) := by decide +kernel
theorem dX0_at_14 : decode cX0_at 14 = .ok (.getfield 11, 3) := by decide +kernel
theorem dX0_at_17 : decode cX0_at 17 = .ok (.iload_n 1, 1) := by decide +kernel
theorem dX0_at_18 : decode cX0_at 18 = .ok (.aaload, 1) := by decide +kernel
theorem dX0_at_19 : decode cX0_at 19 = .ok (.ifnonnull 8, 3) := by decide +kernel
theorem dX0_at_22 : decode cX0_at 22 = .ok (.aload_n 0, 1) := by decide +kernel
theorem dX0_at_23 : decode cX0_at 23 = .ok (.getfield 18, 3) := by decide +kernel
theorem dX0_at_26 : decode cX0_at 26 = .ok (.areturn, 1) := by decide +kernel
theorem dX0_at_27 : decode cX0_at 27 = .ok (.aload_n 0, 1) := by decide +kernel
theorem dX0_at_28 : decode cX0_at 28 = .ok (.getfield 11, 3) := by decide +kernel
theorem dX0_at_31 : decode cX0_at 31 = .ok (.iload_n 1, 1) := by decide +kernel
theorem dX0_at_32 : decode cX0_at 32 = .ok (.aaload, 1) := by decide +kernel
theorem dX0_at_33 : decode cX0_at 33 = .ok (.areturn, 1) := by decide +kernel
theorem dX0_addLoaf_0 : decode cX0_addLoaf 0 = .ok (.aload_n 0, 1) := by decide +kernel
theorem dX0_addLoaf_1 : decode cX0_addLoaf 1 = .ok (.getfield 22, 3) := by decide +kernel
theorem dX0_addLoaf_4 : decode cX0_addLoaf 4 = .ok (.bipush 6, 2) := by decide +kernel
theorem dX0_addLoaf_6 : decode cX0_addLoaf 6 = .ok (.if_icmp .ge 25, 3) := by decide +kernel
theorem dX0_addLoaf_9 : decode cX0_addLoaf 9 = .ok (.aload_n 0, 1) := by decide +kernel
theorem dX0_addLoaf_10 : decode cX0_addLoaf 10 = .ok (.aload_n 0, 1) := by decide +kernel
theorem dX0_addLoaf_11 : decode cX0_addLoaf 11 = .ok (.getfield 22, 3) := by decide +kernel
theorem dX0_addLoaf_14 : decode cX0_addLoaf 14 = .ok (.invokevirtual 35, 3) := by decide +kernel
theorem dX0_addLoaf_17 : decode cX0_addLoaf 17 = .ok (.aload_n 1, 1) := by decide +kernel
theorem dX0_addLoaf_18 : decode cX0_addLoaf 18 = .ok (.invokevirtual 39, 3) := by decide +kernel
theorem dX0_addLoaf_21 : decode cX0_addLoaf 21 = .ok (.aload_n 0, 1) := by decide +kernel
theorem dX0_addLoaf_22 : decode cX0_addLoaf 22 = .ok (.dup, 1) := by decide +kernel
theorem dX0_addLoaf_23 : decode cX0_addLoaf 23 = .ok (.getfield 22, 3) := by decide +kernel
theorem dX0_addLoaf_26 : decode cX0_addLoaf 26 = .ok (.iconst 1, 1) := by decide +kernel
theorem dX0_addLoaf_27 : decode cX0_addLoaf 27 = .ok (.iadd, 1) := by decide +kernel
theorem dX0_addLoaf_28 : decode cX0_addLoaf 28 = .ok (.putfield 22, 3) := by decide +kernel
theorem dX0_addLoaf_31 : decode cX0_addLoaf 31 = .ok (.return_, 1) := by decide +kernel
theorem dX0_changes_0 : decode cX0_changes 0 = .ok (.aload_n 0, 1) := by decide +kernel
theorem dX0_changes_1 : decode cX0_changes 1 = .ok (.getfield 26, 3) := by decide +kernel
theorem dX0_changes_4 : decode cX0_changes 4 = .ok (.ireturn, 1) := by decide +kernel
theorem dX0_addChange_0 : decode cX0_addChange 0 = .ok (.aload_n 0, 1) := by decide +kernel
theorem dX0_addChange_1 : decode cX0_addChange 1 = .ok (.dup, 1) := by decide +kernel
theorem dX0_addChange_2 : decode cX0_addChange 2 = .ok (.getfield 26, 3) := by decide +kernel
theorem dX0_addChange_5 : decode cX0_addChange 5 = .ok (.iconst 1, 1) := by decide +kernel
theorem dX0_addChange_6 : decode cX0_addChange 6 = .ok (.iadd, 1) := by decide +kernel
theorem dX0_addChange_7 : decode cX0_addChange 7 = .ok (.putfield 26, 3) := by decide +kernel
theorem dX0_addChange_10 : decode cX0_addChange 10 = .ok (.return_, 1) := by decide +kernel
theorem dX0_stopPart_0 : decode cX0_stopPart 0 = .ok (.aload_n 0, 1) := by decide +kernel
theorem dX0_stopPart_1 : decode cX0_stopPart 1 = .ok (.getfield 29, 3) := by decide +kernel
theorem dX0_stopPart_4 : decode cX0_stopPart 4 = .ok (.ireturn, 1) := by decide +kernel
theorem dX0_stopReason_0 : decode cX0_stopReason 0 = .ok (.aload_n 0, 1) := by decide +kernel
theorem dX0_stopReason_1 : decode cX0_stopReason 1 = .ok (.getfield 32, 3) := by decide +kernel
theorem dX0_stopReason_4 : decode cX0_stopReason 4 = .ok (.ireturn, 1) := by decide +kernel
theorem dX0_setStop_0 : decode cX0_setStop 0 = .ok (.aload_n 0, 1) := by decide +kernel
theorem dX0_setStop_1 : decode cX0_setStop 1 = .ok (.iload_n 1, 1) := by decide +kernel
theorem dX0_setStop_2 : decode cX0_setStop 2 = .ok (.putfield 29, 3) := by decide +kernel
theorem dX0_setStop_5 : decode cX0_setStop 5 = .ok (.aload_n 0, 1) := by decide +kernel
theorem dX0_setStop_6 : decode cX0_setStop 6 = .ok (.iload_n 2, 1) := by decide +kernel
theorem dX0_setStop_7 : decode cX0_setStop 7 = .ok (.putfield 32, 3) := by decide +kernel
theorem dX0_setStop_10 : decode cX0_setStop 10 = .ok (.return_, 1) := by decide +kernel
theorem dX0_copyFrom_0 : decode cX0_copyFrom 0 = .ok (.aload_n 0, 1) := by decide +kernel
theorem dX0_copyFrom_1 : decode cX0_copyFrom 1 = .ok (.aload_n 1, 1) := by decide +kernel
theorem dX0_copyFrom_2 : decode cX0_copyFrom 2 = .ok (.getfield 22, 3) := by decide +kernel
theorem dX0_copyFrom_5 : decode cX0_copyFrom 5 = .ok (.putfield 22, 3) := by decide +kernel
theorem dX0_copyFrom_8 : decode cX0_copyFrom 8 = .ok (.aload_n 0, 1) := by decide +kernel
theorem dX0_copyFrom_9 : decode cX0_copyFrom 9 = .ok (.aload_n 1, 1) := by decide +kernel
theorem dX0_copyFrom_10 : decode cX0_copyFrom 10 = .ok (.getfield 26, 3) := by decide +kernel
theorem dX0_copyFrom_13 : decode cX0_copyFrom 13 = .ok (.putfield 26, 3) := by decide +kernel
theorem dX0_copyFrom_16 : decode cX0_copyFrom 16 = .ok (.aload_n 0, 1) := by decide +kernel
theorem dX0_copyFrom_17 : decode cX0_copyFrom 17 = .ok (.aload_n 1, 1) := by decide +kernel
theorem dX0_copyFrom_18 : decode cX0_copyFrom 18 = .ok (.getfield 29, 3) := by decide +kernel
theorem dX0_copyFrom_21 : decode cX0_copyFrom 21 = .ok (.putfield 29, 3) := by decide +kernel
theorem dX0_copyFrom_24 : decode cX0_copyFrom 24 = .ok (.aload_n 0, 1) := by decide +kernel
theorem dX0_copyFrom_25 : decode cX0_copyFrom 25 = .ok (.aload_n 1, 1) := by decide +kernel
theorem dX0_copyFrom_26 : decode cX0_copyFrom 26 = .ok (.getfield 32, 3) := by decide +kernel
theorem dX0_copyFrom_29 : decode cX0_copyFrom 29 = .ok (.putfield 32, 3) := by decide +kernel
theorem dX0_copyFrom_32 : decode cX0_copyFrom 32 = .ok (.iconst 0, 1) := by decide +kernel
theorem dX0_copyFrom_33 : decode cX0_copyFrom 33 = .ok (.istore_n 2, 1) := by decide +kernel
theorem dX0_copyFrom_34 : decode cX0_copyFrom 34 = .ok (.iload_n 2, 1) := by decide +kernel
theorem dX0_copyFrom_35 : decode cX0_copyFrom 35 = .ok (.aload_n 0, 1) := by decide +kernel
theorem dX0_copyFrom_36 : decode cX0_copyFrom 36 = .ok (.getfield 22, 3) := by decide +kernel
theorem dX0_copyFrom_39 : decode cX0_copyFrom 39 = .ok (.if_icmp .ge 22, 3) := by decide +kernel
theorem dX0_copyFrom_42 : decode cX0_copyFrom 42 = .ok (.aload_n 0, 1) := by decide +kernel
theorem dX0_copyFrom_43 : decode cX0_copyFrom 43 = .ok (.iload_n 2, 1) := by decide +kernel
theorem dX0_copyFrom_44 : decode cX0_copyFrom 44 = .ok (.invokevirtual 35, 3) := by decide +kernel
theorem dX0_copyFrom_47 : decode cX0_copyFrom 47 = .ok (.aload_n 1, 1) := by decide +kernel
theorem dX0_copyFrom_48 : decode cX0_copyFrom 48 = .ok (.iload_n 2, 1) := by decide +kernel
theorem dX0_copyFrom_49 : decode cX0_copyFrom 49 = .ok (.invokevirtual 35, 3) := by decide +kernel
theorem dX0_copyFrom_52 : decode cX0_copyFrom 52 = .ok (.invokevirtual 39, 3) := by decide +kernel
theorem dX0_copyFrom_55 : decode cX0_copyFrom 55 = .ok (.iinc 2 1, 3) := by decide +kernel
theorem dX0_copyFrom_58 : decode cX0_copyFrom 58 = .ok (.goto (-24), 3) := by decide +kernel
theorem dX0_copyFrom_61 : decode cX0_copyFrom 61 = .ok (.return_, 1) := by decide +kernel
theorem dX1_init_0 : decode cX1_init 0 = .ok (.aload_n 0, 1) := by decide +kernel
theorem dX1_init_1 : decode cX1_init 1 = .ok (.invokespecial 3, 3) := by decide +kernel
theorem dX1_init_4 : decode cX1_init 4 = .ok (.aload_n 0, 1) := by decide +kernel
theorem dX1_init_5 : decode cX1_init 5 = .ok (.bipush 6, 2) := by decide +kernel
theorem dX1_init_7 : decode cX1_init 7 = .ok (.anewarray 9, 3) := by decide +kernel
theorem dX1_init_10 : decode cX1_init 10 = .ok (.putfield 11, 3) := by decide +kernel
theorem dX1_init_13 : decode cX1_init 13 = .ok (.aload_n 0, 1) := by decide +kernel
theorem dX1_init_14 : decode cX1_init 14 = .ok (.new 9, 3) := by decide +kernel
theorem dX1_init_17 : decode cX1_init 17 = .ok (.dup, 1) := by decide +kernel
theorem dX1_init_18 : decode cX1_init 18 = .ok (.invokespecial 17, 3) := by decide +kernel
theorem dX1_init_21 : decode cX1_init 21 = .ok (.putfield 18, 3) := by decide +kernel
theorem dX1_init_24 : decode cX1_init 24 = .ok (.aload_n 0, 1) := by decide +kernel
theorem dX1_init_25 : decode cX1_init 25 = .ok (.iconst 0, 1) := by decide +kernel
theorem dX1_init_26 : decode cX1_init 26 = .ok (.putfield 22, 3) := by decide +kernel
theorem dX1_init_29 : decode cX1_init 29 = .ok (.aload_n 0, 1) := by decide +kernel
theorem dX1_init_30 : decode cX1_init 30 = .ok (.iconst 0, 1) := by decide +kernel
theorem dX1_init_31 : decode cX1_init 31 = .ok (.putfield 26, 3) := by decide +kernel
theorem dX1_init_34 : decode cX1_init 34 = .ok (.iconst 0, 1) := by decide +kernel
theorem dX1_init_35 : decode cX1_init 35 = .ok (.istore_n 1, 1) := by decide +kernel
theorem dX1_init_36 : decode cX1_init 36 = .ok (.iload_n 1, 1) := by decide +kernel
theorem dX1_init_37 : decode cX1_init 37 = .ok (.aload_n 0, 1) := by decide +kernel
theorem dX1_init_38 : decode cX1_init 38 = .ok (.getfield 11, 3) := by decide +kernel
theorem dX1_init_41 : decode cX1_init 41 = .ok (.arraylength, 1) := by decide +kernel
theorem dX1_init_42 : decode cX1_init 42 = .ok (.if_icmp .ge 22, 3) := by decide +kernel
theorem dX1_init_45 : decode cX1_init 45 = .ok (.aload_n 0, 1) := by decide +kernel
theorem dX1_init_46 : decode cX1_init 46 = .ok (.getfield 11, 3) := by decide +kernel
theorem dX1_init_49 : decode cX1_init 49 = .ok (.iload_n 1, 1) := by decide +kernel
theorem dX1_init_50 : decode cX1_init 50 = .ok (.new 9, 3) := by decide +kernel
theorem dX1_init_53 : decode cX1_init 53 = .ok (.dup, 1) := by decide +kernel
theorem dX1_init_54 : decode cX1_init 54 = .ok (.invokespecial 17, 3) := by decide +kernel
theorem dX1_init_57 : decode cX1_init 57 = .ok (.aastore, 1) := by decide +kernel
theorem dX1_init_58 : decode cX1_init 58 = .ok (.iinc 1 1, 3) := by decide +kernel
theorem dX1_init_61 : decode cX1_init 61 = .ok (.goto (-25), 3) := by decide +kernel
theorem dX1_init_64 : decode cX1_init 64 = .ok (.return_, 1) := by decide +kernel
theorem dX1_size_0 : decode cX1_size 0 = .ok (.aload_n 0, 1) := by decide +kernel
theorem dX1_size_1 : decode cX1_size 1 = .ok (.getfield 26, 3) := by decide +kernel
theorem dX1_size_4 : decode cX1_size 4 = .ok (.ireturn, 1) := by decide +kernel
theorem dX1_at_0 : decode cX1_at 0 = .ok (.aload_n 0, 1) := by decide +kernel
theorem dX1_at_1 : decode cX1_at 1 = .ok (.getfield 22, 3) := by decide +kernel
theorem dX1_at_4 : decode cX1_at 4 = .ok (.iload_n 1, 1) := by decide +kernel
theorem dX1_at_5 : decode cX1_at 5 = .ok (.iadd, 1) := by decide +kernel
theorem dX1_at_6 : decode cX1_at 6 = .ok (.bipush 6, 2) := by decide +kernel
theorem dX1_at_8 : decode cX1_at 8 = .ok (.invokestatic 29, 3) := by decide +kernel
theorem dX1_at_11 : decode cX1_at 11 = .ok (.istore_n 2, 1) := by decide +kernel
theorem dX1_at_12 : decode cX1_at 12 = .ok (.iload_n 2, 1) := by decide +kernel
theorem dX1_at_13 : decode cX1_at 13 = .ok (.ifCond .lt 21, 3) := by decide +kernel
theorem dX1_at_16 : decode cX1_at 16 = .ok (.iload_n 2, 1) := by decide +kernel
theorem dX1_at_17 : decode cX1_at 17 = .ok (.aload_n 0, 1) := by decide +kernel
theorem dX1_at_18 : decode cX1_at 18 = .ok (.getfield 11, 3) := by decide +kernel
theorem dX1_at_21 : decode cX1_at 21 = .ok (.arraylength, 1) := by decide +kernel
theorem dX1_at_22 : decode cX1_at 22 = .ok (.if_icmp .ge 12, 3) := by decide +kernel
theorem dX1_at_25 : decode cX1_at 25 = .ok (.aload_n 0, 1) := by decide +kernel
theorem dX1_at_26 : decode cX1_at 26 = .ok (.getfield 11, 3) := by decide +kernel
theorem dX1_at_29 : decode cX1_at 29 = .ok (.iload_n 2, 1) := by decide +kernel
theorem dX1_at_30 : decode cX1_at 30 = .ok (.aaload, 1) := by decide +kernel
theorem dX1_at_31 : decode cX1_at 31 = .ok (.ifnonnull 8, 3) := by decide +kernel
theorem dX1_at_34 : decode cX1_at 34 = .ok (.aload_n 0, 1) := by decide +kernel
theorem dX1_at_35 : decode cX1_at 35 = .ok (.getfield 18, 3) := by decide +kernel
theorem dX1_at_38 : decode cX1_at 38 = .ok (.areturn, 1) := by decide +kernel
theorem dX1_at_39 : decode cX1_at 39 = .ok (.aload_n 0, 1) := by decide +kernel
theorem dX1_at_40 : decode cX1_at 40 = .ok (.getfield 11, 3) := by decide +kernel
theorem dX1_at_43 : decode cX1_at 43 = .ok (.iload_n 2, 1) := by decide +kernel
theorem dX1_at_44 : decode cX1_at 44 = .ok (.aaload, 1) := by decide +kernel
theorem dX1_at_45 : decode cX1_at 45 = .ok (.areturn, 1) := by decide +kernel
theorem dX1_save_0 : decode cX1_save 0 = .ok (.aload_n 0, 1) := by decide +kernel
theorem dX1_save_1 : decode cX1_save 1 = .ok (.aload_n 0, 1) := by decide +kernel
theorem dX1_save_2 : decode cX1_save 2 = .ok (.getfield 26, 3) := by decide +kernel
theorem dX1_save_5 : decode cX1_save 5 = .ok (.invokevirtual 35, 3) := by decide +kernel
theorem dX1_save_8 : decode cX1_save 8 = .ok (.aload_n 1, 1) := by decide +kernel
theorem dX1_save_9 : decode cX1_save 9 = .ok (.invokevirtual 39, 3) := by decide +kernel
theorem dX1_save_12 : decode cX1_save 12 = .ok (.aload_n 0, 1) := by decide +kernel
theorem dX1_save_13 : decode cX1_save 13 = .ok (.getfield 26, 3) := by decide +kernel
theorem dX1_save_16 : decode cX1_save 16 = .ok (.bipush 6, 2) := by decide +kernel
theorem dX1_save_18 : decode cX1_save 18 = .ok (.if_icmp .ge 16, 3) := by decide +kernel
theorem dX1_save_21 : decode cX1_save 21 = .ok (.aload_n 0, 1) := by decide +kernel
theorem dX1_save_22 : decode cX1_save 22 = .ok (.dup, 1) := by decide +kernel
theorem dX1_save_23 : decode cX1_save 23 = .ok (.getfield 26, 3) := by decide +kernel
theorem dX1_save_26 : decode cX1_save 26 = .ok (.iconst 1, 1) := by decide +kernel
theorem dX1_save_27 : decode cX1_save 27 = .ok (.iadd, 1) := by decide +kernel
theorem dX1_save_28 : decode cX1_save 28 = .ok (.putfield 26, 3) := by decide +kernel
theorem dX1_save_31 : decode cX1_save 31 = .ok (.goto 18, 3) := by decide +kernel
theorem dX1_save_34 : decode cX1_save 34 = .ok (.aload_n 0, 1) := by decide +kernel
theorem dX1_save_35 : decode cX1_save 35 = .ok (.aload_n 0, 1) := by decide +kernel
theorem dX1_save_36 : decode cX1_save 36 = .ok (.getfield 22, 3) := by decide +kernel
theorem dX1_save_39 : decode cX1_save 39 = .ok (.iconst 1, 1) := by decide +kernel
theorem dX1_save_40 : decode cX1_save 40 = .ok (.iadd, 1) := by decide +kernel
theorem dX1_save_41 : decode cX1_save 41 = .ok (.bipush 6, 2) := by decide +kernel
theorem dX1_save_43 : decode cX1_save 43 = .ok (.invokestatic 29, 3) := by decide +kernel
theorem dX1_save_46 : decode cX1_save 46 = .ok (.putfield 22, 3) := by decide +kernel
theorem dX1_save_49 : decode cX1_save 49 = .ok (.return_, 1) := by decide +kernel
theorem dX1_takeBack_0 : decode cX1_takeBack 0 = .ok (.aload_n 0, 1) := by decide +kernel
theorem dX1_takeBack_1 : decode cX1_takeBack 1 = .ok (.getfield 26, 3) := by decide +kernel
theorem dX1_takeBack_4 : decode cX1_takeBack 4 = .ok (.ifCond .le 25, 3) := by decide +kernel
theorem dX1_takeBack_7 : decode cX1_takeBack 7 = .ok (.aload_n 0, 1) := by decide +kernel
theorem dX1_takeBack_8 : decode cX1_takeBack 8 = .ok (.dup, 1) := by decide +kernel
theorem dX1_takeBack_9 : decode cX1_takeBack 9 = .ok (.getfield 26, 3) := by decide +kernel
theorem dX1_takeBack_12 : decode cX1_takeBack 12 = .ok (.iconst 1, 1) := by decide +kernel
theorem dX1_takeBack_13 : decode cX1_takeBack 13 = .ok (.isub, 1) := by decide +kernel
theorem dX1_takeBack_14 : decode cX1_takeBack 14 = .ok (.putfield 26, 3) := by decide +kernel
theorem dX1_takeBack_17 : decode cX1_takeBack 17 = .ok (.aload_n 1, 1) := by decide +kernel
theorem dX1_takeBack_18 : decode cX1_takeBack 18 = .ok (.aload_n 0, 1) := by decide +kernel
theorem dX1_takeBack_19 : decode cX1_takeBack 19 = .ok (.aload_n 0, 1) := by decide +kernel
theorem dX1_takeBack_20 : decode cX1_takeBack 20 = .ok (.getfield 26, 3) := by decide +kernel
theorem dX1_takeBack_23 : decode cX1_takeBack 23 = .ok (.invokevirtual 35, 3) := by decide +kernel
theorem dX1_takeBack_26 : decode cX1_takeBack 26 = .ok (.invokevirtual 39, 3) := by decide +kernel
theorem dX1_takeBack_29 : decode cX1_takeBack 29 = .ok (.return_, 1) := by decide +kernel
theorem dX2_init_0 : decode cX2_init 0 = .ok (.aload_n 0, 1) := by decide +kernel
theorem dX2_init_1 : decode cX2_init 1 = .ok (.invokespecial 3, 3) := by decide +kernel
theorem dX2_init_4 : decode cX2_init 4 = .ok (.aload_n 0, 1) := by decide +kernel
theorem dX2_init_5 : decode cX2_init 5 = .ok (.new 9, 3) := by decide +kernel
theorem dX2_init_8 : decode cX2_init 8 = .ok (.dup, 1) := by decide +kernel
theorem dX2_init_9 : decode cX2_init 9 = .ok (.invokespecial 11, 3) := by decide +kernel
theorem dX2_init_12 : decode cX2_init 12 = .ok (.putfield 12, 3) := by decide +kernel
theorem dX2_init_15 : decode cX2_init 15 = .ok (.aload_n 0, 1) := by decide +kernel
theorem dX2_init_16 : decode cX2_init 16 = .ok (.new 9, 3) := by decide +kernel
theorem dX2_init_19 : decode cX2_init 19 = .ok (.dup, 1) := by decide +kernel
theorem dX2_init_20 : decode cX2_init 20 = .ok (.invokespecial 11, 3) := by decide +kernel
theorem dX2_init_23 : decode cX2_init 23 = .ok (.putfield 18, 3) := by decide +kernel
theorem dX2_init_26 : decode cX2_init 26 = .ok (.aload_n 0, 1) := by decide +kernel
theorem dX2_init_27 : decode cX2_init 27 = .ok (.new 21, 3) := by decide +kernel
theorem dX2_init_30 : decode cX2_init 30 = .ok (.dup, 1) := by decide +kernel
theorem dX2_init_31 : decode cX2_init 31 = .ok (.invokespecial 23, 3) := by decide +kernel
theorem dX2_init_34 : decode cX2_init 34 = .ok (.putfield 24, 3) := by decide +kernel
theorem dX2_init_37 : decode cX2_init 37 = .ok (.return_, 1) := by decide +kernel
theorem dX2_word_0 : decode cX2_word 0 = .ok (.aload_n 0, 1) := by decide +kernel
theorem dX2_word_1 : decode cX2_word 1 = .ok (.getfield 12, 3) := by decide +kernel
theorem dX2_word_4 : decode cX2_word 4 = .ok (.areturn, 1) := by decide +kernel
theorem dX2_looseWord_0 : decode cX2_looseWord 0 = .ok (.aload_n 0, 1) := by decide +kernel
theorem dX2_looseWord_1 : decode cX2_looseWord 1 = .ok (.getfield 18, 3) := by decide +kernel
theorem dX2_looseWord_4 : decode cX2_looseWord 4 = .ok (.areturn, 1) := by decide +kernel
theorem dX2_trace_0 : decode cX2_trace 0 = .ok (.aload_n 0, 1) := by decide +kernel
theorem dX2_trace_1 : decode cX2_trace 1 = .ok (.getfield 24, 3) := by decide +kernel
theorem dX2_trace_4 : decode cX2_trace 4 = .ok (.areturn, 1) := by decide +kernel
theorem dX2_settle_0 : decode cX2_settle 0 = .ok (.aload_n 0, 1) := by decide +kernel
theorem dX2_settle_1 : decode cX2_settle 1 = .ok (.getfield 18, 3) := by decide +kernel
theorem dX2_settle_4 : decode cX2_settle 4 = .ok (.aload_n 0, 1) := by decide +kernel
theorem dX2_settle_5 : decode cX2_settle 5 = .ok (.getfield 12, 3) := by decide +kernel
theorem dX2_settle_8 : decode cX2_settle 8 = .ok (.invokevirtual 28, 3) := by decide +kernel
theorem dX2_settle_11 : decode cX2_settle 11 = .ok (.aload_n 0, 1) := by decide +kernel
theorem dX2_settle_12 : decode cX2_settle 12 = .ok (.getfield 24, 3) := by decide +kernel
theorem dX2_settle_15 : decode cX2_settle 15 = .ok (.aload_n 0, 1) := by decide +kernel
theorem dX2_settle_16 : decode cX2_settle 16 = .ok (.getfield 12, 3) := by decide +kernel
theorem dX2_settle_19 : decode cX2_settle 19 = .ok (.invokevirtual 32, 3) := by decide +kernel
theorem dX2_settle_22 : decode cX2_settle 22 = .ok (.aload_n 0, 1) := by decide +kernel
theorem dX2_settle_23 : decode cX2_settle 23 = .ok (.getfield 24, 3) := by decide +kernel
theorem dX2_settle_26 : decode cX2_settle 26 = .ok (.invokevirtual 35, 3) := by decide +kernel
theorem dX2_settle_29 : decode cX2_settle 29 = .ok (.ifCond .eq 7, 3) := by decide +kernel
theorem dX2_settle_32 : decode cX2_settle 32 = .ok (.iconst 0, 1) := by decide +kernel
theorem dX2_settle_33 : decode cX2_settle 33 = .ok (.goto 4, 3) := by decide +kernel
theorem dX2_settle_36 : decode cX2_settle 36 = .ok (.iconst 2, 1) := by decide +kernel
theorem dX2_settle_37 : decode cX2_settle 37 = .ok (.ireturn, 1) := by decide +kernel
theorem dX2_copyFrom_0 : decode cX2_copyFrom 0 = .ok (.aload_n 0, 1) := by decide +kernel
theorem dX2_copyFrom_1 : decode cX2_copyFrom 1 = .ok (.getfield 12, 3) := by decide +kernel
theorem dX2_copyFrom_4 : decode cX2_copyFrom 4 = .ok (.aload_n 1, 1) := by decide +kernel
theorem dX2_copyFrom_5 : decode cX2_copyFrom 5 = .ok (.getfield 12, 3) := by decide +kernel
theorem dX2_copyFrom_8 : decode cX2_copyFrom 8 = .ok (.invokevirtual 39, 3) := by decide +kernel
theorem dX2_copyFrom_11 : decode cX2_copyFrom 11 = .ok (.aload_n 0, 1) := by decide +kernel
theorem dX2_copyFrom_12 : decode cX2_copyFrom 12 = .ok (.getfield 18, 3) := by decide +kernel
theorem dX2_copyFrom_15 : decode cX2_copyFrom 15 = .ok (.aload_n 1, 1) := by decide +kernel
theorem dX2_copyFrom_16 : decode cX2_copyFrom 16 = .ok (.getfield 18, 3) := by decide +kernel
theorem dX2_copyFrom_19 : decode cX2_copyFrom 19 = .ok (.invokevirtual 39, 3) := by decide +kernel
theorem dX2_copyFrom_22 : decode cX2_copyFrom 22 = .ok (.aload_n 0, 1) := by decide +kernel
theorem dX2_copyFrom_23 : decode cX2_copyFrom 23 = .ok (.getfield 24, 3) := by decide +kernel
theorem dX2_copyFrom_26 : decode cX2_copyFrom 26 = .ok (.aload_n 1, 1) := by decide +kernel
theorem dX2_copyFrom_27 : decode cX2_copyFrom 27 = .ok (.getfield 24, 3) := by decide +kernel
theorem dX2_copyFrom_30 : decode cX2_copyFrom 30 = .ok (.invokevirtual 42, 3) := by decide +kernel
theorem dX2_copyFrom_33 : decode cX2_copyFrom 33 = .ok (.return_, 1) := by decide +kernel
theorem dX2_numberOfCrossing_0 : decode cX2_numberOfCrossing 0 = .ok (.iload_n 1, 1) := by decide +kernel
theorem dX2_numberOfCrossing_1 : decode cX2_numberOfCrossing 1 = .ok (.ifCond .lt 14, 3) := by decide +kernel
theorem dX2_numberOfCrossing_4 : decode cX2_numberOfCrossing 4 = .ok (.iload_n 1, 1) := by decide +kernel
theorem dX2_numberOfCrossing_5 : decode cX2_numberOfCrossing 5 = .ok (.aload_n 0, 1) := by decide +kernel
theorem dX2_numberOfCrossing_6 : decode cX2_numberOfCrossing 6 = .ok (.getfield 12, 3) := by decide +kernel
theorem dX2_numberOfCrossing_9 : decode cX2_numberOfCrossing 9 = .ok (.invokevirtual 45, 3) := by decide +kernel
theorem dX2_numberOfCrossing_12 : decode cX2_numberOfCrossing 12 = .ok (.if_icmp .lt 5, 3) := by decide +kernel
theorem dX2_numberOfCrossing_15 : decode cX2_numberOfCrossing 15 = .ok (.iconst (-1), 1) := by decide +kernel
theorem dX2_numberOfCrossing_16 : decode cX2_numberOfCrossing 16 = .ok (.ireturn, 1) := by decide +kernel
theorem dX2_numberOfCrossing_17 : decode cX2_numberOfCrossing 17 = .ok (.iload_n 2, 1) := by decide +kernel
theorem dX2_numberOfCrossing_18 : decode cX2_numberOfCrossing 18 = .ok (.tableswitch 67 0 2 #[26, 38, 58], 26) := by decide +kernel
theorem dX2_numberOfCrossing_44 : decode cX2_numberOfCrossing 44 = .ok (.aload_n 0, 1) := by decide +kernel
theorem dX2_numberOfCrossing_45 : decode cX2_numberOfCrossing 45 = .ok (.getfield 12, 3) := by decide +kernel
theorem dX2_numberOfCrossing_48 : decode cX2_numberOfCrossing 48 = .ok (.iload_n 1, 1) := by decide +kernel
theorem dX2_numberOfCrossing_49 : decode cX2_numberOfCrossing 49 = .ok (.invokevirtual 49, 3) := by decide +kernel
theorem dX2_numberOfCrossing_52 : decode cX2_numberOfCrossing 52 = .ok (.invokestatic 53, 3) := by decide +kernel
theorem dX2_numberOfCrossing_55 : decode cX2_numberOfCrossing 55 = .ok (.ireturn, 1) := by decide +kernel
theorem dX2_numberOfCrossing_56 : decode cX2_numberOfCrossing 56 = .ok (.aload_n 0, 1) := by decide +kernel
theorem dX2_numberOfCrossing_57 : decode cX2_numberOfCrossing 57 = .ok (.getfield 12, 3) := by decide +kernel
theorem dX2_numberOfCrossing_60 : decode cX2_numberOfCrossing 60 = .ok (.iload_n 1, 1) := by decide +kernel
theorem dX2_numberOfCrossing_61 : decode cX2_numberOfCrossing 61 = .ok (.invokevirtual 49, 3) := by decide +kernel
theorem dX2_numberOfCrossing_64 : decode cX2_numberOfCrossing 64 = .ok (.invokestatic 56, 3) := by decide +kernel
theorem dX2_numberOfCrossing_67 : decode cX2_numberOfCrossing 67 = .ok (.ifCond .eq 7, 3) := by decide +kernel
theorem dX2_numberOfCrossing_70 : decode cX2_numberOfCrossing 70 = .ok (.iconst 1, 1) := by decide +kernel
theorem dX2_numberOfCrossing_71 : decode cX2_numberOfCrossing 71 = .ok (.goto 4, 3) := by decide +kernel
theorem dX2_numberOfCrossing_74 : decode cX2_numberOfCrossing 74 = .ok (.iconst 0, 1) := by decide +kernel
theorem dX2_numberOfCrossing_75 : decode cX2_numberOfCrossing 75 = .ok (.ireturn, 1) := by decide +kernel
theorem dX2_numberOfCrossing_76 : decode cX2_numberOfCrossing 76 = .ok (.aload_n 0, 1) := by decide +kernel
theorem dX2_numberOfCrossing_77 : decode cX2_numberOfCrossing 77 = .ok (.getfield 24, 3) := by decide +kernel
theorem dX2_numberOfCrossing_80 : decode cX2_numberOfCrossing 80 = .ok (.iload_n 1, 1) := by decide +kernel
theorem dX2_numberOfCrossing_81 : decode cX2_numberOfCrossing 81 = .ok (.invokevirtual 60, 3) := by decide +kernel
theorem dX2_numberOfCrossing_84 : decode cX2_numberOfCrossing 84 = .ok (.ireturn, 1) := by decide +kernel
theorem dX2_numberOfCrossing_85 : decode cX2_numberOfCrossing 85 = .ok (.aload_n 0, 1) := by decide +kernel
theorem dX2_numberOfCrossing_86 : decode cX2_numberOfCrossing 86 = .ok (.getfield 24, 3) := by decide +kernel
theorem dX2_numberOfCrossing_89 : decode cX2_numberOfCrossing 89 = .ok (.iload_n 1, 1) := by decide +kernel
theorem dX2_numberOfCrossing_90 : decode cX2_numberOfCrossing 90 = .ok (.invokevirtual 63, 3) := by decide +kernel
theorem dX2_numberOfCrossing_93 : decode cX2_numberOfCrossing 93 = .ok (.ireturn, 1) := by decide +kernel
theorem dX3_init_0 : decode cX3_init 0 = .ok (.aload_n 0, 1) := by decide +kernel
theorem dX3_init_1 : decode cX3_init 1 = .ok (.invokespecial 1, 3) := by decide +kernel
theorem dX3_init_4 : decode cX3_init 4 = .ok (.aload_n 0, 1) := by decide +kernel
theorem dX3_init_5 : decode cX3_init 5 = .ok (.iload_n 1, 1) := by decide +kernel
theorem dX3_init_6 : decode cX3_init 6 = .ok (.ifCond .ge 7, 3) := by decide +kernel
theorem dX3_init_9 : decode cX3_init 9 = .ok (.iconst 0, 1) := by decide +kernel
theorem dX3_init_10 : decode cX3_init 10 = .ok (.goto 4, 3) := by decide +kernel
theorem dX3_init_13 : decode cX3_init 13 = .ok (.iload_n 1, 1) := by decide +kernel
theorem dX3_init_14 : decode cX3_init 14 = .ok (.newarray .int, 2) := by decide +kernel
theorem dX3_init_16 : decode cX3_init 16 = .ok (.putfield 7, 3) := by decide +kernel
theorem dX3_init_19 : decode cX3_init 19 = .ok (.return_, 1) := by decide +kernel
theorem dX3_at_0 : decode cX3_at 0 = .ok (.iload_n 1, 1) := by decide +kernel
theorem dX3_at_1 : decode cX3_at 1 = .ok (.ifCond .lt 21, 3) := by decide +kernel
theorem dX3_at_4 : decode cX3_at 4 = .ok (.iload_n 1, 1) := by decide +kernel
theorem dX3_at_5 : decode cX3_at 5 = .ok (.aload_n 0, 1) := by decide +kernel
theorem dX3_at_6 : decode cX3_at 6 = .ok (.getfield 7, 3) := by decide +kernel
theorem dX3_at_9 : decode cX3_at 9 = .ok (.arraylength, 1) := by decide +kernel
theorem dX3_at_10 : decode cX3_at 10 = .ok (.if_icmp .ge 12, 3) := by decide +kernel
theorem dX3_at_13 : decode cX3_at 13 = .ok (.aload_n 0, 1) := by decide +kernel
theorem dX3_at_14 : decode cX3_at 14 = .ok (.getfield 7, 3) := by decide +kernel
theorem dX3_at_17 : decode cX3_at 17 = .ok (.iload_n 1, 1) := by decide +kernel
theorem dX3_at_18 : decode cX3_at 18 = .ok (.iaload, 1) := by decide +kernel
theorem dX3_at_19 : decode cX3_at 19 = .ok (.goto 4, 3) := by decide +kernel
theorem dX3_at_22 : decode cX3_at 22 = .ok (.iconst 0, 1) := by decide +kernel
theorem dX3_at_23 : decode cX3_at 23 = .ok (.ireturn, 1) := by decide +kernel
theorem dX3_put_0 : decode cX3_put 0 = .ok (.iload_n 1, 1) := by decide +kernel
theorem dX3_put_1 : decode cX3_put 1 = .ok (.ifCond .lt 19, 3) := by decide +kernel
theorem dX3_put_4 : decode cX3_put 4 = .ok (.iload_n 1, 1) := by decide +kernel
theorem dX3_put_5 : decode cX3_put 5 = .ok (.aload_n 0, 1) := by decide +kernel
theorem dX3_put_6 : decode cX3_put 6 = .ok (.getfield 7, 3) := by decide +kernel
theorem dX3_put_9 : decode cX3_put 9 = .ok (.arraylength, 1) := by decide +kernel
theorem dX3_put_10 : decode cX3_put 10 = .ok (.if_icmp .ge 10, 3) := by decide +kernel
theorem dX3_put_13 : decode cX3_put 13 = .ok (.aload_n 0, 1) := by decide +kernel
theorem dX3_put_14 : decode cX3_put 14 = .ok (.getfield 7, 3) := by decide +kernel
theorem dX3_put_17 : decode cX3_put 17 = .ok (.iload_n 1, 1) := by decide +kernel
theorem dX3_put_18 : decode cX3_put 18 = .ok (.iload_n 2, 1) := by decide +kernel
theorem dX3_put_19 : decode cX3_put 19 = .ok (.iastore, 1) := by decide +kernel
theorem dX3_put_20 : decode cX3_put 20 = .ok (.return_, 1) := by decide +kernel
theorem dX3_copyFrom_0 : decode cX3_copyFrom 0 = .ok (.aload_n 0, 1) := by decide +kernel
theorem dX3_copyFrom_1 : decode cX3_copyFrom 1 = .ok (.getfield 7, 3) := by decide +kernel
theorem dX3_copyFrom_4 : decode cX3_copyFrom 4 = .ok (.arraylength, 1) := by decide +kernel
theorem dX3_copyFrom_5 : decode cX3_copyFrom 5 = .ok (.aload_n 1, 1) := by decide +kernel
theorem dX3_copyFrom_6 : decode cX3_copyFrom 6 = .ok (.getfield 7, 3) := by decide +kernel
theorem dX3_copyFrom_9 : decode cX3_copyFrom 9 = .ok (.arraylength, 1) := by decide +kernel
theorem dX3_copyFrom_10 : decode cX3_copyFrom 10 = .ok (.invokestatic 13, 3) := by decide +kernel
theorem dX3_copyFrom_13 : decode cX3_copyFrom 13 = .ok (.istore_n 2, 1) := by decide +kernel
theorem dX3_copyFrom_14 : decode cX3_copyFrom 14 = .ok (.aload_n 1, 1) := by decide +kernel
theorem dX3_copyFrom_15 : decode cX3_copyFrom 15 = .ok (.getfield 7, 3) := by decide +kernel
theorem dX3_copyFrom_18 : decode cX3_copyFrom 18 = .ok (.iconst 0, 1) := by decide +kernel
theorem dX3_copyFrom_19 : decode cX3_copyFrom 19 = .ok (.aload_n 0, 1) := by decide +kernel
theorem dX3_copyFrom_20 : decode cX3_copyFrom 20 = .ok (.getfield 7, 3) := by decide +kernel
theorem dX3_copyFrom_23 : decode cX3_copyFrom 23 = .ok (.iconst 0, 1) := by decide +kernel
theorem dX3_copyFrom_24 : decode cX3_copyFrom 24 = .ok (.iload_n 2, 1) := by decide +kernel
theorem dX3_copyFrom_25 : decode cX3_copyFrom 25 = .ok (.invokestatic 19, 3) := by decide +kernel
theorem dX3_copyFrom_28 : decode cX3_copyFrom 28 = .ok (.return_, 1) := by decide +kernel
theorem dX4_init_0 : decode cX4_init 0 = .ok (.aload_n 0, 1) := by decide +kernel
theorem dX4_init_1 : decode cX4_init 1 = .ok (.invokespecial 3, 3) := by decide +kernel
theorem dX4_init_4 : decode cX4_init 4 = .ok (.aload_n 0, 1) := by decide +kernel
theorem dX4_init_5 : decode cX4_init 5 = .ok (.new 9, 3) := by decide +kernel
theorem dX4_init_8 : decode cX4_init 8 = .ok (.dup, 1) := by decide +kernel
theorem dX4_init_9 : decode cX4_init 9 = .ok (.bipush 60, 2) := by decide +kernel
theorem dX4_init_11 : decode cX4_init 11 = .ok (.invokespecial 11, 3) := by decide +kernel
theorem dX4_init_14 : decode cX4_init 14 = .ok (.putfield 14, 3) := by decide +kernel
theorem dX4_init_17 : decode cX4_init 17 = .ok (.aload_n 0, 1) := by decide +kernel
theorem dX4_init_18 : decode cX4_init 18 = .ok (.iconst 0, 1) := by decide +kernel
theorem dX4_init_19 : decode cX4_init 19 = .ok (.putfield 20, 3) := by decide +kernel
theorem dX4_init_22 : decode cX4_init 22 = .ok (.return_, 1) := by decide +kernel
theorem dX4_size_0 : decode cX4_size 0 = .ok (.aload_n 0, 1) := by decide +kernel
theorem dX4_size_1 : decode cX4_size 1 = .ok (.getfield 20, 3) := by decide +kernel
theorem dX4_size_4 : decode cX4_size 4 = .ok (.ireturn, 1) := by decide +kernel
theorem dX4_signAt_0 : decode cX4_signAt 0 = .ok (.aload_n 0, 1) := by decide +kernel
theorem dX4_signAt_1 : decode cX4_signAt 1 = .ok (.getfield 14, 3) := by decide +kernel
theorem dX4_signAt_4 : decode cX4_signAt 4 = .ok (.iload_n 1, 1) := by decide +kernel
theorem dX4_signAt_5 : decode cX4_signAt 5 = .ok (.invokevirtual 24, 3) := by decide +kernel
theorem dX4_signAt_8 : decode cX4_signAt 8 = .ok (.ireturn, 1) := by decide +kernel
theorem dX4_addSign_0 : decode cX4_addSign 0 = .ok (.aload_n 0, 1) := by decide +kernel
theorem dX4_addSign_1 : decode cX4_addSign 1 = .ok (.getfield 20, 3) := by decide +kernel
theorem dX4_addSign_4 : decode cX4_addSign 4 = .ok (.bipush 60, 2) := by decide +kernel
theorem dX4_addSign_6 : decode cX4_addSign 6 = .ok (.if_icmp .ge 25, 3) := by decide +kernel
theorem dX4_addSign_9 : decode cX4_addSign 9 = .ok (.aload_n 0, 1) := by decide +kernel
theorem dX4_addSign_10 : decode cX4_addSign 10 = .ok (.getfield 14, 3) := by decide +kernel
theorem dX4_addSign_13 : decode cX4_addSign 13 = .ok (.aload_n 0, 1) := by decide +kernel
theorem dX4_addSign_14 : decode cX4_addSign 14 = .ok (.getfield 20, 3) := by decide +kernel
theorem dX4_addSign_17 : decode cX4_addSign 17 = .ok (.iload_n 1, 1) := by decide +kernel
theorem dX4_addSign_18 : decode cX4_addSign 18 = .ok (.invokevirtual 28, 3) := by decide +kernel
theorem dX4_addSign_21 : decode cX4_addSign 21 = .ok (.aload_n 0, 1) := by decide +kernel
theorem dX4_addSign_22 : decode cX4_addSign 22 = .ok (.dup, 1) := by decide +kernel
theorem dX4_addSign_23 : decode cX4_addSign 23 = .ok (.getfield 20, 3) := by decide +kernel
theorem dX4_addSign_26 : decode cX4_addSign 26 = .ok (.iconst 1, 1) := by decide +kernel
theorem dX4_addSign_27 : decode cX4_addSign 27 = .ok (.iadd, 1) := by decide +kernel
theorem dX4_addSign_28 : decode cX4_addSign 28 = .ok (.putfield 20, 3) := by decide +kernel
theorem dX4_addSign_31 : decode cX4_addSign 31 = .ok (.return_, 1) := by decide +kernel
theorem dX4_clear_0 : decode cX4_clear 0 = .ok (.aload_n 0, 1) := by decide +kernel
theorem dX4_clear_1 : decode cX4_clear 1 = .ok (.iconst 0, 1) := by decide +kernel
theorem dX4_clear_2 : decode cX4_clear 2 = .ok (.putfield 20, 3) := by decide +kernel
theorem dX4_clear_5 : decode cX4_clear 5 = .ok (.return_, 1) := by decide +kernel
theorem dX4_digitAt_0 : decode cX4_digitAt 0 = .ok (.aload_n 0, 1) := by decide +kernel
theorem dX4_digitAt_1 : decode cX4_digitAt 1 = .ok (.iload_n 1, 1) := by decide +kernel
theorem dX4_digitAt_2 : decode cX4_digitAt 2 = .ok (.invokevirtual 32, 3) := by decide +kernel
theorem dX4_digitAt_5 : decode cX4_digitAt 5 = .ok (.bipush 48, 2) := by decide +kernel
theorem dX4_digitAt_7 : decode cX4_digitAt 7 = .ok (.isub, 1) := by decide +kernel
theorem dX4_digitAt_8 : decode cX4_digitAt 8 = .ok (.ireturn, 1) := by decide +kernel
theorem dX4_placeAt_0 : decode cX4_placeAt 0 = .ok (.aload_n 0, 1) := by decide +kernel
theorem dX4_placeAt_1 : decode cX4_placeAt 1 = .ok (.iload_n 1, 1) := by decide +kernel
theorem dX4_placeAt_2 : decode cX4_placeAt 2 = .ok (.invokevirtual 32, 3) := by decide +kernel
theorem dX4_placeAt_5 : decode cX4_placeAt 5 = .ok (.bipush 97, 2) := by decide +kernel
theorem dX4_placeAt_7 : decode cX4_placeAt 7 = .ok (.isub, 1) := by decide +kernel
theorem dX4_placeAt_8 : decode cX4_placeAt 8 = .ok (.ireturn, 1) := by decide +kernel
theorem dX4_isLoaf_0 : decode cX4_isLoaf 0 = .ok (.aload_n 0, 1) := by decide +kernel
theorem dX4_isLoaf_1 : decode cX4_isLoaf 1 = .ok (.getfield 20, 3) := by decide +kernel
theorem dX4_isLoaf_4 : decode cX4_isLoaf 4 = .ok (.iconst 2, 1) := by decide +kernel
theorem dX4_isLoaf_5 : decode cX4_isLoaf 5 = .ok (.if_icmp .lt 27, 3) := by decide +kernel
theorem dX4_isLoaf_8 : decode cX4_isLoaf 8 = .ok (.aload_n 0, 1) := by decide +kernel
theorem dX4_isLoaf_9 : decode cX4_isLoaf 9 = .ok (.getfield 20, 3) := by decide +kernel
theorem dX4_isLoaf_12 : decode cX4_isLoaf 12 = .ok (.iconst 2, 1) := by decide +kernel
theorem dX4_isLoaf_13 : decode cX4_isLoaf 13 = .ok (.irem, 1) := by decide +kernel
theorem dX4_isLoaf_14 : decode cX4_isLoaf 14 = .ok (.ifCond .ne 18, 3) := by decide +kernel
theorem dX4_isLoaf_17 : decode cX4_isLoaf 17 = .ok (.aload_n 0, 1) := by decide +kernel
theorem dX4_isLoaf_18 : decode cX4_isLoaf 18 = .ok (.invokevirtual 35, 3) := by decide +kernel
theorem dX4_isLoaf_21 : decode cX4_isLoaf 21 = .ok (.aload_n 0, 1) := by decide +kernel
theorem dX4_isLoaf_22 : decode cX4_isLoaf 22 = .ok (.getfield 20, 3) := by decide +kernel
theorem dX4_isLoaf_25 : decode cX4_isLoaf 25 = .ok (.if_icmp .ne 7, 3) := by decide +kernel
theorem dX4_isLoaf_28 : decode cX4_isLoaf 28 = .ok (.iconst 1, 1) := by decide +kernel
theorem dX4_isLoaf_29 : decode cX4_isLoaf 29 = .ok (.goto 4, 3) := by decide +kernel
theorem dX4_isLoaf_32 : decode cX4_isLoaf 32 = .ok (.iconst 0, 1) := by decide +kernel
theorem dX4_isLoaf_33 : decode cX4_isLoaf 33 = .ok (.ireturn, 1) := by decide +kernel
theorem dX4_firstErrorOfLoaf_0 : decode cX4_firstErrorOfLoaf 0 = .ok (.iconst 0, 1) := by decide +kernel
theorem dX4_firstErrorOfLoaf_1 : decode cX4_firstErrorOfLoaf 1 = .ok (.istore_n 1, 1) := by decide +kernel
theorem dX4_firstErrorOfLoaf_2 : decode cX4_firstErrorOfLoaf 2 = .ok (.iload_n 1, 1) := by decide +kernel
theorem dX4_firstErrorOfLoaf_3 : decode cX4_firstErrorOfLoaf 3 = .ok (.aload_n 0, 1) := by decide +kernel
theorem dX4_firstErrorOfLoaf_4 : decode cX4_firstErrorOfLoaf 4 = .ok (.getfield 20, 3) := by decide +kernel
theorem dX4_firstErrorOfLoaf_7 : decode cX4_firstErrorOfLoaf 7 = .ok (.if_icmp .ge 19, 3) := by decide +kernel
theorem dX4_firstErrorOfLoaf_10 : decode cX4_firstErrorOfLoaf 10 = .ok (.aload_n 0, 1) := by decide +kernel
theorem dX4_firstErrorOfLoaf_11 : decode cX4_firstErrorOfLoaf 11 = .ok (.iload_n 1, 1) := by decide +kernel
theorem dX4_firstErrorOfLoaf_12 : decode cX4_firstErrorOfLoaf 12 = .ok (.invokevirtual 39, 3) := by decide +kernel
theorem dX4_firstErrorOfLoaf_15 : decode cX4_firstErrorOfLoaf 15 = .ok (.ifCond .ne 5, 3) := by decide +kernel
theorem dX4_firstErrorOfLoaf_18 : decode cX4_firstErrorOfLoaf 18 = .ok (.iload_n 1, 1) := by decide +kernel
theorem dX4_firstErrorOfLoaf_19 : decode cX4_firstErrorOfLoaf 19 = .ok (.ireturn, 1) := by decide +kernel
theorem dX4_firstErrorOfLoaf_20 : decode cX4_firstErrorOfLoaf 20 = .ok (.iinc 1 1, 3) := by decide +kernel
theorem dX4_firstErrorOfLoaf_23 : decode cX4_firstErrorOfLoaf 23 = .ok (.goto (-21), 3) := by decide +kernel
theorem dX4_firstErrorOfLoaf_26 : decode cX4_firstErrorOfLoaf 26 = .ok (.aload_n 0, 1) := by decide +kernel
theorem dX4_firstErrorOfLoaf_27 : decode cX4_firstErrorOfLoaf 27 = .ok (.getfield 20, 3) := by decide +kernel
theorem dX4_firstErrorOfLoaf_30 : decode cX4_firstErrorOfLoaf 30 = .ok (.ireturn, 1) := by decide +kernel
theorem dX4_canFollowInLoaf_0 : decode cX4_canFollowInLoaf 0 = .ok (.aload_n 0, 1) := by decide +kernel
theorem dX4_canFollowInLoaf_1 : decode cX4_canFollowInLoaf 1 = .ok (.iload_n 1, 1) := by decide +kernel
theorem dX4_canFollowInLoaf_2 : decode cX4_canFollowInLoaf 2 = .ok (.invokevirtual 32, 3) := by decide +kernel
theorem dX4_canFollowInLoaf_5 : decode cX4_canFollowInLoaf 5 = .ok (.istore_n 2, 1) := by decide +kernel
theorem dX4_canFollowInLoaf_6 : decode cX4_canFollowInLoaf 6 = .ok (.iload_n 1, 1) := by decide +kernel
theorem dX4_canFollowInLoaf_7 : decode cX4_canFollowInLoaf 7 = .ok (.ifCond .ne 12, 3) := by decide +kernel
theorem dX4_canFollowInLoaf_10 : decode cX4_canFollowInLoaf 10 = .ok (.iload_n 2, 1) := by decide +kernel
theorem dX4_canFollowInLoaf_11 : decode cX4_canFollowInLoaf 11 = .ok (.bipush 50, 2) := by decide +kernel
theorem dX4_canFollowInLoaf_13 : decode cX4_canFollowInLoaf 13 = .ok (.bipush 55, 2) := by decide +kernel
theorem dX4_canFollowInLoaf_15 : decode cX4_canFollowInLoaf 15 = .ok (.invokestatic 43, 3) := by decide +kernel
theorem dX4_canFollowInLoaf_18 : decode cX4_canFollowInLoaf 18 = .ok (.ireturn, 1) := by decide +kernel
theorem dX4_canFollowInLoaf_19 : decode cX4_canFollowInLoaf 19 = .ok (.iload_n 1, 1) := by decide +kernel
theorem dX4_canFollowInLoaf_20 : decode cX4_canFollowInLoaf 20 = .ok (.iconst 1, 1) := by decide +kernel
theorem dX4_canFollowInLoaf_21 : decode cX4_canFollowInLoaf 21 = .ok (.if_icmp .ne 15, 3) := by decide +kernel
theorem dX4_canFollowInLoaf_24 : decode cX4_canFollowInLoaf 24 = .ok (.iload_n 2, 1) := by decide +kernel
theorem dX4_canFollowInLoaf_25 : decode cX4_canFollowInLoaf 25 = .ok (.bipush 58, 2) := by decide +kernel
theorem dX4_canFollowInLoaf_27 : decode cX4_canFollowInLoaf 27 = .ok (.if_icmp .ne 7, 3) := by decide +kernel
theorem dX4_canFollowInLoaf_30 : decode cX4_canFollowInLoaf 30 = .ok (.iconst 1, 1) := by decide +kernel
theorem dX4_canFollowInLoaf_31 : decode cX4_canFollowInLoaf 31 = .ok (.goto 4, 3) := by decide +kernel
theorem dX4_canFollowInLoaf_34 : decode cX4_canFollowInLoaf 34 = .ok (.iconst 0, 1) := by decide +kernel
theorem dX4_canFollowInLoaf_35 : decode cX4_canFollowInLoaf 35 = .ok (.ireturn, 1) := by decide +kernel
theorem dX4_canFollowInLoaf_36 : decode cX4_canFollowInLoaf 36 = .ok (.iload_n 1, 1) := by decide +kernel
theorem dX4_canFollowInLoaf_37 : decode cX4_canFollowInLoaf 37 = .ok (.bipush 50, 2) := by decide +kernel
theorem dX4_canFollowInLoaf_39 : decode cX4_canFollowInLoaf 39 = .ok (.if_icmp .lt 5, 3) := by decide +kernel
theorem dX4_canFollowInLoaf_42 : decode cX4_canFollowInLoaf 42 = .ok (.iconst 0, 1) := by decide +kernel
theorem dX4_canFollowInLoaf_43 : decode cX4_canFollowInLoaf 43 = .ok (.ireturn, 1) := by decide +kernel
theorem dX4_canFollowInLoaf_44 : decode cX4_canFollowInLoaf 44 = .ok (.iload_n 1, 1) := by decide +kernel
theorem dX4_canFollowInLoaf_45 : decode cX4_canFollowInLoaf 45 = .ok (.iconst 2, 1) := by decide +kernel
theorem dX4_canFollowInLoaf_46 : decode cX4_canFollowInLoaf 46 = .ok (.irem, 1) := by decide +kernel
theorem dX4_canFollowInLoaf_47 : decode cX4_canFollowInLoaf 47 = .ok (.ifCond .ne 22, 3) := by decide +kernel
theorem dX4_canFollowInLoaf_50 : decode cX4_canFollowInLoaf 50 = .ok (.iload_n 2, 1) := by decide +kernel
theorem dX4_canFollowInLoaf_51 : decode cX4_canFollowInLoaf 51 = .ok (.bipush 97, 2) := by decide +kernel
theorem dX4_canFollowInLoaf_53 : decode cX4_canFollowInLoaf 53 = .ok (.bipush 97, 2) := by decide +kernel
theorem dX4_canFollowInLoaf_55 : decode cX4_canFollowInLoaf 55 = .ok (.aload_n 0, 1) := by decide +kernel
theorem dX4_canFollowInLoaf_56 : decode cX4_canFollowInLoaf 56 = .ok (.iconst 0, 1) := by decide +kernel
theorem dX4_canFollowInLoaf_57 : decode cX4_canFollowInLoaf 57 = .ok (.invokevirtual 47, 3) := by decide +kernel
theorem dX4_canFollowInLoaf_60 : decode cX4_canFollowInLoaf 60 = .ok (.iadd, 1) := by decide +kernel
theorem dX4_canFollowInLoaf_61 : decode cX4_canFollowInLoaf 61 = .ok (.iconst 2, 1) := by decide +kernel
theorem dX4_canFollowInLoaf_62 : decode cX4_canFollowInLoaf 62 = .ok (.isub, 1) := by decide +kernel
theorem dX4_canFollowInLoaf_63 : decode cX4_canFollowInLoaf 63 = .ok (.invokestatic 43, 3) := by decide +kernel
theorem dX4_canFollowInLoaf_66 : decode cX4_canFollowInLoaf 66 = .ok (.goto 7, 3) := by decide +kernel
theorem dX4_canFollowInLoaf_69 : decode cX4_canFollowInLoaf 69 = .ok (.iload_n 2, 1) := by decide +kernel
theorem dX4_canFollowInLoaf_70 : decode cX4_canFollowInLoaf 70 = .ok (.invokestatic 50, 3) := by decide +kernel
theorem dX4_canFollowInLoaf_73 : decode cX4_canFollowInLoaf 73 = .ok (.ireturn, 1) := by decide +kernel
theorem dX4_readLoaf_0 : decode cX4_readLoaf 0 = .ok (.aload_n 1, 1) := by decide +kernel
theorem dX4_readLoaf_1 : decode cX4_readLoaf 1 = .ok (.aload_n 0, 1) := by decide +kernel
theorem dX4_readLoaf_2 : decode cX4_readLoaf 2 = .ok (.iconst 0, 1) := by decide +kernel
theorem dX4_readLoaf_3 : decode cX4_readLoaf 3 = .ok (.invokevirtual 47, 3) := by decide +kernel
theorem dX4_readLoaf_6 : decode cX4_readLoaf 6 = .ok (.invokevirtual 53, 3) := by decide +kernel
theorem dX4_readLoaf_9 : decode cX4_readLoaf 9 = .ok (.iconst 2, 1) := by decide +kernel
theorem dX4_readLoaf_10 : decode cX4_readLoaf 10 = .ok (.istore_n 2, 1) := by decide +kernel
theorem dX4_readLoaf_11 : decode cX4_readLoaf 11 = .ok (.iload_n 2, 1) := by decide +kernel
theorem dX4_readLoaf_12 : decode cX4_readLoaf 12 = .ok (.aload_n 0, 1) := by decide +kernel
theorem dX4_readLoaf_13 : decode cX4_readLoaf 13 = .ok (.getfield 20, 3) := by decide +kernel
theorem dX4_readLoaf_16 : decode cX4_readLoaf 16 = .ok (.if_icmp .ge 38, 3) := by decide +kernel
theorem dX4_readLoaf_19 : decode cX4_readLoaf 19 = .ok (.aload_n 1, 1) := by decide +kernel
theorem dX4_readLoaf_20 : decode cX4_readLoaf 20 = .ok (.aload_n 0, 1) := by decide +kernel
theorem dX4_readLoaf_21 : decode cX4_readLoaf 21 = .ok (.iload_n 2, 1) := by decide +kernel
theorem dX4_readLoaf_22 : decode cX4_readLoaf 22 = .ok (.invokevirtual 58, 3) := by decide +kernel
theorem dX4_readLoaf_25 : decode cX4_readLoaf 25 = .ok (.aload_n 0, 1) := by decide +kernel
theorem dX4_readLoaf_26 : decode cX4_readLoaf 26 = .ok (.iload_n 2, 1) := by decide +kernel
theorem dX4_readLoaf_27 : decode cX4_readLoaf 27 = .ok (.iconst 1, 1) := by decide +kernel
theorem dX4_readLoaf_28 : decode cX4_readLoaf 28 = .ok (.iadd, 1) := by decide +kernel
theorem dX4_readLoaf_29 : decode cX4_readLoaf 29 = .ok (.invokevirtual 32, 3) := by decide +kernel
theorem dX4_readLoaf_32 : decode cX4_readLoaf 32 = .ok (.bipush 43, 2) := by decide +kernel
theorem dX4_readLoaf_34 : decode cX4_readLoaf 34 = .ok (.if_icmp .ne 7, 3) := by decide +kernel
theorem dX4_readLoaf_37 : decode cX4_readLoaf 37 = .ok (.iconst 1, 1) := by decide +kernel
theorem dX4_readLoaf_38 : decode cX4_readLoaf 38 = .ok (.goto 4, 3) := by decide +kernel
theorem dX4_readLoaf_41 : decode cX4_readLoaf 41 = .ok (.iconst 0, 1) := by decide +kernel
theorem dX4_readLoaf_42 : decode cX4_readLoaf 42 = .ok (.invokestatic 61, 3) := by decide +kernel
theorem dX4_readLoaf_45 : decode cX4_readLoaf 45 = .ok (.invokevirtual 65, 3) := by decide +kernel
theorem dX4_readLoaf_48 : decode cX4_readLoaf 48 = .ok (.iinc 2 2, 3) := by decide +kernel
theorem dX4_readLoaf_51 : decode cX4_readLoaf 51 = .ok (.goto (-40), 3) := by decide +kernel
theorem dX4_readLoaf_54 : decode cX4_readLoaf 54 = .ok (.return_, 1) := by decide +kernel
theorem dX4_isWorks_0 : decode cX4_isWorks 0 = .ok (.iconst 0, 1) := by decide +kernel
theorem dX4_isWorks_1 : decode cX4_isWorks 1 = .ok (.istore_n 1, 1) := by decide +kernel
theorem dX4_isWorks_2 : decode cX4_isWorks 2 = .ok (.iconst 0, 1) := by decide +kernel
theorem dX4_isWorks_3 : decode cX4_isWorks 3 = .ok (.istore_n 2, 1) := by decide +kernel
theorem dX4_isWorks_4 : decode cX4_isWorks 4 = .ok (.iload_n 2, 1) := by decide +kernel
theorem dX4_isWorks_5 : decode cX4_isWorks 5 = .ok (.aload_n 0, 1) := by decide +kernel
theorem dX4_isWorks_6 : decode cX4_isWorks 6 = .ok (.getfield 20, 3) := by decide +kernel
theorem dX4_isWorks_9 : decode cX4_isWorks 9 = .ok (.if_icmp .ge 19, 3) := by decide +kernel
theorem dX4_isWorks_12 : decode cX4_isWorks 12 = .ok (.iload_n 1, 1) := by decide +kernel
theorem dX4_isWorks_13 : decode cX4_isWorks 13 = .ok (.aload_n 0, 1) := by decide +kernel
theorem dX4_isWorks_14 : decode cX4_isWorks 14 = .ok (.iload_n 2, 1) := by decide +kernel
theorem dX4_isWorks_15 : decode cX4_isWorks 15 = .ok (.invokevirtual 32, 3) := by decide +kernel
theorem dX4_isWorks_18 : decode cX4_isWorks 18 = .ok (.invokestatic 68, 3) := by decide +kernel
theorem dX4_isWorks_21 : decode cX4_isWorks 21 = .ok (.istore_n 1, 1) := by decide +kernel
theorem dX4_isWorks_22 : decode cX4_isWorks 22 = .ok (.iinc 2 1, 3) := by decide +kernel
theorem dX4_isWorks_25 : decode cX4_isWorks 25 = .ok (.goto (-21), 3) := by decide +kernel
theorem dX4_isWorks_28 : decode cX4_isWorks 28 = .ok (.iload_n 1, 1) := by decide +kernel
theorem dX4_isWorks_29 : decode cX4_isWorks 29 = .ok (.bipush 7, 2) := by decide +kernel
theorem dX4_isWorks_31 : decode cX4_isWorks 31 = .ok (.if_icmp .ne 7, 3) := by decide +kernel
theorem dX4_isWorks_34 : decode cX4_isWorks 34 = .ok (.iconst 1, 1) := by decide +kernel
theorem dX4_isWorks_35 : decode cX4_isWorks 35 = .ok (.goto 4, 3) := by decide +kernel
theorem dX4_isWorks_38 : decode cX4_isWorks 38 = .ok (.iconst 0, 1) := by decide +kernel
theorem dX4_isWorks_39 : decode cX4_isWorks 39 = .ok (.ireturn, 1) := by decide +kernel
theorem dX4_stateBehind_0 : decode cX4_stateBehind 0 = .ok (.iload_n 0, 1) := by decide +kernel
theorem dX4_stateBehind_1 : decode cX4_stateBehind 1 = .ok (.tableswitch 148 0 7 #[47, 52, 66, 79, 96, 110, 124, 136], 47) := by decide +kernel
theorem dX4_stateBehind_48 : decode cX4_stateBehind 48 = .ok (.iload_n 1, 1) := by decide +kernel
theorem dX4_stateBehind_49 : decode cX4_stateBehind 49 = .ok (.invokestatic 72, 3) := by decide +kernel
theorem dX4_stateBehind_52 : decode cX4_stateBehind 52 = .ok (.ireturn, 1) := by decide +kernel
theorem dX4_stateBehind_53 : decode cX4_stateBehind 53 = .ok (.iload_n 1, 1) := by decide +kernel
theorem dX4_stateBehind_54 : decode cX4_stateBehind 54 = .ok (.invokestatic 75, 3) := by decide +kernel
theorem dX4_stateBehind_57 : decode cX4_stateBehind 57 = .ok (.ifCond .eq 8, 3) := by decide +kernel
theorem dX4_stateBehind_60 : decode cX4_stateBehind 60 = .ok (.bipush 7, 2) := by decide +kernel
theorem dX4_stateBehind_62 : decode cX4_stateBehind 62 = .ok (.goto 4, 3) := by decide +kernel
theorem dX4_stateBehind_65 : decode cX4_stateBehind 65 = .ok (.iconst (-1), 1) := by decide +kernel
theorem dX4_stateBehind_66 : decode cX4_stateBehind 66 = .ok (.ireturn, 1) := by decide +kernel
theorem dX4_stateBehind_67 : decode cX4_stateBehind 67 = .ok (.iload_n 1, 1) := by decide +kernel
theorem dX4_stateBehind_68 : decode cX4_stateBehind 68 = .ok (.invokestatic 75, 3) := by decide +kernel
theorem dX4_stateBehind_71 : decode cX4_stateBehind 71 = .ok (.ifCond .eq 7, 3) := by decide +kernel
theorem dX4_stateBehind_74 : decode cX4_stateBehind 74 = .ok (.iconst 3, 1) := by decide +kernel
theorem dX4_stateBehind_75 : decode cX4_stateBehind 75 = .ok (.goto 4, 3) := by decide +kernel
theorem dX4_stateBehind_78 : decode cX4_stateBehind 78 = .ok (.iconst (-1), 1) := by decide +kernel
theorem dX4_stateBehind_79 : decode cX4_stateBehind 79 = .ok (.ireturn, 1) := by decide +kernel
theorem dX4_stateBehind_80 : decode cX4_stateBehind 80 = .ok (.iload_n 1, 1) := by decide +kernel
theorem dX4_stateBehind_81 : decode cX4_stateBehind 81 = .ok (.bipush 97, 2) := by decide +kernel
theorem dX4_stateBehind_83 : decode cX4_stateBehind 83 = .ok (.bipush 102, 2) := by decide +kernel
theorem dX4_stateBehind_85 : decode cX4_stateBehind 85 = .ok (.invokestatic 43, 3) := by decide +kernel
theorem dX4_stateBehind_88 : decode cX4_stateBehind 88 = .ok (.ifCond .eq 7, 3) := by decide +kernel
theorem dX4_stateBehind_91 : decode cX4_stateBehind 91 = .ok (.iconst 4, 1) := by decide +kernel
theorem dX4_stateBehind_92 : decode cX4_stateBehind 92 = .ok (.goto 4, 3) := by decide +kernel
theorem dX4_stateBehind_95 : decode cX4_stateBehind 95 = .ok (.iconst (-1), 1) := by decide +kernel
theorem dX4_stateBehind_96 : decode cX4_stateBehind 96 = .ok (.ireturn, 1) := by decide +kernel
theorem dX4_stateBehind_97 : decode cX4_stateBehind 97 = .ok (.iload_n 1, 1) := by decide +kernel
theorem dX4_stateBehind_98 : decode cX4_stateBehind 98 = .ok (.invokestatic 50, 3) := by decide +kernel
theorem dX4_stateBehind_101 : decode cX4_stateBehind 101 = .ok (.ifCond .eq 8, 3) := by decide +kernel
theorem dX4_stateBehind_104 : decode cX4_stateBehind 104 = .ok (.bipush 7, 2) := by decide +kernel
theorem dX4_stateBehind_106 : decode cX4_stateBehind 106 = .ok (.goto 4, 3) := by decide +kernel
theorem dX4_stateBehind_109 : decode cX4_stateBehind 109 = .ok (.iconst (-1), 1) := by decide +kernel
theorem dX4_stateBehind_110 : decode cX4_stateBehind 110 = .ok (.ireturn, 1) := by decide +kernel
theorem dX4_stateBehind_111 : decode cX4_stateBehind 111 = .ok (.iload_n 1, 1) := by decide +kernel
theorem dX4_stateBehind_112 : decode cX4_stateBehind 112 = .ok (.invokestatic 75, 3) := by decide +kernel
theorem dX4_stateBehind_115 : decode cX4_stateBehind 115 = .ok (.ifCond .eq 8, 3) := by decide +kernel
theorem dX4_stateBehind_118 : decode cX4_stateBehind 118 = .ok (.bipush 6, 2) := by decide +kernel
theorem dX4_stateBehind_120 : decode cX4_stateBehind 120 = .ok (.goto 4, 3) := by decide +kernel
theorem dX4_stateBehind_123 : decode cX4_stateBehind 123 = .ok (.iconst (-1), 1) := by decide +kernel
theorem dX4_stateBehind_124 : decode cX4_stateBehind 124 = .ok (.ireturn, 1) := by decide +kernel
theorem dX4_stateBehind_125 : decode cX4_stateBehind 125 = .ok (.iload_n 1, 1) := by decide +kernel
theorem dX4_stateBehind_126 : decode cX4_stateBehind 126 = .ok (.bipush 47, 2) := by decide +kernel
theorem dX4_stateBehind_128 : decode cX4_stateBehind 128 = .ok (.if_icmp .ne 7, 3) := by decide +kernel
theorem dX4_stateBehind_131 : decode cX4_stateBehind 131 = .ok (.iconst 1, 1) := by decide +kernel
theorem dX4_stateBehind_132 : decode cX4_stateBehind 132 = .ok (.goto 4, 3) := by decide +kernel
theorem dX4_stateBehind_135 : decode cX4_stateBehind 135 = .ok (.iconst (-1), 1) := by decide +kernel
theorem dX4_stateBehind_136 : decode cX4_stateBehind 136 = .ok (.ireturn, 1) := by decide +kernel
theorem dX4_stateBehind_137 : decode cX4_stateBehind 137 = .ok (.iload_n 1, 1) := by decide +kernel
theorem dX4_stateBehind_138 : decode cX4_stateBehind 138 = .ok (.bipush 59, 2) := by decide +kernel
theorem dX4_stateBehind_140 : decode cX4_stateBehind 140 = .ok (.if_icmp .ne 7, 3) := by decide +kernel
theorem dX4_stateBehind_143 : decode cX4_stateBehind 143 = .ok (.iconst 0, 1) := by decide +kernel
theorem dX4_stateBehind_144 : decode cX4_stateBehind 144 = .ok (.goto 4, 3) := by decide +kernel
theorem dX4_stateBehind_147 : decode cX4_stateBehind 147 = .ok (.iconst (-1), 1) := by decide +kernel
theorem dX4_stateBehind_148 : decode cX4_stateBehind 148 = .ok (.ireturn, 1) := by decide +kernel
theorem dX4_stateBehind_149 : decode cX4_stateBehind 149 = .ok (.iconst (-1), 1) := by decide +kernel
theorem dX4_stateBehind_150 : decode cX4_stateBehind 150 = .ok (.ireturn, 1) := by decide +kernel
theorem dX4_stateBehindLetter_0 : decode cX4_stateBehindLetter 0 = .ok (.iload_n 0, 1) := by decide +kernel
theorem dX4_stateBehindLetter_1 : decode cX4_stateBehindLetter 1 = .ok (.tableswitch 89 106 122 #[85, 89, 87, 87, 89, 89, 89, 89, 87, 89, 87, 89, 89, 89, 83, 89, 87], 83) := by decide +kernel
theorem dX4_stateBehindLetter_84 : decode cX4_stateBehindLetter 84 = .ok (.iconst 2, 1) := by decide +kernel
theorem dX4_stateBehindLetter_85 : decode cX4_stateBehindLetter 85 = .ok (.ireturn, 1) := by decide +kernel
theorem dX4_stateBehindLetter_86 : decode cX4_stateBehindLetter 86 = .ok (.iconst 5, 1) := by decide +kernel
theorem dX4_stateBehindLetter_87 : decode cX4_stateBehindLetter 87 = .ok (.ireturn, 1) := by decide +kernel
theorem dX4_stateBehindLetter_88 : decode cX4_stateBehindLetter 88 = .ok (.iconst 1, 1) := by decide +kernel
theorem dX4_stateBehindLetter_89 : decode cX4_stateBehindLetter 89 = .ok (.ireturn, 1) := by decide +kernel
theorem dX4_stateBehindLetter_90 : decode cX4_stateBehindLetter 90 = .ok (.iconst (-1), 1) := by decide +kernel
theorem dX4_stateBehindLetter_91 : decode cX4_stateBehindLetter 91 = .ok (.ireturn, 1) := by decide +kernel
theorem dX4_parts_0 : decode cX4_parts 0 = .ok (.iconst 1, 1) := by decide +kernel
theorem dX4_parts_1 : decode cX4_parts 1 = .ok (.istore_n 1, 1) := by decide +kernel
theorem dX4_parts_2 : decode cX4_parts 2 = .ok (.iconst 0, 1) := by decide +kernel
theorem dX4_parts_3 : decode cX4_parts 3 = .ok (.istore_n 2, 1) := by decide +kernel
theorem dX4_parts_4 : decode cX4_parts 4 = .ok (.iload_n 2, 1) := by decide +kernel
theorem dX4_parts_5 : decode cX4_parts 5 = .ok (.aload_n 0, 1) := by decide +kernel
theorem dX4_parts_6 : decode cX4_parts 6 = .ok (.getfield 20, 3) := by decide +kernel
theorem dX4_parts_9 : decode cX4_parts 9 = .ok (.if_icmp .ge 27, 3) := by decide +kernel
theorem dX4_parts_12 : decode cX4_parts 12 = .ok (.iload_n 1, 1) := by decide +kernel
theorem dX4_parts_13 : decode cX4_parts 13 = .ok (.aload_n 0, 1) := by decide +kernel
theorem dX4_parts_14 : decode cX4_parts 14 = .ok (.iload_n 2, 1) := by decide +kernel
theorem dX4_parts_15 : decode cX4_parts 15 = .ok (.invokevirtual 32, 3) := by decide +kernel
theorem dX4_parts_18 : decode cX4_parts 18 = .ok (.bipush 59, 2) := by decide +kernel
theorem dX4_parts_20 : decode cX4_parts 20 = .ok (.if_icmp .ne 7, 3) := by decide +kernel
theorem dX4_parts_23 : decode cX4_parts 23 = .ok (.iconst 1, 1) := by decide +kernel
theorem dX4_parts_24 : decode cX4_parts 24 = .ok (.goto 4, 3) := by decide +kernel
theorem dX4_parts_27 : decode cX4_parts 27 = .ok (.iconst 0, 1) := by decide +kernel
theorem dX4_parts_28 : decode cX4_parts 28 = .ok (.iadd, 1) := by decide +kernel
theorem dX4_parts_29 : decode cX4_parts 29 = .ok (.istore_n 1, 1) := by decide +kernel
theorem dX4_parts_30 : decode cX4_parts 30 = .ok (.iinc 2 1, 3) := by decide +kernel
theorem dX4_parts_33 : decode cX4_parts 33 = .ok (.goto (-29), 3) := by decide +kernel
theorem dX4_parts_36 : decode cX4_parts 36 = .ok (.iload_n 1, 1) := by decide +kernel
theorem dX4_parts_37 : decode cX4_parts 37 = .ok (.ireturn, 1) := by decide +kernel
theorem dX4_partSize_0 : decode cX4_partSize 0 = .ok (.aload_n 0, 1) := by decide +kernel
theorem dX4_partSize_1 : decode cX4_partSize 1 = .ok (.iload_n 1, 1) := by decide +kernel
theorem dX4_partSize_2 : decode cX4_partSize 2 = .ok (.invokevirtual 32, 3) := by decide +kernel
theorem dX4_partSize_5 : decode cX4_partSize 5 = .ok (.istore_n 2, 1) := by decide +kernel
theorem dX4_partSize_6 : decode cX4_partSize 6 = .ok (.iload_n 2, 1) := by decide +kernel
theorem dX4_partSize_7 : decode cX4_partSize 7 = .ok (.bipush 120, 2) := by decide +kernel
theorem dX4_partSize_9 : decode cX4_partSize 9 = .ok (.if_icmp .eq 9, 3) := by decide +kernel
theorem dX4_partSize_12 : decode cX4_partSize 12 = .ok (.iload_n 2, 1) := by decide +kernel
theorem dX4_partSize_13 : decode cX4_partSize 13 = .ok (.bipush 106, 2) := by decide +kernel
theorem dX4_partSize_15 : decode cX4_partSize 15 = .ok (.if_icmp .ne 7, 3) := by decide +kernel
theorem dX4_partSize_18 : decode cX4_partSize 18 = .ok (.iconst 4, 1) := by decide +kernel
theorem dX4_partSize_19 : decode cX4_partSize 19 = .ok (.goto 4, 3) := by decide +kernel
theorem dX4_partSize_22 : decode cX4_partSize 22 = .ok (.iconst 2, 1) := by decide +kernel
theorem dX4_partSize_23 : decode cX4_partSize 23 = .ok (.ireturn, 1) := by decide +kernel
theorem dX4_howAt_0 : decode cX4_howAt 0 = .ok (.aload_n 0, 1) := by decide +kernel
theorem dX4_howAt_1 : decode cX4_howAt 1 = .ok (.iload_n 1, 1) := by decide +kernel
theorem dX4_howAt_2 : decode cX4_howAt 2 = .ok (.invokevirtual 32, 3) := by decide +kernel
theorem dX4_howAt_5 : decode cX4_howAt 5 = .ok (.tableswitch 59 108 116 #[57, 51, 59, 59, 59, 59, 55, 59, 53], 51) := by decide +kernel
theorem dX4_howAt_56 : decode cX4_howAt 56 = .ok (.iconst 0, 1) := by decide +kernel
theorem dX4_howAt_57 : decode cX4_howAt 57 = .ok (.ireturn, 1) := by decide +kernel
theorem dX4_howAt_58 : decode cX4_howAt 58 = .ok (.iconst 1, 1) := by decide +kernel
theorem dX4_howAt_59 : decode cX4_howAt 59 = .ok (.ireturn, 1) := by decide +kernel
theorem dX4_howAt_60 : decode cX4_howAt 60 = .ok (.iconst 2, 1) := by decide +kernel
theorem dX4_howAt_61 : decode cX4_howAt 61 = .ok (.ireturn, 1) := by decide +kernel
theorem dX4_howAt_62 : decode cX4_howAt 62 = .ok (.iconst 3, 1) := by decide +kernel
theorem dX4_howAt_63 : decode cX4_howAt 63 = .ok (.ireturn, 1) := by decide +kernel
theorem dX4_howAt_64 : decode cX4_howAt 64 = .ok (.iconst (-1), 1) := by decide +kernel
theorem dX4_howAt_65 : decode cX4_howAt 65 = .ok (.ireturn, 1) := by decide +kernel
theorem dX4_isBetween_0 : decode cX4_isBetween 0 = .ok (.iload_n 0, 1) := by decide +kernel
theorem dX4_isBetween_1 : decode cX4_isBetween 1 = .ok (.iload_n 1, 1) := by decide +kernel
theorem dX4_isBetween_2 : decode cX4_isBetween 2 = .ok (.if_icmp .lt 12, 3) := by decide +kernel
theorem dX4_isBetween_5 : decode cX4_isBetween 5 = .ok (.iload_n 0, 1) := by decide +kernel
theorem dX4_isBetween_6 : decode cX4_isBetween 6 = .ok (.iload_n 2, 1) := by decide +kernel
theorem dX4_isBetween_7 : decode cX4_isBetween 7 = .ok (.if_icmp .gt 7, 3) := by decide +kernel
theorem dX4_isBetween_10 : decode cX4_isBetween 10 = .ok (.iconst 1, 1) := by decide +kernel
theorem dX4_isBetween_11 : decode cX4_isBetween 11 = .ok (.goto 4, 3) := by decide +kernel
theorem dX4_isBetween_14 : decode cX4_isBetween 14 = .ok (.iconst 0, 1) := by decide +kernel
theorem dX4_isBetween_15 : decode cX4_isBetween 15 = .ok (.ireturn, 1) := by decide +kernel
theorem dX4_isLoafDigit_0 : decode cX4_isLoafDigit 0 = .ok (.iload_n 0, 1) := by decide +kernel
theorem dX4_isLoafDigit_1 : decode cX4_isLoafDigit 1 = .ok (.bipush 48, 2) := by decide +kernel
theorem dX4_isLoafDigit_3 : decode cX4_isLoafDigit 3 = .ok (.bipush 53, 2) := by decide +kernel
theorem dX4_isLoafDigit_5 : decode cX4_isLoafDigit 5 = .ok (.invokestatic 43, 3) := by decide +kernel
theorem dX4_isLoafDigit_8 : decode cX4_isLoafDigit 8 = .ok (.ireturn, 1) := by decide +kernel
theorem dX4_isSide_0 : decode cX4_isSide 0 = .ok (.iload_n 0, 1) := by decide +kernel
theorem dX4_isSide_1 : decode cX4_isSide 1 = .ok (.bipush 43, 2) := by decide +kernel
theorem dX4_isSide_3 : decode cX4_isSide 3 = .ok (.if_icmp .eq 9, 3) := by decide +kernel
theorem dX4_isSide_6 : decode cX4_isSide 6 = .ok (.iload_n 0, 1) := by decide +kernel
theorem dX4_isSide_7 : decode cX4_isSide 7 = .ok (.bipush 45, 2) := by decide +kernel
theorem dX4_isSide_9 : decode cX4_isSide 9 = .ok (.if_icmp .ne 7, 3) := by decide +kernel
theorem dX4_isSide_12 : decode cX4_isSide 12 = .ok (.iconst 1, 1) := by decide +kernel
theorem dX4_isSide_13 : decode cX4_isSide 13 = .ok (.goto 4, 3) := by decide +kernel
theorem dX4_isSide_16 : decode cX4_isSide 16 = .ok (.iconst 0, 1) := by decide +kernel
theorem dX4_isSide_17 : decode cX4_isSide 17 = .ok (.ireturn, 1) := by decide +kernel
theorem dX5_init_0 : decode cX5_init 0 = .ok (.aload_n 0, 1) := by decide +kernel
theorem dX5_init_1 : decode cX5_init 1 = .ok (.invokespecial 3, 3) := by decide +kernel
theorem dX5_init_4 : decode cX5_init 4 = .ok (.aload_n 0, 1) := by decide +kernel
theorem dX5_init_5 : decode cX5_init 5 = .ok (.new 9, 3) := by decide +kernel
theorem dX5_init_8 : decode cX5_init 8 = .ok (.dup, 1) := by decide +kernel
theorem dX5_init_9 : decode cX5_init 9 = .ok (.bipush 24, 2) := by decide +kernel
theorem dX5_init_11 : decode cX5_init 11 = .ok (.invokespecial 11, 3) := by decide +kernel
theorem dX5_init_14 : decode cX5_init 14 = .ok (.putfield 14, 3) := by decide +kernel
theorem dX5_init_17 : decode cX5_init 17 = .ok (.aload_n 0, 1) := by decide +kernel
theorem dX5_init_18 : decode cX5_init 18 = .ok (.new 9, 3) := by decide +kernel
theorem dX5_init_21 : decode cX5_init 21 = .ok (.dup, 1) := by decide +kernel
theorem dX5_init_22 : decode cX5_init 22 = .ok (.bipush 24, 2) := by decide +kernel
theorem dX5_init_24 : decode cX5_init 24 = .ok (.invokespecial 11, 3) := by decide +kernel
theorem dX5_init_27 : decode cX5_init 27 = .ok (.putfield 20, 3) := by decide +kernel
theorem dX5_init_30 : decode cX5_init 30 = .ok (.aload_n 0, 1) := by decide +kernel
theorem dX5_init_31 : decode cX5_init 31 = .ok (.new 9, 3) := by decide +kernel
theorem dX5_init_34 : decode cX5_init 34 = .ok (.dup, 1) := by decide +kernel
theorem dX5_init_35 : decode cX5_init 35 = .ok (.bipush 7, 2) := by decide +kernel
theorem dX5_init_37 : decode cX5_init 37 = .ok (.invokespecial 11, 3) := by decide +kernel
theorem dX5_init_40 : decode cX5_init 40 = .ok (.putfield 23, 3) := by decide +kernel
theorem dX5_init_43 : decode cX5_init 43 = .ok (.aload_n 0, 1) := by decide +kernel
theorem dX5_init_44 : decode cX5_init 44 = .ok (.new 9, 3) := by decide +kernel
theorem dX5_init_47 : decode cX5_init 47 = .ok (.dup, 1) := by decide +kernel
theorem dX5_init_48 : decode cX5_init 48 = .ok (.bipush 7, 2) := by decide +kernel
theorem dX5_init_50 : decode cX5_init 50 = .ok (.invokespecial 11, 3) := by decide +kernel
theorem dX5_init_53 : decode cX5_init 53 = .ok (.putfield 26, 3) := by decide +kernel
theorem dX5_init_56 : decode cX5_init 56 = .ok (.aload_n 0, 1) := by decide +kernel
theorem dX5_init_57 : decode cX5_init 57 = .ok (.new 9, 3) := by decide +kernel
theorem dX5_init_60 : decode cX5_init 60 = .ok (.dup, 1) := by decide +kernel
theorem dX5_init_61 : decode cX5_init 61 = .ok (.bipush 7, 2) := by decide +kernel
theorem dX5_init_63 : decode cX5_init 63 = .ok (.invokespecial 11, 3) := by decide +kernel
theorem dX5_init_66 : decode cX5_init 66 = .ok (.putfield 29, 3) := by decide +kernel
theorem dX5_init_69 : decode cX5_init 69 = .ok (.aload_n 0, 1) := by decide +kernel
theorem dX5_init_70 : decode cX5_init 70 = .ok (.new 9, 3) := by decide +kernel
theorem dX5_init_73 : decode cX5_init 73 = .ok (.dup, 1) := by decide +kernel
theorem dX5_init_74 : decode cX5_init 74 = .ok (.bipush 7, 2) := by decide +kernel
theorem dX5_init_76 : decode cX5_init 76 = .ok (.invokespecial 11, 3) := by decide +kernel
theorem dX5_init_79 : decode cX5_init 79 = .ok (.putfield 32, 3) := by decide +kernel
theorem dX5_init_82 : decode cX5_init 82 = .ok (.aload_n 0, 1) := by decide +kernel
theorem dX5_init_83 : decode cX5_init 83 = .ok (.new 9, 3) := by decide +kernel
theorem dX5_init_86 : decode cX5_init 86 = .ok (.dup, 1) := by decide +kernel
theorem dX5_init_87 : decode cX5_init 87 = .ok (.bipush 7, 2) := by decide +kernel
theorem dX5_init_89 : decode cX5_init 89 = .ok (.invokespecial 11, 3) := by decide +kernel
theorem dX5_init_92 : decode cX5_init 92 = .ok (.putfield 35, 3) := by decide +kernel
theorem dX5_init_95 : decode cX5_init 95 = .ok (.aload_n 0, 1) := by decide +kernel
theorem dX5_init_96 : decode cX5_init 96 = .ok (.iconst 2, 1) := by decide +kernel
theorem dX5_init_97 : decode cX5_init 97 = .ok (.putfield 38, 3) := by decide +kernel
theorem dX5_init_100 : decode cX5_init 100 = .ok (.return_, 1) := by decide +kernel
theorem dX5_follow_0 : decode cX5_follow 0 = .ok (.aload_n 0, 1) := by decide +kernel
theorem dX5_follow_1 : decode cX5_follow 1 = .ok (.aload_n 1, 1) := by decide +kernel
theorem dX5_follow_2 : decode cX5_follow 2 = .ok (.invokevirtual 42, 3) := by decide +kernel
theorem dX5_follow_5 : decode cX5_follow 5 = .ok (.putfield 38, 3) := by decide +kernel
theorem dX5_follow_8 : decode cX5_follow 8 = .ok (.iconst 0, 1) := by decide +kernel
theorem dX5_follow_9 : decode cX5_follow 9 = .ok (.istore_n 2, 1) := by decide +kernel
theorem dX5_follow_10 : decode cX5_follow 10 = .ok (.iload_n 2, 1) := by decide +kernel
theorem dX5_follow_11 : decode cX5_follow 11 = .ok (.aload_n 0, 1) := by decide +kernel
theorem dX5_follow_12 : decode cX5_follow 12 = .ok (.getfield 38, 3) := by decide +kernel
theorem dX5_follow_15 : decode cX5_follow 15 = .ok (.if_icmp .ge 36, 3) := by decide +kernel
theorem dX5_follow_18 : decode cX5_follow 18 = .ok (.aload_n 0, 1) := by decide +kernel
theorem dX5_follow_19 : decode cX5_follow 19 = .ok (.getfield 23, 3) := by decide +kernel
theorem dX5_follow_22 : decode cX5_follow 22 = .ok (.iload_n 2, 1) := by decide +kernel
theorem dX5_follow_23 : decode cX5_follow 23 = .ok (.iload_n 2, 1) := by decide +kernel
theorem dX5_follow_24 : decode cX5_follow 24 = .ok (.invokevirtual 47, 3) := by decide +kernel
theorem dX5_follow_27 : decode cX5_follow 27 = .ok (.aload_n 0, 1) := by decide +kernel
theorem dX5_follow_28 : decode cX5_follow 28 = .ok (.getfield 29, 3) := by decide +kernel
theorem dX5_follow_31 : decode cX5_follow 31 = .ok (.iload_n 2, 1) := by decide +kernel
theorem dX5_follow_32 : decode cX5_follow 32 = .ok (.iconst 0, 1) := by decide +kernel
theorem dX5_follow_33 : decode cX5_follow 33 = .ok (.invokevirtual 47, 3) := by decide +kernel
theorem dX5_follow_36 : decode cX5_follow 36 = .ok (.aload_n 0, 1) := by decide +kernel
theorem dX5_follow_37 : decode cX5_follow 37 = .ok (.getfield 32, 3) := by decide +kernel
theorem dX5_follow_40 : decode cX5_follow 40 = .ok (.iload_n 2, 1) := by decide +kernel
theorem dX5_follow_41 : decode cX5_follow 41 = .ok (.iconst 0, 1) := by decide +kernel
theorem dX5_follow_42 : decode cX5_follow 42 = .ok (.invokevirtual 47, 3) := by decide +kernel
theorem dX5_follow_45 : decode cX5_follow 45 = .ok (.iinc 2 1, 3) := by decide +kernel
theorem dX5_follow_48 : decode cX5_follow 48 = .ok (.goto (-38), 3) := by decide +kernel
theorem dX5_follow_51 : decode cX5_follow 51 = .ok (.iconst 0, 1) := by decide +kernel
theorem dX5_follow_52 : decode cX5_follow 52 = .ok (.istore_n 2, 1) := by decide +kernel
theorem dX5_follow_53 : decode cX5_follow 53 = .ok (.iload_n 2, 1) := by decide +kernel
theorem dX5_follow_54 : decode cX5_follow 54 = .ok (.aload_n 1, 1) := by decide +kernel
theorem dX5_follow_55 : decode cX5_follow 55 = .ok (.invokevirtual 51, 3) := by decide +kernel
theorem dX5_follow_58 : decode cX5_follow 58 = .ok (.if_icmp .ge 19, 3) := by decide +kernel
theorem dX5_follow_61 : decode cX5_follow 61 = .ok (.aload_n 0, 1) := by decide +kernel
theorem dX5_follow_62 : decode cX5_follow 62 = .ok (.iload_n 2, 1) := by decide +kernel
theorem dX5_follow_63 : decode cX5_follow 63 = .ok (.aload_n 1, 1) := by decide +kernel
theorem dX5_follow_64 : decode cX5_follow 64 = .ok (.iload_n 2, 1) := by decide +kernel
theorem dX5_follow_65 : decode cX5_follow 65 = .ok (.invokevirtual 54, 3) := by decide +kernel
theorem dX5_follow_68 : decode cX5_follow 68 = .ok (.invokevirtual 58, 3) := by decide +kernel
theorem dX5_follow_71 : decode cX5_follow 71 = .ok (.iinc 2 1, 3) := by decide +kernel
theorem dX5_follow_74 : decode cX5_follow 74 = .ok (.goto (-21), 3) := by decide +kernel
theorem dX5_follow_77 : decode cX5_follow 77 = .ok (.iconst 0, 1) := by decide +kernel
theorem dX5_follow_78 : decode cX5_follow 78 = .ok (.istore_n 2, 1) := by decide +kernel
theorem dX5_follow_79 : decode cX5_follow 79 = .ok (.iload_n 2, 1) := by decide +kernel
theorem dX5_follow_80 : decode cX5_follow 80 = .ok (.aload_n 0, 1) := by decide +kernel
theorem dX5_follow_81 : decode cX5_follow 81 = .ok (.getfield 38, 3) := by decide +kernel
theorem dX5_follow_84 : decode cX5_follow 84 = .ok (.if_icmp .ge 25, 3) := by decide +kernel
theorem dX5_follow_87 : decode cX5_follow 87 = .ok (.aload_n 0, 1) := by decide +kernel
theorem dX5_follow_88 : decode cX5_follow 88 = .ok (.getfield 26, 3) := by decide +kernel
theorem dX5_follow_91 : decode cX5_follow 91 = .ok (.aload_n 0, 1) := by decide +kernel
theorem dX5_follow_92 : decode cX5_follow 92 = .ok (.getfield 23, 3) := by decide +kernel
theorem dX5_follow_95 : decode cX5_follow 95 = .ok (.iload_n 2, 1) := by decide +kernel
theorem dX5_follow_96 : decode cX5_follow 96 = .ok (.invokevirtual 61, 3) := by decide +kernel
theorem dX5_follow_99 : decode cX5_follow 99 = .ok (.iload_n 2, 1) := by decide +kernel
theorem dX5_follow_100 : decode cX5_follow 100 = .ok (.invokevirtual 47, 3) := by decide +kernel
theorem dX5_follow_103 : decode cX5_follow 103 = .ok (.iinc 2 1, 3) := by decide +kernel
theorem dX5_follow_106 : decode cX5_follow 106 = .ok (.goto (-27), 3) := by decide +kernel
theorem dX5_follow_109 : decode cX5_follow 109 = .ok (.return_, 1) := by decide +kernel
theorem dX5_pass_0 : decode cX5_pass 0 = .ok (.iload_n 2, 1) := by decide +kernel
theorem dX5_pass_1 : decode cX5_pass 1 = .ok (.invokestatic 64, 3) := by decide +kernel
theorem dX5_pass_4 : decode cX5_pass 4 = .ok (.istore_n 3, 1) := by decide +kernel
theorem dX5_pass_5 : decode cX5_pass 5 = .ok (.aload_n 0, 1) := by decide +kernel
theorem dX5_pass_6 : decode cX5_pass 6 = .ok (.getfield 23, 3) := by decide +kernel
theorem dX5_pass_9 : decode cX5_pass 9 = .ok (.iload_n 3, 1) := by decide +kernel
theorem dX5_pass_10 : decode cX5_pass 10 = .ok (.invokevirtual 61, 3) := by decide +kernel
theorem dX5_pass_13 : decode cX5_pass 13 = .ok (.istore 4, 2) := by decide +kernel
theorem dX5_pass_15 : decode cX5_pass 15 = .ok (.aload_n 0, 1) := by decide +kernel
theorem dX5_pass_16 : decode cX5_pass 16 = .ok (.getfield 23, 3) := by decide +kernel
theorem dX5_pass_19 : decode cX5_pass 19 = .ok (.iload_n 3, 1) := by decide +kernel
theorem dX5_pass_20 : decode cX5_pass 20 = .ok (.iconst 1, 1) := by decide +kernel
theorem dX5_pass_21 : decode cX5_pass 21 = .ok (.iadd, 1) := by decide +kernel
theorem dX5_pass_22 : decode cX5_pass 22 = .ok (.invokevirtual 61, 3) := by decide +kernel
theorem dX5_pass_25 : decode cX5_pass 25 = .ok (.istore 5, 2) := by decide +kernel
theorem dX5_pass_27 : decode cX5_pass 27 = .ok (.iload_n 2, 1) := by decide +kernel
theorem dX5_pass_28 : decode cX5_pass 28 = .ok (.invokestatic 67, 3) := by decide +kernel
theorem dX5_pass_31 : decode cX5_pass 31 = .ok (.ifCond .eq 8, 3) := by decide +kernel
theorem dX5_pass_34 : decode cX5_pass 34 = .ok (.iload 4, 2) := by decide +kernel
theorem dX5_pass_36 : decode cX5_pass 36 = .ok (.goto 5, 3) := by decide +kernel
theorem dX5_pass_39 : decode cX5_pass 39 = .ok (.iload 5, 2) := by decide +kernel
theorem dX5_pass_41 : decode cX5_pass 41 = .ok (.istore 6, 2) := by decide +kernel
theorem dX5_pass_43 : decode cX5_pass 43 = .ok (.iload_n 2, 1) := by decide +kernel
theorem dX5_pass_44 : decode cX5_pass 44 = .ok (.invokestatic 67, 3) := by decide +kernel
theorem dX5_pass_47 : decode cX5_pass 47 = .ok (.ifCond .eq 8, 3) := by decide +kernel
theorem dX5_pass_50 : decode cX5_pass 50 = .ok (.iload 5, 2) := by decide +kernel
theorem dX5_pass_52 : decode cX5_pass 52 = .ok (.goto 5, 3) := by decide +kernel
theorem dX5_pass_55 : decode cX5_pass 55 = .ok (.iload 4, 2) := by decide +kernel
theorem dX5_pass_57 : decode cX5_pass 57 = .ok (.istore 7, 2) := by decide +kernel
theorem dX5_pass_59 : decode cX5_pass 59 = .ok (.aload_n 0, 1) := by decide +kernel
theorem dX5_pass_60 : decode cX5_pass 60 = .ok (.getfield 20, 3) := by decide +kernel
theorem dX5_pass_63 : decode cX5_pass 63 = .ok (.iload_n 1, 1) := by decide +kernel
theorem dX5_pass_64 : decode cX5_pass 64 = .ok (.iload 6, 2) := by decide +kernel
theorem dX5_pass_66 : decode cX5_pass 66 = .ok (.invokevirtual 47, 3) := by decide +kernel
theorem dX5_pass_69 : decode cX5_pass 69 = .ok (.aload_n 0, 1) := by decide +kernel
theorem dX5_pass_70 : decode cX5_pass 70 = .ok (.getfield 32, 3) := by decide +kernel
theorem dX5_pass_73 : decode cX5_pass 73 = .ok (.iload 6, 2) := by decide +kernel
theorem dX5_pass_75 : decode cX5_pass 75 = .ok (.aload_n 0, 1) := by decide +kernel
theorem dX5_pass_76 : decode cX5_pass 76 = .ok (.getfield 32, 3) := by decide +kernel
theorem dX5_pass_79 : decode cX5_pass 79 = .ok (.iload 6, 2) := by decide +kernel
theorem dX5_pass_81 : decode cX5_pass 81 = .ok (.invokevirtual 61, 3) := by decide +kernel
theorem dX5_pass_84 : decode cX5_pass 84 = .ok (.iconst 1, 1) := by decide +kernel
theorem dX5_pass_85 : decode cX5_pass 85 = .ok (.iadd, 1) := by decide +kernel
theorem dX5_pass_86 : decode cX5_pass 86 = .ok (.invokevirtual 47, 3) := by decide +kernel
theorem dX5_pass_89 : decode cX5_pass 89 = .ok (.aload_n 0, 1) := by decide +kernel
theorem dX5_pass_90 : decode cX5_pass 90 = .ok (.getfield 14, 3) := by decide +kernel
theorem dX5_pass_93 : decode cX5_pass 93 = .ok (.iload_n 1, 1) := by decide +kernel
theorem dX5_pass_94 : decode cX5_pass 94 = .ok (.iload 7, 2) := by decide +kernel
theorem dX5_pass_96 : decode cX5_pass 96 = .ok (.invokevirtual 47, 3) := by decide +kernel
theorem dX5_pass_99 : decode cX5_pass 99 = .ok (.aload_n 0, 1) := by decide +kernel
theorem dX5_pass_100 : decode cX5_pass 100 = .ok (.getfield 29, 3) := by decide +kernel
theorem dX5_pass_103 : decode cX5_pass 103 = .ok (.iload 7, 2) := by decide +kernel
theorem dX5_pass_105 : decode cX5_pass 105 = .ok (.aload_n 0, 1) := by decide +kernel
theorem dX5_pass_106 : decode cX5_pass 106 = .ok (.getfield 29, 3) := by decide +kernel
theorem dX5_pass_109 : decode cX5_pass 109 = .ok (.iload 7, 2) := by decide +kernel
theorem dX5_pass_111 : decode cX5_pass 111 = .ok (.invokevirtual 61, 3) := by decide +kernel
theorem dX5_pass_114 : decode cX5_pass 114 = .ok (.iconst 1, 1) := by decide +kernel
theorem dX5_pass_115 : decode cX5_pass 115 = .ok (.iadd, 1) := by decide +kernel
theorem dX5_pass_116 : decode cX5_pass 116 = .ok (.invokevirtual 47, 3) := by decide +kernel
theorem dX5_pass_119 : decode cX5_pass 119 = .ok (.aload_n 0, 1) := by decide +kernel
theorem dX5_pass_120 : decode cX5_pass 120 = .ok (.getfield 23, 3) := by decide +kernel
theorem dX5_pass_123 : decode cX5_pass 123 = .ok (.iload_n 3, 1) := by decide +kernel
theorem dX5_pass_124 : decode cX5_pass 124 = .ok (.iload 5, 2) := by decide +kernel
theorem dX5_pass_126 : decode cX5_pass 126 = .ok (.invokevirtual 47, 3) := by decide +kernel
theorem dX5_pass_129 : decode cX5_pass 129 = .ok (.aload_n 0, 1) := by decide +kernel
theorem dX5_pass_130 : decode cX5_pass 130 = .ok (.getfield 23, 3) := by decide +kernel
theorem dX5_pass_133 : decode cX5_pass 133 = .ok (.iload_n 3, 1) := by decide +kernel
theorem dX5_pass_134 : decode cX5_pass 134 = .ok (.iconst 1, 1) := by decide +kernel
theorem dX5_pass_135 : decode cX5_pass 135 = .ok (.iadd, 1) := by decide +kernel
theorem dX5_pass_136 : decode cX5_pass 136 = .ok (.iload 4, 2) := by decide +kernel
theorem dX5_pass_138 : decode cX5_pass 138 = .ok (.invokevirtual 47, 3) := by decide +kernel
theorem dX5_pass_141 : decode cX5_pass 141 = .ok (.return_, 1) := by decide +kernel
theorem dX5_copyFrom_0 : decode cX5_copyFrom 0 = .ok (.aload_n 0, 1) := by decide +kernel
theorem dX5_copyFrom_1 : decode cX5_copyFrom 1 = .ok (.aload_n 1, 1) := by decide +kernel
theorem dX5_copyFrom_2 : decode cX5_copyFrom 2 = .ok (.getfield 38, 3) := by decide +kernel
theorem dX5_copyFrom_5 : decode cX5_copyFrom 5 = .ok (.putfield 38, 3) := by decide +kernel
theorem dX5_copyFrom_8 : decode cX5_copyFrom 8 = .ok (.aload_n 0, 1) := by decide +kernel
theorem dX5_copyFrom_9 : decode cX5_copyFrom 9 = .ok (.getfield 14, 3) := by decide +kernel
theorem dX5_copyFrom_12 : decode cX5_copyFrom 12 = .ok (.aload_n 1, 1) := by decide +kernel
theorem dX5_copyFrom_13 : decode cX5_copyFrom 13 = .ok (.getfield 14, 3) := by decide +kernel
theorem dX5_copyFrom_16 : decode cX5_copyFrom 16 = .ok (.invokevirtual 71, 3) := by decide +kernel
theorem dX5_copyFrom_19 : decode cX5_copyFrom 19 = .ok (.aload_n 0, 1) := by decide +kernel
theorem dX5_copyFrom_20 : decode cX5_copyFrom 20 = .ok (.getfield 20, 3) := by decide +kernel
theorem dX5_copyFrom_23 : decode cX5_copyFrom 23 = .ok (.aload_n 1, 1) := by decide +kernel
theorem dX5_copyFrom_24 : decode cX5_copyFrom 24 = .ok (.getfield 20, 3) := by decide +kernel
theorem dX5_copyFrom_27 : decode cX5_copyFrom 27 = .ok (.invokevirtual 71, 3) := by decide +kernel
theorem dX5_copyFrom_30 : decode cX5_copyFrom 30 = .ok (.aload_n 0, 1) := by decide +kernel
theorem dX5_copyFrom_31 : decode cX5_copyFrom 31 = .ok (.getfield 23, 3) := by decide +kernel
theorem dX5_copyFrom_34 : decode cX5_copyFrom 34 = .ok (.aload_n 1, 1) := by decide +kernel
theorem dX5_copyFrom_35 : decode cX5_copyFrom 35 = .ok (.getfield 23, 3) := by decide +kernel
theorem dX5_copyFrom_38 : decode cX5_copyFrom 38 = .ok (.invokevirtual 71, 3) := by decide +kernel
theorem dX5_copyFrom_41 : decode cX5_copyFrom 41 = .ok (.aload_n 0, 1) := by decide +kernel
theorem dX5_copyFrom_42 : decode cX5_copyFrom 42 = .ok (.getfield 26, 3) := by decide +kernel
theorem dX5_copyFrom_45 : decode cX5_copyFrom 45 = .ok (.aload_n 1, 1) := by decide +kernel
theorem dX5_copyFrom_46 : decode cX5_copyFrom 46 = .ok (.getfield 26, 3) := by decide +kernel
theorem dX5_copyFrom_49 : decode cX5_copyFrom 49 = .ok (.invokevirtual 71, 3) := by decide +kernel
theorem dX5_copyFrom_52 : decode cX5_copyFrom 52 = .ok (.aload_n 0, 1) := by decide +kernel
theorem dX5_copyFrom_53 : decode cX5_copyFrom 53 = .ok (.getfield 29, 3) := by decide +kernel
theorem dX5_copyFrom_56 : decode cX5_copyFrom 56 = .ok (.aload_n 1, 1) := by decide +kernel
theorem dX5_copyFrom_57 : decode cX5_copyFrom 57 = .ok (.getfield 29, 3) := by decide +kernel
theorem dX5_copyFrom_60 : decode cX5_copyFrom 60 = .ok (.invokevirtual 71, 3) := by decide +kernel
theorem dX5_copyFrom_63 : decode cX5_copyFrom 63 = .ok (.aload_n 0, 1) := by decide +kernel
theorem dX5_copyFrom_64 : decode cX5_copyFrom 64 = .ok (.getfield 32, 3) := by decide +kernel
theorem dX5_copyFrom_67 : decode cX5_copyFrom 67 = .ok (.aload_n 1, 1) := by decide +kernel
theorem dX5_copyFrom_68 : decode cX5_copyFrom 68 = .ok (.getfield 32, 3) := by decide +kernel
theorem dX5_copyFrom_71 : decode cX5_copyFrom 71 = .ok (.invokevirtual 71, 3) := by decide +kernel
theorem dX5_copyFrom_74 : decode cX5_copyFrom 74 = .ok (.return_, 1) := by decide +kernel
theorem dX5_hiddenAt_0 : decode cX5_hiddenAt 0 = .ok (.aload_n 0, 1) := by decide +kernel
theorem dX5_hiddenAt_1 : decode cX5_hiddenAt 1 = .ok (.getfield 14, 3) := by decide +kernel
theorem dX5_hiddenAt_4 : decode cX5_hiddenAt 4 = .ok (.iload_n 1, 1) := by decide +kernel
theorem dX5_hiddenAt_5 : decode cX5_hiddenAt 5 = .ok (.invokevirtual 61, 3) := by decide +kernel
theorem dX5_hiddenAt_8 : decode cX5_hiddenAt 8 = .ok (.ireturn, 1) := by decide +kernel
theorem dX5_aboveAt_0 : decode cX5_aboveAt 0 = .ok (.aload_n 0, 1) := by decide +kernel
theorem dX5_aboveAt_1 : decode cX5_aboveAt 1 = .ok (.getfield 20, 3) := by decide +kernel
theorem dX5_aboveAt_4 : decode cX5_aboveAt 4 = .ok (.iload_n 1, 1) := by decide +kernel
theorem dX5_aboveAt_5 : decode cX5_aboveAt 5 = .ok (.invokevirtual 61, 3) := by decide +kernel
theorem dX5_aboveAt_8 : decode cX5_aboveAt 8 = .ok (.ireturn, 1) := by decide +kernel
theorem dX5_doughUsed_0 : decode cX5_doughUsed 0 = .ok (.aload_n 0, 1) := by decide +kernel
theorem dX5_doughUsed_1 : decode cX5_doughUsed 1 = .ok (.getfield 32, 3) := by decide +kernel
theorem dX5_doughUsed_4 : decode cX5_doughUsed 4 = .ok (.iload_n 1, 1) := by decide +kernel
theorem dX5_doughUsed_5 : decode cX5_doughUsed 5 = .ok (.invokevirtual 61, 3) := by decide +kernel
theorem dX5_doughUsed_8 : decode cX5_doughUsed 8 = .ok (.iconst 2, 1) := by decide +kernel
theorem dX5_doughUsed_9 : decode cX5_doughUsed 9 = .ok (.aload_n 0, 1) := by decide +kernel
theorem dX5_doughUsed_10 : decode cX5_doughUsed 10 = .ok (.getfield 29, 3) := by decide +kernel
theorem dX5_doughUsed_13 : decode cX5_doughUsed 13 = .ok (.iload_n 1, 1) := by decide +kernel
theorem dX5_doughUsed_14 : decode cX5_doughUsed 14 = .ok (.invokevirtual 61, 3) := by decide +kernel
theorem dX5_doughUsed_17 : decode cX5_doughUsed 17 = .ok (.imul, 1) := by decide +kernel
theorem dX5_doughUsed_18 : decode cX5_doughUsed 18 = .ok (.iadd, 1) := by decide +kernel
theorem dX5_doughUsed_19 : decode cX5_doughUsed 19 = .ok (.ireturn, 1) := by decide +kernel
theorem dX5_doughUsedByAll_0 : decode cX5_doughUsedByAll 0 = .ok (.iconst 0, 1) := by decide +kernel
theorem dX5_doughUsedByAll_1 : decode cX5_doughUsedByAll 1 = .ok (.istore_n 1, 1) := by decide +kernel
theorem dX5_doughUsedByAll_2 : decode cX5_doughUsedByAll 2 = .ok (.iconst 0, 1) := by decide +kernel
theorem dX5_doughUsedByAll_3 : decode cX5_doughUsedByAll 3 = .ok (.istore_n 2, 1) := by decide +kernel
theorem dX5_doughUsedByAll_4 : decode cX5_doughUsedByAll 4 = .ok (.iload_n 2, 1) := by decide +kernel
theorem dX5_doughUsedByAll_5 : decode cX5_doughUsedByAll 5 = .ok (.aload_n 0, 1) := by decide +kernel
theorem dX5_doughUsedByAll_6 : decode cX5_doughUsedByAll 6 = .ok (.getfield 38, 3) := by decide +kernel
theorem dX5_doughUsedByAll_9 : decode cX5_doughUsedByAll 9 = .ok (.if_icmp .ge 17, 3) := by decide +kernel
theorem dX5_doughUsedByAll_12 : decode cX5_doughUsedByAll 12 = .ok (.iload_n 1, 1) := by decide +kernel
theorem dX5_doughUsedByAll_13 : decode cX5_doughUsedByAll 13 = .ok (.aload_n 0, 1) := by decide +kernel
theorem dX5_doughUsedByAll_14 : decode cX5_doughUsedByAll 14 = .ok (.iload_n 2, 1) := by decide +kernel
theorem dX5_doughUsedByAll_15 : decode cX5_doughUsedByAll 15 = .ok (.invokevirtual 75, 3) := by decide +kernel
theorem dX5_doughUsedByAll_18 : decode cX5_doughUsedByAll 18 = .ok (.iadd, 1) := by decide +kernel
theorem dX5_doughUsedByAll_19 : decode cX5_doughUsedByAll 19 = .ok (.istore_n 1, 1) := by decide +kernel
theorem dX5_doughUsedByAll_20 : decode cX5_doughUsedByAll 20 = .ok (.iinc 2 1, 3) := by decide +kernel
theorem dX5_doughUsedByAll_23 : decode cX5_doughUsedByAll 23 = .ok (.goto (-19), 3) := by decide +kernel
theorem dX5_doughUsedByAll_26 : decode cX5_doughUsedByAll 26 = .ok (.iload_n 1, 1) := by decide +kernel
theorem dX5_doughUsedByAll_27 : decode cX5_doughUsedByAll 27 = .ok (.ireturn, 1) := by decide +kernel
theorem dX5_hasDoughForAll_0 : decode cX5_hasDoughForAll 0 = .ok (.iconst 0, 1) := by decide +kernel
theorem dX5_hasDoughForAll_1 : decode cX5_hasDoughForAll 1 = .ok (.istore_n 1, 1) := by decide +kernel
theorem dX5_hasDoughForAll_2 : decode cX5_hasDoughForAll 2 = .ok (.iload_n 1, 1) := by decide +kernel
theorem dX5_hasDoughForAll_3 : decode cX5_hasDoughForAll 3 = .ok (.aload_n 0, 1) := by decide +kernel
theorem dX5_hasDoughForAll_4 : decode cX5_hasDoughForAll 4 = .ok (.getfield 38, 3) := by decide +kernel
theorem dX5_hasDoughForAll_7 : decode cX5_hasDoughForAll 7 = .ok (.if_icmp .ge 21, 3) := by decide +kernel
theorem dX5_hasDoughForAll_10 : decode cX5_hasDoughForAll 10 = .ok (.aload_n 0, 1) := by decide +kernel
theorem dX5_hasDoughForAll_11 : decode cX5_hasDoughForAll 11 = .ok (.iload_n 1, 1) := by decide +kernel
theorem dX5_hasDoughForAll_12 : decode cX5_hasDoughForAll 12 = .ok (.invokevirtual 75, 3) := by decide +kernel
theorem dX5_hasDoughForAll_15 : decode cX5_hasDoughForAll 15 = .ok (.bipush 30, 2) := by decide +kernel
theorem dX5_hasDoughForAll_17 : decode cX5_hasDoughForAll 17 = .ok (.if_icmp .le 5, 3) := by decide +kernel
theorem dX5_hasDoughForAll_20 : decode cX5_hasDoughForAll 20 = .ok (.iconst 0, 1) := by decide +kernel
theorem dX5_hasDoughForAll_21 : decode cX5_hasDoughForAll 21 = .ok (.ireturn, 1) := by decide +kernel
theorem dX5_hasDoughForAll_22 : decode cX5_hasDoughForAll 22 = .ok (.iinc 1 1, 3) := by decide +kernel
theorem dX5_hasDoughForAll_25 : decode cX5_hasDoughForAll 25 = .ok (.goto (-23), 3) := by decide +kernel
theorem dX5_hasDoughForAll_28 : decode cX5_hasDoughForAll 28 = .ok (.iconst 1, 1) := by decide +kernel
theorem dX5_hasDoughForAll_29 : decode cX5_hasDoughForAll 29 = .ok (.ireturn, 1) := by decide +kernel
theorem dX5_numberOfStrand_0 : decode cX5_numberOfStrand 0 = .ok (.iload_n 1, 1) := by decide +kernel
theorem dX5_numberOfStrand_1 : decode cX5_numberOfStrand 1 = .ok (.ifCond .lt 11, 3) := by decide +kernel
theorem dX5_numberOfStrand_4 : decode cX5_numberOfStrand 4 = .ok (.iload_n 1, 1) := by decide +kernel
theorem dX5_numberOfStrand_5 : decode cX5_numberOfStrand 5 = .ok (.aload_n 0, 1) := by decide +kernel
theorem dX5_numberOfStrand_6 : decode cX5_numberOfStrand 6 = .ok (.getfield 38, 3) := by decide +kernel
theorem dX5_numberOfStrand_9 : decode cX5_numberOfStrand 9 = .ok (.if_icmp .lt 5, 3) := by decide +kernel
theorem dX5_numberOfStrand_12 : decode cX5_numberOfStrand 12 = .ok (.iconst (-1), 1) := by decide +kernel
theorem dX5_numberOfStrand_13 : decode cX5_numberOfStrand 13 = .ok (.ireturn, 1) := by decide +kernel
theorem dX5_numberOfStrand_14 : decode cX5_numberOfStrand 14 = .ok (.iload_n 2, 1) := by decide +kernel
theorem dX5_numberOfStrand_15 : decode cX5_numberOfStrand 15 = .ok (.tableswitch 65 0 3 #[29, 38, 47, 56], 29) := by decide +kernel
theorem dX5_numberOfStrand_44 : decode cX5_numberOfStrand 44 = .ok (.aload_n 0, 1) := by decide +kernel
theorem dX5_numberOfStrand_45 : decode cX5_numberOfStrand 45 = .ok (.getfield 26, 3) := by decide +kernel
theorem dX5_numberOfStrand_48 : decode cX5_numberOfStrand 48 = .ok (.iload_n 1, 1) := by decide +kernel
theorem dX5_numberOfStrand_49 : decode cX5_numberOfStrand 49 = .ok (.invokevirtual 61, 3) := by decide +kernel
theorem dX5_numberOfStrand_52 : decode cX5_numberOfStrand 52 = .ok (.ireturn, 1) := by decide +kernel
theorem dX5_numberOfStrand_53 : decode cX5_numberOfStrand 53 = .ok (.aload_n 0, 1) := by decide +kernel
theorem dX5_numberOfStrand_54 : decode cX5_numberOfStrand 54 = .ok (.getfield 29, 3) := by decide +kernel
theorem dX5_numberOfStrand_57 : decode cX5_numberOfStrand 57 = .ok (.iload_n 1, 1) := by decide +kernel
theorem dX5_numberOfStrand_58 : decode cX5_numberOfStrand 58 = .ok (.invokevirtual 61, 3) := by decide +kernel
theorem dX5_numberOfStrand_61 : decode cX5_numberOfStrand 61 = .ok (.ireturn, 1) := by decide +kernel
theorem dX5_numberOfStrand_62 : decode cX5_numberOfStrand 62 = .ok (.aload_n 0, 1) := by decide +kernel
theorem dX5_numberOfStrand_63 : decode cX5_numberOfStrand 63 = .ok (.getfield 32, 3) := by decide +kernel
theorem dX5_numberOfStrand_66 : decode cX5_numberOfStrand 66 = .ok (.iload_n 1, 1) := by decide +kernel
theorem dX5_numberOfStrand_67 : decode cX5_numberOfStrand 67 = .ok (.invokevirtual 61, 3) := by decide +kernel
theorem dX5_numberOfStrand_70 : decode cX5_numberOfStrand 70 = .ok (.ireturn, 1) := by decide +kernel
theorem dX5_numberOfStrand_71 : decode cX5_numberOfStrand 71 = .ok (.bipush 30, 2) := by decide +kernel
theorem dX5_numberOfStrand_73 : decode cX5_numberOfStrand 73 = .ok (.aload_n 0, 1) := by decide +kernel
theorem dX5_numberOfStrand_74 : decode cX5_numberOfStrand 74 = .ok (.iload_n 1, 1) := by decide +kernel
theorem dX5_numberOfStrand_75 : decode cX5_numberOfStrand 75 = .ok (.invokevirtual 75, 3) := by decide +kernel
theorem dX5_numberOfStrand_78 : decode cX5_numberOfStrand 78 = .ok (.isub, 1) := by decide +kernel
theorem dX5_numberOfStrand_79 : decode cX5_numberOfStrand 79 = .ok (.ireturn, 1) := by decide +kernel
theorem dX5_numberOfStrand_80 : decode cX5_numberOfStrand 80 = .ok (.aload_n 0, 1) := by decide +kernel
theorem dX5_numberOfStrand_81 : decode cX5_numberOfStrand 81 = .ok (.getfield 23, 3) := by decide +kernel
theorem dX5_numberOfStrand_84 : decode cX5_numberOfStrand 84 = .ok (.iload_n 1, 1) := by decide +kernel
theorem dX5_numberOfStrand_85 : decode cX5_numberOfStrand 85 = .ok (.invokevirtual 61, 3) := by decide +kernel
theorem dX5_numberOfStrand_88 : decode cX5_numberOfStrand 88 = .ok (.ireturn, 1) := by decide +kernel
theorem dX5_mostHidden_0 : decode cX5_mostHidden 0 = .ok (.iconst 0, 1) := by decide +kernel
theorem dX5_mostHidden_1 : decode cX5_mostHidden 1 = .ok (.istore_n 1, 1) := by decide +kernel
theorem dX5_mostHidden_2 : decode cX5_mostHidden 2 = .ok (.iconst 1, 1) := by decide +kernel
theorem dX5_mostHidden_3 : decode cX5_mostHidden 3 = .ok (.istore_n 2, 1) := by decide +kernel
theorem dX5_mostHidden_4 : decode cX5_mostHidden 4 = .ok (.iload_n 2, 1) := by decide +kernel
theorem dX5_mostHidden_5 : decode cX5_mostHidden 5 = .ok (.aload_n 0, 1) := by decide +kernel
theorem dX5_mostHidden_6 : decode cX5_mostHidden 6 = .ok (.getfield 38, 3) := by decide +kernel
theorem dX5_mostHidden_9 : decode cX5_mostHidden 9 = .ok (.if_icmp .ge 30, 3) := by decide +kernel
theorem dX5_mostHidden_12 : decode cX5_mostHidden 12 = .ok (.aload_n 0, 1) := by decide +kernel
theorem dX5_mostHidden_13 : decode cX5_mostHidden 13 = .ok (.getfield 29, 3) := by decide +kernel
theorem dX5_mostHidden_16 : decode cX5_mostHidden 16 = .ok (.iload_n 2, 1) := by decide +kernel
theorem dX5_mostHidden_17 : decode cX5_mostHidden 17 = .ok (.invokevirtual 61, 3) := by decide +kernel
theorem dX5_mostHidden_20 : decode cX5_mostHidden 20 = .ok (.aload_n 0, 1) := by decide +kernel
theorem dX5_mostHidden_21 : decode cX5_mostHidden 21 = .ok (.getfield 29, 3) := by decide +kernel
theorem dX5_mostHidden_24 : decode cX5_mostHidden 24 = .ok (.iload_n 1, 1) := by decide +kernel
theorem dX5_mostHidden_25 : decode cX5_mostHidden 25 = .ok (.invokevirtual 61, 3) := by decide +kernel
theorem dX5_mostHidden_28 : decode cX5_mostHidden 28 = .ok (.if_icmp .le 5, 3) := by decide +kernel
theorem dX5_mostHidden_31 : decode cX5_mostHidden 31 = .ok (.iload_n 2, 1) := by decide +kernel
theorem dX5_mostHidden_32 : decode cX5_mostHidden 32 = .ok (.istore_n 1, 1) := by decide +kernel
theorem dX5_mostHidden_33 : decode cX5_mostHidden 33 = .ok (.iinc 2 1, 3) := by decide +kernel
theorem dX5_mostHidden_36 : decode cX5_mostHidden 36 = .ok (.goto (-32), 3) := by decide +kernel
theorem dX5_mostHidden_39 : decode cX5_mostHidden 39 = .ok (.iload_n 1, 1) := by decide +kernel
theorem dX5_mostHidden_40 : decode cX5_mostHidden 40 = .ok (.ireturn, 1) := by decide +kernel
theorem dX5_areAllHome_0 : decode cX5_areAllHome 0 = .ok (.iconst 0, 1) := by decide +kernel
theorem dX5_areAllHome_1 : decode cX5_areAllHome 1 = .ok (.istore_n 1, 1) := by decide +kernel
theorem dX5_areAllHome_2 : decode cX5_areAllHome 2 = .ok (.iload_n 1, 1) := by decide +kernel
theorem dX5_areAllHome_3 : decode cX5_areAllHome 3 = .ok (.aload_n 0, 1) := by decide +kernel
theorem dX5_areAllHome_4 : decode cX5_areAllHome 4 = .ok (.getfield 38, 3) := by decide +kernel
theorem dX5_areAllHome_7 : decode cX5_areAllHome 7 = .ok (.if_icmp .ge 23, 3) := by decide +kernel
theorem dX5_areAllHome_10 : decode cX5_areAllHome 10 = .ok (.aload_n 0, 1) := by decide +kernel
theorem dX5_areAllHome_11 : decode cX5_areAllHome 11 = .ok (.getfield 26, 3) := by decide +kernel
theorem dX5_areAllHome_14 : decode cX5_areAllHome 14 = .ok (.iload_n 1, 1) := by decide +kernel
theorem dX5_areAllHome_15 : decode cX5_areAllHome 15 = .ok (.invokevirtual 61, 3) := by decide +kernel
theorem dX5_areAllHome_18 : decode cX5_areAllHome 18 = .ok (.iload_n 1, 1) := by decide +kernel
theorem dX5_areAllHome_19 : decode cX5_areAllHome 19 = .ok (.if_icmp .eq 5, 3) := by decide +kernel
theorem dX5_areAllHome_22 : decode cX5_areAllHome 22 = .ok (.iconst 0, 1) := by decide +kernel
theorem dX5_areAllHome_23 : decode cX5_areAllHome 23 = .ok (.ireturn, 1) := by decide +kernel
theorem dX5_areAllHome_24 : decode cX5_areAllHome 24 = .ok (.iinc 1 1, 3) := by decide +kernel
theorem dX5_areAllHome_27 : decode cX5_areAllHome 27 = .ok (.goto (-25), 3) := by decide +kernel
theorem dX5_areAllHome_30 : decode cX5_areAllHome 30 = .ok (.iconst 1, 1) := by decide +kernel
theorem dX5_areAllHome_31 : decode cX5_areAllHome 31 = .ok (.ireturn, 1) := by decide +kernel
theorem dX5_ringsByGoingRound_0 : decode cX5_ringsByGoingRound 0 = .ok (.iconst 0, 1) := by decide +kernel
theorem dX5_ringsByGoingRound_1 : decode cX5_ringsByGoingRound 1 = .ok (.istore_n 1, 1) := by decide +kernel
theorem dX5_ringsByGoingRound_2 : decode cX5_ringsByGoingRound 2 = .ok (.iconst 0, 1) := by decide +kernel
theorem dX5_ringsByGoingRound_3 : decode cX5_ringsByGoingRound 3 = .ok (.istore_n 2, 1) := by decide +kernel
theorem dX5_ringsByGoingRound_4 : decode cX5_ringsByGoingRound 4 = .ok (.iconst 0, 1) := by decide +kernel
theorem dX5_ringsByGoingRound_5 : decode cX5_ringsByGoingRound 5 = .ok (.istore_n 3, 1) := by decide +kernel
theorem dX5_ringsByGoingRound_6 : decode cX5_ringsByGoingRound 6 = .ok (.iload_n 3, 1) := by decide +kernel
theorem dX5_ringsByGoingRound_7 : decode cX5_ringsByGoingRound 7 = .ok (.aload_n 0, 1) := by decide +kernel
theorem dX5_ringsByGoingRound_8 : decode cX5_ringsByGoingRound 8 = .ok (.getfield 38, 3) := by decide +kernel
theorem dX5_ringsByGoingRound_11 : decode cX5_ringsByGoingRound 11 = .ok (.if_icmp .ge 68, 3) := by decide +kernel
theorem dX5_ringsByGoingRound_14 : decode cX5_ringsByGoingRound 14 = .ok (.iload_n 2, 1) := by decide +kernel
theorem dX5_ringsByGoingRound_15 : decode cX5_ringsByGoingRound 15 = .ok (.iconst 1, 1) := by decide +kernel
theorem dX5_ringsByGoingRound_16 : decode cX5_ringsByGoingRound 16 = .ok (.iload_n 3, 1) := by decide +kernel
theorem dX5_ringsByGoingRound_17 : decode cX5_ringsByGoingRound 17 = .ok (.ishl, 1) := by decide +kernel
theorem dX5_ringsByGoingRound_18 : decode cX5_ringsByGoingRound 18 = .ok (.iand, 1) := by decide +kernel
theorem dX5_ringsByGoingRound_19 : decode cX5_ringsByGoingRound 19 = .ok (.ifCond .ne 6, 3) := by decide +kernel
theorem dX5_ringsByGoingRound_22 : decode cX5_ringsByGoingRound 22 = .ok (.iinc 1 1, 3) := by decide +kernel
theorem dX5_ringsByGoingRound_25 : decode cX5_ringsByGoingRound 25 = .ok (.iload_n 3, 1) := by decide +kernel
theorem dX5_ringsByGoingRound_26 : decode cX5_ringsByGoingRound 26 = .ok (.istore 4, 2) := by decide +kernel
theorem dX5_ringsByGoingRound_28 : decode cX5_ringsByGoingRound 28 = .ok (.iconst 0, 1) := by decide +kernel
theorem dX5_ringsByGoingRound_29 : decode cX5_ringsByGoingRound 29 = .ok (.istore 5, 2) := by decide +kernel
theorem dX5_ringsByGoingRound_31 : decode cX5_ringsByGoingRound 31 = .ok (.iload 5, 2) := by decide +kernel
theorem dX5_ringsByGoingRound_33 : decode cX5_ringsByGoingRound 33 = .ok (.aload_n 0, 1) := by decide +kernel
theorem dX5_ringsByGoingRound_34 : decode cX5_ringsByGoingRound 34 = .ok (.getfield 38, 3) := by decide +kernel
theorem dX5_ringsByGoingRound_37 : decode cX5_ringsByGoingRound 37 = .ok (.if_icmp .ge 36, 3) := by decide +kernel
theorem dX5_ringsByGoingRound_40 : decode cX5_ringsByGoingRound 40 = .ok (.iload_n 2, 1) := by decide +kernel
theorem dX5_ringsByGoingRound_41 : decode cX5_ringsByGoingRound 41 = .ok (.iconst 1, 1) := by decide +kernel
theorem dX5_ringsByGoingRound_42 : decode cX5_ringsByGoingRound 42 = .ok (.iload 4, 2) := by decide +kernel
theorem dX5_ringsByGoingRound_44 : decode cX5_ringsByGoingRound 44 = .ok (.ishl, 1) := by decide +kernel
theorem dX5_ringsByGoingRound_45 : decode cX5_ringsByGoingRound 45 = .ok (.iand, 1) := by decide +kernel
theorem dX5_ringsByGoingRound_46 : decode cX5_ringsByGoingRound 46 = .ok (.ifCond .ne 27, 3) := by decide +kernel
theorem dX5_ringsByGoingRound_49 : decode cX5_ringsByGoingRound 49 = .ok (.iload_n 2, 1) := by decide +kernel
theorem dX5_ringsByGoingRound_50 : decode cX5_ringsByGoingRound 50 = .ok (.iconst 1, 1) := by decide +kernel
theorem dX5_ringsByGoingRound_51 : decode cX5_ringsByGoingRound 51 = .ok (.iload 4, 2) := by decide +kernel
theorem dX5_ringsByGoingRound_53 : decode cX5_ringsByGoingRound 53 = .ok (.ishl, 1) := by decide +kernel
theorem dX5_ringsByGoingRound_54 : decode cX5_ringsByGoingRound 54 = .ok (.ior, 1) := by decide +kernel
theorem dX5_ringsByGoingRound_55 : decode cX5_ringsByGoingRound 55 = .ok (.istore_n 2, 1) := by decide +kernel
theorem dX5_ringsByGoingRound_56 : decode cX5_ringsByGoingRound 56 = .ok (.aload_n 0, 1) := by decide +kernel
theorem dX5_ringsByGoingRound_57 : decode cX5_ringsByGoingRound 57 = .ok (.getfield 26, 3) := by decide +kernel
theorem dX5_ringsByGoingRound_60 : decode cX5_ringsByGoingRound 60 = .ok (.iload 4, 2) := by decide +kernel
theorem dX5_ringsByGoingRound_62 : decode cX5_ringsByGoingRound 62 = .ok (.invokevirtual 61, 3) := by decide +kernel
theorem dX5_ringsByGoingRound_65 : decode cX5_ringsByGoingRound 65 = .ok (.istore 4, 2) := by decide +kernel
theorem dX5_ringsByGoingRound_67 : decode cX5_ringsByGoingRound 67 = .ok (.iinc 5 1, 3) := by decide +kernel
theorem dX5_ringsByGoingRound_70 : decode cX5_ringsByGoingRound 70 = .ok (.goto (-39), 3) := by decide +kernel
theorem dX5_ringsByGoingRound_73 : decode cX5_ringsByGoingRound 73 = .ok (.iinc 3 1, 3) := by decide +kernel
theorem dX5_ringsByGoingRound_76 : decode cX5_ringsByGoingRound 76 = .ok (.goto (-70), 3) := by decide +kernel
theorem dX5_ringsByGoingRound_79 : decode cX5_ringsByGoingRound 79 = .ok (.iload_n 1, 1) := by decide +kernel
theorem dX5_ringsByGoingRound_80 : decode cX5_ringsByGoingRound 80 = .ok (.ireturn, 1) := by decide +kernel
theorem dX5_ringsByJoining_0 : decode cX5_ringsByJoining 0 = .ok (.iconst 0, 1) := by decide +kernel
theorem dX5_ringsByJoining_1 : decode cX5_ringsByJoining 1 = .ok (.istore_n 1, 1) := by decide +kernel
theorem dX5_ringsByJoining_2 : decode cX5_ringsByJoining 2 = .ok (.iload_n 1, 1) := by decide +kernel
theorem dX5_ringsByJoining_3 : decode cX5_ringsByJoining 3 = .ok (.aload_n 0, 1) := by decide +kernel
theorem dX5_ringsByJoining_4 : decode cX5_ringsByJoining 4 = .ok (.getfield 38, 3) := by decide +kernel
theorem dX5_ringsByJoining_7 : decode cX5_ringsByJoining 7 = .ok (.if_icmp .ge 18, 3) := by decide +kernel
theorem dX5_ringsByJoining_10 : decode cX5_ringsByJoining 10 = .ok (.aload_n 0, 1) := by decide +kernel
theorem dX5_ringsByJoining_11 : decode cX5_ringsByJoining 11 = .ok (.getfield 35, 3) := by decide +kernel
theorem dX5_ringsByJoining_14 : decode cX5_ringsByJoining 14 = .ok (.iload_n 1, 1) := by decide +kernel
theorem dX5_ringsByJoining_15 : decode cX5_ringsByJoining 15 = .ok (.iload_n 1, 1) := by decide +kernel
theorem dX5_ringsByJoining_16 : decode cX5_ringsByJoining 16 = .ok (.invokevirtual 47, 3) := by decide +kernel
theorem dX5_ringsByJoining_19 : decode cX5_ringsByJoining 19 = .ok (.iinc 1 1, 3) := by decide +kernel
theorem dX5_ringsByJoining_22 : decode cX5_ringsByJoining 22 = .ok (.goto (-20), 3) := by decide +kernel
theorem dX5_ringsByJoining_25 : decode cX5_ringsByJoining 25 = .ok (.aload_n 0, 1) := by decide +kernel
theorem dX5_ringsByJoining_26 : decode cX5_ringsByJoining 26 = .ok (.getfield 38, 3) := by decide +kernel
theorem dX5_ringsByJoining_29 : decode cX5_ringsByJoining 29 = .ok (.istore_n 1, 1) := by decide +kernel
theorem dX5_ringsByJoining_30 : decode cX5_ringsByJoining 30 = .ok (.iconst 0, 1) := by decide +kernel
theorem dX5_ringsByJoining_31 : decode cX5_ringsByJoining 31 = .ok (.istore_n 2, 1) := by decide +kernel
theorem dX5_ringsByJoining_32 : decode cX5_ringsByJoining 32 = .ok (.iload_n 2, 1) := by decide +kernel
theorem dX5_ringsByJoining_33 : decode cX5_ringsByJoining 33 = .ok (.aload_n 0, 1) := by decide +kernel
theorem dX5_ringsByJoining_34 : decode cX5_ringsByJoining 34 = .ok (.getfield 38, 3) := by decide +kernel
theorem dX5_ringsByJoining_37 : decode cX5_ringsByJoining 37 = .ok (.if_icmp .ge 51, 3) := by decide +kernel
theorem dX5_ringsByJoining_40 : decode cX5_ringsByJoining 40 = .ok (.aload_n 0, 1) := by decide +kernel
theorem dX5_ringsByJoining_41 : decode cX5_ringsByJoining 41 = .ok (.getfield 35, 3) := by decide +kernel
theorem dX5_ringsByJoining_44 : decode cX5_ringsByJoining 44 = .ok (.iload_n 2, 1) := by decide +kernel
theorem dX5_ringsByJoining_45 : decode cX5_ringsByJoining 45 = .ok (.invokevirtual 61, 3) := by decide +kernel
theorem dX5_ringsByJoining_48 : decode cX5_ringsByJoining 48 = .ok (.istore_n 3, 1) := by decide +kernel
theorem dX5_ringsByJoining_49 : decode cX5_ringsByJoining 49 = .ok (.aload_n 0, 1) := by decide +kernel
theorem dX5_ringsByJoining_50 : decode cX5_ringsByJoining 50 = .ok (.getfield 35, 3) := by decide +kernel
theorem dX5_ringsByJoining_53 : decode cX5_ringsByJoining 53 = .ok (.aload_n 0, 1) := by decide +kernel
theorem dX5_ringsByJoining_54 : decode cX5_ringsByJoining 54 = .ok (.getfield 26, 3) := by decide +kernel
theorem dX5_ringsByJoining_57 : decode cX5_ringsByJoining 57 = .ok (.iload_n 2, 1) := by decide +kernel
theorem dX5_ringsByJoining_58 : decode cX5_ringsByJoining 58 = .ok (.invokevirtual 61, 3) := by decide +kernel
theorem dX5_ringsByJoining_61 : decode cX5_ringsByJoining 61 = .ok (.invokevirtual 61, 3) := by decide +kernel
theorem dX5_ringsByJoining_64 : decode cX5_ringsByJoining 64 = .ok (.istore 4, 2) := by decide +kernel
theorem dX5_ringsByJoining_66 : decode cX5_ringsByJoining 66 = .ok (.iload_n 3, 1) := by decide +kernel
theorem dX5_ringsByJoining_67 : decode cX5_ringsByJoining 67 = .ok (.iload 4, 2) := by decide +kernel
theorem dX5_ringsByJoining_69 : decode cX5_ringsByJoining 69 = .ok (.if_icmp .eq 13, 3) := by decide +kernel
theorem dX5_ringsByJoining_72 : decode cX5_ringsByJoining 72 = .ok (.aload_n 0, 1) := by decide +kernel
theorem dX5_ringsByJoining_73 : decode cX5_ringsByJoining 73 = .ok (.iload 4, 2) := by decide +kernel
theorem dX5_ringsByJoining_75 : decode cX5_ringsByJoining 75 = .ok (.iload_n 3, 1) := by decide +kernel
theorem dX5_ringsByJoining_76 : decode cX5_ringsByJoining 76 = .ok (.invokevirtual 78, 3) := by decide +kernel
theorem dX5_ringsByJoining_79 : decode cX5_ringsByJoining 79 = .ok (.iinc 1 (-1), 3) := by decide +kernel
theorem dX5_ringsByJoining_82 : decode cX5_ringsByJoining 82 = .ok (.iinc 2 1, 3) := by decide +kernel
theorem dX5_ringsByJoining_85 : decode cX5_ringsByJoining 85 = .ok (.goto (-53), 3) := by decide +kernel
theorem dX5_ringsByJoining_88 : decode cX5_ringsByJoining 88 = .ok (.iload_n 1, 1) := by decide +kernel
theorem dX5_ringsByJoining_89 : decode cX5_ringsByJoining 89 = .ok (.ireturn, 1) := by decide +kernel
theorem dX5_renameRing_0 : decode cX5_renameRing 0 = .ok (.iconst 0, 1) := by decide +kernel
theorem dX5_renameRing_1 : decode cX5_renameRing 1 = .ok (.istore_n 3, 1) := by decide +kernel
theorem dX5_renameRing_2 : decode cX5_renameRing 2 = .ok (.iload_n 3, 1) := by decide +kernel
theorem dX5_renameRing_3 : decode cX5_renameRing 3 = .ok (.aload_n 0, 1) := by decide +kernel
theorem dX5_renameRing_4 : decode cX5_renameRing 4 = .ok (.getfield 38, 3) := by decide +kernel
theorem dX5_renameRing_7 : decode cX5_renameRing 7 = .ok (.if_icmp .ge 30, 3) := by decide +kernel
theorem dX5_renameRing_10 : decode cX5_renameRing 10 = .ok (.aload_n 0, 1) := by decide +kernel
theorem dX5_renameRing_11 : decode cX5_renameRing 11 = .ok (.getfield 35, 3) := by decide +kernel
theorem dX5_renameRing_14 : decode cX5_renameRing 14 = .ok (.iload_n 3, 1) := by decide +kernel
theorem dX5_renameRing_15 : decode cX5_renameRing 15 = .ok (.invokevirtual 61, 3) := by decide +kernel
theorem dX5_renameRing_18 : decode cX5_renameRing 18 = .ok (.iload_n 1, 1) := by decide +kernel
theorem dX5_renameRing_19 : decode cX5_renameRing 19 = .ok (.if_icmp .ne 12, 3) := by decide +kernel
theorem dX5_renameRing_22 : decode cX5_renameRing 22 = .ok (.aload_n 0, 1) := by decide +kernel
theorem dX5_renameRing_23 : decode cX5_renameRing 23 = .ok (.getfield 35, 3) := by decide +kernel
theorem dX5_renameRing_26 : decode cX5_renameRing 26 = .ok (.iload_n 3, 1) := by decide +kernel
theorem dX5_renameRing_27 : decode cX5_renameRing 27 = .ok (.iload_n 2, 1) := by decide +kernel
theorem dX5_renameRing_28 : decode cX5_renameRing 28 = .ok (.invokevirtual 47, 3) := by decide +kernel
theorem dX5_renameRing_31 : decode cX5_renameRing 31 = .ok (.iinc 3 1, 3) := by decide +kernel
theorem dX5_renameRing_34 : decode cX5_renameRing 34 = .ok (.goto (-32), 3) := by decide +kernel
theorem dX5_renameRing_37 : decode cX5_renameRing 37 = .ok (.return_, 1) := by decide +kernel
theorem dX5_timesUntilHome_0 : decode cX5_timesUntilHome 0 = .ok (.iconst 1, 1) := by decide +kernel
theorem dX5_timesUntilHome_1 : decode cX5_timesUntilHome 1 = .ok (.istore_n 1, 1) := by decide +kernel
theorem dX5_timesUntilHome_2 : decode cX5_timesUntilHome 2 = .ok (.iconst 0, 1) := by decide +kernel
theorem dX5_timesUntilHome_3 : decode cX5_timesUntilHome 3 = .ok (.istore_n 2, 1) := by decide +kernel
theorem dX5_timesUntilHome_4 : decode cX5_timesUntilHome 4 = .ok (.iload_n 2, 1) := by decide +kernel
theorem dX5_timesUntilHome_5 : decode cX5_timesUntilHome 5 = .ok (.aload_n 0, 1) := by decide +kernel
theorem dX5_timesUntilHome_6 : decode cX5_timesUntilHome 6 = .ok (.getfield 38, 3) := by decide +kernel
theorem dX5_timesUntilHome_9 : decode cX5_timesUntilHome 9 = .ok (.if_icmp .ge 19, 3) := by decide +kernel
theorem dX5_timesUntilHome_12 : decode cX5_timesUntilHome 12 = .ok (.iload_n 1, 1) := by decide +kernel
theorem dX5_timesUntilHome_13 : decode cX5_timesUntilHome 13 = .ok (.aload_n 0, 1) := by decide +kernel
theorem dX5_timesUntilHome_14 : decode cX5_timesUntilHome 14 = .ok (.iload_n 2, 1) := by decide +kernel
theorem dX5_timesUntilHome_15 : decode cX5_timesUntilHome 15 = .ok (.invokevirtual 81, 3) := by decide +kernel
theorem dX5_timesUntilHome_18 : decode cX5_timesUntilHome 18 = .ok (.invokestatic 84, 3) := by decide +kernel
theorem dX5_timesUntilHome_21 : decode cX5_timesUntilHome 21 = .ok (.istore_n 1, 1) := by decide +kernel
theorem dX5_timesUntilHome_22 : decode cX5_timesUntilHome 22 = .ok (.iinc 2 1, 3) := by decide +kernel
theorem dX5_timesUntilHome_25 : decode cX5_timesUntilHome 25 = .ok (.goto (-21), 3) := by decide +kernel
theorem dX5_timesUntilHome_28 : decode cX5_timesUntilHome 28 = .ok (.iload_n 1, 1) := by decide +kernel
theorem dX5_timesUntilHome_29 : decode cX5_timesUntilHome 29 = .ok (.ireturn, 1) := by decide +kernel
theorem dX5_roundOf_0 : decode cX5_roundOf 0 = .ok (.aload_n 0, 1) := by decide +kernel
theorem dX5_roundOf_1 : decode cX5_roundOf 1 = .ok (.getfield 26, 3) := by decide +kernel
theorem dX5_roundOf_4 : decode cX5_roundOf 4 = .ok (.iload_n 1, 1) := by decide +kernel
theorem dX5_roundOf_5 : decode cX5_roundOf 5 = .ok (.invokevirtual 61, 3) := by decide +kernel
theorem dX5_roundOf_8 : decode cX5_roundOf 8 = .ok (.istore_n 2, 1) := by decide +kernel
theorem dX5_roundOf_9 : decode cX5_roundOf 9 = .ok (.iconst 1, 1) := by decide +kernel
theorem dX5_roundOf_10 : decode cX5_roundOf 10 = .ok (.istore_n 3, 1) := by decide +kernel
theorem dX5_roundOf_11 : decode cX5_roundOf 11 = .ok (.iconst 0, 1) := by decide +kernel
theorem dX5_roundOf_12 : decode cX5_roundOf 12 = .ok (.istore 4, 2) := by decide +kernel
theorem dX5_roundOf_14 : decode cX5_roundOf 14 = .ok (.iload 4, 2) := by decide +kernel
theorem dX5_roundOf_16 : decode cX5_roundOf 16 = .ok (.aload_n 0, 1) := by decide +kernel
theorem dX5_roundOf_17 : decode cX5_roundOf 17 = .ok (.getfield 38, 3) := by decide +kernel
theorem dX5_roundOf_20 : decode cX5_roundOf 20 = .ok (.if_icmp .ge 26, 3) := by decide +kernel
theorem dX5_roundOf_23 : decode cX5_roundOf 23 = .ok (.iload_n 2, 1) := by decide +kernel
theorem dX5_roundOf_24 : decode cX5_roundOf 24 = .ok (.iload_n 1, 1) := by decide +kernel
theorem dX5_roundOf_25 : decode cX5_roundOf 25 = .ok (.if_icmp .eq 21, 3) := by decide +kernel
theorem dX5_roundOf_28 : decode cX5_roundOf 28 = .ok (.aload_n 0, 1) := by decide +kernel
theorem dX5_roundOf_29 : decode cX5_roundOf 29 = .ok (.getfield 26, 3) := by decide +kernel
theorem dX5_roundOf_32 : decode cX5_roundOf 32 = .ok (.iload_n 2, 1) := by decide +kernel
theorem dX5_roundOf_33 : decode cX5_roundOf 33 = .ok (.invokevirtual 61, 3) := by decide +kernel
theorem dX5_roundOf_36 : decode cX5_roundOf 36 = .ok (.istore_n 2, 1) := by decide +kernel
theorem dX5_roundOf_37 : decode cX5_roundOf 37 = .ok (.iinc 3 1, 3) := by decide +kernel
theorem dX5_roundOf_40 : decode cX5_roundOf 40 = .ok (.iinc 4 1, 3) := by decide +kernel
theorem dX5_roundOf_43 : decode cX5_roundOf 43 = .ok (.goto (-29), 3) := by decide +kernel
theorem dX5_roundOf_46 : decode cX5_roundOf 46 = .ok (.iload_n 3, 1) := by decide +kernel
theorem dX5_roundOf_47 : decode cX5_roundOf 47 = .ok (.ireturn, 1) := by decide +kernel
theorem dX5_leastCommonMultiple_0 : decode cX5_leastCommonMultiple 0 = .ok (.iload_n 0, 1) := by decide +kernel
theorem dX5_leastCommonMultiple_1 : decode cX5_leastCommonMultiple 1 = .ok (.istore_n 2, 1) := by decide +kernel
theorem dX5_leastCommonMultiple_2 : decode cX5_leastCommonMultiple 2 = .ok (.iconst 1, 1) := by decide +kernel
theorem dX5_leastCommonMultiple_3 : decode cX5_leastCommonMultiple 3 = .ok (.istore_n 3, 1) := by decide +kernel
theorem dX5_leastCommonMultiple_4 : decode cX5_leastCommonMultiple 4 = .ok (.iload_n 3, 1) := by decide +kernel
theorem dX5_leastCommonMultiple_5 : decode cX5_leastCommonMultiple 5 = .ok (.iload_n 1, 1) := by decide +kernel
theorem dX5_leastCommonMultiple_6 : decode cX5_leastCommonMultiple 6 = .ok (.if_icmp .ge 23, 3) := by decide +kernel
theorem dX5_leastCommonMultiple_9 : decode cX5_leastCommonMultiple 9 = .ok (.iload_n 1, 1) := by decide +kernel
theorem dX5_leastCommonMultiple_10 : decode cX5_leastCommonMultiple 10 = .ok (.ifCond .le 19, 3) := by decide +kernel
theorem dX5_leastCommonMultiple_13 : decode cX5_leastCommonMultiple 13 = .ok (.iload_n 2, 1) := by decide +kernel
theorem dX5_leastCommonMultiple_14 : decode cX5_leastCommonMultiple 14 = .ok (.iload_n 1, 1) := by decide +kernel
theorem dX5_leastCommonMultiple_15 : decode cX5_leastCommonMultiple 15 = .ok (.irem, 1) := by decide +kernel
theorem dX5_leastCommonMultiple_16 : decode cX5_leastCommonMultiple 16 = .ok (.ifCond .eq 13, 3) := by decide +kernel
theorem dX5_leastCommonMultiple_19 : decode cX5_leastCommonMultiple 19 = .ok (.iload_n 2, 1) := by decide +kernel
theorem dX5_leastCommonMultiple_20 : decode cX5_leastCommonMultiple 20 = .ok (.iload_n 0, 1) := by decide +kernel
theorem dX5_leastCommonMultiple_21 : decode cX5_leastCommonMultiple 21 = .ok (.iadd, 1) := by decide +kernel
theorem dX5_leastCommonMultiple_22 : decode cX5_leastCommonMultiple 22 = .ok (.istore_n 2, 1) := by decide +kernel
theorem dX5_leastCommonMultiple_23 : decode cX5_leastCommonMultiple 23 = .ok (.iinc 3 1, 3) := by decide +kernel
theorem dX5_leastCommonMultiple_26 : decode cX5_leastCommonMultiple 26 = .ok (.goto (-22), 3) := by decide +kernel
theorem dX5_leastCommonMultiple_29 : decode cX5_leastCommonMultiple 29 = .ok (.iload_n 2, 1) := by decide +kernel
theorem dX5_leastCommonMultiple_30 : decode cX5_leastCommonMultiple 30 = .ok (.ireturn, 1) := by decide +kernel
theorem dX6_init_0 : decode cX6_init 0 = .ok (.aload_n 0, 1) := by decide +kernel
theorem dX6_init_1 : decode cX6_init 1 = .ok (.invokespecial 3, 3) := by decide +kernel
theorem dX6_init_4 : decode cX6_init 4 = .ok (.aload_n 0, 1) := by decide +kernel
theorem dX6_init_5 : decode cX6_init 5 = .ok (.new 9, 3) := by decide +kernel
theorem dX6_init_8 : decode cX6_init 8 = .ok (.dup, 1) := by decide +kernel
theorem dX6_init_9 : decode cX6_init 9 = .ok (.bipush 24, 2) := by decide +kernel
theorem dX6_init_11 : decode cX6_init 11 = .ok (.invokespecial 11, 3) := by decide +kernel
theorem dX6_init_14 : decode cX6_init 14 = .ok (.putfield 14, 3) := by decide +kernel
theorem dX6_init_17 : decode cX6_init 17 = .ok (.aload_n 0, 1) := by decide +kernel
theorem dX6_init_18 : decode cX6_init 18 = .ok (.iconst 2, 1) := by decide +kernel
theorem dX6_init_19 : decode cX6_init 19 = .ok (.putfield 20, 3) := by decide +kernel
theorem dX6_init_22 : decode cX6_init 22 = .ok (.aload_n 0, 1) := by decide +kernel
theorem dX6_init_23 : decode cX6_init 23 = .ok (.iconst 0, 1) := by decide +kernel
theorem dX6_init_24 : decode cX6_init 24 = .ok (.putfield 24, 3) := by decide +kernel
theorem dX6_init_27 : decode cX6_init 27 = .ok (.return_, 1) := by decide +kernel
theorem dX6_codeOf_0 : decode cX6_codeOf 0 = .ok (.iconst 2, 1) := by decide +kernel
theorem dX6_codeOf_1 : decode cX6_codeOf 1 = .ok (.iload_n 0, 1) := by decide +kernel
theorem dX6_codeOf_2 : decode cX6_codeOf 2 = .ok (.imul, 1) := by decide +kernel
theorem dX6_codeOf_3 : decode cX6_codeOf 3 = .ok (.iload_n 1, 1) := by decide +kernel
theorem dX6_codeOf_4 : decode cX6_codeOf 4 = .ok (.ifCond .eq 7, 3) := by decide +kernel
theorem dX6_codeOf_7 : decode cX6_codeOf 7 = .ok (.iconst 1, 1) := by decide +kernel
theorem dX6_codeOf_8 : decode cX6_codeOf 8 = .ok (.goto 4, 3) := by decide +kernel
theorem dX6_codeOf_11 : decode cX6_codeOf 11 = .ok (.iconst 0, 1) := by decide +kernel
theorem dX6_codeOf_12 : decode cX6_codeOf 12 = .ok (.iadd, 1) := by decide +kernel
theorem dX6_codeOf_13 : decode cX6_codeOf 13 = .ok (.ireturn, 1) := by decide +kernel
theorem dX6_placeOf_0 : decode cX6_placeOf 0 = .ok (.iload_n 0, 1) := by decide +kernel
theorem dX6_placeOf_1 : decode cX6_placeOf 1 = .ok (.iconst 1, 1) := by decide +kernel
theorem dX6_placeOf_2 : decode cX6_placeOf 2 = .ok (.ishr, 1) := by decide +kernel
theorem dX6_placeOf_3 : decode cX6_placeOf 3 = .ok (.ireturn, 1) := by decide +kernel
theorem dX6_isRight_0 : decode cX6_isRight 0 = .ok (.iload_n 0, 1) := by decide +kernel
theorem dX6_isRight_1 : decode cX6_isRight 1 = .ok (.iconst 1, 1) := by decide +kernel
theorem dX6_isRight_2 : decode cX6_isRight 2 = .ok (.iand, 1) := by decide +kernel
theorem dX6_isRight_3 : decode cX6_isRight 3 = .ok (.iconst 1, 1) := by decide +kernel
theorem dX6_isRight_4 : decode cX6_isRight 4 = .ok (.if_icmp .ne 7, 3) := by decide +kernel
theorem dX6_isRight_7 : decode cX6_isRight 7 = .ok (.iconst 1, 1) := by decide +kernel
theorem dX6_isRight_8 : decode cX6_isRight 8 = .ok (.goto 4, 3) := by decide +kernel
theorem dX6_isRight_11 : decode cX6_isRight 11 = .ok (.iconst 0, 1) := by decide +kernel
theorem dX6_isRight_12 : decode cX6_isRight 12 = .ok (.ireturn, 1) := by decide +kernel
theorem dX6_flipped_0 : decode cX6_flipped 0 = .ok (.iload_n 0, 1) := by decide +kernel
theorem dX6_flipped_1 : decode cX6_flipped 1 = .ok (.iconst 1, 1) := by decide +kernel
theorem dX6_flipped_2 : decode cX6_flipped 2 = .ok (.ixor, 1) := by decide +kernel
theorem dX6_flipped_3 : decode cX6_flipped 3 = .ok (.ireturn, 1) := by decide +kernel
theorem dX6_strands_0 : decode cX6_strands 0 = .ok (.aload_n 0, 1) := by decide +kernel
theorem dX6_strands_1 : decode cX6_strands 1 = .ok (.getfield 20, 3) := by decide +kernel
theorem dX6_strands_4 : decode cX6_strands 4 = .ok (.ireturn, 1) := by decide +kernel
theorem dX6_size_0 : decode cX6_size 0 = .ok (.aload_n 0, 1) := by decide +kernel
theorem dX6_size_1 : decode cX6_size 1 = .ok (.getfield 24, 3) := by decide +kernel
theorem dX6_size_4 : decode cX6_size 4 = .ok (.ireturn, 1) := by decide +kernel
theorem dX6_codeAt_0 : decode cX6_codeAt 0 = .ok (.aload_n 0, 1) := by decide +kernel
theorem dX6_codeAt_1 : decode cX6_codeAt 1 = .ok (.getfield 14, 3) := by decide +kernel
theorem dX6_codeAt_4 : decode cX6_codeAt 4 = .ok (.iload_n 1, 1) := by decide +kernel
theorem dX6_codeAt_5 : decode cX6_codeAt 5 = .ok (.invokevirtual 27, 3) := by decide +kernel
theorem dX6_codeAt_8 : decode cX6_codeAt 8 = .ok (.ireturn, 1) := by decide +kernel
theorem dX6_hasPlace_0 : decode cX6_hasPlace 0 = .ok (.iload_n 1, 1) := by decide +kernel
theorem dX6_hasPlace_1 : decode cX6_hasPlace 1 = .ok (.ifCond .lt 17, 3) := by decide +kernel
theorem dX6_hasPlace_4 : decode cX6_hasPlace 4 = .ok (.iload_n 1, 1) := by decide +kernel
theorem dX6_hasPlace_5 : decode cX6_hasPlace 5 = .ok (.aload_n 0, 1) := by decide +kernel
theorem dX6_hasPlace_6 : decode cX6_hasPlace 6 = .ok (.getfield 20, 3) := by decide +kernel
theorem dX6_hasPlace_9 : decode cX6_hasPlace 9 = .ok (.iconst 2, 1) := by decide +kernel
theorem dX6_hasPlace_10 : decode cX6_hasPlace 10 = .ok (.isub, 1) := by decide +kernel
theorem dX6_hasPlace_11 : decode cX6_hasPlace 11 = .ok (.if_icmp .gt 7, 3) := by decide +kernel
theorem dX6_hasPlace_14 : decode cX6_hasPlace 14 = .ok (.iconst 1, 1) := by decide +kernel
theorem dX6_hasPlace_15 : decode cX6_hasPlace 15 = .ok (.goto 4, 3) := by decide +kernel
theorem dX6_hasPlace_18 : decode cX6_hasPlace 18 = .ok (.iconst 0, 1) := by decide +kernel
theorem dX6_hasPlace_19 : decode cX6_hasPlace 19 = .ok (.ireturn, 1) := by decide +kernel
theorem dX6_begin_0 : decode cX6_begin 0 = .ok (.aload_n 0, 1) := by decide +kernel
theorem dX6_begin_1 : decode cX6_begin 1 = .ok (.iload_n 1, 1) := by decide +kernel
theorem dX6_begin_2 : decode cX6_begin 2 = .ok (.putfield 20, 3) := by decide +kernel
theorem dX6_begin_5 : decode cX6_begin 5 = .ok (.aload_n 0, 1) := by decide +kernel
theorem dX6_begin_6 : decode cX6_begin 6 = .ok (.iconst 0, 1) := by decide +kernel
theorem dX6_begin_7 : decode cX6_begin 7 = .ok (.putfield 24, 3) := by decide +kernel
theorem dX6_begin_10 : decode cX6_begin 10 = .ok (.return_, 1) := by decide +kernel
theorem dX6_add_0 : decode cX6_add 0 = .ok (.aload_n 0, 1) := by decide +kernel
theorem dX6_add_1 : decode cX6_add 1 = .ok (.aload_n 0, 1) := by decide +kernel
theorem dX6_add_2 : decode cX6_add 2 = .ok (.getfield 24, 3) := by decide +kernel
theorem dX6_add_5 : decode cX6_add 5 = .ok (.iload_n 1, 1) := by decide +kernel
theorem dX6_add_6 : decode cX6_add 6 = .ok (.invokevirtual 31, 3) := by decide +kernel
theorem dX6_add_9 : decode cX6_add 9 = .ok (.return_, 1) := by decide +kernel
theorem dX6_addAll_0 : decode cX6_addAll 0 = .ok (.iconst 0, 1) := by decide +kernel
theorem dX6_addAll_1 : decode cX6_addAll 1 = .ok (.istore_n 2, 1) := by decide +kernel
theorem dX6_addAll_2 : decode cX6_addAll 2 = .ok (.iload_n 2, 1) := by decide +kernel
theorem dX6_addAll_3 : decode cX6_addAll 3 = .ok (.aload_n 1, 1) := by decide +kernel
theorem dX6_addAll_4 : decode cX6_addAll 4 = .ok (.getfield 24, 3) := by decide +kernel
theorem dX6_addAll_7 : decode cX6_addAll 7 = .ok (.if_icmp .ge 18, 3) := by decide +kernel
theorem dX6_addAll_10 : decode cX6_addAll 10 = .ok (.aload_n 0, 1) := by decide +kernel
theorem dX6_addAll_11 : decode cX6_addAll 11 = .ok (.aload_n 1, 1) := by decide +kernel
theorem dX6_addAll_12 : decode cX6_addAll 12 = .ok (.iload_n 2, 1) := by decide +kernel
theorem dX6_addAll_13 : decode cX6_addAll 13 = .ok (.invokevirtual 35, 3) := by decide +kernel
theorem dX6_addAll_16 : decode cX6_addAll 16 = .ok (.invokevirtual 38, 3) := by decide +kernel
theorem dX6_addAll_19 : decode cX6_addAll 19 = .ok (.iinc 2 1, 3) := by decide +kernel
theorem dX6_addAll_22 : decode cX6_addAll 22 = .ok (.goto (-20), 3) := by decide +kernel
theorem dX6_addAll_25 : decode cX6_addAll 25 = .ok (.return_, 1) := by decide +kernel
theorem dX6_insertAt_0 : decode cX6_insertAt 0 = .ok (.iload_n 1, 1) := by decide +kernel
theorem dX6_insertAt_1 : decode cX6_insertAt 1 = .ok (.ifCond .lt 20, 3) := by decide +kernel
theorem dX6_insertAt_4 : decode cX6_insertAt 4 = .ok (.iload_n 1, 1) := by decide +kernel
theorem dX6_insertAt_5 : decode cX6_insertAt 5 = .ok (.aload_n 0, 1) := by decide +kernel
theorem dX6_insertAt_6 : decode cX6_insertAt 6 = .ok (.getfield 24, 3) := by decide +kernel
theorem dX6_insertAt_9 : decode cX6_insertAt 9 = .ok (.if_icmp .gt 12, 3) := by decide +kernel
theorem dX6_insertAt_12 : decode cX6_insertAt 12 = .ok (.aload_n 0, 1) := by decide +kernel
theorem dX6_insertAt_13 : decode cX6_insertAt 13 = .ok (.getfield 24, 3) := by decide +kernel
theorem dX6_insertAt_16 : decode cX6_insertAt 16 = .ok (.bipush 24, 2) := by decide +kernel
theorem dX6_insertAt_18 : decode cX6_insertAt 18 = .ok (.if_icmp .lt 4, 3) := by decide +kernel
theorem dX6_insertAt_21 : decode cX6_insertAt 21 = .ok (.return_, 1) := by decide +kernel
theorem dX6_insertAt_22 : decode cX6_insertAt 22 = .ok (.aload_n 0, 1) := by decide +kernel
theorem dX6_insertAt_23 : decode cX6_insertAt 23 = .ok (.getfield 24, 3) := by decide +kernel
theorem dX6_insertAt_26 : decode cX6_insertAt 26 = .ok (.istore_n 3, 1) := by decide +kernel
theorem dX6_insertAt_27 : decode cX6_insertAt 27 = .ok (.iload_n 3, 1) := by decide +kernel
theorem dX6_insertAt_28 : decode cX6_insertAt 28 = .ok (.iload_n 1, 1) := by decide +kernel
theorem dX6_insertAt_29 : decode cX6_insertAt 29 = .ok (.if_icmp .le 27, 3) := by decide +kernel
theorem dX6_insertAt_32 : decode cX6_insertAt 32 = .ok (.aload_n 0, 1) := by decide +kernel
theorem dX6_insertAt_33 : decode cX6_insertAt 33 = .ok (.getfield 14, 3) := by decide +kernel
theorem dX6_insertAt_36 : decode cX6_insertAt 36 = .ok (.iload_n 3, 1) := by decide +kernel
theorem dX6_insertAt_37 : decode cX6_insertAt 37 = .ok (.aload_n 0, 1) := by decide +kernel
theorem dX6_insertAt_38 : decode cX6_insertAt 38 = .ok (.getfield 14, 3) := by decide +kernel
theorem dX6_insertAt_41 : decode cX6_insertAt 41 = .ok (.iload_n 3, 1) := by decide +kernel
theorem dX6_insertAt_42 : decode cX6_insertAt 42 = .ok (.iconst 1, 1) := by decide +kernel
theorem dX6_insertAt_43 : decode cX6_insertAt 43 = .ok (.isub, 1) := by decide +kernel
theorem dX6_insertAt_44 : decode cX6_insertAt 44 = .ok (.invokevirtual 27, 3) := by decide +kernel
theorem dX6_insertAt_47 : decode cX6_insertAt 47 = .ok (.invokevirtual 41, 3) := by decide +kernel
theorem dX6_insertAt_50 : decode cX6_insertAt 50 = .ok (.iinc 3 (-1), 3) := by decide +kernel
theorem dX6_insertAt_53 : decode cX6_insertAt 53 = .ok (.goto (-26), 3) := by decide +kernel
theorem dX6_insertAt_56 : decode cX6_insertAt 56 = .ok (.aload_n 0, 1) := by decide +kernel
theorem dX6_insertAt_57 : decode cX6_insertAt 57 = .ok (.getfield 14, 3) := by decide +kernel
theorem dX6_insertAt_60 : decode cX6_insertAt 60 = .ok (.iload_n 1, 1) := by decide +kernel
theorem dX6_insertAt_61 : decode cX6_insertAt 61 = .ok (.iload_n 2, 1) := by decide +kernel
theorem dX6_insertAt_62 : decode cX6_insertAt 62 = .ok (.invokevirtual 41, 3) := by decide +kernel
theorem dX6_insertAt_65 : decode cX6_insertAt 65 = .ok (.aload_n 0, 1) := by decide +kernel
theorem dX6_insertAt_66 : decode cX6_insertAt 66 = .ok (.dup, 1) := by decide +kernel
theorem dX6_insertAt_67 : decode cX6_insertAt 67 = .ok (.getfield 24, 3) := by decide +kernel
theorem dX6_insertAt_70 : decode cX6_insertAt 70 = .ok (.iconst 1, 1) := by decide +kernel
theorem dX6_insertAt_71 : decode cX6_insertAt 71 = .ok (.iadd, 1) := by decide +kernel
theorem dX6_insertAt_72 : decode cX6_insertAt 72 = .ok (.putfield 24, 3) := by decide +kernel
theorem dX6_insertAt_75 : decode cX6_insertAt 75 = .ok (.return_, 1) := by decide +kernel
theorem dX6_removeAt_0 : decode cX6_removeAt 0 = .ok (.iload_n 1, 1) := by decide +kernel
theorem dX6_removeAt_1 : decode cX6_removeAt 1 = .ok (.ifCond .lt 11, 3) := by decide +kernel
theorem dX6_removeAt_4 : decode cX6_removeAt 4 = .ok (.iload_n 1, 1) := by decide +kernel
theorem dX6_removeAt_5 : decode cX6_removeAt 5 = .ok (.aload_n 0, 1) := by decide +kernel
theorem dX6_removeAt_6 : decode cX6_removeAt 6 = .ok (.getfield 24, 3) := by decide +kernel
theorem dX6_removeAt_9 : decode cX6_removeAt 9 = .ok (.if_icmp .lt 4, 3) := by decide +kernel
theorem dX6_removeAt_12 : decode cX6_removeAt 12 = .ok (.return_, 1) := by decide +kernel
theorem dX6_removeAt_13 : decode cX6_removeAt 13 = .ok (.iload_n 1, 1) := by decide +kernel
theorem dX6_removeAt_14 : decode cX6_removeAt 14 = .ok (.istore_n 2, 1) := by decide +kernel
theorem dX6_removeAt_15 : decode cX6_removeAt 15 = .ok (.iload_n 2, 1) := by decide +kernel
theorem dX6_removeAt_16 : decode cX6_removeAt 16 = .ok (.aload_n 0, 1) := by decide +kernel
theorem dX6_removeAt_17 : decode cX6_removeAt 17 = .ok (.getfield 24, 3) := by decide +kernel
theorem dX6_removeAt_20 : decode cX6_removeAt 20 = .ok (.iconst 1, 1) := by decide +kernel
theorem dX6_removeAt_21 : decode cX6_removeAt 21 = .ok (.isub, 1) := by decide +kernel
theorem dX6_removeAt_22 : decode cX6_removeAt 22 = .ok (.if_icmp .ge 27, 3) := by decide +kernel
theorem dX6_removeAt_25 : decode cX6_removeAt 25 = .ok (.aload_n 0, 1) := by decide +kernel
theorem dX6_removeAt_26 : decode cX6_removeAt 26 = .ok (.getfield 14, 3) := by decide +kernel
theorem dX6_removeAt_29 : decode cX6_removeAt 29 = .ok (.iload_n 2, 1) := by decide +kernel
theorem dX6_removeAt_30 : decode cX6_removeAt 30 = .ok (.aload_n 0, 1) := by decide +kernel
theorem dX6_removeAt_31 : decode cX6_removeAt 31 = .ok (.getfield 14, 3) := by decide +kernel
theorem dX6_removeAt_34 : decode cX6_removeAt 34 = .ok (.iload_n 2, 1) := by decide +kernel
theorem dX6_removeAt_35 : decode cX6_removeAt 35 = .ok (.iconst 1, 1) := by decide +kernel
theorem dX6_removeAt_36 : decode cX6_removeAt 36 = .ok (.iadd, 1) := by decide +kernel
theorem dX6_removeAt_37 : decode cX6_removeAt 37 = .ok (.invokevirtual 27, 3) := by decide +kernel
theorem dX6_removeAt_40 : decode cX6_removeAt 40 = .ok (.invokevirtual 41, 3) := by decide +kernel
theorem dX6_removeAt_43 : decode cX6_removeAt 43 = .ok (.iinc 2 1, 3) := by decide +kernel
theorem dX6_removeAt_46 : decode cX6_removeAt 46 = .ok (.goto (-31), 3) := by decide +kernel
theorem dX6_removeAt_49 : decode cX6_removeAt 49 = .ok (.aload_n 0, 1) := by decide +kernel
theorem dX6_removeAt_50 : decode cX6_removeAt 50 = .ok (.dup, 1) := by decide +kernel
theorem dX6_removeAt_51 : decode cX6_removeAt 51 = .ok (.getfield 24, 3) := by decide +kernel
theorem dX6_removeAt_54 : decode cX6_removeAt 54 = .ok (.iconst 1, 1) := by decide +kernel
theorem dX6_removeAt_55 : decode cX6_removeAt 55 = .ok (.isub, 1) := by decide +kernel
theorem dX6_removeAt_56 : decode cX6_removeAt 56 = .ok (.putfield 24, 3) := by decide +kernel
theorem dX6_removeAt_59 : decode cX6_removeAt 59 = .ok (.return_, 1) := by decide +kernel
theorem dX6_copyFrom_0 : decode cX6_copyFrom 0 = .ok (.aload_n 0, 1) := by decide +kernel
theorem dX6_copyFrom_1 : decode cX6_copyFrom 1 = .ok (.aload_n 1, 1) := by decide +kernel
theorem dX6_copyFrom_2 : decode cX6_copyFrom 2 = .ok (.getfield 20, 3) := by decide +kernel
theorem dX6_copyFrom_5 : decode cX6_copyFrom 5 = .ok (.putfield 20, 3) := by decide +kernel
theorem dX6_copyFrom_8 : decode cX6_copyFrom 8 = .ok (.aload_n 0, 1) := by decide +kernel
theorem dX6_copyFrom_9 : decode cX6_copyFrom 9 = .ok (.aload_n 1, 1) := by decide +kernel
theorem dX6_copyFrom_10 : decode cX6_copyFrom 10 = .ok (.getfield 24, 3) := by decide +kernel
theorem dX6_copyFrom_13 : decode cX6_copyFrom 13 = .ok (.putfield 24, 3) := by decide +kernel
theorem dX6_copyFrom_16 : decode cX6_copyFrom 16 = .ok (.aload_n 0, 1) := by decide +kernel
theorem dX6_copyFrom_17 : decode cX6_copyFrom 17 = .ok (.getfield 14, 3) := by decide +kernel
theorem dX6_copyFrom_20 : decode cX6_copyFrom 20 = .ok (.aload_n 1, 1) := by decide +kernel
theorem dX6_copyFrom_21 : decode cX6_copyFrom 21 = .ok (.getfield 14, 3) := by decide +kernel
theorem dX6_copyFrom_24 : decode cX6_copyFrom 24 = .ok (.invokevirtual 44, 3) := by decide +kernel
theorem dX6_copyFrom_27 : decode cX6_copyFrom 27 = .ok (.return_, 1) := by decide +kernel
theorem dX6_isSame_0 : decode cX6_isSame 0 = .ok (.aload_n 0, 1) := by decide +kernel
theorem dX6_isSame_1 : decode cX6_isSame 1 = .ok (.getfield 20, 3) := by decide +kernel
theorem dX6_isSame_4 : decode cX6_isSame 4 = .ok (.aload_n 1, 1) := by decide +kernel
theorem dX6_isSame_5 : decode cX6_isSame 5 = .ok (.getfield 20, 3) := by decide +kernel
theorem dX6_isSame_8 : decode cX6_isSame 8 = .ok (.if_icmp .ne 14, 3) := by decide +kernel
theorem dX6_isSame_11 : decode cX6_isSame 11 = .ok (.aload_n 0, 1) := by decide +kernel
theorem dX6_isSame_12 : decode cX6_isSame 12 = .ok (.getfield 24, 3) := by decide +kernel
theorem dX6_isSame_15 : decode cX6_isSame 15 = .ok (.aload_n 1, 1) := by decide +kernel
theorem dX6_isSame_16 : decode cX6_isSame 16 = .ok (.getfield 24, 3) := by decide +kernel
theorem dX6_isSame_19 : decode cX6_isSame 19 = .ok (.if_icmp .eq 5, 3) := by decide +kernel
theorem dX6_isSame_22 : decode cX6_isSame 22 = .ok (.iconst 0, 1) := by decide +kernel
theorem dX6_isSame_23 : decode cX6_isSame 23 = .ok (.ireturn, 1) := by decide +kernel
theorem dX6_isSame_24 : decode cX6_isSame 24 = .ok (.iconst 0, 1) := by decide +kernel
theorem dX6_isSame_25 : decode cX6_isSame 25 = .ok (.istore_n 2, 1) := by decide +kernel
theorem dX6_isSame_26 : decode cX6_isSame 26 = .ok (.iload_n 2, 1) := by decide +kernel
theorem dX6_isSame_27 : decode cX6_isSame 27 = .ok (.aload_n 0, 1) := by decide +kernel
theorem dX6_isSame_28 : decode cX6_isSame 28 = .ok (.getfield 24, 3) := by decide +kernel
theorem dX6_isSame_31 : decode cX6_isSame 31 = .ok (.if_icmp .ge 24, 3) := by decide +kernel
theorem dX6_isSame_34 : decode cX6_isSame 34 = .ok (.aload_n 0, 1) := by decide +kernel
theorem dX6_isSame_35 : decode cX6_isSame 35 = .ok (.iload_n 2, 1) := by decide +kernel
theorem dX6_isSame_36 : decode cX6_isSame 36 = .ok (.invokevirtual 35, 3) := by decide +kernel
theorem dX6_isSame_39 : decode cX6_isSame 39 = .ok (.aload_n 1, 1) := by decide +kernel
theorem dX6_isSame_40 : decode cX6_isSame 40 = .ok (.iload_n 2, 1) := by decide +kernel
theorem dX6_isSame_41 : decode cX6_isSame 41 = .ok (.invokevirtual 35, 3) := by decide +kernel
theorem dX6_isSame_44 : decode cX6_isSame 44 = .ok (.if_icmp .eq 5, 3) := by decide +kernel
theorem dX6_isSame_47 : decode cX6_isSame 47 = .ok (.iconst 0, 1) := by decide +kernel
theorem dX6_isSame_48 : decode cX6_isSame 48 = .ok (.ireturn, 1) := by decide +kernel
theorem dX6_isSame_49 : decode cX6_isSame 49 = .ok (.iinc 2 1, 3) := by decide +kernel
theorem dX6_isSame_52 : decode cX6_isSame 52 = .ok (.goto (-26), 3) := by decide +kernel
theorem dX6_isSame_55 : decode cX6_isSame 55 = .ok (.iconst 1, 1) := by decide +kernel
theorem dX6_isSame_56 : decode cX6_isSame 56 = .ok (.ireturn, 1) := by decide +kernel
theorem dX6_rightLessLeft_0 : decode cX6_rightLessLeft 0 = .ok (.iconst 0, 1) := by decide +kernel
theorem dX6_rightLessLeft_1 : decode cX6_rightLessLeft 1 = .ok (.istore_n 1, 1) := by decide +kernel
theorem dX6_rightLessLeft_2 : decode cX6_rightLessLeft 2 = .ok (.iconst 0, 1) := by decide +kernel
theorem dX6_rightLessLeft_3 : decode cX6_rightLessLeft 3 = .ok (.istore_n 2, 1) := by decide +kernel
theorem dX6_rightLessLeft_4 : decode cX6_rightLessLeft 4 = .ok (.iload_n 2, 1) := by decide +kernel
theorem dX6_rightLessLeft_5 : decode cX6_rightLessLeft 5 = .ok (.aload_n 0, 1) := by decide +kernel
theorem dX6_rightLessLeft_6 : decode cX6_rightLessLeft 6 = .ok (.getfield 24, 3) := by decide +kernel
theorem dX6_rightLessLeft_9 : decode cX6_rightLessLeft 9 = .ok (.if_icmp .ge 28, 3) := by decide +kernel
theorem dX6_rightLessLeft_12 : decode cX6_rightLessLeft 12 = .ok (.iload_n 1, 1) := by decide +kernel
theorem dX6_rightLessLeft_13 : decode cX6_rightLessLeft 13 = .ok (.aload_n 0, 1) := by decide +kernel
theorem dX6_rightLessLeft_14 : decode cX6_rightLessLeft 14 = .ok (.iload_n 2, 1) := by decide +kernel
theorem dX6_rightLessLeft_15 : decode cX6_rightLessLeft 15 = .ok (.invokevirtual 35, 3) := by decide +kernel
theorem dX6_rightLessLeft_18 : decode cX6_rightLessLeft 18 = .ok (.invokestatic 48, 3) := by decide +kernel
theorem dX6_rightLessLeft_21 : decode cX6_rightLessLeft 21 = .ok (.ifCond .eq 7, 3) := by decide +kernel
theorem dX6_rightLessLeft_24 : decode cX6_rightLessLeft 24 = .ok (.iconst 1, 1) := by decide +kernel
theorem dX6_rightLessLeft_25 : decode cX6_rightLessLeft 25 = .ok (.goto 4, 3) := by decide +kernel
theorem dX6_rightLessLeft_28 : decode cX6_rightLessLeft 28 = .ok (.iconst (-1), 1) := by decide +kernel
theorem dX6_rightLessLeft_29 : decode cX6_rightLessLeft 29 = .ok (.iadd, 1) := by decide +kernel
theorem dX6_rightLessLeft_30 : decode cX6_rightLessLeft 30 = .ok (.istore_n 1, 1) := by decide +kernel
theorem dX6_rightLessLeft_31 : decode cX6_rightLessLeft 31 = .ok (.iinc 2 1, 3) := by decide +kernel
theorem dX6_rightLessLeft_34 : decode cX6_rightLessLeft 34 = .ok (.goto (-30), 3) := by decide +kernel
theorem dX6_rightLessLeft_37 : decode cX6_rightLessLeft 37 = .ok (.iload_n 1, 1) := by decide +kernel
theorem dX6_rightLessLeft_38 : decode cX6_rightLessLeft 38 = .ok (.ireturn, 1) := by decide +kernel
theorem dX6_makeChanged_0 : decode cX6_makeChanged 0 = .ok (.iload_n 2, 1) := by decide +kernel
theorem dX6_makeChanged_1 : decode cX6_makeChanged 1 = .ok (.iconst 3, 1) := by decide +kernel
theorem dX6_makeChanged_2 : decode cX6_makeChanged 2 = .ok (.if_icmp .ne 9, 3) := by decide +kernel
theorem dX6_makeChanged_5 : decode cX6_makeChanged 5 = .ok (.aload_n 0, 1) := by decide +kernel
theorem dX6_makeChanged_6 : decode cX6_makeChanged 6 = .ok (.aload_n 1, 1) := by decide +kernel
theorem dX6_makeChanged_7 : decode cX6_makeChanged 7 = .ok (.invokevirtual 52, 3) := by decide +kernel
theorem dX6_makeChanged_10 : decode cX6_makeChanged 10 = .ok (.return_, 1) := by decide +kernel
theorem dX6_makeChanged_11 : decode cX6_makeChanged 11 = .ok (.aload_n 0, 1) := by decide +kernel
theorem dX6_makeChanged_12 : decode cX6_makeChanged 12 = .ok (.aload_n 1, 1) := by decide +kernel
theorem dX6_makeChanged_13 : decode cX6_makeChanged 13 = .ok (.getfield 20, 3) := by decide +kernel
theorem dX6_makeChanged_16 : decode cX6_makeChanged 16 = .ok (.invokevirtual 56, 3) := by decide +kernel
theorem dX6_makeChanged_19 : decode cX6_makeChanged 19 = .ok (.iconst 0, 1) := by decide +kernel
theorem dX6_makeChanged_20 : decode cX6_makeChanged 20 = .ok (.istore_n 3, 1) := by decide +kernel
theorem dX6_makeChanged_21 : decode cX6_makeChanged 21 = .ok (.iload_n 3, 1) := by decide +kernel
theorem dX6_makeChanged_22 : decode cX6_makeChanged 22 = .ok (.aload_n 1, 1) := by decide +kernel
theorem dX6_makeChanged_23 : decode cX6_makeChanged 23 = .ok (.getfield 24, 3) := by decide +kernel
theorem dX6_makeChanged_26 : decode cX6_makeChanged 26 = .ok (.if_icmp .ge 86, 3) := by decide +kernel
theorem dX6_makeChanged_29 : decode cX6_makeChanged 29 = .ok (.iload_n 2, 1) := by decide +kernel
theorem dX6_makeChanged_30 : decode cX6_makeChanged 30 = .ok (.lookupswitch 57 #[(0, 26), (1, 41)], 26) := by decide +kernel
theorem dX6_makeChanged_56 : decode cX6_makeChanged 56 = .ok (.aload_n 0, 1) := by decide +kernel
theorem dX6_makeChanged_57 : decode cX6_makeChanged 57 = .ok (.aload_n 1, 1) := by decide +kernel
theorem dX6_makeChanged_58 : decode cX6_makeChanged 58 = .ok (.iload_n 3, 1) := by decide +kernel
theorem dX6_makeChanged_59 : decode cX6_makeChanged 59 = .ok (.invokevirtual 35, 3) := by decide +kernel
theorem dX6_makeChanged_62 : decode cX6_makeChanged 62 = .ok (.invokestatic 59, 3) := by decide +kernel
theorem dX6_makeChanged_65 : decode cX6_makeChanged 65 = .ok (.invokevirtual 38, 3) := by decide +kernel
theorem dX6_makeChanged_68 : decode cX6_makeChanged 68 = .ok (.goto 38, 3) := by decide +kernel
theorem dX6_makeChanged_71 : decode cX6_makeChanged 71 = .ok (.aload_n 0, 1) := by decide +kernel
theorem dX6_makeChanged_72 : decode cX6_makeChanged 72 = .ok (.aload_n 0, 1) := by decide +kernel
theorem dX6_makeChanged_73 : decode cX6_makeChanged 73 = .ok (.aload_n 1, 1) := by decide +kernel
theorem dX6_makeChanged_74 : decode cX6_makeChanged 74 = .ok (.iload_n 3, 1) := by decide +kernel
theorem dX6_makeChanged_75 : decode cX6_makeChanged 75 = .ok (.invokevirtual 35, 3) := by decide +kernel
theorem dX6_makeChanged_78 : decode cX6_makeChanged 78 = .ok (.invokevirtual 62, 3) := by decide +kernel
theorem dX6_makeChanged_81 : decode cX6_makeChanged 81 = .ok (.invokevirtual 38, 3) := by decide +kernel
theorem dX6_makeChanged_84 : decode cX6_makeChanged 84 = .ok (.goto 22, 3) := by decide +kernel
theorem dX6_makeChanged_87 : decode cX6_makeChanged 87 = .ok (.aload_n 0, 1) := by decide +kernel
theorem dX6_makeChanged_88 : decode cX6_makeChanged 88 = .ok (.aload_n 1, 1) := by decide +kernel
theorem dX6_makeChanged_89 : decode cX6_makeChanged 89 = .ok (.aload_n 1, 1) := by decide +kernel
theorem dX6_makeChanged_90 : decode cX6_makeChanged 90 = .ok (.getfield 24, 3) := by decide +kernel
theorem dX6_makeChanged_93 : decode cX6_makeChanged 93 = .ok (.iconst 1, 1) := by decide +kernel
theorem dX6_makeChanged_94 : decode cX6_makeChanged 94 = .ok (.isub, 1) := by decide +kernel
theorem dX6_makeChanged_95 : decode cX6_makeChanged 95 = .ok (.iload_n 3, 1) := by decide +kernel
theorem dX6_makeChanged_96 : decode cX6_makeChanged 96 = .ok (.isub, 1) := by decide +kernel
theorem dX6_makeChanged_97 : decode cX6_makeChanged 97 = .ok (.invokevirtual 35, 3) := by decide +kernel
theorem dX6_makeChanged_100 : decode cX6_makeChanged 100 = .ok (.invokestatic 59, 3) := by decide +kernel
theorem dX6_makeChanged_103 : decode cX6_makeChanged 103 = .ok (.invokevirtual 38, 3) := by decide +kernel
theorem dX6_makeChanged_106 : decode cX6_makeChanged 106 = .ok (.iinc 3 1, 3) := by decide +kernel
theorem dX6_makeChanged_109 : decode cX6_makeChanged 109 = .ok (.goto (-88), 3) := by decide +kernel
theorem dX6_makeChanged_112 : decode cX6_makeChanged 112 = .ok (.return_, 1) := by decide +kernel
theorem dX6_turned_0 : decode cX6_turned 0 = .ok (.aload_n 0, 1) := by decide +kernel
theorem dX6_turned_1 : decode cX6_turned 1 = .ok (.getfield 20, 3) := by decide +kernel
theorem dX6_turned_4 : decode cX6_turned 4 = .ok (.iconst 2, 1) := by decide +kernel
theorem dX6_turned_5 : decode cX6_turned 5 = .ok (.isub, 1) := by decide +kernel
theorem dX6_turned_6 : decode cX6_turned 6 = .ok (.iload_n 1, 1) := by decide +kernel
theorem dX6_turned_7 : decode cX6_turned 7 = .ok (.invokestatic 65, 3) := by decide +kernel
theorem dX6_turned_10 : decode cX6_turned 10 = .ok (.isub, 1) := by decide +kernel
theorem dX6_turned_11 : decode cX6_turned 11 = .ok (.iload_n 1, 1) := by decide +kernel
theorem dX6_turned_12 : decode cX6_turned 12 = .ok (.invokestatic 48, 3) := by decide +kernel
theorem dX6_turned_15 : decode cX6_turned 15 = .ok (.invokestatic 68, 3) := by decide +kernel
theorem dX6_turned_18 : decode cX6_turned 18 = .ok (.ireturn, 1) := by decide +kernel
theorem dX6_makeLoose_0 : decode cX6_makeLoose 0 = .ok (.aload_n 0, 1) := by decide +kernel
theorem dX6_makeLoose_1 : decode cX6_makeLoose 1 = .ok (.aload_n 1, 1) := by decide +kernel
theorem dX6_makeLoose_2 : decode cX6_makeLoose 2 = .ok (.getfield 20, 3) := by decide +kernel
theorem dX6_makeLoose_5 : decode cX6_makeLoose 5 = .ok (.invokevirtual 56, 3) := by decide +kernel
theorem dX6_makeLoose_8 : decode cX6_makeLoose 8 = .ok (.iconst 0, 1) := by decide +kernel
theorem dX6_makeLoose_9 : decode cX6_makeLoose 9 = .ok (.istore_n 2, 1) := by decide +kernel
theorem dX6_makeLoose_10 : decode cX6_makeLoose 10 = .ok (.iload_n 2, 1) := by decide +kernel
theorem dX6_makeLoose_11 : decode cX6_makeLoose 11 = .ok (.aload_n 1, 1) := by decide +kernel
theorem dX6_makeLoose_12 : decode cX6_makeLoose 12 = .ok (.getfield 24, 3) := by decide +kernel
theorem dX6_makeLoose_15 : decode cX6_makeLoose 15 = .ok (.if_icmp .ge 60, 3) := by decide +kernel
theorem dX6_makeLoose_18 : decode cX6_makeLoose 18 = .ok (.aload_n 1, 1) := by decide +kernel
theorem dX6_makeLoose_19 : decode cX6_makeLoose 19 = .ok (.iload_n 2, 1) := by decide +kernel
theorem dX6_makeLoose_20 : decode cX6_makeLoose 20 = .ok (.invokevirtual 35, 3) := by decide +kernel
theorem dX6_makeLoose_23 : decode cX6_makeLoose 23 = .ok (.istore_n 3, 1) := by decide +kernel
theorem dX6_makeLoose_24 : decode cX6_makeLoose 24 = .ok (.aload_n 0, 1) := by decide +kernel
theorem dX6_makeLoose_25 : decode cX6_makeLoose 25 = .ok (.iload_n 3, 1) := by decide +kernel
theorem dX6_makeLoose_26 : decode cX6_makeLoose 26 = .ok (.invokevirtual 72, 3) := by decide +kernel
theorem dX6_makeLoose_29 : decode cX6_makeLoose 29 = .ok (.istore 4, 2) := by decide +kernel
theorem dX6_makeLoose_31 : decode cX6_makeLoose 31 = .ok (.iload 4, 2) := by decide +kernel
theorem dX6_makeLoose_33 : decode cX6_makeLoose 33 = .ok (.ifCond .le 29, 3) := by decide +kernel
theorem dX6_makeLoose_36 : decode cX6_makeLoose 36 = .ok (.aload_n 0, 1) := by decide +kernel
theorem dX6_makeLoose_37 : decode cX6_makeLoose 37 = .ok (.iload 4, 2) := by decide +kernel
theorem dX6_makeLoose_39 : decode cX6_makeLoose 39 = .ok (.iconst 1, 1) := by decide +kernel
theorem dX6_makeLoose_40 : decode cX6_makeLoose 40 = .ok (.isub, 1) := by decide +kernel
theorem dX6_makeLoose_41 : decode cX6_makeLoose 41 = .ok (.invokevirtual 35, 3) := by decide +kernel
theorem dX6_makeLoose_44 : decode cX6_makeLoose 44 = .ok (.iload_n 3, 1) := by decide +kernel
theorem dX6_makeLoose_45 : decode cX6_makeLoose 45 = .ok (.invokestatic 59, 3) := by decide +kernel
theorem dX6_makeLoose_48 : decode cX6_makeLoose 48 = .ok (.if_icmp .ne 14, 3) := by decide +kernel
theorem dX6_makeLoose_51 : decode cX6_makeLoose 51 = .ok (.aload_n 0, 1) := by decide +kernel
theorem dX6_makeLoose_52 : decode cX6_makeLoose 52 = .ok (.iload 4, 2) := by decide +kernel
theorem dX6_makeLoose_54 : decode cX6_makeLoose 54 = .ok (.iconst 1, 1) := by decide +kernel
theorem dX6_makeLoose_55 : decode cX6_makeLoose 55 = .ok (.isub, 1) := by decide +kernel
theorem dX6_makeLoose_56 : decode cX6_makeLoose 56 = .ok (.invokevirtual 75, 3) := by decide +kernel
theorem dX6_makeLoose_59 : decode cX6_makeLoose 59 = .ok (.goto 10, 3) := by decide +kernel
theorem dX6_makeLoose_62 : decode cX6_makeLoose 62 = .ok (.aload_n 0, 1) := by decide +kernel
theorem dX6_makeLoose_63 : decode cX6_makeLoose 63 = .ok (.iload 4, 2) := by decide +kernel
theorem dX6_makeLoose_65 : decode cX6_makeLoose 65 = .ok (.iload_n 3, 1) := by decide +kernel
theorem dX6_makeLoose_66 : decode cX6_makeLoose 66 = .ok (.invokevirtual 31, 3) := by decide +kernel
theorem dX6_makeLoose_69 : decode cX6_makeLoose 69 = .ok (.iinc 2 1, 3) := by decide +kernel
theorem dX6_makeLoose_72 : decode cX6_makeLoose 72 = .ok (.goto (-62), 3) := by decide +kernel
theorem dX6_makeLoose_75 : decode cX6_makeLoose 75 = .ok (.return_, 1) := by decide +kernel
theorem dX6_looseIndexOf_0 : decode cX6_looseIndexOf 0 = .ok (.aload_n 0, 1) := by decide +kernel
theorem dX6_looseIndexOf_1 : decode cX6_looseIndexOf 1 = .ok (.getfield 24, 3) := by decide +kernel
theorem dX6_looseIndexOf_4 : decode cX6_looseIndexOf 4 = .ok (.istore_n 2, 1) := by decide +kernel
theorem dX6_looseIndexOf_5 : decode cX6_looseIndexOf 5 = .ok (.aload_n 0, 1) := by decide +kernel
theorem dX6_looseIndexOf_6 : decode cX6_looseIndexOf 6 = .ok (.getfield 24, 3) := by decide +kernel
theorem dX6_looseIndexOf_9 : decode cX6_looseIndexOf 9 = .ok (.iconst 1, 1) := by decide +kernel
theorem dX6_looseIndexOf_10 : decode cX6_looseIndexOf 10 = .ok (.isub, 1) := by decide +kernel
theorem dX6_looseIndexOf_11 : decode cX6_looseIndexOf 11 = .ok (.istore_n 3, 1) := by decide +kernel
theorem dX6_looseIndexOf_12 : decode cX6_looseIndexOf 12 = .ok (.iload_n 3, 1) := by decide +kernel
theorem dX6_looseIndexOf_13 : decode cX6_looseIndexOf 13 = .ok (.ifCond .lt 31, 3) := by decide +kernel
theorem dX6_looseIndexOf_16 : decode cX6_looseIndexOf 16 = .ok (.aload_n 0, 1) := by decide +kernel
theorem dX6_looseIndexOf_17 : decode cX6_looseIndexOf 17 = .ok (.getfield 14, 3) := by decide +kernel
theorem dX6_looseIndexOf_20 : decode cX6_looseIndexOf 20 = .ok (.iload_n 3, 1) := by decide +kernel
theorem dX6_looseIndexOf_21 : decode cX6_looseIndexOf 21 = .ok (.invokevirtual 27, 3) := by decide +kernel
theorem dX6_looseIndexOf_24 : decode cX6_looseIndexOf 24 = .ok (.invokestatic 65, 3) := by decide +kernel
theorem dX6_looseIndexOf_27 : decode cX6_looseIndexOf 27 = .ok (.iload_n 1, 1) := by decide +kernel
theorem dX6_looseIndexOf_28 : decode cX6_looseIndexOf 28 = .ok (.invokestatic 65, 3) := by decide +kernel
theorem dX6_looseIndexOf_31 : decode cX6_looseIndexOf 31 = .ok (.isub, 1) := by decide +kernel
theorem dX6_looseIndexOf_32 : decode cX6_looseIndexOf 32 = .ok (.iconst 2, 1) := by decide +kernel
theorem dX6_looseIndexOf_33 : decode cX6_looseIndexOf 33 = .ok (.if_icmp .lt 11, 3) := by decide +kernel
theorem dX6_looseIndexOf_36 : decode cX6_looseIndexOf 36 = .ok (.iload_n 3, 1) := by decide +kernel
theorem dX6_looseIndexOf_37 : decode cX6_looseIndexOf 37 = .ok (.istore_n 2, 1) := by decide +kernel
theorem dX6_looseIndexOf_38 : decode cX6_looseIndexOf 38 = .ok (.iinc 3 (-1), 3) := by decide +kernel
theorem dX6_looseIndexOf_41 : decode cX6_looseIndexOf 41 = .ok (.goto (-29), 3) := by decide +kernel
theorem dX6_looseIndexOf_44 : decode cX6_looseIndexOf 44 = .ok (.iload_n 2, 1) := by decide +kernel
theorem dX6_looseIndexOf_45 : decode cX6_looseIndexOf 45 = .ok (.ireturn, 1) := by decide +kernel
theorem dX6_makeShortAtOnce_0 : decode cX6_makeShortAtOnce 0 = .ok (.aload_n 0, 1) := by decide +kernel
theorem dX6_makeShortAtOnce_1 : decode cX6_makeShortAtOnce 1 = .ok (.aload_n 1, 1) := by decide +kernel
theorem dX6_makeShortAtOnce_2 : decode cX6_makeShortAtOnce 2 = .ok (.getfield 20, 3) := by decide +kernel
theorem dX6_makeShortAtOnce_5 : decode cX6_makeShortAtOnce 5 = .ok (.invokevirtual 56, 3) := by decide +kernel
theorem dX6_makeShortAtOnce_8 : decode cX6_makeShortAtOnce 8 = .ok (.iconst 0, 1) := by decide +kernel
theorem dX6_makeShortAtOnce_9 : decode cX6_makeShortAtOnce 9 = .ok (.istore_n 2, 1) := by decide +kernel
theorem dX6_makeShortAtOnce_10 : decode cX6_makeShortAtOnce 10 = .ok (.iload_n 2, 1) := by decide +kernel
theorem dX6_makeShortAtOnce_11 : decode cX6_makeShortAtOnce 11 = .ok (.aload_n 1, 1) := by decide +kernel
theorem dX6_makeShortAtOnce_12 : decode cX6_makeShortAtOnce 12 = .ok (.getfield 24, 3) := by decide +kernel
theorem dX6_makeShortAtOnce_15 : decode cX6_makeShortAtOnce 15 = .ok (.if_icmp .ge 59, 3) := by decide +kernel
theorem dX6_makeShortAtOnce_18 : decode cX6_makeShortAtOnce 18 = .ok (.aload_n 0, 1) := by decide +kernel
theorem dX6_makeShortAtOnce_19 : decode cX6_makeShortAtOnce 19 = .ok (.getfield 24, 3) := by decide +kernel
theorem dX6_makeShortAtOnce_22 : decode cX6_makeShortAtOnce 22 = .ok (.ifCond .le 37, 3) := by decide +kernel
theorem dX6_makeShortAtOnce_25 : decode cX6_makeShortAtOnce 25 = .ok (.aload_n 0, 1) := by decide +kernel
theorem dX6_makeShortAtOnce_26 : decode cX6_makeShortAtOnce 26 = .ok (.aload_n 0, 1) := by decide +kernel
theorem dX6_makeShortAtOnce_27 : decode cX6_makeShortAtOnce 27 = .ok (.getfield 24, 3) := by decide +kernel
theorem dX6_makeShortAtOnce_30 : decode cX6_makeShortAtOnce 30 = .ok (.iconst 1, 1) := by decide +kernel
theorem dX6_makeShortAtOnce_31 : decode cX6_makeShortAtOnce 31 = .ok (.isub, 1) := by decide +kernel
theorem dX6_makeShortAtOnce_32 : decode cX6_makeShortAtOnce 32 = .ok (.invokevirtual 35, 3) := by decide +kernel
theorem dX6_makeShortAtOnce_35 : decode cX6_makeShortAtOnce 35 = .ok (.aload_n 1, 1) := by decide +kernel
theorem dX6_makeShortAtOnce_36 : decode cX6_makeShortAtOnce 36 = .ok (.iload_n 2, 1) := by decide +kernel
theorem dX6_makeShortAtOnce_37 : decode cX6_makeShortAtOnce 37 = .ok (.invokevirtual 35, 3) := by decide +kernel
theorem dX6_makeShortAtOnce_40 : decode cX6_makeShortAtOnce 40 = .ok (.invokestatic 59, 3) := by decide +kernel
theorem dX6_makeShortAtOnce_43 : decode cX6_makeShortAtOnce 43 = .ok (.if_icmp .ne 16, 3) := by decide +kernel
theorem dX6_makeShortAtOnce_46 : decode cX6_makeShortAtOnce 46 = .ok (.aload_n 0, 1) := by decide +kernel
theorem dX6_makeShortAtOnce_47 : decode cX6_makeShortAtOnce 47 = .ok (.aload_n 0, 1) := by decide +kernel
theorem dX6_makeShortAtOnce_48 : decode cX6_makeShortAtOnce 48 = .ok (.getfield 24, 3) := by decide +kernel
theorem dX6_makeShortAtOnce_51 : decode cX6_makeShortAtOnce 51 = .ok (.iconst 1, 1) := by decide +kernel
theorem dX6_makeShortAtOnce_52 : decode cX6_makeShortAtOnce 52 = .ok (.isub, 1) := by decide +kernel
theorem dX6_makeShortAtOnce_53 : decode cX6_makeShortAtOnce 53 = .ok (.invokevirtual 75, 3) := by decide +kernel
theorem dX6_makeShortAtOnce_56 : decode cX6_makeShortAtOnce 56 = .ok (.goto 12, 3) := by decide +kernel
theorem dX6_makeShortAtOnce_59 : decode cX6_makeShortAtOnce 59 = .ok (.aload_n 0, 1) := by decide +kernel
theorem dX6_makeShortAtOnce_60 : decode cX6_makeShortAtOnce 60 = .ok (.aload_n 1, 1) := by decide +kernel
theorem dX6_makeShortAtOnce_61 : decode cX6_makeShortAtOnce 61 = .ok (.iload_n 2, 1) := by decide +kernel
theorem dX6_makeShortAtOnce_62 : decode cX6_makeShortAtOnce 62 = .ok (.invokevirtual 35, 3) := by decide +kernel
theorem dX6_makeShortAtOnce_65 : decode cX6_makeShortAtOnce 65 = .ok (.invokevirtual 38, 3) := by decide +kernel
theorem dX6_makeShortAtOnce_68 : decode cX6_makeShortAtOnce 68 = .ok (.iinc 2 1, 3) := by decide +kernel
theorem dX6_makeShortAtOnce_71 : decode cX6_makeShortAtOnce 71 = .ok (.goto (-61), 3) := by decide +kernel
theorem dX6_makeShortAtOnce_74 : decode cX6_makeShortAtOnce 74 = .ok (.return_, 1) := by decide +kernel
theorem dX6_makeShortByLooking_0 : decode cX6_makeShortByLooking 0 = .ok (.aload_n 0, 1) := by decide +kernel
theorem dX6_makeShortByLooking_1 : decode cX6_makeShortByLooking 1 = .ok (.aload_n 1, 1) := by decide +kernel
theorem dX6_makeShortByLooking_2 : decode cX6_makeShortByLooking 2 = .ok (.invokevirtual 78, 3) := by decide +kernel
theorem dX6_makeShortByLooking_5 : decode cX6_makeShortByLooking 5 = .ok (.aload_n 0, 1) := by decide +kernel
theorem dX6_makeShortByLooking_6 : decode cX6_makeShortByLooking 6 = .ok (.invokevirtual 80, 3) := by decide +kernel
theorem dX6_makeShortByLooking_9 : decode cX6_makeShortByLooking 9 = .ok (.istore_n 2, 1) := by decide +kernel
theorem dX6_makeShortByLooking_10 : decode cX6_makeShortByLooking 10 = .ok (.iconst 0, 1) := by decide +kernel
theorem dX6_makeShortByLooking_11 : decode cX6_makeShortByLooking 11 = .ok (.istore_n 3, 1) := by decide +kernel
theorem dX6_makeShortByLooking_12 : decode cX6_makeShortByLooking 12 = .ok (.iload_n 3, 1) := by decide +kernel
theorem dX6_makeShortByLooking_13 : decode cX6_makeShortByLooking 13 = .ok (.bipush 24, 2) := by decide +kernel
theorem dX6_makeShortByLooking_15 : decode cX6_makeShortByLooking 15 = .ok (.if_icmp .ge 31, 3) := by decide +kernel
theorem dX6_makeShortByLooking_18 : decode cX6_makeShortByLooking 18 = .ok (.iload_n 2, 1) := by decide +kernel
theorem dX6_makeShortByLooking_19 : decode cX6_makeShortByLooking 19 = .ok (.iconst (-1), 1) := by decide +kernel
theorem dX6_makeShortByLooking_20 : decode cX6_makeShortByLooking 20 = .ok (.if_icmp .eq 26, 3) := by decide +kernel
theorem dX6_makeShortByLooking_23 : decode cX6_makeShortByLooking 23 = .ok (.aload_n 0, 1) := by decide +kernel
theorem dX6_makeShortByLooking_24 : decode cX6_makeShortByLooking 24 = .ok (.iload_n 2, 1) := by decide +kernel
theorem dX6_makeShortByLooking_25 : decode cX6_makeShortByLooking 25 = .ok (.iconst 1, 1) := by decide +kernel
theorem dX6_makeShortByLooking_26 : decode cX6_makeShortByLooking 26 = .ok (.iadd, 1) := by decide +kernel
theorem dX6_makeShortByLooking_27 : decode cX6_makeShortByLooking 27 = .ok (.invokevirtual 75, 3) := by decide +kernel
theorem dX6_makeShortByLooking_30 : decode cX6_makeShortByLooking 30 = .ok (.aload_n 0, 1) := by decide +kernel
theorem dX6_makeShortByLooking_31 : decode cX6_makeShortByLooking 31 = .ok (.iload_n 2, 1) := by decide +kernel
theorem dX6_makeShortByLooking_32 : decode cX6_makeShortByLooking 32 = .ok (.invokevirtual 75, 3) := by decide +kernel
theorem dX6_makeShortByLooking_35 : decode cX6_makeShortByLooking 35 = .ok (.aload_n 0, 1) := by decide +kernel
theorem dX6_makeShortByLooking_36 : decode cX6_makeShortByLooking 36 = .ok (.invokevirtual 80, 3) := by decide +kernel
theorem dX6_makeShortByLooking_39 : decode cX6_makeShortByLooking 39 = .ok (.istore_n 2, 1) := by decide +kernel
theorem dX6_makeShortByLooking_40 : decode cX6_makeShortByLooking 40 = .ok (.iinc 3 1, 3) := by decide +kernel
theorem dX6_makeShortByLooking_43 : decode cX6_makeShortByLooking 43 = .ok (.goto (-31), 3) := by decide +kernel
theorem dX6_makeShortByLooking_46 : decode cX6_makeShortByLooking 46 = .ok (.return_, 1) := by decide +kernel
theorem dX6_firstPair_0 : decode cX6_firstPair 0 = .ok (.iconst 0, 1) := by decide +kernel
theorem dX6_firstPair_1 : decode cX6_firstPair 1 = .ok (.istore_n 1, 1) := by decide +kernel
theorem dX6_firstPair_2 : decode cX6_firstPair 2 = .ok (.iload_n 1, 1) := by decide +kernel
theorem dX6_firstPair_3 : decode cX6_firstPair 3 = .ok (.aload_n 0, 1) := by decide +kernel
theorem dX6_firstPair_4 : decode cX6_firstPair 4 = .ok (.getfield 24, 3) := by decide +kernel
theorem dX6_firstPair_7 : decode cX6_firstPair 7 = .ok (.iconst 1, 1) := by decide +kernel
theorem dX6_firstPair_8 : decode cX6_firstPair 8 = .ok (.isub, 1) := by decide +kernel
theorem dX6_firstPair_9 : decode cX6_firstPair 9 = .ok (.if_icmp .ge 29, 3) := by decide +kernel
theorem dX6_firstPair_12 : decode cX6_firstPair 12 = .ok (.aload_n 0, 1) := by decide +kernel
theorem dX6_firstPair_13 : decode cX6_firstPair 13 = .ok (.iload_n 1, 1) := by decide +kernel
theorem dX6_firstPair_14 : decode cX6_firstPair 14 = .ok (.iconst 1, 1) := by decide +kernel
theorem dX6_firstPair_15 : decode cX6_firstPair 15 = .ok (.iadd, 1) := by decide +kernel
theorem dX6_firstPair_16 : decode cX6_firstPair 16 = .ok (.invokevirtual 35, 3) := by decide +kernel
theorem dX6_firstPair_19 : decode cX6_firstPair 19 = .ok (.aload_n 0, 1) := by decide +kernel
theorem dX6_firstPair_20 : decode cX6_firstPair 20 = .ok (.iload_n 1, 1) := by decide +kernel
theorem dX6_firstPair_21 : decode cX6_firstPair 21 = .ok (.invokevirtual 35, 3) := by decide +kernel
theorem dX6_firstPair_24 : decode cX6_firstPair 24 = .ok (.invokestatic 59, 3) := by decide +kernel
theorem dX6_firstPair_27 : decode cX6_firstPair 27 = .ok (.if_icmp .ne 5, 3) := by decide +kernel
theorem dX6_firstPair_30 : decode cX6_firstPair 30 = .ok (.iload_n 1, 1) := by decide +kernel
theorem dX6_firstPair_31 : decode cX6_firstPair 31 = .ok (.ireturn, 1) := by decide +kernel
theorem dX6_firstPair_32 : decode cX6_firstPair 32 = .ok (.iinc 1 1, 3) := by decide +kernel
theorem dX6_firstPair_35 : decode cX6_firstPair 35 = .ok (.goto (-33), 3) := by decide +kernel
theorem dX6_firstPair_38 : decode cX6_firstPair 38 = .ok (.iconst (-1), 1) := by decide +kernel
theorem dX6_firstPair_39 : decode cX6_firstPair 39 = .ok (.ireturn, 1) := by decide +kernel
theorem dX7_init_0 : decode cX7_init 0 = .ok (.aload_n 0, 1) := by decide +kernel
theorem dX7_init_1 : decode cX7_init 1 = .ok (.invokespecial 1, 3) := by decide +kernel
theorem dX7_init_4 : decode cX7_init 4 = .ok (.aload_n 0, 1) := by decide +kernel
theorem dX7_init_5 : decode cX7_init 5 = .ok (.new 7, 3) := by decide +kernel
theorem dX7_init_8 : decode cX7_init 8 = .ok (.dup, 1) := by decide +kernel
theorem dX7_init_9 : decode cX7_init 9 = .ok (.invokespecial 9, 3) := by decide +kernel
theorem dX7_init_12 : decode cX7_init 12 = .ok (.putfield 10, 3) := by decide +kernel
theorem dX7_init_15 : decode cX7_init 15 = .ok (.aload_n 0, 1) := by decide +kernel
theorem dX7_init_16 : decode cX7_init 16 = .ok (.new 16, 3) := by decide +kernel
theorem dX7_init_19 : decode cX7_init 19 = .ok (.dup, 1) := by decide +kernel
theorem dX7_init_20 : decode cX7_init 20 = .ok (.invokespecial 18, 3) := by decide +kernel
theorem dX7_init_23 : decode cX7_init 23 = .ok (.putfield 19, 3) := by decide +kernel
theorem dX7_init_26 : decode cX7_init 26 = .ok (.aload_n 0, 1) := by decide +kernel
theorem dX7_init_27 : decode cX7_init 27 = .ok (.new 23, 3) := by decide +kernel
theorem dX7_init_30 : decode cX7_init 30 = .ok (.dup, 1) := by decide +kernel
theorem dX7_init_31 : decode cX7_init 31 = .ok (.invokespecial 25, 3) := by decide +kernel
theorem dX7_init_34 : decode cX7_init 34 = .ok (.putfield 26, 3) := by decide +kernel
theorem dX7_init_37 : decode cX7_init 37 = .ok (.aload_n 0, 1) := by decide +kernel
theorem dX7_init_38 : decode cX7_init 38 = .ok (.new 16, 3) := by decide +kernel
theorem dX7_init_41 : decode cX7_init 41 = .ok (.dup, 1) := by decide +kernel
theorem dX7_init_42 : decode cX7_init 42 = .ok (.invokespecial 18, 3) := by decide +kernel
theorem dX7_init_45 : decode cX7_init 45 = .ok (.putfield 30, 3) := by decide +kernel
theorem dX7_init_48 : decode cX7_init 48 = .ok (.aload_n 0, 1) := by decide +kernel
theorem dX7_init_49 : decode cX7_init 49 = .ok (.iconst 0, 1) := by decide +kernel
theorem dX7_init_50 : decode cX7_init 50 = .ok (.putfield 33, 3) := by decide +kernel
theorem dX7_init_53 : decode cX7_init 53 = .ok (.aload_n 0, 1) := by decide +kernel
theorem dX7_init_54 : decode cX7_init 54 = .ok (.new 37, 3) := by decide +kernel
theorem dX7_init_57 : decode cX7_init 57 = .ok (.dup, 1) := by decide +kernel
theorem dX7_init_58 : decode cX7_init 58 = .ok (.invokespecial 39, 3) := by decide +kernel
theorem dX7_init_61 : decode cX7_init 61 = .ok (.putfield 40, 3) := by decide +kernel
theorem dX7_init_64 : decode cX7_init 64 = .ok (.aload_n 0, 1) := by decide +kernel
theorem dX7_init_65 : decode cX7_init 65 = .ok (.new 44, 3) := by decide +kernel
theorem dX7_init_68 : decode cX7_init 68 = .ok (.dup, 1) := by decide +kernel
theorem dX7_init_69 : decode cX7_init 69 = .ok (.invokespecial 46, 3) := by decide +kernel
theorem dX7_init_72 : decode cX7_init 72 = .ok (.putfield 47, 3) := by decide +kernel
theorem dX7_init_75 : decode cX7_init 75 = .ok (.aload_n 0, 1) := by decide +kernel
theorem dX7_init_76 : decode cX7_init 76 = .ok (.new 44, 3) := by decide +kernel
theorem dX7_init_79 : decode cX7_init 79 = .ok (.dup, 1) := by decide +kernel
theorem dX7_init_80 : decode cX7_init 80 = .ok (.invokespecial 46, 3) := by decide +kernel
theorem dX7_init_83 : decode cX7_init 83 = .ok (.putfield 51, 3) := by decide +kernel
theorem dX7_init_86 : decode cX7_init 86 = .ok (.return_, 1) := by decide +kernel
theorem dX7_lay_0 : decode cX7_lay 0 = .ok (.aload_n 0, 1) := by decide +kernel
theorem dX7_lay_1 : decode cX7_lay 1 = .ok (.getfield 10, 3) := by decide +kernel
theorem dX7_lay_4 : decode cX7_lay 4 = .ok (.invokevirtual 54, 3) := by decide +kernel
theorem dX7_lay_7 : decode cX7_lay 7 = .ok (.ifCond .ne 13, 3) := by decide +kernel
theorem dX7_lay_10 : decode cX7_lay 10 = .ok (.new 58, 3) := by decide +kernel
theorem dX7_lay_13 : decode cX7_lay 13 = .ok (.dup, 1) := by decide +kernel
theorem dX7_lay_14 : decode cX7_lay 14 = .ok (.ldc 60, 2) := by decide +kernel
theorem dX7_lay_16 : decode cX7_lay 16 = .ok (.invokespecial 62, 3) := by decide +kernel
theorem dX7_lay_19 : decode cX7_lay 19 = .ok (.athrow, 1) := by decide +kernel
theorem dX7_lay_20 : decode cX7_lay 20 = .ok (.aload_n 0, 1) := by decide +kernel
theorem dX7_lay_21 : decode cX7_lay 21 = .ok (.getfield 19, 3) := by decide +kernel
theorem dX7_lay_24 : decode cX7_lay 24 = .ok (.invokevirtual 65, 3) := by decide +kernel
theorem dX7_lay_27 : decode cX7_lay 27 = .ok (.bipush 6, 2) := by decide +kernel
theorem dX7_lay_29 : decode cX7_lay 29 = .ok (.if_icmp .lt 13, 3) := by decide +kernel
theorem dX7_lay_32 : decode cX7_lay 32 = .ok (.new 69, 3) := by decide +kernel
theorem dX7_lay_35 : decode cX7_lay 35 = .ok (.dup, 1) := by decide +kernel
theorem dX7_lay_36 : decode cX7_lay 36 = .ok (.ldc 71, 2) := by decide +kernel
theorem dX7_lay_38 : decode cX7_lay 38 = .ok (.invokespecial 73, 3) := by decide +kernel
theorem dX7_lay_41 : decode cX7_lay 41 = .ok (.athrow, 1) := by decide +kernel
theorem dX7_lay_42 : decode cX7_lay 42 = .ok (.aload_n 0, 1) := by decide +kernel
theorem dX7_lay_43 : decode cX7_lay 43 = .ok (.getfield 10, 3) := by decide +kernel
theorem dX7_lay_46 : decode cX7_lay 46 = .ok (.aload_n 0, 1) := by decide +kernel
theorem dX7_lay_47 : decode cX7_lay 47 = .ok (.getfield 40, 3) := by decide +kernel
theorem dX7_lay_50 : decode cX7_lay 50 = .ok (.invokevirtual 74, 3) := by decide +kernel
theorem dX7_lay_53 : decode cX7_lay 53 = .ok (.invokevirtual 78, 3) := by decide +kernel
theorem dX7_lay_56 : decode cX7_lay 56 = .ok (.aload_n 0, 1) := by decide +kernel
theorem dX7_lay_57 : decode cX7_lay 57 = .ok (.getfield 40, 3) := by decide +kernel
theorem dX7_lay_60 : decode cX7_lay 60 = .ok (.invokevirtual 82, 3) := by decide +kernel
theorem dX7_lay_63 : decode cX7_lay 63 = .ok (.ifCond .eq 13, 3) := by decide +kernel
theorem dX7_lay_66 : decode cX7_lay 66 = .ok (.new 69, 3) := by decide +kernel
theorem dX7_lay_69 : decode cX7_lay 69 = .ok (.dup, 1) := by decide +kernel
theorem dX7_lay_70 : decode cX7_lay 70 = .ok (.ldc 85, 2) := by decide +kernel
theorem dX7_lay_72 : decode cX7_lay 72 = .ok (.invokespecial 73, 3) := by decide +kernel
theorem dX7_lay_75 : decode cX7_lay 75 = .ok (.athrow, 1) := by decide +kernel
theorem dX7_lay_76 : decode cX7_lay 76 = .ok (.aload_n 0, 1) := by decide +kernel
theorem dX7_lay_77 : decode cX7_lay 77 = .ok (.getfield 26, 3) := by decide +kernel
theorem dX7_lay_80 : decode cX7_lay 80 = .ok (.aload_n 0, 1) := by decide +kernel
theorem dX7_lay_81 : decode cX7_lay 81 = .ok (.getfield 19, 3) := by decide +kernel
theorem dX7_lay_84 : decode cX7_lay 84 = .ok (.invokevirtual 87, 3) := by decide +kernel
theorem dX7_lay_87 : decode cX7_lay 87 = .ok (.aload_n 0, 1) := by decide +kernel
theorem dX7_lay_88 : decode cX7_lay 88 = .ok (.getfield 19, 3) := by decide +kernel
theorem dX7_lay_91 : decode cX7_lay 91 = .ok (.aload_n 0, 1) := by decide +kernel
theorem dX7_lay_92 : decode cX7_lay 92 = .ok (.getfield 40, 3) := by decide +kernel
theorem dX7_lay_95 : decode cX7_lay 95 = .ok (.invokevirtual 91, 3) := by decide +kernel
theorem dX7_lay_98 : decode cX7_lay 98 = .ok (.aload_n 0, 1) := by decide +kernel
theorem dX7_lay_99 : decode cX7_lay 99 = .ok (.getfield 10, 3) := by decide +kernel
theorem dX7_lay_102 : decode cX7_lay 102 = .ok (.invokevirtual 95, 3) := by decide +kernel
theorem dX7_lay_105 : decode cX7_lay 105 = .ok (.aload_n 0, 1) := by decide +kernel
theorem dX7_lay_106 : decode cX7_lay 106 = .ok (.getfield 19, 3) := by decide +kernel
theorem dX7_lay_109 : decode cX7_lay 109 = .ok (.invokevirtual 65, 3) := by decide +kernel
theorem dX7_lay_112 : decode cX7_lay 112 = .ok (.iconst 1, 1) := by decide +kernel
theorem dX7_lay_113 : decode cX7_lay 113 = .ok (.isub, 1) := by decide +kernel
theorem dX7_lay_114 : decode cX7_lay 114 = .ok (.ireturn, 1) := by decide +kernel
theorem dX7_cross_0 : decode cX7_cross 0 = .ok (.aload_n 0, 1) := by decide +kernel
theorem dX7_cross_1 : decode cX7_cross 1 = .ok (.iload_n 1, 1) := by decide +kernel
theorem dX7_cross_2 : decode cX7_cross 2 = .ok (.iload_n 2, 1) := by decide +kernel
theorem dX7_cross_3 : decode cX7_cross 3 = .ok (.invokevirtual 110, 3) := by decide +kernel
theorem dX7_cross_6 : decode cX7_cross 6 = .ok (.aload_n 0, 1) := by decide +kernel
theorem dX7_cross_7 : decode cX7_cross 7 = .ok (.iload_n 1, 1) := by decide +kernel
theorem dX7_cross_8 : decode cX7_cross 8 = .ok (.iload_n 2, 1) := by decide +kernel
theorem dX7_cross_9 : decode cX7_cross 9 = .ok (.iload_n 3, 1) := by decide +kernel
theorem dX7_cross_10 : decode cX7_cross 10 = .ok (.invokevirtual 114, 3) := by decide +kernel
theorem dX7_cross_13 : decode cX7_cross 13 = .ok (.invokestatic 118, 3) := by decide +kernel
theorem dX7_cross_16 : decode cX7_cross 16 = .ok (.aload_n 0, 1) := by decide +kernel
theorem dX7_cross_17 : decode cX7_cross 17 = .ok (.getfield 26, 3) := by decide +kernel
theorem dX7_cross_20 : decode cX7_cross 20 = .ok (.aload_n 0, 1) := by decide +kernel
theorem dX7_cross_21 : decode cX7_cross 21 = .ok (.getfield 19, 3) := by decide +kernel
theorem dX7_cross_24 : decode cX7_cross 24 = .ok (.invokevirtual 87, 3) := by decide +kernel
theorem dX7_cross_27 : decode cX7_cross 27 = .ok (.aload_n 0, 1) := by decide +kernel
theorem dX7_cross_28 : decode cX7_cross 28 = .ok (.getfield 19, 3) := by decide +kernel
theorem dX7_cross_31 : decode cX7_cross 31 = .ok (.iload_n 1, 1) := by decide +kernel
theorem dX7_cross_32 : decode cX7_cross 32 = .ok (.invokevirtual 102, 3) := by decide +kernel
theorem dX7_cross_35 : decode cX7_cross 35 = .ok (.aload_n 0, 1) := by decide +kernel
theorem dX7_cross_36 : decode cX7_cross 36 = .ok (.getfield 40, 3) := by decide +kernel
theorem dX7_cross_39 : decode cX7_cross 39 = .ok (.invokevirtual 121, 3) := by decide +kernel
theorem dX7_cross_42 : decode cX7_cross 42 = .ok (.aload_n 0, 1) := by decide +kernel
theorem dX7_cross_43 : decode cX7_cross 43 = .ok (.getfield 40, 3) := by decide +kernel
theorem dX7_cross_46 : decode cX7_cross 46 = .ok (.invokevirtual 124, 3) := by decide +kernel
theorem dX7_cross_49 : decode cX7_cross 49 = .ok (.aload_n 0, 1) := by decide +kernel
theorem dX7_cross_50 : decode cX7_cross 50 = .ok (.getfield 40, 3) := by decide +kernel
theorem dX7_cross_53 : decode cX7_cross 53 = .ok (.invokevirtual 74, 3) := by decide +kernel
theorem dX7_cross_56 : decode cX7_cross 56 = .ok (.invokevirtual 106, 3) := by decide +kernel
theorem dX7_cross_59 : decode cX7_cross 59 = .ok (.iconst 1, 1) := by decide +kernel
theorem dX7_cross_60 : decode cX7_cross 60 = .ok (.isub, 1) := by decide +kernel
theorem dX7_cross_61 : decode cX7_cross 61 = .ok (.invokevirtual 128, 3) := by decide +kernel
theorem dX7_cross_64 : decode cX7_cross 64 = .ok (.ireturn, 1) := by decide +kernel
theorem dX7_back_0 : decode cX7_back 0 = .ok (.aload_n 0, 1) := by decide +kernel
theorem dX7_back_1 : decode cX7_back 1 = .ok (.iload_n 1, 1) := by decide +kernel
theorem dX7_back_2 : decode cX7_back 2 = .ok (.invokevirtual 98, 3) := by decide +kernel
theorem dX7_back_5 : decode cX7_back 5 = .ok (.aload_n 0, 1) := by decide +kernel
theorem dX7_back_6 : decode cX7_back 6 = .ok (.iload_n 1, 1) := by decide +kernel
theorem dX7_back_7 : decode cX7_back 7 = .ok (.invokevirtual 134, 3) := by decide +kernel
theorem dX7_back_10 : decode cX7_back 10 = .ok (.invokestatic 118, 3) := by decide +kernel
theorem dX7_back_13 : decode cX7_back 13 = .ok (.aload_n 0, 1) := by decide +kernel
theorem dX7_back_14 : decode cX7_back 14 = .ok (.getfield 26, 3) := by decide +kernel
theorem dX7_back_17 : decode cX7_back 17 = .ok (.aload_n 0, 1) := by decide +kernel
theorem dX7_back_18 : decode cX7_back 18 = .ok (.getfield 19, 3) := by decide +kernel
theorem dX7_back_21 : decode cX7_back 21 = .ok (.invokevirtual 87, 3) := by decide +kernel
theorem dX7_back_24 : decode cX7_back 24 = .ok (.aload_n 0, 1) := by decide +kernel
theorem dX7_back_25 : decode cX7_back 25 = .ok (.getfield 19, 3) := by decide +kernel
theorem dX7_back_28 : decode cX7_back 28 = .ok (.iload_n 1, 1) := by decide +kernel
theorem dX7_back_29 : decode cX7_back 29 = .ok (.invokevirtual 102, 3) := by decide +kernel
theorem dX7_back_32 : decode cX7_back 32 = .ok (.aload_n 0, 1) := by decide +kernel
theorem dX7_back_33 : decode cX7_back 33 = .ok (.getfield 40, 3) := by decide +kernel
theorem dX7_back_36 : decode cX7_back 36 = .ok (.invokevirtual 121, 3) := by decide +kernel
theorem dX7_back_39 : decode cX7_back 39 = .ok (.aload_n 0, 1) := by decide +kernel
theorem dX7_back_40 : decode cX7_back 40 = .ok (.getfield 40, 3) := by decide +kernel
theorem dX7_back_43 : decode cX7_back 43 = .ok (.invokevirtual 74, 3) := by decide +kernel
theorem dX7_back_46 : decode cX7_back 46 = .ok (.invokevirtual 106, 3) := by decide +kernel
theorem dX7_back_49 : decode cX7_back 49 = .ok (.ireturn, 1) := by decide +kernel
theorem dX7_append_0 : decode cX7_append 0 = .ok (.iload_n 1, 1) := by decide +kernel
theorem dX7_append_1 : decode cX7_append 1 = .ok (.bipush 33, 2) := by decide +kernel
theorem dX7_append_3 : decode cX7_append 3 = .ok (.if_icmp .lt 9, 3) := by decide +kernel
theorem dX7_append_6 : decode cX7_append 6 = .ok (.iload_n 1, 1) := by decide +kernel
theorem dX7_append_7 : decode cX7_append 7 = .ok (.bipush 126, 2) := by decide +kernel
theorem dX7_append_9 : decode cX7_append 9 = .ok (.if_icmp .le 13, 3) := by decide +kernel
theorem dX7_append_12 : decode cX7_append 12 = .ok (.new 58, 3) := by decide +kernel
theorem dX7_append_15 : decode cX7_append 15 = .ok (.dup, 1) := by decide +kernel
theorem dX7_append_16 : decode cX7_append 16 = .ok (.ldc 150, 2) := by decide +kernel
theorem dX7_append_18 : decode cX7_append 18 = .ok (.invokespecial 62, 3) := by decide +kernel
theorem dX7_append_21 : decode cX7_append 21 = .ok (.athrow, 1) := by decide +kernel
theorem dX7_append_22 : decode cX7_append 22 = .ok (.aload_n 0, 1) := by decide +kernel
theorem dX7_append_23 : decode cX7_append 23 = .ok (.getfield 10, 3) := by decide +kernel
theorem dX7_append_26 : decode cX7_append 26 = .ok (.invokevirtual 152, 3) := by decide +kernel
theorem dX7_append_29 : decode cX7_append 29 = .ok (.bipush 60, 2) := by decide +kernel
theorem dX7_append_31 : decode cX7_append 31 = .ok (.if_icmp .lt 13, 3) := by decide +kernel
theorem dX7_append_34 : decode cX7_append 34 = .ok (.new 69, 3) := by decide +kernel
theorem dX7_append_37 : decode cX7_append 37 = .ok (.dup, 1) := by decide +kernel
theorem dX7_append_38 : decode cX7_append 38 = .ok (.ldc 153, 2) := by decide +kernel
theorem dX7_append_40 : decode cX7_append 40 = .ok (.invokespecial 73, 3) := by decide +kernel
theorem dX7_append_43 : decode cX7_append 43 = .ok (.athrow, 1) := by decide +kernel
theorem dX7_append_44 : decode cX7_append 44 = .ok (.aload_n 0, 1) := by decide +kernel
theorem dX7_append_45 : decode cX7_append 45 = .ok (.getfield 10, 3) := by decide +kernel
theorem dX7_append_48 : decode cX7_append 48 = .ok (.iload_n 1, 1) := by decide +kernel
theorem dX7_append_49 : decode cX7_append 49 = .ok (.invokevirtual 155, 3) := by decide +kernel
theorem dX7_append_52 : decode cX7_append 52 = .ok (.aload_n 0, 1) := by decide +kernel
theorem dX7_append_53 : decode cX7_append 53 = .ok (.getfield 10, 3) := by decide +kernel
theorem dX7_append_56 : decode cX7_append 56 = .ok (.invokevirtual 152, 3) := by decide +kernel
theorem dX7_append_59 : decode cX7_append 59 = .ok (.ireturn, 1) := by decide +kernel
theorem dX7_clearBuffer_0 : decode cX7_clearBuffer 0 = .ok (.aload_n 0, 1) := by decide +kernel
theorem dX7_clearBuffer_1 : decode cX7_clearBuffer 1 = .ok (.getfield 10, 3) := by decide +kernel
theorem dX7_clearBuffer_4 : decode cX7_clearBuffer 4 = .ok (.invokevirtual 152, 3) := by decide +kernel
theorem dX7_clearBuffer_7 : decode cX7_clearBuffer 7 = .ok (.istore_n 1, 1) := by decide +kernel
theorem dX7_clearBuffer_8 : decode cX7_clearBuffer 8 = .ok (.aload_n 0, 1) := by decide +kernel
theorem dX7_clearBuffer_9 : decode cX7_clearBuffer 9 = .ok (.getfield 10, 3) := by decide +kernel
theorem dX7_clearBuffer_12 : decode cX7_clearBuffer 12 = .ok (.invokevirtual 95, 3) := by decide +kernel
theorem dX7_clearBuffer_15 : decode cX7_clearBuffer 15 = .ok (.iload_n 1, 1) := by decide +kernel
theorem dX7_clearBuffer_16 : decode cX7_clearBuffer 16 = .ok (.ireturn, 1) := by decide +kernel
theorem dX7_work_0 : decode cX7_work 0 = .ok (.aload_n 0, 1) := by decide +kernel
theorem dX7_work_1 : decode cX7_work 1 = .ok (.getfield 10, 3) := by decide +kernel
theorem dX7_work_4 : decode cX7_work 4 = .ok (.invokevirtual 164, 3) := by decide +kernel
theorem dX7_work_7 : decode cX7_work 7 = .ok (.ifCond .ne 13, 3) := by decide +kernel
theorem dX7_work_10 : decode cX7_work 10 = .ok (.new 58, 3) := by decide +kernel
theorem dX7_work_13 : decode cX7_work 13 = .ok (.dup, 1) := by decide +kernel
theorem dX7_work_14 : decode cX7_work 14 = .ok (.ldc 167, 2) := by decide +kernel
theorem dX7_work_16 : decode cX7_work 16 = .ok (.invokespecial 62, 3) := by decide +kernel
theorem dX7_work_19 : decode cX7_work 19 = .ok (.athrow, 1) := by decide +kernel
theorem dX7_work_20 : decode cX7_work 20 = .ok (.aload_n 0, 1) := by decide +kernel
theorem dX7_work_21 : decode cX7_work 21 = .ok (.getfield 26, 3) := by decide +kernel
theorem dX7_work_24 : decode cX7_work 24 = .ok (.aload_n 0, 1) := by decide +kernel
theorem dX7_work_25 : decode cX7_work 25 = .ok (.getfield 19, 3) := by decide +kernel
theorem dX7_work_28 : decode cX7_work 28 = .ok (.invokevirtual 87, 3) := by decide +kernel
theorem dX7_work_31 : decode cX7_work 31 = .ok (.iconst 0, 1) := by decide +kernel
theorem dX7_work_32 : decode cX7_work 32 = .ok (.istore_n 1, 1) := by decide +kernel
theorem dX7_work_33 : decode cX7_work 33 = .ok (.iconst 0, 1) := by decide +kernel
theorem dX7_work_34 : decode cX7_work 34 = .ok (.istore_n 2, 1) := by decide +kernel
theorem dX7_work_35 : decode cX7_work 35 = .ok (.iconst 0, 1) := by decide +kernel
theorem dX7_work_36 : decode cX7_work 36 = .ok (.istore_n 3, 1) := by decide +kernel
theorem dX7_work_37 : decode cX7_work 37 = .ok (.iconst 0, 1) := by decide +kernel
theorem dX7_work_38 : decode cX7_work 38 = .ok (.istore 4, 2) := by decide +kernel
theorem dX7_work_40 : decode cX7_work 40 = .ok (.iload 4, 2) := by decide +kernel
theorem dX7_work_42 : decode cX7_work 42 = .ok (.aload_n 0, 1) := by decide +kernel
theorem dX7_work_43 : decode cX7_work 43 = .ok (.getfield 10, 3) := by decide +kernel
theorem dX7_work_46 : decode cX7_work 46 = .ok (.invokevirtual 169, 3) := by decide +kernel
theorem dX7_work_49 : decode cX7_work 49 = .ok (.if_icmp .ge 44, 3) := by decide +kernel
theorem dX7_work_52 : decode cX7_work 52 = .ok (.iload_n 2, 1) := by decide +kernel
theorem dX7_work_53 : decode cX7_work 53 = .ok (.ifCond .ne 40, 3) := by decide +kernel
theorem dX7_work_56 : decode cX7_work 56 = .ok (.aload_n 0, 1) := by decide +kernel
theorem dX7_work_57 : decode cX7_work 57 = .ok (.iload_n 3, 1) := by decide +kernel
theorem dX7_work_58 : decode cX7_work 58 = .ok (.invokevirtual 172, 3) := by decide +kernel
theorem dX7_work_61 : decode cX7_work 61 = .ok (.istore_n 2, 1) := by decide +kernel
theorem dX7_work_62 : decode cX7_work 62 = .ok (.iload_n 2, 1) := by decide +kernel
theorem dX7_work_63 : decode cX7_work 63 = .ok (.ifCond .ne 11, 3) := by decide +kernel
theorem dX7_work_66 : decode cX7_work 66 = .ok (.aload_n 0, 1) := by decide +kernel
theorem dX7_work_67 : decode cX7_work 67 = .ok (.iload_n 3, 1) := by decide +kernel
theorem dX7_work_68 : decode cX7_work 68 = .ok (.invokevirtual 175, 3) := by decide +kernel
theorem dX7_work_71 : decode cX7_work 71 = .ok (.iinc 1 1, 3) := by decide +kernel
theorem dX7_work_74 : decode cX7_work 74 = .ok (.iload_n 3, 1) := by decide +kernel
theorem dX7_work_75 : decode cX7_work 75 = .ok (.aload_n 0, 1) := by decide +kernel
theorem dX7_work_76 : decode cX7_work 76 = .ok (.getfield 10, 3) := by decide +kernel
theorem dX7_work_79 : decode cX7_work 79 = .ok (.iload_n 3, 1) := by decide +kernel
theorem dX7_work_80 : decode cX7_work 80 = .ok (.invokevirtual 178, 3) := by decide +kernel
theorem dX7_work_83 : decode cX7_work 83 = .ok (.iconst 1, 1) := by decide +kernel
theorem dX7_work_84 : decode cX7_work 84 = .ok (.iadd, 1) := by decide +kernel
theorem dX7_work_85 : decode cX7_work 85 = .ok (.iadd, 1) := by decide +kernel
theorem dX7_work_86 : decode cX7_work 86 = .ok (.istore_n 3, 1) := by decide +kernel
theorem dX7_work_87 : decode cX7_work 87 = .ok (.iinc 4 1, 3) := by decide +kernel
theorem dX7_work_90 : decode cX7_work 90 = .ok (.goto (-50), 3) := by decide +kernel
theorem dX7_work_93 : decode cX7_work 93 = .ok (.aload_n 0, 1) := by decide +kernel
theorem dX7_work_94 : decode cX7_work 94 = .ok (.getfield 19, 3) := by decide +kernel
theorem dX7_work_97 : decode cX7_work 97 = .ok (.iload_n 2, 1) := by decide +kernel
theorem dX7_work_98 : decode cX7_work 98 = .ok (.ifCond .ne 7, 3) := by decide +kernel
theorem dX7_work_101 : decode cX7_work 101 = .ok (.iconst (-1), 1) := by decide +kernel
theorem dX7_work_102 : decode cX7_work 102 = .ok (.goto 4, 3) := by decide +kernel
theorem dX7_work_105 : decode cX7_work 105 = .ok (.iload_n 1, 1) := by decide +kernel
theorem dX7_work_106 : decode cX7_work 106 = .ok (.iload_n 2, 1) := by decide +kernel
theorem dX7_work_107 : decode cX7_work 107 = .ok (.ifCond .ne 7, 3) := by decide +kernel
theorem dX7_work_110 : decode cX7_work 110 = .ok (.iconst (-1), 1) := by decide +kernel
theorem dX7_work_111 : decode cX7_work 111 = .ok (.goto 4, 3) := by decide +kernel
theorem dX7_work_114 : decode cX7_work 114 = .ok (.iload_n 2, 1) := by decide +kernel
theorem dX7_work_115 : decode cX7_work 115 = .ok (.invokevirtual 181, 3) := by decide +kernel
theorem dX7_work_118 : decode cX7_work 118 = .ok (.aload_n 0, 1) := by decide +kernel
theorem dX7_work_119 : decode cX7_work 119 = .ok (.getfield 10, 3) := by decide +kernel
theorem dX7_work_122 : decode cX7_work 122 = .ok (.invokevirtual 95, 3) := by decide +kernel
theorem dX7_work_125 : decode cX7_work 125 = .ok (.iload_n 1, 1) := by decide +kernel
theorem dX7_work_126 : decode cX7_work 126 = .ok (.ireturn, 1) := by decide +kernel
theorem dX7_stopped_0 : decode cX7_stopped 0 = .ok (.iload_n 1, 1) := by decide +kernel
theorem dX7_stopped_1 : decode cX7_stopped 1 = .ok (.iconst 1, 1) := by decide +kernel
theorem dX7_stopped_2 : decode cX7_stopped 2 = .ok (.invokestatic 137, 3) := by decide +kernel
theorem dX7_stopped_5 : decode cX7_stopped 5 = .ok (.iload_n 1, 1) := by decide +kernel
theorem dX7_stopped_6 : decode cX7_stopped 6 = .ok (.ifCond .ne 13, 3) := by decide +kernel
theorem dX7_stopped_9 : decode cX7_stopped 9 = .ok (.aload_n 0, 1) := by decide +kernel
theorem dX7_stopped_10 : decode cX7_stopped 10 = .ok (.getfield 19, 3) := by decide +kernel
theorem dX7_stopped_13 : decode cX7_stopped 13 = .ok (.invokevirtual 184, 3) := by decide +kernel
theorem dX7_stopped_16 : decode cX7_stopped 16 = .ok (.goto 10, 3) := by decide +kernel
theorem dX7_stopped_19 : decode cX7_stopped 19 = .ok (.aload_n 0, 1) := by decide +kernel
theorem dX7_stopped_20 : decode cX7_stopped 20 = .ok (.getfield 19, 3) := by decide +kernel
theorem dX7_stopped_23 : decode cX7_stopped 23 = .ok (.invokevirtual 187, 3) := by decide +kernel
theorem dX7_stopped_26 : decode cX7_stopped 26 = .ok (.ireturn, 1) := by decide +kernel
theorem dX7_undo_0 : decode cX7_undo 0 = .ok (.aload_n 0, 1) := by decide +kernel
theorem dX7_undo_1 : decode cX7_undo 1 = .ok (.getfield 26, 3) := by decide +kernel
theorem dX7_undo_4 : decode cX7_undo 4 = .ok (.invokevirtual 190, 3) := by decide +kernel
theorem dX7_undo_7 : decode cX7_undo 7 = .ok (.ifCond .ne 13, 3) := by decide +kernel
theorem dX7_undo_10 : decode cX7_undo 10 = .ok (.new 69, 3) := by decide +kernel
theorem dX7_undo_13 : decode cX7_undo 13 = .ok (.dup, 1) := by decide +kernel
theorem dX7_undo_14 : decode cX7_undo 14 = .ok (.ldc 191, 2) := by decide +kernel
theorem dX7_undo_16 : decode cX7_undo 16 = .ok (.invokespecial 73, 3) := by decide +kernel
theorem dX7_undo_19 : decode cX7_undo 19 = .ok (.athrow, 1) := by decide +kernel
theorem dX7_undo_20 : decode cX7_undo 20 = .ok (.aload_n 0, 1) := by decide +kernel
theorem dX7_undo_21 : decode cX7_undo 21 = .ok (.getfield 26, 3) := by decide +kernel
theorem dX7_undo_24 : decode cX7_undo 24 = .ok (.aload_n 0, 1) := by decide +kernel
theorem dX7_undo_25 : decode cX7_undo 25 = .ok (.getfield 19, 3) := by decide +kernel
theorem dX7_undo_28 : decode cX7_undo 28 = .ok (.invokevirtual 193, 3) := by decide +kernel
theorem dX7_undo_31 : decode cX7_undo 31 = .ok (.aload_n 0, 1) := by decide +kernel
theorem dX7_undo_32 : decode cX7_undo 32 = .ok (.getfield 26, 3) := by decide +kernel
theorem dX7_undo_35 : decode cX7_undo 35 = .ok (.invokevirtual 190, 3) := by decide +kernel
theorem dX7_undo_38 : decode cX7_undo 38 = .ok (.ireturn, 1) := by decide +kernel
theorem dX7_keep_0 : decode cX7_keep 0 = .ok (.aload_n 0, 1) := by decide +kernel
theorem dX7_keep_1 : decode cX7_keep 1 = .ok (.getfield 30, 3) := by decide +kernel
theorem dX7_keep_4 : decode cX7_keep 4 = .ok (.aload_n 0, 1) := by decide +kernel
theorem dX7_keep_5 : decode cX7_keep 5 = .ok (.getfield 19, 3) := by decide +kernel
theorem dX7_keep_8 : decode cX7_keep 8 = .ok (.invokevirtual 196, 3) := by decide +kernel
theorem dX7_keep_11 : decode cX7_keep 11 = .ok (.aload_n 0, 1) := by decide +kernel
theorem dX7_keep_12 : decode cX7_keep 12 = .ok (.iconst 1, 1) := by decide +kernel
theorem dX7_keep_13 : decode cX7_keep 13 = .ok (.putfield 33, 3) := by decide +kernel
theorem dX7_keep_16 : decode cX7_keep 16 = .ok (.aload_n 0, 1) := by decide +kernel
theorem dX7_keep_17 : decode cX7_keep 17 = .ok (.getfield 19, 3) := by decide +kernel
theorem dX7_keep_20 : decode cX7_keep 20 = .ok (.invokevirtual 65, 3) := by decide +kernel
theorem dX7_keep_23 : decode cX7_keep 23 = .ok (.ireturn, 1) := by decide +kernel
theorem dX7_crossing_0 : decode cX7_crossing 0 = .ok (.aload_n 0, 1) := by decide +kernel
theorem dX7_crossing_1 : decode cX7_crossing 1 = .ok (.iload_n 1, 1) := by decide +kernel
theorem dX7_crossing_2 : decode cX7_crossing 2 = .ok (.invokevirtual 98, 3) := by decide +kernel
theorem dX7_crossing_5 : decode cX7_crossing 5 = .ok (.iload_n 2, 1) := by decide +kernel
theorem dX7_crossing_6 : decode cX7_crossing 6 = .ok (.bipush 23, 2) := by decide +kernel
theorem dX7_crossing_8 : decode cX7_crossing 8 = .ok (.invokestatic 137, 3) := by decide +kernel
theorem dX7_crossing_11 : decode cX7_crossing 11 = .ok (.iload_n 3, 1) := by decide +kernel
theorem dX7_crossing_12 : decode cX7_crossing 12 = .ok (.iconst 3, 1) := by decide +kernel
theorem dX7_crossing_13 : decode cX7_crossing 13 = .ok (.invokestatic 137, 3) := by decide +kernel
theorem dX7_crossing_16 : decode cX7_crossing 16 = .ok (.aload_n 0, 1) := by decide +kernel
theorem dX7_crossing_17 : decode cX7_crossing 17 = .ok (.getfield 19, 3) := by decide +kernel
theorem dX7_crossing_20 : decode cX7_crossing 20 = .ok (.iload_n 1, 1) := by decide +kernel
theorem dX7_crossing_21 : decode cX7_crossing 21 = .ok (.invokevirtual 102, 3) := by decide +kernel
theorem dX7_crossing_24 : decode cX7_crossing 24 = .ok (.iload_n 2, 1) := by decide +kernel
theorem dX7_crossing_25 : decode cX7_crossing 25 = .ok (.iload_n 3, 1) := by decide +kernel
theorem dX7_crossing_26 : decode cX7_crossing 26 = .ok (.invokevirtual 200, 3) := by decide +kernel
theorem dX7_crossing_29 : decode cX7_crossing 29 = .ok (.ireturn, 1) := by decide +kernel
theorem dX7_strand_0 : decode cX7_strand 0 = .ok (.aload_n 0, 1) := by decide +kernel
theorem dX7_strand_1 : decode cX7_strand 1 = .ok (.iload_n 1, 1) := by decide +kernel
theorem dX7_strand_2 : decode cX7_strand 2 = .ok (.invokevirtual 98, 3) := by decide +kernel
theorem dX7_strand_5 : decode cX7_strand 5 = .ok (.iload_n 2, 1) := by decide +kernel
theorem dX7_strand_6 : decode cX7_strand 6 = .ok (.bipush 6, 2) := by decide +kernel
theorem dX7_strand_8 : decode cX7_strand 8 = .ok (.invokestatic 137, 3) := by decide +kernel
theorem dX7_strand_11 : decode cX7_strand 11 = .ok (.iload_n 3, 1) := by decide +kernel
theorem dX7_strand_12 : decode cX7_strand 12 = .ok (.iconst 4, 1) := by decide +kernel
theorem dX7_strand_13 : decode cX7_strand 13 = .ok (.invokestatic 137, 3) := by decide +kernel
theorem dX7_strand_16 : decode cX7_strand 16 = .ok (.aload_n 0, 1) := by decide +kernel
theorem dX7_strand_17 : decode cX7_strand 17 = .ok (.getfield 19, 3) := by decide +kernel
theorem dX7_strand_20 : decode cX7_strand 20 = .ok (.iload_n 1, 1) := by decide +kernel
theorem dX7_strand_21 : decode cX7_strand 21 = .ok (.invokevirtual 102, 3) := by decide +kernel
theorem dX7_strand_24 : decode cX7_strand 24 = .ok (.invokevirtual 124, 3) := by decide +kernel
theorem dX7_strand_27 : decode cX7_strand 27 = .ok (.iload_n 2, 1) := by decide +kernel
theorem dX7_strand_28 : decode cX7_strand 28 = .ok (.iload_n 3, 1) := by decide +kernel
theorem dX7_strand_29 : decode cX7_strand 29 = .ok (.invokevirtual 203, 3) := by decide +kernel
theorem dX7_strand_32 : decode cX7_strand 32 = .ok (.ireturn, 1) := by decide +kernel
theorem dX7_loaf_0 : decode cX7_loaf 0 = .ok (.aload_n 0, 1) := by decide +kernel
theorem dX7_loaf_1 : decode cX7_loaf 1 = .ok (.iload_n 1, 1) := by decide +kernel
theorem dX7_loaf_2 : decode cX7_loaf 2 = .ok (.invokevirtual 98, 3) := by decide +kernel
theorem dX7_loaf_5 : decode cX7_loaf 5 = .ok (.iload_n 2, 1) := by decide +kernel
theorem dX7_loaf_6 : decode cX7_loaf 6 = .ok (.bipush 10, 2) := by decide +kernel
theorem dX7_loaf_8 : decode cX7_loaf 8 = .ok (.invokestatic 137, 3) := by decide +kernel
theorem dX7_loaf_11 : decode cX7_loaf 11 = .ok (.aload_n 0, 1) := by decide +kernel
theorem dX7_loaf_12 : decode cX7_loaf 12 = .ok (.iload_n 1, 1) := by decide +kernel
theorem dX7_loaf_13 : decode cX7_loaf 13 = .ok (.iload_n 2, 1) := by decide +kernel
theorem dX7_loaf_14 : decode cX7_loaf 14 = .ok (.invokevirtual 206, 3) := by decide +kernel
theorem dX7_loaf_17 : decode cX7_loaf 17 = .ok (.ireturn, 1) := by decide +kernel
theorem dX7_count_0 : decode cX7_count 0 = .ok (.iload_n 1, 1) := by decide +kernel
theorem dX7_count_1 : decode cX7_count 1 = .ok (.bipush 6, 2) := by decide +kernel
theorem dX7_count_3 : decode cX7_count 3 = .ok (.invokestatic 137, 3) := by decide +kernel
theorem dX7_count_6 : decode cX7_count 6 = .ok (.aload_n 0, 1) := by decide +kernel
theorem dX7_count_7 : decode cX7_count 7 = .ok (.iload_n 1, 1) := by decide +kernel
theorem dX7_count_8 : decode cX7_count 8 = .ok (.invokevirtual 215, 3) := by decide +kernel
theorem dX7_count_11 : decode cX7_count 11 = .ok (.ireturn, 1) := by decide +kernel
theorem dX7_whyNot_0 : decode cX7_whyNot 0 = .ok (.aload_n 0, 1) := by decide +kernel
theorem dX7_whyNot_1 : decode cX7_whyNot 1 = .ok (.iload_n 1, 1) := by decide +kernel
theorem dX7_whyNot_2 : decode cX7_whyNot 2 = .ok (.iload_n 2, 1) := by decide +kernel
theorem dX7_whyNot_3 : decode cX7_whyNot 3 = .ok (.invokevirtual 110, 3) := by decide +kernel
theorem dX7_whyNot_6 : decode cX7_whyNot 6 = .ok (.aload_n 0, 1) := by decide +kernel
theorem dX7_whyNot_7 : decode cX7_whyNot 7 = .ok (.iload_n 1, 1) := by decide +kernel
theorem dX7_whyNot_8 : decode cX7_whyNot 8 = .ok (.iload_n 2, 1) := by decide +kernel
theorem dX7_whyNot_9 : decode cX7_whyNot 9 = .ok (.iload_n 3, 1) := by decide +kernel
theorem dX7_whyNot_10 : decode cX7_whyNot 10 = .ok (.invokevirtual 114, 3) := by decide +kernel
theorem dX7_whyNot_13 : decode cX7_whyNot 13 = .ok (.ireturn, 1) := by decide +kernel
theorem dX7_alike_0 : decode cX7_alike 0 = .ok (.aload_n 0, 1) := by decide +kernel
theorem dX7_alike_1 : decode cX7_alike 1 = .ok (.iload_n 1, 1) := by decide +kernel
theorem dX7_alike_2 : decode cX7_alike 2 = .ok (.invokevirtual 98, 3) := by decide +kernel
theorem dX7_alike_5 : decode cX7_alike 5 = .ok (.aload_n 0, 1) := by decide +kernel
theorem dX7_alike_6 : decode cX7_alike 6 = .ok (.iload_n 2, 1) := by decide +kernel
theorem dX7_alike_7 : decode cX7_alike 7 = .ok (.invokevirtual 98, 3) := by decide +kernel
theorem dX7_alike_10 : decode cX7_alike 10 = .ok (.aload_n 0, 1) := by decide +kernel
theorem dX7_alike_11 : decode cX7_alike 11 = .ok (.iload_n 1, 1) := by decide +kernel
theorem dX7_alike_12 : decode cX7_alike 12 = .ok (.iload_n 2, 1) := by decide +kernel
theorem dX7_alike_13 : decode cX7_alike 13 = .ok (.invokevirtual 221, 3) := by decide +kernel
theorem dX7_alike_16 : decode cX7_alike 16 = .ok (.ireturn, 1) := by decide +kernel
theorem dX7_period_0 : decode cX7_period 0 = .ok (.aload_n 0, 1) := by decide +kernel
theorem dX7_period_1 : decode cX7_period 1 = .ok (.iload_n 1, 1) := by decide +kernel
theorem dX7_period_2 : decode cX7_period 2 = .ok (.invokevirtual 98, 3) := by decide +kernel
theorem dX7_period_5 : decode cX7_period 5 = .ok (.aload_n 0, 1) := by decide +kernel
theorem dX7_period_6 : decode cX7_period 6 = .ok (.getfield 19, 3) := by decide +kernel
theorem dX7_period_9 : decode cX7_period 9 = .ok (.iload_n 1, 1) := by decide +kernel
theorem dX7_period_10 : decode cX7_period 10 = .ok (.invokevirtual 102, 3) := by decide +kernel
theorem dX7_period_13 : decode cX7_period 13 = .ok (.invokevirtual 124, 3) := by decide +kernel
theorem dX7_period_16 : decode cX7_period 16 = .ok (.invokevirtual 224, 3) := by decide +kernel
theorem dX7_period_19 : decode cX7_period 19 = .ok (.ireturn, 1) := by decide +kernel
theorem dX7_looseShare_0 : decode cX7_looseShare 0 = .ok (.iconst 0, 1) := by decide +kernel
theorem dX7_looseShare_1 : decode cX7_looseShare 1 = .ok (.istore_n 1, 1) := by decide +kernel
theorem dX7_looseShare_2 : decode cX7_looseShare 2 = .ok (.iconst 0, 1) := by decide +kernel
theorem dX7_looseShare_3 : decode cX7_looseShare 3 = .ok (.istore_n 2, 1) := by decide +kernel
theorem dX7_looseShare_4 : decode cX7_looseShare 4 = .ok (.iload_n 2, 1) := by decide +kernel
theorem dX7_looseShare_5 : decode cX7_looseShare 5 = .ok (.aload_n 0, 1) := by decide +kernel
theorem dX7_looseShare_6 : decode cX7_looseShare 6 = .ok (.getfield 19, 3) := by decide +kernel
theorem dX7_looseShare_9 : decode cX7_looseShare 9 = .ok (.invokevirtual 65, 3) := by decide +kernel
theorem dX7_looseShare_12 : decode cX7_looseShare 12 = .ok (.if_icmp .ge 26, 3) := by decide +kernel
theorem dX7_looseShare_15 : decode cX7_looseShare 15 = .ok (.iload_n 1, 1) := by decide +kernel
theorem dX7_looseShare_16 : decode cX7_looseShare 16 = .ok (.aload_n 0, 1) := by decide +kernel
theorem dX7_looseShare_17 : decode cX7_looseShare 17 = .ok (.getfield 19, 3) := by decide +kernel
theorem dX7_looseShare_20 : decode cX7_looseShare 20 = .ok (.iload_n 2, 1) := by decide +kernel
theorem dX7_looseShare_21 : decode cX7_looseShare 21 = .ok (.invokevirtual 102, 3) := by decide +kernel
theorem dX7_looseShare_24 : decode cX7_looseShare 24 = .ok (.invokevirtual 209, 3) := by decide +kernel
theorem dX7_looseShare_27 : decode cX7_looseShare 27 = .ok (.invokevirtual 106, 3) := by decide +kernel
theorem dX7_looseShare_30 : decode cX7_looseShare 30 = .ok (.iadd, 1) := by decide +kernel
theorem dX7_looseShare_31 : decode cX7_looseShare 31 = .ok (.istore_n 1, 1) := by decide +kernel
theorem dX7_looseShare_32 : decode cX7_looseShare 32 = .ok (.iinc 2 1, 3) := by decide +kernel
theorem dX7_looseShare_35 : decode cX7_looseShare 35 = .ok (.goto (-31), 3) := by decide +kernel
theorem dX7_looseShare_38 : decode cX7_looseShare 38 = .ok (.aload_n 0, 1) := by decide +kernel
theorem dX7_looseShare_39 : decode cX7_looseShare 39 = .ok (.invokevirtual 227, 3) := by decide +kernel
theorem dX7_looseShare_42 : decode cX7_looseShare 42 = .ok (.istore_n 2, 1) := by decide +kernel
theorem dX7_looseShare_43 : decode cX7_looseShare 43 = .ok (.iload_n 2, 1) := by decide +kernel
theorem dX7_looseShare_44 : decode cX7_looseShare 44 = .ok (.ifCond .ne 7, 3) := by decide +kernel
theorem dX7_looseShare_47 : decode cX7_looseShare 47 = .ok (.dconst 1, 1) := by decide +kernel
theorem dX7_looseShare_48 : decode cX7_looseShare 48 = .ok (.goto 8, 3) := by decide +kernel
theorem dX7_looseShare_51 : decode cX7_looseShare 51 = .ok (.iload_n 1, 1) := by decide +kernel
theorem dX7_looseShare_52 : decode cX7_looseShare 52 = .ok (.i2d, 1) := by decide +kernel
theorem dX7_looseShare_53 : decode cX7_looseShare 53 = .ok (.iload_n 2, 1) := by decide +kernel
theorem dX7_looseShare_54 : decode cX7_looseShare 54 = .ok (.i2d, 1) := by decide +kernel
theorem dX7_looseShare_55 : decode cX7_looseShare 55 = .ok (.ddiv, 1) := by decide +kernel
theorem dX7_looseShare_56 : decode cX7_looseShare 56 = .ok (.dreturn, 1) := by decide +kernel
theorem dX7_needLoaf_0 : decode cX7_needLoaf 0 = .ok (.aload_n 0, 1) := by decide +kernel
theorem dX7_needLoaf_1 : decode cX7_needLoaf 1 = .ok (.getfield 19, 3) := by decide +kernel
theorem dX7_needLoaf_4 : decode cX7_needLoaf 4 = .ok (.iload_n 1, 1) := by decide +kernel
theorem dX7_needLoaf_5 : decode cX7_needLoaf 5 = .ok (.invokevirtual 249, 3) := by decide +kernel
theorem dX7_needLoaf_8 : decode cX7_needLoaf 8 = .ok (.ifCond .ne 13, 3) := by decide +kernel
theorem dX7_needLoaf_11 : decode cX7_needLoaf 11 = .ok (.new 253, 3) := by decide +kernel
theorem dX7_needLoaf_14 : decode cX7_needLoaf 14 = .ok (.dup, 1) := by decide +kernel
theorem dX7_needLoaf_15 : decode cX7_needLoaf 15 = .ok (.ldc 255, 2) := by decide +kernel
theorem dX7_needLoaf_17 : decode cX7_needLoaf 17 = .ok (.invokespecial 257, 3) := by decide +kernel
theorem dX7_needLoaf_20 : decode cX7_needLoaf 20 = .ok (.athrow, 1) := by decide +kernel
theorem dX7_needLoaf_21 : decode cX7_needLoaf 21 = .ok (.return_, 1) := by decide +kernel
theorem dX7_needPlace_0 : decode cX7_needPlace 0 = .ok (.aload_n 0, 1) := by decide +kernel
theorem dX7_needPlace_1 : decode cX7_needPlace 1 = .ok (.iload_n 1, 1) := by decide +kernel
theorem dX7_needPlace_2 : decode cX7_needPlace 2 = .ok (.invokevirtual 98, 3) := by decide +kernel
theorem dX7_needPlace_5 : decode cX7_needPlace 5 = .ok (.aload_n 0, 1) := by decide +kernel
theorem dX7_needPlace_6 : decode cX7_needPlace 6 = .ok (.getfield 19, 3) := by decide +kernel
theorem dX7_needPlace_9 : decode cX7_needPlace 9 = .ok (.iload_n 1, 1) := by decide +kernel
theorem dX7_needPlace_10 : decode cX7_needPlace 10 = .ok (.invokevirtual 102, 3) := by decide +kernel
theorem dX7_needPlace_13 : decode cX7_needPlace 13 = .ok (.invokevirtual 74, 3) := by decide +kernel
theorem dX7_needPlace_16 : decode cX7_needPlace 16 = .ok (.iload_n 2, 1) := by decide +kernel
theorem dX7_needPlace_17 : decode cX7_needPlace 17 = .ok (.invokevirtual 258, 3) := by decide +kernel
theorem dX7_needPlace_20 : decode cX7_needPlace 20 = .ok (.ifCond .ne 14, 3) := by decide +kernel
theorem dX7_needPlace_23 : decode cX7_needPlace 23 = .ok (.new 253, 3) := by decide +kernel
theorem dX7_needPlace_26 : decode cX7_needPlace 26 = .ok (.dup, 1) := by decide +kernel
theorem dX7_needPlace_27 : decode cX7_needPlace 27 = .ok (.ldc_w 261, 3) := by decide +kernel
theorem dX7_needPlace_30 : decode cX7_needPlace 30 = .ok (.invokespecial 257, 3) := by decide +kernel
theorem dX7_needPlace_33 : decode cX7_needPlace 33 = .ok (.athrow, 1) := by decide +kernel
theorem dX7_needPlace_34 : decode cX7_needPlace 34 = .ok (.return_, 1) := by decide +kernel
theorem dX7_needUpTo_0 : decode cX7_needUpTo 0 = .ok (.iload_n 0, 1) := by decide +kernel
theorem dX7_needUpTo_1 : decode cX7_needUpTo 1 = .ok (.ifCond .lt 8, 3) := by decide +kernel
theorem dX7_needUpTo_4 : decode cX7_needUpTo 4 = .ok (.iload_n 0, 1) := by decide +kernel
theorem dX7_needUpTo_5 : decode cX7_needUpTo 5 = .ok (.iload_n 1, 1) := by decide +kernel
theorem dX7_needUpTo_6 : decode cX7_needUpTo 6 = .ok (.if_icmp .le 14, 3) := by decide +kernel
theorem dX7_needUpTo_9 : decode cX7_needUpTo 9 = .ok (.new 58, 3) := by decide +kernel
theorem dX7_needUpTo_12 : decode cX7_needUpTo 12 = .ok (.dup, 1) := by decide +kernel
theorem dX7_needUpTo_13 : decode cX7_needUpTo 13 = .ok (.ldc_w 263, 3) := by decide +kernel
theorem dX7_needUpTo_16 : decode cX7_needUpTo 16 = .ok (.invokespecial 62, 3) := by decide +kernel
theorem dX7_needUpTo_19 : decode cX7_needUpTo 19 = .ok (.athrow, 1) := by decide +kernel
theorem dX7_needUpTo_20 : decode cX7_needUpTo 20 = .ok (.return_, 1) := by decide +kernel
theorem dX7_needCan_0 : decode cX7_needCan 0 = .ok (.iload_n 0, 1) := by decide +kernel
theorem dX7_needCan_1 : decode cX7_needCan 1 = .ok (.ifCond .eq 14, 3) := by decide +kernel
theorem dX7_needCan_4 : decode cX7_needCan 4 = .ok (.new 69, 3) := by decide +kernel
theorem dX7_needCan_7 : decode cX7_needCan 7 = .ok (.dup, 1) := by decide +kernel
theorem dX7_needCan_8 : decode cX7_needCan 8 = .ok (.ldc_w 265, 3) := by decide +kernel
theorem dX7_needCan_11 : decode cX7_needCan 11 = .ok (.invokespecial 73, 3) := by decide +kernel
theorem dX7_needCan_14 : decode cX7_needCan 14 = .ok (.athrow, 1) := by decide +kernel
theorem dX7_needCan_15 : decode cX7_needCan 15 = .ok (.return_, 1) := by decide +kernel
theorem dX7_tryCrossing_0 : decode cX7_tryCrossing 0 = .ok (.aload_n 0, 1) := by decide +kernel
theorem dX7_tryCrossing_1 : decode cX7_tryCrossing 1 = .ok (.getfield 19, 3) := by decide +kernel
theorem dX7_tryCrossing_4 : decode cX7_tryCrossing 4 = .ok (.iload_n 1, 1) := by decide +kernel
theorem dX7_tryCrossing_5 : decode cX7_tryCrossing 5 = .ok (.invokevirtual 249, 3) := by decide +kernel
theorem dX7_tryCrossing_8 : decode cX7_tryCrossing 8 = .ok (.ifCond .ne 5, 3) := by decide +kernel
theorem dX7_tryCrossing_11 : decode cX7_tryCrossing 11 = .ok (.iconst 3, 1) := by decide +kernel
theorem dX7_tryCrossing_12 : decode cX7_tryCrossing 12 = .ok (.ireturn, 1) := by decide +kernel
theorem dX7_tryCrossing_13 : decode cX7_tryCrossing 13 = .ok (.aload_n 0, 1) := by decide +kernel
theorem dX7_tryCrossing_14 : decode cX7_tryCrossing 14 = .ok (.getfield 19, 3) := by decide +kernel
theorem dX7_tryCrossing_17 : decode cX7_tryCrossing 17 = .ok (.iload_n 1, 1) := by decide +kernel
theorem dX7_tryCrossing_18 : decode cX7_tryCrossing 18 = .ok (.invokevirtual 102, 3) := by decide +kernel
theorem dX7_tryCrossing_21 : decode cX7_tryCrossing 21 = .ok (.invokevirtual 74, 3) := by decide +kernel
theorem dX7_tryCrossing_24 : decode cX7_tryCrossing 24 = .ok (.astore 4, 2) := by decide +kernel
theorem dX7_tryCrossing_26 : decode cX7_tryCrossing 26 = .ok (.aload 4, 2) := by decide +kernel
theorem dX7_tryCrossing_28 : decode cX7_tryCrossing 28 = .ok (.iload_n 2, 1) := by decide +kernel
theorem dX7_tryCrossing_29 : decode cX7_tryCrossing 29 = .ok (.invokevirtual 258, 3) := by decide +kernel
theorem dX7_tryCrossing_32 : decode cX7_tryCrossing 32 = .ok (.ifCond .ne 5, 3) := by decide +kernel
theorem dX7_tryCrossing_35 : decode cX7_tryCrossing 35 = .ok (.iconst 4, 1) := by decide +kernel
theorem dX7_tryCrossing_36 : decode cX7_tryCrossing 36 = .ok (.ireturn, 1) := by decide +kernel
theorem dX7_tryCrossing_37 : decode cX7_tryCrossing 37 = .ok (.aload 4, 2) := by decide +kernel
theorem dX7_tryCrossing_39 : decode cX7_tryCrossing 39 = .ok (.invokevirtual 106, 3) := by decide +kernel
theorem dX7_tryCrossing_42 : decode cX7_tryCrossing 42 = .ok (.bipush 24, 2) := by decide +kernel
theorem dX7_tryCrossing_44 : decode cX7_tryCrossing 44 = .ok (.if_icmp .lt 5, 3) := by decide +kernel
theorem dX7_tryCrossing_47 : decode cX7_tryCrossing 47 = .ok (.iconst 1, 1) := by decide +kernel
theorem dX7_tryCrossing_48 : decode cX7_tryCrossing 48 = .ok (.ireturn, 1) := by decide +kernel
theorem dX7_tryCrossing_49 : decode cX7_tryCrossing 49 = .ok (.aload_n 0, 1) := by decide +kernel
theorem dX7_tryCrossing_50 : decode cX7_tryCrossing 50 = .ok (.getfield 40, 3) := by decide +kernel
theorem dX7_tryCrossing_53 : decode cX7_tryCrossing 53 = .ok (.invokevirtual 74, 3) := by decide +kernel
theorem dX7_tryCrossing_56 : decode cX7_tryCrossing 56 = .ok (.aload 4, 2) := by decide +kernel
theorem dX7_tryCrossing_58 : decode cX7_tryCrossing 58 = .ok (.invokevirtual 267, 3) := by decide +kernel
theorem dX7_tryCrossing_61 : decode cX7_tryCrossing 61 = .ok (.aload_n 0, 1) := by decide +kernel
theorem dX7_tryCrossing_62 : decode cX7_tryCrossing 62 = .ok (.getfield 40, 3) := by decide +kernel
theorem dX7_tryCrossing_65 : decode cX7_tryCrossing 65 = .ok (.invokevirtual 74, 3) := by decide +kernel
theorem dX7_tryCrossing_68 : decode cX7_tryCrossing 68 = .ok (.iload_n 2, 1) := by decide +kernel
theorem dX7_tryCrossing_69 : decode cX7_tryCrossing 69 = .ok (.iload_n 3, 1) := by decide +kernel
theorem dX7_tryCrossing_70 : decode cX7_tryCrossing 70 = .ok (.invokestatic 269, 3) := by decide +kernel
theorem dX7_tryCrossing_73 : decode cX7_tryCrossing 73 = .ok (.invokevirtual 273, 3) := by decide +kernel
theorem dX7_tryCrossing_76 : decode cX7_tryCrossing 76 = .ok (.aload_n 0, 1) := by decide +kernel
theorem dX7_tryCrossing_77 : decode cX7_tryCrossing 77 = .ok (.getfield 40, 3) := by decide +kernel
theorem dX7_tryCrossing_80 : decode cX7_tryCrossing 80 = .ok (.invokevirtual 82, 3) := by decide +kernel
theorem dX7_tryCrossing_83 : decode cX7_tryCrossing 83 = .ok (.ireturn, 1) := by decide +kernel
theorem dX7_tryTakingBack_0 : decode cX7_tryTakingBack 0 = .ok (.aload_n 0, 1) := by decide +kernel
theorem dX7_tryTakingBack_1 : decode cX7_tryTakingBack 1 = .ok (.getfield 19, 3) := by decide +kernel
theorem dX7_tryTakingBack_4 : decode cX7_tryTakingBack 4 = .ok (.iload_n 1, 1) := by decide +kernel
theorem dX7_tryTakingBack_5 : decode cX7_tryTakingBack 5 = .ok (.invokevirtual 249, 3) := by decide +kernel
theorem dX7_tryTakingBack_8 : decode cX7_tryTakingBack 8 = .ok (.ifCond .ne 5, 3) := by decide +kernel
theorem dX7_tryTakingBack_11 : decode cX7_tryTakingBack 11 = .ok (.iconst 3, 1) := by decide +kernel
theorem dX7_tryTakingBack_12 : decode cX7_tryTakingBack 12 = .ok (.ireturn, 1) := by decide +kernel
theorem dX7_tryTakingBack_13 : decode cX7_tryTakingBack 13 = .ok (.aload_n 0, 1) := by decide +kernel
theorem dX7_tryTakingBack_14 : decode cX7_tryTakingBack 14 = .ok (.getfield 19, 3) := by decide +kernel
theorem dX7_tryTakingBack_17 : decode cX7_tryTakingBack 17 = .ok (.iload_n 1, 1) := by decide +kernel
theorem dX7_tryTakingBack_18 : decode cX7_tryTakingBack 18 = .ok (.invokevirtual 102, 3) := by decide +kernel
theorem dX7_tryTakingBack_21 : decode cX7_tryTakingBack 21 = .ok (.invokevirtual 74, 3) := by decide +kernel
theorem dX7_tryTakingBack_24 : decode cX7_tryTakingBack 24 = .ok (.astore_n 2, 1) := by decide +kernel
theorem dX7_tryTakingBack_25 : decode cX7_tryTakingBack 25 = .ok (.aload_n 2, 1) := by decide +kernel
theorem dX7_tryTakingBack_26 : decode cX7_tryTakingBack 26 = .ok (.invokevirtual 106, 3) := by decide +kernel
theorem dX7_tryTakingBack_29 : decode cX7_tryTakingBack 29 = .ok (.ifCond .ne 6, 3) := by decide +kernel
theorem dX7_tryTakingBack_32 : decode cX7_tryTakingBack 32 = .ok (.bipush 6, 2) := by decide +kernel
theorem dX7_tryTakingBack_34 : decode cX7_tryTakingBack 34 = .ok (.ireturn, 1) := by decide +kernel
theorem dX7_tryTakingBack_35 : decode cX7_tryTakingBack 35 = .ok (.aload_n 0, 1) := by decide +kernel
theorem dX7_tryTakingBack_36 : decode cX7_tryTakingBack 36 = .ok (.getfield 40, 3) := by decide +kernel
theorem dX7_tryTakingBack_39 : decode cX7_tryTakingBack 39 = .ok (.invokevirtual 74, 3) := by decide +kernel
theorem dX7_tryTakingBack_42 : decode cX7_tryTakingBack 42 = .ok (.aload_n 2, 1) := by decide +kernel
theorem dX7_tryTakingBack_43 : decode cX7_tryTakingBack 43 = .ok (.invokevirtual 267, 3) := by decide +kernel
theorem dX7_tryTakingBack_46 : decode cX7_tryTakingBack 46 = .ok (.aload_n 0, 1) := by decide +kernel
theorem dX7_tryTakingBack_47 : decode cX7_tryTakingBack 47 = .ok (.getfield 40, 3) := by decide +kernel
theorem dX7_tryTakingBack_50 : decode cX7_tryTakingBack 50 = .ok (.invokevirtual 74, 3) := by decide +kernel
theorem dX7_tryTakingBack_53 : decode cX7_tryTakingBack 53 = .ok (.aload_n 2, 1) := by decide +kernel
theorem dX7_tryTakingBack_54 : decode cX7_tryTakingBack 54 = .ok (.invokevirtual 106, 3) := by decide +kernel
theorem dX7_tryTakingBack_57 : decode cX7_tryTakingBack 57 = .ok (.iconst 1, 1) := by decide +kernel
theorem dX7_tryTakingBack_58 : decode cX7_tryTakingBack 58 = .ok (.isub, 1) := by decide +kernel
theorem dX7_tryTakingBack_59 : decode cX7_tryTakingBack 59 = .ok (.invokevirtual 276, 3) := by decide +kernel
theorem dX7_tryTakingBack_62 : decode cX7_tryTakingBack 62 = .ok (.aload_n 0, 1) := by decide +kernel
theorem dX7_tryTakingBack_63 : decode cX7_tryTakingBack 63 = .ok (.getfield 40, 3) := by decide +kernel
theorem dX7_tryTakingBack_66 : decode cX7_tryTakingBack 66 = .ok (.invokevirtual 82, 3) := by decide +kernel
theorem dX7_tryTakingBack_69 : decode cX7_tryTakingBack 69 = .ok (.ireturn, 1) := by decide +kernel
theorem dX7_tryChange_0 : decode cX7_tryChange 0 = .ok (.aload_n 0, 1) := by decide +kernel
theorem dX7_tryChange_1 : decode cX7_tryChange 1 = .ok (.getfield 19, 3) := by decide +kernel
theorem dX7_tryChange_4 : decode cX7_tryChange 4 = .ok (.iload_n 1, 1) := by decide +kernel
theorem dX7_tryChange_5 : decode cX7_tryChange 5 = .ok (.invokevirtual 249, 3) := by decide +kernel
theorem dX7_tryChange_8 : decode cX7_tryChange 8 = .ok (.ifCond .ne 5, 3) := by decide +kernel
theorem dX7_tryChange_11 : decode cX7_tryChange 11 = .ok (.iconst 3, 1) := by decide +kernel
theorem dX7_tryChange_12 : decode cX7_tryChange 12 = .ok (.ireturn, 1) := by decide +kernel
theorem dX7_tryChange_13 : decode cX7_tryChange 13 = .ok (.aload_n 0, 1) := by decide +kernel
theorem dX7_tryChange_14 : decode cX7_tryChange 14 = .ok (.getfield 40, 3) := by decide +kernel
theorem dX7_tryChange_17 : decode cX7_tryChange 17 = .ok (.invokevirtual 74, 3) := by decide +kernel
theorem dX7_tryChange_20 : decode cX7_tryChange 20 = .ok (.aload_n 0, 1) := by decide +kernel
theorem dX7_tryChange_21 : decode cX7_tryChange 21 = .ok (.getfield 19, 3) := by decide +kernel
theorem dX7_tryChange_24 : decode cX7_tryChange 24 = .ok (.iload_n 1, 1) := by decide +kernel
theorem dX7_tryChange_25 : decode cX7_tryChange 25 = .ok (.invokevirtual 102, 3) := by decide +kernel
theorem dX7_tryChange_28 : decode cX7_tryChange 28 = .ok (.invokevirtual 74, 3) := by decide +kernel
theorem dX7_tryChange_31 : decode cX7_tryChange 31 = .ok (.iload_n 2, 1) := by decide +kernel
theorem dX7_tryChange_32 : decode cX7_tryChange 32 = .ok (.invokevirtual 279, 3) := by decide +kernel
theorem dX7_tryChange_35 : decode cX7_tryChange 35 = .ok (.aload_n 0, 1) := by decide +kernel
theorem dX7_tryChange_36 : decode cX7_tryChange 36 = .ok (.getfield 40, 3) := by decide +kernel
theorem dX7_tryChange_39 : decode cX7_tryChange 39 = .ok (.invokevirtual 82, 3) := by decide +kernel
theorem dX7_tryChange_42 : decode cX7_tryChange 42 = .ok (.ireturn, 1) := by decide +kernel
theorem dX7_tryJoining_0 : decode cX7_tryJoining 0 = .ok (.aload_n 0, 1) := by decide +kernel
theorem dX7_tryJoining_1 : decode cX7_tryJoining 1 = .ok (.getfield 19, 3) := by decide +kernel
theorem dX7_tryJoining_4 : decode cX7_tryJoining 4 = .ok (.iload_n 1, 1) := by decide +kernel
theorem dX7_tryJoining_5 : decode cX7_tryJoining 5 = .ok (.invokevirtual 249, 3) := by decide +kernel
theorem dX7_tryJoining_8 : decode cX7_tryJoining 8 = .ok (.ifCond .eq 14, 3) := by decide +kernel
theorem dX7_tryJoining_11 : decode cX7_tryJoining 11 = .ok (.aload_n 0, 1) := by decide +kernel
theorem dX7_tryJoining_12 : decode cX7_tryJoining 12 = .ok (.getfield 19, 3) := by decide +kernel
theorem dX7_tryJoining_15 : decode cX7_tryJoining 15 = .ok (.iload_n 2, 1) := by decide +kernel
theorem dX7_tryJoining_16 : decode cX7_tryJoining 16 = .ok (.invokevirtual 249, 3) := by decide +kernel
theorem dX7_tryJoining_19 : decode cX7_tryJoining 19 = .ok (.ifCond .ne 5, 3) := by decide +kernel
theorem dX7_tryJoining_22 : decode cX7_tryJoining 22 = .ok (.iconst 3, 1) := by decide +kernel
theorem dX7_tryJoining_23 : decode cX7_tryJoining 23 = .ok (.ireturn, 1) := by decide +kernel
theorem dX7_tryJoining_24 : decode cX7_tryJoining 24 = .ok (.aload_n 0, 1) := by decide +kernel
theorem dX7_tryJoining_25 : decode cX7_tryJoining 25 = .ok (.getfield 19, 3) := by decide +kernel
theorem dX7_tryJoining_28 : decode cX7_tryJoining 28 = .ok (.iload_n 1, 1) := by decide +kernel
theorem dX7_tryJoining_29 : decode cX7_tryJoining 29 = .ok (.invokevirtual 102, 3) := by decide +kernel
theorem dX7_tryJoining_32 : decode cX7_tryJoining 32 = .ok (.invokevirtual 74, 3) := by decide +kernel
theorem dX7_tryJoining_35 : decode cX7_tryJoining 35 = .ok (.astore_n 3, 1) := by decide +kernel
theorem dX7_tryJoining_36 : decode cX7_tryJoining 36 = .ok (.aload_n 0, 1) := by decide +kernel
theorem dX7_tryJoining_37 : decode cX7_tryJoining 37 = .ok (.getfield 19, 3) := by decide +kernel
theorem dX7_tryJoining_40 : decode cX7_tryJoining 40 = .ok (.iload_n 2, 1) := by decide +kernel
theorem dX7_tryJoining_41 : decode cX7_tryJoining 41 = .ok (.invokevirtual 102, 3) := by decide +kernel
theorem dX7_tryJoining_44 : decode cX7_tryJoining 44 = .ok (.invokevirtual 74, 3) := by decide +kernel
theorem dX7_tryJoining_47 : decode cX7_tryJoining 47 = .ok (.astore 4, 2) := by decide +kernel
theorem dX7_tryJoining_49 : decode cX7_tryJoining 49 = .ok (.aload_n 3, 1) := by decide +kernel
theorem dX7_tryJoining_50 : decode cX7_tryJoining 50 = .ok (.invokevirtual 283, 3) := by decide +kernel
theorem dX7_tryJoining_53 : decode cX7_tryJoining 53 = .ok (.aload 4, 2) := by decide +kernel
theorem dX7_tryJoining_55 : decode cX7_tryJoining 55 = .ok (.invokevirtual 283, 3) := by decide +kernel
theorem dX7_tryJoining_58 : decode cX7_tryJoining 58 = .ok (.if_icmp .eq 5, 3) := by decide +kernel
theorem dX7_tryJoining_61 : decode cX7_tryJoining 61 = .ok (.iconst 5, 1) := by decide +kernel
theorem dX7_tryJoining_62 : decode cX7_tryJoining 62 = .ok (.ireturn, 1) := by decide +kernel
theorem dX7_tryJoining_63 : decode cX7_tryJoining 63 = .ok (.aload_n 3, 1) := by decide +kernel
theorem dX7_tryJoining_64 : decode cX7_tryJoining 64 = .ok (.invokevirtual 106, 3) := by decide +kernel
theorem dX7_tryJoining_67 : decode cX7_tryJoining 67 = .ok (.aload 4, 2) := by decide +kernel
theorem dX7_tryJoining_69 : decode cX7_tryJoining 69 = .ok (.invokevirtual 106, 3) := by decide +kernel
theorem dX7_tryJoining_72 : decode cX7_tryJoining 72 = .ok (.iadd, 1) := by decide +kernel
theorem dX7_tryJoining_73 : decode cX7_tryJoining 73 = .ok (.bipush 24, 2) := by decide +kernel
theorem dX7_tryJoining_75 : decode cX7_tryJoining 75 = .ok (.if_icmp .le 5, 3) := by decide +kernel
theorem dX7_tryJoining_78 : decode cX7_tryJoining 78 = .ok (.iconst 1, 1) := by decide +kernel
theorem dX7_tryJoining_79 : decode cX7_tryJoining 79 = .ok (.ireturn, 1) := by decide +kernel
theorem dX7_tryJoining_80 : decode cX7_tryJoining 80 = .ok (.aload_n 0, 1) := by decide +kernel
theorem dX7_tryJoining_81 : decode cX7_tryJoining 81 = .ok (.getfield 40, 3) := by decide +kernel
theorem dX7_tryJoining_84 : decode cX7_tryJoining 84 = .ok (.invokevirtual 74, 3) := by decide +kernel
theorem dX7_tryJoining_87 : decode cX7_tryJoining 87 = .ok (.aload_n 3, 1) := by decide +kernel
theorem dX7_tryJoining_88 : decode cX7_tryJoining 88 = .ok (.invokevirtual 267, 3) := by decide +kernel
theorem dX7_tryJoining_91 : decode cX7_tryJoining 91 = .ok (.aload_n 0, 1) := by decide +kernel
theorem dX7_tryJoining_92 : decode cX7_tryJoining 92 = .ok (.getfield 40, 3) := by decide +kernel
theorem dX7_tryJoining_95 : decode cX7_tryJoining 95 = .ok (.invokevirtual 74, 3) := by decide +kernel
theorem dX7_tryJoining_98 : decode cX7_tryJoining 98 = .ok (.aload 4, 2) := by decide +kernel
theorem dX7_tryJoining_100 : decode cX7_tryJoining 100 = .ok (.invokevirtual 286, 3) := by decide +kernel
theorem dX7_tryJoining_103 : decode cX7_tryJoining 103 = .ok (.aload_n 0, 1) := by decide +kernel
theorem dX7_tryJoining_104 : decode cX7_tryJoining 104 = .ok (.getfield 40, 3) := by decide +kernel
theorem dX7_tryJoining_107 : decode cX7_tryJoining 107 = .ok (.invokevirtual 82, 3) := by decide +kernel
theorem dX7_tryJoining_110 : decode cX7_tryJoining 110 = .ok (.ireturn, 1) := by decide +kernel
theorem dX7_tryPart_0 : decode cX7_tryPart 0 = .ok (.aload_n 0, 1) := by decide +kernel
theorem dX7_tryPart_1 : decode cX7_tryPart 1 = .ok (.getfield 10, 3) := by decide +kernel
theorem dX7_tryPart_4 : decode cX7_tryPart 4 = .ok (.iload_n 1, 1) := by decide +kernel
theorem dX7_tryPart_5 : decode cX7_tryPart 5 = .ok (.iconst 1, 1) := by decide +kernel
theorem dX7_tryPart_6 : decode cX7_tryPart 6 = .ok (.iadd, 1) := by decide +kernel
theorem dX7_tryPart_7 : decode cX7_tryPart 7 = .ok (.invokevirtual 289, 3) := by decide +kernel
theorem dX7_tryPart_10 : decode cX7_tryPart 10 = .ok (.istore_n 2, 1) := by decide +kernel
theorem dX7_tryPart_11 : decode cX7_tryPart 11 = .ok (.aload_n 0, 1) := by decide +kernel
theorem dX7_tryPart_12 : decode cX7_tryPart 12 = .ok (.getfield 10, 3) := by decide +kernel
theorem dX7_tryPart_15 : decode cX7_tryPart 15 = .ok (.iload_n 1, 1) := by decide +kernel
theorem dX7_tryPart_16 : decode cX7_tryPart 16 = .ok (.invokevirtual 246, 3) := by decide +kernel
theorem dX7_tryPart_19 : decode cX7_tryPart 19 = .ok (.lookupswitch 91 #[(106, 69), (120, 33), (122, 85)], 33) := by decide +kernel
theorem dX7_tryPart_52 : decode cX7_tryPart 52 = .ok (.aload_n 0, 1) := by decide +kernel
theorem dX7_tryPart_53 : decode cX7_tryPart 53 = .ok (.iload_n 2, 1) := by decide +kernel
theorem dX7_tryPart_54 : decode cX7_tryPart 54 = .ok (.aload_n 0, 1) := by decide +kernel
theorem dX7_tryPart_55 : decode cX7_tryPart 55 = .ok (.getfield 10, 3) := by decide +kernel
theorem dX7_tryPart_58 : decode cX7_tryPart 58 = .ok (.iload_n 1, 1) := by decide +kernel
theorem dX7_tryPart_59 : decode cX7_tryPart 59 = .ok (.iconst 2, 1) := by decide +kernel
theorem dX7_tryPart_60 : decode cX7_tryPart 60 = .ok (.iadd, 1) := by decide +kernel
theorem dX7_tryPart_61 : decode cX7_tryPart 61 = .ok (.invokevirtual 292, 3) := by decide +kernel
theorem dX7_tryPart_64 : decode cX7_tryPart 64 = .ok (.aload_n 0, 1) := by decide +kernel
theorem dX7_tryPart_65 : decode cX7_tryPart 65 = .ok (.getfield 10, 3) := by decide +kernel
theorem dX7_tryPart_68 : decode cX7_tryPart 68 = .ok (.iload_n 1, 1) := by decide +kernel
theorem dX7_tryPart_69 : decode cX7_tryPart 69 = .ok (.iconst 3, 1) := by decide +kernel
theorem dX7_tryPart_70 : decode cX7_tryPart 70 = .ok (.iadd, 1) := by decide +kernel
theorem dX7_tryPart_71 : decode cX7_tryPart 71 = .ok (.invokevirtual 246, 3) := by decide +kernel
theorem dX7_tryPart_74 : decode cX7_tryPart 74 = .ok (.bipush 43, 2) := by decide +kernel
theorem dX7_tryPart_76 : decode cX7_tryPart 76 = .ok (.if_icmp .ne 7, 3) := by decide +kernel
theorem dX7_tryPart_79 : decode cX7_tryPart 79 = .ok (.iconst 1, 1) := by decide +kernel
theorem dX7_tryPart_80 : decode cX7_tryPart 80 = .ok (.goto 4, 3) := by decide +kernel
theorem dX7_tryPart_83 : decode cX7_tryPart 83 = .ok (.iconst 0, 1) := by decide +kernel
theorem dX7_tryPart_84 : decode cX7_tryPart 84 = .ok (.invokevirtual 114, 3) := by decide +kernel
theorem dX7_tryPart_87 : decode cX7_tryPart 87 = .ok (.ireturn, 1) := by decide +kernel
theorem dX7_tryPart_88 : decode cX7_tryPart 88 = .ok (.aload_n 0, 1) := by decide +kernel
theorem dX7_tryPart_89 : decode cX7_tryPart 89 = .ok (.iload_n 2, 1) := by decide +kernel
theorem dX7_tryPart_90 : decode cX7_tryPart 90 = .ok (.aload_n 0, 1) := by decide +kernel
theorem dX7_tryPart_91 : decode cX7_tryPart 91 = .ok (.getfield 10, 3) := by decide +kernel
theorem dX7_tryPart_94 : decode cX7_tryPart 94 = .ok (.iload_n 1, 1) := by decide +kernel
theorem dX7_tryPart_95 : decode cX7_tryPart 95 = .ok (.iconst 3, 1) := by decide +kernel
theorem dX7_tryPart_96 : decode cX7_tryPart 96 = .ok (.iadd, 1) := by decide +kernel
theorem dX7_tryPart_97 : decode cX7_tryPart 97 = .ok (.invokevirtual 289, 3) := by decide +kernel
theorem dX7_tryPart_100 : decode cX7_tryPart 100 = .ok (.invokevirtual 147, 3) := by decide +kernel
theorem dX7_tryPart_103 : decode cX7_tryPart 103 = .ok (.ireturn, 1) := by decide +kernel
theorem dX7_tryPart_104 : decode cX7_tryPart 104 = .ok (.aload_n 0, 1) := by decide +kernel
theorem dX7_tryPart_105 : decode cX7_tryPart 105 = .ok (.iload_n 2, 1) := by decide +kernel
theorem dX7_tryPart_106 : decode cX7_tryPart 106 = .ok (.invokevirtual 134, 3) := by decide +kernel
theorem dX7_tryPart_109 : decode cX7_tryPart 109 = .ok (.ireturn, 1) := by decide +kernel
theorem dX7_tryPart_110 : decode cX7_tryPart 110 = .ok (.aload_n 0, 1) := by decide +kernel
theorem dX7_tryPart_111 : decode cX7_tryPart 111 = .ok (.iload_n 2, 1) := by decide +kernel
theorem dX7_tryPart_112 : decode cX7_tryPart 112 = .ok (.aload_n 0, 1) := by decide +kernel
theorem dX7_tryPart_113 : decode cX7_tryPart 113 = .ok (.getfield 10, 3) := by decide +kernel
theorem dX7_tryPart_116 : decode cX7_tryPart 116 = .ok (.iload_n 1, 1) := by decide +kernel
theorem dX7_tryPart_117 : decode cX7_tryPart 117 = .ok (.invokevirtual 295, 3) := by decide +kernel
theorem dX7_tryPart_120 : decode cX7_tryPart 120 = .ok (.invokevirtual 140, 3) := by decide +kernel
theorem dX7_tryPart_123 : decode cX7_tryPart 123 = .ok (.ireturn, 1) := by decide +kernel
theorem dX7_doTriedPart_0 : decode cX7_doTriedPart 0 = .ok (.aload_n 0, 1) := by decide +kernel
theorem dX7_doTriedPart_1 : decode cX7_doTriedPart 1 = .ok (.getfield 19, 3) := by decide +kernel
theorem dX7_doTriedPart_4 : decode cX7_doTriedPart 4 = .ok (.aload_n 0, 1) := by decide +kernel
theorem dX7_doTriedPart_5 : decode cX7_doTriedPart 5 = .ok (.getfield 10, 3) := by decide +kernel
theorem dX7_doTriedPart_8 : decode cX7_doTriedPart 8 = .ok (.iload_n 1, 1) := by decide +kernel
theorem dX7_doTriedPart_9 : decode cX7_doTriedPart 9 = .ok (.iconst 1, 1) := by decide +kernel
theorem dX7_doTriedPart_10 : decode cX7_doTriedPart 10 = .ok (.iadd, 1) := by decide +kernel
theorem dX7_doTriedPart_11 : decode cX7_doTriedPart 11 = .ok (.invokevirtual 289, 3) := by decide +kernel
theorem dX7_doTriedPart_14 : decode cX7_doTriedPart 14 = .ok (.invokevirtual 102, 3) := by decide +kernel
theorem dX7_doTriedPart_17 : decode cX7_doTriedPart 17 = .ok (.aload_n 0, 1) := by decide +kernel
theorem dX7_doTriedPart_18 : decode cX7_doTriedPart 18 = .ok (.getfield 40, 3) := by decide +kernel
theorem dX7_doTriedPart_21 : decode cX7_doTriedPart 21 = .ok (.invokevirtual 121, 3) := by decide +kernel
theorem dX7_doTriedPart_24 : decode cX7_doTriedPart 24 = .ok (.aload_n 0, 1) := by decide +kernel
theorem dX7_doTriedPart_25 : decode cX7_doTriedPart 25 = .ok (.getfield 10, 3) := by decide +kernel
theorem dX7_doTriedPart_28 : decode cX7_doTriedPart 28 = .ok (.iload_n 1, 1) := by decide +kernel
theorem dX7_doTriedPart_29 : decode cX7_doTriedPart 29 = .ok (.invokevirtual 295, 3) := by decide +kernel
theorem dX7_doTriedPart_32 : decode cX7_doTriedPart 32 = .ok (.iconst (-1), 1) := by decide +kernel
theorem dX7_doTriedPart_33 : decode cX7_doTriedPart 33 = .ok (.if_icmp .eq 10, 3) := by decide +kernel
theorem dX7_doTriedPart_36 : decode cX7_doTriedPart 36 = .ok (.aload_n 0, 1) := by decide +kernel
theorem dX7_doTriedPart_37 : decode cX7_doTriedPart 37 = .ok (.getfield 19, 3) := by decide +kernel
theorem dX7_doTriedPart_40 : decode cX7_doTriedPart 40 = .ok (.invokevirtual 144, 3) := by decide +kernel
theorem dX7_doTriedPart_43 : decode cX7_doTriedPart 43 = .ok (.return_, 1) := by decide +kernel
theorem dX7_numberOfLoaf_0 : decode cX7_numberOfLoaf 0 = .ok (.aload_n 0, 1) := by decide +kernel
theorem dX7_numberOfLoaf_1 : decode cX7_numberOfLoaf 1 = .ok (.getfield 19, 3) := by decide +kernel
theorem dX7_numberOfLoaf_4 : decode cX7_numberOfLoaf 4 = .ok (.iload_n 1, 1) := by decide +kernel
theorem dX7_numberOfLoaf_5 : decode cX7_numberOfLoaf 5 = .ok (.invokevirtual 102, 3) := by decide +kernel
theorem dX7_numberOfLoaf_8 : decode cX7_numberOfLoaf 8 = .ok (.astore_n 3, 1) := by decide +kernel
theorem dX7_numberOfLoaf_9 : decode cX7_numberOfLoaf 9 = .ok (.iload_n 2, 1) := by decide +kernel
theorem dX7_numberOfLoaf_10 : decode cX7_numberOfLoaf 10 = .ok (.tableswitch 167 0 9 #[54, 62, 70, 81, 89, 97, 116, 135, 143, 159], 54) := by decide +kernel
theorem dX7_numberOfLoaf_64 : decode cX7_numberOfLoaf 64 = .ok (.aload_n 3, 1) := by decide +kernel
theorem dX7_numberOfLoaf_65 : decode cX7_numberOfLoaf 65 = .ok (.invokevirtual 74, 3) := by decide +kernel
theorem dX7_numberOfLoaf_68 : decode cX7_numberOfLoaf 68 = .ok (.invokevirtual 283, 3) := by decide +kernel
theorem dX7_numberOfLoaf_71 : decode cX7_numberOfLoaf 71 = .ok (.ireturn, 1) := by decide +kernel
theorem dX7_numberOfLoaf_72 : decode cX7_numberOfLoaf 72 = .ok (.aload_n 3, 1) := by decide +kernel
theorem dX7_numberOfLoaf_73 : decode cX7_numberOfLoaf 73 = .ok (.invokevirtual 74, 3) := by decide +kernel
theorem dX7_numberOfLoaf_76 : decode cX7_numberOfLoaf 76 = .ok (.invokevirtual 106, 3) := by decide +kernel
theorem dX7_numberOfLoaf_79 : decode cX7_numberOfLoaf 79 = .ok (.ireturn, 1) := by decide +kernel
theorem dX7_numberOfLoaf_80 : decode cX7_numberOfLoaf 80 = .ok (.bipush 100, 2) := by decide +kernel
theorem dX7_numberOfLoaf_82 : decode cX7_numberOfLoaf 82 = .ok (.aload_n 3, 1) := by decide +kernel
theorem dX7_numberOfLoaf_83 : decode cX7_numberOfLoaf 83 = .ok (.invokevirtual 74, 3) := by decide +kernel
theorem dX7_numberOfLoaf_86 : decode cX7_numberOfLoaf 86 = .ok (.invokevirtual 298, 3) := by decide +kernel
theorem dX7_numberOfLoaf_89 : decode cX7_numberOfLoaf 89 = .ok (.iadd, 1) := by decide +kernel
theorem dX7_numberOfLoaf_90 : decode cX7_numberOfLoaf 90 = .ok (.ireturn, 1) := by decide +kernel
theorem dX7_numberOfLoaf_91 : decode cX7_numberOfLoaf 91 = .ok (.aload_n 3, 1) := by decide +kernel
theorem dX7_numberOfLoaf_92 : decode cX7_numberOfLoaf 92 = .ok (.invokevirtual 124, 3) := by decide +kernel
theorem dX7_numberOfLoaf_95 : decode cX7_numberOfLoaf 95 = .ok (.invokevirtual 301, 3) := by decide +kernel
theorem dX7_numberOfLoaf_98 : decode cX7_numberOfLoaf 98 = .ok (.ireturn, 1) := by decide +kernel
theorem dX7_numberOfLoaf_99 : decode cX7_numberOfLoaf 99 = .ok (.aload_n 3, 1) := by decide +kernel
theorem dX7_numberOfLoaf_100 : decode cX7_numberOfLoaf 100 = .ok (.invokevirtual 124, 3) := by decide +kernel
theorem dX7_numberOfLoaf_103 : decode cX7_numberOfLoaf 103 = .ok (.invokevirtual 304, 3) := by decide +kernel
theorem dX7_numberOfLoaf_106 : decode cX7_numberOfLoaf 106 = .ok (.ireturn, 1) := by decide +kernel
theorem dX7_numberOfLoaf_107 : decode cX7_numberOfLoaf 107 = .ok (.aload_n 0, 1) := by decide +kernel
theorem dX7_numberOfLoaf_108 : decode cX7_numberOfLoaf 108 = .ok (.getfield 51, 3) := by decide +kernel
theorem dX7_numberOfLoaf_111 : decode cX7_numberOfLoaf 111 = .ok (.aload_n 3, 1) := by decide +kernel
theorem dX7_numberOfLoaf_112 : decode cX7_numberOfLoaf 112 = .ok (.invokevirtual 74, 3) := by decide +kernel
theorem dX7_numberOfLoaf_115 : decode cX7_numberOfLoaf 115 = .ok (.invokevirtual 307, 3) := by decide +kernel
theorem dX7_numberOfLoaf_118 : decode cX7_numberOfLoaf 118 = .ok (.aload_n 0, 1) := by decide +kernel
theorem dX7_numberOfLoaf_119 : decode cX7_numberOfLoaf 119 = .ok (.getfield 51, 3) := by decide +kernel
theorem dX7_numberOfLoaf_122 : decode cX7_numberOfLoaf 122 = .ok (.invokevirtual 106, 3) := by decide +kernel
theorem dX7_numberOfLoaf_125 : decode cX7_numberOfLoaf 125 = .ok (.ireturn, 1) := by decide +kernel
theorem dX7_numberOfLoaf_126 : decode cX7_numberOfLoaf 126 = .ok (.aload_n 0, 1) := by decide +kernel
theorem dX7_numberOfLoaf_127 : decode cX7_numberOfLoaf 127 = .ok (.getfield 51, 3) := by decide +kernel
theorem dX7_numberOfLoaf_130 : decode cX7_numberOfLoaf 130 = .ok (.aload_n 3, 1) := by decide +kernel
theorem dX7_numberOfLoaf_131 : decode cX7_numberOfLoaf 131 = .ok (.invokevirtual 74, 3) := by decide +kernel
theorem dX7_numberOfLoaf_134 : decode cX7_numberOfLoaf 134 = .ok (.invokevirtual 310, 3) := by decide +kernel
theorem dX7_numberOfLoaf_137 : decode cX7_numberOfLoaf 137 = .ok (.aload_n 0, 1) := by decide +kernel
theorem dX7_numberOfLoaf_138 : decode cX7_numberOfLoaf 138 = .ok (.getfield 51, 3) := by decide +kernel
theorem dX7_numberOfLoaf_141 : decode cX7_numberOfLoaf 141 = .ok (.invokevirtual 106, 3) := by decide +kernel
theorem dX7_numberOfLoaf_144 : decode cX7_numberOfLoaf 144 = .ok (.ireturn, 1) := by decide +kernel
theorem dX7_numberOfLoaf_145 : decode cX7_numberOfLoaf 145 = .ok (.aload_n 3, 1) := by decide +kernel
theorem dX7_numberOfLoaf_146 : decode cX7_numberOfLoaf 146 = .ok (.invokevirtual 209, 3) := by decide +kernel
theorem dX7_numberOfLoaf_149 : decode cX7_numberOfLoaf 149 = .ok (.invokevirtual 106, 3) := by decide +kernel
theorem dX7_numberOfLoaf_152 : decode cX7_numberOfLoaf 152 = .ok (.ireturn, 1) := by decide +kernel
theorem dX7_numberOfLoaf_153 : decode cX7_numberOfLoaf 153 = .ok (.aload_n 3, 1) := by decide +kernel
theorem dX7_numberOfLoaf_154 : decode cX7_numberOfLoaf 154 = .ok (.invokevirtual 124, 3) := by decide +kernel
theorem dX7_numberOfLoaf_157 : decode cX7_numberOfLoaf 157 = .ok (.invokevirtual 313, 3) := by decide +kernel
theorem dX7_numberOfLoaf_160 : decode cX7_numberOfLoaf 160 = .ok (.ifCond .eq 7, 3) := by decide +kernel
theorem dX7_numberOfLoaf_163 : decode cX7_numberOfLoaf 163 = .ok (.iconst 1, 1) := by decide +kernel
theorem dX7_numberOfLoaf_164 : decode cX7_numberOfLoaf 164 = .ok (.goto 4, 3) := by decide +kernel
theorem dX7_numberOfLoaf_167 : decode cX7_numberOfLoaf 167 = .ok (.iconst 0, 1) := by decide +kernel
theorem dX7_numberOfLoaf_168 : decode cX7_numberOfLoaf 168 = .ok (.ireturn, 1) := by decide +kernel
theorem dX7_numberOfLoaf_169 : decode cX7_numberOfLoaf 169 = .ok (.aload_n 3, 1) := by decide +kernel
theorem dX7_numberOfLoaf_170 : decode cX7_numberOfLoaf 170 = .ok (.invokevirtual 124, 3) := by decide +kernel
theorem dX7_numberOfLoaf_173 : decode cX7_numberOfLoaf 173 = .ok (.invokevirtual 316, 3) := by decide +kernel
theorem dX7_numberOfLoaf_176 : decode cX7_numberOfLoaf 176 = .ok (.ireturn, 1) := by decide +kernel
theorem dX7_numberOfLoaf_177 : decode cX7_numberOfLoaf 177 = .ok (.aload_n 0, 1) := by decide +kernel
theorem dX7_numberOfLoaf_178 : decode cX7_numberOfLoaf 178 = .ok (.iload_n 1, 1) := by decide +kernel
theorem dX7_numberOfLoaf_179 : decode cX7_numberOfLoaf 179 = .ok (.invokevirtual 319, 3) := by decide +kernel
theorem dX7_numberOfLoaf_182 : decode cX7_numberOfLoaf 182 = .ok (.ireturn, 1) := by decide +kernel
theorem dX7_numberOfBoard_0 : decode cX7_numberOfBoard 0 = .ok (.iload_n 1, 1) := by decide +kernel
theorem dX7_numberOfBoard_1 : decode cX7_numberOfBoard 1 = .ok (.tableswitch 77 0 5 #[39, 47, 52, 57, 64, 69], 39) := by decide +kernel
theorem dX7_numberOfBoard_40 : decode cX7_numberOfBoard 40 = .ok (.aload_n 0, 1) := by decide +kernel
theorem dX7_numberOfBoard_41 : decode cX7_numberOfBoard 41 = .ok (.getfield 19, 3) := by decide +kernel
theorem dX7_numberOfBoard_44 : decode cX7_numberOfBoard 44 = .ok (.invokevirtual 65, 3) := by decide +kernel
theorem dX7_numberOfBoard_47 : decode cX7_numberOfBoard 47 = .ok (.ireturn, 1) := by decide +kernel
theorem dX7_numberOfBoard_48 : decode cX7_numberOfBoard 48 = .ok (.aload_n 0, 1) := by decide +kernel
theorem dX7_numberOfBoard_49 : decode cX7_numberOfBoard 49 = .ok (.invokevirtual 227, 3) := by decide +kernel
theorem dX7_numberOfBoard_52 : decode cX7_numberOfBoard 52 = .ok (.ireturn, 1) := by decide +kernel
theorem dX7_numberOfBoard_53 : decode cX7_numberOfBoard 53 = .ok (.aload_n 0, 1) := by decide +kernel
theorem dX7_numberOfBoard_54 : decode cX7_numberOfBoard 54 = .ok (.invokevirtual 322, 3) := by decide +kernel
theorem dX7_numberOfBoard_57 : decode cX7_numberOfBoard 57 = .ok (.ireturn, 1) := by decide +kernel
theorem dX7_numberOfBoard_58 : decode cX7_numberOfBoard 58 = .ok (.iconst 3, 1) := by decide +kernel
theorem dX7_numberOfBoard_59 : decode cX7_numberOfBoard 59 = .ok (.aload_n 0, 1) := by decide +kernel
theorem dX7_numberOfBoard_60 : decode cX7_numberOfBoard 60 = .ok (.invokevirtual 227, 3) := by decide +kernel
theorem dX7_numberOfBoard_63 : decode cX7_numberOfBoard 63 = .ok (.imul, 1) := by decide +kernel
theorem dX7_numberOfBoard_64 : decode cX7_numberOfBoard 64 = .ok (.ireturn, 1) := by decide +kernel
theorem dX7_numberOfBoard_65 : decode cX7_numberOfBoard 65 = .ok (.aload_n 0, 1) := by decide +kernel
theorem dX7_numberOfBoard_66 : decode cX7_numberOfBoard 66 = .ok (.invokevirtual 325, 3) := by decide +kernel
theorem dX7_numberOfBoard_69 : decode cX7_numberOfBoard 69 = .ok (.ireturn, 1) := by decide +kernel
theorem dX7_numberOfBoard_70 : decode cX7_numberOfBoard 70 = .ok (.aload_n 0, 1) := by decide +kernel
theorem dX7_numberOfBoard_71 : decode cX7_numberOfBoard 71 = .ok (.getfield 19, 3) := by decide +kernel
theorem dX7_numberOfBoard_74 : decode cX7_numberOfBoard 74 = .ok (.invokevirtual 328, 3) := by decide +kernel
theorem dX7_numberOfBoard_77 : decode cX7_numberOfBoard 77 = .ok (.ireturn, 1) := by decide +kernel
theorem dX7_numberOfBoard_78 : decode cX7_numberOfBoard 78 = .ok (.aload_n 0, 1) := by decide +kernel
theorem dX7_numberOfBoard_79 : decode cX7_numberOfBoard 79 = .ok (.getfield 26, 3) := by decide +kernel
theorem dX7_numberOfBoard_82 : decode cX7_numberOfBoard 82 = .ok (.invokevirtual 190, 3) := by decide +kernel
theorem dX7_numberOfBoard_85 : decode cX7_numberOfBoard 85 = .ok (.ireturn, 1) := by decide +kernel
theorem dX7_crossingsOfAll_0 : decode cX7_crossingsOfAll 0 = .ok (.iconst 0, 1) := by decide +kernel
theorem dX7_crossingsOfAll_1 : decode cX7_crossingsOfAll 1 = .ok (.istore_n 1, 1) := by decide +kernel
theorem dX7_crossingsOfAll_2 : decode cX7_crossingsOfAll 2 = .ok (.iconst 0, 1) := by decide +kernel
theorem dX7_crossingsOfAll_3 : decode cX7_crossingsOfAll 3 = .ok (.istore_n 2, 1) := by decide +kernel
theorem dX7_crossingsOfAll_4 : decode cX7_crossingsOfAll 4 = .ok (.iload_n 2, 1) := by decide +kernel
theorem dX7_crossingsOfAll_5 : decode cX7_crossingsOfAll 5 = .ok (.aload_n 0, 1) := by decide +kernel
theorem dX7_crossingsOfAll_6 : decode cX7_crossingsOfAll 6 = .ok (.getfield 19, 3) := by decide +kernel
theorem dX7_crossingsOfAll_9 : decode cX7_crossingsOfAll 9 = .ok (.invokevirtual 65, 3) := by decide +kernel
theorem dX7_crossingsOfAll_12 : decode cX7_crossingsOfAll 12 = .ok (.if_icmp .ge 26, 3) := by decide +kernel
theorem dX7_crossingsOfAll_15 : decode cX7_crossingsOfAll 15 = .ok (.iload_n 1, 1) := by decide +kernel
theorem dX7_crossingsOfAll_16 : decode cX7_crossingsOfAll 16 = .ok (.aload_n 0, 1) := by decide +kernel
theorem dX7_crossingsOfAll_17 : decode cX7_crossingsOfAll 17 = .ok (.getfield 19, 3) := by decide +kernel
theorem dX7_crossingsOfAll_20 : decode cX7_crossingsOfAll 20 = .ok (.iload_n 2, 1) := by decide +kernel
theorem dX7_crossingsOfAll_21 : decode cX7_crossingsOfAll 21 = .ok (.invokevirtual 102, 3) := by decide +kernel
theorem dX7_crossingsOfAll_24 : decode cX7_crossingsOfAll 24 = .ok (.invokevirtual 74, 3) := by decide +kernel
theorem dX7_crossingsOfAll_27 : decode cX7_crossingsOfAll 27 = .ok (.invokevirtual 106, 3) := by decide +kernel
theorem dX7_crossingsOfAll_30 : decode cX7_crossingsOfAll 30 = .ok (.iadd, 1) := by decide +kernel
theorem dX7_crossingsOfAll_31 : decode cX7_crossingsOfAll 31 = .ok (.istore_n 1, 1) := by decide +kernel
theorem dX7_crossingsOfAll_32 : decode cX7_crossingsOfAll 32 = .ok (.iinc 2 1, 3) := by decide +kernel
theorem dX7_crossingsOfAll_35 : decode cX7_crossingsOfAll 35 = .ok (.goto (-31), 3) := by decide +kernel
theorem dX7_crossingsOfAll_38 : decode cX7_crossingsOfAll 38 = .ok (.iload_n 1, 1) := by decide +kernel
theorem dX7_crossingsOfAll_39 : decode cX7_crossingsOfAll 39 = .ok (.ireturn, 1) := by decide +kernel
theorem dX7_doughUsedByStrands_0 : decode cX7_doughUsedByStrands 0 = .ok (.iconst 0, 1) := by decide +kernel
theorem dX7_doughUsedByStrands_1 : decode cX7_doughUsedByStrands 1 = .ok (.istore_n 1, 1) := by decide +kernel
theorem dX7_doughUsedByStrands_2 : decode cX7_doughUsedByStrands 2 = .ok (.iconst 0, 1) := by decide +kernel
theorem dX7_doughUsedByStrands_3 : decode cX7_doughUsedByStrands 3 = .ok (.istore_n 2, 1) := by decide +kernel
theorem dX7_doughUsedByStrands_4 : decode cX7_doughUsedByStrands 4 = .ok (.iload_n 2, 1) := by decide +kernel
theorem dX7_doughUsedByStrands_5 : decode cX7_doughUsedByStrands 5 = .ok (.aload_n 0, 1) := by decide +kernel
theorem dX7_doughUsedByStrands_6 : decode cX7_doughUsedByStrands 6 = .ok (.getfield 19, 3) := by decide +kernel
theorem dX7_doughUsedByStrands_9 : decode cX7_doughUsedByStrands 9 = .ok (.invokevirtual 65, 3) := by decide +kernel
theorem dX7_doughUsedByStrands_12 : decode cX7_doughUsedByStrands 12 = .ok (.if_icmp .ge 26, 3) := by decide +kernel
theorem dX7_doughUsedByStrands_15 : decode cX7_doughUsedByStrands 15 = .ok (.iload_n 1, 1) := by decide +kernel
theorem dX7_doughUsedByStrands_16 : decode cX7_doughUsedByStrands 16 = .ok (.aload_n 0, 1) := by decide +kernel
theorem dX7_doughUsedByStrands_17 : decode cX7_doughUsedByStrands 17 = .ok (.getfield 19, 3) := by decide +kernel
theorem dX7_doughUsedByStrands_20 : decode cX7_doughUsedByStrands 20 = .ok (.iload_n 2, 1) := by decide +kernel
theorem dX7_doughUsedByStrands_21 : decode cX7_doughUsedByStrands 21 = .ok (.invokevirtual 102, 3) := by decide +kernel
theorem dX7_doughUsedByStrands_24 : decode cX7_doughUsedByStrands 24 = .ok (.invokevirtual 124, 3) := by decide +kernel
theorem dX7_doughUsedByStrands_27 : decode cX7_doughUsedByStrands 27 = .ok (.invokevirtual 331, 3) := by decide +kernel
theorem dX7_doughUsedByStrands_30 : decode cX7_doughUsedByStrands 30 = .ok (.iadd, 1) := by decide +kernel
theorem dX7_doughUsedByStrands_31 : decode cX7_doughUsedByStrands 31 = .ok (.istore_n 1, 1) := by decide +kernel
theorem dX7_doughUsedByStrands_32 : decode cX7_doughUsedByStrands 32 = .ok (.iinc 2 1, 3) := by decide +kernel
theorem dX7_doughUsedByStrands_35 : decode cX7_doughUsedByStrands 35 = .ok (.goto (-31), 3) := by decide +kernel
theorem dX7_doughUsedByStrands_38 : decode cX7_doughUsedByStrands 38 = .ok (.iload_n 1, 1) := by decide +kernel
theorem dX7_doughUsedByStrands_39 : decode cX7_doughUsedByStrands 39 = .ok (.ireturn, 1) := by decide +kernel
theorem dX7_kinds_0 : decode cX7_kinds 0 = .ok (.iconst 0, 1) := by decide +kernel
theorem dX7_kinds_1 : decode cX7_kinds 1 = .ok (.istore_n 1, 1) := by decide +kernel
theorem dX7_kinds_2 : decode cX7_kinds 2 = .ok (.iconst 0, 1) := by decide +kernel
theorem dX7_kinds_3 : decode cX7_kinds 3 = .ok (.istore_n 2, 1) := by decide +kernel
theorem dX7_kinds_4 : decode cX7_kinds 4 = .ok (.iload_n 2, 1) := by decide +kernel
theorem dX7_kinds_5 : decode cX7_kinds 5 = .ok (.aload_n 0, 1) := by decide +kernel
theorem dX7_kinds_6 : decode cX7_kinds 6 = .ok (.getfield 19, 3) := by decide +kernel
theorem dX7_kinds_9 : decode cX7_kinds 9 = .ok (.invokevirtual 65, 3) := by decide +kernel
theorem dX7_kinds_12 : decode cX7_kinds 12 = .ok (.if_icmp .ge 21, 3) := by decide +kernel
theorem dX7_kinds_15 : decode cX7_kinds 15 = .ok (.aload_n 0, 1) := by decide +kernel
theorem dX7_kinds_16 : decode cX7_kinds 16 = .ok (.iload_n 2, 1) := by decide +kernel
theorem dX7_kinds_17 : decode cX7_kinds 17 = .ok (.invokevirtual 319, 3) := by decide +kernel
theorem dX7_kinds_20 : decode cX7_kinds 20 = .ok (.iload_n 2, 1) := by decide +kernel
theorem dX7_kinds_21 : decode cX7_kinds 21 = .ok (.if_icmp .ne 6, 3) := by decide +kernel
theorem dX7_kinds_24 : decode cX7_kinds 24 = .ok (.iinc 1 1, 3) := by decide +kernel
theorem dX7_kinds_27 : decode cX7_kinds 27 = .ok (.iinc 2 1, 3) := by decide +kernel
theorem dX7_kinds_30 : decode cX7_kinds 30 = .ok (.goto (-26), 3) := by decide +kernel
theorem dX7_kinds_33 : decode cX7_kinds 33 = .ok (.iload_n 1, 1) := by decide +kernel
theorem dX7_kinds_34 : decode cX7_kinds 34 = .ok (.ireturn, 1) := by decide +kernel
theorem dX7_firstAlike_0 : decode cX7_firstAlike 0 = .ok (.aload_n 0, 1) := by decide +kernel
theorem dX7_firstAlike_1 : decode cX7_firstAlike 1 = .ok (.getfield 19, 3) := by decide +kernel
theorem dX7_firstAlike_4 : decode cX7_firstAlike 4 = .ok (.iload_n 1, 1) := by decide +kernel
theorem dX7_firstAlike_5 : decode cX7_firstAlike 5 = .ok (.invokevirtual 102, 3) := by decide +kernel
theorem dX7_firstAlike_8 : decode cX7_firstAlike 8 = .ok (.invokevirtual 209, 3) := by decide +kernel
theorem dX7_firstAlike_11 : decode cX7_firstAlike 11 = .ok (.astore_n 2, 1) := by decide +kernel
theorem dX7_firstAlike_12 : decode cX7_firstAlike 12 = .ok (.iconst 0, 1) := by decide +kernel
theorem dX7_firstAlike_13 : decode cX7_firstAlike 13 = .ok (.istore_n 3, 1) := by decide +kernel
theorem dX7_firstAlike_14 : decode cX7_firstAlike 14 = .ok (.iload_n 3, 1) := by decide +kernel
theorem dX7_firstAlike_15 : decode cX7_firstAlike 15 = .ok (.iload_n 1, 1) := by decide +kernel
theorem dX7_firstAlike_16 : decode cX7_firstAlike 16 = .ok (.if_icmp .ge 29, 3) := by decide +kernel
theorem dX7_firstAlike_19 : decode cX7_firstAlike 19 = .ok (.aload_n 0, 1) := by decide +kernel
theorem dX7_firstAlike_20 : decode cX7_firstAlike 20 = .ok (.getfield 19, 3) := by decide +kernel
theorem dX7_firstAlike_23 : decode cX7_firstAlike 23 = .ok (.iload_n 3, 1) := by decide +kernel
theorem dX7_firstAlike_24 : decode cX7_firstAlike 24 = .ok (.invokevirtual 102, 3) := by decide +kernel
theorem dX7_firstAlike_27 : decode cX7_firstAlike 27 = .ok (.invokevirtual 209, 3) := by decide +kernel
theorem dX7_firstAlike_30 : decode cX7_firstAlike 30 = .ok (.aload_n 2, 1) := by decide +kernel
theorem dX7_firstAlike_31 : decode cX7_firstAlike 31 = .ok (.invokevirtual 334, 3) := by decide +kernel
theorem dX7_firstAlike_34 : decode cX7_firstAlike 34 = .ok (.ifCond .eq 5, 3) := by decide +kernel
theorem dX7_firstAlike_37 : decode cX7_firstAlike 37 = .ok (.iload_n 3, 1) := by decide +kernel
theorem dX7_firstAlike_38 : decode cX7_firstAlike 38 = .ok (.ireturn, 1) := by decide +kernel
theorem dX7_firstAlike_39 : decode cX7_firstAlike 39 = .ok (.iinc 3 1, 3) := by decide +kernel
theorem dX7_firstAlike_42 : decode cX7_firstAlike 42 = .ok (.goto (-28), 3) := by decide +kernel
theorem dX7_firstAlike_45 : decode cX7_firstAlike 45 = .ok (.iload_n 1, 1) := by decide +kernel
theorem dX7_firstAlike_46 : decode cX7_firstAlike 46 = .ok (.ireturn, 1) := by decide +kernel
theorem dX7_likeness_0 : decode cX7_likeness 0 = .ok (.aload_n 0, 1) := by decide +kernel
theorem dX7_likeness_1 : decode cX7_likeness 1 = .ok (.getfield 19, 3) := by decide +kernel
theorem dX7_likeness_4 : decode cX7_likeness 4 = .ok (.iload_n 2, 1) := by decide +kernel
theorem dX7_likeness_5 : decode cX7_likeness 5 = .ok (.invokevirtual 102, 3) := by decide +kernel
theorem dX7_likeness_8 : decode cX7_likeness 8 = .ok (.invokevirtual 209, 3) := by decide +kernel
theorem dX7_likeness_11 : decode cX7_likeness 11 = .ok (.astore_n 3, 1) := by decide +kernel
theorem dX7_likeness_12 : decode cX7_likeness 12 = .ok (.aload_n 0, 1) := by decide +kernel
theorem dX7_likeness_13 : decode cX7_likeness 13 = .ok (.getfield 19, 3) := by decide +kernel
theorem dX7_likeness_16 : decode cX7_likeness 16 = .ok (.iload_n 1, 1) := by decide +kernel
theorem dX7_likeness_17 : decode cX7_likeness 17 = .ok (.invokevirtual 102, 3) := by decide +kernel
theorem dX7_likeness_20 : decode cX7_likeness 20 = .ok (.invokevirtual 209, 3) := by decide +kernel
theorem dX7_likeness_23 : decode cX7_likeness 23 = .ok (.aload_n 3, 1) := by decide +kernel
theorem dX7_likeness_24 : decode cX7_likeness 24 = .ok (.invokevirtual 334, 3) := by decide +kernel
theorem dX7_likeness_27 : decode cX7_likeness 27 = .ok (.ifCond .eq 5, 3) := by decide +kernel
theorem dX7_likeness_30 : decode cX7_likeness 30 = .ok (.iconst 1, 1) := by decide +kernel
theorem dX7_likeness_31 : decode cX7_likeness 31 = .ok (.ireturn, 1) := by decide +kernel
theorem dX7_likeness_32 : decode cX7_likeness 32 = .ok (.iconst 0, 1) := by decide +kernel
theorem dX7_likeness_33 : decode cX7_likeness 33 = .ok (.istore 4, 2) := by decide +kernel
theorem dX7_likeness_35 : decode cX7_likeness 35 = .ok (.iload 4, 2) := by decide +kernel
theorem dX7_likeness_37 : decode cX7_likeness 37 = .ok (.iconst 2, 1) := by decide +kernel
theorem dX7_likeness_38 : decode cX7_likeness 38 = .ok (.if_icmp .gt 56, 3) := by decide +kernel
theorem dX7_likeness_41 : decode cX7_likeness 41 = .ok (.aload_n 0, 1) := by decide +kernel
theorem dX7_likeness_42 : decode cX7_likeness 42 = .ok (.getfield 47, 3) := by decide +kernel
theorem dX7_likeness_45 : decode cX7_likeness 45 = .ok (.aload_n 0, 1) := by decide +kernel
theorem dX7_likeness_46 : decode cX7_likeness 46 = .ok (.getfield 19, 3) := by decide +kernel
theorem dX7_likeness_49 : decode cX7_likeness 49 = .ok (.iload_n 1, 1) := by decide +kernel
theorem dX7_likeness_50 : decode cX7_likeness 50 = .ok (.invokevirtual 102, 3) := by decide +kernel
theorem dX7_likeness_53 : decode cX7_likeness 53 = .ok (.invokevirtual 74, 3) := by decide +kernel
theorem dX7_likeness_56 : decode cX7_likeness 56 = .ok (.iload 4, 2) := by decide +kernel
theorem dX7_likeness_58 : decode cX7_likeness 58 = .ok (.invokevirtual 279, 3) := by decide +kernel
theorem dX7_likeness_61 : decode cX7_likeness 61 = .ok (.aload_n 0, 1) := by decide +kernel
theorem dX7_likeness_62 : decode cX7_likeness 62 = .ok (.getfield 51, 3) := by decide +kernel
theorem dX7_likeness_65 : decode cX7_likeness 65 = .ok (.aload_n 0, 1) := by decide +kernel
theorem dX7_likeness_66 : decode cX7_likeness 66 = .ok (.getfield 47, 3) := by decide +kernel
theorem dX7_likeness_69 : decode cX7_likeness 69 = .ok (.invokevirtual 338, 3) := by decide +kernel
theorem dX7_likeness_72 : decode cX7_likeness 72 = .ok (.aload_n 0, 1) := by decide +kernel
theorem dX7_likeness_73 : decode cX7_likeness 73 = .ok (.getfield 51, 3) := by decide +kernel
theorem dX7_likeness_76 : decode cX7_likeness 76 = .ok (.aload_n 3, 1) := by decide +kernel
theorem dX7_likeness_77 : decode cX7_likeness 77 = .ok (.invokevirtual 334, 3) := by decide +kernel
theorem dX7_likeness_80 : decode cX7_likeness 80 = .ok (.ifCond .eq 8, 3) := by decide +kernel
theorem dX7_likeness_83 : decode cX7_likeness 83 = .ok (.iconst 2, 1) := by decide +kernel
theorem dX7_likeness_84 : decode cX7_likeness 84 = .ok (.iload 4, 2) := by decide +kernel
theorem dX7_likeness_86 : decode cX7_likeness 86 = .ok (.iadd, 1) := by decide +kernel
theorem dX7_likeness_87 : decode cX7_likeness 87 = .ok (.ireturn, 1) := by decide +kernel
theorem dX7_likeness_88 : decode cX7_likeness 88 = .ok (.iinc 4 1, 3) := by decide +kernel
theorem dX7_likeness_91 : decode cX7_likeness 91 = .ok (.goto (-56), 3) := by decide +kernel
theorem dX7_likeness_94 : decode cX7_likeness 94 = .ok (.iconst 0, 1) := by decide +kernel
theorem dX7_likeness_95 : decode cX7_likeness 95 = .ok (.ireturn, 1) := by decide +kernel
theorem dJ9_floorMod_7cf53_0 : decode cJ9_floorMod_7cf53 0 = .ok (.iload_n 0, 1) := by decide +kernel
theorem dJ9_floorMod_7cf53_1 : decode cJ9_floorMod_7cf53 1 = .ok (.iload_n 1, 1) := by decide +kernel
theorem dJ9_floorMod_7cf53_2 : decode cJ9_floorMod_7cf53 2 = .ok (.irem, 1) := by decide +kernel
theorem dJ9_floorMod_7cf53_3 : decode cJ9_floorMod_7cf53 3 = .ok (.istore_n 2, 1) := by decide +kernel
theorem dJ9_floorMod_7cf53_4 : decode cJ9_floorMod_7cf53 4 = .ok (.iload_n 0, 1) := by decide +kernel
theorem dJ9_floorMod_7cf53_5 : decode cJ9_floorMod_7cf53 5 = .ok (.iload_n 1, 1) := by decide +kernel
theorem dJ9_floorMod_7cf53_6 : decode cJ9_floorMod_7cf53 6 = .ok (.ixor, 1) := by decide +kernel
theorem dJ9_floorMod_7cf53_7 : decode cJ9_floorMod_7cf53 7 = .ok (.ifCond .ge 11, 3) := by decide +kernel
theorem dJ9_floorMod_7cf53_10 : decode cJ9_floorMod_7cf53 10 = .ok (.iload_n 2, 1) := by decide +kernel
theorem dJ9_floorMod_7cf53_11 : decode cJ9_floorMod_7cf53 11 = .ok (.ifCond .eq 7, 3) := by decide +kernel
theorem dJ9_floorMod_7cf53_14 : decode cJ9_floorMod_7cf53 14 = .ok (.iload_n 2, 1) := by decide +kernel
theorem dJ9_floorMod_7cf53_15 : decode cJ9_floorMod_7cf53 15 = .ok (.iload_n 1, 1) := by decide +kernel
theorem dJ9_floorMod_7cf53_16 : decode cJ9_floorMod_7cf53 16 = .ok (.iadd, 1) := by decide +kernel
theorem dJ9_floorMod_7cf53_17 : decode cJ9_floorMod_7cf53 17 = .ok (.ireturn, 1) := by decide +kernel
theorem dJ9_floorMod_7cf53_18 : decode cJ9_floorMod_7cf53 18 = .ok (.iload_n 2, 1) := by decide +kernel
theorem dJ9_floorMod_7cf53_19 : decode cJ9_floorMod_7cf53 19 = .ok (.ireturn, 1) := by decide +kernel
theorem dJ9_min_7cf53_0 : decode cJ9_min_7cf53 0 = .ok (.iload_n 0, 1) := by decide +kernel
theorem dJ9_min_7cf53_1 : decode cJ9_min_7cf53 1 = .ok (.iload_n 1, 1) := by decide +kernel
theorem dJ9_min_7cf53_2 : decode cJ9_min_7cf53 2 = .ok (.if_icmp .gt 7, 3) := by decide +kernel
theorem dJ9_min_7cf53_5 : decode cJ9_min_7cf53 5 = .ok (.iload_n 0, 1) := by decide +kernel
theorem dJ9_min_7cf53_6 : decode cJ9_min_7cf53 6 = .ok (.goto 4, 3) := by decide +kernel
theorem dJ9_min_7cf53_9 : decode cJ9_min_7cf53 9 = .ok (.iload_n 1, 1) := by decide +kernel
theorem dJ9_min_7cf53_10 : decode cJ9_min_7cf53 10 = .ok (.ireturn, 1) := by decide +kernel
theorem dL_cell_0 : decode cL_cell 0 = .ok (.iload_n 1, 1) := by decide +kernel
theorem dL_cell_1 : decode cL_cell 1 = .ok (.aload_n 0, 1) := by decide +kernel
theorem dL_cell_2 : decode cL_cell 2 = .ok (.arraylength, 1) := by decide +kernel
theorem dL_cell_3 : decode cL_cell 3 = .ok (.if_icmp .ge 9, 3) := by decide +kernel
theorem dL_cell_6 : decode cL_cell 6 = .ok (.aload_n 0, 1) := by decide +kernel
theorem dL_cell_7 : decode cL_cell 7 = .ok (.iload_n 1, 1) := by decide +kernel
theorem dL_cell_8 : decode cL_cell 8 = .ok (.iaload, 1) := by decide +kernel
theorem dL_cell_9 : decode cL_cell 9 = .ok (.goto 15, 3) := by decide +kernel
theorem dL_cell_12 : decode cL_cell 12 = .ok (.sipush 7919, 3) := by decide +kernel
theorem dL_cell_15 : decode cL_cell 15 = .ok (.iload_n 1, 1) := by decide +kernel
theorem dL_cell_16 : decode cL_cell 16 = .ok (.iconst 3, 1) := by decide +kernel
theorem dL_cell_17 : decode cL_cell 17 = .ok (.iadd, 1) := by decide +kernel
theorem dL_cell_18 : decode cL_cell 18 = .ok (.imul, 1) := by decide +kernel
theorem dL_cell_19 : decode cL_cell 19 = .ok (.iload_n 1, 1) := by decide +kernel
theorem dL_cell_20 : decode cL_cell 20 = .ok (.bipush 11, 2) := by decide +kernel
theorem dL_cell_22 : decode cL_cell 22 = .ok (.iadd, 1) := by decide +kernel
theorem dL_cell_23 : decode cL_cell 23 = .ok (.imul, 1) := by decide +kernel
theorem dL_cell_24 : decode cL_cell 24 = .ok (.ireturn, 1) := by decide +kernel
theorem dL_low_0 : decode cL_low 0 = .ok (.iload_n 0, 1) := by decide +kernel
theorem dL_low_1 : decode cL_low 1 = .ok (.ldc 7, 2) := by decide +kernel
theorem dL_low_3 : decode cL_low 3 = .ok (.iand, 1) := by decide +kernel
theorem dL_low_4 : decode cL_low 4 = .ok (.iload_n 1, 1) := by decide +kernel
theorem dL_low_5 : decode cL_low 5 = .ok (.irem, 1) := by decide +kernel
theorem dL_low_6 : decode cL_low 6 = .ok (.ireturn, 1) := by decide +kernel
theorem dL_told_0 : decode cL_told 0 = .ok (.ldc2_w 8, 3) := by decide +kernel
theorem dL_told_3 : decode cL_told 3 = .ok (.lstore_n 1, 1) := by decide +kernel
theorem dL_told_4 : decode cL_told 4 = .ok (.ldc2_w 10, 3) := by decide +kernel
theorem dL_told_7 : decode cL_told 7 = .ok (.ldc2_w 10, 3) := by decide +kernel
theorem dL_told_10 : decode cL_told 10 = .ok (.lload_n 1, 1) := by decide +kernel
theorem dL_told_11 : decode cL_told 11 = .ok (.lmul, 1) := by decide +kernel
theorem dL_told_12 : decode cL_told 12 = .ok (.aload_n 0, 1) := by decide +kernel
theorem dL_told_13 : decode cL_told 13 = .ok (.iconst 0, 1) := by decide +kernel
theorem dL_told_14 : decode cL_told 14 = .ok (.invokevirtual 12, 3) := by decide +kernel
theorem dL_told_17 : decode cL_told 17 = .ok (.i2l, 1) := by decide +kernel
theorem dL_told_18 : decode cL_told 18 = .ok (.ladd, 1) := by decide +kernel
theorem dL_told_19 : decode cL_told 19 = .ok (.lmul, 1) := by decide +kernel
theorem dL_told_20 : decode cL_told 20 = .ok (.aload_n 0, 1) := by decide +kernel
theorem dL_told_21 : decode cL_told 21 = .ok (.iconst 5, 1) := by decide +kernel
theorem dL_told_22 : decode cL_told 22 = .ok (.invokevirtual 12, 3) := by decide +kernel
theorem dL_told_25 : decode cL_told 25 = .ok (.i2l, 1) := by decide +kernel
theorem dL_told_26 : decode cL_told 26 = .ok (.ladd, 1) := by decide +kernel
theorem dL_told_27 : decode cL_told 27 = .ok (.lstore_n 1, 1) := by decide +kernel
theorem dL_told_28 : decode cL_told 28 = .ok (.ldc2_w 10, 3) := by decide +kernel
theorem dL_told_31 : decode cL_told 31 = .ok (.ldc2_w 10, 3) := by decide +kernel
theorem dL_told_34 : decode cL_told 34 = .ok (.lload_n 1, 1) := by decide +kernel
theorem dL_told_35 : decode cL_told 35 = .ok (.lmul, 1) := by decide +kernel
theorem dL_told_36 : decode cL_told 36 = .ok (.aload_n 0, 1) := by decide +kernel
theorem dL_told_37 : decode cL_told 37 = .ok (.iconst 0, 1) := by decide +kernel
theorem dL_told_38 : decode cL_told 38 = .ok (.invokevirtual 18, 3) := by decide +kernel
theorem dL_told_41 : decode cL_told 41 = .ok (.i2l, 1) := by decide +kernel
theorem dL_told_42 : decode cL_told 42 = .ok (.ladd, 1) := by decide +kernel
theorem dL_told_43 : decode cL_told 43 = .ok (.lmul, 1) := by decide +kernel
theorem dL_told_44 : decode cL_told 44 = .ok (.aload_n 0, 1) := by decide +kernel
theorem dL_told_45 : decode cL_told 45 = .ok (.iconst 1, 1) := by decide +kernel
theorem dL_told_46 : decode cL_told 46 = .ok (.invokevirtual 18, 3) := by decide +kernel
theorem dL_told_49 : decode cL_told 49 = .ok (.i2l, 1) := by decide +kernel
theorem dL_told_50 : decode cL_told 50 = .ok (.ladd, 1) := by decide +kernel
theorem dL_told_51 : decode cL_told 51 = .ok (.lstore_n 1, 1) := by decide +kernel
theorem dL_told_52 : decode cL_told 52 = .ok (.iconst 0, 1) := by decide +kernel
theorem dL_told_53 : decode cL_told 53 = .ok (.istore_n 3, 1) := by decide +kernel
theorem dL_told_54 : decode cL_told 54 = .ok (.iload_n 3, 1) := by decide +kernel
theorem dL_told_55 : decode cL_told 55 = .ok (.aload_n 0, 1) := by decide +kernel
theorem dL_told_56 : decode cL_told 56 = .ok (.iconst 0, 1) := by decide +kernel
theorem dL_told_57 : decode cL_told 57 = .ok (.invokevirtual 12, 3) := by decide +kernel
theorem dL_told_60 : decode cL_told 60 = .ok (.if_icmp .ge 85, 3) := by decide +kernel
theorem dL_told_63 : decode cL_told 63 = .ok (.ldc2_w 10, 3) := by decide +kernel
theorem dL_told_66 : decode cL_told 66 = .ok (.ldc2_w 10, 3) := by decide +kernel
theorem dL_told_69 : decode cL_told 69 = .ok (.lload_n 1, 1) := by decide +kernel
theorem dL_told_70 : decode cL_told 70 = .ok (.lmul, 1) := by decide +kernel
theorem dL_told_71 : decode cL_told 71 = .ok (.aload_n 0, 1) := by decide +kernel
theorem dL_told_72 : decode cL_told 72 = .ok (.iload_n 3, 1) := by decide +kernel
theorem dL_told_73 : decode cL_told 73 = .ok (.iconst 0, 1) := by decide +kernel
theorem dL_told_74 : decode cL_told 74 = .ok (.invokevirtual 21, 3) := by decide +kernel
theorem dL_told_77 : decode cL_told 77 = .ok (.i2l, 1) := by decide +kernel
theorem dL_told_78 : decode cL_told 78 = .ok (.ladd, 1) := by decide +kernel
theorem dL_told_79 : decode cL_told 79 = .ok (.lmul, 1) := by decide +kernel
theorem dL_told_80 : decode cL_told 80 = .ok (.aload_n 0, 1) := by decide +kernel
theorem dL_told_81 : decode cL_told 81 = .ok (.iload_n 3, 1) := by decide +kernel
theorem dL_told_82 : decode cL_told 82 = .ok (.iconst 1, 1) := by decide +kernel
theorem dL_told_83 : decode cL_told 83 = .ok (.invokevirtual 21, 3) := by decide +kernel
theorem dL_told_86 : decode cL_told 86 = .ok (.i2l, 1) := by decide +kernel
theorem dL_told_87 : decode cL_told 87 = .ok (.ladd, 1) := by decide +kernel
theorem dL_told_88 : decode cL_told 88 = .ok (.lstore_n 1, 1) := by decide +kernel
theorem dL_told_89 : decode cL_told 89 = .ok (.iconst 0, 1) := by decide +kernel
theorem dL_told_90 : decode cL_told 90 = .ok (.istore 4, 2) := by decide +kernel
theorem dL_told_92 : decode cL_told 92 = .ok (.iload 4, 2) := by decide +kernel
theorem dL_told_94 : decode cL_told 94 = .ok (.aload_n 0, 1) := by decide +kernel
theorem dL_told_95 : decode cL_told 95 = .ok (.iload_n 3, 1) := by decide +kernel
theorem dL_told_96 : decode cL_told 96 = .ok (.iconst 1, 1) := by decide +kernel
theorem dL_told_97 : decode cL_told 97 = .ok (.invokevirtual 21, 3) := by decide +kernel
theorem dL_told_100 : decode cL_told 100 = .ok (.if_icmp .ge 39, 3) := by decide +kernel
theorem dL_told_103 : decode cL_told 103 = .ok (.ldc2_w 10, 3) := by decide +kernel
theorem dL_told_106 : decode cL_told 106 = .ok (.ldc2_w 10, 3) := by decide +kernel
theorem dL_told_109 : decode cL_told 109 = .ok (.lload_n 1, 1) := by decide +kernel
theorem dL_told_110 : decode cL_told 110 = .ok (.lmul, 1) := by decide +kernel
theorem dL_told_111 : decode cL_told 111 = .ok (.aload_n 0, 1) := by decide +kernel
theorem dL_told_112 : decode cL_told 112 = .ok (.iload_n 3, 1) := by decide +kernel
theorem dL_told_113 : decode cL_told 113 = .ok (.iload 4, 2) := by decide +kernel
theorem dL_told_115 : decode cL_told 115 = .ok (.iconst 0, 1) := by decide +kernel
theorem dL_told_116 : decode cL_told 116 = .ok (.invokevirtual 25, 3) := by decide +kernel
theorem dL_told_119 : decode cL_told 119 = .ok (.i2l, 1) := by decide +kernel
theorem dL_told_120 : decode cL_told 120 = .ok (.ladd, 1) := by decide +kernel
theorem dL_told_121 : decode cL_told 121 = .ok (.lmul, 1) := by decide +kernel
theorem dL_told_122 : decode cL_told 122 = .ok (.aload_n 0, 1) := by decide +kernel
theorem dL_told_123 : decode cL_told 123 = .ok (.iload_n 3, 1) := by decide +kernel
theorem dL_told_124 : decode cL_told 124 = .ok (.iload 4, 2) := by decide +kernel
theorem dL_told_126 : decode cL_told 126 = .ok (.iconst 1, 1) := by decide +kernel
theorem dL_told_127 : decode cL_told 127 = .ok (.invokevirtual 25, 3) := by decide +kernel
theorem dL_told_130 : decode cL_told 130 = .ok (.i2l, 1) := by decide +kernel
theorem dL_told_131 : decode cL_told 131 = .ok (.ladd, 1) := by decide +kernel
theorem dL_told_132 : decode cL_told 132 = .ok (.lstore_n 1, 1) := by decide +kernel
theorem dL_told_133 : decode cL_told 133 = .ok (.iinc 4 1, 3) := by decide +kernel
theorem dL_told_136 : decode cL_told 136 = .ok (.goto (-44), 3) := by decide +kernel
theorem dL_told_139 : decode cL_told 139 = .ok (.iinc 3 1, 3) := by decide +kernel
theorem dL_told_142 : decode cL_told 142 = .ok (.goto (-88), 3) := by decide +kernel
theorem dL_told_145 : decode cL_told 145 = .ok (.lload_n 1, 1) := by decide +kernel
theorem dL_told_146 : decode cL_told 146 = .ok (.lreturn, 1) := by decide +kernel
theorem dL_act_0 : decode cL_act 0 = .ok (.iload_n 1, 1) := by decide +kernel
theorem dL_act_1 : decode cL_act 1 = .ok (.iconst 4, 1) := by decide +kernel
theorem dL_act_2 : decode cL_act 2 = .ok (.ishr, 1) := by decide +kernel
theorem dL_act_3 : decode cL_act 3 = .ok (.aload_n 0, 1) := by decide +kernel
theorem dL_act_4 : decode cL_act 4 = .ok (.iconst 0, 1) := by decide +kernel
theorem dL_act_5 : decode cL_act 5 = .ok (.invokevirtual 12, 3) := by decide +kernel
theorem dL_act_8 : decode cL_act 8 = .ok (.invokestatic 29, 3) := by decide +kernel
theorem dL_act_11 : decode cL_act 11 = .ok (.istore_n 2, 1) := by decide +kernel
theorem dL_act_12 : decode cL_act 12 = .ok (.aload_n 0, 1) := by decide +kernel
theorem dL_act_13 : decode cL_act 13 = .ok (.iload_n 2, 1) := by decide +kernel
theorem dL_act_14 : decode cL_act 14 = .ok (.iconst 0, 1) := by decide +kernel
theorem dL_act_15 : decode cL_act 15 = .ok (.invokevirtual 21, 3) := by decide +kernel
theorem dL_act_18 : decode cL_act 18 = .ok (.istore_n 3, 1) := by decide +kernel
theorem dL_act_19 : decode cL_act 19 = .ok (.iload_n 1, 1) := by decide +kernel
theorem dL_act_20 : decode cL_act 20 = .ok (.bipush 7, 2) := by decide +kernel
theorem dL_act_22 : decode cL_act 22 = .ok (.iand, 1) := by decide +kernel
theorem dL_act_23 : decode cL_act 23 = .ok (.tableswitch 198 0 6 #[41, 41, 41, 41, 95, 114, 156], 41) := by decide +kernel
theorem dL_act_64 : decode cL_act 64 = .ok (.iload_n 1, 1) := by decide +kernel
theorem dL_act_65 : decode cL_act 65 = .ok (.bipush 8, 2) := by decide +kernel
theorem dL_act_67 : decode cL_act 67 = .ok (.ishr, 1) := by decide +kernel
theorem dL_act_68 : decode cL_act 68 = .ok (.iload_n 3, 1) := by decide +kernel
theorem dL_act_69 : decode cL_act 69 = .ok (.iconst 1, 1) := by decide +kernel
theorem dL_act_70 : decode cL_act 70 = .ok (.isub, 1) := by decide +kernel
theorem dL_act_71 : decode cL_act 71 = .ok (.invokestatic 29, 3) := by decide +kernel
theorem dL_act_74 : decode cL_act 74 = .ok (.istore 4, 2) := by decide +kernel
theorem dL_act_76 : decode cL_act 76 = .ok (.iload_n 1, 1) := by decide +kernel
theorem dL_act_77 : decode cL_act 77 = .ok (.iconst 3, 1) := by decide +kernel
theorem dL_act_78 : decode cL_act 78 = .ok (.ishr, 1) := by decide +kernel
theorem dL_act_79 : decode cL_act 79 = .ok (.iconst 1, 1) := by decide +kernel
theorem dL_act_80 : decode cL_act 80 = .ok (.iand, 1) := by decide +kernel
theorem dL_act_81 : decode cL_act 81 = .ok (.iconst 1, 1) := by decide +kernel
theorem dL_act_82 : decode cL_act 82 = .ok (.if_icmp .ne 7, 3) := by decide +kernel
theorem dL_act_85 : decode cL_act 85 = .ok (.iconst 1, 1) := by decide +kernel
theorem dL_act_86 : decode cL_act 86 = .ok (.goto 4, 3) := by decide +kernel
theorem dL_act_89 : decode cL_act 89 = .ok (.iconst 0, 1) := by decide +kernel
theorem dL_act_90 : decode cL_act 90 = .ok (.istore 5, 2) := by decide +kernel
theorem dL_act_92 : decode cL_act 92 = .ok (.aload_n 0, 1) := by decide +kernel
theorem dL_act_93 : decode cL_act 93 = .ok (.iload_n 2, 1) := by decide +kernel
theorem dL_act_94 : decode cL_act 94 = .ok (.iload 4, 2) := by decide +kernel
theorem dL_act_96 : decode cL_act 96 = .ok (.iload 5, 2) := by decide +kernel
theorem dL_act_98 : decode cL_act 98 = .ok (.invokevirtual 34, 3) := by decide +kernel
theorem dL_act_101 : decode cL_act 101 = .ok (.ifCond .eq 5, 3) := by decide +kernel
theorem dL_act_104 : decode cL_act 104 = .ok (.iconst 0, 1) := by decide +kernel
theorem dL_act_105 : decode cL_act 105 = .ok (.ireturn, 1) := by decide +kernel
theorem dL_act_106 : decode cL_act 106 = .ok (.aload_n 0, 1) := by decide +kernel
theorem dL_act_107 : decode cL_act 107 = .ok (.iload_n 2, 1) := by decide +kernel
theorem dL_act_108 : decode cL_act 108 = .ok (.iload 4, 2) := by decide +kernel
theorem dL_act_110 : decode cL_act 110 = .ok (.iload 5, 2) := by decide +kernel
theorem dL_act_112 : decode cL_act 112 = .ok (.invokevirtual 38, 3) := by decide +kernel
theorem dL_act_115 : decode cL_act 115 = .ok (.pop, 1) := by decide +kernel
theorem dL_act_116 : decode cL_act 116 = .ok (.iconst 1, 1) := by decide +kernel
theorem dL_act_117 : decode cL_act 117 = .ok (.ireturn, 1) := by decide +kernel
theorem dL_act_118 : decode cL_act 118 = .ok (.aload_n 0, 1) := by decide +kernel
theorem dL_act_119 : decode cL_act 119 = .ok (.iload_n 2, 1) := by decide +kernel
theorem dL_act_120 : decode cL_act 120 = .ok (.iconst 1, 1) := by decide +kernel
theorem dL_act_121 : decode cL_act 121 = .ok (.invokevirtual 21, 3) := by decide +kernel
theorem dL_act_124 : decode cL_act 124 = .ok (.ifCond .ne 5, 3) := by decide +kernel
theorem dL_act_127 : decode cL_act 127 = .ok (.iconst 0, 1) := by decide +kernel
theorem dL_act_128 : decode cL_act 128 = .ok (.ireturn, 1) := by decide +kernel
theorem dL_act_129 : decode cL_act 129 = .ok (.aload_n 0, 1) := by decide +kernel
theorem dL_act_130 : decode cL_act 130 = .ok (.iload_n 2, 1) := by decide +kernel
theorem dL_act_131 : decode cL_act 131 = .ok (.invokevirtual 41, 3) := by decide +kernel
theorem dL_act_134 : decode cL_act 134 = .ok (.pop, 1) := by decide +kernel
theorem dL_act_135 : decode cL_act 135 = .ok (.iconst 1, 1) := by decide +kernel
theorem dL_act_136 : decode cL_act 136 = .ok (.ireturn, 1) := by decide +kernel
theorem dL_act_137 : decode cL_act 137 = .ok (.aload_n 0, 1) := by decide +kernel
theorem dL_act_138 : decode cL_act 138 = .ok (.invokevirtual 44, 3) := by decide +kernel
theorem dL_act_141 : decode cL_act 141 = .ok (.pop, 1) := by decide +kernel
theorem dL_act_142 : decode cL_act 142 = .ok (.aload_n 0, 1) := by decide +kernel
theorem dL_act_143 : decode cL_act 143 = .ok (.iload_n 1, 1) := by decide +kernel
theorem dL_act_144 : decode cL_act 144 = .ok (.bipush 8, 2) := by decide +kernel
theorem dL_act_146 : decode cL_act 146 = .ok (.ishr, 1) := by decide +kernel
theorem dL_act_147 : decode cL_act 147 = .ok (.iconst 1, 1) := by decide +kernel
theorem dL_act_148 : decode cL_act 148 = .ok (.iand, 1) := by decide +kernel
theorem dL_act_149 : decode cL_act 149 = .ok (.ifCond .ne 8, 3) := by decide +kernel
theorem dL_act_152 : decode cL_act 152 = .ok (.bipush 109, 2) := by decide +kernel
theorem dL_act_154 : decode cL_act 154 = .ok (.goto 5, 3) := by decide +kernel
theorem dL_act_157 : decode cL_act 157 = .ok (.bipush 116, 2) := by decide +kernel
theorem dL_act_159 : decode cL_act 159 = .ok (.invokevirtual 48, 3) := by decide +kernel
theorem dL_act_162 : decode cL_act 162 = .ok (.pop, 1) := by decide +kernel
theorem dL_act_163 : decode cL_act 163 = .ok (.aload_n 0, 1) := by decide +kernel
theorem dL_act_164 : decode cL_act 164 = .ok (.bipush 48, 2) := by decide +kernel
theorem dL_act_166 : decode cL_act 166 = .ok (.iload_n 2, 1) := by decide +kernel
theorem dL_act_167 : decode cL_act 167 = .ok (.iadd, 1) := by decide +kernel
theorem dL_act_168 : decode cL_act 168 = .ok (.invokevirtual 48, 3) := by decide +kernel
theorem dL_act_171 : decode cL_act 171 = .ok (.pop, 1) := by decide +kernel
theorem dL_act_172 : decode cL_act 172 = .ok (.aload_n 0, 1) := by decide +kernel
theorem dL_act_173 : decode cL_act 173 = .ok (.invokevirtual 51, 3) := by decide +kernel
theorem dL_act_176 : decode cL_act 176 = .ok (.pop, 1) := by decide +kernel
theorem dL_act_177 : decode cL_act 177 = .ok (.iconst 1, 1) := by decide +kernel
theorem dL_act_178 : decode cL_act 178 = .ok (.ireturn, 1) := by decide +kernel
theorem dL_act_179 : decode cL_act 179 = .ok (.aload_n 0, 1) := by decide +kernel
theorem dL_act_180 : decode cL_act 180 = .ok (.invokevirtual 44, 3) := by decide +kernel
theorem dL_act_183 : decode cL_act 183 = .ok (.pop, 1) := by decide +kernel
theorem dL_act_184 : decode cL_act 184 = .ok (.aload_n 0, 1) := by decide +kernel
theorem dL_act_185 : decode cL_act 185 = .ok (.iload_n 1, 1) := by decide +kernel
theorem dL_act_186 : decode cL_act 186 = .ok (.bipush 8, 2) := by decide +kernel
theorem dL_act_188 : decode cL_act 188 = .ok (.ishr, 1) := by decide +kernel
theorem dL_act_189 : decode cL_act 189 = .ok (.iconst 1, 1) := by decide +kernel
theorem dL_act_190 : decode cL_act 190 = .ok (.iand, 1) := by decide +kernel
theorem dL_act_191 : decode cL_act 191 = .ok (.ifCond .ne 8, 3) := by decide +kernel
theorem dL_act_194 : decode cL_act 194 = .ok (.bipush 114, 2) := by decide +kernel
theorem dL_act_196 : decode cL_act 196 = .ok (.goto 5, 3) := by decide +kernel
theorem dL_act_199 : decode cL_act 199 = .ok (.bipush 108, 2) := by decide +kernel
theorem dL_act_201 : decode cL_act 201 = .ok (.invokevirtual 48, 3) := by decide +kernel
theorem dL_act_204 : decode cL_act 204 = .ok (.pop, 1) := by decide +kernel
theorem dL_act_205 : decode cL_act 205 = .ok (.aload_n 0, 1) := by decide +kernel
theorem dL_act_206 : decode cL_act 206 = .ok (.bipush 48, 2) := by decide +kernel
theorem dL_act_208 : decode cL_act 208 = .ok (.iload_n 2, 1) := by decide +kernel
theorem dL_act_209 : decode cL_act 209 = .ok (.iadd, 1) := by decide +kernel
theorem dL_act_210 : decode cL_act 210 = .ok (.invokevirtual 48, 3) := by decide +kernel
theorem dL_act_213 : decode cL_act 213 = .ok (.pop, 1) := by decide +kernel
theorem dL_act_214 : decode cL_act 214 = .ok (.aload_n 0, 1) := by decide +kernel
theorem dL_act_215 : decode cL_act 215 = .ok (.invokevirtual 51, 3) := by decide +kernel
theorem dL_act_218 : decode cL_act 218 = .ok (.pop, 1) := by decide +kernel
theorem dL_act_219 : decode cL_act 219 = .ok (.iconst 1, 1) := by decide +kernel
theorem dL_act_220 : decode cL_act 220 = .ok (.ireturn, 1) := by decide +kernel
theorem dL_act_221 : decode cL_act 221 = .ok (.aload_n 0, 1) := by decide +kernel
theorem dL_act_222 : decode cL_act 222 = .ok (.iconst 0, 1) := by decide +kernel
theorem dL_act_223 : decode cL_act 223 = .ok (.invokevirtual 12, 3) := by decide +kernel
theorem dL_act_226 : decode cL_act 226 = .ok (.iconst 4, 1) := by decide +kernel
theorem dL_act_227 : decode cL_act 227 = .ok (.if_icmp .ne 5, 3) := by decide +kernel
theorem dL_act_230 : decode cL_act 230 = .ok (.iconst 0, 1) := by decide +kernel
theorem dL_act_231 : decode cL_act 231 = .ok (.ireturn, 1) := by decide +kernel
theorem dL_act_232 : decode cL_act 232 = .ok (.aload_n 0, 1) := by decide +kernel
theorem dL_act_233 : decode cL_act 233 = .ok (.invokevirtual 44, 3) := by decide +kernel
theorem dL_act_236 : decode cL_act 236 = .ok (.pop, 1) := by decide +kernel
theorem dL_act_237 : decode cL_act 237 = .ok (.aload_n 0, 1) := by decide +kernel
theorem dL_act_238 : decode cL_act 238 = .ok (.bipush 50, 2) := by decide +kernel
theorem dL_act_240 : decode cL_act 240 = .ok (.iload_n 1, 1) := by decide +kernel
theorem dL_act_241 : decode cL_act 241 = .ok (.bipush 8, 2) := by decide +kernel
theorem dL_act_243 : decode cL_act 243 = .ok (.ishr, 1) := by decide +kernel
theorem dL_act_244 : decode cL_act 244 = .ok (.bipush 6, 2) := by decide +kernel
theorem dL_act_246 : decode cL_act 246 = .ok (.invokestatic 29, 3) := by decide +kernel
theorem dL_act_249 : decode cL_act 249 = .ok (.iadd, 1) := by decide +kernel
theorem dL_act_250 : decode cL_act 250 = .ok (.invokevirtual 48, 3) := by decide +kernel
theorem dL_act_253 : decode cL_act 253 = .ok (.pop, 1) := by decide +kernel
theorem dL_act_254 : decode cL_act 254 = .ok (.aload_n 0, 1) := by decide +kernel
theorem dL_act_255 : decode cL_act 255 = .ok (.bipush 58, 2) := by decide +kernel
theorem dL_act_257 : decode cL_act 257 = .ok (.invokevirtual 48, 3) := by decide +kernel
theorem dL_act_260 : decode cL_act 260 = .ok (.pop, 1) := by decide +kernel
theorem dL_act_261 : decode cL_act 261 = .ok (.aload_n 0, 1) := by decide +kernel
theorem dL_act_262 : decode cL_act 262 = .ok (.invokevirtual 54, 3) := by decide +kernel
theorem dL_act_265 : decode cL_act 265 = .ok (.pop, 1) := by decide +kernel
theorem dL_act_266 : decode cL_act 266 = .ok (.iconst 1, 1) := by decide +kernel
theorem dL_act_267 : decode cL_act 267 = .ok (.ireturn, 1) := by decide +kernel
theorem dL_holds_0 : decode cL_holds 0 = .ok (.aload_n 0, 1) := by decide +kernel
theorem dL_holds_1 : decode cL_holds 1 = .ok (.iload_n 1, 1) := by decide +kernel
theorem dL_holds_2 : decode cL_holds 2 = .ok (.iconst 1, 1) := by decide +kernel
theorem dL_holds_3 : decode cL_holds 3 = .ok (.invokevirtual 21, 3) := by decide +kernel
theorem dL_holds_6 : decode cL_holds 6 = .ok (.istore_n 2, 1) := by decide +kernel
theorem dL_holds_7 : decode cL_holds 7 = .ok (.iconst 0, 1) := by decide +kernel
theorem dL_holds_8 : decode cL_holds 8 = .ok (.istore_n 3, 1) := by decide +kernel
theorem dL_holds_9 : decode cL_holds 9 = .ok (.iconst 0, 1) := by decide +kernel
theorem dL_holds_10 : decode cL_holds 10 = .ok (.istore 4, 2) := by decide +kernel
theorem dL_holds_12 : decode cL_holds 12 = .ok (.iload 4, 2) := by decide +kernel
theorem dL_holds_14 : decode cL_holds 14 = .ok (.aload_n 0, 1) := by decide +kernel
theorem dL_holds_15 : decode cL_holds 15 = .ok (.iload_n 1, 1) := by decide +kernel
theorem dL_holds_16 : decode cL_holds 16 = .ok (.iconst 0, 1) := by decide +kernel
theorem dL_holds_17 : decode cL_holds 17 = .ok (.invokevirtual 21, 3) := by decide +kernel
theorem dL_holds_20 : decode cL_holds 20 = .ok (.if_icmp .ge 85, 3) := by decide +kernel
theorem dL_holds_23 : decode cL_holds 23 = .ok (.iload_n 3, 1) := by decide +kernel
theorem dL_holds_24 : decode cL_holds 24 = .ok (.aload_n 0, 1) := by decide +kernel
theorem dL_holds_25 : decode cL_holds 25 = .ok (.iload_n 1, 1) := by decide +kernel
theorem dL_holds_26 : decode cL_holds 26 = .ok (.iload 4, 2) := by decide +kernel
theorem dL_holds_28 : decode cL_holds 28 = .ok (.iconst 1, 1) := by decide +kernel
theorem dL_holds_29 : decode cL_holds 29 = .ok (.invokevirtual 57, 3) := by decide +kernel
theorem dL_holds_32 : decode cL_holds 32 = .ok (.iadd, 1) := by decide +kernel
theorem dL_holds_33 : decode cL_holds 33 = .ok (.istore_n 3, 1) := by decide +kernel
theorem dL_holds_34 : decode cL_holds 34 = .ok (.aload_n 0, 1) := by decide +kernel
theorem dL_holds_35 : decode cL_holds 35 = .ok (.iload_n 1, 1) := by decide +kernel
theorem dL_holds_36 : decode cL_holds 36 = .ok (.iload 4, 2) := by decide +kernel
theorem dL_holds_38 : decode cL_holds 38 = .ok (.iconst 3, 1) := by decide +kernel
theorem dL_holds_39 : decode cL_holds 39 = .ok (.invokevirtual 57, 3) := by decide +kernel
theorem dL_holds_42 : decode cL_holds 42 = .ok (.bipush 30, 2) := by decide +kernel
theorem dL_holds_44 : decode cL_holds 44 = .ok (.aload_n 0, 1) := by decide +kernel
theorem dL_holds_45 : decode cL_holds 45 = .ok (.iload_n 1, 1) := by decide +kernel
theorem dL_holds_46 : decode cL_holds 46 = .ok (.iload 4, 2) := by decide +kernel
theorem dL_holds_48 : decode cL_holds 48 = .ok (.iconst 2, 1) := by decide +kernel
theorem dL_holds_49 : decode cL_holds 49 = .ok (.invokevirtual 57, 3) := by decide +kernel
theorem dL_holds_52 : decode cL_holds 52 = .ok (.isub, 1) := by decide +kernel
theorem dL_holds_53 : decode cL_holds 53 = .ok (.iconst 2, 1) := by decide +kernel
theorem dL_holds_54 : decode cL_holds 54 = .ok (.aload_n 0, 1) := by decide +kernel
theorem dL_holds_55 : decode cL_holds 55 = .ok (.iload_n 1, 1) := by decide +kernel
theorem dL_holds_56 : decode cL_holds 56 = .ok (.iload 4, 2) := by decide +kernel
theorem dL_holds_58 : decode cL_holds 58 = .ok (.iconst 1, 1) := by decide +kernel
theorem dL_holds_59 : decode cL_holds 59 = .ok (.invokevirtual 57, 3) := by decide +kernel
theorem dL_holds_62 : decode cL_holds 62 = .ok (.imul, 1) := by decide +kernel
theorem dL_holds_63 : decode cL_holds 63 = .ok (.isub, 1) := by decide +kernel
theorem dL_holds_64 : decode cL_holds 64 = .ok (.if_icmp .ne 33, 3) := by decide +kernel
theorem dL_holds_67 : decode cL_holds 67 = .ok (.aload_n 0, 1) := by decide +kernel
theorem dL_holds_68 : decode cL_holds 68 = .ok (.iload_n 1, 1) := by decide +kernel
theorem dL_holds_69 : decode cL_holds 69 = .ok (.iload 4, 2) := by decide +kernel
theorem dL_holds_71 : decode cL_holds 71 = .ok (.iconst 3, 1) := by decide +kernel
theorem dL_holds_72 : decode cL_holds 72 = .ok (.invokevirtual 57, 3) := by decide +kernel
theorem dL_holds_75 : decode cL_holds 75 = .ok (.ifCond .lt 22, 3) := by decide +kernel
theorem dL_holds_78 : decode cL_holds 78 = .ok (.aload_n 0, 1) := by decide +kernel
theorem dL_holds_79 : decode cL_holds 79 = .ok (.iload_n 1, 1) := by decide +kernel
theorem dL_holds_80 : decode cL_holds 80 = .ok (.aload_n 0, 1) := by decide +kernel
theorem dL_holds_81 : decode cL_holds 81 = .ok (.iload_n 1, 1) := by decide +kernel
theorem dL_holds_82 : decode cL_holds 82 = .ok (.iload 4, 2) := by decide +kernel
theorem dL_holds_84 : decode cL_holds 84 = .ok (.iconst 0, 1) := by decide +kernel
theorem dL_holds_85 : decode cL_holds 85 = .ok (.invokevirtual 57, 3) := by decide +kernel
theorem dL_holds_88 : decode cL_holds 88 = .ok (.iconst 4, 1) := by decide +kernel
theorem dL_holds_89 : decode cL_holds 89 = .ok (.invokevirtual 57, 3) := by decide +kernel
theorem dL_holds_92 : decode cL_holds 92 = .ok (.iload 4, 2) := by decide +kernel
theorem dL_holds_94 : decode cL_holds 94 = .ok (.if_icmp .eq 5, 3) := by decide +kernel
theorem dL_holds_97 : decode cL_holds 97 = .ok (.iconst 0, 1) := by decide +kernel
theorem dL_holds_98 : decode cL_holds 98 = .ok (.ireturn, 1) := by decide +kernel
theorem dL_holds_99 : decode cL_holds 99 = .ok (.iinc 4 1, 3) := by decide +kernel
theorem dL_holds_102 : decode cL_holds 102 = .ok (.goto (-90), 3) := by decide +kernel
theorem dL_holds_105 : decode cL_holds 105 = .ok (.iload_n 3, 1) := by decide +kernel
theorem dL_holds_106 : decode cL_holds 106 = .ok (.iload_n 2, 1) := by decide +kernel
theorem dL_holds_107 : decode cL_holds 107 = .ok (.if_icmp .ne 77, 3) := by decide +kernel
theorem dL_holds_110 : decode cL_holds 110 = .ok (.aload_n 0, 1) := by decide +kernel
theorem dL_holds_111 : decode cL_holds 111 = .ok (.iload_n 1, 1) := by decide +kernel
theorem dL_holds_112 : decode cL_holds 112 = .ok (.iconst 3, 1) := by decide +kernel
theorem dL_holds_113 : decode cL_holds 113 = .ok (.invokevirtual 21, 3) := by decide +kernel
theorem dL_holds_116 : decode cL_holds 116 = .ok (.aload_n 0, 1) := by decide +kernel
theorem dL_holds_117 : decode cL_holds 117 = .ok (.iload_n 1, 1) := by decide +kernel
theorem dL_holds_118 : decode cL_holds 118 = .ok (.iconst 4, 1) := by decide +kernel
theorem dL_holds_119 : decode cL_holds 119 = .ok (.invokevirtual 21, 3) := by decide +kernel
theorem dL_holds_122 : decode cL_holds 122 = .ok (.if_icmp .ne 62, 3) := by decide +kernel
theorem dL_holds_125 : decode cL_holds 125 = .ok (.aload_n 0, 1) := by decide +kernel
theorem dL_holds_126 : decode cL_holds 126 = .ok (.iload_n 1, 1) := by decide +kernel
theorem dL_holds_127 : decode cL_holds 127 = .ok (.iconst 5, 1) := by decide +kernel
theorem dL_holds_128 : decode cL_holds 128 = .ok (.invokevirtual 21, 3) := by decide +kernel
theorem dL_holds_131 : decode cL_holds 131 = .ok (.aload_n 0, 1) := by decide +kernel
theorem dL_holds_132 : decode cL_holds 132 = .ok (.iload_n 1, 1) := by decide +kernel
theorem dL_holds_133 : decode cL_holds 133 = .ok (.bipush 6, 2) := by decide +kernel
theorem dL_holds_135 : decode cL_holds 135 = .ok (.invokevirtual 21, 3) := by decide +kernel
theorem dL_holds_138 : decode cL_holds 138 = .ok (.if_icmp .ne 46, 3) := by decide +kernel
theorem dL_holds_141 : decode cL_holds 141 = .ok (.aload_n 0, 1) := by decide +kernel
theorem dL_holds_142 : decode cL_holds 142 = .ok (.iload_n 1, 1) := by decide +kernel
theorem dL_holds_143 : decode cL_holds 143 = .ok (.bipush 7, 2) := by decide +kernel
theorem dL_holds_145 : decode cL_holds 145 = .ok (.invokevirtual 21, 3) := by decide +kernel
theorem dL_holds_148 : decode cL_holds 148 = .ok (.aload_n 0, 1) := by decide +kernel
theorem dL_holds_149 : decode cL_holds 149 = .ok (.iload_n 1, 1) := by decide +kernel
theorem dL_holds_150 : decode cL_holds 150 = .ok (.iconst 5, 1) := by decide +kernel
theorem dL_holds_151 : decode cL_holds 151 = .ok (.invokevirtual 21, 3) := by decide +kernel
theorem dL_holds_154 : decode cL_holds 154 = .ok (.if_icmp .gt 30, 3) := by decide +kernel
theorem dL_holds_157 : decode cL_holds 157 = .ok (.aload_n 0, 1) := by decide +kernel
theorem dL_holds_158 : decode cL_holds 158 = .ok (.iload_n 1, 1) := by decide +kernel
theorem dL_holds_159 : decode cL_holds 159 = .ok (.iconst 5, 1) := by decide +kernel
theorem dL_holds_160 : decode cL_holds 160 = .ok (.invokevirtual 21, 3) := by decide +kernel
theorem dL_holds_163 : decode cL_holds 163 = .ok (.iload_n 2, 1) := by decide +kernel
theorem dL_holds_164 : decode cL_holds 164 = .ok (.if_icmp .gt 20, 3) := by decide +kernel
theorem dL_holds_167 : decode cL_holds 167 = .ok (.iload_n 2, 1) := by decide +kernel
theorem dL_holds_168 : decode cL_holds 168 = .ok (.aload_n 0, 1) := by decide +kernel
theorem dL_holds_169 : decode cL_holds 169 = .ok (.iload_n 1, 1) := by decide +kernel
theorem dL_holds_170 : decode cL_holds 170 = .ok (.iconst 5, 1) := by decide +kernel
theorem dL_holds_171 : decode cL_holds 171 = .ok (.invokevirtual 21, 3) := by decide +kernel
theorem dL_holds_174 : decode cL_holds 174 = .ok (.isub, 1) := by decide +kernel
theorem dL_holds_175 : decode cL_holds 175 = .ok (.iconst 2, 1) := by decide +kernel
theorem dL_holds_176 : decode cL_holds 176 = .ok (.irem, 1) := by decide +kernel
theorem dL_holds_177 : decode cL_holds 177 = .ok (.ifCond .ne 7, 3) := by decide +kernel
theorem dL_holds_180 : decode cL_holds 180 = .ok (.iconst 1, 1) := by decide +kernel
theorem dL_holds_181 : decode cL_holds 181 = .ok (.goto 4, 3) := by decide +kernel
theorem dL_holds_184 : decode cL_holds 184 = .ok (.iconst 0, 1) := by decide +kernel
theorem dL_holds_185 : decode cL_holds 185 = .ok (.istore 4, 2) := by decide +kernel
theorem dL_holds_187 : decode cL_holds 187 = .ok (.iload 4, 2) := by decide +kernel
theorem dL_holds_189 : decode cL_holds 189 = .ok (.ifCond .eq 89, 3) := by decide +kernel
theorem dL_holds_192 : decode cL_holds 192 = .ok (.aload_n 0, 1) := by decide +kernel
theorem dL_holds_193 : decode cL_holds 193 = .ok (.iload_n 1, 1) := by decide +kernel
theorem dL_holds_194 : decode cL_holds 194 = .ok (.bipush 8, 2) := by decide +kernel
theorem dL_holds_196 : decode cL_holds 196 = .ok (.invokevirtual 21, 3) := by decide +kernel
theorem dL_holds_199 : decode cL_holds 199 = .ok (.iconst 1, 1) := by decide +kernel
theorem dL_holds_200 : decode cL_holds 200 = .ok (.if_icmp .ne 7, 3) := by decide +kernel
theorem dL_holds_203 : decode cL_holds 203 = .ok (.iconst 1, 1) := by decide +kernel
theorem dL_holds_204 : decode cL_holds 204 = .ok (.goto 4, 3) := by decide +kernel
theorem dL_holds_207 : decode cL_holds 207 = .ok (.iconst 0, 1) := by decide +kernel
theorem dL_holds_208 : decode cL_holds 208 = .ok (.aload_n 0, 1) := by decide +kernel
theorem dL_holds_209 : decode cL_holds 209 = .ok (.iload_n 1, 1) := by decide +kernel
theorem dL_holds_210 : decode cL_holds 210 = .ok (.iconst 3, 1) := by decide +kernel
theorem dL_holds_211 : decode cL_holds 211 = .ok (.invokevirtual 21, 3) := by decide +kernel
theorem dL_holds_214 : decode cL_holds 214 = .ok (.aload_n 0, 1) := by decide +kernel
theorem dL_holds_215 : decode cL_holds 215 = .ok (.iload_n 1, 1) := by decide +kernel
theorem dL_holds_216 : decode cL_holds 216 = .ok (.iconst 0, 1) := by decide +kernel
theorem dL_holds_217 : decode cL_holds 217 = .ok (.invokevirtual 21, 3) := by decide +kernel
theorem dL_holds_220 : decode cL_holds 220 = .ok (.if_icmp .ne 7, 3) := by decide +kernel
theorem dL_holds_223 : decode cL_holds 223 = .ok (.iconst 1, 1) := by decide +kernel
theorem dL_holds_224 : decode cL_holds 224 = .ok (.goto 4, 3) := by decide +kernel
theorem dL_holds_227 : decode cL_holds 227 = .ok (.iconst 0, 1) := by decide +kernel
theorem dL_holds_228 : decode cL_holds 228 = .ok (.if_icmp .ne 50, 3) := by decide +kernel
theorem dL_holds_231 : decode cL_holds 231 = .ok (.aload_n 0, 1) := by decide +kernel
theorem dL_holds_232 : decode cL_holds 232 = .ok (.iload_n 1, 1) := by decide +kernel
theorem dL_holds_233 : decode cL_holds 233 = .ok (.bipush 8, 2) := by decide +kernel
theorem dL_holds_235 : decode cL_holds 235 = .ok (.invokevirtual 21, 3) := by decide +kernel
theorem dL_holds_238 : decode cL_holds 238 = .ok (.iconst 1, 1) := by decide +kernel
theorem dL_holds_239 : decode cL_holds 239 = .ok (.if_icmp .ne 7, 3) := by decide +kernel
theorem dL_holds_242 : decode cL_holds 242 = .ok (.iconst 1, 1) := by decide +kernel
theorem dL_holds_243 : decode cL_holds 243 = .ok (.goto 4, 3) := by decide +kernel
theorem dL_holds_246 : decode cL_holds 246 = .ok (.iconst 0, 1) := by decide +kernel
theorem dL_holds_247 : decode cL_holds 247 = .ok (.aload_n 0, 1) := by decide +kernel
theorem dL_holds_248 : decode cL_holds 248 = .ok (.iload_n 1, 1) := by decide +kernel
theorem dL_holds_249 : decode cL_holds 249 = .ok (.invokevirtual 60, 3) := by decide +kernel
theorem dL_holds_252 : decode cL_holds 252 = .ok (.iconst 1, 1) := by decide +kernel
theorem dL_holds_253 : decode cL_holds 253 = .ok (.if_icmp .ne 7, 3) := by decide +kernel
theorem dL_holds_256 : decode cL_holds 256 = .ok (.iconst 1, 1) := by decide +kernel
theorem dL_holds_257 : decode cL_holds 257 = .ok (.goto 4, 3) := by decide +kernel
theorem dL_holds_260 : decode cL_holds 260 = .ok (.iconst 0, 1) := by decide +kernel
theorem dL_holds_261 : decode cL_holds 261 = .ok (.if_icmp .ne 17, 3) := by decide +kernel
theorem dL_holds_264 : decode cL_holds 264 = .ok (.aload_n 0, 1) := by decide +kernel
theorem dL_holds_265 : decode cL_holds 265 = .ok (.iload_n 1, 1) := by decide +kernel
theorem dL_holds_266 : decode cL_holds 266 = .ok (.iload_n 1, 1) := by decide +kernel
theorem dL_holds_267 : decode cL_holds 267 = .ok (.invokevirtual 63, 3) := by decide +kernel
theorem dL_holds_270 : decode cL_holds 270 = .ok (.iconst 1, 1) := by decide +kernel
theorem dL_holds_271 : decode cL_holds 271 = .ok (.if_icmp .ne 7, 3) := by decide +kernel
theorem dL_holds_274 : decode cL_holds 274 = .ok (.iconst 1, 1) := by decide +kernel
theorem dL_holds_275 : decode cL_holds 275 = .ok (.goto 4, 3) := by decide +kernel
theorem dL_holds_278 : decode cL_holds 278 = .ok (.iconst 0, 1) := by decide +kernel
theorem dL_holds_279 : decode cL_holds 279 = .ok (.istore 4, 2) := by decide +kernel
theorem dL_holds_281 : decode cL_holds 281 = .ok (.bipush 100, 2) := by decide +kernel
theorem dL_holds_283 : decode cL_holds 283 = .ok (.istore 5, 2) := by decide +kernel
theorem dL_holds_285 : decode cL_holds 285 = .ok (.iconst 0, 1) := by decide +kernel
theorem dL_holds_286 : decode cL_holds 286 = .ok (.istore 6, 2) := by decide +kernel
theorem dL_holds_288 : decode cL_holds 288 = .ok (.iload 6, 2) := by decide +kernel
theorem dL_holds_290 : decode cL_holds 290 = .ok (.iload_n 2, 1) := by decide +kernel
theorem dL_holds_291 : decode cL_holds 291 = .ok (.if_icmp .ge 62, 3) := by decide +kernel
theorem dL_holds_294 : decode cL_holds 294 = .ok (.iload 5, 2) := by decide +kernel
theorem dL_holds_296 : decode cL_holds 296 = .ok (.aload_n 0, 1) := by decide +kernel
theorem dL_holds_297 : decode cL_holds 297 = .ok (.iload_n 1, 1) := by decide +kernel
theorem dL_holds_298 : decode cL_holds 298 = .ok (.iload 6, 2) := by decide +kernel
theorem dL_holds_300 : decode cL_holds 300 = .ok (.iconst 1, 1) := by decide +kernel
theorem dL_holds_301 : decode cL_holds 301 = .ok (.invokevirtual 25, 3) := by decide +kernel
theorem dL_holds_304 : decode cL_holds 304 = .ok (.iconst 1, 1) := by decide +kernel
theorem dL_holds_305 : decode cL_holds 305 = .ok (.if_icmp .ne 7, 3) := by decide +kernel
theorem dL_holds_308 : decode cL_holds 308 = .ok (.iconst 1, 1) := by decide +kernel
theorem dL_holds_309 : decode cL_holds 309 = .ok (.goto 4, 3) := by decide +kernel
theorem dL_holds_312 : decode cL_holds 312 = .ok (.iconst (-1), 1) := by decide +kernel
theorem dL_holds_313 : decode cL_holds 313 = .ok (.iadd, 1) := by decide +kernel
theorem dL_holds_314 : decode cL_holds 314 = .ok (.istore 5, 2) := by decide +kernel
theorem dL_holds_316 : decode cL_holds 316 = .ok (.iload 4, 2) := by decide +kernel
theorem dL_holds_318 : decode cL_holds 318 = .ok (.ifCond .eq 26, 3) := by decide +kernel
theorem dL_holds_321 : decode cL_holds 321 = .ok (.aload_n 0, 1) := by decide +kernel
theorem dL_holds_322 : decode cL_holds 322 = .ok (.iload_n 1, 1) := by decide +kernel
theorem dL_holds_323 : decode cL_holds 323 = .ok (.iload 6, 2) := by decide +kernel
theorem dL_holds_325 : decode cL_holds 325 = .ok (.iconst 2, 1) := by decide +kernel
theorem dL_holds_326 : decode cL_holds 326 = .ok (.invokevirtual 25, 3) := by decide +kernel
theorem dL_holds_329 : decode cL_holds 329 = .ok (.aload_n 0, 1) := by decide +kernel
theorem dL_holds_330 : decode cL_holds 330 = .ok (.iload_n 1, 1) := by decide +kernel
theorem dL_holds_331 : decode cL_holds 331 = .ok (.iload 6, 2) := by decide +kernel
theorem dL_holds_333 : decode cL_holds 333 = .ok (.iconst 3, 1) := by decide +kernel
theorem dL_holds_334 : decode cL_holds 334 = .ok (.invokevirtual 25, 3) := by decide +kernel
theorem dL_holds_337 : decode cL_holds 337 = .ok (.if_icmp .eq 7, 3) := by decide +kernel
theorem dL_holds_340 : decode cL_holds 340 = .ok (.iconst 1, 1) := by decide +kernel
theorem dL_holds_341 : decode cL_holds 341 = .ok (.goto 4, 3) := by decide +kernel
theorem dL_holds_344 : decode cL_holds 344 = .ok (.iconst 0, 1) := by decide +kernel
theorem dL_holds_345 : decode cL_holds 345 = .ok (.istore 4, 2) := by decide +kernel
theorem dL_holds_347 : decode cL_holds 347 = .ok (.iinc 6 1, 3) := by decide +kernel
theorem dL_holds_350 : decode cL_holds 350 = .ok (.goto (-62), 3) := by decide +kernel
theorem dL_holds_353 : decode cL_holds 353 = .ok (.iload 4, 2) := by decide +kernel
theorem dL_holds_355 : decode cL_holds 355 = .ok (.ifCond .eq 18, 3) := by decide +kernel
theorem dL_holds_358 : decode cL_holds 358 = .ok (.iload 5, 2) := by decide +kernel
theorem dL_holds_360 : decode cL_holds 360 = .ok (.aload_n 0, 1) := by decide +kernel
theorem dL_holds_361 : decode cL_holds 361 = .ok (.iload_n 1, 1) := by decide +kernel
theorem dL_holds_362 : decode cL_holds 362 = .ok (.iconst 2, 1) := by decide +kernel
theorem dL_holds_363 : decode cL_holds 363 = .ok (.invokevirtual 21, 3) := by decide +kernel
theorem dL_holds_366 : decode cL_holds 366 = .ok (.if_icmp .ne 7, 3) := by decide +kernel
theorem dL_holds_369 : decode cL_holds 369 = .ok (.iconst 1, 1) := by decide +kernel
theorem dL_holds_370 : decode cL_holds 370 = .ok (.goto 4, 3) := by decide +kernel
theorem dL_holds_373 : decode cL_holds 373 = .ok (.iconst 0, 1) := by decide +kernel
theorem dL_holds_374 : decode cL_holds 374 = .ok (.ireturn, 1) := by decide +kernel
theorem dL_isTwice_0 : decode cL_isTwice 0 = .ok (.aload_n 0, 1) := by decide +kernel
theorem dL_isTwice_1 : decode cL_isTwice 1 = .ok (.invokevirtual 66, 3) := by decide +kernel
theorem dL_isTwice_4 : decode cL_isTwice 4 = .ok (.pop, 1) := by decide +kernel
theorem dL_isTwice_5 : decode cL_isTwice 5 = .ok (.aload_n 0, 1) := by decide +kernel
theorem dL_isTwice_6 : decode cL_isTwice 6 = .ok (.invokestatic 69, 3) := by decide +kernel
theorem dL_isTwice_9 : decode cL_isTwice 9 = .ok (.lstore_n 3, 1) := by decide +kernel
theorem dL_isTwice_10 : decode cL_isTwice 10 = .ok (.aload_n 0, 1) := by decide +kernel
theorem dL_isTwice_11 : decode cL_isTwice 11 = .ok (.iconst 5, 1) := by decide +kernel
theorem dL_isTwice_12 : decode cL_isTwice 12 = .ok (.invokevirtual 12, 3) := by decide +kernel
theorem dL_isTwice_15 : decode cL_isTwice 15 = .ok (.istore 5, 2) := by decide +kernel
theorem dL_isTwice_17 : decode cL_isTwice 17 = .ok (.aload_n 0, 1) := by decide +kernel
theorem dL_isTwice_18 : decode cL_isTwice 18 = .ok (.invokevirtual 44, 3) := by decide +kernel
theorem dL_isTwice_21 : decode cL_isTwice 21 = .ok (.pop, 1) := by decide +kernel
theorem dL_isTwice_22 : decode cL_isTwice 22 = .ok (.iconst 0, 1) := by decide +kernel
theorem dL_isTwice_23 : decode cL_isTwice 23 = .ok (.istore 6, 2) := by decide +kernel
theorem dL_isTwice_25 : decode cL_isTwice 25 = .ok (.iload 6, 2) := by decide +kernel
theorem dL_isTwice_27 : decode cL_isTwice 27 = .ok (.iconst 2, 1) := by decide +kernel
theorem dL_isTwice_28 : decode cL_isTwice 28 = .ok (.if_icmp .ge 56, 3) := by decide +kernel
theorem dL_isTwice_31 : decode cL_isTwice 31 = .ok (.iload 6, 2) := by decide +kernel
theorem dL_isTwice_33 : decode cL_isTwice 33 = .ok (.ifCond .le 10, 3) := by decide +kernel
theorem dL_isTwice_36 : decode cL_isTwice 36 = .ok (.aload_n 0, 1) := by decide +kernel
theorem dL_isTwice_37 : decode cL_isTwice 37 = .ok (.bipush 59, 2) := by decide +kernel
theorem dL_isTwice_39 : decode cL_isTwice 39 = .ok (.invokevirtual 48, 3) := by decide +kernel
theorem dL_isTwice_42 : decode cL_isTwice 42 = .ok (.pop, 1) := by decide +kernel
theorem dL_isTwice_43 : decode cL_isTwice 43 = .ok (.aload_n 0, 1) := by decide +kernel
theorem dL_isTwice_44 : decode cL_isTwice 44 = .ok (.iload_n 2, 1) := by decide +kernel
theorem dL_isTwice_45 : decode cL_isTwice 45 = .ok (.ifCond .ne 8, 3) := by decide +kernel
theorem dL_isTwice_48 : decode cL_isTwice 48 = .ok (.bipush 109, 2) := by decide +kernel
theorem dL_isTwice_50 : decode cL_isTwice 50 = .ok (.goto 15, 3) := by decide +kernel
theorem dL_isTwice_53 : decode cL_isTwice 53 = .ok (.iload_n 2, 1) := by decide +kernel
theorem dL_isTwice_54 : decode cL_isTwice 54 = .ok (.iconst 1, 1) := by decide +kernel
theorem dL_isTwice_55 : decode cL_isTwice 55 = .ok (.if_icmp .ne 8, 3) := by decide +kernel
theorem dL_isTwice_58 : decode cL_isTwice 58 = .ok (.bipush 116, 2) := by decide +kernel
theorem dL_isTwice_60 : decode cL_isTwice 60 = .ok (.goto 5, 3) := by decide +kernel
theorem dL_isTwice_63 : decode cL_isTwice 63 = .ok (.bipush 114, 2) := by decide +kernel
theorem dL_isTwice_65 : decode cL_isTwice 65 = .ok (.invokevirtual 48, 3) := by decide +kernel
theorem dL_isTwice_68 : decode cL_isTwice 68 = .ok (.pop, 1) := by decide +kernel
theorem dL_isTwice_69 : decode cL_isTwice 69 = .ok (.aload_n 0, 1) := by decide +kernel
theorem dL_isTwice_70 : decode cL_isTwice 70 = .ok (.bipush 48, 2) := by decide +kernel
theorem dL_isTwice_72 : decode cL_isTwice 72 = .ok (.iload_n 1, 1) := by decide +kernel
theorem dL_isTwice_73 : decode cL_isTwice 73 = .ok (.iadd, 1) := by decide +kernel
theorem dL_isTwice_74 : decode cL_isTwice 74 = .ok (.invokevirtual 48, 3) := by decide +kernel
theorem dL_isTwice_77 : decode cL_isTwice 77 = .ok (.pop, 1) := by decide +kernel
theorem dL_isTwice_78 : decode cL_isTwice 78 = .ok (.iinc 6 1, 3) := by decide +kernel
theorem dL_isTwice_81 : decode cL_isTwice 81 = .ok (.goto (-56), 3) := by decide +kernel
theorem dL_isTwice_84 : decode cL_isTwice 84 = .ok (.lconst 0, 1) := by decide +kernel
theorem dL_isTwice_85 : decode cL_isTwice 85 = .ok (.lstore 6, 2) := by decide +kernel
theorem dL_isTwice_87 : decode cL_isTwice 87 = .ok (.iconst 0, 1) := by decide +kernel
theorem dL_isTwice_88 : decode cL_isTwice 88 = .ok (.istore 8, 2) := by decide +kernel
theorem dL_isTwice_90 : decode cL_isTwice 90 = .ok (.iload 8, 2) := by decide +kernel
theorem dL_isTwice_92 : decode cL_isTwice 92 = .ok (.aload_n 0, 1) := by decide +kernel
theorem dL_isTwice_93 : decode cL_isTwice 93 = .ok (.iload_n 1, 1) := by decide +kernel
theorem dL_isTwice_94 : decode cL_isTwice 94 = .ok (.iconst 1, 1) := by decide +kernel
theorem dL_isTwice_95 : decode cL_isTwice 95 = .ok (.invokevirtual 21, 3) := by decide +kernel
theorem dL_isTwice_98 : decode cL_isTwice 98 = .ok (.if_icmp .ge 39, 3) := by decide +kernel
theorem dL_isTwice_101 : decode cL_isTwice 101 = .ok (.ldc2_w 10, 3) := by decide +kernel
theorem dL_isTwice_104 : decode cL_isTwice 104 = .ok (.lload 6, 2) := by decide +kernel
theorem dL_isTwice_106 : decode cL_isTwice 106 = .ok (.lmul, 1) := by decide +kernel
theorem dL_isTwice_107 : decode cL_isTwice 107 = .ok (.iconst 2, 1) := by decide +kernel
theorem dL_isTwice_108 : decode cL_isTwice 108 = .ok (.aload_n 0, 1) := by decide +kernel
theorem dL_isTwice_109 : decode cL_isTwice 109 = .ok (.iload_n 1, 1) := by decide +kernel
theorem dL_isTwice_110 : decode cL_isTwice 110 = .ok (.iload 8, 2) := by decide +kernel
theorem dL_isTwice_112 : decode cL_isTwice 112 = .ok (.iconst 0, 1) := by decide +kernel
theorem dL_isTwice_113 : decode cL_isTwice 113 = .ok (.invokevirtual 25, 3) := by decide +kernel
theorem dL_isTwice_116 : decode cL_isTwice 116 = .ok (.imul, 1) := by decide +kernel
theorem dL_isTwice_117 : decode cL_isTwice 117 = .ok (.i2l, 1) := by decide +kernel
theorem dL_isTwice_118 : decode cL_isTwice 118 = .ok (.ladd, 1) := by decide +kernel
theorem dL_isTwice_119 : decode cL_isTwice 119 = .ok (.aload_n 0, 1) := by decide +kernel
theorem dL_isTwice_120 : decode cL_isTwice 120 = .ok (.iload_n 1, 1) := by decide +kernel
theorem dL_isTwice_121 : decode cL_isTwice 121 = .ok (.iload 8, 2) := by decide +kernel
theorem dL_isTwice_123 : decode cL_isTwice 123 = .ok (.iconst 1, 1) := by decide +kernel
theorem dL_isTwice_124 : decode cL_isTwice 124 = .ok (.invokevirtual 25, 3) := by decide +kernel
theorem dL_isTwice_127 : decode cL_isTwice 127 = .ok (.i2l, 1) := by decide +kernel
theorem dL_isTwice_128 : decode cL_isTwice 128 = .ok (.ladd, 1) := by decide +kernel
theorem dL_isTwice_129 : decode cL_isTwice 129 = .ok (.lstore 6, 2) := by decide +kernel
theorem dL_isTwice_131 : decode cL_isTwice 131 = .ok (.iinc 8 1, 3) := by decide +kernel
theorem dL_isTwice_134 : decode cL_isTwice 134 = .ok (.goto (-44), 3) := by decide +kernel
theorem dL_isTwice_137 : decode cL_isTwice 137 = .ok (.aload_n 0, 1) := by decide +kernel
theorem dL_isTwice_138 : decode cL_isTwice 138 = .ok (.invokevirtual 51, 3) := by decide +kernel
theorem dL_isTwice_141 : decode cL_isTwice 141 = .ok (.istore 8, 2) := by decide +kernel
theorem dL_isTwice_143 : decode cL_isTwice 143 = .ok (.aload_n 0, 1) := by decide +kernel
theorem dL_isTwice_144 : decode cL_isTwice 144 = .ok (.iconst 5, 1) := by decide +kernel
theorem dL_isTwice_145 : decode cL_isTwice 145 = .ok (.invokevirtual 12, 3) := by decide +kernel
theorem dL_isTwice_148 : decode cL_isTwice 148 = .ok (.iload 5, 2) := by decide +kernel
theorem dL_isTwice_150 : decode cL_isTwice 150 = .ok (.iload 8, 2) := by decide +kernel
theorem dL_isTwice_152 : decode cL_isTwice 152 = .ok (.iadd, 1) := by decide +kernel
theorem dL_isTwice_153 : decode cL_isTwice 153 = .ok (.if_icmp .ne 35, 3) := by decide +kernel
theorem dL_isTwice_156 : decode cL_isTwice 156 = .ok (.iload 8, 2) := by decide +kernel
theorem dL_isTwice_158 : decode cL_isTwice 158 = .ok (.iconst 2, 1) := by decide +kernel
theorem dL_isTwice_159 : decode cL_isTwice 159 = .ok (.if_icmp .ne 7, 3) := by decide +kernel
theorem dL_isTwice_162 : decode cL_isTwice 162 = .ok (.iconst 1, 1) := by decide +kernel
theorem dL_isTwice_163 : decode cL_isTwice 163 = .ok (.goto 4, 3) := by decide +kernel
theorem dL_isTwice_166 : decode cL_isTwice 166 = .ok (.iconst 0, 1) := by decide +kernel
theorem dL_isTwice_167 : decode cL_isTwice 167 = .ok (.aload_n 0, 1) := by decide +kernel
theorem dL_isTwice_168 : decode cL_isTwice 168 = .ok (.iconst 0, 1) := by decide +kernel
theorem dL_isTwice_169 : decode cL_isTwice 169 = .ok (.invokevirtual 18, 3) := by decide +kernel
theorem dL_isTwice_172 : decode cL_isTwice 172 = .ok (.iconst (-1), 1) := by decide +kernel
theorem dL_isTwice_173 : decode cL_isTwice 173 = .ok (.if_icmp .ne 7, 3) := by decide +kernel
theorem dL_isTwice_176 : decode cL_isTwice 176 = .ok (.iconst 1, 1) := by decide +kernel
theorem dL_isTwice_177 : decode cL_isTwice 177 = .ok (.goto 4, 3) := by decide +kernel
theorem dL_isTwice_180 : decode cL_isTwice 180 = .ok (.iconst 0, 1) := by decide +kernel
theorem dL_isTwice_181 : decode cL_isTwice 181 = .ok (.if_icmp .ne 7, 3) := by decide +kernel
theorem dL_isTwice_184 : decode cL_isTwice 184 = .ok (.iconst 1, 1) := by decide +kernel
theorem dL_isTwice_185 : decode cL_isTwice 185 = .ok (.goto 4, 3) := by decide +kernel
theorem dL_isTwice_188 : decode cL_isTwice 188 = .ok (.iconst 0, 1) := by decide +kernel
theorem dL_isTwice_189 : decode cL_isTwice 189 = .ok (.istore 9, 2) := by decide +kernel
theorem dL_isTwice_191 : decode cL_isTwice 191 = .ok (.iload 8, 2) := by decide +kernel
theorem dL_isTwice_193 : decode cL_isTwice 193 = .ok (.iconst 2, 1) := by decide +kernel
theorem dL_isTwice_194 : decode cL_isTwice 194 = .ok (.if_icmp .ne 79, 3) := by decide +kernel
theorem dL_isTwice_197 : decode cL_isTwice 197 = .ok (.lconst 0, 1) := by decide +kernel
theorem dL_isTwice_198 : decode cL_isTwice 198 = .ok (.lstore 10, 2) := by decide +kernel
theorem dL_isTwice_200 : decode cL_isTwice 200 = .ok (.iconst 0, 1) := by decide +kernel
theorem dL_isTwice_201 : decode cL_isTwice 201 = .ok (.istore 12, 2) := by decide +kernel
theorem dL_isTwice_203 : decode cL_isTwice 203 = .ok (.iload 12, 2) := by decide +kernel
theorem dL_isTwice_205 : decode cL_isTwice 205 = .ok (.aload_n 0, 1) := by decide +kernel
theorem dL_isTwice_206 : decode cL_isTwice 206 = .ok (.iload_n 1, 1) := by decide +kernel
theorem dL_isTwice_207 : decode cL_isTwice 207 = .ok (.iconst 1, 1) := by decide +kernel
theorem dL_isTwice_208 : decode cL_isTwice 208 = .ok (.invokevirtual 21, 3) := by decide +kernel
theorem dL_isTwice_211 : decode cL_isTwice 211 = .ok (.if_icmp .ge 39, 3) := by decide +kernel
theorem dL_isTwice_214 : decode cL_isTwice 214 = .ok (.ldc2_w 10, 3) := by decide +kernel
theorem dL_isTwice_217 : decode cL_isTwice 217 = .ok (.lload 10, 2) := by decide +kernel
theorem dL_isTwice_219 : decode cL_isTwice 219 = .ok (.lmul, 1) := by decide +kernel
theorem dL_isTwice_220 : decode cL_isTwice 220 = .ok (.iconst 2, 1) := by decide +kernel
theorem dL_isTwice_221 : decode cL_isTwice 221 = .ok (.aload_n 0, 1) := by decide +kernel
theorem dL_isTwice_222 : decode cL_isTwice 222 = .ok (.iload_n 1, 1) := by decide +kernel
theorem dL_isTwice_223 : decode cL_isTwice 223 = .ok (.iload 12, 2) := by decide +kernel
theorem dL_isTwice_225 : decode cL_isTwice 225 = .ok (.iconst 0, 1) := by decide +kernel
theorem dL_isTwice_226 : decode cL_isTwice 226 = .ok (.invokevirtual 25, 3) := by decide +kernel
theorem dL_isTwice_229 : decode cL_isTwice 229 = .ok (.imul, 1) := by decide +kernel
theorem dL_isTwice_230 : decode cL_isTwice 230 = .ok (.i2l, 1) := by decide +kernel
theorem dL_isTwice_231 : decode cL_isTwice 231 = .ok (.ladd, 1) := by decide +kernel
theorem dL_isTwice_232 : decode cL_isTwice 232 = .ok (.aload_n 0, 1) := by decide +kernel
theorem dL_isTwice_233 : decode cL_isTwice 233 = .ok (.iload_n 1, 1) := by decide +kernel
theorem dL_isTwice_234 : decode cL_isTwice 234 = .ok (.iload 12, 2) := by decide +kernel
theorem dL_isTwice_236 : decode cL_isTwice 236 = .ok (.iconst 1, 1) := by decide +kernel
theorem dL_isTwice_237 : decode cL_isTwice 237 = .ok (.invokevirtual 25, 3) := by decide +kernel
theorem dL_isTwice_240 : decode cL_isTwice 240 = .ok (.i2l, 1) := by decide +kernel
theorem dL_isTwice_241 : decode cL_isTwice 241 = .ok (.ladd, 1) := by decide +kernel
theorem dL_isTwice_242 : decode cL_isTwice 242 = .ok (.lstore 10, 2) := by decide +kernel
theorem dL_isTwice_244 : decode cL_isTwice 244 = .ok (.iinc 12 1, 3) := by decide +kernel
theorem dL_isTwice_247 : decode cL_isTwice 247 = .ok (.goto (-44), 3) := by decide +kernel
theorem dL_isTwice_250 : decode cL_isTwice 250 = .ok (.iload 9, 2) := by decide +kernel
theorem dL_isTwice_252 : decode cL_isTwice 252 = .ok (.ifCond .eq 15, 3) := by decide +kernel
theorem dL_isTwice_255 : decode cL_isTwice 255 = .ok (.lload 10, 2) := by decide +kernel
theorem dL_isTwice_257 : decode cL_isTwice 257 = .ok (.lload 6, 2) := by decide +kernel
theorem dL_isTwice_259 : decode cL_isTwice 259 = .ok (.lcmp, 1) := by decide +kernel
theorem dL_isTwice_260 : decode cL_isTwice 260 = .ok (.ifCond .ne 7, 3) := by decide +kernel
theorem dL_isTwice_263 : decode cL_isTwice 263 = .ok (.iconst 1, 1) := by decide +kernel
theorem dL_isTwice_264 : decode cL_isTwice 264 = .ok (.goto 4, 3) := by decide +kernel
theorem dL_isTwice_267 : decode cL_isTwice 267 = .ok (.iconst 0, 1) := by decide +kernel
theorem dL_isTwice_268 : decode cL_isTwice 268 = .ok (.istore 9, 2) := by decide +kernel
theorem dL_isTwice_270 : decode cL_isTwice 270 = .ok (.goto 24, 3) := by decide +kernel
theorem dL_isTwice_273 : decode cL_isTwice 273 = .ok (.iload 9, 2) := by decide +kernel
theorem dL_isTwice_275 : decode cL_isTwice 275 = .ok (.ifCond .eq 16, 3) := by decide +kernel
theorem dL_isTwice_278 : decode cL_isTwice 278 = .ok (.aload_n 0, 1) := by decide +kernel
theorem dL_isTwice_279 : decode cL_isTwice 279 = .ok (.iconst 1, 1) := by decide +kernel
theorem dL_isTwice_280 : decode cL_isTwice 280 = .ok (.invokevirtual 18, 3) := by decide +kernel
theorem dL_isTwice_283 : decode cL_isTwice 283 = .ok (.iconst 2, 1) := by decide +kernel
theorem dL_isTwice_284 : decode cL_isTwice 284 = .ok (.if_icmp .ne 7, 3) := by decide +kernel
theorem dL_isTwice_287 : decode cL_isTwice 287 = .ok (.iconst 1, 1) := by decide +kernel
theorem dL_isTwice_288 : decode cL_isTwice 288 = .ok (.goto 4, 3) := by decide +kernel
theorem dL_isTwice_291 : decode cL_isTwice 291 = .ok (.iconst 0, 1) := by decide +kernel
theorem dL_isTwice_292 : decode cL_isTwice 292 = .ok (.istore 9, 2) := by decide +kernel
theorem dL_isTwice_294 : decode cL_isTwice 294 = .ok (.aload_n 0, 1) := by decide +kernel
theorem dL_isTwice_295 : decode cL_isTwice 295 = .ok (.invokevirtual 73, 3) := by decide +kernel
theorem dL_isTwice_298 : decode cL_isTwice 298 = .ok (.pop, 1) := by decide +kernel
theorem dL_isTwice_299 : decode cL_isTwice 299 = .ok (.iload 9, 2) := by decide +kernel
theorem dL_isTwice_301 : decode cL_isTwice 301 = .ok (.ifCond .eq 16, 3) := by decide +kernel
theorem dL_isTwice_304 : decode cL_isTwice 304 = .ok (.aload_n 0, 1) := by decide +kernel
theorem dL_isTwice_305 : decode cL_isTwice 305 = .ok (.invokestatic 69, 3) := by decide +kernel
theorem dL_isTwice_308 : decode cL_isTwice 308 = .ok (.lload_n 3, 1) := by decide +kernel
theorem dL_isTwice_309 : decode cL_isTwice 309 = .ok (.lcmp, 1) := by decide +kernel
theorem dL_isTwice_310 : decode cL_isTwice 310 = .ok (.ifCond .ne 7, 3) := by decide +kernel
theorem dL_isTwice_313 : decode cL_isTwice 313 = .ok (.iconst 1, 1) := by decide +kernel
theorem dL_isTwice_314 : decode cL_isTwice 314 = .ok (.goto 4, 3) := by decide +kernel
theorem dL_isTwice_317 : decode cL_isTwice 317 = .ok (.iconst 0, 1) := by decide +kernel
theorem dL_isTwice_318 : decode cL_isTwice 318 = .ok (.ireturn, 1) := by decide +kernel
theorem dL_law_0 : decode cL_law 0 = .ok (.new 13, 3) := by decide +kernel
theorem dL_law_3 : decode cL_law 3 = .ok (.dup, 1) := by decide +kernel
theorem dL_law_4 : decode cL_law 4 = .ok (.invokespecial 76, 3) := by decide +kernel
theorem dL_law_7 : decode cL_law 7 = .ok (.astore_n 1, 1) := by decide +kernel
theorem dL_law_8 : decode cL_law 8 = .ok (.aload_n 1, 1) := by decide +kernel
theorem dL_law_9 : decode cL_law 9 = .ok (.bipush 50, 2) := by decide +kernel
theorem dL_law_11 : decode cL_law 11 = .ok (.aload_n 0, 1) := by decide +kernel
theorem dL_law_12 : decode cL_law 12 = .ok (.iconst 0, 1) := by decide +kernel
theorem dL_law_13 : decode cL_law 13 = .ok (.invokestatic 77, 3) := by decide +kernel
theorem dL_law_16 : decode cL_law 16 = .ok (.bipush 6, 2) := by decide +kernel
theorem dL_law_18 : decode cL_law 18 = .ok (.invokestatic 29, 3) := by decide +kernel
theorem dL_law_21 : decode cL_law 21 = .ok (.iadd, 1) := by decide +kernel
theorem dL_law_22 : decode cL_law 22 = .ok (.invokevirtual 48, 3) := by decide +kernel
theorem dL_law_25 : decode cL_law 25 = .ok (.pop, 1) := by decide +kernel
theorem dL_law_26 : decode cL_law 26 = .ok (.aload_n 1, 1) := by decide +kernel
theorem dL_law_27 : decode cL_law 27 = .ok (.bipush 58, 2) := by decide +kernel
theorem dL_law_29 : decode cL_law 29 = .ok (.invokevirtual 48, 3) := by decide +kernel
theorem dL_law_32 : decode cL_law 32 = .ok (.pop, 1) := by decide +kernel
theorem dL_law_33 : decode cL_law 33 = .ok (.aload_n 1, 1) := by decide +kernel
theorem dL_law_34 : decode cL_law 34 = .ok (.iconst 0, 1) := by decide +kernel
theorem dL_law_35 : decode cL_law 35 = .ok (.invokevirtual 18, 3) := by decide +kernel
theorem dL_law_38 : decode cL_law 38 = .ok (.iconst (-1), 1) := by decide +kernel
theorem dL_law_39 : decode cL_law 39 = .ok (.if_icmp .ne 38, 3) := by decide +kernel
theorem dL_law_42 : decode cL_law 42 = .ok (.aload_n 1, 1) := by decide +kernel
theorem dL_law_43 : decode cL_law 43 = .ok (.bipush 6, 2) := by decide +kernel
theorem dL_law_45 : decode cL_law 45 = .ok (.invokevirtual 12, 3) := by decide +kernel
theorem dL_law_48 : decode cL_law 48 = .ok (.ifCond .ne 29, 3) := by decide +kernel
theorem dL_law_51 : decode cL_law 51 = .ok (.aload_n 1, 1) := by decide +kernel
theorem dL_law_52 : decode cL_law 52 = .ok (.invokevirtual 54, 3) := by decide +kernel
theorem dL_law_55 : decode cL_law 55 = .ok (.ifCond .ne 22, 3) := by decide +kernel
theorem dL_law_58 : decode cL_law 58 = .ok (.aload_n 1, 1) := by decide +kernel
theorem dL_law_59 : decode cL_law 59 = .ok (.bipush 6, 2) := by decide +kernel
theorem dL_law_61 : decode cL_law 61 = .ok (.invokevirtual 12, 3) := by decide +kernel
theorem dL_law_64 : decode cL_law 64 = .ok (.iconst 1, 1) := by decide +kernel
theorem dL_law_65 : decode cL_law 65 = .ok (.if_icmp .ne 12, 3) := by decide +kernel
theorem dL_law_68 : decode cL_law 68 = .ok (.aload_n 1, 1) := by decide +kernel
theorem dL_law_69 : decode cL_law 69 = .ok (.invokevirtual 81, 3) := by decide +kernel
theorem dL_law_72 : decode cL_law 72 = .ok (.dconst 1, 1) := by decide +kernel
theorem dL_law_73 : decode cL_law 73 = .ok (.dcmp .l, 1) := by decide +kernel
theorem dL_law_74 : decode cL_law 74 = .ok (.ifCond .eq 5, 3) := by decide +kernel
theorem dL_law_77 : decode cL_law 77 = .ok (.iconst 0, 1) := by decide +kernel
theorem dL_law_78 : decode cL_law 78 = .ok (.ireturn, 1) := by decide +kernel
theorem dL_law_79 : decode cL_law 79 = .ok (.iconst 0, 1) := by decide +kernel
theorem dL_law_80 : decode cL_law 80 = .ok (.istore_n 2, 1) := by decide +kernel
theorem dL_law_81 : decode cL_law 81 = .ok (.iload_n 2, 1) := by decide +kernel
theorem dL_law_82 : decode cL_law 82 = .ok (.bipush 32, 2) := by decide +kernel
theorem dL_law_84 : decode cL_law 84 = .ok (.if_icmp .ge 238, 3) := by decide +kernel
theorem dL_law_87 : decode cL_law 87 = .ok (.aload_n 0, 1) := by decide +kernel
theorem dL_law_88 : decode cL_law 88 = .ok (.iconst 1, 1) := by decide +kernel
theorem dL_law_89 : decode cL_law 89 = .ok (.iload_n 2, 1) := by decide +kernel
theorem dL_law_90 : decode cL_law 90 = .ok (.iadd, 1) := by decide +kernel
theorem dL_law_91 : decode cL_law 91 = .ok (.invokestatic 77, 3) := by decide +kernel
theorem dL_law_94 : decode cL_law 94 = .ok (.istore_n 3, 1) := by decide +kernel
theorem dL_law_95 : decode cL_law 95 = .ok (.aload_n 1, 1) := by decide +kernel
theorem dL_law_96 : decode cL_law 96 = .ok (.invokestatic 69, 3) := by decide +kernel
theorem dL_law_99 : decode cL_law 99 = .ok (.lstore 4, 2) := by decide +kernel
theorem dL_law_101 : decode cL_law 101 = .ok (.aload_n 1, 1) := by decide +kernel
theorem dL_law_102 : decode cL_law 102 = .ok (.bipush 6, 2) := by decide +kernel
theorem dL_law_104 : decode cL_law 104 = .ok (.invokevirtual 12, 3) := by decide +kernel
theorem dL_law_107 : decode cL_law 107 = .ok (.istore 6, 2) := by decide +kernel
theorem dL_law_109 : decode cL_law 109 = .ok (.aload_n 1, 1) := by decide +kernel
theorem dL_law_110 : decode cL_law 110 = .ok (.iload_n 3, 1) := by decide +kernel
theorem dL_law_111 : decode cL_law 111 = .ok (.invokestatic 85, 3) := by decide +kernel
theorem dL_law_114 : decode cL_law 114 = .ok (.istore 7, 2) := by decide +kernel
theorem dL_law_116 : decode cL_law 116 = .ok (.aload_n 1, 1) := by decide +kernel
theorem dL_law_117 : decode cL_law 117 = .ok (.bipush 6, 2) := by decide +kernel
theorem dL_law_119 : decode cL_law 119 = .ok (.invokevirtual 12, 3) := by decide +kernel
theorem dL_law_122 : decode cL_law 122 = .ok (.iload 7, 2) := by decide +kernel
theorem dL_law_124 : decode cL_law 124 = .ok (.ifCond .eq 22, 3) := by decide +kernel
theorem dL_law_127 : decode cL_law 127 = .ok (.iload 6, 2) := by decide +kernel
theorem dL_law_129 : decode cL_law 129 = .ok (.bipush 6, 2) := by decide +kernel
theorem dL_law_131 : decode cL_law 131 = .ok (.if_icmp .ge 10, 3) := by decide +kernel
theorem dL_law_134 : decode cL_law 134 = .ok (.iload 6, 2) := by decide +kernel
theorem dL_law_136 : decode cL_law 136 = .ok (.iconst 1, 1) := by decide +kernel
theorem dL_law_137 : decode cL_law 137 = .ok (.iadd, 1) := by decide +kernel
theorem dL_law_138 : decode cL_law 138 = .ok (.goto 10, 3) := by decide +kernel
theorem dL_law_141 : decode cL_law 141 = .ok (.bipush 6, 2) := by decide +kernel
theorem dL_law_143 : decode cL_law 143 = .ok (.goto 5, 3) := by decide +kernel
theorem dL_law_146 : decode cL_law 146 = .ok (.iload 6, 2) := by decide +kernel
theorem dL_law_148 : decode cL_law 148 = .ok (.if_icmp .ne 18, 3) := by decide +kernel
theorem dL_law_151 : decode cL_law 151 = .ok (.iload 7, 2) := by decide +kernel
theorem dL_law_153 : decode cL_law 153 = .ok (.ifCond .ne 15, 3) := by decide +kernel
theorem dL_law_156 : decode cL_law 156 = .ok (.aload_n 1, 1) := by decide +kernel
theorem dL_law_157 : decode cL_law 157 = .ok (.invokestatic 69, 3) := by decide +kernel
theorem dL_law_160 : decode cL_law 160 = .ok (.lload 4, 2) := by decide +kernel
theorem dL_law_162 : decode cL_law 162 = .ok (.lcmp, 1) := by decide +kernel
theorem dL_law_163 : decode cL_law 163 = .ok (.ifCond .eq 5, 3) := by decide +kernel
theorem dL_law_166 : decode cL_law 166 = .ok (.iconst 0, 1) := by decide +kernel
theorem dL_law_167 : decode cL_law 167 = .ok (.ireturn, 1) := by decide +kernel
theorem dL_law_168 : decode cL_law 168 = .ok (.iload 7, 2) := by decide +kernel
theorem dL_law_170 : decode cL_law 170 = .ok (.ifCond .eq 67, 3) := by decide +kernel
theorem dL_law_173 : decode cL_law 173 = .ok (.iload_n 3, 1) := by decide +kernel
theorem dL_law_174 : decode cL_law 174 = .ok (.bipush 10, 2) := by decide +kernel
theorem dL_law_176 : decode cL_law 176 = .ok (.ishr, 1) := by decide +kernel
theorem dL_law_177 : decode cL_law 177 = .ok (.iconst 1, 1) := by decide +kernel
theorem dL_law_178 : decode cL_law 178 = .ok (.iand, 1) := by decide +kernel
theorem dL_law_179 : decode cL_law 179 = .ok (.ifCond .ne 58, 3) := by decide +kernel
theorem dL_law_182 : decode cL_law 182 = .ok (.aload_n 1, 1) := by decide +kernel
theorem dL_law_183 : decode cL_law 183 = .ok (.invokestatic 69, 3) := by decide +kernel
theorem dL_law_186 : decode cL_law 186 = .ok (.lstore 8, 2) := by decide +kernel
theorem dL_law_188 : decode cL_law 188 = .ok (.aload_n 1, 1) := by decide +kernel
theorem dL_law_189 : decode cL_law 189 = .ok (.bipush 6, 2) := by decide +kernel
theorem dL_law_191 : decode cL_law 191 = .ok (.invokevirtual 12, 3) := by decide +kernel
theorem dL_law_194 : decode cL_law 194 = .ok (.iconst 1, 1) := by decide +kernel
theorem dL_law_195 : decode cL_law 195 = .ok (.isub, 1) := by decide +kernel
theorem dL_law_196 : decode cL_law 196 = .ok (.istore 10, 2) := by decide +kernel
theorem dL_law_198 : decode cL_law 198 = .ok (.aload_n 1, 1) := by decide +kernel
theorem dL_law_199 : decode cL_law 199 = .ok (.invokevirtual 73, 3) := by decide +kernel
theorem dL_law_202 : decode cL_law 202 = .ok (.iload 10, 2) := by decide +kernel
theorem dL_law_204 : decode cL_law 204 = .ok (.if_icmp .ne 31, 3) := by decide +kernel
theorem dL_law_207 : decode cL_law 207 = .ok (.aload_n 1, 1) := by decide +kernel
theorem dL_law_208 : decode cL_law 208 = .ok (.invokestatic 69, 3) := by decide +kernel
theorem dL_law_211 : decode cL_law 211 = .ok (.lload 4, 2) := by decide +kernel
theorem dL_law_213 : decode cL_law 213 = .ok (.lcmp, 1) := by decide +kernel
theorem dL_law_214 : decode cL_law 214 = .ok (.ifCond .ne 21, 3) := by decide +kernel
theorem dL_law_217 : decode cL_law 217 = .ok (.aload_n 1, 1) := by decide +kernel
theorem dL_law_218 : decode cL_law 218 = .ok (.iload_n 3, 1) := by decide +kernel
theorem dL_law_219 : decode cL_law 219 = .ok (.invokestatic 85, 3) := by decide +kernel
theorem dL_law_222 : decode cL_law 222 = .ok (.ifCond .eq 13, 3) := by decide +kernel
theorem dL_law_225 : decode cL_law 225 = .ok (.aload_n 1, 1) := by decide +kernel
theorem dL_law_226 : decode cL_law 226 = .ok (.invokestatic 69, 3) := by decide +kernel
theorem dL_law_229 : decode cL_law 229 = .ok (.lload 8, 2) := by decide +kernel
theorem dL_law_231 : decode cL_law 231 = .ok (.lcmp, 1) := by decide +kernel
theorem dL_law_232 : decode cL_law 232 = .ok (.ifCond .eq 5, 3) := by decide +kernel
theorem dL_law_235 : decode cL_law 235 = .ok (.iconst 0, 1) := by decide +kernel
theorem dL_law_236 : decode cL_law 236 = .ok (.ireturn, 1) := by decide +kernel
theorem dL_law_237 : decode cL_law 237 = .ok (.iload_n 3, 1) := by decide +kernel
theorem dL_law_238 : decode cL_law 238 = .ok (.bipush 12, 2) := by decide +kernel
theorem dL_law_240 : decode cL_law 240 = .ok (.ishr, 1) := by decide +kernel
theorem dL_law_241 : decode cL_law 241 = .ok (.aload_n 1, 1) := by decide +kernel
theorem dL_law_242 : decode cL_law 242 = .ok (.iconst 0, 1) := by decide +kernel
theorem dL_law_243 : decode cL_law 243 = .ok (.invokevirtual 12, 3) := by decide +kernel
theorem dL_law_246 : decode cL_law 246 = .ok (.invokestatic 29, 3) := by decide +kernel
theorem dL_law_249 : decode cL_law 249 = .ok (.istore 8, 2) := by decide +kernel
theorem dL_law_251 : decode cL_law 251 = .ok (.aload_n 1, 1) := by decide +kernel
theorem dL_law_252 : decode cL_law 252 = .ok (.iload 8, 2) := by decide +kernel
theorem dL_law_254 : decode cL_law 254 = .ok (.invokestatic 89, 3) := by decide +kernel
theorem dL_law_257 : decode cL_law 257 = .ok (.ifCond .eq 57, 3) := by decide +kernel
theorem dL_law_260 : decode cL_law 260 = .ok (.iload_n 3, 1) := by decide +kernel
theorem dL_law_261 : decode cL_law 261 = .ok (.bipush 16, 2) := by decide +kernel
theorem dL_law_263 : decode cL_law 263 = .ok (.ishr, 1) := by decide +kernel
theorem dL_law_264 : decode cL_law 264 = .ok (.iconst 3, 1) := by decide +kernel
theorem dL_law_265 : decode cL_law 265 = .ok (.iand, 1) := by decide +kernel
theorem dL_law_266 : decode cL_law 266 = .ok (.ifCond .ne 20, 3) := by decide +kernel
theorem dL_law_269 : decode cL_law 269 = .ok (.aload_n 1, 1) := by decide +kernel
theorem dL_law_270 : decode cL_law 270 = .ok (.iload 8, 2) := by decide +kernel
theorem dL_law_272 : decode cL_law 272 = .ok (.iload_n 3, 1) := by decide +kernel
theorem dL_law_273 : decode cL_law 273 = .ok (.bipush 18, 2) := by decide +kernel
theorem dL_law_275 : decode cL_law 275 = .ok (.ishr, 1) := by decide +kernel
theorem dL_law_276 : decode cL_law 276 = .ok (.iconst 3, 1) := by decide +kernel
theorem dL_law_277 : decode cL_law 277 = .ok (.invokestatic 29, 3) := by decide +kernel
theorem dL_law_280 : decode cL_law 280 = .ok (.invokestatic 92, 3) := by decide +kernel
theorem dL_law_283 : decode cL_law 283 = .ok (.ifCond .eq 31, 3) := by decide +kernel
theorem dL_law_286 : decode cL_law 286 = .ok (.aload_n 1, 1) := by decide +kernel
theorem dL_law_287 : decode cL_law 287 = .ok (.iconst 3, 1) := by decide +kernel
theorem dL_law_288 : decode cL_law 288 = .ok (.invokevirtual 12, 3) := by decide +kernel
theorem dL_law_291 : decode cL_law 291 = .ok (.aload_n 1, 1) := by decide +kernel
theorem dL_law_292 : decode cL_law 292 = .ok (.iconst 2, 1) := by decide +kernel
theorem dL_law_293 : decode cL_law 293 = .ok (.invokevirtual 12, 3) := by decide +kernel
theorem dL_law_296 : decode cL_law 296 = .ok (.if_icmp .ne 18, 3) := by decide +kernel
theorem dL_law_299 : decode cL_law 299 = .ok (.aload_n 1, 1) := by decide +kernel
theorem dL_law_300 : decode cL_law 300 = .ok (.iconst 2, 1) := by decide +kernel
theorem dL_law_301 : decode cL_law 301 = .ok (.invokevirtual 12, 3) := by decide +kernel
theorem dL_law_304 : decode cL_law 304 = .ok (.iconst 3, 1) := by decide +kernel
theorem dL_law_305 : decode cL_law 305 = .ok (.aload_n 1, 1) := by decide +kernel
theorem dL_law_306 : decode cL_law 306 = .ok (.iconst 1, 1) := by decide +kernel
theorem dL_law_307 : decode cL_law 307 = .ok (.invokevirtual 12, 3) := by decide +kernel
theorem dL_law_310 : decode cL_law 310 = .ok (.imul, 1) := by decide +kernel
theorem dL_law_311 : decode cL_law 311 = .ok (.if_icmp .eq 5, 3) := by decide +kernel
theorem dL_law_314 : decode cL_law 314 = .ok (.iconst 0, 1) := by decide +kernel
theorem dL_law_315 : decode cL_law 315 = .ok (.ireturn, 1) := by decide +kernel
theorem dL_law_316 : decode cL_law 316 = .ok (.iinc 2 1, 3) := by decide +kernel
theorem dL_law_319 : decode cL_law 319 = .ok (.goto (-238), 3) := by decide +kernel
theorem dL_law_322 : decode cL_law 322 = .ok (.iconst 1, 1) := by decide +kernel
theorem dL_law_323 : decode cL_law 323 = .ok (.ireturn, 1) := by decide +kernel
