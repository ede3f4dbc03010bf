theorem dX0_init_0 : decode cX0_init 0 = .ok (.aload_n 0, 1) := by decide +kernel
theorem dX0_init_1 : decode cX0_init 1 = .ok (.invokespecial 3, 3) := by decide +kernel
theorem dX0_init_4 : decode cX0_init 4 = .ok (.aload_n 0, 1) := by decide +kernel
theorem dX0_init_5 : decode cX0_init 5 = .ok (.bipush 8, 2) := by decide +kernel
theorem dX0_init_7 : decode cX0_init 7 = .ok (.newarray .int, 2) := by decide +kernel
theorem dX0_init_9 : decode cX0_init 9 = .ok (.putfield 9, 3) := by decide +kernel
theorem dX0_init_12 : decode cX0_init 12 = .ok (.return_, 1) := by decide +kernel
theorem dX0_copyFrom_0 : decode cX0_copyFrom 0 = .ok (.aload_n 1, 1) := by decide +kernel
theorem dX0_copyFrom_1 : decode cX0_copyFrom 1 = .ok (.getfield 9, 3) := by decide +kernel
theorem dX0_copyFrom_4 : decode cX0_copyFrom 4 = .ok (.iconst 0, 1) := by decide +kernel
theorem dX0_copyFrom_5 : decode cX0_copyFrom 5 = .ok (.aload_n 0, 1) := by decide +kernel
theorem dX0_copyFrom_6 : decode cX0_copyFrom 6 = .ok (.getfield 9, 3) := by decide +kernel
theorem dX0_copyFrom_9 : decode cX0_copyFrom 9 = .ok (.iconst 0, 1) := by decide +kernel
theorem dX0_copyFrom_10 : decode cX0_copyFrom 10 = .ok (.bipush 8, 2) := by decide +kernel
theorem dX0_copyFrom_12 : decode cX0_copyFrom 12 = .ok (.invokestatic 15, 3) := by decide +kernel
theorem dX0_copyFrom_15 : decode cX0_copyFrom 15 = .ok (.aload_n 0, 1) := by decide +kernel
theorem dX0_copyFrom_16 : decode cX0_copyFrom 16 = .ok (.aload_n 1, 1) := by decide +kernel
theorem dX0_copyFrom_17 : decode cX0_copyFrom 17 = .ok (.getfield 21, 3) := by decide +kernel
theorem dX0_copyFrom_20 : decode cX0_copyFrom 20 = .ok (.putfield 21, 3) := by decide +kernel
theorem dX0_copyFrom_23 : decode cX0_copyFrom 23 = .ok (.return_, 1) := by decide +kernel
theorem dX0_record_0 : decode cX0_record 0 = .ok (.aload_n 0, 1) := by decide +kernel
theorem dX0_record_1 : decode cX0_record 1 = .ok (.getfield 9, 3) := by decide +kernel
theorem dX0_record_4 : decode cX0_record 4 = .ok (.iconst 0, 1) := by decide +kernel
theorem dX0_record_5 : decode cX0_record 5 = .ok (.aload_n 0, 1) := by decide +kernel
theorem dX0_record_6 : decode cX0_record 6 = .ok (.getfield 9, 3) := by decide +kernel
theorem dX0_record_9 : decode cX0_record 9 = .ok (.iconst 1, 1) := by decide +kernel
theorem dX0_record_10 : decode cX0_record 10 = .ok (.bipush 7, 2) := by decide +kernel
theorem dX0_record_12 : decode cX0_record 12 = .ok (.invokestatic 15, 3) := by decide +kernel
theorem dX0_record_15 : decode cX0_record 15 = .ok (.aload_n 0, 1) := by decide +kernel
theorem dX0_record_16 : decode cX0_record 16 = .ok (.getfield 9, 3) := by decide +kernel
theorem dX0_record_19 : decode cX0_record 19 = .ok (.iconst 0, 1) := by decide +kernel
theorem dX0_record_20 : decode cX0_record 20 = .ok (.iload_n 1, 1) := by decide +kernel
theorem dX0_record_21 : decode cX0_record 21 = .ok (.iastore, 1) := by decide +kernel
theorem dX0_record_22 : decode cX0_record 22 = .ok (.aload_n 0, 1) := by decide +kernel
theorem dX0_record_23 : decode cX0_record 23 = .ok (.aload_n 0, 1) := by decide +kernel
theorem dX0_record_24 : decode cX0_record 24 = .ok (.getfield 21, 3) := by decide +kernel
theorem dX0_record_27 : decode cX0_record 27 = .ok (.iconst 1, 1) := by decide +kernel
theorem dX0_record_28 : decode cX0_record 28 = .ok (.iadd, 1) := by decide +kernel
theorem dX0_record_29 : decode cX0_record 29 = .ok (.bipush 8, 2) := by decide +kernel
theorem dX0_record_31 : decode cX0_record 31 = .ok (.invokestatic 25, 3) := by decide +kernel
theorem dX0_record_34 : decode cX0_record 34 = .ok (.putfield 21, 3) := by decide +kernel
theorem dX0_record_37 : decode cX0_record 37 = .ok (.return_, 1) := by decide +kernel
theorem dX0_number_0 : decode cX0_number 0 = .ok (.iload_n 1, 1) := by decide +kernel
theorem dX0_number_1 : decode cX0_number 1 = .ok (.ifCond .lt 26, 3) := by decide +kernel
theorem dX0_number_4 : decode cX0_number 4 = .ok (.iload_n 1, 1) := by decide +kernel
theorem dX0_number_5 : decode cX0_number 5 = .ok (.aload_n 0, 1) := by decide +kernel
theorem dX0_number_6 : decode cX0_number 6 = .ok (.getfield 21, 3) := by decide +kernel
theorem dX0_number_9 : decode cX0_number 9 = .ok (.if_icmp .ge 18, 3) := by decide +kernel
theorem dX0_number_12 : decode cX0_number 12 = .ok (.iload_n 1, 1) := by decide +kernel
theorem dX0_number_13 : decode cX0_number 13 = .ok (.bipush 8, 2) := by decide +kernel
theorem dX0_number_15 : decode cX0_number 15 = .ok (.if_icmp .ge 12, 3) := by decide +kernel
theorem dX0_number_18 : decode cX0_number 18 = .ok (.aload_n 0, 1) := by decide +kernel
theorem dX0_number_19 : decode cX0_number 19 = .ok (.getfield 9, 3) := by decide +kernel
theorem dX0_number_22 : decode cX0_number 22 = .ok (.iload_n 1, 1) := by decide +kernel
theorem dX0_number_23 : decode cX0_number 23 = .ok (.iaload, 1) := by decide +kernel
theorem dX0_number_24 : decode cX0_number 24 = .ok (.goto 4, 3) := by decide +kernel
theorem dX0_number_27 : decode cX0_number 27 = .ok (.iconst (-1), 1) := by decide +kernel
theorem dX0_number_28 : decode cX0_number 28 = .ok (.ireturn, 1) := by decide +kernel
theorem dX1_init_0 : decode cX1_init 0 = .ok (.aload_n 0, 1) := by decide +kernel
theorem dX1_init_1 : decode cX1_init 1 = .ok (.invokespecial 3, 3) := by decide +kernel
theorem dX1_init_4 : decode cX1_init 4 = .ok (.aload_n 0, 1) := by decide +kernel
theorem dX1_init_5 : decode cX1_init 5 = .ok (.iconst 4, 1) := by decide +kernel
theorem dX1_init_6 : decode cX1_init 6 = .ok (.anewarray 9, 3) := by decide +kernel
theorem dX1_init_9 : decode cX1_init 9 = .ok (.putfield 11, 3) := by decide +kernel
theorem dX1_init_12 : decode cX1_init 12 = .ok (.iconst 0, 1) := by decide +kernel
theorem dX1_init_13 : decode cX1_init 13 = .ok (.istore_n 1, 1) := by decide +kernel
theorem dX1_init_14 : decode cX1_init 14 = .ok (.iload_n 1, 1) := by decide +kernel
theorem dX1_init_15 : decode cX1_init 15 = .ok (.iconst 4, 1) := by decide +kernel
theorem dX1_init_16 : decode cX1_init 16 = .ok (.if_icmp .ge 22, 3) := by decide +kernel
theorem dX1_init_19 : decode cX1_init 19 = .ok (.aload_n 0, 1) := by decide +kernel
theorem dX1_init_20 : decode cX1_init 20 = .ok (.getfield 11, 3) := by decide +kernel
theorem dX1_init_23 : decode cX1_init 23 = .ok (.iload_n 1, 1) := by decide +kernel
theorem dX1_init_24 : decode cX1_init 24 = .ok (.new 9, 3) := by decide +kernel
theorem dX1_init_27 : decode cX1_init 27 = .ok (.dup, 1) := by decide +kernel
theorem dX1_init_28 : decode cX1_init 28 = .ok (.invokespecial 17, 3) := by decide +kernel
theorem dX1_init_31 : decode cX1_init 31 = .ok (.aastore, 1) := by decide +kernel
theorem dX1_init_32 : decode cX1_init 32 = .ok (.iinc 1 1, 3) := by decide +kernel
theorem dX1_init_35 : decode cX1_init 35 = .ok (.goto (-21), 3) := by decide +kernel
theorem dX1_init_38 : decode cX1_init 38 = .ok (.return_, 1) := by decide +kernel
theorem dX1_copyFrom_0 : decode cX1_copyFrom 0 = .ok (.iconst 0, 1) := by decide +kernel
theorem dX1_copyFrom_1 : decode cX1_copyFrom 1 = .ok (.istore_n 2, 1) := by decide +kernel
theorem dX1_copyFrom_2 : decode cX1_copyFrom 2 = .ok (.iload_n 2, 1) := by decide +kernel
theorem dX1_copyFrom_3 : decode cX1_copyFrom 3 = .ok (.iconst 4, 1) := by decide +kernel
theorem dX1_copyFrom_4 : decode cX1_copyFrom 4 = .ok (.if_icmp .ge 24, 3) := by decide +kernel
theorem dX1_copyFrom_7 : decode cX1_copyFrom 7 = .ok (.aload_n 0, 1) := by decide +kernel
theorem dX1_copyFrom_8 : decode cX1_copyFrom 8 = .ok (.getfield 11, 3) := by decide +kernel
theorem dX1_copyFrom_11 : decode cX1_copyFrom 11 = .ok (.iload_n 2, 1) := by decide +kernel
theorem dX1_copyFrom_12 : decode cX1_copyFrom 12 = .ok (.aaload, 1) := by decide +kernel
theorem dX1_copyFrom_13 : decode cX1_copyFrom 13 = .ok (.aload_n 1, 1) := by decide +kernel
theorem dX1_copyFrom_14 : decode cX1_copyFrom 14 = .ok (.getfield 11, 3) := by decide +kernel
theorem dX1_copyFrom_17 : decode cX1_copyFrom 17 = .ok (.iload_n 2, 1) := by decide +kernel
theorem dX1_copyFrom_18 : decode cX1_copyFrom 18 = .ok (.aaload, 1) := by decide +kernel
theorem dX1_copyFrom_19 : decode cX1_copyFrom 19 = .ok (.invokevirtual 18, 3) := by decide +kernel
theorem dX1_copyFrom_22 : decode cX1_copyFrom 22 = .ok (.iinc 2 1, 3) := by decide +kernel
theorem dX1_copyFrom_25 : decode cX1_copyFrom 25 = .ok (.goto (-23), 3) := by decide +kernel
theorem dX1_copyFrom_28 : decode cX1_copyFrom 28 = .ok (.aload_n 0, 1) := by decide +kernel
theorem dX1_copyFrom_29 : decode cX1_copyFrom 29 = .ok (.aload_n 1, 1) := by decide +kernel
theorem dX1_copyFrom_30 : decode cX1_copyFrom 30 = .ok (.getfield 22, 3) := by decide +kernel
theorem dX1_copyFrom_33 : decode cX1_copyFrom 33 = .ok (.putfield 22, 3) := by decide +kernel
theorem dX1_copyFrom_36 : decode cX1_copyFrom 36 = .ok (.aload_n 0, 1) := by decide +kernel
theorem dX1_copyFrom_37 : decode cX1_copyFrom 37 = .ok (.aload_n 1, 1) := by decide +kernel
theorem dX1_copyFrom_38 : decode cX1_copyFrom 38 = .ok (.getfield 26, 3) := by decide +kernel
theorem dX1_copyFrom_41 : decode cX1_copyFrom 41 = .ok (.putfield 26, 3) := by decide +kernel
theorem dX1_copyFrom_44 : decode cX1_copyFrom 44 = .ok (.aload_n 0, 1) := by decide +kernel
theorem dX1_copyFrom_45 : decode cX1_copyFrom 45 = .ok (.aload_n 1, 1) := by decide +kernel
theorem dX1_copyFrom_46 : decode cX1_copyFrom 46 = .ok (.getfield 30, 3) := by decide +kernel
theorem dX1_copyFrom_49 : decode cX1_copyFrom 49 = .ok (.putfield 30, 3) := by decide +kernel
theorem dX1_copyFrom_52 : decode cX1_copyFrom 52 = .ok (.aload_n 0, 1) := by decide +kernel
theorem dX1_copyFrom_53 : decode cX1_copyFrom 53 = .ok (.aload_n 1, 1) := by decide +kernel
theorem dX1_copyFrom_54 : decode cX1_copyFrom 54 = .ok (.getfield 33, 3) := by decide +kernel
theorem dX1_copyFrom_57 : decode cX1_copyFrom 57 = .ok (.putfield 33, 3) := by decide +kernel
theorem dX1_copyFrom_60 : decode cX1_copyFrom 60 = .ok (.aload_n 0, 1) := by decide +kernel
theorem dX1_copyFrom_61 : decode cX1_copyFrom 61 = .ok (.aload_n 1, 1) := by decide +kernel
theorem dX1_copyFrom_62 : decode cX1_copyFrom 62 = .ok (.getfield 36, 3) := by decide +kernel
theorem dX1_copyFrom_65 : decode cX1_copyFrom 65 = .ok (.putfield 36, 3) := by decide +kernel
theorem dX1_copyFrom_68 : decode cX1_copyFrom 68 = .ok (.aload_n 0, 1) := by decide +kernel
theorem dX1_copyFrom_69 : decode cX1_copyFrom 69 = .ok (.aload_n 1, 1) := by decide +kernel
theorem dX1_copyFrom_70 : decode cX1_copyFrom 70 = .ok (.getfield 39, 3) := by decide +kernel
theorem dX1_copyFrom_73 : decode cX1_copyFrom 73 = .ok (.putfield 39, 3) := by decide +kernel
theorem dX1_copyFrom_76 : decode cX1_copyFrom 76 = .ok (.return_, 1) := by decide +kernel
theorem dX1_isLocked_0 : decode cX1_isLocked 0 = .ok (.aload_n 1, 1) := by decide +kernel
theorem dX1_isLocked_1 : decode cX1_isLocked 1 = .ok (.getfield 42, 3) := by decide +kernel
theorem dX1_isLocked_4 : decode cX1_isLocked 4 = .ok (.ifCond .le 18, 3) := by decide +kernel
theorem dX1_isLocked_7 : decode cX1_isLocked 7 = .ok (.aload_n 0, 1) := by decide +kernel
theorem dX1_isLocked_8 : decode cX1_isLocked 8 = .ok (.getfield 26, 3) := by decide +kernel
theorem dX1_isLocked_11 : decode cX1_isLocked 11 = .ok (.aload_n 1, 1) := by decide +kernel
theorem dX1_isLocked_12 : decode cX1_isLocked 12 = .ok (.getfield 42, 3) := by decide +kernel
theorem dX1_isLocked_15 : decode cX1_isLocked 15 = .ok (.if_icmp .lt 7, 3) := by decide +kernel
theorem dX1_isLocked_18 : decode cX1_isLocked 18 = .ok (.iconst 1, 1) := by decide +kernel
theorem dX1_isLocked_19 : decode cX1_isLocked 19 = .ok (.goto 4, 3) := by decide +kernel
theorem dX1_isLocked_22 : decode cX1_isLocked 22 = .ok (.iconst 0, 1) := by decide +kernel
theorem dX1_isLocked_23 : decode cX1_isLocked 23 = .ok (.ireturn, 1) := by decide +kernel
theorem dX1_learntSlots_0 : decode cX1_learntSlots 0 = .ok (.iconst 0, 1) := by decide +kernel
theorem dX1_learntSlots_1 : decode cX1_learntSlots 1 = .ok (.istore_n 1, 1) := by decide +kernel
theorem dX1_learntSlots_2 : decode cX1_learntSlots 2 = .ok (.aload_n 0, 1) := by decide +kernel
theorem dX1_learntSlots_3 : decode cX1_learntSlots 3 = .ok (.getfield 11, 3) := by decide +kernel
theorem dX1_learntSlots_6 : decode cX1_learntSlots 6 = .ok (.astore_n 2, 1) := by decide +kernel
theorem dX1_learntSlots_7 : decode cX1_learntSlots 7 = .ok (.aload_n 2, 1) := by decide +kernel
theorem dX1_learntSlots_8 : decode cX1_learntSlots 8 = .ok (.arraylength, 1) := by decide +kernel
theorem dX1_learntSlots_9 : decode cX1_learntSlots 9 = .ok (.istore_n 3, 1) := by decide +kernel
theorem dX1_learntSlots_10 : decode cX1_learntSlots 10 = .ok (.iconst 0, 1) := by decide +kernel
theorem dX1_learntSlots_11 : decode cX1_learntSlots 11 = .ok (.istore 4, 2) := by decide +kernel
theorem dX1_learntSlots_13 : decode cX1_learntSlots 13 = .ok (.iload 4, 2) := by decide +kernel
theorem dX1_learntSlots_15 : decode cX1_learntSlots 15 = .ok (.iload_n 3, 1) := by decide +kernel
theorem dX1_learntSlots_16 : decode cX1_learntSlots 16 = .ok (.if_icmp .ge 24, 3) := by decide +kernel
theorem dX1_learntSlots_19 : decode cX1_learntSlots 19 = .ok (.aload_n 2, 1) := by decide +kernel
theorem dX1_learntSlots_20 : decode cX1_learntSlots 20 = .ok (.iload 4, 2) := by decide +kernel
theorem dX1_learntSlots_22 : decode cX1_learntSlots 22 = .ok (.aaload, 1) := by decide +kernel
theorem dX1_learntSlots_23 : decode cX1_learntSlots 23 = .ok (.astore 5, 2) := by decide +kernel
theorem dX1_learntSlots_25 : decode cX1_learntSlots 25 = .ok (.iload_n 1, 1) := by decide +kernel
theorem dX1_learntSlots_26 : decode cX1_learntSlots 26 = .ok (.aload 5, 2) := by decide +kernel
theorem dX1_learntSlots_28 : decode cX1_learntSlots 28 = .ok (.iconst 0, 1) := by decide +kernel
theorem dX1_learntSlots_29 : decode cX1_learntSlots 29 = .ok (.invokevirtual 47, 3) := by decide +kernel
theorem dX1_learntSlots_32 : decode cX1_learntSlots 32 = .ok (.iadd, 1) := by decide +kernel
theorem dX1_learntSlots_33 : decode cX1_learntSlots 33 = .ok (.istore_n 1, 1) := by decide +kernel
theorem dX1_learntSlots_34 : decode cX1_learntSlots 34 = .ok (.iinc 4 1, 3) := by decide +kernel
theorem dX1_learntSlots_37 : decode cX1_learntSlots 37 = .ok (.goto (-24), 3) := by decide +kernel
theorem dX1_learntSlots_40 : decode cX1_learntSlots 40 = .ok (.iload_n 1, 1) := by decide +kernel
theorem dX1_learntSlots_41 : decode cX1_learntSlots 41 = .ok (.ireturn, 1) := by decide +kernel
theorem dX1_hear_0 : decode cX1_hear 0 = .ok (.aload_n 0, 1) := by decide +kernel
theorem dX1_hear_1 : decode cX1_hear 1 = .ok (.aload_n 2, 1) := by decide +kernel
theorem dX1_hear_2 : decode cX1_hear 2 = .ok (.invokevirtual 51, 3) := by decide +kernel
theorem dX1_hear_5 : decode cX1_hear 5 = .ok (.ifCond .eq 15, 3) := by decide +kernel
theorem dX1_hear_8 : decode cX1_hear 8 = .ok (.aload_n 0, 1) := by decide +kernel
theorem dX1_hear_9 : decode cX1_hear 9 = .ok (.dup, 1) := by decide +kernel
theorem dX1_hear_10 : decode cX1_hear 10 = .ok (.getfield 39, 3) := by decide +kernel
theorem dX1_hear_13 : decode cX1_hear 13 = .ok (.iconst 1, 1) := by decide +kernel
theorem dX1_hear_14 : decode cX1_hear 14 = .ok (.iadd, 1) := by decide +kernel
theorem dX1_hear_15 : decode cX1_hear 15 = .ok (.putfield 39, 3) := by decide +kernel
theorem dX1_hear_18 : decode cX1_hear 18 = .ok (.iconst 3, 1) := by decide +kernel
theorem dX1_hear_19 : decode cX1_hear 19 = .ok (.ireturn, 1) := by decide +kernel
theorem dX1_hear_20 : decode cX1_hear 20 = .ok (.aload_n 0, 1) := by decide +kernel
theorem dX1_hear_21 : decode cX1_hear 21 = .ok (.getfield 11, 3) := by decide +kernel
theorem dX1_hear_24 : decode cX1_hear 24 = .ok (.astore_n 3, 1) := by decide +kernel
theorem dX1_hear_25 : decode cX1_hear 25 = .ok (.aload_n 3, 1) := by decide +kernel
theorem dX1_hear_26 : decode cX1_hear 26 = .ok (.arraylength, 1) := by decide +kernel
theorem dX1_hear_27 : decode cX1_hear 27 = .ok (.istore 4, 2) := by decide +kernel
theorem dX1_hear_29 : decode cX1_hear 29 = .ok (.iconst 0, 1) := by decide +kernel
theorem dX1_hear_30 : decode cX1_hear 30 = .ok (.istore 5, 2) := by decide +kernel
theorem dX1_hear_32 : decode cX1_hear 32 = .ok (.iload 5, 2) := by decide +kernel
theorem dX1_hear_34 : decode cX1_hear 34 = .ok (.iload 4, 2) := by decide +kernel
theorem dX1_hear_36 : decode cX1_hear 36 = .ok (.if_icmp .ge 85, 3) := by decide +kernel
theorem dX1_hear_39 : decode cX1_hear 39 = .ok (.aload_n 3, 1) := by decide +kernel
theorem dX1_hear_40 : decode cX1_hear 40 = .ok (.iload 5, 2) := by decide +kernel
theorem dX1_hear_42 : decode cX1_hear 42 = .ok (.aaload, 1) := by decide +kernel
theorem dX1_hear_43 : decode cX1_hear 43 = .ok (.astore 6, 2) := by decide +kernel
theorem dX1_hear_45 : decode cX1_hear 45 = .ok (.aload 6, 2) := by decide +kernel
theorem dX1_hear_47 : decode cX1_hear 47 = .ok (.iload_n 1, 1) := by decide +kernel
theorem dX1_hear_48 : decode cX1_hear 48 = .ok (.aload_n 2, 1) := by decide +kernel
theorem dX1_hear_49 : decode cX1_hear 49 = .ok (.getfield 55, 3) := by decide +kernel
theorem dX1_hear_52 : decode cX1_hear 52 = .ok (.invokevirtual 58, 3) := by decide +kernel
theorem dX1_hear_55 : decode cX1_hear 55 = .ok (.istore 7, 2) := by decide +kernel
theorem dX1_hear_57 : decode cX1_hear 57 = .ok (.iload 7, 2) := by decide +kernel
theorem dX1_hear_59 : decode cX1_hear 59 = .ok (.ifCond .le 39, 3) := by decide +kernel
theorem dX1_hear_62 : decode cX1_hear 62 = .ok (.aload 6, 2) := by decide +kernel
theorem dX1_hear_64 : decode cX1_hear 64 = .ok (.iload 7, 2) := by decide +kernel
theorem dX1_hear_66 : decode cX1_hear 66 = .ok (.aload_n 2, 1) := by decide +kernel
theorem dX1_hear_67 : decode cX1_hear 67 = .ok (.getfield 62, 3) := by decide +kernel
theorem dX1_hear_70 : decode cX1_hear 70 = .ok (.invokevirtual 65, 3) := by decide +kernel
theorem dX1_hear_73 : decode cX1_hear 73 = .ok (.ifCond .eq 25, 3) := by decide +kernel
theorem dX1_hear_76 : decode cX1_hear 76 = .ok (.aload_n 0, 1) := by decide +kernel
theorem dX1_hear_77 : decode cX1_hear 77 = .ok (.iconst 1, 1) := by decide +kernel
theorem dX1_hear_78 : decode cX1_hear 78 = .ok (.putfield 22, 3) := by decide +kernel
theorem dX1_hear_81 : decode cX1_hear 81 = .ok (.aload_n 0, 1) := by decide +kernel
theorem dX1_hear_82 : decode cX1_hear 82 = .ok (.dup, 1) := by decide +kernel
theorem dX1_hear_83 : decode cX1_hear 83 = .ok (.getfield 30, 3) := by decide +kernel
theorem dX1_hear_86 : decode cX1_hear 86 = .ok (.iconst 1, 1) := by decide +kernel
theorem dX1_hear_87 : decode cX1_hear 87 = .ok (.iadd, 1) := by decide +kernel
theorem dX1_hear_88 : decode cX1_hear 88 = .ok (.putfield 30, 3) := by decide +kernel
theorem dX1_hear_91 : decode cX1_hear 91 = .ok (.aload_n 0, 1) := by decide +kernel
theorem dX1_hear_92 : decode cX1_hear 92 = .ok (.iconst 0, 1) := by decide +kernel
theorem dX1_hear_93 : decode cX1_hear 93 = .ok (.putfield 26, 3) := by decide +kernel
theorem dX1_hear_96 : decode cX1_hear 96 = .ok (.iconst 0, 1) := by decide +kernel
theorem dX1_hear_97 : decode cX1_hear 97 = .ok (.ireturn, 1) := by decide +kernel
theorem dX1_hear_98 : decode cX1_hear 98 = .ok (.iload 7, 2) := by decide +kernel
theorem dX1_hear_100 : decode cX1_hear 100 = .ok (.ifCond .le 15, 3) := by decide +kernel
theorem dX1_hear_103 : decode cX1_hear 103 = .ok (.aload_n 0, 1) := by decide +kernel
theorem dX1_hear_104 : decode cX1_hear 104 = .ok (.dup, 1) := by decide +kernel
theorem dX1_hear_105 : decode cX1_hear 105 = .ok (.getfield 33, 3) := by decide +kernel
theorem dX1_hear_108 : decode cX1_hear 108 = .ok (.iconst 1, 1) := by decide +kernel
theorem dX1_hear_109 : decode cX1_hear 109 = .ok (.iadd, 1) := by decide +kernel
theorem dX1_hear_110 : decode cX1_hear 110 = .ok (.putfield 33, 3) := by decide +kernel
theorem dX1_hear_113 : decode cX1_hear 113 = .ok (.iconst 1, 1) := by decide +kernel
theorem dX1_hear_114 : decode cX1_hear 114 = .ok (.ireturn, 1) := by decide +kernel
theorem dX1_hear_115 : decode cX1_hear 115 = .ok (.iinc 5 1, 3) := by decide +kernel
theorem dX1_hear_118 : decode cX1_hear 118 = .ok (.goto (-86), 3) := by decide +kernel
theorem dX1_hear_121 : decode cX1_hear 121 = .ok (.aload_n 0, 1) := by decide +kernel
theorem dX1_hear_122 : decode cX1_hear 122 = .ok (.dup, 1) := by decide +kernel
theorem dX1_hear_123 : decode cX1_hear 123 = .ok (.getfield 26, 3) := by decide +kernel
theorem dX1_hear_126 : decode cX1_hear 126 = .ok (.iconst 1, 1) := by decide +kernel
theorem dX1_hear_127 : decode cX1_hear 127 = .ok (.iadd, 1) := by decide +kernel
theorem dX1_hear_128 : decode cX1_hear 128 = .ok (.putfield 26, 3) := by decide +kernel
theorem dX1_hear_131 : decode cX1_hear 131 = .ok (.aload_n 0, 1) := by decide +kernel
theorem dX1_hear_132 : decode cX1_hear 132 = .ok (.dup, 1) := by decide +kernel
theorem dX1_hear_133 : decode cX1_hear 133 = .ok (.getfield 36, 3) := by decide +kernel
theorem dX1_hear_136 : decode cX1_hear 136 = .ok (.iconst 1, 1) := by decide +kernel
theorem dX1_hear_137 : decode cX1_hear 137 = .ok (.iadd, 1) := by decide +kernel
theorem dX1_hear_138 : decode cX1_hear 138 = .ok (.putfield 36, 3) := by decide +kernel
theorem dX1_hear_141 : decode cX1_hear 141 = .ok (.iconst 2, 1) := by decide +kernel
theorem dX1_hear_142 : decode cX1_hear 142 = .ok (.ireturn, 1) := by decide +kernel
theorem dX1_look_0 : decode cX1_look 0 = .ok (.iload_n 1, 1) := by decide +kernel
theorem dX1_look_1 : decode cX1_look 1 = .ok (.tableswitch 104 0 7 #[47, 60, 65, 79, 84, 89, 94, 99], 47) := by decide +kernel
theorem dX1_look_48 : decode cX1_look 48 = .ok (.aload_n 0, 1) := by decide +kernel
theorem dX1_look_49 : decode cX1_look 49 = .ok (.getfield 22, 3) := by decide +kernel
theorem dX1_look_52 : decode cX1_look 52 = .ok (.ifCond .eq 7, 3) := by decide +kernel
theorem dX1_look_55 : decode cX1_look 55 = .ok (.iconst 1, 1) := by decide +kernel
theorem dX1_look_56 : decode cX1_look 56 = .ok (.goto 4, 3) := by decide +kernel
theorem dX1_look_59 : decode cX1_look 59 = .ok (.iconst 0, 1) := by decide +kernel
theorem dX1_look_60 : decode cX1_look 60 = .ok (.ireturn, 1) := by decide +kernel
theorem dX1_look_61 : decode cX1_look 61 = .ok (.aload_n 0, 1) := by decide +kernel
theorem dX1_look_62 : decode cX1_look 62 = .ok (.getfield 26, 3) := by decide +kernel
theorem dX1_look_65 : decode cX1_look 65 = .ok (.ireturn, 1) := by decide +kernel
theorem dX1_look_66 : decode cX1_look 66 = .ok (.aload_n 0, 1) := by decide +kernel
theorem dX1_look_67 : decode cX1_look 67 = .ok (.aload_n 2, 1) := by decide +kernel
theorem dX1_look_68 : decode cX1_look 68 = .ok (.invokevirtual 51, 3) := by decide +kernel
theorem dX1_look_71 : decode cX1_look 71 = .ok (.ifCond .eq 7, 3) := by decide +kernel
theorem dX1_look_74 : decode cX1_look 74 = .ok (.iconst 1, 1) := by decide +kernel
theorem dX1_look_75 : decode cX1_look 75 = .ok (.goto 4, 3) := by decide +kernel
theorem dX1_look_78 : decode cX1_look 78 = .ok (.iconst 0, 1) := by decide +kernel
theorem dX1_look_79 : decode cX1_look 79 = .ok (.ireturn, 1) := by decide +kernel
theorem dX1_look_80 : decode cX1_look 80 = .ok (.aload_n 0, 1) := by decide +kernel
theorem dX1_look_81 : decode cX1_look 81 = .ok (.invokevirtual 69, 3) := by decide +kernel
theorem dX1_look_84 : decode cX1_look 84 = .ok (.ireturn, 1) := by decide +kernel
theorem dX1_look_85 : decode cX1_look 85 = .ok (.aload_n 0, 1) := by decide +kernel
theorem dX1_look_86 : decode cX1_look 86 = .ok (.getfield 30, 3) := by decide +kernel
theorem dX1_look_89 : decode cX1_look 89 = .ok (.ireturn, 1) := by decide +kernel
theorem dX1_look_90 : decode cX1_look 90 = .ok (.aload_n 0, 1) := by decide +kernel
theorem dX1_look_91 : decode cX1_look 91 = .ok (.getfield 33, 3) := by decide +kernel
theorem dX1_look_94 : decode cX1_look 94 = .ok (.ireturn, 1) := by decide +kernel
theorem dX1_look_95 : decode cX1_look 95 = .ok (.aload_n 0, 1) := by decide +kernel
theorem dX1_look_96 : decode cX1_look 96 = .ok (.getfield 36, 3) := by decide +kernel
theorem dX1_look_99 : decode cX1_look 99 = .ok (.ireturn, 1) := by decide +kernel
theorem dX1_look_100 : decode cX1_look 100 = .ok (.aload_n 0, 1) := by decide +kernel
theorem dX1_look_101 : decode cX1_look 101 = .ok (.getfield 39, 3) := by decide +kernel
theorem dX1_look_104 : decode cX1_look 104 = .ok (.ireturn, 1) := by decide +kernel
theorem dX1_look_105 : decode cX1_look 105 = .ok (.iconst (-1), 1) := by decide +kernel
theorem dX1_look_106 : decode cX1_look 106 = .ok (.ireturn, 1) := by decide +kernel
theorem dX2_init_0 : decode cX2_init 0 = .ok (.aload_n 0, 1) := by decide +kernel
theorem dX2_init_1 : decode cX2_init 1 = .ok (.invokespecial 3, 3) := by decide +kernel
theorem dX2_init_4 : decode cX2_init 4 = .ok (.aload_n 0, 1) := by decide +kernel
theorem dX2_init_5 : decode cX2_init 5 = .ok (.iload_n 1, 1) := by decide +kernel
theorem dX2_init_6 : decode cX2_init 6 = .ok (.putfield 9, 3) := by decide +kernel
theorem dX2_init_9 : decode cX2_init 9 = .ok (.aload_n 0, 1) := by decide +kernel
theorem dX2_init_10 : decode cX2_init 10 = .ok (.bipush 100, 2) := by decide +kernel
theorem dX2_init_12 : decode cX2_init 12 = .ok (.putfield 15, 3) := by decide +kernel
theorem dX2_init_15 : decode cX2_init 15 = .ok (.return_, 1) := by decide +kernel
theorem dX2_copyFrom_0 : decode cX2_copyFrom 0 = .ok (.aload_n 0, 1) := by decide +kernel
theorem dX2_copyFrom_1 : decode cX2_copyFrom 1 = .ok (.aload_n 1, 1) := by decide +kernel
theorem dX2_copyFrom_2 : decode cX2_copyFrom 2 = .ok (.getfield 9, 3) := by decide +kernel
theorem dX2_copyFrom_5 : decode cX2_copyFrom 5 = .ok (.putfield 9, 3) := by decide +kernel
theorem dX2_copyFrom_8 : decode cX2_copyFrom 8 = .ok (.aload_n 0, 1) := by decide +kernel
theorem dX2_copyFrom_9 : decode cX2_copyFrom 9 = .ok (.aload_n 1, 1) := by decide +kernel
theorem dX2_copyFrom_10 : decode cX2_copyFrom 10 = .ok (.getfield 18, 3) := by decide +kernel
theorem dX2_copyFrom_13 : decode cX2_copyFrom 13 = .ok (.putfield 18, 3) := by decide +kernel
theorem dX2_copyFrom_16 : decode cX2_copyFrom 16 = .ok (.aload_n 0, 1) := by decide +kernel
theorem dX2_copyFrom_17 : decode cX2_copyFrom 17 = .ok (.aload_n 1, 1) := by decide +kernel
theorem dX2_copyFrom_18 : decode cX2_copyFrom 18 = .ok (.getfield 15, 3) := by decide +kernel
theorem dX2_copyFrom_21 : decode cX2_copyFrom 21 = .ok (.putfield 15, 3) := by decide +kernel
theorem dX2_copyFrom_24 : decode cX2_copyFrom 24 = .ok (.aload_n 0, 1) := by decide +kernel
theorem dX2_copyFrom_25 : decode cX2_copyFrom 25 = .ok (.aload_n 1, 1) := by decide +kernel
theorem dX2_copyFrom_26 : decode cX2_copyFrom 26 = .ok (.getfield 21, 3) := by decide +kernel
theorem dX2_copyFrom_29 : decode cX2_copyFrom 29 = .ok (.putfield 21, 3) := by decide +kernel
theorem dX2_copyFrom_32 : decode cX2_copyFrom 32 = .ok (.return_, 1) := by decide +kernel
theorem dX2_sendNext_0 : decode cX2_sendNext 0 = .ok (.aload_n 0, 1) := by decide +kernel
theorem dX2_sendNext_1 : decode cX2_sendNext 1 = .ok (.dup, 1) := by decide +kernel
theorem dX2_sendNext_2 : decode cX2_sendNext 2 = .ok (.getfield 15, 3) := by decide +kernel
theorem dX2_sendNext_5 : decode cX2_sendNext 5 = .ok (.iconst 1, 1) := by decide +kernel
theorem dX2_sendNext_6 : decode cX2_sendNext 6 = .ok (.isub, 1) := by decide +kernel
theorem dX2_sendNext_7 : decode cX2_sendNext 7 = .ok (.putfield 15, 3) := by decide +kernel
theorem dX2_sendNext_10 : decode cX2_sendNext 10 = .ok (.aload_n 0, 1) := by decide +kernel
theorem dX2_sendNext_11 : decode cX2_sendNext 11 = .ok (.dup, 1) := by decide +kernel
theorem dX2_sendNext_12 : decode cX2_sendNext 12 = .ok (.getfield 21, 3) := by decide +kernel
theorem dX2_sendNext_15 : decode cX2_sendNext 15 = .ok (.iconst 1, 1) := by decide +kernel
theorem dX2_sendNext_16 : decode cX2_sendNext 16 = .ok (.iadd, 1) := by decide +kernel
theorem dX2_sendNext_17 : decode cX2_sendNext 17 = .ok (.putfield 21, 3) := by decide +kernel
theorem dX2_sendNext_20 : decode cX2_sendNext 20 = .ok (.aload_n 0, 1) := by decide +kernel
theorem dX2_sendNext_21 : decode cX2_sendNext 21 = .ok (.aload_n 0, 1) := by decide +kernel
theorem dX2_sendNext_22 : decode cX2_sendNext 22 = .ok (.getfield 18, 3) := by decide +kernel
theorem dX2_sendNext_25 : decode cX2_sendNext 25 = .ok (.invokestatic 24, 3) := by decide +kernel
theorem dX2_sendNext_28 : decode cX2_sendNext 28 = .ok (.putfield 18, 3) := by decide +kernel
theorem dX2_sendNext_31 : decode cX2_sendNext 31 = .ok (.aload_n 0, 1) := by decide +kernel
theorem dX2_sendNext_32 : decode cX2_sendNext 32 = .ok (.getfield 9, 3) := by decide +kernel
theorem dX2_sendNext_35 : decode cX2_sendNext 35 = .ok (.aload_n 0, 1) := by decide +kernel
theorem dX2_sendNext_36 : decode cX2_sendNext 36 = .ok (.getfield 18, 3) := by decide +kernel
theorem dX2_sendNext_39 : decode cX2_sendNext 39 = .ok (.invokestatic 28, 3) := by decide +kernel
theorem dX2_sendNext_42 : decode cX2_sendNext 42 = .ok (.ireturn, 1) := by decide +kernel
theorem dX2_look_0 : decode cX2_look 0 = .ok (.iload_n 1, 1) := by decide +kernel
theorem dX2_look_1 : decode cX2_look 1 = .ok (.tableswitch 70 0 4 #[35, 40, 45, 50, 65], 35) := by decide +kernel
theorem dX2_look_36 : decode cX2_look 36 = .ok (.aload_n 0, 1) := by decide +kernel
theorem dX2_look_37 : decode cX2_look 37 = .ok (.getfield 9, 3) := by decide +kernel
theorem dX2_look_40 : decode cX2_look 40 = .ok (.ireturn, 1) := by decide +kernel
theorem dX2_look_41 : decode cX2_look 41 = .ok (.aload_n 0, 1) := by decide +kernel
theorem dX2_look_42 : decode cX2_look 42 = .ok (.getfield 18, 3) := by decide +kernel
theorem dX2_look_45 : decode cX2_look 45 = .ok (.ireturn, 1) := by decide +kernel
theorem dX2_look_46 : decode cX2_look 46 = .ok (.aload_n 0, 1) := by decide +kernel
theorem dX2_look_47 : decode cX2_look 47 = .ok (.getfield 15, 3) := by decide +kernel
theorem dX2_look_50 : decode cX2_look 50 = .ok (.ireturn, 1) := by decide +kernel
theorem dX2_look_51 : decode cX2_look 51 = .ok (.aload_n 0, 1) := by decide +kernel
theorem dX2_look_52 : decode cX2_look 52 = .ok (.getfield 9, 3) := by decide +kernel
theorem dX2_look_55 : decode cX2_look 55 = .ok (.aload_n 0, 1) := by decide +kernel
theorem dX2_look_56 : decode cX2_look 56 = .ok (.getfield 18, 3) := by decide +kernel
theorem dX2_look_59 : decode cX2_look 59 = .ok (.invokestatic 24, 3) := by decide +kernel
theorem dX2_look_62 : decode cX2_look 62 = .ok (.invokestatic 28, 3) := by decide +kernel
theorem dX2_look_65 : decode cX2_look 65 = .ok (.ireturn, 1) := by decide +kernel
theorem dX2_look_66 : decode cX2_look 66 = .ok (.aload_n 0, 1) := by decide +kernel
theorem dX2_look_67 : decode cX2_look 67 = .ok (.getfield 21, 3) := by decide +kernel
theorem dX2_look_70 : decode cX2_look 70 = .ok (.ireturn, 1) := by decide +kernel
theorem dX2_look_71 : decode cX2_look 71 = .ok (.iconst (-1), 1) := by decide +kernel
theorem dX2_look_72 : decode cX2_look 72 = .ok (.ireturn, 1) := by decide +kernel
theorem dX3_init_0 : decode cX3_init 0 = .ok (.aload_n 0, 1) := by decide +kernel
theorem dX3_init_1 : decode cX3_init 1 = .ok (.invokespecial 3, 3) := by decide +kernel
theorem dX3_init_4 : decode cX3_init 4 = .ok (.aload_n 0, 1) := by decide +kernel
theorem dX3_init_5 : decode cX3_init 5 = .ok (.bipush 6, 2) := by decide +kernel
theorem dX3_init_7 : decode cX3_init 7 = .ok (.anewarray 9, 3) := by decide +kernel
theorem dX3_init_10 : decode cX3_init 10 = .ok (.putfield 11, 3) := by decide +kernel
theorem dX3_init_13 : decode cX3_init 13 = .ok (.iconst 0, 1) := by decide +kernel
theorem dX3_init_14 : decode cX3_init 14 = .ok (.istore_n 1, 1) := by decide +kernel
theorem dX3_init_15 : decode cX3_init 15 = .ok (.iload_n 1, 1) := by decide +kernel
theorem dX3_init_16 : decode cX3_init 16 = .ok (.bipush 6, 2) := by decide +kernel
theorem dX3_init_18 : decode cX3_init 18 = .ok (.if_icmp .ge 22, 3) := by decide +kernel
theorem dX3_init_21 : decode cX3_init 21 = .ok (.aload_n 0, 1) := by decide +kernel
theorem dX3_init_22 : decode cX3_init 22 = .ok (.getfield 11, 3) := by decide +kernel
theorem dX3_init_25 : decode cX3_init 25 = .ok (.iload_n 1, 1) := by decide +kernel
theorem dX3_init_26 : decode cX3_init 26 = .ok (.new 9, 3) := by decide +kernel
theorem dX3_init_29 : decode cX3_init 29 = .ok (.dup, 1) := by decide +kernel
theorem dX3_init_30 : decode cX3_init 30 = .ok (.invokespecial 17, 3) := by decide +kernel
theorem dX3_init_33 : decode cX3_init 33 = .ok (.aastore, 1) := by decide +kernel
theorem dX3_init_34 : decode cX3_init 34 = .ok (.iinc 1 1, 3) := by decide +kernel
theorem dX3_init_37 : decode cX3_init 37 = .ok (.goto (-22), 3) := by decide +kernel
theorem dX3_init_40 : decode cX3_init 40 = .ok (.return_, 1) := by decide +kernel
theorem dX3_keep_0 : decode cX3_keep 0 = .ok (.aload_n 0, 1) := by decide +kernel
theorem dX3_keep_1 : decode cX3_keep 1 = .ok (.getfield 11, 3) := by decide +kernel
theorem dX3_keep_4 : decode cX3_keep 4 = .ok (.aload_n 0, 1) := by decide +kernel
theorem dX3_keep_5 : decode cX3_keep 5 = .ok (.getfield 18, 3) := by decide +kernel
theorem dX3_keep_8 : decode cX3_keep 8 = .ok (.bipush 6, 2) := by decide +kernel
theorem dX3_keep_10 : decode cX3_keep 10 = .ok (.invokestatic 22, 3) := by decide +kernel
theorem dX3_keep_13 : decode cX3_keep 13 = .ok (.aaload, 1) := by decide +kernel
theorem dX3_keep_14 : decode cX3_keep 14 = .ok (.aload_n 1, 1) := by decide +kernel
theorem dX3_keep_15 : decode cX3_keep 15 = .ok (.invokevirtual 28, 3) := by decide +kernel
theorem dX3_keep_18 : decode cX3_keep 18 = .ok (.aload_n 0, 1) := by decide +kernel
theorem dX3_keep_19 : decode cX3_keep 19 = .ok (.dup, 1) := by decide +kernel
theorem dX3_keep_20 : decode cX3_keep 20 = .ok (.getfield 18, 3) := by decide +kernel
theorem dX3_keep_23 : decode cX3_keep 23 = .ok (.iconst 1, 1) := by decide +kernel
theorem dX3_keep_24 : decode cX3_keep 24 = .ok (.iadd, 1) := by decide +kernel
theorem dX3_keep_25 : decode cX3_keep 25 = .ok (.putfield 18, 3) := by decide +kernel
theorem dX3_keep_28 : decode cX3_keep 28 = .ok (.aload_n 0, 1) := by decide +kernel
theorem dX3_keep_29 : decode cX3_keep 29 = .ok (.aload_n 0, 1) := by decide +kernel
theorem dX3_keep_30 : decode cX3_keep 30 = .ok (.getfield 32, 3) := by decide +kernel
theorem dX3_keep_33 : decode cX3_keep 33 = .ok (.iconst 1, 1) := by decide +kernel
theorem dX3_keep_34 : decode cX3_keep 34 = .ok (.iadd, 1) := by decide +kernel
theorem dX3_keep_35 : decode cX3_keep 35 = .ok (.bipush 6, 2) := by decide +kernel
theorem dX3_keep_37 : decode cX3_keep 37 = .ok (.invokestatic 35, 3) := by decide +kernel
theorem dX3_keep_40 : decode cX3_keep 40 = .ok (.putfield 32, 3) := by decide +kernel
theorem dX3_keep_43 : decode cX3_keep 43 = .ok (.return_, 1) := by decide +kernel
theorem dX3_restore_0 : decode cX3_restore 0 = .ok (.aload_n 0, 1) := by decide +kernel
theorem dX3_restore_1 : decode cX3_restore 1 = .ok (.getfield 32, 3) := by decide +kernel
theorem dX3_restore_4 : decode cX3_restore 4 = .ok (.ifCond .gt 4, 3) := by decide +kernel
theorem dX3_restore_7 : decode cX3_restore 7 = .ok (.return_, 1) := by decide +kernel
theorem dX3_restore_8 : decode cX3_restore 8 = .ok (.aload_n 0, 1) := by decide +kernel
theorem dX3_restore_9 : decode cX3_restore 9 = .ok (.dup, 1) := by decide +kernel
theorem dX3_restore_10 : decode cX3_restore 10 = .ok (.getfield 18, 3) := by decide +kernel
theorem dX3_restore_13 : decode cX3_restore 13 = .ok (.iconst 1, 1) := by decide +kernel
theorem dX3_restore_14 : decode cX3_restore 14 = .ok (.isub, 1) := by decide +kernel
theorem dX3_restore_15 : decode cX3_restore 15 = .ok (.putfield 18, 3) := by decide +kernel
theorem dX3_restore_18 : decode cX3_restore 18 = .ok (.aload_n 0, 1) := by decide +kernel
theorem dX3_restore_19 : decode cX3_restore 19 = .ok (.dup, 1) := by decide +kernel
theorem dX3_restore_20 : decode cX3_restore 20 = .ok (.getfield 32, 3) := by decide +kernel
theorem dX3_restore_23 : decode cX3_restore 23 = .ok (.iconst 1, 1) := by decide +kernel
theorem dX3_restore_24 : decode cX3_restore 24 = .ok (.isub, 1) := by decide +kernel
theorem dX3_restore_25 : decode cX3_restore 25 = .ok (.putfield 32, 3) := by decide +kernel
theorem dX3_restore_28 : decode cX3_restore 28 = .ok (.aload_n 1, 1) := by decide +kernel
theorem dX3_restore_29 : decode cX3_restore 29 = .ok (.aload_n 0, 1) := by decide +kernel
theorem dX3_restore_30 : decode cX3_restore 30 = .ok (.getfield 11, 3) := by decide +kernel
theorem dX3_restore_33 : decode cX3_restore 33 = .ok (.aload_n 0, 1) := by decide +kernel
theorem dX3_restore_34 : decode cX3_restore 34 = .ok (.getfield 18, 3) := by decide +kernel
theorem dX3_restore_37 : decode cX3_restore 37 = .ok (.bipush 6, 2) := by decide +kernel
theorem dX3_restore_39 : decode cX3_restore 39 = .ok (.invokestatic 22, 3) := by decide +kernel
theorem dX3_restore_42 : decode cX3_restore 42 = .ok (.aaload, 1) := by decide +kernel
theorem dX3_restore_43 : decode cX3_restore 43 = .ok (.invokevirtual 28, 3) := by decide +kernel
theorem dX3_restore_46 : decode cX3_restore 46 = .ok (.return_, 1) := by decide +kernel
theorem dX4_init_0 : decode cX4_init 0 = .ok (.aload_n 0, 1) := by decide +kernel
theorem dX4_init_1 : decode cX4_init 1 = .ok (.invokespecial 1, 3) := by decide +kernel
theorem dX4_init_4 : decode cX4_init 4 = .ok (.aload_n 0, 1) := by decide +kernel
theorem dX4_init_5 : decode cX4_init 5 = .ok (.bipush 16, 2) := by decide +kernel
theorem dX4_init_7 : decode cX4_init 7 = .ok (.putfield 7, 3) := by decide +kernel
theorem dX4_init_10 : decode cX4_init 10 = .ok (.aload_n 0, 1) := by decide +kernel
theorem dX4_init_11 : decode cX4_init 11 = .ok (.bipush 100, 2) := by decide +kernel
theorem dX4_init_13 : decode cX4_init 13 = .ok (.putfield 13, 3) := by decide +kernel
theorem dX4_init_16 : decode cX4_init 16 = .ok (.aload_n 0, 1) := by decide +kernel
theorem dX4_init_17 : decode cX4_init 17 = .ok (.bipush 8, 2) := by decide +kernel
theorem dX4_init_19 : decode cX4_init 19 = .ok (.putfield 16, 3) := by decide +kernel
theorem dX4_init_22 : decode cX4_init 22 = .ok (.return_, 1) := by decide +kernel
theorem dX4_least_0 : decode cX4_least 0 = .ok (.iload_n 0, 1) := by decide +kernel
theorem dX4_least_1 : decode cX4_least 1 = .ok (.iconst 2, 1) := by decide +kernel
theorem dX4_least_2 : decode cX4_least 2 = .ok (.if_icmp .ne 7, 3) := by decide +kernel
theorem dX4_least_5 : decode cX4_least 5 = .ok (.iconst 0, 1) := by decide +kernel
theorem dX4_least_6 : decode cX4_least 6 = .ok (.goto 4, 3) := by decide +kernel
theorem dX4_least_9 : decode cX4_least 9 = .ok (.iconst 1, 1) := by decide +kernel
theorem dX4_least_10 : decode cX4_least 10 = .ok (.ireturn, 1) := by decide +kernel
theorem dX4_most_0 : decode cX4_most 0 = .ok (.iload_n 0, 1) := by decide +kernel
theorem dX4_most_1 : decode cX4_most 1 = .ok (.lookupswitch 34 #[(0, 27), (1, 30)], 27) := by decide +kernel
theorem dX4_most_28 : decode cX4_most 28 = .ok (.bipush 64, 2) := by decide +kernel
theorem dX4_most_30 : decode cX4_most 30 = .ok (.ireturn, 1) := by decide +kernel
theorem dX4_most_31 : decode cX4_most 31 = .ok (.sipush 500, 3) := by decide +kernel
theorem dX4_most_34 : decode cX4_most 34 = .ok (.ireturn, 1) := by decide +kernel
theorem dX4_most_35 : decode cX4_most 35 = .ok (.bipush 20, 2) := by decide +kernel
theorem dX4_most_37 : decode cX4_most 37 = .ok (.ireturn, 1) := by decide +kernel
theorem dX4_copyFrom_0 : decode cX4_copyFrom 0 = .ok (.aload_n 0, 1) := by decide +kernel
theorem dX4_copyFrom_1 : decode cX4_copyFrom 1 = .ok (.aload_n 1, 1) := by decide +kernel
theorem dX4_copyFrom_2 : decode cX4_copyFrom 2 = .ok (.getfield 7, 3) := by decide +kernel
theorem dX4_copyFrom_5 : decode cX4_copyFrom 5 = .ok (.putfield 7, 3) := by decide +kernel
theorem dX4_copyFrom_8 : decode cX4_copyFrom 8 = .ok (.aload_n 0, 1) := by decide +kernel
theorem dX4_copyFrom_9 : decode cX4_copyFrom 9 = .ok (.aload_n 1, 1) := by decide +kernel
theorem dX4_copyFrom_10 : decode cX4_copyFrom 10 = .ok (.getfield 13, 3) := by decide +kernel
theorem dX4_copyFrom_13 : decode cX4_copyFrom 13 = .ok (.putfield 13, 3) := by decide +kernel
theorem dX4_copyFrom_16 : decode cX4_copyFrom 16 = .ok (.aload_n 0, 1) := by decide +kernel
theorem dX4_copyFrom_17 : decode cX4_copyFrom 17 = .ok (.aload_n 1, 1) := by decide +kernel
theorem dX4_copyFrom_18 : decode cX4_copyFrom 18 = .ok (.getfield 16, 3) := by decide +kernel
theorem dX4_copyFrom_21 : decode cX4_copyFrom 21 = .ok (.putfield 16, 3) := by decide +kernel
theorem dX4_copyFrom_24 : decode cX4_copyFrom 24 = .ok (.return_, 1) := by decide +kernel
theorem dX4_value_0 : decode cX4_value 0 = .ok (.iload_n 1, 1) := by decide +kernel
theorem dX4_value_1 : decode cX4_value 1 = .ok (.lookupswitch 37 #[(0, 27), (1, 32)], 27) := by decide +kernel
theorem dX4_value_28 : decode cX4_value 28 = .ok (.aload_n 0, 1) := by decide +kernel
theorem dX4_value_29 : decode cX4_value 29 = .ok (.getfield 7, 3) := by decide +kernel
theorem dX4_value_32 : decode cX4_value 32 = .ok (.ireturn, 1) := by decide +kernel
theorem dX4_value_33 : decode cX4_value 33 = .ok (.aload_n 0, 1) := by decide +kernel
theorem dX4_value_34 : decode cX4_value 34 = .ok (.getfield 13, 3) := by decide +kernel
theorem dX4_value_37 : decode cX4_value 37 = .ok (.ireturn, 1) := by decide +kernel
theorem dX4_value_38 : decode cX4_value 38 = .ok (.aload_n 0, 1) := by decide +kernel
theorem dX4_value_39 : decode cX4_value 39 = .ok (.getfield 16, 3) := by decide +kernel
theorem dX4_value_42 : decode cX4_value 42 = .ok (.ireturn, 1) := by decide +kernel
theorem dX4_change_0 : decode cX4_change 0 = .ok (.iload_n 1, 1) := by decide +kernel
theorem dX4_change_1 : decode cX4_change 1 = .ok (.lookupswitch 43 #[(0, 27), (1, 35)], 27) := by decide +kernel
theorem dX4_change_28 : decode cX4_change 28 = .ok (.aload_n 0, 1) := by decide +kernel
theorem dX4_change_29 : decode cX4_change 29 = .ok (.iload_n 2, 1) := by decide +kernel
theorem dX4_change_30 : decode cX4_change 30 = .ok (.putfield 7, 3) := by decide +kernel
theorem dX4_change_33 : decode cX4_change 33 = .ok (.goto 16, 3) := by decide +kernel
theorem dX4_change_36 : decode cX4_change 36 = .ok (.aload_n 0, 1) := by decide +kernel
theorem dX4_change_37 : decode cX4_change 37 = .ok (.iload_n 2, 1) := by decide +kernel
theorem dX4_change_38 : decode cX4_change 38 = .ok (.putfield 13, 3) := by decide +kernel
theorem dX4_change_41 : decode cX4_change 41 = .ok (.goto 8, 3) := by decide +kernel
theorem dX4_change_44 : decode cX4_change 44 = .ok (.aload_n 0, 1) := by decide +kernel
theorem dX4_change_45 : decode cX4_change 45 = .ok (.iload_n 2, 1) := by decide +kernel
theorem dX4_change_46 : decode cX4_change 46 = .ok (.putfield 16, 3) := by decide +kernel
theorem dX4_change_49 : decode cX4_change 49 = .ok (.return_, 1) := by decide +kernel
theorem dX5_init_0 : decode cX5_init 0 = .ok (.aload_n 0, 1) := by decide +kernel
theorem dX5_init_1 : decode cX5_init 1 = .ok (.invokespecial 3, 3) := by decide +kernel
theorem dX5_init_4 : decode cX5_init 4 = .ok (.aload_n 0, 1) := by decide +kernel
theorem dX5_init_5 : decode cX5_init 5 = .ok (.iconst (-1), 1) := by decide +kernel
theorem dX5_init_6 : decode cX5_init 6 = .ok (.putfield 9, 3) := by decide +kernel
theorem dX5_init_9 : decode cX5_init 9 = .ok (.aload_n 0, 1) := by decide +kernel
theorem dX5_init_10 : decode cX5_init 10 = .ok (.iconst (-1), 1) := by decide +kernel
theorem dX5_init_11 : decode cX5_init 11 = .ok (.putfield 15, 3) := by decide +kernel
theorem dX5_init_14 : decode cX5_init 14 = .ok (.aload_n 0, 1) := by decide +kernel
theorem dX5_init_15 : decode cX5_init 15 = .ok (.iconst (-1), 1) := by decide +kernel
theorem dX5_init_16 : decode cX5_init 16 = .ok (.putfield 18, 3) := by decide +kernel
theorem dX5_init_19 : decode cX5_init 19 = .ok (.return_, 1) := by decide +kernel
theorem dX5_copyFrom_0 : decode cX5_copyFrom 0 = .ok (.aload_n 0, 1) := by decide +kernel
theorem dX5_copyFrom_1 : decode cX5_copyFrom 1 = .ok (.aload_n 1, 1) := by decide +kernel
theorem dX5_copyFrom_2 : decode cX5_copyFrom 2 = .ok (.getfield 21, 3) := by decide +kernel
theorem dX5_copyFrom_5 : decode cX5_copyFrom 5 = .ok (.putfield 21, 3) := by decide +kernel
theorem dX5_copyFrom_8 : decode cX5_copyFrom 8 = .ok (.aload_n 0, 1) := by decide +kernel
theorem dX5_copyFrom_9 : decode cX5_copyFrom 9 = .ok (.aload_n 1, 1) := by decide +kernel
theorem dX5_copyFrom_10 : decode cX5_copyFrom 10 = .ok (.getfield 9, 3) := by decide +kernel
theorem dX5_copyFrom_13 : decode cX5_copyFrom 13 = .ok (.putfield 9, 3) := by decide +kernel
theorem dX5_copyFrom_16 : decode cX5_copyFrom 16 = .ok (.aload_n 0, 1) := by decide +kernel
theorem dX5_copyFrom_17 : decode cX5_copyFrom 17 = .ok (.aload_n 1, 1) := by decide +kernel
theorem dX5_copyFrom_18 : decode cX5_copyFrom 18 = .ok (.getfield 15, 3) := by decide +kernel
theorem dX5_copyFrom_21 : decode cX5_copyFrom 21 = .ok (.putfield 15, 3) := by decide +kernel
theorem dX5_copyFrom_24 : decode cX5_copyFrom 24 = .ok (.aload_n 0, 1) := by decide +kernel
theorem dX5_copyFrom_25 : decode cX5_copyFrom 25 = .ok (.aload_n 1, 1) := by decide +kernel
theorem dX5_copyFrom_26 : decode cX5_copyFrom 26 = .ok (.getfield 18, 3) := by decide +kernel
theorem dX5_copyFrom_29 : decode cX5_copyFrom 29 = .ok (.putfield 18, 3) := by decide +kernel
theorem dX5_copyFrom_32 : decode cX5_copyFrom 32 = .ok (.return_, 1) := by decide +kernel
theorem dX5_learnFrom_0 : decode cX5_learnFrom 0 = .ok (.aload_n 0, 1) := by decide +kernel
theorem dX5_learnFrom_1 : decode cX5_learnFrom 1 = .ok (.iconst 1, 1) := by decide +kernel
theorem dX5_learnFrom_2 : decode cX5_learnFrom 2 = .ok (.putfield 21, 3) := by decide +kernel
theorem dX5_learnFrom_5 : decode cX5_learnFrom 5 = .ok (.aload_n 0, 1) := by decide +kernel
theorem dX5_learnFrom_6 : decode cX5_learnFrom 6 = .ok (.aload_n 1, 1) := by decide +kernel
theorem dX5_learnFrom_7 : decode cX5_learnFrom 7 = .ok (.getfield 25, 3) := by decide +kernel
theorem dX5_learnFrom_10 : decode cX5_learnFrom 10 = .ok (.putfield 9, 3) := by decide +kernel
theorem dX5_learnFrom_13 : decode cX5_learnFrom 13 = .ok (.aload_n 0, 1) := by decide +kernel
theorem dX5_learnFrom_14 : decode cX5_learnFrom 14 = .ok (.aload_n 1, 1) := by decide +kernel
theorem dX5_learnFrom_15 : decode cX5_learnFrom 15 = .ok (.getfield 28, 3) := by decide +kernel
theorem dX5_learnFrom_18 : decode cX5_learnFrom 18 = .ok (.putfield 15, 3) := by decide +kernel
theorem dX5_learnFrom_21 : decode cX5_learnFrom 21 = .ok (.aload_n 0, 1) := by decide +kernel
theorem dX5_learnFrom_22 : decode cX5_learnFrom 22 = .ok (.iconst (-1), 1) := by decide +kernel
theorem dX5_learnFrom_23 : decode cX5_learnFrom 23 = .ok (.putfield 18, 3) := by decide +kernel
theorem dX5_learnFrom_26 : decode cX5_learnFrom 26 = .ok (.return_, 1) := by decide +kernel
theorem dX5_empty_0 : decode cX5_empty 0 = .ok (.aload_n 0, 1) := by decide +kernel
theorem dX5_empty_1 : decode cX5_empty 1 = .ok (.iconst 0, 1) := by decide +kernel
theorem dX5_empty_2 : decode cX5_empty 2 = .ok (.putfield 21, 3) := by decide +kernel
theorem dX5_empty_5 : decode cX5_empty 5 = .ok (.aload_n 0, 1) := by decide +kernel
theorem dX5_empty_6 : decode cX5_empty 6 = .ok (.iconst (-1), 1) := by decide +kernel
theorem dX5_empty_7 : decode cX5_empty 7 = .ok (.putfield 9, 3) := by decide +kernel
theorem dX5_empty_10 : decode cX5_empty 10 = .ok (.aload_n 0, 1) := by decide +kernel
theorem dX5_empty_11 : decode cX5_empty 11 = .ok (.iconst (-1), 1) := by decide +kernel
theorem dX5_empty_12 : decode cX5_empty 12 = .ok (.putfield 15, 3) := by decide +kernel
theorem dX5_empty_15 : decode cX5_empty 15 = .ok (.aload_n 0, 1) := by decide +kernel
theorem dX5_empty_16 : decode cX5_empty 16 = .ok (.iconst (-1), 1) := by decide +kernel
theorem dX5_empty_17 : decode cX5_empty 17 = .ok (.putfield 18, 3) := by decide +kernel
theorem dX5_empty_20 : decode cX5_empty 20 = .ok (.return_, 1) := by decide +kernel
theorem dX5_stepsTo_0 : decode cX5_stepsTo 0 = .ok (.aload_n 0, 1) := by decide +kernel
theorem dX5_stepsTo_1 : decode cX5_stepsTo 1 = .ok (.getfield 21, 3) := by decide +kernel
theorem dX5_stepsTo_4 : decode cX5_stepsTo 4 = .ok (.ifCond .ne 5, 3) := by decide +kernel
theorem dX5_stepsTo_7 : decode cX5_stepsTo 7 = .ok (.iconst 0, 1) := by decide +kernel
theorem dX5_stepsTo_8 : decode cX5_stepsTo 8 = .ok (.ireturn, 1) := by decide +kernel
theorem dX5_stepsTo_9 : decode cX5_stepsTo 9 = .ok (.aload_n 0, 1) := by decide +kernel
theorem dX5_stepsTo_10 : decode cX5_stepsTo 10 = .ok (.getfield 15, 3) := by decide +kernel
theorem dX5_stepsTo_13 : decode cX5_stepsTo 13 = .ok (.istore_n 3, 1) := by decide +kernel
theorem dX5_stepsTo_14 : decode cX5_stepsTo 14 = .ok (.iconst 1, 1) := by decide +kernel
theorem dX5_stepsTo_15 : decode cX5_stepsTo 15 = .ok (.istore 4, 2) := by decide +kernel
theorem dX5_stepsTo_17 : decode cX5_stepsTo 17 = .ok (.iload 4, 2) := by decide +kernel
theorem dX5_stepsTo_19 : decode cX5_stepsTo 19 = .ok (.iload_n 2, 1) := by decide +kernel
theorem dX5_stepsTo_20 : decode cX5_stepsTo 20 = .ok (.if_icmp .gt 29, 3) := by decide +kernel
theorem dX5_stepsTo_23 : decode cX5_stepsTo 23 = .ok (.iload_n 3, 1) := by decide +kernel
theorem dX5_stepsTo_24 : decode cX5_stepsTo 24 = .ok (.invokestatic 31, 3) := by decide +kernel
theorem dX5_stepsTo_27 : decode cX5_stepsTo 27 = .ok (.istore_n 3, 1) := by decide +kernel
theorem dX5_stepsTo_28 : decode cX5_stepsTo 28 = .ok (.aload_n 0, 1) := by decide +kernel
theorem dX5_stepsTo_29 : decode cX5_stepsTo 29 = .ok (.getfield 9, 3) := by decide +kernel
theorem dX5_stepsTo_32 : decode cX5_stepsTo 32 = .ok (.iload_n 3, 1) := by decide +kernel
theorem dX5_stepsTo_33 : decode cX5_stepsTo 33 = .ok (.invokestatic 35, 3) := by decide +kernel
theorem dX5_stepsTo_36 : decode cX5_stepsTo 36 = .ok (.iload_n 1, 1) := by decide +kernel
theorem dX5_stepsTo_37 : decode cX5_stepsTo 37 = .ok (.if_icmp .ne 6, 3) := by decide +kernel
theorem dX5_stepsTo_40 : decode cX5_stepsTo 40 = .ok (.iload 4, 2) := by decide +kernel
theorem dX5_stepsTo_42 : decode cX5_stepsTo 42 = .ok (.ireturn, 1) := by decide +kernel
theorem dX5_stepsTo_43 : decode cX5_stepsTo 43 = .ok (.iinc 4 1, 3) := by decide +kernel
theorem dX5_stepsTo_46 : decode cX5_stepsTo 46 = .ok (.goto (-29), 3) := by decide +kernel
theorem dX5_stepsTo_49 : decode cX5_stepsTo 49 = .ok (.iconst 0, 1) := by decide +kernel
theorem dX5_stepsTo_50 : decode cX5_stepsTo 50 = .ok (.ireturn, 1) := by decide +kernel
theorem dX5_take_0 : decode cX5_take 0 = .ok (.aload_n 0, 1) := by decide +kernel
theorem dX5_take_1 : decode cX5_take 1 = .ok (.getfield 15, 3) := by decide +kernel
theorem dX5_take_4 : decode cX5_take 4 = .ok (.iload_n 1, 1) := by decide +kernel
theorem dX5_take_5 : decode cX5_take 5 = .ok (.iadd, 1) := by decide +kernel
theorem dX5_take_6 : decode cX5_take 6 = .ok (.sipush 10000, 3) := by decide +kernel
theorem dX5_take_9 : decode cX5_take 9 = .ok (.irem, 1) := by decide +kernel
theorem dX5_take_10 : decode cX5_take 10 = .ok (.istore_n 3, 1) := by decide +kernel
theorem dX5_take_11 : decode cX5_take 11 = .ok (.iload_n 1, 1) := by decide +kernel
theorem dX5_take_12 : decode cX5_take 12 = .ok (.iload_n 2, 1) := by decide +kernel
theorem dX5_take_13 : decode cX5_take 13 = .ok (.if_icmp .le 22, 3) := by decide +kernel
theorem dX5_take_16 : decode cX5_take 16 = .ok (.aload_n 0, 1) := by decide +kernel
theorem dX5_take_17 : decode cX5_take 17 = .ok (.getfield 18, 3) := by decide +kernel
theorem dX5_take_20 : decode cX5_take 20 = .ok (.iconst (-1), 1) := by decide +kernel
theorem dX5_take_21 : decode cX5_take 21 = .ok (.if_icmp .eq 26, 3) := by decide +kernel
theorem dX5_take_24 : decode cX5_take 24 = .ok (.iload_n 3, 1) := by decide +kernel
theorem dX5_take_25 : decode cX5_take 25 = .ok (.aload_n 0, 1) := by decide +kernel
theorem dX5_take_26 : decode cX5_take 26 = .ok (.getfield 18, 3) := by decide +kernel
theorem dX5_take_29 : decode cX5_take 29 = .ok (.invokestatic 31, 3) := by decide +kernel
theorem dX5_take_32 : decode cX5_take 32 = .ok (.if_icmp .ne 15, 3) := by decide +kernel
theorem dX5_take_35 : decode cX5_take 35 = .ok (.aload_n 0, 1) := by decide +kernel
theorem dX5_take_36 : decode cX5_take 36 = .ok (.iload_n 3, 1) := by decide +kernel
theorem dX5_take_37 : decode cX5_take 37 = .ok (.putfield 15, 3) := by decide +kernel
theorem dX5_take_40 : decode cX5_take 40 = .ok (.aload_n 0, 1) := by decide +kernel
theorem dX5_take_41 : decode cX5_take 41 = .ok (.iconst (-1), 1) := by decide +kernel
theorem dX5_take_42 : decode cX5_take 42 = .ok (.putfield 18, 3) := by decide +kernel
theorem dX5_take_45 : decode cX5_take 45 = .ok (.iconst 1, 1) := by decide +kernel
theorem dX5_take_46 : decode cX5_take 46 = .ok (.ireturn, 1) := by decide +kernel
theorem dX5_take_47 : decode cX5_take 47 = .ok (.aload_n 0, 1) := by decide +kernel
theorem dX5_take_48 : decode cX5_take 48 = .ok (.iload_n 3, 1) := by decide +kernel
theorem dX5_take_49 : decode cX5_take 49 = .ok (.putfield 18, 3) := by decide +kernel
theorem dX5_take_52 : decode cX5_take 52 = .ok (.iconst 0, 1) := by decide +kernel
theorem dX5_take_53 : decode cX5_take 53 = .ok (.ireturn, 1) := by decide +kernel
theorem dX5_look_0 : decode cX5_look 0 = .ok (.iload_n 1, 1) := by decide +kernel
theorem dX5_look_1 : decode cX5_look 1 = .ok (.tableswitch 59 0 3 #[31, 44, 49, 54], 31) := by decide +kernel
theorem dX5_look_32 : decode cX5_look 32 = .ok (.aload_n 0, 1) := by decide +kernel
theorem dX5_look_33 : decode cX5_look 33 = .ok (.getfield 21, 3) := by decide +kernel
theorem dX5_look_36 : decode cX5_look 36 = .ok (.ifCond .eq 7, 3) := by decide +kernel
theorem dX5_look_39 : decode cX5_look 39 = .ok (.iconst 1, 1) := by decide +kernel
theorem dX5_look_40 : decode cX5_look 40 = .ok (.goto 4, 3) := by decide +kernel
theorem dX5_look_43 : decode cX5_look 43 = .ok (.iconst 0, 1) := by decide +kernel
theorem dX5_look_44 : decode cX5_look 44 = .ok (.ireturn, 1) := by decide +kernel
theorem dX5_look_45 : decode cX5_look 45 = .ok (.aload_n 0, 1) := by decide +kernel
theorem dX5_look_46 : decode cX5_look 46 = .ok (.getfield 9, 3) := by decide +kernel
theorem dX5_look_49 : decode cX5_look 49 = .ok (.ireturn, 1) := by decide +kernel
theorem dX5_look_50 : decode cX5_look 50 = .ok (.aload_n 0, 1) := by decide +kernel
theorem dX5_look_51 : decode cX5_look 51 = .ok (.getfield 15, 3) := by decide +kernel
theorem dX5_look_54 : decode cX5_look 54 = .ok (.ireturn, 1) := by decide +kernel
theorem dX5_look_55 : decode cX5_look 55 = .ok (.aload_n 0, 1) := by decide +kernel
theorem dX5_look_56 : decode cX5_look 56 = .ok (.getfield 18, 3) := by decide +kernel
theorem dX5_look_59 : decode cX5_look 59 = .ok (.ireturn, 1) := by decide +kernel
theorem dX5_look_60 : decode cX5_look 60 = .ok (.iconst (-1), 1) := by decide +kernel
theorem dX5_look_61 : decode cX5_look 61 = .ok (.ireturn, 1) := by decide +kernel
theorem dX6_init_0 : decode cX6_init 0 = .ok (.aload_n 0, 1) := by decide +kernel
theorem dX6_init_1 : decode cX6_init 1 = .ok (.invokespecial 3, 3) := by decide +kernel
theorem dX6_init_4 : decode cX6_init 4 = .ok (.aload_n 0, 1) := by decide +kernel
theorem dX6_init_5 : decode cX6_init 5 = .ok (.iconst 4, 1) := by decide +kernel
theorem dX6_init_6 : decode cX6_init 6 = .ok (.anewarray 9, 3) := by decide +kernel
theorem dX6_init_9 : decode cX6_init 9 = .ok (.putfield 11, 3) := by decide +kernel
theorem dX6_init_12 : decode cX6_init 12 = .ok (.iconst 0, 1) := by decide +kernel
theorem dX6_init_13 : decode cX6_init 13 = .ok (.istore_n 1, 1) := by decide +kernel
theorem dX6_init_14 : decode cX6_init 14 = .ok (.iload_n 1, 1) := by decide +kernel
theorem dX6_init_15 : decode cX6_init 15 = .ok (.iconst 4, 1) := by decide +kernel
theorem dX6_init_16 : decode cX6_init 16 = .ok (.if_icmp .ge 23, 3) := by decide +kernel
theorem dX6_init_19 : decode cX6_init 19 = .ok (.aload_n 0, 1) := by decide +kernel
theorem dX6_init_20 : decode cX6_init 20 = .ok (.getfield 11, 3) := by decide +kernel
theorem dX6_init_23 : decode cX6_init 23 = .ok (.iload_n 1, 1) := by decide +kernel
theorem dX6_init_24 : decode cX6_init 24 = .ok (.new 9, 3) := by decide +kernel
theorem dX6_init_27 : decode cX6_init 27 = .ok (.dup, 1) := by decide +kernel
theorem dX6_init_28 : decode cX6_init 28 = .ok (.iload_n 1, 1) := by decide +kernel
theorem dX6_init_29 : decode cX6_init 29 = .ok (.invokespecial 17, 3) := by decide +kernel
theorem dX6_init_32 : decode cX6_init 32 = .ok (.aastore, 1) := by decide +kernel
theorem dX6_init_33 : decode cX6_init 33 = .ok (.iinc 1 1, 3) := by decide +kernel
theorem dX6_init_36 : decode cX6_init 36 = .ok (.goto (-22), 3) := by decide +kernel
theorem dX6_init_39 : decode cX6_init 39 = .ok (.aload_n 0, 1) := by decide +kernel
theorem dX6_init_40 : decode cX6_init 40 = .ok (.iconst 3, 1) := by decide +kernel
theorem dX6_init_41 : decode cX6_init 41 = .ok (.anewarray 20, 3) := by decide +kernel
theorem dX6_init_44 : decode cX6_init 44 = .ok (.putfield 22, 3) := by decide +kernel
theorem dX6_init_47 : decode cX6_init 47 = .ok (.iconst 0, 1) := by decide +kernel
theorem dX6_init_48 : decode cX6_init 48 = .ok (.istore_n 1, 1) := by decide +kernel
theorem dX6_init_49 : decode cX6_init 49 = .ok (.iload_n 1, 1) := by decide +kernel
theorem dX6_init_50 : decode cX6_init 50 = .ok (.iconst 3, 1) := by decide +kernel
theorem dX6_init_51 : decode cX6_init 51 = .ok (.if_icmp .ge 22, 3) := by decide +kernel
theorem dX6_init_54 : decode cX6_init 54 = .ok (.aload_n 0, 1) := by decide +kernel
theorem dX6_init_55 : decode cX6_init 55 = .ok (.getfield 22, 3) := by decide +kernel
theorem dX6_init_58 : decode cX6_init 58 = .ok (.iload_n 1, 1) := by decide +kernel
theorem dX6_init_59 : decode cX6_init 59 = .ok (.new 20, 3) := by decide +kernel
theorem dX6_init_62 : decode cX6_init 62 = .ok (.dup, 1) := by decide +kernel
theorem dX6_init_63 : decode cX6_init 63 = .ok (.invokespecial 26, 3) := by decide +kernel
theorem dX6_init_66 : decode cX6_init 66 = .ok (.aastore, 1) := by decide +kernel
theorem dX6_init_67 : decode cX6_init 67 = .ok (.iinc 1 1, 3) := by decide +kernel
theorem dX6_init_70 : decode cX6_init 70 = .ok (.goto (-21), 3) := by decide +kernel
theorem dX6_init_73 : decode cX6_init 73 = .ok (.aload_n 0, 1) := by decide +kernel
theorem dX6_init_74 : decode cX6_init 74 = .ok (.new 27, 3) := by decide +kernel
theorem dX6_init_77 : decode cX6_init 77 = .ok (.dup, 1) := by decide +kernel
theorem dX6_init_78 : decode cX6_init 78 = .ok (.invokespecial 29, 3) := by decide +kernel
theorem dX6_init_81 : decode cX6_init 81 = .ok (.putfield 30, 3) := by decide +kernel
theorem dX6_init_84 : decode cX6_init 84 = .ok (.aload_n 0, 1) := by decide +kernel
theorem dX6_init_85 : decode cX6_init 85 = .ok (.new 34, 3) := by decide +kernel
theorem dX6_init_88 : decode cX6_init 88 = .ok (.dup, 1) := by decide +kernel
theorem dX6_init_89 : decode cX6_init 89 = .ok (.invokespecial 36, 3) := by decide +kernel
theorem dX6_init_92 : decode cX6_init 92 = .ok (.putfield 37, 3) := by decide +kernel
theorem dX6_init_95 : decode cX6_init 95 = .ok (.return_, 1) := by decide +kernel
theorem dX6_copyFrom_0 : decode cX6_copyFrom 0 = .ok (.iconst 0, 1) := by decide +kernel
theorem dX6_copyFrom_1 : decode cX6_copyFrom 1 = .ok (.istore_n 2, 1) := by decide +kernel
theorem dX6_copyFrom_2 : decode cX6_copyFrom 2 = .ok (.iload_n 2, 1) := by decide +kernel
theorem dX6_copyFrom_3 : decode cX6_copyFrom 3 = .ok (.iconst 4, 1) := by decide +kernel
theorem dX6_copyFrom_4 : decode cX6_copyFrom 4 = .ok (.if_icmp .ge 24, 3) := by decide +kernel
theorem dX6_copyFrom_7 : decode cX6_copyFrom 7 = .ok (.aload_n 0, 1) := by decide +kernel
theorem dX6_copyFrom_8 : decode cX6_copyFrom 8 = .ok (.getfield 11, 3) := by decide +kernel
theorem dX6_copyFrom_11 : decode cX6_copyFrom 11 = .ok (.iload_n 2, 1) := by decide +kernel
theorem dX6_copyFrom_12 : decode cX6_copyFrom 12 = .ok (.aaload, 1) := by decide +kernel
theorem dX6_copyFrom_13 : decode cX6_copyFrom 13 = .ok (.aload_n 1, 1) := by decide +kernel
theorem dX6_copyFrom_14 : decode cX6_copyFrom 14 = .ok (.getfield 11, 3) := by decide +kernel
theorem dX6_copyFrom_17 : decode cX6_copyFrom 17 = .ok (.iload_n 2, 1) := by decide +kernel
theorem dX6_copyFrom_18 : decode cX6_copyFrom 18 = .ok (.aaload, 1) := by decide +kernel
theorem dX6_copyFrom_19 : decode cX6_copyFrom 19 = .ok (.invokevirtual 41, 3) := by decide +kernel
theorem dX6_copyFrom_22 : decode cX6_copyFrom 22 = .ok (.iinc 2 1, 3) := by decide +kernel
theorem dX6_copyFrom_25 : decode cX6_copyFrom 25 = .ok (.goto (-23), 3) := by decide +kernel
theorem dX6_copyFrom_28 : decode cX6_copyFrom 28 = .ok (.iconst 0, 1) := by decide +kernel
theorem dX6_copyFrom_29 : decode cX6_copyFrom 29 = .ok (.istore_n 2, 1) := by decide +kernel
theorem dX6_copyFrom_30 : decode cX6_copyFrom 30 = .ok (.iload_n 2, 1) := by decide +kernel
theorem dX6_copyFrom_31 : decode cX6_copyFrom 31 = .ok (.iconst 3, 1) := by decide +kernel
theorem dX6_copyFrom_32 : decode cX6_copyFrom 32 = .ok (.if_icmp .ge 24, 3) := by decide +kernel
theorem dX6_copyFrom_35 : decode cX6_copyFrom 35 = .ok (.aload_n 0, 1) := by decide +kernel
theorem dX6_copyFrom_36 : decode cX6_copyFrom 36 = .ok (.getfield 22, 3) := by decide +kernel
theorem dX6_copyFrom_39 : decode cX6_copyFrom 39 = .ok (.iload_n 2, 1) := by decide +kernel
theorem dX6_copyFrom_40 : decode cX6_copyFrom 40 = .ok (.aaload, 1) := by decide +kernel
theorem dX6_copyFrom_41 : decode cX6_copyFrom 41 = .ok (.aload_n 1, 1) := by decide +kernel
theorem dX6_copyFrom_42 : decode cX6_copyFrom 42 = .ok (.getfield 22, 3) := by decide +kernel
theorem dX6_copyFrom_45 : decode cX6_copyFrom 45 = .ok (.iload_n 2, 1) := by decide +kernel
theorem dX6_copyFrom_46 : decode cX6_copyFrom 46 = .ok (.aaload, 1) := by decide +kernel
theorem dX6_copyFrom_47 : decode cX6_copyFrom 47 = .ok (.invokevirtual 45, 3) := by decide +kernel
theorem dX6_copyFrom_50 : decode cX6_copyFrom 50 = .ok (.iinc 2 1, 3) := by decide +kernel
theorem dX6_copyFrom_53 : decode cX6_copyFrom 53 = .ok (.goto (-23), 3) := by decide +kernel
theorem dX6_copyFrom_56 : decode cX6_copyFrom 56 = .ok (.aload_n 0, 1) := by decide +kernel
theorem dX6_copyFrom_57 : decode cX6_copyFrom 57 = .ok (.getfield 30, 3) := by decide +kernel
theorem dX6_copyFrom_60 : decode cX6_copyFrom 60 = .ok (.aload_n 1, 1) := by decide +kernel
theorem dX6_copyFrom_61 : decode cX6_copyFrom 61 = .ok (.getfield 30, 3) := by decide +kernel
theorem dX6_copyFrom_64 : decode cX6_copyFrom 64 = .ok (.invokevirtual 48, 3) := by decide +kernel
theorem dX6_copyFrom_67 : decode cX6_copyFrom 67 = .ok (.aload_n 0, 1) := by decide +kernel
theorem dX6_copyFrom_68 : decode cX6_copyFrom 68 = .ok (.getfield 37, 3) := by decide +kernel
theorem dX6_copyFrom_71 : decode cX6_copyFrom 71 = .ok (.aload_n 1, 1) := by decide +kernel
theorem dX6_copyFrom_72 : decode cX6_copyFrom 72 = .ok (.getfield 37, 3) := by decide +kernel
theorem dX6_copyFrom_75 : decode cX6_copyFrom 75 = .ok (.invokevirtual 51, 3) := by decide +kernel
theorem dX6_copyFrom_78 : decode cX6_copyFrom 78 = .ok (.aload_n 0, 1) := by decide +kernel
theorem dX6_copyFrom_79 : decode cX6_copyFrom 79 = .ok (.aload_n 1, 1) := by decide +kernel
theorem dX6_copyFrom_80 : decode cX6_copyFrom 80 = .ok (.getfield 54, 3) := by decide +kernel
theorem dX6_copyFrom_83 : decode cX6_copyFrom 83 = .ok (.putfield 54, 3) := by decide +kernel
theorem dX6_copyFrom_86 : decode cX6_copyFrom 86 = .ok (.aload_n 0, 1) := by decide +kernel
theorem dX6_copyFrom_87 : decode cX6_copyFrom 87 = .ok (.aload_n 1, 1) := by decide +kernel
theorem dX6_copyFrom_88 : decode cX6_copyFrom 88 = .ok (.getfield 58, 3) := by decide +kernel
theorem dX6_copyFrom_91 : decode cX6_copyFrom 91 = .ok (.putfield 58, 3) := by decide +kernel
theorem dX6_copyFrom_94 : decode cX6_copyFrom 94 = .ok (.return_, 1) := by decide +kernel
theorem dX6_canPress_0 : decode cX6_canPress 0 = .ok (.iload_n 1, 1) := by decide +kernel
theorem dX6_canPress_1 : decode cX6_canPress 1 = .ok (.ifCond .lt 24, 3) := by decide +kernel
theorem dX6_canPress_4 : decode cX6_canPress 4 = .ok (.iload_n 1, 1) := by decide +kernel
theorem dX6_canPress_5 : decode cX6_canPress 5 = .ok (.iconst 4, 1) := by decide +kernel
theorem dX6_canPress_6 : decode cX6_canPress 6 = .ok (.if_icmp .ge 19, 3) := by decide +kernel
theorem dX6_canPress_9 : decode cX6_canPress 9 = .ok (.aload_n 0, 1) := by decide +kernel
theorem dX6_canPress_10 : decode cX6_canPress 10 = .ok (.getfield 11, 3) := by decide +kernel
theorem dX6_canPress_13 : decode cX6_canPress 13 = .ok (.iload_n 1, 1) := by decide +kernel
theorem dX6_canPress_14 : decode cX6_canPress 14 = .ok (.aaload, 1) := by decide +kernel
theorem dX6_canPress_15 : decode cX6_canPress 15 = .ok (.getfield 61, 3) := by decide +kernel
theorem dX6_canPress_18 : decode cX6_canPress 18 = .ok (.ifCond .le 7, 3) := by decide +kernel
theorem dX6_canPress_21 : decode cX6_canPress 21 = .ok (.iconst 1, 1) := by decide +kernel
theorem dX6_canPress_22 : decode cX6_canPress 22 = .ok (.goto 4, 3) := by decide +kernel
theorem dX6_canPress_25 : decode cX6_canPress 25 = .ok (.iconst 0, 1) := by decide +kernel
theorem dX6_canPress_26 : decode cX6_canPress 26 = .ok (.ireturn, 1) := by decide +kernel
theorem dX6_canSendAgain_0 : decode cX6_canSendAgain 0 = .ok (.iload_n 1, 1) := by decide +kernel
theorem dX6_canSendAgain_1 : decode cX6_canSendAgain 1 = .ok (.ifCond .lt 18, 3) := by decide +kernel
theorem dX6_canSendAgain_4 : decode cX6_canSendAgain 4 = .ok (.iload_n 1, 1) := by decide +kernel
theorem dX6_canSendAgain_5 : decode cX6_canSendAgain 5 = .ok (.aload_n 0, 1) := by decide +kernel
theorem dX6_canSendAgain_6 : decode cX6_canSendAgain 6 = .ok (.getfield 30, 3) := by decide +kernel
theorem dX6_canSendAgain_9 : decode cX6_canSendAgain 9 = .ok (.getfield 64, 3) := by decide +kernel
theorem dX6_canSendAgain_12 : decode cX6_canSendAgain 12 = .ok (.if_icmp .ge 7, 3) := by decide +kernel
theorem dX6_canSendAgain_15 : decode cX6_canSendAgain 15 = .ok (.iconst 1, 1) := by decide +kernel
theorem dX6_canSendAgain_16 : decode cX6_canSendAgain 16 = .ok (.goto 4, 3) := by decide +kernel
theorem dX6_canSendAgain_19 : decode cX6_canSendAgain 19 = .ok (.iconst 0, 1) := by decide +kernel
theorem dX6_canSendAgain_20 : decode cX6_canSendAgain 20 = .ok (.ireturn, 1) := by decide +kernel
theorem dX6_pressFob_0 : decode cX6_pressFob 0 = .ok (.aload_n 0, 1) := by decide +kernel
theorem dX6_pressFob_1 : decode cX6_pressFob 1 = .ok (.iload_n 1, 1) := by decide +kernel
theorem dX6_pressFob_2 : decode cX6_pressFob 2 = .ok (.invokevirtual 67, 3) := by decide +kernel
theorem dX6_pressFob_5 : decode cX6_pressFob 5 = .ok (.ifCond .ne 5, 3) := by decide +kernel
theorem dX6_pressFob_8 : decode cX6_pressFob 8 = .ok (.iconst 0, 1) := by decide +kernel
theorem dX6_pressFob_9 : decode cX6_pressFob 9 = .ok (.ireturn, 1) := by decide +kernel
theorem dX6_pressFob_10 : decode cX6_pressFob 10 = .ok (.aload_n 0, 1) := by decide +kernel
theorem dX6_pressFob_11 : decode cX6_pressFob 11 = .ok (.getfield 11, 3) := by decide +kernel
theorem dX6_pressFob_14 : decode cX6_pressFob 14 = .ok (.iload_n 1, 1) := by decide +kernel
theorem dX6_pressFob_15 : decode cX6_pressFob 15 = .ok (.aaload, 1) := by decide +kernel
theorem dX6_pressFob_16 : decode cX6_pressFob 16 = .ok (.invokevirtual 71, 3) := by decide +kernel
theorem dX6_pressFob_19 : decode cX6_pressFob 19 = .ok (.istore_n 3, 1) := by decide +kernel
theorem dX6_pressFob_20 : decode cX6_pressFob 20 = .ok (.aload_n 0, 1) := by decide +kernel
theorem dX6_pressFob_21 : decode cX6_pressFob 21 = .ok (.getfield 30, 3) := by decide +kernel
theorem dX6_pressFob_24 : decode cX6_pressFob 24 = .ok (.iload_n 3, 1) := by decide +kernel
theorem dX6_pressFob_25 : decode cX6_pressFob 25 = .ok (.invokevirtual 75, 3) := by decide +kernel
theorem dX6_pressFob_28 : decode cX6_pressFob 28 = .ok (.aload_n 0, 1) := by decide +kernel
theorem dX6_pressFob_29 : decode cX6_pressFob 29 = .ok (.iload_n 3, 1) := by decide +kernel
theorem dX6_pressFob_30 : decode cX6_pressFob 30 = .ok (.iload_n 2, 1) := by decide +kernel
theorem dX6_pressFob_31 : decode cX6_pressFob 31 = .ok (.invokevirtual 78, 3) := by decide +kernel
theorem dX6_pressFob_34 : decode cX6_pressFob 34 = .ok (.ireturn, 1) := by decide +kernel
theorem dX6_sendAgain_0 : decode cX6_sendAgain 0 = .ok (.aload_n 0, 1) := by decide +kernel
theorem dX6_sendAgain_1 : decode cX6_sendAgain 1 = .ok (.iload_n 1, 1) := by decide +kernel
theorem dX6_sendAgain_2 : decode cX6_sendAgain 2 = .ok (.invokevirtual 82, 3) := by decide +kernel
theorem dX6_sendAgain_5 : decode cX6_sendAgain 5 = .ok (.ifCond .ne 5, 3) := by decide +kernel
theorem dX6_sendAgain_8 : decode cX6_sendAgain 8 = .ok (.iconst 0, 1) := by decide +kernel
theorem dX6_sendAgain_9 : decode cX6_sendAgain 9 = .ok (.ireturn, 1) := by decide +kernel
theorem dX6_sendAgain_10 : decode cX6_sendAgain 10 = .ok (.aload_n 0, 1) := by decide +kernel
theorem dX6_sendAgain_11 : decode cX6_sendAgain 11 = .ok (.dup, 1) := by decide +kernel
theorem dX6_sendAgain_12 : decode cX6_sendAgain 12 = .ok (.getfield 54, 3) := by decide +kernel
theorem dX6_sendAgain_15 : decode cX6_sendAgain 15 = .ok (.iconst 1, 1) := by decide +kernel
theorem dX6_sendAgain_16 : decode cX6_sendAgain 16 = .ok (.iadd, 1) := by decide +kernel
theorem dX6_sendAgain_17 : decode cX6_sendAgain 17 = .ok (.putfield 54, 3) := by decide +kernel
theorem dX6_sendAgain_20 : decode cX6_sendAgain 20 = .ok (.aload_n 0, 1) := by decide +kernel
theorem dX6_sendAgain_21 : decode cX6_sendAgain 21 = .ok (.aload_n 0, 1) := by decide +kernel
theorem dX6_sendAgain_22 : decode cX6_sendAgain 22 = .ok (.getfield 30, 3) := by decide +kernel
theorem dX6_sendAgain_25 : decode cX6_sendAgain 25 = .ok (.iload_n 1, 1) := by decide +kernel
theorem dX6_sendAgain_26 : decode cX6_sendAgain 26 = .ok (.invokevirtual 85, 3) := by decide +kernel
theorem dX6_sendAgain_29 : decode cX6_sendAgain 29 = .ok (.iload_n 2, 1) := by decide +kernel
theorem dX6_sendAgain_30 : decode cX6_sendAgain 30 = .ok (.invokevirtual 78, 3) := by decide +kernel
theorem dX6_sendAgain_33 : decode cX6_sendAgain 33 = .ok (.istore_n 3, 1) := by decide +kernel
theorem dX6_sendAgain_34 : decode cX6_sendAgain 34 = .ok (.aload_n 0, 1) := by decide +kernel
theorem dX6_sendAgain_35 : decode cX6_sendAgain 35 = .ok (.dup, 1) := by decide +kernel
theorem dX6_sendAgain_36 : decode cX6_sendAgain 36 = .ok (.getfield 58, 3) := by decide +kernel
theorem dX6_sendAgain_39 : decode cX6_sendAgain 39 = .ok (.iload_n 3, 1) := by decide +kernel
theorem dX6_sendAgain_40 : decode cX6_sendAgain 40 = .ok (.invokestatic 89, 3) := by decide +kernel
theorem dX6_sendAgain_43 : decode cX6_sendAgain 43 = .ok (.iadd, 1) := by decide +kernel
theorem dX6_sendAgain_44 : decode cX6_sendAgain 44 = .ok (.putfield 58, 3) := by decide +kernel
theorem dX6_sendAgain_47 : decode cX6_sendAgain 47 = .ok (.iload_n 3, 1) := by decide +kernel
theorem dX6_sendAgain_48 : decode cX6_sendAgain 48 = .ok (.ireturn, 1) := by decide +kernel
theorem dX6_send_0 : decode cX6_send 0 = .ok (.iconst 0, 1) := by decide +kernel
theorem dX6_send_1 : decode cX6_send 1 = .ok (.istore_n 3, 1) := by decide +kernel
theorem dX6_send_2 : decode cX6_send 2 = .ok (.iconst 0, 1) := by decide +kernel
theorem dX6_send_3 : decode cX6_send 3 = .ok (.istore 4, 2) := by decide +kernel
theorem dX6_send_5 : decode cX6_send 5 = .ok (.iload 4, 2) := by decide +kernel
theorem dX6_send_7 : decode cX6_send 7 = .ok (.iconst 3, 1) := by decide +kernel
theorem dX6_send_8 : decode cX6_send 8 = .ok (.if_icmp .ge 56, 3) := by decide +kernel
theorem dX6_send_11 : decode cX6_send 11 = .ok (.iload_n 2, 1) := by decide +kernel
theorem dX6_send_12 : decode cX6_send 12 = .ok (.iload 4, 2) := by decide +kernel
theorem dX6_send_14 : decode cX6_send 14 = .ok (.ishr, 1) := by decide +kernel
theorem dX6_send_15 : decode cX6_send 15 = .ok (.iconst 1, 1) := by decide +kernel
theorem dX6_send_16 : decode cX6_send 16 = .ok (.iand, 1) := by decide +kernel
theorem dX6_send_17 : decode cX6_send 17 = .ok (.iconst 1, 1) := by decide +kernel
theorem dX6_send_18 : decode cX6_send 18 = .ok (.if_icmp .ne 7, 3) := by decide +kernel
theorem dX6_send_21 : decode cX6_send 21 = .ok (.iconst 1, 1) := by decide +kernel
theorem dX6_send_22 : decode cX6_send 22 = .ok (.goto 4, 3) := by decide +kernel
theorem dX6_send_25 : decode cX6_send 25 = .ok (.iconst 0, 1) := by decide +kernel
theorem dX6_send_26 : decode cX6_send 26 = .ok (.istore 5, 2) := by decide +kernel
theorem dX6_send_28 : decode cX6_send 28 = .ok (.iload 5, 2) := by decide +kernel
theorem dX6_send_30 : decode cX6_send 30 = .ok (.ifCond .eq 28, 3) := by decide +kernel
theorem dX6_send_33 : decode cX6_send 33 = .ok (.aload_n 0, 1) := by decide +kernel
theorem dX6_send_34 : decode cX6_send 34 = .ok (.getfield 22, 3) := by decide +kernel
theorem dX6_send_37 : decode cX6_send 37 = .ok (.iload 4, 2) := by decide +kernel
theorem dX6_send_39 : decode cX6_send 39 = .ok (.aaload, 1) := by decide +kernel
theorem dX6_send_40 : decode cX6_send 40 = .ok (.iload_n 1, 1) := by decide +kernel
theorem dX6_send_41 : decode cX6_send 41 = .ok (.aload_n 0, 1) := by decide +kernel
theorem dX6_send_42 : decode cX6_send 42 = .ok (.getfield 37, 3) := by decide +kernel
theorem dX6_send_45 : decode cX6_send 45 = .ok (.invokevirtual 94, 3) := by decide +kernel
theorem dX6_send_48 : decode cX6_send 48 = .ok (.ifCond .ne 10, 3) := by decide +kernel
theorem dX6_send_51 : decode cX6_send 51 = .ok (.iload_n 3, 1) := by decide +kernel
theorem dX6_send_52 : decode cX6_send 52 = .ok (.iconst 1, 1) := by decide +kernel
theorem dX6_send_53 : decode cX6_send 53 = .ok (.iload 4, 2) := by decide +kernel
theorem dX6_send_55 : decode cX6_send 55 = .ok (.ishl, 1) := by decide +kernel
theorem dX6_send_56 : decode cX6_send 56 = .ok (.ior, 1) := by decide +kernel
theorem dX6_send_57 : decode cX6_send 57 = .ok (.istore_n 3, 1) := by decide +kernel
theorem dX6_send_58 : decode cX6_send 58 = .ok (.iinc 4 1, 3) := by decide +kernel
theorem dX6_send_61 : decode cX6_send 61 = .ok (.goto (-56), 3) := by decide +kernel
theorem dX6_send_64 : decode cX6_send 64 = .ok (.iload_n 3, 1) := by decide +kernel
theorem dX6_send_65 : decode cX6_send 65 = .ok (.ireturn, 1) := by decide +kernel
theorem dX6_presses_0 : decode cX6_presses 0 = .ok (.iconst 0, 1) := by decide +kernel
theorem dX6_presses_1 : decode cX6_presses 1 = .ok (.istore_n 1, 1) := by decide +kernel
theorem dX6_presses_2 : decode cX6_presses 2 = .ok (.aload_n 0, 1) := by decide +kernel
theorem dX6_presses_3 : decode cX6_presses 3 = .ok (.getfield 11, 3) := by decide +kernel
theorem dX6_presses_6 : decode cX6_presses 6 = .ok (.astore_n 2, 1) := by decide +kernel
theorem dX6_presses_7 : decode cX6_presses 7 = .ok (.aload_n 2, 1) := by decide +kernel
theorem dX6_presses_8 : decode cX6_presses 8 = .ok (.arraylength, 1) := by decide +kernel
theorem dX6_presses_9 : decode cX6_presses 9 = .ok (.istore_n 3, 1) := by decide +kernel
theorem dX6_presses_10 : decode cX6_presses 10 = .ok (.iconst 0, 1) := by decide +kernel
theorem dX6_presses_11 : decode cX6_presses 11 = .ok (.istore 4, 2) := by decide +kernel
theorem dX6_presses_13 : decode cX6_presses 13 = .ok (.iload 4, 2) := by decide +kernel
theorem dX6_presses_15 : decode cX6_presses 15 = .ok (.iload_n 3, 1) := by decide +kernel
theorem dX6_presses_16 : decode cX6_presses 16 = .ok (.if_icmp .ge 23, 3) := by decide +kernel
theorem dX6_presses_19 : decode cX6_presses 19 = .ok (.aload_n 2, 1) := by decide +kernel
theorem dX6_presses_20 : decode cX6_presses 20 = .ok (.iload 4, 2) := by decide +kernel
theorem dX6_presses_22 : decode cX6_presses 22 = .ok (.aaload, 1) := by decide +kernel
theorem dX6_presses_23 : decode cX6_presses 23 = .ok (.astore 5, 2) := by decide +kernel
theorem dX6_presses_25 : decode cX6_presses 25 = .ok (.iload_n 1, 1) := by decide +kernel
theorem dX6_presses_26 : decode cX6_presses 26 = .ok (.aload 5, 2) := by decide +kernel
theorem dX6_presses_28 : decode cX6_presses 28 = .ok (.getfield 102, 3) := by decide +kernel
theorem dX6_presses_31 : decode cX6_presses 31 = .ok (.iadd, 1) := by decide +kernel
theorem dX6_presses_32 : decode cX6_presses 32 = .ok (.istore_n 1, 1) := by decide +kernel
theorem dX6_presses_33 : decode cX6_presses 33 = .ok (.iinc 4 1, 3) := by decide +kernel
theorem dX6_presses_36 : decode cX6_presses 36 = .ok (.goto (-23), 3) := by decide +kernel
theorem dX6_presses_39 : decode cX6_presses 39 = .ok (.iload_n 1, 1) := by decide +kernel
theorem dX6_presses_40 : decode cX6_presses 40 = .ok (.ireturn, 1) := by decide +kernel
theorem dX6_timesOpened_0 : decode cX6_timesOpened 0 = .ok (.iconst 0, 1) := by decide +kernel
theorem dX6_timesOpened_1 : decode cX6_timesOpened 1 = .ok (.istore_n 1, 1) := by decide +kernel
theorem dX6_timesOpened_2 : decode cX6_timesOpened 2 = .ok (.aload_n 0, 1) := by decide +kernel
theorem dX6_timesOpened_3 : decode cX6_timesOpened 3 = .ok (.getfield 22, 3) := by decide +kernel
theorem dX6_timesOpened_6 : decode cX6_timesOpened 6 = .ok (.astore_n 2, 1) := by decide +kernel
theorem dX6_timesOpened_7 : decode cX6_timesOpened 7 = .ok (.aload_n 2, 1) := by decide +kernel
theorem dX6_timesOpened_8 : decode cX6_timesOpened 8 = .ok (.arraylength, 1) := by decide +kernel
theorem dX6_timesOpened_9 : decode cX6_timesOpened 9 = .ok (.istore_n 3, 1) := by decide +kernel
theorem dX6_timesOpened_10 : decode cX6_timesOpened 10 = .ok (.iconst 0, 1) := by decide +kernel
theorem dX6_timesOpened_11 : decode cX6_timesOpened 11 = .ok (.istore 4, 2) := by decide +kernel
theorem dX6_timesOpened_13 : decode cX6_timesOpened 13 = .ok (.iload 4, 2) := by decide +kernel
theorem dX6_timesOpened_15 : decode cX6_timesOpened 15 = .ok (.iload_n 3, 1) := by decide +kernel
theorem dX6_timesOpened_16 : decode cX6_timesOpened 16 = .ok (.if_icmp .ge 23, 3) := by decide +kernel
theorem dX6_timesOpened_19 : decode cX6_timesOpened 19 = .ok (.aload_n 2, 1) := by decide +kernel
theorem dX6_timesOpened_20 : decode cX6_timesOpened 20 = .ok (.iload 4, 2) := by decide +kernel
theorem dX6_timesOpened_22 : decode cX6_timesOpened 22 = .ok (.aaload, 1) := by decide +kernel
theorem dX6_timesOpened_23 : decode cX6_timesOpened 23 = .ok (.astore 5, 2) := by decide +kernel
theorem dX6_timesOpened_25 : decode cX6_timesOpened 25 = .ok (.iload_n 1, 1) := by decide +kernel
theorem dX6_timesOpened_26 : decode cX6_timesOpened 26 = .ok (.aload 5, 2) := by decide +kernel
theorem dX6_timesOpened_28 : decode cX6_timesOpened 28 = .ok (.getfield 105, 3) := by decide +kernel
theorem dX6_timesOpened_31 : decode cX6_timesOpened 31 = .ok (.iadd, 1) := by decide +kernel
theorem dX6_timesOpened_32 : decode cX6_timesOpened 32 = .ok (.istore_n 1, 1) := by decide +kernel
theorem dX6_timesOpened_33 : decode cX6_timesOpened 33 = .ok (.iinc 4 1, 3) := by decide +kernel
theorem dX6_timesOpened_36 : decode cX6_timesOpened 36 = .ok (.goto (-23), 3) := by decide +kernel
theorem dX6_timesOpened_39 : decode cX6_timesOpened 39 = .ok (.iload_n 1, 1) := by decide +kernel
theorem dX6_timesOpened_40 : decode cX6_timesOpened 40 = .ok (.ireturn, 1) := by decide +kernel
theorem dX6_wrongNumbers_0 : decode cX6_wrongNumbers 0 = .ok (.iconst 0, 1) := by decide +kernel
theorem dX6_wrongNumbers_1 : decode cX6_wrongNumbers 1 = .ok (.istore_n 1, 1) := by decide +kernel
theorem dX6_wrongNumbers_2 : decode cX6_wrongNumbers 2 = .ok (.aload_n 0, 1) := by decide +kernel
theorem dX6_wrongNumbers_3 : decode cX6_wrongNumbers 3 = .ok (.getfield 22, 3) := by decide +kernel
theorem dX6_wrongNumbers_6 : decode cX6_wrongNumbers 6 = .ok (.astore_n 2, 1) := by decide +kernel
theorem dX6_wrongNumbers_7 : decode cX6_wrongNumbers 7 = .ok (.aload_n 2, 1) := by decide +kernel
theorem dX6_wrongNumbers_8 : decode cX6_wrongNumbers 8 = .ok (.arraylength, 1) := by decide +kernel
theorem dX6_wrongNumbers_9 : decode cX6_wrongNumbers 9 = .ok (.istore_n 3, 1) := by decide +kernel
theorem dX6_wrongNumbers_10 : decode cX6_wrongNumbers 10 = .ok (.iconst 0, 1) := by decide +kernel
theorem dX6_wrongNumbers_11 : decode cX6_wrongNumbers 11 = .ok (.istore 4, 2) := by decide +kernel
theorem dX6_wrongNumbers_13 : decode cX6_wrongNumbers 13 = .ok (.iload 4, 2) := by decide +kernel
theorem dX6_wrongNumbers_15 : decode cX6_wrongNumbers 15 = .ok (.iload_n 3, 1) := by decide +kernel
theorem dX6_wrongNumbers_16 : decode cX6_wrongNumbers 16 = .ok (.if_icmp .ge 23, 3) := by decide +kernel
theorem dX6_wrongNumbers_19 : decode cX6_wrongNumbers 19 = .ok (.aload_n 2, 1) := by decide +kernel
theorem dX6_wrongNumbers_20 : decode cX6_wrongNumbers 20 = .ok (.iload 4, 2) := by decide +kernel
theorem dX6_wrongNumbers_22 : decode cX6_wrongNumbers 22 = .ok (.aaload, 1) := by decide +kernel
theorem dX6_wrongNumbers_23 : decode cX6_wrongNumbers 23 = .ok (.astore 5, 2) := by decide +kernel
theorem dX6_wrongNumbers_25 : decode cX6_wrongNumbers 25 = .ok (.iload_n 1, 1) := by decide +kernel
theorem dX6_wrongNumbers_26 : decode cX6_wrongNumbers 26 = .ok (.aload 5, 2) := by decide +kernel
theorem dX6_wrongNumbers_28 : decode cX6_wrongNumbers 28 = .ok (.getfield 108, 3) := by decide +kernel
theorem dX6_wrongNumbers_31 : decode cX6_wrongNumbers 31 = .ok (.iadd, 1) := by decide +kernel
theorem dX6_wrongNumbers_32 : decode cX6_wrongNumbers 32 = .ok (.istore_n 1, 1) := by decide +kernel
theorem dX6_wrongNumbers_33 : decode cX6_wrongNumbers 33 = .ok (.iinc 4 1, 3) := by decide +kernel
theorem dX6_wrongNumbers_36 : decode cX6_wrongNumbers 36 = .ok (.goto (-23), 3) := by decide +kernel
theorem dX6_wrongNumbers_39 : decode cX6_wrongNumbers 39 = .ok (.iload_n 1, 1) := by decide +kernel
theorem dX6_wrongNumbers_40 : decode cX6_wrongNumbers 40 = .ok (.ireturn, 1) := by decide +kernel
theorem dX6_openDoors_0 : decode cX6_openDoors 0 = .ok (.iconst 0, 1) := by decide +kernel
theorem dX6_openDoors_1 : decode cX6_openDoors 1 = .ok (.istore_n 1, 1) := by decide +kernel
theorem dX6_openDoors_2 : decode cX6_openDoors 2 = .ok (.aload_n 0, 1) := by decide +kernel
theorem dX6_openDoors_3 : decode cX6_openDoors 3 = .ok (.getfield 22, 3) := by decide +kernel
theorem dX6_openDoors_6 : decode cX6_openDoors 6 = .ok (.astore_n 2, 1) := by decide +kernel
theorem dX6_openDoors_7 : decode cX6_openDoors 7 = .ok (.aload_n 2, 1) := by decide +kernel
theorem dX6_openDoors_8 : decode cX6_openDoors 8 = .ok (.arraylength, 1) := by decide +kernel
theorem dX6_openDoors_9 : decode cX6_openDoors 9 = .ok (.istore_n 3, 1) := by decide +kernel
theorem dX6_openDoors_10 : decode cX6_openDoors 10 = .ok (.iconst 0, 1) := by decide +kernel
theorem dX6_openDoors_11 : decode cX6_openDoors 11 = .ok (.istore 4, 2) := by decide +kernel
theorem dX6_openDoors_13 : decode cX6_openDoors 13 = .ok (.iload 4, 2) := by decide +kernel
theorem dX6_openDoors_15 : decode cX6_openDoors 15 = .ok (.iload_n 3, 1) := by decide +kernel
theorem dX6_openDoors_16 : decode cX6_openDoors 16 = .ok (.if_icmp .ge 31, 3) := by decide +kernel
theorem dX6_openDoors_19 : decode cX6_openDoors 19 = .ok (.aload_n 2, 1) := by decide +kernel
theorem dX6_openDoors_20 : decode cX6_openDoors 20 = .ok (.iload 4, 2) := by decide +kernel
theorem dX6_openDoors_22 : decode cX6_openDoors 22 = .ok (.aaload, 1) := by decide +kernel
theorem dX6_openDoors_23 : decode cX6_openDoors 23 = .ok (.astore 5, 2) := by decide +kernel
theorem dX6_openDoors_25 : decode cX6_openDoors 25 = .ok (.iload_n 1, 1) := by decide +kernel
theorem dX6_openDoors_26 : decode cX6_openDoors 26 = .ok (.aload 5, 2) := by decide +kernel
theorem dX6_openDoors_28 : decode cX6_openDoors 28 = .ok (.getfield 98, 3) := by decide +kernel
theorem dX6_openDoors_31 : decode cX6_openDoors 31 = .ok (.ifCond .eq 7, 3) := by decide +kernel
theorem dX6_openDoors_34 : decode cX6_openDoors 34 = .ok (.iconst 1, 1) := by decide +kernel
theorem dX6_openDoors_35 : decode cX6_openDoors 35 = .ok (.goto 4, 3) := by decide +kernel
theorem dX6_openDoors_38 : decode cX6_openDoors 38 = .ok (.iconst 0, 1) := by decide +kernel
theorem dX6_openDoors_39 : decode cX6_openDoors 39 = .ok (.iadd, 1) := by decide +kernel
theorem dX6_openDoors_40 : decode cX6_openDoors 40 = .ok (.istore_n 1, 1) := by decide +kernel
theorem dX6_openDoors_41 : decode cX6_openDoors 41 = .ok (.iinc 4 1, 3) := by decide +kernel
theorem dX6_openDoors_44 : decode cX6_openDoors 44 = .ok (.goto (-31), 3) := by decide +kernel
theorem dX6_openDoors_47 : decode cX6_openDoors 47 = .ok (.iload_n 1, 1) := by decide +kernel
theorem dX6_openDoors_48 : decode cX6_openDoors 48 = .ok (.ireturn, 1) := by decide +kernel
theorem dX6_lockedDoors_0 : decode cX6_lockedDoors 0 = .ok (.iconst 0, 1) := by decide +kernel
theorem dX6_lockedDoors_1 : decode cX6_lockedDoors 1 = .ok (.istore_n 1, 1) := by decide +kernel
theorem dX6_lockedDoors_2 : decode cX6_lockedDoors 2 = .ok (.aload_n 0, 1) := by decide +kernel
theorem dX6_lockedDoors_3 : decode cX6_lockedDoors 3 = .ok (.getfield 22, 3) := by decide +kernel
theorem dX6_lockedDoors_6 : decode cX6_lockedDoors 6 = .ok (.astore_n 2, 1) := by decide +kernel
theorem dX6_lockedDoors_7 : decode cX6_lockedDoors 7 = .ok (.aload_n 2, 1) := by decide +kernel
theorem dX6_lockedDoors_8 : decode cX6_lockedDoors 8 = .ok (.arraylength, 1) := by decide +kernel
theorem dX6_lockedDoors_9 : decode cX6_lockedDoors 9 = .ok (.istore_n 3, 1) := by decide +kernel
theorem dX6_lockedDoors_10 : decode cX6_lockedDoors 10 = .ok (.iconst 0, 1) := by decide +kernel
theorem dX6_lockedDoors_11 : decode cX6_lockedDoors 11 = .ok (.istore 4, 2) := by decide +kernel
theorem dX6_lockedDoors_13 : decode cX6_lockedDoors 13 = .ok (.iload 4, 2) := by decide +kernel
theorem dX6_lockedDoors_15 : decode cX6_lockedDoors 15 = .ok (.iload_n 3, 1) := by decide +kernel
theorem dX6_lockedDoors_16 : decode cX6_lockedDoors 16 = .ok (.if_icmp .ge 35, 3) := by decide +kernel
theorem dX6_lockedDoors_19 : decode cX6_lockedDoors 19 = .ok (.aload_n 2, 1) := by decide +kernel
theorem dX6_lockedDoors_20 : decode cX6_lockedDoors 20 = .ok (.iload 4, 2) := by decide +kernel
theorem dX6_lockedDoors_22 : decode cX6_lockedDoors 22 = .ok (.aaload, 1) := by decide +kernel
theorem dX6_lockedDoors_23 : decode cX6_lockedDoors 23 = .ok (.astore 5, 2) := by decide +kernel
theorem dX6_lockedDoors_25 : decode cX6_lockedDoors 25 = .ok (.iload_n 1, 1) := by decide +kernel
theorem dX6_lockedDoors_26 : decode cX6_lockedDoors 26 = .ok (.aload 5, 2) := by decide +kernel
theorem dX6_lockedDoors_28 : decode cX6_lockedDoors 28 = .ok (.aload_n 0, 1) := by decide +kernel
theorem dX6_lockedDoors_29 : decode cX6_lockedDoors 29 = .ok (.getfield 37, 3) := by decide +kernel
theorem dX6_lockedDoors_32 : decode cX6_lockedDoors 32 = .ok (.invokevirtual 111, 3) := by decide +kernel
theorem dX6_lockedDoors_35 : decode cX6_lockedDoors 35 = .ok (.ifCond .eq 7, 3) := by decide +kernel
theorem dX6_lockedDoors_38 : decode cX6_lockedDoors 38 = .ok (.iconst 1, 1) := by decide +kernel
theorem dX6_lockedDoors_39 : decode cX6_lockedDoors 39 = .ok (.goto 4, 3) := by decide +kernel
theorem dX6_lockedDoors_42 : decode cX6_lockedDoors 42 = .ok (.iconst 0, 1) := by decide +kernel
theorem dX6_lockedDoors_43 : decode cX6_lockedDoors 43 = .ok (.iadd, 1) := by decide +kernel
theorem dX6_lockedDoors_44 : decode cX6_lockedDoors 44 = .ok (.istore_n 1, 1) := by decide +kernel
theorem dX6_lockedDoors_45 : decode cX6_lockedDoors 45 = .ok (.iinc 4 1, 3) := by decide +kernel
theorem dX6_lockedDoors_48 : decode cX6_lockedDoors 48 = .ok (.goto (-35), 3) := by decide +kernel
theorem dX6_lockedDoors_51 : decode cX6_lockedDoors 51 = .ok (.iload_n 1, 1) := by decide +kernel
theorem dX6_lockedDoors_52 : decode cX6_lockedDoors 52 = .ok (.ireturn, 1) := by decide +kernel
theorem dX7_init_0 : decode cX7_init 0 = .ok (.aload_n 0, 1) := by decide +kernel
theorem dX7_init_1 : decode cX7_init 1 = .ok (.invokespecial 3, 3) := by decide +kernel
theorem dX7_init_4 : decode cX7_init 4 = .ok (.aload_n 0, 1) := by decide +kernel
theorem dX7_init_5 : decode cX7_init 5 = .ok (.bipush 60, 2) := by decide +kernel
theorem dX7_init_7 : decode cX7_init 7 = .ok (.newarray .int, 2) := by decide +kernel
theorem dX7_init_9 : decode cX7_init 9 = .ok (.putfield 9, 3) := by decide +kernel
theorem dX7_init_12 : decode cX7_init 12 = .ok (.return_, 1) := by decide +kernel
theorem dX8_init_0 : decode cX8_init 0 = .ok (.aload_n 0, 1) := by decide +kernel
theorem dX8_init_1 : decode cX8_init 1 = .ok (.invokespecial 1, 3) := by decide +kernel
theorem dX8_init_4 : decode cX8_init 4 = .ok (.aload_n 0, 1) := by decide +kernel
theorem dX8_init_5 : decode cX8_init 5 = .ok (.new 7, 3) := by decide +kernel
theorem dX8_init_8 : decode cX8_init 8 = .ok (.dup, 1) := by decide +kernel
theorem dX8_init_9 : decode cX8_init 9 = .ok (.invokespecial 9, 3) := by decide +kernel
theorem dX8_init_12 : decode cX8_init 12 = .ok (.putfield 10, 3) := by decide +kernel
theorem dX8_init_15 : decode cX8_init 15 = .ok (.aload_n 0, 1) := by decide +kernel
theorem dX8_init_16 : decode cX8_init 16 = .ok (.new 16, 3) := by decide +kernel
theorem dX8_init_19 : decode cX8_init 19 = .ok (.dup, 1) := by decide +kernel
theorem dX8_init_20 : decode cX8_init 20 = .ok (.invokespecial 18, 3) := by decide +kernel
theorem dX8_init_23 : decode cX8_init 23 = .ok (.putfield 19, 3) := by decide +kernel
theorem dX8_init_26 : decode cX8_init 26 = .ok (.aload_n 0, 1) := by decide +kernel
theorem dX8_init_27 : decode cX8_init 27 = .ok (.new 23, 3) := by decide +kernel
theorem dX8_init_30 : decode cX8_init 30 = .ok (.dup, 1) := by decide +kernel
theorem dX8_init_31 : decode cX8_init 31 = .ok (.invokespecial 25, 3) := by decide +kernel
theorem dX8_init_34 : decode cX8_init 34 = .ok (.putfield 26, 3) := by decide +kernel
theorem dX8_init_37 : decode cX8_init 37 = .ok (.aload_n 0, 1) := by decide +kernel
theorem dX8_init_38 : decode cX8_init 38 = .ok (.new 30, 3) := by decide +kernel
theorem dX8_init_41 : decode cX8_init 41 = .ok (.dup, 1) := by decide +kernel
theorem dX8_init_42 : decode cX8_init 42 = .ok (.invokespecial 32, 3) := by decide +kernel
theorem dX8_init_45 : decode cX8_init 45 = .ok (.putfield 33, 3) := by decide +kernel
theorem dX8_init_48 : decode cX8_init 48 = .ok (.return_, 1) := by decide +kernel
theorem dX8_make_0 : decode cX8_make 0 = .ok (.iload_n 1, 1) := by decide +kernel
theorem dX8_make_1 : decode cX8_make 1 = .ok (.iconst 4, 1) := by decide +kernel
theorem dX8_make_2 : decode cX8_make 2 = .ok (.invokestatic 37, 3) := by decide +kernel
theorem dX8_make_5 : decode cX8_make 5 = .ok (.iload_n 2, 1) := by decide +kernel
theorem dX8_make_6 : decode cX8_make 6 = .ok (.iconst 0, 1) := by decide +kernel
theorem dX8_make_7 : decode cX8_make 7 = .ok (.sipush 9999, 3) := by decide +kernel
theorem dX8_make_10 : decode cX8_make 10 = .ok (.invokestatic 41, 3) := by decide +kernel
theorem dX8_make_13 : decode cX8_make 13 = .ok (.iload_n 3, 1) := by decide +kernel
theorem dX8_make_14 : decode cX8_make 14 = .ok (.iconst 0, 1) := by decide +kernel
theorem dX8_make_15 : decode cX8_make 15 = .ok (.sipush 9999, 3) := by decide +kernel
theorem dX8_make_18 : decode cX8_make 18 = .ok (.invokestatic 41, 3) := by decide +kernel
theorem dX8_make_21 : decode cX8_make 21 = .ok (.aload_n 0, 1) := by decide +kernel
theorem dX8_make_22 : decode cX8_make 22 = .ok (.getfield 19, 3) := by decide +kernel
theorem dX8_make_25 : decode cX8_make 25 = .ok (.aload_n 0, 1) := by decide +kernel
theorem dX8_make_26 : decode cX8_make 26 = .ok (.getfield 10, 3) := by decide +kernel
theorem dX8_make_29 : decode cX8_make 29 = .ok (.invokevirtual 45, 3) := by decide +kernel
theorem dX8_make_32 : decode cX8_make 32 = .ok (.aload_n 0, 1) := by decide +kernel
theorem dX8_make_33 : decode cX8_make 33 = .ok (.getfield 10, 3) := by decide +kernel
theorem dX8_make_36 : decode cX8_make 36 = .ok (.getfield 49, 3) := by decide +kernel
theorem dX8_make_39 : decode cX8_make 39 = .ok (.iload_n 1, 1) := by decide +kernel
theorem dX8_make_40 : decode cX8_make 40 = .ok (.aaload, 1) := by decide +kernel
theorem dX8_make_41 : decode cX8_make 41 = .ok (.astore 4, 2) := by decide +kernel
theorem dX8_make_43 : decode cX8_make 43 = .ok (.aload 4, 2) := by decide +kernel
theorem dX8_make_45 : decode cX8_make 45 = .ok (.getfield 53, 3) := by decide +kernel
theorem dX8_make_48 : decode cX8_make 48 = .ok (.istore 5, 2) := by decide +kernel
theorem dX8_make_50 : decode cX8_make 50 = .ok (.aload 4, 2) := by decide +kernel
theorem dX8_make_52 : decode cX8_make 52 = .ok (.iload_n 2, 1) := by decide +kernel
theorem dX8_make_53 : decode cX8_make 53 = .ok (.putfield 59, 3) := by decide +kernel
theorem dX8_make_56 : decode cX8_make 56 = .ok (.aload 4, 2) := by decide +kernel
theorem dX8_make_58 : decode cX8_make 58 = .ok (.iload_n 3, 1) := by decide +kernel
theorem dX8_make_59 : decode cX8_make 59 = .ok (.putfield 53, 3) := by decide +kernel
theorem dX8_make_62 : decode cX8_make 62 = .ok (.iload 5, 2) := by decide +kernel
theorem dX8_make_64 : decode cX8_make 64 = .ok (.ireturn, 1) := by decide +kernel
theorem dX8_battery_0 : decode cX8_battery 0 = .ok (.iload_n 1, 1) := by decide +kernel
theorem dX8_battery_1 : decode cX8_battery 1 = .ok (.iconst 4, 1) := by decide +kernel
theorem dX8_battery_2 : decode cX8_battery 2 = .ok (.invokestatic 37, 3) := by decide +kernel
theorem dX8_battery_5 : decode cX8_battery 5 = .ok (.iload_n 2, 1) := by decide +kernel
theorem dX8_battery_6 : decode cX8_battery 6 = .ok (.iconst 0, 1) := by decide +kernel
theorem dX8_battery_7 : decode cX8_battery 7 = .ok (.sipush 999, 3) := by decide +kernel
theorem dX8_battery_10 : decode cX8_battery 10 = .ok (.invokestatic 41, 3) := by decide +kernel
theorem dX8_battery_13 : decode cX8_battery 13 = .ok (.aload_n 0, 1) := by decide +kernel
theorem dX8_battery_14 : decode cX8_battery 14 = .ok (.getfield 19, 3) := by decide +kernel
theorem dX8_battery_17 : decode cX8_battery 17 = .ok (.aload_n 0, 1) := by decide +kernel
theorem dX8_battery_18 : decode cX8_battery 18 = .ok (.getfield 10, 3) := by decide +kernel
theorem dX8_battery_21 : decode cX8_battery 21 = .ok (.invokevirtual 45, 3) := by decide +kernel
theorem dX8_battery_24 : decode cX8_battery 24 = .ok (.aload_n 0, 1) := by decide +kernel
theorem dX8_battery_25 : decode cX8_battery 25 = .ok (.getfield 10, 3) := by decide +kernel
theorem dX8_battery_28 : decode cX8_battery 28 = .ok (.getfield 49, 3) := by decide +kernel
theorem dX8_battery_31 : decode cX8_battery 31 = .ok (.iload_n 1, 1) := by decide +kernel
theorem dX8_battery_32 : decode cX8_battery 32 = .ok (.aaload, 1) := by decide +kernel
theorem dX8_battery_33 : decode cX8_battery 33 = .ok (.astore_n 3, 1) := by decide +kernel
theorem dX8_battery_34 : decode cX8_battery 34 = .ok (.aload_n 3, 1) := by decide +kernel
theorem dX8_battery_35 : decode cX8_battery 35 = .ok (.getfield 62, 3) := by decide +kernel
theorem dX8_battery_38 : decode cX8_battery 38 = .ok (.istore 4, 2) := by decide +kernel
theorem dX8_battery_40 : decode cX8_battery 40 = .ok (.aload_n 3, 1) := by decide +kernel
theorem dX8_battery_41 : decode cX8_battery 41 = .ok (.iload_n 2, 1) := by decide +kernel
theorem dX8_battery_42 : decode cX8_battery 42 = .ok (.putfield 62, 3) := by decide +kernel
theorem dX8_battery_45 : decode cX8_battery 45 = .ok (.iload 4, 2) := by decide +kernel
theorem dX8_battery_47 : decode cX8_battery 47 = .ok (.ireturn, 1) := by decide +kernel
theorem dX8_press_0 : decode cX8_press 0 = .ok (.iload_n 1, 1) := by decide +kernel
theorem dX8_press_1 : decode cX8_press 1 = .ok (.iconst 4, 1) := by decide +kernel
theorem dX8_press_2 : decode cX8_press 2 = .ok (.invokestatic 37, 3) := by decide +kernel
theorem dX8_press_5 : decode cX8_press 5 = .ok (.iload_n 2, 1) := by decide +kernel
theorem dX8_press_6 : decode cX8_press 6 = .ok (.iconst 0, 1) := by decide +kernel
theorem dX8_press_7 : decode cX8_press 7 = .ok (.bipush 7, 2) := by decide +kernel
theorem dX8_press_9 : decode cX8_press 9 = .ok (.invokestatic 41, 3) := by decide +kernel
theorem dX8_press_12 : decode cX8_press 12 = .ok (.aload_n 0, 1) := by decide +kernel
theorem dX8_press_13 : decode cX8_press 13 = .ok (.getfield 10, 3) := by decide +kernel
theorem dX8_press_16 : decode cX8_press 16 = .ok (.iload_n 1, 1) := by decide +kernel
theorem dX8_press_17 : decode cX8_press 17 = .ok (.invokevirtual 65, 3) := by decide +kernel
theorem dX8_press_20 : decode cX8_press 20 = .ok (.invokestatic 69, 3) := by decide +kernel
theorem dX8_press_23 : decode cX8_press 23 = .ok (.aload_n 0, 1) := by decide +kernel
theorem dX8_press_24 : decode cX8_press 24 = .ok (.getfield 19, 3) := by decide +kernel
theorem dX8_press_27 : decode cX8_press 27 = .ok (.aload_n 0, 1) := by decide +kernel
theorem dX8_press_28 : decode cX8_press 28 = .ok (.getfield 10, 3) := by decide +kernel
theorem dX8_press_31 : decode cX8_press 31 = .ok (.invokevirtual 45, 3) := by decide +kernel
theorem dX8_press_34 : decode cX8_press 34 = .ok (.aload_n 0, 1) := by decide +kernel
theorem dX8_press_35 : decode cX8_press 35 = .ok (.getfield 10, 3) := by decide +kernel
theorem dX8_press_38 : decode cX8_press 38 = .ok (.iload_n 1, 1) := by decide +kernel
theorem dX8_press_39 : decode cX8_press 39 = .ok (.iload_n 2, 1) := by decide +kernel
theorem dX8_press_40 : decode cX8_press 40 = .ok (.invokevirtual 73, 3) := by decide +kernel
theorem dX8_press_43 : decode cX8_press 43 = .ok (.ireturn, 1) := by decide +kernel
theorem dX8_again_0 : decode cX8_again 0 = .ok (.iload_n 1, 1) := by decide +kernel
theorem dX8_again_1 : decode cX8_again 1 = .ok (.aload_n 0, 1) := by decide +kernel
theorem dX8_again_2 : decode cX8_again 2 = .ok (.getfield 10, 3) := by decide +kernel
theorem dX8_again_5 : decode cX8_again 5 = .ok (.getfield 77, 3) := by decide +kernel
theorem dX8_again_8 : decode cX8_again 8 = .ok (.getfield 81, 3) := by decide +kernel
theorem dX8_again_11 : decode cX8_again 11 = .ok (.invokestatic 37, 3) := by decide +kernel
theorem dX8_again_14 : decode cX8_again 14 = .ok (.iload_n 2, 1) := by decide +kernel
theorem dX8_again_15 : decode cX8_again 15 = .ok (.iconst 0, 1) := by decide +kernel
theorem dX8_again_16 : decode cX8_again 16 = .ok (.bipush 7, 2) := by decide +kernel
theorem dX8_again_18 : decode cX8_again 18 = .ok (.invokestatic 41, 3) := by decide +kernel
theorem dX8_again_21 : decode cX8_again 21 = .ok (.aload_n 0, 1) := by decide +kernel
theorem dX8_again_22 : decode cX8_again 22 = .ok (.getfield 19, 3) := by decide +kernel
theorem dX8_again_25 : decode cX8_again 25 = .ok (.aload_n 0, 1) := by decide +kernel
theorem dX8_again_26 : decode cX8_again 26 = .ok (.getfield 10, 3) := by decide +kernel
theorem dX8_again_29 : decode cX8_again 29 = .ok (.invokevirtual 45, 3) := by decide +kernel
theorem dX8_again_32 : decode cX8_again 32 = .ok (.aload_n 0, 1) := by decide +kernel
theorem dX8_again_33 : decode cX8_again 33 = .ok (.getfield 10, 3) := by decide +kernel
theorem dX8_again_36 : decode cX8_again 36 = .ok (.iload_n 1, 1) := by decide +kernel
theorem dX8_again_37 : decode cX8_again 37 = .ok (.iload_n 2, 1) := by decide +kernel
theorem dX8_again_38 : decode cX8_again 38 = .ok (.invokevirtual 86, 3) := by decide +kernel
theorem dX8_again_41 : decode cX8_again 41 = .ok (.ireturn, 1) := by decide +kernel
theorem dX8_learn_0 : decode cX8_learn 0 = .ok (.iload_n 1, 1) := by decide +kernel
theorem dX8_learn_1 : decode cX8_learn 1 = .ok (.iconst 3, 1) := by decide +kernel
theorem dX8_learn_2 : decode cX8_learn 2 = .ok (.invokestatic 37, 3) := by decide +kernel
theorem dX8_learn_5 : decode cX8_learn 5 = .ok (.iload_n 2, 1) := by decide +kernel
theorem dX8_learn_6 : decode cX8_learn 6 = .ok (.iconst 4, 1) := by decide +kernel
theorem dX8_learn_7 : decode cX8_learn 7 = .ok (.invokestatic 37, 3) := by decide +kernel
theorem dX8_learn_10 : decode cX8_learn 10 = .ok (.iload_n 3, 1) := by decide +kernel
theorem dX8_learn_11 : decode cX8_learn 11 = .ok (.iconst 4, 1) := by decide +kernel
theorem dX8_learn_12 : decode cX8_learn 12 = .ok (.invokestatic 37, 3) := by decide +kernel
theorem dX8_learn_15 : decode cX8_learn 15 = .ok (.aload_n 0, 1) := by decide +kernel
theorem dX8_learn_16 : decode cX8_learn 16 = .ok (.getfield 19, 3) := by decide +kernel
theorem dX8_learn_19 : decode cX8_learn 19 = .ok (.aload_n 0, 1) := by decide +kernel
theorem dX8_learn_20 : decode cX8_learn 20 = .ok (.getfield 10, 3) := by decide +kernel
theorem dX8_learn_23 : decode cX8_learn 23 = .ok (.invokevirtual 45, 3) := by decide +kernel
theorem dX8_learn_26 : decode cX8_learn 26 = .ok (.aload_n 0, 1) := by decide +kernel
theorem dX8_learn_27 : decode cX8_learn 27 = .ok (.getfield 10, 3) := by decide +kernel
theorem dX8_learn_30 : decode cX8_learn 30 = .ok (.getfield 89, 3) := by decide +kernel
theorem dX8_learn_33 : decode cX8_learn 33 = .ok (.iload_n 1, 1) := by decide +kernel
theorem dX8_learn_34 : decode cX8_learn 34 = .ok (.aaload, 1) := by decide +kernel
theorem dX8_learn_35 : decode cX8_learn 35 = .ok (.astore 4, 2) := by decide +kernel
theorem dX8_learn_37 : decode cX8_learn 37 = .ok (.aload 4, 2) := by decide +kernel
theorem dX8_learn_39 : decode cX8_learn 39 = .ok (.getfield 93, 3) := by decide +kernel
theorem dX8_learn_42 : decode cX8_learn 42 = .ok (.iload_n 2, 1) := by decide +kernel
theorem dX8_learn_43 : decode cX8_learn 43 = .ok (.aaload, 1) := by decide +kernel
theorem dX8_learn_44 : decode cX8_learn 44 = .ok (.aload_n 0, 1) := by decide +kernel
theorem dX8_learn_45 : decode cX8_learn 45 = .ok (.getfield 10, 3) := by decide +kernel
theorem dX8_learn_48 : decode cX8_learn 48 = .ok (.getfield 49, 3) := by decide +kernel
theorem dX8_learn_51 : decode cX8_learn 51 = .ok (.iload_n 3, 1) := by decide +kernel
theorem dX8_learn_52 : decode cX8_learn 52 = .ok (.aaload, 1) := by decide +kernel
theorem dX8_learn_53 : decode cX8_learn 53 = .ok (.invokevirtual 97, 3) := by decide +kernel
theorem dX8_learn_56 : decode cX8_learn 56 = .ok (.aload 4, 2) := by decide +kernel
theorem dX8_learn_58 : decode cX8_learn 58 = .ok (.invokevirtual 103, 3) := by decide +kernel
theorem dX8_learn_61 : decode cX8_learn 61 = .ok (.ireturn, 1) := by decide +kernel
theorem dX8_forget_0 : decode cX8_forget 0 = .ok (.iload_n 1, 1) := by decide +kernel
theorem dX8_forget_1 : decode cX8_forget 1 = .ok (.iconst 3, 1) := by decide +kernel
theorem dX8_forget_2 : decode cX8_forget 2 = .ok (.invokestatic 37, 3) := by decide +kernel
theorem dX8_forget_5 : decode cX8_forget 5 = .ok (.iload_n 2, 1) := by decide +kernel
theorem dX8_forget_6 : decode cX8_forget 6 = .ok (.iconst 4, 1) := by decide +kernel
theorem dX8_forget_7 : decode cX8_forget 7 = .ok (.invokestatic 37, 3) := by decide +kernel
theorem dX8_forget_10 : decode cX8_forget 10 = .ok (.aload_n 0, 1) := by decide +kernel
theorem dX8_forget_11 : decode cX8_forget 11 = .ok (.getfield 19, 3) := by decide +kernel
theorem dX8_forget_14 : decode cX8_forget 14 = .ok (.aload_n 0, 1) := by decide +kernel
theorem dX8_forget_15 : decode cX8_forget 15 = .ok (.getfield 10, 3) := by decide +kernel
theorem dX8_forget_18 : decode cX8_forget 18 = .ok (.invokevirtual 45, 3) := by decide +kernel
theorem dX8_forget_21 : decode cX8_forget 21 = .ok (.aload_n 0, 1) := by decide +kernel
theorem dX8_forget_22 : decode cX8_forget 22 = .ok (.getfield 10, 3) := by decide +kernel
theorem dX8_forget_25 : decode cX8_forget 25 = .ok (.getfield 89, 3) := by decide +kernel
theorem dX8_forget_28 : decode cX8_forget 28 = .ok (.iload_n 1, 1) := by decide +kernel
theorem dX8_forget_29 : decode cX8_forget 29 = .ok (.aaload, 1) := by decide +kernel
theorem dX8_forget_30 : decode cX8_forget 30 = .ok (.getfield 93, 3) := by decide +kernel
theorem dX8_forget_33 : decode cX8_forget 33 = .ok (.iload_n 2, 1) := by decide +kernel
theorem dX8_forget_34 : decode cX8_forget 34 = .ok (.aaload, 1) := by decide +kernel
theorem dX8_forget_35 : decode cX8_forget 35 = .ok (.astore_n 3, 1) := by decide +kernel
theorem dX8_forget_36 : decode cX8_forget 36 = .ok (.aload_n 3, 1) := by decide +kernel
theorem dX8_forget_37 : decode cX8_forget 37 = .ok (.getfield 107, 3) := by decide +kernel
theorem dX8_forget_40 : decode cX8_forget 40 = .ok (.ifCond .eq 7, 3) := by decide +kernel
theorem dX8_forget_43 : decode cX8_forget 43 = .ok (.iconst 1, 1) := by decide +kernel
theorem dX8_forget_44 : decode cX8_forget 44 = .ok (.goto 4, 3) := by decide +kernel
theorem dX8_forget_47 : decode cX8_forget 47 = .ok (.iconst 0, 1) := by decide +kernel
theorem dX8_forget_48 : decode cX8_forget 48 = .ok (.istore 4, 2) := by decide +kernel
theorem dX8_forget_50 : decode cX8_forget 50 = .ok (.aload_n 3, 1) := by decide +kernel
theorem dX8_forget_51 : decode cX8_forget 51 = .ok (.invokevirtual 111, 3) := by decide +kernel
theorem dX8_forget_54 : decode cX8_forget 54 = .ok (.iload 4, 2) := by decide +kernel
theorem dX8_forget_56 : decode cX8_forget 56 = .ok (.ireturn, 1) := by decide +kernel
theorem dX8_shut_0 : decode cX8_shut 0 = .ok (.iload_n 1, 1) := by decide +kernel
theorem dX8_shut_1 : decode cX8_shut 1 = .ok (.iconst 3, 1) := by decide +kernel
theorem dX8_shut_2 : decode cX8_shut 2 = .ok (.invokestatic 37, 3) := by decide +kernel
theorem dX8_shut_5 : decode cX8_shut 5 = .ok (.aload_n 0, 1) := by decide +kernel
theorem dX8_shut_6 : decode cX8_shut 6 = .ok (.getfield 19, 3) := by decide +kernel
theorem dX8_shut_9 : decode cX8_shut 9 = .ok (.aload_n 0, 1) := by decide +kernel
theorem dX8_shut_10 : decode cX8_shut 10 = .ok (.getfield 10, 3) := by decide +kernel
theorem dX8_shut_13 : decode cX8_shut 13 = .ok (.invokevirtual 45, 3) := by decide +kernel
theorem dX8_shut_16 : decode cX8_shut 16 = .ok (.aload_n 0, 1) := by decide +kernel
theorem dX8_shut_17 : decode cX8_shut 17 = .ok (.getfield 10, 3) := by decide +kernel
theorem dX8_shut_20 : decode cX8_shut 20 = .ok (.getfield 89, 3) := by decide +kernel
theorem dX8_shut_23 : decode cX8_shut 23 = .ok (.iload_n 1, 1) := by decide +kernel
theorem dX8_shut_24 : decode cX8_shut 24 = .ok (.aaload, 1) := by decide +kernel
theorem dX8_shut_25 : decode cX8_shut 25 = .ok (.astore_n 2, 1) := by decide +kernel
theorem dX8_shut_26 : decode cX8_shut 26 = .ok (.aload_n 2, 1) := by decide +kernel
theorem dX8_shut_27 : decode cX8_shut 27 = .ok (.getfield 114, 3) := by decide +kernel
theorem dX8_shut_30 : decode cX8_shut 30 = .ok (.ifCond .eq 7, 3) := by decide +kernel
theorem dX8_shut_33 : decode cX8_shut 33 = .ok (.iconst 1, 1) := by decide +kernel
theorem dX8_shut_34 : decode cX8_shut 34 = .ok (.goto 4, 3) := by decide +kernel
theorem dX8_shut_37 : decode cX8_shut 37 = .ok (.iconst 0, 1) := by decide +kernel
theorem dX8_shut_38 : decode cX8_shut 38 = .ok (.istore_n 3, 1) := by decide +kernel
theorem dX8_shut_39 : decode cX8_shut 39 = .ok (.aload_n 2, 1) := by decide +kernel
theorem dX8_shut_40 : decode cX8_shut 40 = .ok (.iconst 0, 1) := by decide +kernel
theorem dX8_shut_41 : decode cX8_shut 41 = .ok (.putfield 114, 3) := by decide +kernel
theorem dX8_shut_44 : decode cX8_shut 44 = .ok (.iload_n 3, 1) := by decide +kernel
theorem dX8_shut_45 : decode cX8_shut 45 = .ok (.ireturn, 1) := by decide +kernel
theorem dX8_unlock_0 : decode cX8_unlock 0 = .ok (.iload_n 1, 1) := by decide +kernel
theorem dX8_unlock_1 : decode cX8_unlock 1 = .ok (.iconst 3, 1) := by decide +kernel
theorem dX8_unlock_2 : decode cX8_unlock 2 = .ok (.invokestatic 37, 3) := by decide +kernel
theorem dX8_unlock_5 : decode cX8_unlock 5 = .ok (.aload_n 0, 1) := by decide +kernel
theorem dX8_unlock_6 : decode cX8_unlock 6 = .ok (.getfield 19, 3) := by decide +kernel
theorem dX8_unlock_9 : decode cX8_unlock 9 = .ok (.aload_n 0, 1) := by decide +kernel
theorem dX8_unlock_10 : decode cX8_unlock 10 = .ok (.getfield 10, 3) := by decide +kernel
theorem dX8_unlock_13 : decode cX8_unlock 13 = .ok (.invokevirtual 45, 3) := by decide +kernel
theorem dX8_unlock_16 : decode cX8_unlock 16 = .ok (.aload_n 0, 1) := by decide +kernel
theorem dX8_unlock_17 : decode cX8_unlock 17 = .ok (.getfield 10, 3) := by decide +kernel
theorem dX8_unlock_20 : decode cX8_unlock 20 = .ok (.getfield 89, 3) := by decide +kernel
theorem dX8_unlock_23 : decode cX8_unlock 23 = .ok (.iload_n 1, 1) := by decide +kernel
theorem dX8_unlock_24 : decode cX8_unlock 24 = .ok (.aaload, 1) := by decide +kernel
theorem dX8_unlock_25 : decode cX8_unlock 25 = .ok (.astore_n 2, 1) := by decide +kernel
theorem dX8_unlock_26 : decode cX8_unlock 26 = .ok (.aload_n 2, 1) := by decide +kernel
theorem dX8_unlock_27 : decode cX8_unlock 27 = .ok (.getfield 117, 3) := by decide +kernel
theorem dX8_unlock_30 : decode cX8_unlock 30 = .ok (.istore_n 3, 1) := by decide +kernel
theorem dX8_unlock_31 : decode cX8_unlock 31 = .ok (.aload_n 2, 1) := by decide +kernel
theorem dX8_unlock_32 : decode cX8_unlock 32 = .ok (.iconst 0, 1) := by decide +kernel
theorem dX8_unlock_33 : decode cX8_unlock 33 = .ok (.putfield 117, 3) := by decide +kernel
theorem dX8_unlock_36 : decode cX8_unlock 36 = .ok (.iload_n 3, 1) := by decide +kernel
theorem dX8_unlock_37 : decode cX8_unlock 37 = .ok (.ireturn, 1) := by decide +kernel
theorem dX8_set_0 : decode cX8_set 0 = .ok (.iload_n 1, 1) := by decide +kernel
theorem dX8_set_1 : decode cX8_set 1 = .ok (.iconst 3, 1) := by decide +kernel
theorem dX8_set_2 : decode cX8_set 2 = .ok (.invokestatic 37, 3) := by decide +kernel
theorem dX8_set_5 : decode cX8_set 5 = .ok (.iload_n 2, 1) := by decide +kernel
theorem dX8_set_6 : decode cX8_set 6 = .ok (.iload_n 1, 1) := by decide +kernel
theorem dX8_set_7 : decode cX8_set 7 = .ok (.invokestatic 120, 3) := by decide +kernel
theorem dX8_set_10 : decode cX8_set 10 = .ok (.iload_n 1, 1) := by decide +kernel
theorem dX8_set_11 : decode cX8_set 11 = .ok (.invokestatic 126, 3) := by decide +kernel
theorem dX8_set_14 : decode cX8_set 14 = .ok (.invokestatic 41, 3) := by decide +kernel
theorem dX8_set_17 : decode cX8_set 17 = .ok (.aload_n 0, 1) := by decide +kernel
theorem dX8_set_18 : decode cX8_set 18 = .ok (.getfield 19, 3) := by decide +kernel
theorem dX8_set_21 : decode cX8_set 21 = .ok (.aload_n 0, 1) := by decide +kernel
theorem dX8_set_22 : decode cX8_set 22 = .ok (.getfield 10, 3) := by decide +kernel
theorem dX8_set_25 : decode cX8_set 25 = .ok (.invokevirtual 45, 3) := by decide +kernel
theorem dX8_set_28 : decode cX8_set 28 = .ok (.aload_n 0, 1) := by decide +kernel
theorem dX8_set_29 : decode cX8_set 29 = .ok (.getfield 10, 3) := by decide +kernel
theorem dX8_set_32 : decode cX8_set 32 = .ok (.getfield 129, 3) := by decide +kernel
theorem dX8_set_35 : decode cX8_set 35 = .ok (.iload_n 1, 1) := by decide +kernel
theorem dX8_set_36 : decode cX8_set 36 = .ok (.invokevirtual 133, 3) := by decide +kernel
theorem dX8_set_39 : decode cX8_set 39 = .ok (.istore_n 3, 1) := by decide +kernel
theorem dX8_set_40 : decode cX8_set 40 = .ok (.aload_n 0, 1) := by decide +kernel
theorem dX8_set_41 : decode cX8_set 41 = .ok (.getfield 10, 3) := by decide +kernel
theorem dX8_set_44 : decode cX8_set 44 = .ok (.getfield 129, 3) := by decide +kernel
theorem dX8_set_47 : decode cX8_set 47 = .ok (.iload_n 1, 1) := by decide +kernel
theorem dX8_set_48 : decode cX8_set 48 = .ok (.iload_n 2, 1) := by decide +kernel
theorem dX8_set_49 : decode cX8_set 49 = .ok (.invokevirtual 136, 3) := by decide +kernel
theorem dX8_set_52 : decode cX8_set 52 = .ok (.iload_n 3, 1) := by decide +kernel
theorem dX8_set_53 : decode cX8_set 53 = .ok (.ireturn, 1) := by decide +kernel
theorem dX8_undo_0 : decode cX8_undo 0 = .ok (.aload_n 0, 1) := by decide +kernel
theorem dX8_undo_1 : decode cX8_undo 1 = .ok (.getfield 19, 3) := by decide +kernel
theorem dX8_undo_4 : decode cX8_undo 4 = .ok (.getfield 161, 3) := by decide +kernel
theorem dX8_undo_7 : decode cX8_undo 7 = .ok (.ifCond .le 7, 3) := by decide +kernel
theorem dX8_undo_10 : decode cX8_undo 10 = .ok (.iconst 1, 1) := by decide +kernel
theorem dX8_undo_11 : decode cX8_undo 11 = .ok (.goto 4, 3) := by decide +kernel
theorem dX8_undo_14 : decode cX8_undo 14 = .ok (.iconst 0, 1) := by decide +kernel
theorem dX8_undo_15 : decode cX8_undo 15 = .ok (.invokestatic 69, 3) := by decide +kernel
theorem dX8_undo_18 : decode cX8_undo 18 = .ok (.aload_n 0, 1) := by decide +kernel
theorem dX8_undo_19 : decode cX8_undo 19 = .ok (.getfield 19, 3) := by decide +kernel
theorem dX8_undo_22 : decode cX8_undo 22 = .ok (.aload_n 0, 1) := by decide +kernel
theorem dX8_undo_23 : decode cX8_undo 23 = .ok (.getfield 10, 3) := by decide +kernel
theorem dX8_undo_26 : decode cX8_undo 26 = .ok (.invokevirtual 162, 3) := by decide +kernel
theorem dX8_undo_29 : decode cX8_undo 29 = .ok (.aload_n 0, 1) := by decide +kernel
theorem dX8_undo_30 : decode cX8_undo 30 = .ok (.getfield 19, 3) := by decide +kernel
theorem dX8_undo_33 : decode cX8_undo 33 = .ok (.getfield 161, 3) := by decide +kernel
theorem dX8_undo_36 : decode cX8_undo 36 = .ok (.ireturn, 1) := by decide +kernel
theorem dX8_fob_0 : decode cX8_fob 0 = .ok (.iload_n 1, 1) := by decide +kernel
theorem dX8_fob_1 : decode cX8_fob 1 = .ok (.iconst 4, 1) := by decide +kernel
theorem dX8_fob_2 : decode cX8_fob 2 = .ok (.invokestatic 37, 3) := by decide +kernel
theorem dX8_fob_5 : decode cX8_fob 5 = .ok (.iload_n 2, 1) := by decide +kernel
theorem dX8_fob_6 : decode cX8_fob 6 = .ok (.iconst 0, 1) := by decide +kernel
theorem dX8_fob_7 : decode cX8_fob 7 = .ok (.iconst 4, 1) := by decide +kernel
theorem dX8_fob_8 : decode cX8_fob 8 = .ok (.invokestatic 41, 3) := by decide +kernel
theorem dX8_fob_11 : decode cX8_fob 11 = .ok (.aload_n 0, 1) := by decide +kernel
theorem dX8_fob_12 : decode cX8_fob 12 = .ok (.getfield 10, 3) := by decide +kernel
theorem dX8_fob_15 : decode cX8_fob 15 = .ok (.getfield 49, 3) := by decide +kernel
theorem dX8_fob_18 : decode cX8_fob 18 = .ok (.iload_n 1, 1) := by decide +kernel
theorem dX8_fob_19 : decode cX8_fob 19 = .ok (.aaload, 1) := by decide +kernel
theorem dX8_fob_20 : decode cX8_fob 20 = .ok (.iload_n 2, 1) := by decide +kernel
theorem dX8_fob_21 : decode cX8_fob 21 = .ok (.invokevirtual 165, 3) := by decide +kernel
theorem dX8_fob_24 : decode cX8_fob 24 = .ok (.ireturn, 1) := by decide +kernel
theorem dX8_slot_0 : decode cX8_slot 0 = .ok (.iload_n 1, 1) := by decide +kernel
theorem dX8_slot_1 : decode cX8_slot 1 = .ok (.iconst 3, 1) := by decide +kernel
theorem dX8_slot_2 : decode cX8_slot 2 = .ok (.invokestatic 37, 3) := by decide +kernel
theorem dX8_slot_5 : decode cX8_slot 5 = .ok (.iload_n 2, 1) := by decide +kernel
theorem dX8_slot_6 : decode cX8_slot 6 = .ok (.iconst 4, 1) := by decide +kernel
theorem dX8_slot_7 : decode cX8_slot 7 = .ok (.invokestatic 37, 3) := by decide +kernel
theorem dX8_slot_10 : decode cX8_slot 10 = .ok (.iload_n 3, 1) := by decide +kernel
theorem dX8_slot_11 : decode cX8_slot 11 = .ok (.iconst 0, 1) := by decide +kernel
theorem dX8_slot_12 : decode cX8_slot 12 = .ok (.iconst 3, 1) := by decide +kernel
theorem dX8_slot_13 : decode cX8_slot 13 = .ok (.invokestatic 41, 3) := by decide +kernel
theorem dX8_slot_16 : decode cX8_slot 16 = .ok (.aload_n 0, 1) := by decide +kernel
theorem dX8_slot_17 : decode cX8_slot 17 = .ok (.getfield 10, 3) := by decide +kernel
theorem dX8_slot_20 : decode cX8_slot 20 = .ok (.getfield 89, 3) := by decide +kernel
theorem dX8_slot_23 : decode cX8_slot 23 = .ok (.iload_n 1, 1) := by decide +kernel
theorem dX8_slot_24 : decode cX8_slot 24 = .ok (.aaload, 1) := by decide +kernel
theorem dX8_slot_25 : decode cX8_slot 25 = .ok (.getfield 93, 3) := by decide +kernel
theorem dX8_slot_28 : decode cX8_slot 28 = .ok (.iload_n 2, 1) := by decide +kernel
theorem dX8_slot_29 : decode cX8_slot 29 = .ok (.aaload, 1) := by decide +kernel
theorem dX8_slot_30 : decode cX8_slot 30 = .ok (.iload_n 3, 1) := by decide +kernel
theorem dX8_slot_31 : decode cX8_slot 31 = .ok (.invokevirtual 168, 3) := by decide +kernel
theorem dX8_slot_34 : decode cX8_slot 34 = .ok (.ireturn, 1) := by decide +kernel
theorem dX8_door_0 : decode cX8_door 0 = .ok (.iload_n 1, 1) := by decide +kernel
theorem dX8_door_1 : decode cX8_door 1 = .ok (.iconst 3, 1) := by decide +kernel
theorem dX8_door_2 : decode cX8_door 2 = .ok (.invokestatic 37, 3) := by decide +kernel
theorem dX8_door_5 : decode cX8_door 5 = .ok (.iload_n 2, 1) := by decide +kernel
theorem dX8_door_6 : decode cX8_door 6 = .ok (.iconst 0, 1) := by decide +kernel
theorem dX8_door_7 : decode cX8_door 7 = .ok (.bipush 7, 2) := by decide +kernel
theorem dX8_door_9 : decode cX8_door 9 = .ok (.invokestatic 41, 3) := by decide +kernel
theorem dX8_door_12 : decode cX8_door 12 = .ok (.aload_n 0, 1) := by decide +kernel
theorem dX8_door_13 : decode cX8_door 13 = .ok (.getfield 10, 3) := by decide +kernel
theorem dX8_door_16 : decode cX8_door 16 = .ok (.getfield 89, 3) := by decide +kernel
theorem dX8_door_19 : decode cX8_door 19 = .ok (.iload_n 1, 1) := by decide +kernel
theorem dX8_door_20 : decode cX8_door 20 = .ok (.aaload, 1) := by decide +kernel
theorem dX8_door_21 : decode cX8_door 21 = .ok (.iload_n 2, 1) := by decide +kernel
theorem dX8_door_22 : decode cX8_door 22 = .ok (.aload_n 0, 1) := by decide +kernel
theorem dX8_door_23 : decode cX8_door 23 = .ok (.getfield 10, 3) := by decide +kernel
theorem dX8_door_26 : decode cX8_door 26 = .ok (.getfield 129, 3) := by decide +kernel
theorem dX8_door_29 : decode cX8_door 29 = .ok (.invokevirtual 169, 3) := by decide +kernel
theorem dX8_door_32 : decode cX8_door 32 = .ok (.ireturn, 1) := by decide +kernel
theorem dX8_air_0 : decode cX8_air 0 = .ok (.iload_n 1, 1) := by decide +kernel
theorem dX8_air_1 : decode cX8_air 1 = .ok (.ifCond .lt 7, 3) := by decide +kernel
theorem dX8_air_4 : decode cX8_air 4 = .ok (.iconst 1, 1) := by decide +kernel
theorem dX8_air_5 : decode cX8_air 5 = .ok (.goto 4, 3) := by decide +kernel
theorem dX8_air_8 : decode cX8_air 8 = .ok (.iconst 0, 1) := by decide +kernel
theorem dX8_air_9 : decode cX8_air 9 = .ok (.invokestatic 151, 3) := by decide +kernel
theorem dX8_air_12 : decode cX8_air 12 = .ok (.aload_n 0, 1) := by decide +kernel
theorem dX8_air_13 : decode cX8_air 13 = .ok (.getfield 10, 3) := by decide +kernel
theorem dX8_air_16 : decode cX8_air 16 = .ok (.getfield 77, 3) := by decide +kernel
theorem dX8_air_19 : decode cX8_air 19 = .ok (.iload_n 1, 1) := by decide +kernel
theorem dX8_air_20 : decode cX8_air 20 = .ok (.invokevirtual 172, 3) := by decide +kernel
theorem dX8_air_23 : decode cX8_air 23 = .ok (.ireturn, 1) := by decide +kernel
theorem dX8_count_0 : decode cX8_count 0 = .ok (.iload_n 1, 1) := by decide +kernel
theorem dX8_count_1 : decode cX8_count 1 = .ok (.iconst 0, 1) := by decide +kernel
theorem dX8_count_2 : decode cX8_count 2 = .ok (.bipush 7, 2) := by decide +kernel
theorem dX8_count_4 : decode cX8_count 4 = .ok (.invokestatic 41, 3) := by decide +kernel
theorem dX8_count_7 : decode cX8_count 7 = .ok (.aload_n 0, 1) := by decide +kernel
theorem dX8_count_8 : decode cX8_count 8 = .ok (.iload_n 1, 1) := by decide +kernel
theorem dX8_count_9 : decode cX8_count 9 = .ok (.invokevirtual 175, 3) := by decide +kernel
theorem dX8_count_12 : decode cX8_count 12 = .ok (.ireturn, 1) := by decide +kernel
theorem dX8_setting_0 : decode cX8_setting 0 = .ok (.iload_n 1, 1) := by decide +kernel
theorem dX8_setting_1 : decode cX8_setting 1 = .ok (.iconst 3, 1) := by decide +kernel
theorem dX8_setting_2 : decode cX8_setting 2 = .ok (.invokestatic 37, 3) := by decide +kernel
theorem dX8_setting_5 : decode cX8_setting 5 = .ok (.aload_n 0, 1) := by decide +kernel
theorem dX8_setting_6 : decode cX8_setting 6 = .ok (.getfield 10, 3) := by decide +kernel
theorem dX8_setting_9 : decode cX8_setting 9 = .ok (.getfield 129, 3) := by decide +kernel
theorem dX8_setting_12 : decode cX8_setting 12 = .ok (.iload_n 1, 1) := by decide +kernel
theorem dX8_setting_13 : decode cX8_setting 13 = .ok (.invokevirtual 133, 3) := by decide +kernel
theorem dX8_setting_16 : decode cX8_setting 16 = .ok (.ireturn, 1) := by decide +kernel
theorem dX8_ifHeard_0 : decode cX8_ifHeard 0 = .ok (.iload_n 1, 1) := by decide +kernel
theorem dX8_ifHeard_1 : decode cX8_ifHeard 1 = .ok (.iconst 3, 1) := by decide +kernel
theorem dX8_ifHeard_2 : decode cX8_ifHeard 2 = .ok (.invokestatic 37, 3) := by decide +kernel
theorem dX8_ifHeard_5 : decode cX8_ifHeard 5 = .ok (.iload_n 2, 1) := by decide +kernel
theorem dX8_ifHeard_6 : decode cX8_ifHeard 6 = .ok (.iconst 0, 1) := by decide +kernel
theorem dX8_ifHeard_7 : decode cX8_ifHeard 7 = .ok (.ldc 178, 2) := by decide +kernel
theorem dX8_ifHeard_9 : decode cX8_ifHeard 9 = .ok (.invokestatic 41, 3) := by decide +kernel
theorem dX8_ifHeard_12 : decode cX8_ifHeard 12 = .ok (.aload_n 0, 1) := by decide +kernel
theorem dX8_ifHeard_13 : decode cX8_ifHeard 13 = .ok (.aload_n 0, 1) := by decide +kernel
theorem dX8_ifHeard_14 : decode cX8_ifHeard 14 = .ok (.getfield 10, 3) := by decide +kernel
theorem dX8_ifHeard_17 : decode cX8_ifHeard 17 = .ok (.getfield 89, 3) := by decide +kernel
theorem dX8_ifHeard_20 : decode cX8_ifHeard 20 = .ok (.iload_n 1, 1) := by decide +kernel
theorem dX8_ifHeard_21 : decode cX8_ifHeard 21 = .ok (.aaload, 1) := by decide +kernel
theorem dX8_ifHeard_22 : decode cX8_ifHeard 22 = .ok (.iload_n 2, 1) := by decide +kernel
theorem dX8_ifHeard_23 : decode cX8_ifHeard 23 = .ok (.invokevirtual 179, 3) := by decide +kernel
theorem dX8_ifHeard_26 : decode cX8_ifHeard 26 = .ok (.ireturn, 1) := by decide +kernel
theorem dX8_opensIn_0 : decode cX8_opensIn 0 = .ok (.iload_n 1, 1) := by decide +kernel
theorem dX8_opensIn_1 : decode cX8_opensIn 1 = .ok (.iconst 4, 1) := by decide +kernel
theorem dX8_opensIn_2 : decode cX8_opensIn 2 = .ok (.invokestatic 37, 3) := by decide +kernel
theorem dX8_opensIn_5 : decode cX8_opensIn 5 = .ok (.iload_n 2, 1) := by decide +kernel
theorem dX8_opensIn_6 : decode cX8_opensIn 6 = .ok (.iconst 3, 1) := by decide +kernel
theorem dX8_opensIn_7 : decode cX8_opensIn 7 = .ok (.invokestatic 37, 3) := by decide +kernel
theorem dX8_opensIn_10 : decode cX8_opensIn 10 = .ok (.aload_n 0, 1) := by decide +kernel
theorem dX8_opensIn_11 : decode cX8_opensIn 11 = .ok (.aload_n 0, 1) := by decide +kernel
theorem dX8_opensIn_12 : decode cX8_opensIn 12 = .ok (.getfield 10, 3) := by decide +kernel
theorem dX8_opensIn_15 : decode cX8_opensIn 15 = .ok (.getfield 49, 3) := by decide +kernel
theorem dX8_opensIn_18 : decode cX8_opensIn 18 = .ok (.iload_n 1, 1) := by decide +kernel
theorem dX8_opensIn_19 : decode cX8_opensIn 19 = .ok (.aaload, 1) := by decide +kernel
theorem dX8_opensIn_20 : decode cX8_opensIn 20 = .ok (.aload_n 0, 1) := by decide +kernel
theorem dX8_opensIn_21 : decode cX8_opensIn 21 = .ok (.getfield 10, 3) := by decide +kernel
theorem dX8_opensIn_24 : decode cX8_opensIn 24 = .ok (.getfield 89, 3) := by decide +kernel
theorem dX8_opensIn_27 : decode cX8_opensIn 27 = .ok (.iload_n 2, 1) := by decide +kernel
theorem dX8_opensIn_28 : decode cX8_opensIn 28 = .ok (.aaload, 1) := by decide +kernel
theorem dX8_opensIn_29 : decode cX8_opensIn 29 = .ok (.invokevirtual 183, 3) := by decide +kernel
theorem dX8_opensIn_32 : decode cX8_opensIn 32 = .ok (.ireturn, 1) := by decide +kernel
theorem dX8_unheard_0 : decode cX8_unheard 0 = .ok (.iload_n 1, 1) := by decide +kernel
theorem dX8_unheard_1 : decode cX8_unheard 1 = .ok (.iconst 4, 1) := by decide +kernel
theorem dX8_unheard_2 : decode cX8_unheard 2 = .ok (.invokestatic 37, 3) := by decide +kernel
theorem dX8_unheard_5 : decode cX8_unheard 5 = .ok (.iload_n 2, 1) := by decide +kernel
theorem dX8_unheard_6 : decode cX8_unheard 6 = .ok (.iconst 3, 1) := by decide +kernel
theorem dX8_unheard_7 : decode cX8_unheard 7 = .ok (.invokestatic 37, 3) := by decide +kernel
theorem dX8_unheard_10 : decode cX8_unheard 10 = .ok (.aload_n 0, 1) := by decide +kernel
theorem dX8_unheard_11 : decode cX8_unheard 11 = .ok (.aload_n 0, 1) := by decide +kernel
theorem dX8_unheard_12 : decode cX8_unheard 12 = .ok (.getfield 10, 3) := by decide +kernel
theorem dX8_unheard_15 : decode cX8_unheard 15 = .ok (.getfield 49, 3) := by decide +kernel
theorem dX8_unheard_18 : decode cX8_unheard 18 = .ok (.iload_n 1, 1) := by decide +kernel
theorem dX8_unheard_19 : decode cX8_unheard 19 = .ok (.aaload, 1) := by decide +kernel
theorem dX8_unheard_20 : decode cX8_unheard 20 = .ok (.aload_n 0, 1) := by decide +kernel
theorem dX8_unheard_21 : decode cX8_unheard 21 = .ok (.getfield 10, 3) := by decide +kernel
theorem dX8_unheard_24 : decode cX8_unheard 24 = .ok (.getfield 89, 3) := by decide +kernel
theorem dX8_unheard_27 : decode cX8_unheard 27 = .ok (.iload_n 2, 1) := by decide +kernel
theorem dX8_unheard_28 : decode cX8_unheard 28 = .ok (.aaload, 1) := by decide +kernel
theorem dX8_unheard_29 : decode cX8_unheard 29 = .ok (.invokevirtual 187, 3) := by decide +kernel
theorem dX8_unheard_32 : decode cX8_unheard 32 = .ok (.ireturn, 1) := by decide +kernel
theorem dX8_useful_0 : decode cX8_useful 0 = .ok (.iload_n 1, 1) := by decide +kernel
theorem dX8_useful_1 : decode cX8_useful 1 = .ok (.iconst 3, 1) := by decide +kernel
theorem dX8_useful_2 : decode cX8_useful 2 = .ok (.invokestatic 37, 3) := by decide +kernel
theorem dX8_useful_5 : decode cX8_useful 5 = .ok (.aload_n 0, 1) := by decide +kernel
theorem dX8_useful_6 : decode cX8_useful 6 = .ok (.aload_n 0, 1) := by decide +kernel
theorem dX8_useful_7 : decode cX8_useful 7 = .ok (.getfield 10, 3) := by decide +kernel
theorem dX8_useful_10 : decode cX8_useful 10 = .ok (.getfield 89, 3) := by decide +kernel
theorem dX8_useful_13 : decode cX8_useful 13 = .ok (.iload_n 1, 1) := by decide +kernel
theorem dX8_useful_14 : decode cX8_useful 14 = .ok (.aaload, 1) := by decide +kernel
theorem dX8_useful_15 : decode cX8_useful 15 = .ok (.invokevirtual 190, 3) := by decide +kernel
theorem dX8_useful_18 : decode cX8_useful 18 = .ok (.ireturn, 1) := by decide +kernel
theorem dX8_openShare_0 : decode cX8_openShare 0 = .ok (.aload_n 0, 1) := by decide +kernel
theorem dX8_openShare_1 : decode cX8_openShare 1 = .ok (.getfield 10, 3) := by decide +kernel
theorem dX8_openShare_4 : decode cX8_openShare 4 = .ok (.invokevirtual 194, 3) := by decide +kernel
theorem dX8_openShare_7 : decode cX8_openShare 7 = .ok (.istore_n 1, 1) := by decide +kernel
theorem dX8_openShare_8 : decode cX8_openShare 8 = .ok (.iload_n 1, 1) := by decide +kernel
theorem dX8_openShare_9 : decode cX8_openShare 9 = .ok (.aload_n 0, 1) := by decide +kernel
theorem dX8_openShare_10 : decode cX8_openShare 10 = .ok (.getfield 10, 3) := by decide +kernel
theorem dX8_openShare_13 : decode cX8_openShare 13 = .ok (.invokevirtual 197, 3) := by decide +kernel
theorem dX8_openShare_16 : decode cX8_openShare 16 = .ok (.iadd, 1) := by decide +kernel
theorem dX8_openShare_17 : decode cX8_openShare 17 = .ok (.istore_n 2, 1) := by decide +kernel
theorem dX8_openShare_18 : decode cX8_openShare 18 = .ok (.iload_n 2, 1) := by decide +kernel
theorem dX8_openShare_19 : decode cX8_openShare 19 = .ok (.ifCond .gt 5, 3) := by decide +kernel
theorem dX8_openShare_22 : decode cX8_openShare 22 = .ok (.dconst 1, 1) := by decide +kernel
theorem dX8_openShare_23 : decode cX8_openShare 23 = .ok (.dreturn, 1) := by decide +kernel
theorem dX8_openShare_24 : decode cX8_openShare 24 = .ok (.iload_n 1, 1) := by decide +kernel
theorem dX8_openShare_25 : decode cX8_openShare 25 = .ok (.i2d, 1) := by decide +kernel
theorem dX8_openShare_26 : decode cX8_openShare 26 = .ok (.iload_n 2, 1) := by decide +kernel
theorem dX8_openShare_27 : decode cX8_openShare 27 = .ok (.i2d, 1) := by decide +kernel
theorem dX8_openShare_28 : decode cX8_openShare 28 = .ok (.ddiv, 1) := by decide +kernel
theorem dX8_openShare_29 : decode cX8_openShare 29 = .ok (.dreturn, 1) := by decide +kernel
theorem dX8_needIndex_0 : decode cX8_needIndex 0 = .ok (.iload_n 0, 1) := by decide +kernel
theorem dX8_needIndex_1 : decode cX8_needIndex 1 = .ok (.ifCond .lt 8, 3) := by decide +kernel
theorem dX8_needIndex_4 : decode cX8_needIndex 4 = .ok (.iload_n 0, 1) := by decide +kernel
theorem dX8_needIndex_5 : decode cX8_needIndex 5 = .ok (.iload_n 1, 1) := by decide +kernel
theorem dX8_needIndex_6 : decode cX8_needIndex 6 = .ok (.if_icmp .lt 11, 3) := by decide +kernel
theorem dX8_needIndex_9 : decode cX8_needIndex 9 = .ok (.new 221, 3) := by decide +kernel
theorem dX8_needIndex_12 : decode cX8_needIndex 12 = .ok (.dup, 1) := by decide +kernel
theorem dX8_needIndex_13 : decode cX8_needIndex 13 = .ok (.invokespecial 223, 3) := by decide +kernel
theorem dX8_needIndex_16 : decode cX8_needIndex 16 = .ok (.athrow, 1) := by decide +kernel
theorem dX8_needIndex_17 : decode cX8_needIndex 17 = .ok (.return_, 1) := by decide +kernel
theorem dX8_needRange_0 : decode cX8_needRange 0 = .ok (.iload_n 0, 1) := by decide +kernel
theorem dX8_needRange_1 : decode cX8_needRange 1 = .ok (.iload_n 1, 1) := by decide +kernel
theorem dX8_needRange_2 : decode cX8_needRange 2 = .ok (.if_icmp .lt 12, 3) := by decide +kernel
theorem dX8_needRange_5 : decode cX8_needRange 5 = .ok (.iload_n 0, 1) := by decide +kernel
theorem dX8_needRange_6 : decode cX8_needRange 6 = .ok (.iload_n 2, 1) := by decide +kernel
theorem dX8_needRange_7 : decode cX8_needRange 7 = .ok (.if_icmp .gt 7, 3) := by decide +kernel
theorem dX8_needRange_10 : decode cX8_needRange 10 = .ok (.iconst 1, 1) := by decide +kernel
theorem dX8_needRange_11 : decode cX8_needRange 11 = .ok (.goto 4, 3) := by decide +kernel
theorem dX8_needRange_14 : decode cX8_needRange 14 = .ok (.iconst 0, 1) := by decide +kernel
theorem dX8_needRange_15 : decode cX8_needRange 15 = .ok (.invokestatic 151, 3) := by decide +kernel
theorem dX8_needRange_18 : decode cX8_needRange 18 = .ok (.return_, 1) := by decide +kernel
theorem dX8_needArgument_0 : decode cX8_needArgument 0 = .ok (.iload_n 0, 1) := by decide +kernel
theorem dX8_needArgument_1 : decode cX8_needArgument 1 = .ok (.ifCond .ne 11, 3) := by decide +kernel
theorem dX8_needArgument_4 : decode cX8_needArgument 4 = .ok (.new 224, 3) := by decide +kernel
theorem dX8_needArgument_7 : decode cX8_needArgument 7 = .ok (.dup, 1) := by decide +kernel
theorem dX8_needArgument_8 : decode cX8_needArgument 8 = .ok (.invokespecial 226, 3) := by decide +kernel
theorem dX8_needArgument_11 : decode cX8_needArgument 11 = .ok (.athrow, 1) := by decide +kernel
theorem dX8_needArgument_12 : decode cX8_needArgument 12 = .ok (.return_, 1) := by decide +kernel
theorem dX8_needState_0 : decode cX8_needState 0 = .ok (.iload_n 0, 1) := by decide +kernel
theorem dX8_needState_1 : decode cX8_needState 1 = .ok (.ifCond .ne 11, 3) := by decide +kernel
theorem dX8_needState_4 : decode cX8_needState 4 = .ok (.new 227, 3) := by decide +kernel
theorem dX8_needState_7 : decode cX8_needState 7 = .ok (.dup, 1) := by decide +kernel
theorem dX8_needState_8 : decode cX8_needState 8 = .ok (.invokespecial 229, 3) := by decide +kernel
theorem dX8_needState_11 : decode cX8_needState 11 = .ok (.athrow, 1) := by decide +kernel
theorem dX8_needState_12 : decode cX8_needState 12 = .ok (.return_, 1) := by decide +kernel
theorem dX8_numberOf_0 : decode cX8_numberOf 0 = .ok (.iload_n 1, 1) := by decide +kernel
theorem dX8_numberOf_1 : decode cX8_numberOf 1 = .ok (.ldc 230, 2) := by decide +kernel
theorem dX8_numberOf_3 : decode cX8_numberOf 3 = .ok (.imul, 1) := by decide +kernel
theorem dX8_numberOf_4 : decode cX8_numberOf 4 = .ok (.iload_n 0, 1) := by decide +kernel
theorem dX8_numberOf_5 : decode cX8_numberOf 5 = .ok (.sipush 7919, 3) := by decide +kernel
theorem dX8_numberOf_8 : decode cX8_numberOf 8 = .ok (.imul, 1) := by decide +kernel
theorem dX8_numberOf_9 : decode cX8_numberOf 9 = .ok (.iadd, 1) := by decide +kernel
theorem dX8_numberOf_10 : decode cX8_numberOf 10 = .ok (.iload_n 0, 1) := by decide +kernel
theorem dX8_numberOf_11 : decode cX8_numberOf 11 = .ok (.bipush 31, 2) := by decide +kernel
theorem dX8_numberOf_13 : decode cX8_numberOf 13 = .ok (.imul, 1) := by decide +kernel
theorem dX8_numberOf_14 : decode cX8_numberOf 14 = .ok (.iload_n 1, 1) := by decide +kernel
theorem dX8_numberOf_15 : decode cX8_numberOf 15 = .ok (.iadd, 1) := by decide +kernel
theorem dX8_numberOf_16 : decode cX8_numberOf 16 = .ok (.ixor, 1) := by decide +kernel
theorem dX8_numberOf_17 : decode cX8_numberOf 17 = .ok (.ldc 178, 2) := by decide +kernel
theorem dX8_numberOf_19 : decode cX8_numberOf 19 = .ok (.iand, 1) := by decide +kernel
theorem dX8_numberOf_20 : decode cX8_numberOf 20 = .ok (.ireturn, 1) := by decide +kernel
theorem dX8_counterBehind_0 : decode cX8_counterBehind 0 = .ok (.iload_n 0, 1) := by decide +kernel
theorem dX8_counterBehind_1 : decode cX8_counterBehind 1 = .ok (.sipush 9999, 3) := by decide +kernel
theorem dX8_counterBehind_4 : decode cX8_counterBehind 4 = .ok (.if_icmp .ge 9, 3) := by decide +kernel
theorem dX8_counterBehind_7 : decode cX8_counterBehind 7 = .ok (.iload_n 0, 1) := by decide +kernel
theorem dX8_counterBehind_8 : decode cX8_counterBehind 8 = .ok (.iconst 1, 1) := by decide +kernel
theorem dX8_counterBehind_9 : decode cX8_counterBehind 9 = .ok (.iadd, 1) := by decide +kernel
theorem dX8_counterBehind_10 : decode cX8_counterBehind 10 = .ok (.goto 4, 3) := by decide +kernel
theorem dX8_counterBehind_13 : decode cX8_counterBehind 13 = .ok (.iconst 0, 1) := by decide +kernel
theorem dX8_counterBehind_14 : decode cX8_counterBehind 14 = .ok (.ireturn, 1) := by decide +kernel
theorem dX8_counted_0 : decode cX8_counted 0 = .ok (.iload_n 1, 1) := by decide +kernel
theorem dX8_counted_1 : decode cX8_counted 1 = .ok (.tableswitch 114 0 7 #[47, 55, 63, 71, 79, 87, 95, 106], 47) := by decide +kernel
theorem dX8_counted_48 : decode cX8_counted 48 = .ok (.aload_n 0, 1) := by decide +kernel
theorem dX8_counted_49 : decode cX8_counted 49 = .ok (.getfield 10, 3) := by decide +kernel
theorem dX8_counted_52 : decode cX8_counted 52 = .ok (.invokevirtual 243, 3) := by decide +kernel
theorem dX8_counted_55 : decode cX8_counted 55 = .ok (.ireturn, 1) := by decide +kernel
theorem dX8_counted_56 : decode cX8_counted 56 = .ok (.aload_n 0, 1) := by decide +kernel
theorem dX8_counted_57 : decode cX8_counted 57 = .ok (.getfield 10, 3) := by decide +kernel
theorem dX8_counted_60 : decode cX8_counted 60 = .ok (.getfield 246, 3) := by decide +kernel
theorem dX8_counted_63 : decode cX8_counted 63 = .ok (.ireturn, 1) := by decide +kernel
theorem dX8_counted_64 : decode cX8_counted 64 = .ok (.aload_n 0, 1) := by decide +kernel
theorem dX8_counted_65 : decode cX8_counted 65 = .ok (.getfield 10, 3) := by decide +kernel
theorem dX8_counted_68 : decode cX8_counted 68 = .ok (.invokevirtual 194, 3) := by decide +kernel
theorem dX8_counted_71 : decode cX8_counted 71 = .ok (.ireturn, 1) := by decide +kernel
theorem dX8_counted_72 : decode cX8_counted 72 = .ok (.aload_n 0, 1) := by decide +kernel
theorem dX8_counted_73 : decode cX8_counted 73 = .ok (.getfield 10, 3) := by decide +kernel
theorem dX8_counted_76 : decode cX8_counted 76 = .ok (.getfield 249, 3) := by decide +kernel
theorem dX8_counted_79 : decode cX8_counted 79 = .ok (.ireturn, 1) := by decide +kernel
theorem dX8_counted_80 : decode cX8_counted 80 = .ok (.aload_n 0, 1) := by decide +kernel
theorem dX8_counted_81 : decode cX8_counted 81 = .ok (.getfield 10, 3) := by decide +kernel
theorem dX8_counted_84 : decode cX8_counted 84 = .ok (.invokevirtual 252, 3) := by decide +kernel
theorem dX8_counted_87 : decode cX8_counted 87 = .ok (.ireturn, 1) := by decide +kernel
theorem dX8_counted_88 : decode cX8_counted 88 = .ok (.aload_n 0, 1) := by decide +kernel
theorem dX8_counted_89 : decode cX8_counted 89 = .ok (.getfield 10, 3) := by decide +kernel
theorem dX8_counted_92 : decode cX8_counted 92 = .ok (.invokevirtual 255, 3) := by decide +kernel
theorem dX8_counted_95 : decode cX8_counted 95 = .ok (.ireturn, 1) := by decide +kernel
theorem dX8_counted_96 : decode cX8_counted 96 = .ok (.aload_n 0, 1) := by decide +kernel
theorem dX8_counted_97 : decode cX8_counted 97 = .ok (.getfield 10, 3) := by decide +kernel
theorem dX8_counted_100 : decode cX8_counted 100 = .ok (.getfield 77, 3) := by decide +kernel
theorem dX8_counted_103 : decode cX8_counted 103 = .ok (.getfield 81, 3) := by decide +kernel
theorem dX8_counted_106 : decode cX8_counted 106 = .ok (.ireturn, 1) := by decide +kernel
theorem dX8_counted_107 : decode cX8_counted 107 = .ok (.aload_n 0, 1) := by decide +kernel
theorem dX8_counted_108 : decode cX8_counted 108 = .ok (.getfield 19, 3) := by decide +kernel
theorem dX8_counted_111 : decode cX8_counted 111 = .ok (.getfield 161, 3) := by decide +kernel
theorem dX8_counted_114 : decode cX8_counted 114 = .ok (.ireturn, 1) := by decide +kernel
theorem dX8_counted_115 : decode cX8_counted 115 = .ok (.iconst (-1), 1) := by decide +kernel
theorem dX8_counted_116 : decode cX8_counted 116 = .ok (.ireturn, 1) := by decide +kernel
theorem dX8_tryNumber_0 : decode cX8_tryNumber 0 = .ok (.aload_n 0, 1) := by decide +kernel
theorem dX8_tryNumber_1 : decode cX8_tryNumber 1 = .ok (.getfield 33, 3) := by decide +kernel
theorem dX8_tryNumber_4 : decode cX8_tryNumber 4 = .ok (.aload_n 1, 1) := by decide +kernel
theorem dX8_tryNumber_5 : decode cX8_tryNumber 5 = .ok (.invokevirtual 258, 3) := by decide +kernel
theorem dX8_tryNumber_8 : decode cX8_tryNumber 8 = .ok (.aload_n 0, 1) := by decide +kernel
theorem dX8_tryNumber_9 : decode cX8_tryNumber 9 = .ok (.getfield 33, 3) := by decide +kernel
theorem dX8_tryNumber_12 : decode cX8_tryNumber 12 = .ok (.iload_n 2, 1) := by decide +kernel
theorem dX8_tryNumber_13 : decode cX8_tryNumber 13 = .ok (.aload_n 0, 1) := by decide +kernel
theorem dX8_tryNumber_14 : decode cX8_tryNumber 14 = .ok (.getfield 10, 3) := by decide +kernel
theorem dX8_tryNumber_17 : decode cX8_tryNumber 17 = .ok (.getfield 129, 3) := by decide +kernel
theorem dX8_tryNumber_20 : decode cX8_tryNumber 20 = .ok (.invokevirtual 262, 3) := by decide +kernel
theorem dX8_tryNumber_23 : decode cX8_tryNumber 23 = .ok (.ireturn, 1) := by decide +kernel
theorem dX8_pressesToOpen_0 : decode cX8_pressesToOpen 0 = .ok (.aload_n 0, 1) := by decide +kernel
theorem dX8_pressesToOpen_1 : decode cX8_pressesToOpen 1 = .ok (.getfield 33, 3) := by decide +kernel
theorem dX8_pressesToOpen_4 : decode cX8_pressesToOpen 4 = .ok (.aload_n 2, 1) := by decide +kernel
theorem dX8_pressesToOpen_5 : decode cX8_pressesToOpen 5 = .ok (.invokevirtual 258, 3) := by decide +kernel
theorem dX8_pressesToOpen_8 : decode cX8_pressesToOpen 8 = .ok (.bipush 50, 2) := by decide +kernel
theorem dX8_pressesToOpen_10 : decode cX8_pressesToOpen 10 = .ok (.aload_n 1, 1) := by decide +kernel
theorem dX8_pressesToOpen_11 : decode cX8_pressesToOpen 11 = .ok (.getfield 62, 3) := by decide +kernel
theorem dX8_pressesToOpen_14 : decode cX8_pressesToOpen 14 = .ok (.invokestatic 265, 3) := by decide +kernel
theorem dX8_pressesToOpen_17 : decode cX8_pressesToOpen 17 = .ok (.istore_n 3, 1) := by decide +kernel
theorem dX8_pressesToOpen_18 : decode cX8_pressesToOpen 18 = .ok (.aload_n 1, 1) := by decide +kernel
theorem dX8_pressesToOpen_19 : decode cX8_pressesToOpen 19 = .ok (.getfield 53, 3) := by decide +kernel
theorem dX8_pressesToOpen_22 : decode cX8_pressesToOpen 22 = .ok (.istore 4, 2) := by decide +kernel
theorem dX8_pressesToOpen_24 : decode cX8_pressesToOpen 24 = .ok (.iconst 1, 1) := by decide +kernel
theorem dX8_pressesToOpen_25 : decode cX8_pressesToOpen 25 = .ok (.istore 5, 2) := by decide +kernel
theorem dX8_pressesToOpen_27 : decode cX8_pressesToOpen 27 = .ok (.iload 5, 2) := by decide +kernel
theorem dX8_pressesToOpen_29 : decode cX8_pressesToOpen 29 = .ok (.iload_n 3, 1) := by decide +kernel
theorem dX8_pressesToOpen_30 : decode cX8_pressesToOpen 30 = .ok (.if_icmp .gt 57, 3) := by decide +kernel
theorem dX8_pressesToOpen_33 : decode cX8_pressesToOpen 33 = .ok (.iload 4, 2) := by decide +kernel
theorem dX8_pressesToOpen_35 : decode cX8_pressesToOpen 35 = .ok (.invokestatic 270, 3) := by decide +kernel
theorem dX8_pressesToOpen_38 : decode cX8_pressesToOpen 38 = .ok (.istore 4, 2) := by decide +kernel
theorem dX8_pressesToOpen_40 : decode cX8_pressesToOpen 40 = .ok (.aload_n 0, 1) := by decide +kernel
theorem dX8_pressesToOpen_41 : decode cX8_pressesToOpen 41 = .ok (.getfield 33, 3) := by decide +kernel
theorem dX8_pressesToOpen_44 : decode cX8_pressesToOpen 44 = .ok (.aload_n 1, 1) := by decide +kernel
theorem dX8_pressesToOpen_45 : decode cX8_pressesToOpen 45 = .ok (.getfield 59, 3) := by decide +kernel
theorem dX8_pressesToOpen_48 : decode cX8_pressesToOpen 48 = .ok (.iload 4, 2) := by decide +kernel
theorem dX8_pressesToOpen_50 : decode cX8_pressesToOpen 50 = .ok (.invokestatic 273, 3) := by decide +kernel
theorem dX8_pressesToOpen_53 : decode cX8_pressesToOpen 53 = .ok (.aload_n 0, 1) := by decide +kernel
theorem dX8_pressesToOpen_54 : decode cX8_pressesToOpen 54 = .ok (.getfield 10, 3) := by decide +kernel
theorem dX8_pressesToOpen_57 : decode cX8_pressesToOpen 57 = .ok (.getfield 129, 3) := by decide +kernel
theorem dX8_pressesToOpen_60 : decode cX8_pressesToOpen 60 = .ok (.invokevirtual 262, 3) := by decide +kernel
theorem dX8_pressesToOpen_63 : decode cX8_pressesToOpen 63 = .ok (.istore 6, 2) := by decide +kernel
theorem dX8_pressesToOpen_65 : decode cX8_pressesToOpen 65 = .ok (.iload 6, 2) := by decide +kernel
theorem dX8_pressesToOpen_67 : decode cX8_pressesToOpen 67 = .ok (.ifCond .ne 6, 3) := by decide +kernel
theorem dX8_pressesToOpen_70 : decode cX8_pressesToOpen 70 = .ok (.iload 5, 2) := by decide +kernel
theorem dX8_pressesToOpen_72 : decode cX8_pressesToOpen 72 = .ok (.ireturn, 1) := by decide +kernel
theorem dX8_pressesToOpen_73 : decode cX8_pressesToOpen 73 = .ok (.iload 6, 2) := by decide +kernel
theorem dX8_pressesToOpen_75 : decode cX8_pressesToOpen 75 = .ok (.iconst 3, 1) := by decide +kernel
theorem dX8_pressesToOpen_76 : decode cX8_pressesToOpen 76 = .ok (.if_icmp .ne 5, 3) := by decide +kernel
theorem dX8_pressesToOpen_79 : decode cX8_pressesToOpen 79 = .ok (.iconst (-1), 1) := by decide +kernel
theorem dX8_pressesToOpen_80 : decode cX8_pressesToOpen 80 = .ok (.ireturn, 1) := by decide +kernel
theorem dX8_pressesToOpen_81 : decode cX8_pressesToOpen 81 = .ok (.iinc 5 1, 3) := by decide +kernel
theorem dX8_pressesToOpen_84 : decode cX8_pressesToOpen 84 = .ok (.goto (-57), 3) := by decide +kernel
theorem dX8_pressesToOpen_87 : decode cX8_pressesToOpen 87 = .ok (.iconst (-1), 1) := by decide +kernel
theorem dX8_pressesToOpen_88 : decode cX8_pressesToOpen 88 = .ok (.ireturn, 1) := by decide +kernel
theorem dX8_mostUnheard_0 : decode cX8_mostUnheard 0 = .ok (.iconst (-1), 1) := by decide +kernel
theorem dX8_mostUnheard_1 : decode cX8_mostUnheard 1 = .ok (.istore_n 3, 1) := by decide +kernel
theorem dX8_mostUnheard_2 : decode cX8_mostUnheard 2 = .ok (.aload_n 1, 1) := by decide +kernel
theorem dX8_mostUnheard_3 : decode cX8_mostUnheard 3 = .ok (.getfield 53, 3) := by decide +kernel
theorem dX8_mostUnheard_6 : decode cX8_mostUnheard 6 = .ok (.istore 4, 2) := by decide +kernel
theorem dX8_mostUnheard_8 : decode cX8_mostUnheard 8 = .ok (.iconst 0, 1) := by decide +kernel
theorem dX8_mostUnheard_9 : decode cX8_mostUnheard 9 = .ok (.istore 5, 2) := by decide +kernel
theorem dX8_mostUnheard_11 : decode cX8_mostUnheard 11 = .ok (.iload 5, 2) := by decide +kernel
theorem dX8_mostUnheard_13 : decode cX8_mostUnheard 13 = .ok (.bipush 99, 2) := by decide +kernel
theorem dX8_mostUnheard_15 : decode cX8_mostUnheard 15 = .ok (.if_icmp .gt 38, 3) := by decide +kernel
theorem dX8_mostUnheard_18 : decode cX8_mostUnheard 18 = .ok (.iload 4, 2) := by decide +kernel
theorem dX8_mostUnheard_20 : decode cX8_mostUnheard 20 = .ok (.invokestatic 270, 3) := by decide +kernel
theorem dX8_mostUnheard_23 : decode cX8_mostUnheard 23 = .ok (.istore 4, 2) := by decide +kernel
theorem dX8_mostUnheard_25 : decode cX8_mostUnheard 25 = .ok (.aload_n 0, 1) := by decide +kernel
theorem dX8_mostUnheard_26 : decode cX8_mostUnheard 26 = .ok (.aload_n 2, 1) := by decide +kernel
theorem dX8_mostUnheard_27 : decode cX8_mostUnheard 27 = .ok (.aload_n 1, 1) := by decide +kernel
theorem dX8_mostUnheard_28 : decode cX8_mostUnheard 28 = .ok (.getfield 59, 3) := by decide +kernel
theorem dX8_mostUnheard_31 : decode cX8_mostUnheard 31 = .ok (.iload 4, 2) := by decide +kernel
theorem dX8_mostUnheard_33 : decode cX8_mostUnheard 33 = .ok (.invokestatic 273, 3) := by decide +kernel
theorem dX8_mostUnheard_36 : decode cX8_mostUnheard 36 = .ok (.invokevirtual 179, 3) := by decide +kernel
theorem dX8_mostUnheard_39 : decode cX8_mostUnheard 39 = .ok (.ifCond .eq 5, 3) := by decide +kernel
theorem dX8_mostUnheard_42 : decode cX8_mostUnheard 42 = .ok (.iload_n 3, 1) := by decide +kernel
theorem dX8_mostUnheard_43 : decode cX8_mostUnheard 43 = .ok (.ireturn, 1) := by decide +kernel
theorem dX8_mostUnheard_44 : decode cX8_mostUnheard 44 = .ok (.iload 5, 2) := by decide +kernel
theorem dX8_mostUnheard_46 : decode cX8_mostUnheard 46 = .ok (.istore_n 3, 1) := by decide +kernel
theorem dX8_mostUnheard_47 : decode cX8_mostUnheard 47 = .ok (.iinc 5 1, 3) := by decide +kernel
theorem dX8_mostUnheard_50 : decode cX8_mostUnheard 50 = .ok (.goto (-39), 3) := by decide +kernel
theorem dX8_mostUnheard_53 : decode cX8_mostUnheard 53 = .ok (.iload_n 3, 1) := by decide +kernel
theorem dX8_mostUnheard_54 : decode cX8_mostUnheard 54 = .ok (.ireturn, 1) := by decide +kernel
theorem dX8_firstUseful_0 : decode cX8_firstUseful 0 = .ok (.iconst 0, 1) := by decide +kernel
theorem dX8_firstUseful_1 : decode cX8_firstUseful 1 = .ok (.istore_n 2, 1) := by decide +kernel
theorem dX8_firstUseful_2 : decode cX8_firstUseful 2 = .ok (.iload_n 2, 1) := by decide +kernel
theorem dX8_firstUseful_3 : decode cX8_firstUseful 3 = .ok (.aload_n 0, 1) := by decide +kernel
theorem dX8_firstUseful_4 : decode cX8_firstUseful 4 = .ok (.getfield 10, 3) := by decide +kernel
theorem dX8_firstUseful_7 : decode cX8_firstUseful 7 = .ok (.getfield 77, 3) := by decide +kernel
theorem dX8_firstUseful_10 : decode cX8_firstUseful 10 = .ok (.getfield 81, 3) := by decide +kernel
theorem dX8_firstUseful_13 : decode cX8_firstUseful 13 = .ok (.if_icmp .ge 30, 3) := by decide +kernel
theorem dX8_firstUseful_16 : decode cX8_firstUseful 16 = .ok (.aload_n 0, 1) := by decide +kernel
theorem dX8_firstUseful_17 : decode cX8_firstUseful 17 = .ok (.aload_n 1, 1) := by decide +kernel
theorem dX8_firstUseful_18 : decode cX8_firstUseful 18 = .ok (.aload_n 0, 1) := by decide +kernel
theorem dX8_firstUseful_19 : decode cX8_firstUseful 19 = .ok (.getfield 10, 3) := by decide +kernel
theorem dX8_firstUseful_22 : decode cX8_firstUseful 22 = .ok (.getfield 77, 3) := by decide +kernel
theorem dX8_firstUseful_25 : decode cX8_firstUseful 25 = .ok (.iload_n 2, 1) := by decide +kernel
theorem dX8_firstUseful_26 : decode cX8_firstUseful 26 = .ok (.invokevirtual 172, 3) := by decide +kernel
theorem dX8_firstUseful_29 : decode cX8_firstUseful 29 = .ok (.invokevirtual 179, 3) := by decide +kernel
theorem dX8_firstUseful_32 : decode cX8_firstUseful 32 = .ok (.ifCond .ne 5, 3) := by decide +kernel
theorem dX8_firstUseful_35 : decode cX8_firstUseful 35 = .ok (.iload_n 2, 1) := by decide +kernel
theorem dX8_firstUseful_36 : decode cX8_firstUseful 36 = .ok (.ireturn, 1) := by decide +kernel
theorem dX8_firstUseful_37 : decode cX8_firstUseful 37 = .ok (.iinc 2 1, 3) := by decide +kernel
theorem dX8_firstUseful_40 : decode cX8_firstUseful 40 = .ok (.goto (-38), 3) := by decide +kernel
theorem dX8_firstUseful_43 : decode cX8_firstUseful 43 = .ok (.iconst (-1), 1) := by decide +kernel
theorem dX8_firstUseful_44 : decode cX8_firstUseful 44 = .ok (.ireturn, 1) := by decide +kernel
