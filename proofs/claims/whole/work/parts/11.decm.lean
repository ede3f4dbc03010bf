theorem dX9_init_0 : decode cX9_init 0 = .ok (.aload_n 0, 1) := by decide +kernel
theorem dX9_init_1 : decode cX9_init 1 = .ok (.invokespecial 1, 3) := by decide +kernel
theorem dX9_init_4 : decode cX9_init 4 = .ok (.aload_n 0, 1) := by decide +kernel
theorem dX9_init_5 : decode cX9_init 5 = .ok (.bipush 96, 2) := by decide +kernel
theorem dX9_init_7 : decode cX9_init 7 = .ok (.newarray .int, 2) := by decide +kernel
theorem dX9_init_9 : decode cX9_init 9 = .ok (.putfield 7, 3) := by decide +kernel
theorem dX9_init_12 : decode cX9_init 12 = .ok (.aload_n 0, 1) := by decide +kernel
theorem dX9_init_13 : decode cX9_init 13 = .ok (.bipush 96, 2) := by decide +kernel
theorem dX9_init_15 : decode cX9_init 15 = .ok (.newarray .int, 2) := by decide +kernel
theorem dX9_init_17 : decode cX9_init 17 = .ok (.putfield 13, 3) := by decide +kernel
theorem dX9_init_20 : decode cX9_init 20 = .ok (.aload_n 0, 1) := by decide +kernel
theorem dX9_init_21 : decode cX9_init 21 = .ok (.sipush 576, 3) := by decide +kernel
theorem dX9_init_24 : decode cX9_init 24 = .ok (.newarray .int, 2) := by decide +kernel
theorem dX9_init_26 : decode cX9_init 26 = .ok (.putfield 16, 3) := by decide +kernel
theorem dX9_init_29 : decode cX9_init 29 = .ok (.aload_n 0, 1) := by decide +kernel
theorem dX9_init_30 : decode cX9_init 30 = .ok (.bipush 60, 2) := by decide +kernel
theorem dX9_init_32 : decode cX9_init 32 = .ok (.newarray .int, 2) := by decide +kernel
theorem dX9_init_34 : decode cX9_init 34 = .ok (.putfield 19, 3) := by decide +kernel
theorem dX9_init_37 : decode cX9_init 37 = .ok (.aload_n 0, 1) := by decide +kernel
theorem dX9_init_38 : decode cX9_init 38 = .ok (.bipush 93, 2) := by decide +kernel
theorem dX9_init_40 : decode cX9_init 40 = .ok (.newarray .int, 2) := by decide +kernel
theorem dX9_init_42 : decode cX9_init 42 = .ok (.putfield 22, 3) := by decide +kernel
theorem dX9_init_45 : decode cX9_init 45 = .ok (.aload_n 0, 1) := by decide +kernel
theorem dX9_init_46 : decode cX9_init 46 = .ok (.getfield 7, 3) := by decide +kernel
theorem dX9_init_49 : decode cX9_init 49 = .ok (.iconst 0, 1) := by decide +kernel
theorem dX9_init_50 : decode cX9_init 50 = .ok (.bipush 16, 2) := by decide +kernel
theorem dX9_init_52 : decode cX9_init 52 = .ok (.iastore, 1) := by decide +kernel
theorem dX9_init_53 : decode cX9_init 53 = .ok (.aload_n 0, 1) := by decide +kernel
theorem dX9_init_54 : decode cX9_init 54 = .ok (.getfield 7, 3) := by decide +kernel
theorem dX9_init_57 : decode cX9_init 57 = .ok (.iconst 1, 1) := by decide +kernel
theorem dX9_init_58 : decode cX9_init 58 = .ok (.bipush 100, 2) := by decide +kernel
theorem dX9_init_60 : decode cX9_init 60 = .ok (.iastore, 1) := by decide +kernel
theorem dX9_init_61 : decode cX9_init 61 = .ok (.aload_n 0, 1) := by decide +kernel
theorem dX9_init_62 : decode cX9_init 62 = .ok (.getfield 7, 3) := by decide +kernel
theorem dX9_init_65 : decode cX9_init 65 = .ok (.iconst 2, 1) := by decide +kernel
theorem dX9_init_66 : decode cX9_init 66 = .ok (.bipush 8, 2) := by decide +kernel
theorem dX9_init_68 : decode cX9_init 68 = .ok (.iastore, 1) := by decide +kernel
theorem dX9_init_69 : decode cX9_init 69 = .ok (.iconst 0, 1) := by decide +kernel
theorem dX9_init_70 : decode cX9_init 70 = .ok (.istore_n 1, 1) := by decide +kernel
theorem dX9_init_71 : decode cX9_init 71 = .ok (.iload_n 1, 1) := by decide +kernel
theorem dX9_init_72 : decode cX9_init 72 = .ok (.iconst 4, 1) := by decide +kernel
theorem dX9_init_73 : decode cX9_init 73 = .ok (.if_icmp .ge 36, 3) := by decide +kernel
theorem dX9_init_76 : decode cX9_init 76 = .ok (.aload_n 0, 1) := by decide +kernel
theorem dX9_init_77 : decode cX9_init 77 = .ok (.getfield 7, 3) := by decide +kernel
theorem dX9_init_80 : decode cX9_init 80 = .ok (.bipush 14, 2) := by decide +kernel
theorem dX9_init_82 : decode cX9_init 82 = .ok (.iconst 4, 1) := by decide +kernel
theorem dX9_init_83 : decode cX9_init 83 = .ok (.iload_n 1, 1) := by decide +kernel
theorem dX9_init_84 : decode cX9_init 84 = .ok (.imul, 1) := by decide +kernel
theorem dX9_init_85 : decode cX9_init 85 = .ok (.iadd, 1) := by decide +kernel
theorem dX9_init_86 : decode cX9_init 86 = .ok (.iload_n 1, 1) := by decide +kernel
theorem dX9_init_87 : decode cX9_init 87 = .ok (.iastore, 1) := by decide +kernel
theorem dX9_init_88 : decode cX9_init 88 = .ok (.aload_n 0, 1) := by decide +kernel
theorem dX9_init_89 : decode cX9_init 89 = .ok (.getfield 7, 3) := by decide +kernel
theorem dX9_init_92 : decode cX9_init 92 = .ok (.bipush 14, 2) := by decide +kernel
theorem dX9_init_94 : decode cX9_init 94 = .ok (.iconst 4, 1) := by decide +kernel
theorem dX9_init_95 : decode cX9_init 95 = .ok (.iload_n 1, 1) := by decide +kernel
theorem dX9_init_96 : decode cX9_init 96 = .ok (.imul, 1) := by decide +kernel
theorem dX9_init_97 : decode cX9_init 97 = .ok (.iadd, 1) := by decide +kernel
theorem dX9_init_98 : decode cX9_init 98 = .ok (.iconst 2, 1) := by decide +kernel
theorem dX9_init_99 : decode cX9_init 99 = .ok (.iadd, 1) := by decide +kernel
theorem dX9_init_100 : decode cX9_init 100 = .ok (.bipush 100, 2) := by decide +kernel
theorem dX9_init_102 : decode cX9_init 102 = .ok (.iastore, 1) := by decide +kernel
theorem dX9_init_103 : decode cX9_init 103 = .ok (.iinc 1 1, 3) := by decide +kernel
theorem dX9_init_106 : decode cX9_init 106 = .ok (.goto (-35), 3) := by decide +kernel
theorem dX9_init_109 : decode cX9_init 109 = .ok (.return_, 1) := by decide +kernel
theorem dX9_thrown_0 : decode cX9_thrown 0 = .ok (.aload_n 0, 1) := by decide +kernel
theorem dX9_thrown_1 : decode cX9_thrown 1 = .ok (.getfield 25, 3) := by decide +kernel
theorem dX9_thrown_4 : decode cX9_thrown 4 = .ok (.ireturn, 1) := by decide +kernel
theorem dX9_fails_0 : decode cX9_fails 0 = .ok (.aload_n 0, 1) := by decide +kernel
theorem dX9_fails_1 : decode cX9_fails 1 = .ok (.iload_n 1, 1) := by decide +kernel
theorem dX9_fails_2 : decode cX9_fails 2 = .ok (.putfield 25, 3) := by decide +kernel
theorem dX9_fails_5 : decode cX9_fails 5 = .ok (.iconst 0, 1) := by decide +kernel
theorem dX9_fails_6 : decode cX9_fails 6 = .ok (.ireturn, 1) := by decide +kernel
theorem dX9_in_0 : decode cX9_in 0 = .ok (.iload_n 0, 1) := by decide +kernel
theorem dX9_in_1 : decode cX9_in 1 = .ok (.iload_n 1, 1) := by decide +kernel
theorem dX9_in_2 : decode cX9_in 2 = .ok (.if_icmp .lt 12, 3) := by decide +kernel
theorem dX9_in_5 : decode cX9_in 5 = .ok (.iload_n 0, 1) := by decide +kernel
theorem dX9_in_6 : decode cX9_in 6 = .ok (.iload_n 2, 1) := by decide +kernel
theorem dX9_in_7 : decode cX9_in 7 = .ok (.if_icmp .gt 7, 3) := by decide +kernel
theorem dX9_in_10 : decode cX9_in 10 = .ok (.iconst 1, 1) := by decide +kernel
theorem dX9_in_11 : decode cX9_in 11 = .ok (.goto 4, 3) := by decide +kernel
theorem dX9_in_14 : decode cX9_in 14 = .ok (.iconst 0, 1) := by decide +kernel
theorem dX9_in_15 : decode cX9_in 15 = .ok (.ireturn, 1) := by decide +kernel
theorem dX9_isFob_0 : decode cX9_isFob 0 = .ok (.iload_n 0, 1) := by decide +kernel
theorem dX9_isFob_1 : decode cX9_isFob 1 = .ok (.iconst 0, 1) := by decide +kernel
theorem dX9_isFob_2 : decode cX9_isFob 2 = .ok (.iconst 3, 1) := by decide +kernel
theorem dX9_isFob_3 : decode cX9_isFob 3 = .ok (.invokestatic 29, 3) := by decide +kernel
theorem dX9_isFob_6 : decode cX9_isFob 6 = .ok (.ireturn, 1) := by decide +kernel
theorem dX9_isDoor_0 : decode cX9_isDoor 0 = .ok (.iload_n 0, 1) := by decide +kernel
theorem dX9_isDoor_1 : decode cX9_isDoor 1 = .ok (.iconst 0, 1) := by decide +kernel
theorem dX9_isDoor_2 : decode cX9_isDoor 2 = .ok (.iconst 2, 1) := by decide +kernel
theorem dX9_isDoor_3 : decode cX9_isDoor 3 = .ok (.invokestatic 29, 3) := by decide +kernel
theorem dX9_isDoor_6 : decode cX9_isDoor 6 = .ok (.ireturn, 1) := by decide +kernel
theorem dX9_isSlot_0 : decode cX9_isSlot 0 = .ok (.iload_n 0, 1) := by decide +kernel
theorem dX9_isSlot_1 : decode cX9_isSlot 1 = .ok (.invokestatic 33, 3) := by decide +kernel
theorem dX9_isSlot_4 : decode cX9_isSlot 4 = .ok (.ifCond .eq 16, 3) := by decide +kernel
theorem dX9_isSlot_7 : decode cX9_isSlot 7 = .ok (.iload_n 1, 1) := by decide +kernel
theorem dX9_isSlot_8 : decode cX9_isSlot 8 = .ok (.iconst 0, 1) := by decide +kernel
theorem dX9_isSlot_9 : decode cX9_isSlot 9 = .ok (.iconst 3, 1) := by decide +kernel
theorem dX9_isSlot_10 : decode cX9_isSlot 10 = .ok (.invokestatic 29, 3) := by decide +kernel
theorem dX9_isSlot_13 : decode cX9_isSlot 13 = .ok (.ifCond .eq 7, 3) := by decide +kernel
theorem dX9_isSlot_16 : decode cX9_isSlot 16 = .ok (.iconst 1, 1) := by decide +kernel
theorem dX9_isSlot_17 : decode cX9_isSlot 17 = .ok (.goto 4, 3) := by decide +kernel
theorem dX9_isSlot_20 : decode cX9_isSlot 20 = .ok (.iconst 0, 1) := by decide +kernel
theorem dX9_isSlot_21 : decode cX9_isSlot 21 = .ok (.ireturn, 1) := by decide +kernel
theorem dX9_slotAt_0 : decode cX9_slotAt 0 = .ok (.bipush 30, 2) := by decide +kernel
theorem dX9_slotAt_2 : decode cX9_slotAt 2 = .ok (.bipush 22, 2) := by decide +kernel
theorem dX9_slotAt_4 : decode cX9_slotAt 4 = .ok (.iload_n 0, 1) := by decide +kernel
theorem dX9_slotAt_5 : decode cX9_slotAt 5 = .ok (.imul, 1) := by decide +kernel
theorem dX9_slotAt_6 : decode cX9_slotAt 6 = .ok (.iadd, 1) := by decide +kernel
theorem dX9_slotAt_7 : decode cX9_slotAt 7 = .ok (.bipush 6, 2) := by decide +kernel
theorem dX9_slotAt_9 : decode cX9_slotAt 9 = .ok (.iadd, 1) := by decide +kernel
theorem dX9_slotAt_10 : decode cX9_slotAt 10 = .ok (.iconst 4, 1) := by decide +kernel
theorem dX9_slotAt_11 : decode cX9_slotAt 11 = .ok (.iload_n 1, 1) := by decide +kernel
theorem dX9_slotAt_12 : decode cX9_slotAt 12 = .ok (.imul, 1) := by decide +kernel
theorem dX9_slotAt_13 : decode cX9_slotAt 13 = .ok (.iadd, 1) := by decide +kernel
theorem dX9_slotAt_14 : decode cX9_slotAt 14 = .ok (.ireturn, 1) := by decide +kernel
theorem dX9_copies_0 : decode cX9_copies 0 = .ok (.iconst 0, 1) := by decide +kernel
theorem dX9_copies_1 : decode cX9_copies 1 = .ok (.istore 4, 2) := by decide +kernel
theorem dX9_copies_3 : decode cX9_copies 3 = .ok (.iload 4, 2) := by decide +kernel
theorem dX9_copies_5 : decode cX9_copies 5 = .ok (.bipush 96, 2) := by decide +kernel
theorem dX9_copies_7 : decode cX9_copies 7 = .ok (.if_icmp .ge 21, 3) := by decide +kernel
theorem dX9_copies_10 : decode cX9_copies 10 = .ok (.aload_n 2, 1) := by decide +kernel
theorem dX9_copies_11 : decode cX9_copies 11 = .ok (.iload_n 3, 1) := by decide +kernel
theorem dX9_copies_12 : decode cX9_copies 12 = .ok (.iload 4, 2) := by decide +kernel
theorem dX9_copies_14 : decode cX9_copies 14 = .ok (.iadd, 1) := by decide +kernel
theorem dX9_copies_15 : decode cX9_copies 15 = .ok (.aload_n 0, 1) := by decide +kernel
theorem dX9_copies_16 : decode cX9_copies 16 = .ok (.iload_n 1, 1) := by decide +kernel
theorem dX9_copies_17 : decode cX9_copies 17 = .ok (.iload 4, 2) := by decide +kernel
theorem dX9_copies_19 : decode cX9_copies 19 = .ok (.iadd, 1) := by decide +kernel
theorem dX9_copies_20 : decode cX9_copies 20 = .ok (.iaload, 1) := by decide +kernel
theorem dX9_copies_21 : decode cX9_copies 21 = .ok (.iastore, 1) := by decide +kernel
theorem dX9_copies_22 : decode cX9_copies 22 = .ok (.iinc 4 1, 3) := by decide +kernel
theorem dX9_copies_25 : decode cX9_copies 25 = .ok (.goto (-22), 3) := by decide +kernel
theorem dX9_copies_28 : decode cX9_copies 28 = .ok (.return_, 1) := by decide +kernel
theorem dX9_saves_0 : decode cX9_saves 0 = .ok (.aload_n 0, 1) := by decide +kernel
theorem dX9_saves_1 : decode cX9_saves 1 = .ok (.getfield 37, 3) := by decide +kernel
theorem dX9_saves_4 : decode cX9_saves 4 = .ok (.bipush 6, 2) := by decide +kernel
theorem dX9_saves_6 : decode cX9_saves 6 = .ok (.if_icmp .ne 43, 3) := by decide +kernel
theorem dX9_saves_9 : decode cX9_saves 9 = .ok (.iconst 0, 1) := by decide +kernel
theorem dX9_saves_10 : decode cX9_saves 10 = .ok (.istore_n 1, 1) := by decide +kernel
theorem dX9_saves_11 : decode cX9_saves 11 = .ok (.iload_n 1, 1) := by decide +kernel
theorem dX9_saves_12 : decode cX9_saves 12 = .ok (.sipush 480, 3) := by decide +kernel
theorem dX9_saves_15 : decode cX9_saves 15 = .ok (.if_icmp .ge 24, 3) := by decide +kernel
theorem dX9_saves_18 : decode cX9_saves 18 = .ok (.aload_n 0, 1) := by decide +kernel
theorem dX9_saves_19 : decode cX9_saves 19 = .ok (.getfield 16, 3) := by decide +kernel
theorem dX9_saves_22 : decode cX9_saves 22 = .ok (.iload_n 1, 1) := by decide +kernel
theorem dX9_saves_23 : decode cX9_saves 23 = .ok (.aload_n 0, 1) := by decide +kernel
theorem dX9_saves_24 : decode cX9_saves 24 = .ok (.getfield 16, 3) := by decide +kernel
theorem dX9_saves_27 : decode cX9_saves 27 = .ok (.iload_n 1, 1) := by decide +kernel
theorem dX9_saves_28 : decode cX9_saves 28 = .ok (.bipush 96, 2) := by decide +kernel
theorem dX9_saves_30 : decode cX9_saves 30 = .ok (.iadd, 1) := by decide +kernel
theorem dX9_saves_31 : decode cX9_saves 31 = .ok (.iaload, 1) := by decide +kernel
theorem dX9_saves_32 : decode cX9_saves 32 = .ok (.iastore, 1) := by decide +kernel
theorem dX9_saves_33 : decode cX9_saves 33 = .ok (.iinc 1 1, 3) := by decide +kernel
theorem dX9_saves_36 : decode cX9_saves 36 = .ok (.goto (-25), 3) := by decide +kernel
theorem dX9_saves_39 : decode cX9_saves 39 = .ok (.aload_n 0, 1) := by decide +kernel
theorem dX9_saves_40 : decode cX9_saves 40 = .ok (.dup, 1) := by decide +kernel
theorem dX9_saves_41 : decode cX9_saves 41 = .ok (.getfield 37, 3) := by decide +kernel
theorem dX9_saves_44 : decode cX9_saves 44 = .ok (.iconst 1, 1) := by decide +kernel
theorem dX9_saves_45 : decode cX9_saves 45 = .ok (.isub, 1) := by decide +kernel
theorem dX9_saves_46 : decode cX9_saves 46 = .ok (.putfield 37, 3) := by decide +kernel
theorem dX9_saves_49 : decode cX9_saves 49 = .ok (.aload_n 0, 1) := by decide +kernel
theorem dX9_saves_50 : decode cX9_saves 50 = .ok (.getfield 7, 3) := by decide +kernel
theorem dX9_saves_53 : decode cX9_saves 53 = .ok (.iconst 0, 1) := by decide +kernel
theorem dX9_saves_54 : decode cX9_saves 54 = .ok (.aload_n 0, 1) := by decide +kernel
theorem dX9_saves_55 : decode cX9_saves 55 = .ok (.getfield 16, 3) := by decide +kernel
theorem dX9_saves_58 : decode cX9_saves 58 = .ok (.bipush 96, 2) := by decide +kernel
theorem dX9_saves_60 : decode cX9_saves 60 = .ok (.aload_n 0, 1) := by decide +kernel
theorem dX9_saves_61 : decode cX9_saves 61 = .ok (.getfield 37, 3) := by decide +kernel
theorem dX9_saves_64 : decode cX9_saves 64 = .ok (.imul, 1) := by decide +kernel
theorem dX9_saves_65 : decode cX9_saves 65 = .ok (.invokestatic 40, 3) := by decide +kernel
theorem dX9_saves_68 : decode cX9_saves 68 = .ok (.aload_n 0, 1) := by decide +kernel
theorem dX9_saves_69 : decode cX9_saves 69 = .ok (.dup, 1) := by decide +kernel
theorem dX9_saves_70 : decode cX9_saves 70 = .ok (.getfield 37, 3) := by decide +kernel
theorem dX9_saves_73 : decode cX9_saves 73 = .ok (.iconst 1, 1) := by decide +kernel
theorem dX9_saves_74 : decode cX9_saves 74 = .ok (.iadd, 1) := by decide +kernel
theorem dX9_saves_75 : decode cX9_saves 75 = .ok (.putfield 37, 3) := by decide +kernel
theorem dX9_saves_78 : decode cX9_saves 78 = .ok (.return_, 1) := by decide +kernel
theorem dX9_undo_0 : decode cX9_undo 0 = .ok (.aload_n 0, 1) := by decide +kernel
theorem dX9_undo_1 : decode cX9_undo 1 = .ok (.iconst 0, 1) := by decide +kernel
theorem dX9_undo_2 : decode cX9_undo 2 = .ok (.putfield 25, 3) := by decide +kernel
theorem dX9_undo_5 : decode cX9_undo 5 = .ok (.aload_n 0, 1) := by decide +kernel
theorem dX9_undo_6 : decode cX9_undo 6 = .ok (.getfield 37, 3) := by decide +kernel
theorem dX9_undo_9 : decode cX9_undo 9 = .ok (.ifCond .ne 9, 3) := by decide +kernel
theorem dX9_undo_12 : decode cX9_undo 12 = .ok (.aload_n 0, 1) := by decide +kernel
theorem dX9_undo_13 : decode cX9_undo 13 = .ok (.iconst 1, 1) := by decide +kernel
theorem dX9_undo_14 : decode cX9_undo 14 = .ok (.invokevirtual 44, 3) := by decide +kernel
theorem dX9_undo_17 : decode cX9_undo 17 = .ok (.ireturn, 1) := by decide +kernel
theorem dX9_undo_18 : decode cX9_undo 18 = .ok (.aload_n 0, 1) := by decide +kernel
theorem dX9_undo_19 : decode cX9_undo 19 = .ok (.dup, 1) := by decide +kernel
theorem dX9_undo_20 : decode cX9_undo 20 = .ok (.getfield 37, 3) := by decide +kernel
theorem dX9_undo_23 : decode cX9_undo 23 = .ok (.iconst 1, 1) := by decide +kernel
theorem dX9_undo_24 : decode cX9_undo 24 = .ok (.isub, 1) := by decide +kernel
theorem dX9_undo_25 : decode cX9_undo 25 = .ok (.putfield 37, 3) := by decide +kernel
theorem dX9_undo_28 : decode cX9_undo 28 = .ok (.aload_n 0, 1) := by decide +kernel
theorem dX9_undo_29 : decode cX9_undo 29 = .ok (.getfield 16, 3) := by decide +kernel
theorem dX9_undo_32 : decode cX9_undo 32 = .ok (.bipush 96, 2) := by decide +kernel
theorem dX9_undo_34 : decode cX9_undo 34 = .ok (.aload_n 0, 1) := by decide +kernel
theorem dX9_undo_35 : decode cX9_undo 35 = .ok (.getfield 37, 3) := by decide +kernel
theorem dX9_undo_38 : decode cX9_undo 38 = .ok (.imul, 1) := by decide +kernel
theorem dX9_undo_39 : decode cX9_undo 39 = .ok (.aload_n 0, 1) := by decide +kernel
theorem dX9_undo_40 : decode cX9_undo 40 = .ok (.getfield 7, 3) := by decide +kernel
theorem dX9_undo_43 : decode cX9_undo 43 = .ok (.iconst 0, 1) := by decide +kernel
theorem dX9_undo_44 : decode cX9_undo 44 = .ok (.invokestatic 40, 3) := by decide +kernel
theorem dX9_undo_47 : decode cX9_undo 47 = .ok (.aload_n 0, 1) := by decide +kernel
theorem dX9_undo_48 : decode cX9_undo 48 = .ok (.getfield 37, 3) := by decide +kernel
theorem dX9_undo_51 : decode cX9_undo 51 = .ok (.ireturn, 1) := by decide +kernel
theorem dX9_numberOf_0 : decode cX9_numberOf 0 = .ok (.iload_n 1, 1) := by decide +kernel
theorem dX9_numberOf_1 : decode cX9_numberOf 1 = .ok (.ldc 48, 2) := by decide +kernel
theorem dX9_numberOf_3 : decode cX9_numberOf 3 = .ok (.imul, 1) := by decide +kernel
theorem dX9_numberOf_4 : decode cX9_numberOf 4 = .ok (.iload_n 0, 1) := by decide +kernel
theorem dX9_numberOf_5 : decode cX9_numberOf 5 = .ok (.sipush 7919, 3) := by decide +kernel
theorem dX9_numberOf_8 : decode cX9_numberOf 8 = .ok (.imul, 1) := by decide +kernel
theorem dX9_numberOf_9 : decode cX9_numberOf 9 = .ok (.iadd, 1) := by decide +kernel
theorem dX9_numberOf_10 : decode cX9_numberOf 10 = .ok (.iload_n 0, 1) := by decide +kernel
theorem dX9_numberOf_11 : decode cX9_numberOf 11 = .ok (.bipush 31, 2) := by decide +kernel
theorem dX9_numberOf_13 : decode cX9_numberOf 13 = .ok (.imul, 1) := by decide +kernel
theorem dX9_numberOf_14 : decode cX9_numberOf 14 = .ok (.iload_n 1, 1) := by decide +kernel
theorem dX9_numberOf_15 : decode cX9_numberOf 15 = .ok (.iadd, 1) := by decide +kernel
theorem dX9_numberOf_16 : decode cX9_numberOf 16 = .ok (.ixor, 1) := by decide +kernel
theorem dX9_numberOf_17 : decode cX9_numberOf 17 = .ok (.ldc 49, 2) := by decide +kernel
theorem dX9_numberOf_19 : decode cX9_numberOf 19 = .ok (.irem, 1) := by decide +kernel
theorem dX9_numberOf_20 : decode cX9_numberOf 20 = .ok (.ireturn, 1) := by decide +kernel
theorem dX9_ahead_0 : decode cX9_ahead 0 = .ok (.iload_n 0, 1) := by decide +kernel
theorem dX9_ahead_1 : decode cX9_ahead 1 = .ok (.iload_n 1, 1) := by decide +kernel
theorem dX9_ahead_2 : decode cX9_ahead 2 = .ok (.iadd, 1) := by decide +kernel
theorem dX9_ahead_3 : decode cX9_ahead 3 = .ok (.sipush 10000, 3) := by decide +kernel
theorem dX9_ahead_6 : decode cX9_ahead 6 = .ok (.irem, 1) := by decide +kernel
theorem dX9_ahead_7 : decode cX9_ahead 7 = .ok (.ireturn, 1) := by decide +kernel
theorem dX9_isLocked_0 : decode cX9_isLocked 0 = .ok (.aload_n 0, 1) := by decide +kernel
theorem dX9_isLocked_1 : decode cX9_isLocked 1 = .ok (.iconst 2, 1) := by decide +kernel
theorem dX9_isLocked_2 : decode cX9_isLocked 2 = .ok (.iaload, 1) := by decide +kernel
theorem dX9_isLocked_3 : decode cX9_isLocked 3 = .ok (.ifCond .le 24, 3) := by decide +kernel
theorem dX9_isLocked_6 : decode cX9_isLocked 6 = .ok (.aload_n 0, 1) := by decide +kernel
theorem dX9_isLocked_7 : decode cX9_isLocked 7 = .ok (.bipush 30, 2) := by decide +kernel
theorem dX9_isLocked_9 : decode cX9_isLocked 9 = .ok (.bipush 22, 2) := by decide +kernel
theorem dX9_isLocked_11 : decode cX9_isLocked 11 = .ok (.iload_n 1, 1) := by decide +kernel
theorem dX9_isLocked_12 : decode cX9_isLocked 12 = .ok (.imul, 1) := by decide +kernel
theorem dX9_isLocked_13 : decode cX9_isLocked 13 = .ok (.iadd, 1) := by decide +kernel
theorem dX9_isLocked_14 : decode cX9_isLocked 14 = .ok (.iconst 1, 1) := by decide +kernel
theorem dX9_isLocked_15 : decode cX9_isLocked 15 = .ok (.iadd, 1) := by decide +kernel
theorem dX9_isLocked_16 : decode cX9_isLocked 16 = .ok (.iaload, 1) := by decide +kernel
theorem dX9_isLocked_17 : decode cX9_isLocked 17 = .ok (.aload_n 0, 1) := by decide +kernel
theorem dX9_isLocked_18 : decode cX9_isLocked 18 = .ok (.iconst 2, 1) := by decide +kernel
theorem dX9_isLocked_19 : decode cX9_isLocked 19 = .ok (.iaload, 1) := by decide +kernel
theorem dX9_isLocked_20 : decode cX9_isLocked 20 = .ok (.if_icmp .lt 7, 3) := by decide +kernel
theorem dX9_isLocked_23 : decode cX9_isLocked 23 = .ok (.iconst 1, 1) := by decide +kernel
theorem dX9_isLocked_24 : decode cX9_isLocked 24 = .ok (.goto 4, 3) := by decide +kernel
theorem dX9_isLocked_27 : decode cX9_isLocked 27 = .ok (.iconst 0, 1) := by decide +kernel
theorem dX9_isLocked_28 : decode cX9_isLocked 28 = .ok (.ireturn, 1) := by decide +kernel
theorem dX9_looks_0 : decode cX9_looks 0 = .ok (.aload_n 0, 1) := by decide +kernel
theorem dX9_looks_1 : decode cX9_looks 1 = .ok (.iconst (-1), 1) := by decide +kernel
theorem dX9_looks_2 : decode cX9_looks 2 = .ok (.putfield 50, 3) := by decide +kernel
theorem dX9_looks_5 : decode cX9_looks 5 = .ok (.aload_n 0, 1) := by decide +kernel
theorem dX9_looks_6 : decode cX9_looks 6 = .ok (.iconst 0, 1) := by decide +kernel
theorem dX9_looks_7 : decode cX9_looks 7 = .ok (.putfield 53, 3) := by decide +kernel
theorem dX9_looks_10 : decode cX9_looks 10 = .ok (.iconst 0, 1) := by decide +kernel
theorem dX9_looks_11 : decode cX9_looks 11 = .ok (.istore 4, 2) := by decide +kernel
theorem dX9_looks_13 : decode cX9_looks 13 = .ok (.iload 4, 2) := by decide +kernel
theorem dX9_looks_15 : decode cX9_looks 15 = .ok (.iconst 4, 1) := by decide +kernel
theorem dX9_looks_16 : decode cX9_looks 16 = .ok (.if_icmp .ge 94, 3) := by decide +kernel
theorem dX9_looks_19 : decode cX9_looks 19 = .ok (.aload_n 0, 1) := by decide +kernel
theorem dX9_looks_20 : decode cX9_looks 20 = .ok (.getfield 50, 3) := by decide +kernel
theorem dX9_looks_23 : decode cX9_looks 23 = .ok (.iconst (-1), 1) := by decide +kernel
theorem dX9_looks_24 : decode cX9_looks 24 = .ok (.if_icmp .ne 86, 3) := by decide +kernel
theorem dX9_looks_27 : decode cX9_looks 27 = .ok (.iload_n 2, 1) := by decide +kernel
theorem dX9_looks_28 : decode cX9_looks 28 = .ok (.iload 4, 2) := by decide +kernel
theorem dX9_looks_30 : decode cX9_looks 30 = .ok (.invokestatic 56, 3) := by decide +kernel
theorem dX9_looks_33 : decode cX9_looks 33 = .ok (.istore 5, 2) := by decide +kernel
theorem dX9_looks_35 : decode cX9_looks 35 = .ok (.iconst 1, 1) := by decide +kernel
theorem dX9_looks_36 : decode cX9_looks 36 = .ok (.istore 6, 2) := by decide +kernel
theorem dX9_looks_38 : decode cX9_looks 38 = .ok (.iload 6, 2) := by decide +kernel
theorem dX9_looks_40 : decode cX9_looks 40 = .ok (.aload_n 1, 1) := by decide +kernel
theorem dX9_looks_41 : decode cX9_looks 41 = .ok (.iconst 1, 1) := by decide +kernel
theorem dX9_looks_42 : decode cX9_looks 42 = .ok (.iaload, 1) := by decide +kernel
theorem dX9_looks_43 : decode cX9_looks 43 = .ok (.if_icmp .gt 61, 3) := by decide +kernel
theorem dX9_looks_46 : decode cX9_looks 46 = .ok (.aload_n 1, 1) := by decide +kernel
theorem dX9_looks_47 : decode cX9_looks 47 = .ok (.iload 5, 2) := by decide +kernel
theorem dX9_looks_49 : decode cX9_looks 49 = .ok (.iaload, 1) := by decide +kernel
theorem dX9_looks_50 : decode cX9_looks 50 = .ok (.iconst 1, 1) := by decide +kernel
theorem dX9_looks_51 : decode cX9_looks 51 = .ok (.if_icmp .ne 53, 3) := by decide +kernel
theorem dX9_looks_54 : decode cX9_looks 54 = .ok (.aload_n 0, 1) := by decide +kernel
theorem dX9_looks_55 : decode cX9_looks 55 = .ok (.getfield 50, 3) := by decide +kernel
theorem dX9_looks_58 : decode cX9_looks 58 = .ok (.iconst (-1), 1) := by decide +kernel
theorem dX9_looks_59 : decode cX9_looks 59 = .ok (.if_icmp .ne 45, 3) := by decide +kernel
theorem dX9_looks_62 : decode cX9_looks 62 = .ok (.aload_n 1, 1) := by decide +kernel
theorem dX9_looks_63 : decode cX9_looks 63 = .ok (.iload 5, 2) := by decide +kernel
theorem dX9_looks_65 : decode cX9_looks 65 = .ok (.iconst 1, 1) := by decide +kernel
theorem dX9_looks_66 : decode cX9_looks 66 = .ok (.iadd, 1) := by decide +kernel
theorem dX9_looks_67 : decode cX9_looks 67 = .ok (.iaload, 1) := by decide +kernel
theorem dX9_looks_68 : decode cX9_looks 68 = .ok (.aload_n 1, 1) := by decide +kernel
theorem dX9_looks_69 : decode cX9_looks 69 = .ok (.iload 5, 2) := by decide +kernel
theorem dX9_looks_71 : decode cX9_looks 71 = .ok (.iconst 2, 1) := by decide +kernel
theorem dX9_looks_72 : decode cX9_looks 72 = .ok (.iadd, 1) := by decide +kernel
theorem dX9_looks_73 : decode cX9_looks 73 = .ok (.iaload, 1) := by decide +kernel
theorem dX9_looks_74 : decode cX9_looks 74 = .ok (.iload 6, 2) := by decide +kernel
theorem dX9_looks_76 : decode cX9_looks 76 = .ok (.invokestatic 60, 3) := by decide +kernel
theorem dX9_looks_79 : decode cX9_looks 79 = .ok (.invokestatic 63, 3) := by decide +kernel
theorem dX9_looks_82 : decode cX9_looks 82 = .ok (.iload_n 3, 1) := by decide +kernel
theorem dX9_looks_83 : decode cX9_looks 83 = .ok (.if_icmp .ne 15, 3) := by decide +kernel
theorem dX9_looks_86 : decode cX9_looks 86 = .ok (.aload_n 0, 1) := by decide +kernel
theorem dX9_looks_87 : decode cX9_looks 87 = .ok (.iload 4, 2) := by decide +kernel
theorem dX9_looks_89 : decode cX9_looks 89 = .ok (.putfield 50, 3) := by decide +kernel
theorem dX9_looks_92 : decode cX9_looks 92 = .ok (.aload_n 0, 1) := by decide +kernel
theorem dX9_looks_93 : decode cX9_looks 93 = .ok (.iload 6, 2) := by decide +kernel
theorem dX9_looks_95 : decode cX9_looks 95 = .ok (.putfield 53, 3) := by decide +kernel
theorem dX9_looks_98 : decode cX9_looks 98 = .ok (.iinc 6 1, 3) := by decide +kernel
theorem dX9_looks_101 : decode cX9_looks 101 = .ok (.goto (-63), 3) := by decide +kernel
theorem dX9_looks_104 : decode cX9_looks 104 = .ok (.iinc 4 1, 3) := by decide +kernel
theorem dX9_looks_107 : decode cX9_looks 107 = .ok (.goto (-94), 3) := by decide +kernel
theorem dX9_looks_110 : decode cX9_looks 110 = .ok (.return_, 1) := by decide +kernel
theorem dX9_would_0 : decode cX9_would 0 = .ok (.aload_n 1, 1) := by decide +kernel
theorem dX9_would_1 : decode cX9_would 1 = .ok (.iload_n 2, 1) := by decide +kernel
theorem dX9_would_2 : decode cX9_would 2 = .ok (.invokestatic 66, 3) := by decide +kernel
theorem dX9_would_5 : decode cX9_would 5 = .ok (.ifCond .eq 5, 3) := by decide +kernel
theorem dX9_would_8 : decode cX9_would 8 = .ok (.iconst 3, 1) := by decide +kernel
theorem dX9_would_9 : decode cX9_would 9 = .ok (.ireturn, 1) := by decide +kernel
theorem dX9_would_10 : decode cX9_would 10 = .ok (.aload_n 0, 1) := by decide +kernel
theorem dX9_would_11 : decode cX9_would 11 = .ok (.aload_n 1, 1) := by decide +kernel
theorem dX9_would_12 : decode cX9_would 12 = .ok (.iload_n 2, 1) := by decide +kernel
theorem dX9_would_13 : decode cX9_would 13 = .ok (.iload_n 3, 1) := by decide +kernel
theorem dX9_would_14 : decode cX9_would 14 = .ok (.invokevirtual 70, 3) := by decide +kernel
theorem dX9_would_17 : decode cX9_would 17 = .ok (.aload_n 0, 1) := by decide +kernel
theorem dX9_would_18 : decode cX9_would 18 = .ok (.getfield 50, 3) := by decide +kernel
theorem dX9_would_21 : decode cX9_would 21 = .ok (.iconst (-1), 1) := by decide +kernel
theorem dX9_would_22 : decode cX9_would 22 = .ok (.if_icmp .ne 5, 3) := by decide +kernel
theorem dX9_would_25 : decode cX9_would 25 = .ok (.iconst 2, 1) := by decide +kernel
theorem dX9_would_26 : decode cX9_would 26 = .ok (.ireturn, 1) := by decide +kernel
theorem dX9_would_27 : decode cX9_would 27 = .ok (.iload_n 2, 1) := by decide +kernel
theorem dX9_would_28 : decode cX9_would 28 = .ok (.aload_n 0, 1) := by decide +kernel
theorem dX9_would_29 : decode cX9_would 29 = .ok (.getfield 50, 3) := by decide +kernel
theorem dX9_would_32 : decode cX9_would 32 = .ok (.invokestatic 56, 3) := by decide +kernel
theorem dX9_would_35 : decode cX9_would 35 = .ok (.istore 4, 2) := by decide +kernel
theorem dX9_would_37 : decode cX9_would 37 = .ok (.aload_n 1, 1) := by decide +kernel
theorem dX9_would_38 : decode cX9_would 38 = .ok (.iload 4, 2) := by decide +kernel
theorem dX9_would_40 : decode cX9_would 40 = .ok (.iconst 3, 1) := by decide +kernel
theorem dX9_would_41 : decode cX9_would 41 = .ok (.iadd, 1) := by decide +kernel
theorem dX9_would_42 : decode cX9_would 42 = .ok (.iaload, 1) := by decide +kernel
theorem dX9_would_43 : decode cX9_would 43 = .ok (.iconst (-1), 1) := by decide +kernel
theorem dX9_would_44 : decode cX9_would 44 = .ok (.if_icmp .eq 33, 3) := by decide +kernel
theorem dX9_would_47 : decode cX9_would 47 = .ok (.aload_n 1, 1) := by decide +kernel
theorem dX9_would_48 : decode cX9_would 48 = .ok (.iload 4, 2) := by decide +kernel
theorem dX9_would_50 : decode cX9_would 50 = .ok (.iconst 3, 1) := by decide +kernel
theorem dX9_would_51 : decode cX9_would 51 = .ok (.iadd, 1) := by decide +kernel
theorem dX9_would_52 : decode cX9_would 52 = .ok (.iaload, 1) := by decide +kernel
theorem dX9_would_53 : decode cX9_would 53 = .ok (.iconst 1, 1) := by decide +kernel
theorem dX9_would_54 : decode cX9_would 54 = .ok (.invokestatic 60, 3) := by decide +kernel
theorem dX9_would_57 : decode cX9_would 57 = .ok (.aload_n 1, 1) := by decide +kernel
theorem dX9_would_58 : decode cX9_would 58 = .ok (.iload 4, 2) := by decide +kernel
theorem dX9_would_60 : decode cX9_would 60 = .ok (.iconst 2, 1) := by decide +kernel
theorem dX9_would_61 : decode cX9_would 61 = .ok (.iadd, 1) := by decide +kernel
theorem dX9_would_62 : decode cX9_would 62 = .ok (.iaload, 1) := by decide +kernel
theorem dX9_would_63 : decode cX9_would 63 = .ok (.aload_n 0, 1) := by decide +kernel
theorem dX9_would_64 : decode cX9_would 64 = .ok (.getfield 53, 3) := by decide +kernel
theorem dX9_would_67 : decode cX9_would 67 = .ok (.invokestatic 60, 3) := by decide +kernel
theorem dX9_would_70 : decode cX9_would 70 = .ok (.if_icmp .ne 7, 3) := by decide +kernel
theorem dX9_would_73 : decode cX9_would 73 = .ok (.iconst 1, 1) := by decide +kernel
theorem dX9_would_74 : decode cX9_would 74 = .ok (.goto 4, 3) := by decide +kernel
theorem dX9_would_77 : decode cX9_would 77 = .ok (.iconst 0, 1) := by decide +kernel
theorem dX9_would_78 : decode cX9_would 78 = .ok (.istore 5, 2) := by decide +kernel
theorem dX9_would_80 : decode cX9_would 80 = .ok (.aload_n 0, 1) := by decide +kernel
theorem dX9_would_81 : decode cX9_would 81 = .ok (.getfield 53, 3) := by decide +kernel
theorem dX9_would_84 : decode cX9_would 84 = .ok (.aload_n 1, 1) := by decide +kernel
theorem dX9_would_85 : decode cX9_would 85 = .ok (.iconst 0, 1) := by decide +kernel
theorem dX9_would_86 : decode cX9_would 86 = .ok (.iaload, 1) := by decide +kernel
theorem dX9_would_87 : decode cX9_would 87 = .ok (.if_icmp .le 8, 3) := by decide +kernel
theorem dX9_would_90 : decode cX9_would 90 = .ok (.iload 5, 2) := by decide +kernel
theorem dX9_would_92 : decode cX9_would 92 = .ok (.ifCond .eq 7, 3) := by decide +kernel
theorem dX9_would_95 : decode cX9_would 95 = .ok (.iconst 0, 1) := by decide +kernel
theorem dX9_would_96 : decode cX9_would 96 = .ok (.goto 4, 3) := by decide +kernel
theorem dX9_would_99 : decode cX9_would 99 = .ok (.iconst 1, 1) := by decide +kernel
theorem dX9_would_100 : decode cX9_would 100 = .ok (.ireturn, 1) := by decide +kernel
theorem dX9_hears_0 : decode cX9_hears 0 = .ok (.aload_n 0, 1) := by decide +kernel
theorem dX9_hears_1 : decode cX9_hears 1 = .ok (.aload_n 1, 1) := by decide +kernel
theorem dX9_hears_2 : decode cX9_hears 2 = .ok (.iload_n 2, 1) := by decide +kernel
theorem dX9_hears_3 : decode cX9_hears 3 = .ok (.iload_n 3, 1) := by decide +kernel
theorem dX9_hears_4 : decode cX9_hears 4 = .ok (.invokevirtual 74, 3) := by decide +kernel
theorem dX9_hears_7 : decode cX9_hears 7 = .ok (.istore 4, 2) := by decide +kernel
theorem dX9_hears_9 : decode cX9_hears 9 = .ok (.bipush 30, 2) := by decide +kernel
theorem dX9_hears_11 : decode cX9_hears 11 = .ok (.bipush 22, 2) := by decide +kernel
theorem dX9_hears_13 : decode cX9_hears 13 = .ok (.iload_n 2, 1) := by decide +kernel
theorem dX9_hears_14 : decode cX9_hears 14 = .ok (.imul, 1) := by decide +kernel
theorem dX9_hears_15 : decode cX9_hears 15 = .ok (.iadd, 1) := by decide +kernel
theorem dX9_hears_16 : decode cX9_hears 16 = .ok (.istore 5, 2) := by decide +kernel
theorem dX9_hears_18 : decode cX9_hears 18 = .ok (.iload 4, 2) := by decide +kernel
theorem dX9_hears_20 : decode cX9_hears 20 = .ok (.iconst 3, 1) := by decide +kernel
theorem dX9_hears_21 : decode cX9_hears 21 = .ok (.if_icmp .ne 16, 3) := by decide +kernel
theorem dX9_hears_24 : decode cX9_hears 24 = .ok (.aload_n 1, 1) := by decide +kernel
theorem dX9_hears_25 : decode cX9_hears 25 = .ok (.iload 5, 2) := by decide +kernel
theorem dX9_hears_27 : decode cX9_hears 27 = .ok (.iconst 5, 1) := by decide +kernel
theorem dX9_hears_28 : decode cX9_hears 28 = .ok (.iadd, 1) := by decide +kernel
theorem dX9_hears_29 : decode cX9_hears 29 = .ok (.dup2, 1) := by decide +kernel
theorem dX9_hears_30 : decode cX9_hears 30 = .ok (.iaload, 1) := by decide +kernel
theorem dX9_hears_31 : decode cX9_hears 31 = .ok (.iconst 1, 1) := by decide +kernel
theorem dX9_hears_32 : decode cX9_hears 32 = .ok (.iadd, 1) := by decide +kernel
theorem dX9_hears_33 : decode cX9_hears 33 = .ok (.iastore, 1) := by decide +kernel
theorem dX9_hears_34 : decode cX9_hears 34 = .ok (.goto 155, 3) := by decide +kernel
theorem dX9_hears_37 : decode cX9_hears 37 = .ok (.iload 4, 2) := by decide +kernel
theorem dX9_hears_39 : decode cX9_hears 39 = .ok (.iconst 2, 1) := by decide +kernel
theorem dX9_hears_40 : decode cX9_hears 40 = .ok (.if_icmp .ne 26, 3) := by decide +kernel
theorem dX9_hears_43 : decode cX9_hears 43 = .ok (.aload_n 1, 1) := by decide +kernel
theorem dX9_hears_44 : decode cX9_hears 44 = .ok (.iload 5, 2) := by decide +kernel
theorem dX9_hears_46 : decode cX9_hears 46 = .ok (.iconst 1, 1) := by decide +kernel
theorem dX9_hears_47 : decode cX9_hears 47 = .ok (.iadd, 1) := by decide +kernel
theorem dX9_hears_48 : decode cX9_hears 48 = .ok (.dup2, 1) := by decide +kernel
theorem dX9_hears_49 : decode cX9_hears 49 = .ok (.iaload, 1) := by decide +kernel
theorem dX9_hears_50 : decode cX9_hears 50 = .ok (.iconst 1, 1) := by decide +kernel
theorem dX9_hears_51 : decode cX9_hears 51 = .ok (.iadd, 1) := by decide +kernel
theorem dX9_hears_52 : decode cX9_hears 52 = .ok (.iastore, 1) := by decide +kernel
theorem dX9_hears_53 : decode cX9_hears 53 = .ok (.aload_n 1, 1) := by decide +kernel
theorem dX9_hears_54 : decode cX9_hears 54 = .ok (.iload 5, 2) := by decide +kernel
theorem dX9_hears_56 : decode cX9_hears 56 = .ok (.iconst 4, 1) := by decide +kernel
theorem dX9_hears_57 : decode cX9_hears 57 = .ok (.iadd, 1) := by decide +kernel
theorem dX9_hears_58 : decode cX9_hears 58 = .ok (.dup2, 1) := by decide +kernel
theorem dX9_hears_59 : decode cX9_hears 59 = .ok (.iaload, 1) := by decide +kernel
theorem dX9_hears_60 : decode cX9_hears 60 = .ok (.iconst 1, 1) := by decide +kernel
theorem dX9_hears_61 : decode cX9_hears 61 = .ok (.iadd, 1) := by decide +kernel
theorem dX9_hears_62 : decode cX9_hears 62 = .ok (.iastore, 1) := by decide +kernel
theorem dX9_hears_63 : decode cX9_hears 63 = .ok (.goto 126, 3) := by decide +kernel
theorem dX9_hears_66 : decode cX9_hears 66 = .ok (.iload_n 2, 1) := by decide +kernel
theorem dX9_hears_67 : decode cX9_hears 67 = .ok (.aload_n 0, 1) := by decide +kernel
theorem dX9_hears_68 : decode cX9_hears 68 = .ok (.getfield 50, 3) := by decide +kernel
theorem dX9_hears_71 : decode cX9_hears 71 = .ok (.invokestatic 56, 3) := by decide +kernel
theorem dX9_hears_74 : decode cX9_hears 74 = .ok (.istore 6, 2) := by decide +kernel
theorem dX9_hears_76 : decode cX9_hears 76 = .ok (.aload_n 1, 1) := by decide +kernel
theorem dX9_hears_77 : decode cX9_hears 77 = .ok (.iload 6, 2) := by decide +kernel
theorem dX9_hears_79 : decode cX9_hears 79 = .ok (.iconst 2, 1) := by decide +kernel
theorem dX9_hears_80 : decode cX9_hears 80 = .ok (.iadd, 1) := by decide +kernel
theorem dX9_hears_81 : decode cX9_hears 81 = .ok (.iaload, 1) := by decide +kernel
theorem dX9_hears_82 : decode cX9_hears 82 = .ok (.aload_n 0, 1) := by decide +kernel
theorem dX9_hears_83 : decode cX9_hears 83 = .ok (.getfield 53, 3) := by decide +kernel
theorem dX9_hears_86 : decode cX9_hears 86 = .ok (.invokestatic 60, 3) := by decide +kernel
theorem dX9_hears_89 : decode cX9_hears 89 = .ok (.istore 7, 2) := by decide +kernel
theorem dX9_hears_91 : decode cX9_hears 91 = .ok (.aload_n 1, 1) := by decide +kernel
theorem dX9_hears_92 : decode cX9_hears 92 = .ok (.iload 6, 2) := by decide +kernel
theorem dX9_hears_94 : decode cX9_hears 94 = .ok (.iconst 3, 1) := by decide +kernel
theorem dX9_hears_95 : decode cX9_hears 95 = .ok (.iadd, 1) := by decide +kernel
theorem dX9_hears_96 : decode cX9_hears 96 = .ok (.iload 4, 2) := by decide +kernel
theorem dX9_hears_98 : decode cX9_hears 98 = .ok (.iconst 1, 1) := by decide +kernel
theorem dX9_hears_99 : decode cX9_hears 99 = .ok (.if_icmp .ne 8, 3) := by decide +kernel
theorem dX9_hears_102 : decode cX9_hears 102 = .ok (.iload 7, 2) := by decide +kernel
theorem dX9_hears_104 : decode cX9_hears 104 = .ok (.goto 4, 3) := by decide +kernel
theorem dX9_hears_107 : decode cX9_hears 107 = .ok (.iconst (-1), 1) := by decide +kernel
theorem dX9_hears_108 : decode cX9_hears 108 = .ok (.iastore, 1) := by decide +kernel
theorem dX9_hears_109 : decode cX9_hears 109 = .ok (.aload_n 1, 1) := by decide +kernel
theorem dX9_hears_110 : decode cX9_hears 110 = .ok (.iload 6, 2) := by decide +kernel
theorem dX9_hears_112 : decode cX9_hears 112 = .ok (.iconst 2, 1) := by decide +kernel
theorem dX9_hears_113 : decode cX9_hears 113 = .ok (.iadd, 1) := by decide +kernel
theorem dX9_hears_114 : decode cX9_hears 114 = .ok (.iload 4, 2) := by decide +kernel
theorem dX9_hears_116 : decode cX9_hears 116 = .ok (.iconst 1, 1) := by decide +kernel
theorem dX9_hears_117 : decode cX9_hears 117 = .ok (.if_icmp .ne 12, 3) := by decide +kernel
theorem dX9_hears_120 : decode cX9_hears 120 = .ok (.aload_n 1, 1) := by decide +kernel
theorem dX9_hears_121 : decode cX9_hears 121 = .ok (.iload 6, 2) := by decide +kernel
theorem dX9_hears_123 : decode cX9_hears 123 = .ok (.iconst 2, 1) := by decide +kernel
theorem dX9_hears_124 : decode cX9_hears 124 = .ok (.iadd, 1) := by decide +kernel
theorem dX9_hears_125 : decode cX9_hears 125 = .ok (.iaload, 1) := by decide +kernel
theorem dX9_hears_126 : decode cX9_hears 126 = .ok (.goto 5, 3) := by decide +kernel
theorem dX9_hears_129 : decode cX9_hears 129 = .ok (.iload 7, 2) := by decide +kernel
theorem dX9_hears_131 : decode cX9_hears 131 = .ok (.iastore, 1) := by decide +kernel
theorem dX9_hears_132 : decode cX9_hears 132 = .ok (.aload_n 1, 1) := by decide +kernel
theorem dX9_hears_133 : decode cX9_hears 133 = .ok (.iload 5, 2) := by decide +kernel
theorem dX9_hears_135 : decode cX9_hears 135 = .ok (.iload 4, 2) := by decide +kernel
theorem dX9_hears_137 : decode cX9_hears 137 = .ok (.ifCond .ne 7, 3) := by decide +kernel
theorem dX9_hears_140 : decode cX9_hears 140 = .ok (.iconst 1, 1) := by decide +kernel
theorem dX9_hears_141 : decode cX9_hears 141 = .ok (.goto 7, 3) := by decide +kernel
theorem dX9_hears_144 : decode cX9_hears 144 = .ok (.aload_n 1, 1) := by decide +kernel
theorem dX9_hears_145 : decode cX9_hears 145 = .ok (.iload 5, 2) := by decide +kernel
theorem dX9_hears_147 : decode cX9_hears 147 = .ok (.iaload, 1) := by decide +kernel
theorem dX9_hears_148 : decode cX9_hears 148 = .ok (.iastore, 1) := by decide +kernel
theorem dX9_hears_149 : decode cX9_hears 149 = .ok (.aload_n 1, 1) := by decide +kernel
theorem dX9_hears_150 : decode cX9_hears 150 = .ok (.iload 5, 2) := by decide +kernel
theorem dX9_hears_152 : decode cX9_hears 152 = .ok (.iconst 1, 1) := by decide +kernel
theorem dX9_hears_153 : decode cX9_hears 153 = .ok (.iadd, 1) := by decide +kernel
theorem dX9_hears_154 : decode cX9_hears 154 = .ok (.iload 4, 2) := by decide +kernel
theorem dX9_hears_156 : decode cX9_hears 156 = .ok (.ifCond .ne 7, 3) := by decide +kernel
theorem dX9_hears_159 : decode cX9_hears 159 = .ok (.iconst 0, 1) := by decide +kernel
theorem dX9_hears_160 : decode cX9_hears 160 = .ok (.goto 9, 3) := by decide +kernel
theorem dX9_hears_163 : decode cX9_hears 163 = .ok (.aload_n 1, 1) := by decide +kernel
theorem dX9_hears_164 : decode cX9_hears 164 = .ok (.iload 5, 2) := by decide +kernel
theorem dX9_hears_166 : decode cX9_hears 166 = .ok (.iconst 1, 1) := by decide +kernel
theorem dX9_hears_167 : decode cX9_hears 167 = .ok (.iadd, 1) := by decide +kernel
theorem dX9_hears_168 : decode cX9_hears 168 = .ok (.iaload, 1) := by decide +kernel
theorem dX9_hears_169 : decode cX9_hears 169 = .ok (.iastore, 1) := by decide +kernel
theorem dX9_hears_170 : decode cX9_hears 170 = .ok (.aload_n 1, 1) := by decide +kernel
theorem dX9_hears_171 : decode cX9_hears 171 = .ok (.iload 5, 2) := by decide +kernel
theorem dX9_hears_173 : decode cX9_hears 173 = .ok (.iload 4, 2) := by decide +kernel
theorem dX9_hears_175 : decode cX9_hears 175 = .ok (.ifCond .ne 7, 3) := by decide +kernel
theorem dX9_hears_178 : decode cX9_hears 178 = .ok (.iconst 2, 1) := by decide +kernel
theorem dX9_hears_179 : decode cX9_hears 179 = .ok (.goto 4, 3) := by decide +kernel
theorem dX9_hears_182 : decode cX9_hears 182 = .ok (.iconst 3, 1) := by decide +kernel
theorem dX9_hears_183 : decode cX9_hears 183 = .ok (.iadd, 1) := by decide +kernel
theorem dX9_hears_184 : decode cX9_hears 184 = .ok (.dup2, 1) := by decide +kernel
theorem dX9_hears_185 : decode cX9_hears 185 = .ok (.iaload, 1) := by decide +kernel
theorem dX9_hears_186 : decode cX9_hears 186 = .ok (.iconst 1, 1) := by decide +kernel
theorem dX9_hears_187 : decode cX9_hears 187 = .ok (.iadd, 1) := by decide +kernel
theorem dX9_hears_188 : decode cX9_hears 188 = .ok (.iastore, 1) := by decide +kernel
theorem dX9_hears_189 : decode cX9_hears 189 = .ok (.iload 4, 2) := by decide +kernel
theorem dX9_hears_191 : decode cX9_hears 191 = .ok (.ifCond .ne 7, 3) := by decide +kernel
theorem dX9_hears_194 : decode cX9_hears 194 = .ok (.iconst 1, 1) := by decide +kernel
theorem dX9_hears_195 : decode cX9_hears 195 = .ok (.goto 4, 3) := by decide +kernel
theorem dX9_hears_198 : decode cX9_hears 198 = .ok (.iconst 0, 1) := by decide +kernel
theorem dX9_hears_199 : decode cX9_hears 199 = .ok (.ireturn, 1) := by decide +kernel
theorem dX9_heard_0 : decode cX9_heard 0 = .ok (.iconst 0, 1) := by decide +kernel
theorem dX9_heard_1 : decode cX9_heard 1 = .ok (.istore 4, 2) := by decide +kernel
theorem dX9_heard_3 : decode cX9_heard 3 = .ok (.iconst 0, 1) := by decide +kernel
theorem dX9_heard_4 : decode cX9_heard 4 = .ok (.istore 5, 2) := by decide +kernel
theorem dX9_heard_6 : decode cX9_heard 6 = .ok (.iload 5, 2) := by decide +kernel
theorem dX9_heard_8 : decode cX9_heard 8 = .ok (.iconst 3, 1) := by decide +kernel
theorem dX9_heard_9 : decode cX9_heard 9 = .ok (.if_icmp .ge 43, 3) := by decide +kernel
theorem dX9_heard_12 : decode cX9_heard 12 = .ok (.iload 4, 2) := by decide +kernel
theorem dX9_heard_14 : decode cX9_heard 14 = .ok (.iload_n 2, 1) := by decide +kernel
theorem dX9_heard_15 : decode cX9_heard 15 = .ok (.iload 5, 2) := by decide +kernel
theorem dX9_heard_17 : decode cX9_heard 17 = .ok (.ishr, 1) := by decide +kernel
theorem dX9_heard_18 : decode cX9_heard 18 = .ok (.iconst 1, 1) := by decide +kernel
theorem dX9_heard_19 : decode cX9_heard 19 = .ok (.iand, 1) := by decide +kernel
theorem dX9_heard_20 : decode cX9_heard 20 = .ok (.iconst 1, 1) := by decide +kernel
theorem dX9_heard_21 : decode cX9_heard 21 = .ok (.if_icmp .ne 21, 3) := by decide +kernel
theorem dX9_heard_24 : decode cX9_heard 24 = .ok (.aload_n 0, 1) := by decide +kernel
theorem dX9_heard_25 : decode cX9_heard 25 = .ok (.aload_n 1, 1) := by decide +kernel
theorem dX9_heard_26 : decode cX9_heard 26 = .ok (.iload 5, 2) := by decide +kernel
theorem dX9_heard_28 : decode cX9_heard 28 = .ok (.iload_n 3, 1) := by decide +kernel
theorem dX9_heard_29 : decode cX9_heard 29 = .ok (.invokevirtual 78, 3) := by decide +kernel
theorem dX9_heard_32 : decode cX9_heard 32 = .ok (.ifCond .eq 10, 3) := by decide +kernel
theorem dX9_heard_35 : decode cX9_heard 35 = .ok (.iconst 1, 1) := by decide +kernel
theorem dX9_heard_36 : decode cX9_heard 36 = .ok (.iload 5, 2) := by decide +kernel
theorem dX9_heard_38 : decode cX9_heard 38 = .ok (.ishl, 1) := by decide +kernel
theorem dX9_heard_39 : decode cX9_heard 39 = .ok (.goto 4, 3) := by decide +kernel
theorem dX9_heard_42 : decode cX9_heard 42 = .ok (.iconst 0, 1) := by decide +kernel
theorem dX9_heard_43 : decode cX9_heard 43 = .ok (.ior, 1) := by decide +kernel
theorem dX9_heard_44 : decode cX9_heard 44 = .ok (.istore 4, 2) := by decide +kernel
theorem dX9_heard_46 : decode cX9_heard 46 = .ok (.iinc 5 1, 3) := by decide +kernel
theorem dX9_heard_49 : decode cX9_heard 49 = .ok (.goto (-43), 3) := by decide +kernel
theorem dX9_heard_52 : decode cX9_heard 52 = .ok (.iload 4, 2) := by decide +kernel
theorem dX9_heard_54 : decode cX9_heard 54 = .ok (.ireturn, 1) := by decide +kernel
theorem dX9_next_0 : decode cX9_next 0 = .ok (.aload_n 0, 1) := by decide +kernel
theorem dX9_next_1 : decode cX9_next 1 = .ok (.bipush 14, 2) := by decide +kernel
theorem dX9_next_3 : decode cX9_next 3 = .ok (.iconst 4, 1) := by decide +kernel
theorem dX9_next_4 : decode cX9_next 4 = .ok (.iload_n 1, 1) := by decide +kernel
theorem dX9_next_5 : decode cX9_next 5 = .ok (.imul, 1) := by decide +kernel
theorem dX9_next_6 : decode cX9_next 6 = .ok (.iadd, 1) := by decide +kernel
theorem dX9_next_7 : decode cX9_next 7 = .ok (.iaload, 1) := by decide +kernel
theorem dX9_next_8 : decode cX9_next 8 = .ok (.aload_n 0, 1) := by decide +kernel
theorem dX9_next_9 : decode cX9_next 9 = .ok (.bipush 14, 2) := by decide +kernel
theorem dX9_next_11 : decode cX9_next 11 = .ok (.iconst 4, 1) := by decide +kernel
theorem dX9_next_12 : decode cX9_next 12 = .ok (.iload_n 1, 1) := by decide +kernel
theorem dX9_next_13 : decode cX9_next 13 = .ok (.imul, 1) := by decide +kernel
theorem dX9_next_14 : decode cX9_next 14 = .ok (.iadd, 1) := by decide +kernel
theorem dX9_next_15 : decode cX9_next 15 = .ok (.iconst 1, 1) := by decide +kernel
theorem dX9_next_16 : decode cX9_next 16 = .ok (.iadd, 1) := by decide +kernel
theorem dX9_next_17 : decode cX9_next 17 = .ok (.iaload, 1) := by decide +kernel
theorem dX9_next_18 : decode cX9_next 18 = .ok (.iconst 1, 1) := by decide +kernel
theorem dX9_next_19 : decode cX9_next 19 = .ok (.invokestatic 60, 3) := by decide +kernel
theorem dX9_next_22 : decode cX9_next 22 = .ok (.invokestatic 63, 3) := by decide +kernel
theorem dX9_next_25 : decode cX9_next 25 = .ok (.ireturn, 1) := by decide +kernel
theorem dX9_presses_0 : decode cX9_presses 0 = .ok (.aload_n 1, 1) := by decide +kernel
theorem dX9_presses_1 : decode cX9_presses 1 = .ok (.iload_n 2, 1) := by decide +kernel
theorem dX9_presses_2 : decode cX9_presses 2 = .ok (.invokestatic 82, 3) := by decide +kernel
theorem dX9_presses_5 : decode cX9_presses 5 = .ok (.istore 4, 2) := by decide +kernel
theorem dX9_presses_7 : decode cX9_presses 7 = .ok (.bipush 14, 2) := by decide +kernel
theorem dX9_presses_9 : decode cX9_presses 9 = .ok (.iconst 4, 1) := by decide +kernel
theorem dX9_presses_10 : decode cX9_presses 10 = .ok (.iload_n 2, 1) := by decide +kernel
theorem dX9_presses_11 : decode cX9_presses 11 = .ok (.imul, 1) := by decide +kernel
theorem dX9_presses_12 : decode cX9_presses 12 = .ok (.iadd, 1) := by decide +kernel
theorem dX9_presses_13 : decode cX9_presses 13 = .ok (.istore 5, 2) := by decide +kernel
theorem dX9_presses_15 : decode cX9_presses 15 = .ok (.aload_n 1, 1) := by decide +kernel
theorem dX9_presses_16 : decode cX9_presses 16 = .ok (.iload 5, 2) := by decide +kernel
theorem dX9_presses_18 : decode cX9_presses 18 = .ok (.iconst 2, 1) := by decide +kernel
theorem dX9_presses_19 : decode cX9_presses 19 = .ok (.iadd, 1) := by decide +kernel
theorem dX9_presses_20 : decode cX9_presses 20 = .ok (.dup2, 1) := by decide +kernel
theorem dX9_presses_21 : decode cX9_presses 21 = .ok (.iaload, 1) := by decide +kernel
theorem dX9_presses_22 : decode cX9_presses 22 = .ok (.iconst 1, 1) := by decide +kernel
theorem dX9_presses_23 : decode cX9_presses 23 = .ok (.isub, 1) := by decide +kernel
theorem dX9_presses_24 : decode cX9_presses 24 = .ok (.iastore, 1) := by decide +kernel
theorem dX9_presses_25 : decode cX9_presses 25 = .ok (.aload_n 1, 1) := by decide +kernel
theorem dX9_presses_26 : decode cX9_presses 26 = .ok (.iload 5, 2) := by decide +kernel
theorem dX9_presses_28 : decode cX9_presses 28 = .ok (.iconst 1, 1) := by decide +kernel
theorem dX9_presses_29 : decode cX9_presses 29 = .ok (.iadd, 1) := by decide +kernel
theorem dX9_presses_30 : decode cX9_presses 30 = .ok (.aload_n 1, 1) := by decide +kernel
theorem dX9_presses_31 : decode cX9_presses 31 = .ok (.iload 5, 2) := by decide +kernel
theorem dX9_presses_33 : decode cX9_presses 33 = .ok (.iconst 1, 1) := by decide +kernel
theorem dX9_presses_34 : decode cX9_presses 34 = .ok (.iadd, 1) := by decide +kernel
theorem dX9_presses_35 : decode cX9_presses 35 = .ok (.iaload, 1) := by decide +kernel
theorem dX9_presses_36 : decode cX9_presses 36 = .ok (.iconst 1, 1) := by decide +kernel
theorem dX9_presses_37 : decode cX9_presses 37 = .ok (.invokestatic 60, 3) := by decide +kernel
theorem dX9_presses_40 : decode cX9_presses 40 = .ok (.iastore, 1) := by decide +kernel
theorem dX9_presses_41 : decode cX9_presses 41 = .ok (.aload_n 1, 1) := by decide +kernel
theorem dX9_presses_42 : decode cX9_presses 42 = .ok (.iload 5, 2) := by decide +kernel
theorem dX9_presses_44 : decode cX9_presses 44 = .ok (.iconst 3, 1) := by decide +kernel
theorem dX9_presses_45 : decode cX9_presses 45 = .ok (.iadd, 1) := by decide +kernel
theorem dX9_presses_46 : decode cX9_presses 46 = .ok (.dup2, 1) := by decide +kernel
theorem dX9_presses_47 : decode cX9_presses 47 = .ok (.iaload, 1) := by decide +kernel
theorem dX9_presses_48 : decode cX9_presses 48 = .ok (.iconst 1, 1) := by decide +kernel
theorem dX9_presses_49 : decode cX9_presses 49 = .ok (.iadd, 1) := by decide +kernel
theorem dX9_presses_50 : decode cX9_presses 50 = .ok (.iastore, 1) := by decide +kernel
theorem dX9_presses_51 : decode cX9_presses 51 = .ok (.bipush 7, 2) := by decide +kernel
theorem dX9_presses_53 : decode cX9_presses 53 = .ok (.istore 6, 2) := by decide +kernel
theorem dX9_presses_55 : decode cX9_presses 55 = .ok (.iload 6, 2) := by decide +kernel
theorem dX9_presses_57 : decode cX9_presses 57 = .ok (.ifCond .le 25, 3) := by decide +kernel
theorem dX9_presses_60 : decode cX9_presses 60 = .ok (.aload_n 1, 1) := by decide +kernel
theorem dX9_presses_61 : decode cX9_presses 61 = .ok (.bipush 6, 2) := by decide +kernel
theorem dX9_presses_63 : decode cX9_presses 63 = .ok (.iload 6, 2) := by decide +kernel
theorem dX9_presses_65 : decode cX9_presses 65 = .ok (.iadd, 1) := by decide +kernel
theorem dX9_presses_66 : decode cX9_presses 66 = .ok (.aload_n 1, 1) := by decide +kernel
theorem dX9_presses_67 : decode cX9_presses 67 = .ok (.bipush 6, 2) := by decide +kernel
theorem dX9_presses_69 : decode cX9_presses 69 = .ok (.iload 6, 2) := by decide +kernel
theorem dX9_presses_71 : decode cX9_presses 71 = .ok (.iadd, 1) := by decide +kernel
theorem dX9_presses_72 : decode cX9_presses 72 = .ok (.iconst 1, 1) := by decide +kernel
theorem dX9_presses_73 : decode cX9_presses 73 = .ok (.isub, 1) := by decide +kernel
theorem dX9_presses_74 : decode cX9_presses 74 = .ok (.iaload, 1) := by decide +kernel
theorem dX9_presses_75 : decode cX9_presses 75 = .ok (.iastore, 1) := by decide +kernel
theorem dX9_presses_76 : decode cX9_presses 76 = .ok (.iinc 6 (-1), 3) := by decide +kernel
theorem dX9_presses_79 : decode cX9_presses 79 = .ok (.goto (-24), 3) := by decide +kernel
theorem dX9_presses_82 : decode cX9_presses 82 = .ok (.aload_n 1, 1) := by decide +kernel
theorem dX9_presses_83 : decode cX9_presses 83 = .ok (.bipush 6, 2) := by decide +kernel
theorem dX9_presses_85 : decode cX9_presses 85 = .ok (.iload 4, 2) := by decide +kernel
theorem dX9_presses_87 : decode cX9_presses 87 = .ok (.iastore, 1) := by decide +kernel
theorem dX9_presses_88 : decode cX9_presses 88 = .ok (.aload_n 1, 1) := by decide +kernel
theorem dX9_presses_89 : decode cX9_presses 89 = .ok (.iconst 5, 1) := by decide +kernel
theorem dX9_presses_90 : decode cX9_presses 90 = .ok (.dup2, 1) := by decide +kernel
theorem dX9_presses_91 : decode cX9_presses 91 = .ok (.iaload, 1) := by decide +kernel
theorem dX9_presses_92 : decode cX9_presses 92 = .ok (.aload_n 1, 1) := by decide +kernel
theorem dX9_presses_93 : decode cX9_presses 93 = .ok (.iconst 5, 1) := by decide +kernel
theorem dX9_presses_94 : decode cX9_presses 94 = .ok (.iaload, 1) := by decide +kernel
theorem dX9_presses_95 : decode cX9_presses 95 = .ok (.bipush 8, 2) := by decide +kernel
theorem dX9_presses_97 : decode cX9_presses 97 = .ok (.if_icmp .ge 7, 3) := by decide +kernel
theorem dX9_presses_100 : decode cX9_presses 100 = .ok (.iconst 1, 1) := by decide +kernel
theorem dX9_presses_101 : decode cX9_presses 101 = .ok (.goto 4, 3) := by decide +kernel
theorem dX9_presses_104 : decode cX9_presses 104 = .ok (.iconst 0, 1) := by decide +kernel
theorem dX9_presses_105 : decode cX9_presses 105 = .ok (.iadd, 1) := by decide +kernel
theorem dX9_presses_106 : decode cX9_presses 106 = .ok (.iastore, 1) := by decide +kernel
theorem dX9_presses_107 : decode cX9_presses 107 = .ok (.aload_n 0, 1) := by decide +kernel
theorem dX9_presses_108 : decode cX9_presses 108 = .ok (.aload_n 1, 1) := by decide +kernel
theorem dX9_presses_109 : decode cX9_presses 109 = .ok (.iload_n 3, 1) := by decide +kernel
theorem dX9_presses_110 : decode cX9_presses 110 = .ok (.iload 4, 2) := by decide +kernel
theorem dX9_presses_112 : decode cX9_presses 112 = .ok (.invokevirtual 86, 3) := by decide +kernel
theorem dX9_presses_115 : decode cX9_presses 115 = .ok (.ireturn, 1) := by decide +kernel
theorem dX9_ones_0 : decode cX9_ones 0 = .ok (.iload_n 0, 1) := by decide +kernel
theorem dX9_ones_1 : decode cX9_ones 1 = .ok (.iconst 1, 1) := by decide +kernel
theorem dX9_ones_2 : decode cX9_ones 2 = .ok (.iand, 1) := by decide +kernel
theorem dX9_ones_3 : decode cX9_ones 3 = .ok (.iload_n 0, 1) := by decide +kernel
theorem dX9_ones_4 : decode cX9_ones 4 = .ok (.iconst 1, 1) := by decide +kernel
theorem dX9_ones_5 : decode cX9_ones 5 = .ok (.ishr, 1) := by decide +kernel
theorem dX9_ones_6 : decode cX9_ones 6 = .ok (.iconst 1, 1) := by decide +kernel
theorem dX9_ones_7 : decode cX9_ones 7 = .ok (.iand, 1) := by decide +kernel
theorem dX9_ones_8 : decode cX9_ones 8 = .ok (.iadd, 1) := by decide +kernel
theorem dX9_ones_9 : decode cX9_ones 9 = .ok (.iload_n 0, 1) := by decide +kernel
theorem dX9_ones_10 : decode cX9_ones 10 = .ok (.iconst 2, 1) := by decide +kernel
theorem dX9_ones_11 : decode cX9_ones 11 = .ok (.ishr, 1) := by decide +kernel
theorem dX9_ones_12 : decode cX9_ones 12 = .ok (.iconst 1, 1) := by decide +kernel
theorem dX9_ones_13 : decode cX9_ones 13 = .ok (.iand, 1) := by decide +kernel
theorem dX9_ones_14 : decode cX9_ones 14 = .ok (.iadd, 1) := by decide +kernel
theorem dX9_ones_15 : decode cX9_ones 15 = .ok (.ireturn, 1) := by decide +kernel
theorem dX9_sends_0 : decode cX9_sends 0 = .ok (.aload_n 0, 1) := by decide +kernel
theorem dX9_sends_1 : decode cX9_sends 1 = .ok (.aload_n 0, 1) := by decide +kernel
theorem dX9_sends_2 : decode cX9_sends 2 = .ok (.getfield 7, 3) := by decide +kernel
theorem dX9_sends_5 : decode cX9_sends 5 = .ok (.iload_n 2, 1) := by decide +kernel
theorem dX9_sends_6 : decode cX9_sends 6 = .ok (.aload_n 0, 1) := by decide +kernel
theorem dX9_sends_7 : decode cX9_sends 7 = .ok (.getfield 7, 3) := by decide +kernel
theorem dX9_sends_10 : decode cX9_sends 10 = .ok (.bipush 6, 2) := by decide +kernel
theorem dX9_sends_12 : decode cX9_sends 12 = .ok (.iload_n 1, 1) := by decide +kernel
theorem dX9_sends_13 : decode cX9_sends 13 = .ok (.iadd, 1) := by decide +kernel
theorem dX9_sends_14 : decode cX9_sends 14 = .ok (.iaload, 1) := by decide +kernel
theorem dX9_sends_15 : decode cX9_sends 15 = .ok (.invokevirtual 86, 3) := by decide +kernel
theorem dX9_sends_18 : decode cX9_sends 18 = .ok (.istore_n 3, 1) := by decide +kernel
theorem dX9_sends_19 : decode cX9_sends 19 = .ok (.aload_n 0, 1) := by decide +kernel
theorem dX9_sends_20 : decode cX9_sends 20 = .ok (.getfield 7, 3) := by decide +kernel
theorem dX9_sends_23 : decode cX9_sends 23 = .ok (.iconst 3, 1) := by decide +kernel
theorem dX9_sends_24 : decode cX9_sends 24 = .ok (.dup2, 1) := by decide +kernel
theorem dX9_sends_25 : decode cX9_sends 25 = .ok (.iaload, 1) := by decide +kernel
theorem dX9_sends_26 : decode cX9_sends 26 = .ok (.iconst 1, 1) := by decide +kernel
theorem dX9_sends_27 : decode cX9_sends 27 = .ok (.iadd, 1) := by decide +kernel
theorem dX9_sends_28 : decode cX9_sends 28 = .ok (.iastore, 1) := by decide +kernel
theorem dX9_sends_29 : decode cX9_sends 29 = .ok (.aload_n 0, 1) := by decide +kernel
theorem dX9_sends_30 : decode cX9_sends 30 = .ok (.getfield 7, 3) := by decide +kernel
theorem dX9_sends_33 : decode cX9_sends 33 = .ok (.iconst 4, 1) := by decide +kernel
theorem dX9_sends_34 : decode cX9_sends 34 = .ok (.dup2, 1) := by decide +kernel
theorem dX9_sends_35 : decode cX9_sends 35 = .ok (.iaload, 1) := by decide +kernel
theorem dX9_sends_36 : decode cX9_sends 36 = .ok (.iload_n 3, 1) := by decide +kernel
theorem dX9_sends_37 : decode cX9_sends 37 = .ok (.invokestatic 89, 3) := by decide +kernel
theorem dX9_sends_40 : decode cX9_sends 40 = .ok (.iadd, 1) := by decide +kernel
theorem dX9_sends_41 : decode cX9_sends 41 = .ok (.iastore, 1) := by decide +kernel
theorem dX9_sends_42 : decode cX9_sends 42 = .ok (.iload_n 3, 1) := by decide +kernel
theorem dX9_sends_43 : decode cX9_sends 43 = .ok (.ireturn, 1) := by decide +kernel
theorem dX9_changes_0 : decode cX9_changes 0 = .ok (.aload_n 0, 1) := by decide +kernel
theorem dX9_changes_1 : decode cX9_changes 1 = .ok (.getfield 7, 3) := by decide +kernel
theorem dX9_changes_4 : decode cX9_changes 4 = .ok (.iload_n 1, 1) := by decide +kernel
theorem dX9_changes_5 : decode cX9_changes 5 = .ok (.iaload, 1) := by decide +kernel
theorem dX9_changes_6 : decode cX9_changes 6 = .ok (.istore_n 3, 1) := by decide +kernel
theorem dX9_changes_7 : decode cX9_changes 7 = .ok (.aload_n 0, 1) := by decide +kernel
theorem dX9_changes_8 : decode cX9_changes 8 = .ok (.getfield 7, 3) := by decide +kernel
theorem dX9_changes_11 : decode cX9_changes 11 = .ok (.iload_n 1, 1) := by decide +kernel
theorem dX9_changes_12 : decode cX9_changes 12 = .ok (.iload_n 2, 1) := by decide +kernel
theorem dX9_changes_13 : decode cX9_changes 13 = .ok (.iastore, 1) := by decide +kernel
theorem dX9_changes_14 : decode cX9_changes 14 = .ok (.iload_n 3, 1) := by decide +kernel
theorem dX9_changes_15 : decode cX9_changes 15 = .ok (.ireturn, 1) := by decide +kernel
theorem dX9_make_0 : decode cX9_make 0 = .ok (.aload_n 0, 1) := by decide +kernel
theorem dX9_make_1 : decode cX9_make 1 = .ok (.iconst 0, 1) := by decide +kernel
theorem dX9_make_2 : decode cX9_make 2 = .ok (.putfield 25, 3) := by decide +kernel
theorem dX9_make_5 : decode cX9_make 5 = .ok (.iload_n 1, 1) := by decide +kernel
theorem dX9_make_6 : decode cX9_make 6 = .ok (.invokestatic 92, 3) := by decide +kernel
theorem dX9_make_9 : decode cX9_make 9 = .ok (.ifCond .ne 9, 3) := by decide +kernel
theorem dX9_make_12 : decode cX9_make 12 = .ok (.aload_n 0, 1) := by decide +kernel
theorem dX9_make_13 : decode cX9_make 13 = .ok (.iconst 1, 1) := by decide +kernel
theorem dX9_make_14 : decode cX9_make 14 = .ok (.invokevirtual 44, 3) := by decide +kernel
theorem dX9_make_17 : decode cX9_make 17 = .ok (.ireturn, 1) := by decide +kernel
theorem dX9_make_18 : decode cX9_make 18 = .ok (.iload_n 2, 1) := by decide +kernel
theorem dX9_make_19 : decode cX9_make 19 = .ok (.iconst 0, 1) := by decide +kernel
theorem dX9_make_20 : decode cX9_make 20 = .ok (.sipush 9999, 3) := by decide +kernel
theorem dX9_make_23 : decode cX9_make 23 = .ok (.invokestatic 29, 3) := by decide +kernel
theorem dX9_make_26 : decode cX9_make 26 = .ok (.ifCond .eq 14, 3) := by decide +kernel
theorem dX9_make_29 : decode cX9_make 29 = .ok (.iload_n 3, 1) := by decide +kernel
theorem dX9_make_30 : decode cX9_make 30 = .ok (.iconst 0, 1) := by decide +kernel
theorem dX9_make_31 : decode cX9_make 31 = .ok (.sipush 9999, 3) := by decide +kernel
theorem dX9_make_34 : decode cX9_make 34 = .ok (.invokestatic 29, 3) := by decide +kernel
theorem dX9_make_37 : decode cX9_make 37 = .ok (.ifCond .ne 9, 3) := by decide +kernel
theorem dX9_make_40 : decode cX9_make 40 = .ok (.aload_n 0, 1) := by decide +kernel
theorem dX9_make_41 : decode cX9_make 41 = .ok (.iconst 2, 1) := by decide +kernel
theorem dX9_make_42 : decode cX9_make 42 = .ok (.invokevirtual 44, 3) := by decide +kernel
theorem dX9_make_45 : decode cX9_make 45 = .ok (.ireturn, 1) := by decide +kernel
theorem dX9_make_46 : decode cX9_make 46 = .ok (.aload_n 0, 1) := by decide +kernel
theorem dX9_make_47 : decode cX9_make 47 = .ok (.invokevirtual 95, 3) := by decide +kernel
theorem dX9_make_50 : decode cX9_make 50 = .ok (.aload_n 0, 1) := by decide +kernel
theorem dX9_make_51 : decode cX9_make 51 = .ok (.getfield 7, 3) := by decide +kernel
theorem dX9_make_54 : decode cX9_make 54 = .ok (.bipush 14, 2) := by decide +kernel
theorem dX9_make_56 : decode cX9_make 56 = .ok (.iconst 4, 1) := by decide +kernel
theorem dX9_make_57 : decode cX9_make 57 = .ok (.iload_n 1, 1) := by decide +kernel
theorem dX9_make_58 : decode cX9_make 58 = .ok (.imul, 1) := by decide +kernel
theorem dX9_make_59 : decode cX9_make 59 = .ok (.iadd, 1) := by decide +kernel
theorem dX9_make_60 : decode cX9_make 60 = .ok (.iload_n 2, 1) := by decide +kernel
theorem dX9_make_61 : decode cX9_make 61 = .ok (.iastore, 1) := by decide +kernel
theorem dX9_make_62 : decode cX9_make 62 = .ok (.aload_n 0, 1) := by decide +kernel
theorem dX9_make_63 : decode cX9_make 63 = .ok (.bipush 14, 2) := by decide +kernel
theorem dX9_make_65 : decode cX9_make 65 = .ok (.iconst 4, 1) := by decide +kernel
theorem dX9_make_66 : decode cX9_make 66 = .ok (.iload_n 1, 1) := by decide +kernel
theorem dX9_make_67 : decode cX9_make 67 = .ok (.imul, 1) := by decide +kernel
theorem dX9_make_68 : decode cX9_make 68 = .ok (.iadd, 1) := by decide +kernel
theorem dX9_make_69 : decode cX9_make 69 = .ok (.iconst 1, 1) := by decide +kernel
theorem dX9_make_70 : decode cX9_make 70 = .ok (.iadd, 1) := by decide +kernel
theorem dX9_make_71 : decode cX9_make 71 = .ok (.iload_n 3, 1) := by decide +kernel
theorem dX9_make_72 : decode cX9_make 72 = .ok (.invokevirtual 98, 3) := by decide +kernel
theorem dX9_make_75 : decode cX9_make 75 = .ok (.ireturn, 1) := by decide +kernel
theorem dX9_battery_0 : decode cX9_battery 0 = .ok (.aload_n 0, 1) := by decide +kernel
theorem dX9_battery_1 : decode cX9_battery 1 = .ok (.iconst 0, 1) := by decide +kernel
theorem dX9_battery_2 : decode cX9_battery 2 = .ok (.putfield 25, 3) := by decide +kernel
theorem dX9_battery_5 : decode cX9_battery 5 = .ok (.iload_n 1, 1) := by decide +kernel
theorem dX9_battery_6 : decode cX9_battery 6 = .ok (.invokestatic 92, 3) := by decide +kernel
theorem dX9_battery_9 : decode cX9_battery 9 = .ok (.ifCond .ne 9, 3) := by decide +kernel
theorem dX9_battery_12 : decode cX9_battery 12 = .ok (.aload_n 0, 1) := by decide +kernel
theorem dX9_battery_13 : decode cX9_battery 13 = .ok (.iconst 1, 1) := by decide +kernel
theorem dX9_battery_14 : decode cX9_battery 14 = .ok (.invokevirtual 44, 3) := by decide +kernel
theorem dX9_battery_17 : decode cX9_battery 17 = .ok (.ireturn, 1) := by decide +kernel
theorem dX9_battery_18 : decode cX9_battery 18 = .ok (.iload_n 2, 1) := by decide +kernel
theorem dX9_battery_19 : decode cX9_battery 19 = .ok (.iconst 0, 1) := by decide +kernel
theorem dX9_battery_20 : decode cX9_battery 20 = .ok (.sipush 999, 3) := by decide +kernel
theorem dX9_battery_23 : decode cX9_battery 23 = .ok (.invokestatic 29, 3) := by decide +kernel
theorem dX9_battery_26 : decode cX9_battery 26 = .ok (.ifCond .ne 9, 3) := by decide +kernel
theorem dX9_battery_29 : decode cX9_battery 29 = .ok (.aload_n 0, 1) := by decide +kernel
theorem dX9_battery_30 : decode cX9_battery 30 = .ok (.iconst 2, 1) := by decide +kernel
theorem dX9_battery_31 : decode cX9_battery 31 = .ok (.invokevirtual 44, 3) := by decide +kernel
theorem dX9_battery_34 : decode cX9_battery 34 = .ok (.ireturn, 1) := by decide +kernel
theorem dX9_battery_35 : decode cX9_battery 35 = .ok (.aload_n 0, 1) := by decide +kernel
theorem dX9_battery_36 : decode cX9_battery 36 = .ok (.invokevirtual 95, 3) := by decide +kernel
theorem dX9_battery_39 : decode cX9_battery 39 = .ok (.aload_n 0, 1) := by decide +kernel
theorem dX9_battery_40 : decode cX9_battery 40 = .ok (.bipush 14, 2) := by decide +kernel
theorem dX9_battery_42 : decode cX9_battery 42 = .ok (.iconst 4, 1) := by decide +kernel
theorem dX9_battery_43 : decode cX9_battery 43 = .ok (.iload_n 1, 1) := by decide +kernel
theorem dX9_battery_44 : decode cX9_battery 44 = .ok (.imul, 1) := by decide +kernel
theorem dX9_battery_45 : decode cX9_battery 45 = .ok (.iadd, 1) := by decide +kernel
theorem dX9_battery_46 : decode cX9_battery 46 = .ok (.iconst 2, 1) := by decide +kernel
theorem dX9_battery_47 : decode cX9_battery 47 = .ok (.iadd, 1) := by decide +kernel
theorem dX9_battery_48 : decode cX9_battery 48 = .ok (.iload_n 2, 1) := by decide +kernel
theorem dX9_battery_49 : decode cX9_battery 49 = .ok (.invokevirtual 98, 3) := by decide +kernel
theorem dX9_battery_52 : decode cX9_battery 52 = .ok (.ireturn, 1) := by decide +kernel
theorem dX9_press_0 : decode cX9_press 0 = .ok (.aload_n 0, 1) := by decide +kernel
theorem dX9_press_1 : decode cX9_press 1 = .ok (.iconst 0, 1) := by decide +kernel
theorem dX9_press_2 : decode cX9_press 2 = .ok (.putfield 25, 3) := by decide +kernel
theorem dX9_press_5 : decode cX9_press 5 = .ok (.iload_n 1, 1) := by decide +kernel
theorem dX9_press_6 : decode cX9_press 6 = .ok (.invokestatic 92, 3) := by decide +kernel
theorem dX9_press_9 : decode cX9_press 9 = .ok (.ifCond .ne 9, 3) := by decide +kernel
theorem dX9_press_12 : decode cX9_press 12 = .ok (.aload_n 0, 1) := by decide +kernel
theorem dX9_press_13 : decode cX9_press 13 = .ok (.iconst 1, 1) := by decide +kernel
theorem dX9_press_14 : decode cX9_press 14 = .ok (.invokevirtual 44, 3) := by decide +kernel
theorem dX9_press_17 : decode cX9_press 17 = .ok (.ireturn, 1) := by decide +kernel
theorem dX9_press_18 : decode cX9_press 18 = .ok (.iload_n 2, 1) := by decide +kernel
theorem dX9_press_19 : decode cX9_press 19 = .ok (.iconst 0, 1) := by decide +kernel
theorem dX9_press_20 : decode cX9_press 20 = .ok (.bipush 7, 2) := by decide +kernel
theorem dX9_press_22 : decode cX9_press 22 = .ok (.invokestatic 29, 3) := by decide +kernel
theorem dX9_press_25 : decode cX9_press 25 = .ok (.ifCond .ne 9, 3) := by decide +kernel
theorem dX9_press_28 : decode cX9_press 28 = .ok (.aload_n 0, 1) := by decide +kernel
theorem dX9_press_29 : decode cX9_press 29 = .ok (.iconst 2, 1) := by decide +kernel
theorem dX9_press_30 : decode cX9_press 30 = .ok (.invokevirtual 44, 3) := by decide +kernel
theorem dX9_press_33 : decode cX9_press 33 = .ok (.ireturn, 1) := by decide +kernel
theorem dX9_press_34 : decode cX9_press 34 = .ok (.aload_n 0, 1) := by decide +kernel
theorem dX9_press_35 : decode cX9_press 35 = .ok (.getfield 7, 3) := by decide +kernel
theorem dX9_press_38 : decode cX9_press 38 = .ok (.bipush 14, 2) := by decide +kernel
theorem dX9_press_40 : decode cX9_press 40 = .ok (.iconst 4, 1) := by decide +kernel
theorem dX9_press_41 : decode cX9_press 41 = .ok (.iload_n 1, 1) := by decide +kernel
theorem dX9_press_42 : decode cX9_press 42 = .ok (.imul, 1) := by decide +kernel
theorem dX9_press_43 : decode cX9_press 43 = .ok (.iadd, 1) := by decide +kernel
theorem dX9_press_44 : decode cX9_press 44 = .ok (.iconst 2, 1) := by decide +kernel
theorem dX9_press_45 : decode cX9_press 45 = .ok (.iadd, 1) := by decide +kernel
theorem dX9_press_46 : decode cX9_press 46 = .ok (.iaload, 1) := by decide +kernel
theorem dX9_press_47 : decode cX9_press 47 = .ok (.ifCond .ne 9, 3) := by decide +kernel
theorem dX9_press_50 : decode cX9_press 50 = .ok (.aload_n 0, 1) := by decide +kernel
theorem dX9_press_51 : decode cX9_press 51 = .ok (.iconst 3, 1) := by decide +kernel
theorem dX9_press_52 : decode cX9_press 52 = .ok (.invokevirtual 44, 3) := by decide +kernel
theorem dX9_press_55 : decode cX9_press 55 = .ok (.ireturn, 1) := by decide +kernel
theorem dX9_press_56 : decode cX9_press 56 = .ok (.aload_n 0, 1) := by decide +kernel
theorem dX9_press_57 : decode cX9_press 57 = .ok (.invokevirtual 95, 3) := by decide +kernel
theorem dX9_press_60 : decode cX9_press 60 = .ok (.aload_n 0, 1) := by decide +kernel
theorem dX9_press_61 : decode cX9_press 61 = .ok (.aload_n 0, 1) := by decide +kernel
theorem dX9_press_62 : decode cX9_press 62 = .ok (.getfield 7, 3) := by decide +kernel
theorem dX9_press_65 : decode cX9_press 65 = .ok (.iload_n 1, 1) := by decide +kernel
theorem dX9_press_66 : decode cX9_press 66 = .ok (.iload_n 2, 1) := by decide +kernel
theorem dX9_press_67 : decode cX9_press 67 = .ok (.invokevirtual 101, 3) := by decide +kernel
theorem dX9_press_70 : decode cX9_press 70 = .ok (.ireturn, 1) := by decide +kernel
theorem dX9_again_0 : decode cX9_again 0 = .ok (.aload_n 0, 1) := by decide +kernel
theorem dX9_again_1 : decode cX9_again 1 = .ok (.iconst 0, 1) := by decide +kernel
theorem dX9_again_2 : decode cX9_again 2 = .ok (.putfield 25, 3) := by decide +kernel
theorem dX9_again_5 : decode cX9_again 5 = .ok (.iload_n 1, 1) := by decide +kernel
theorem dX9_again_6 : decode cX9_again 6 = .ok (.iconst 0, 1) := by decide +kernel
theorem dX9_again_7 : decode cX9_again 7 = .ok (.aload_n 0, 1) := by decide +kernel
theorem dX9_again_8 : decode cX9_again 8 = .ok (.getfield 7, 3) := by decide +kernel
theorem dX9_again_11 : decode cX9_again 11 = .ok (.iconst 5, 1) := by decide +kernel
theorem dX9_again_12 : decode cX9_again 12 = .ok (.iaload, 1) := by decide +kernel
theorem dX9_again_13 : decode cX9_again 13 = .ok (.iconst 1, 1) := by decide +kernel
theorem dX9_again_14 : decode cX9_again 14 = .ok (.isub, 1) := by decide +kernel
theorem dX9_again_15 : decode cX9_again 15 = .ok (.invokestatic 29, 3) := by decide +kernel
theorem dX9_again_18 : decode cX9_again 18 = .ok (.ifCond .ne 9, 3) := by decide +kernel
theorem dX9_again_21 : decode cX9_again 21 = .ok (.aload_n 0, 1) := by decide +kernel
theorem dX9_again_22 : decode cX9_again 22 = .ok (.iconst 1, 1) := by decide +kernel
theorem dX9_again_23 : decode cX9_again 23 = .ok (.invokevirtual 44, 3) := by decide +kernel
theorem dX9_again_26 : decode cX9_again 26 = .ok (.ireturn, 1) := by decide +kernel
theorem dX9_again_27 : decode cX9_again 27 = .ok (.iload_n 2, 1) := by decide +kernel
theorem dX9_again_28 : decode cX9_again 28 = .ok (.iconst 0, 1) := by decide +kernel
theorem dX9_again_29 : decode cX9_again 29 = .ok (.bipush 7, 2) := by decide +kernel
theorem dX9_again_31 : decode cX9_again 31 = .ok (.invokestatic 29, 3) := by decide +kernel
theorem dX9_again_34 : decode cX9_again 34 = .ok (.ifCond .ne 9, 3) := by decide +kernel
theorem dX9_again_37 : decode cX9_again 37 = .ok (.aload_n 0, 1) := by decide +kernel
theorem dX9_again_38 : decode cX9_again 38 = .ok (.iconst 2, 1) := by decide +kernel
theorem dX9_again_39 : decode cX9_again 39 = .ok (.invokevirtual 44, 3) := by decide +kernel
theorem dX9_again_42 : decode cX9_again 42 = .ok (.ireturn, 1) := by decide +kernel
theorem dX9_again_43 : decode cX9_again 43 = .ok (.aload_n 0, 1) := by decide +kernel
theorem dX9_again_44 : decode cX9_again 44 = .ok (.invokevirtual 95, 3) := by decide +kernel
theorem dX9_again_47 : decode cX9_again 47 = .ok (.aload_n 0, 1) := by decide +kernel
theorem dX9_again_48 : decode cX9_again 48 = .ok (.iload_n 1, 1) := by decide +kernel
theorem dX9_again_49 : decode cX9_again 49 = .ok (.iload_n 2, 1) := by decide +kernel
theorem dX9_again_50 : decode cX9_again 50 = .ok (.invokevirtual 104, 3) := by decide +kernel
theorem dX9_again_53 : decode cX9_again 53 = .ok (.ireturn, 1) := by decide +kernel
theorem dX9_learnt_0 : decode cX9_learnt 0 = .ok (.iconst 0, 1) := by decide +kernel
theorem dX9_learnt_1 : decode cX9_learnt 1 = .ok (.istore_n 2, 1) := by decide +kernel
theorem dX9_learnt_2 : decode cX9_learnt 2 = .ok (.iconst 0, 1) := by decide +kernel
theorem dX9_learnt_3 : decode cX9_learnt 3 = .ok (.istore_n 3, 1) := by decide +kernel
theorem dX9_learnt_4 : decode cX9_learnt 4 = .ok (.iload_n 3, 1) := by decide +kernel
theorem dX9_learnt_5 : decode cX9_learnt 5 = .ok (.iconst 4, 1) := by decide +kernel
theorem dX9_learnt_6 : decode cX9_learnt 6 = .ok (.if_icmp .ge 22, 3) := by decide +kernel
theorem dX9_learnt_9 : decode cX9_learnt 9 = .ok (.iload_n 2, 1) := by decide +kernel
theorem dX9_learnt_10 : decode cX9_learnt 10 = .ok (.aload_n 0, 1) := by decide +kernel
theorem dX9_learnt_11 : decode cX9_learnt 11 = .ok (.getfield 7, 3) := by decide +kernel
theorem dX9_learnt_14 : decode cX9_learnt 14 = .ok (.iload_n 1, 1) := by decide +kernel
theorem dX9_learnt_15 : decode cX9_learnt 15 = .ok (.iload_n 3, 1) := by decide +kernel
theorem dX9_learnt_16 : decode cX9_learnt 16 = .ok (.invokestatic 56, 3) := by decide +kernel
theorem dX9_learnt_19 : decode cX9_learnt 19 = .ok (.iaload, 1) := by decide +kernel
theorem dX9_learnt_20 : decode cX9_learnt 20 = .ok (.iadd, 1) := by decide +kernel
theorem dX9_learnt_21 : decode cX9_learnt 21 = .ok (.istore_n 2, 1) := by decide +kernel
theorem dX9_learnt_22 : decode cX9_learnt 22 = .ok (.iinc 3 1, 3) := by decide +kernel
theorem dX9_learnt_25 : decode cX9_learnt 25 = .ok (.goto (-21), 3) := by decide +kernel
theorem dX9_learnt_28 : decode cX9_learnt 28 = .ok (.iload_n 2, 1) := by decide +kernel
theorem dX9_learnt_29 : decode cX9_learnt 29 = .ok (.ireturn, 1) := by decide +kernel
theorem dX9_learn_0 : decode cX9_learn 0 = .ok (.aload_n 0, 1) := by decide +kernel
theorem dX9_learn_1 : decode cX9_learn 1 = .ok (.iconst 0, 1) := by decide +kernel
theorem dX9_learn_2 : decode cX9_learn 2 = .ok (.putfield 25, 3) := by decide +kernel
theorem dX9_learn_5 : decode cX9_learn 5 = .ok (.iload_n 1, 1) := by decide +kernel
theorem dX9_learn_6 : decode cX9_learn 6 = .ok (.iload_n 2, 1) := by decide +kernel
theorem dX9_learn_7 : decode cX9_learn 7 = .ok (.invokestatic 107, 3) := by decide +kernel
theorem dX9_learn_10 : decode cX9_learn 10 = .ok (.ifCond .eq 10, 3) := by decide +kernel
theorem dX9_learn_13 : decode cX9_learn 13 = .ok (.iload_n 3, 1) := by decide +kernel
theorem dX9_learn_14 : decode cX9_learn 14 = .ok (.invokestatic 92, 3) := by decide +kernel
theorem dX9_learn_17 : decode cX9_learn 17 = .ok (.ifCond .ne 9, 3) := by decide +kernel
theorem dX9_learn_20 : decode cX9_learn 20 = .ok (.aload_n 0, 1) := by decide +kernel
theorem dX9_learn_21 : decode cX9_learn 21 = .ok (.iconst 1, 1) := by decide +kernel
theorem dX9_learn_22 : decode cX9_learn 22 = .ok (.invokevirtual 44, 3) := by decide +kernel
theorem dX9_learn_25 : decode cX9_learn 25 = .ok (.ireturn, 1) := by decide +kernel
theorem dX9_learn_26 : decode cX9_learn 26 = .ok (.aload_n 0, 1) := by decide +kernel
theorem dX9_learn_27 : decode cX9_learn 27 = .ok (.invokevirtual 95, 3) := by decide +kernel
theorem dX9_learn_30 : decode cX9_learn 30 = .ok (.iload_n 1, 1) := by decide +kernel
theorem dX9_learn_31 : decode cX9_learn 31 = .ok (.iload_n 2, 1) := by decide +kernel
theorem dX9_learn_32 : decode cX9_learn 32 = .ok (.invokestatic 56, 3) := by decide +kernel
theorem dX9_learn_35 : decode cX9_learn 35 = .ok (.istore 4, 2) := by decide +kernel
theorem dX9_learn_37 : decode cX9_learn 37 = .ok (.aload_n 0, 1) := by decide +kernel
theorem dX9_learn_38 : decode cX9_learn 38 = .ok (.getfield 7, 3) := by decide +kernel
theorem dX9_learn_41 : decode cX9_learn 41 = .ok (.iload 4, 2) := by decide +kernel
theorem dX9_learn_43 : decode cX9_learn 43 = .ok (.iconst 1, 1) := by decide +kernel
theorem dX9_learn_44 : decode cX9_learn 44 = .ok (.iastore, 1) := by decide +kernel
theorem dX9_learn_45 : decode cX9_learn 45 = .ok (.aload_n 0, 1) := by decide +kernel
theorem dX9_learn_46 : decode cX9_learn 46 = .ok (.getfield 7, 3) := by decide +kernel
theorem dX9_learn_49 : decode cX9_learn 49 = .ok (.iload 4, 2) := by decide +kernel
theorem dX9_learn_51 : decode cX9_learn 51 = .ok (.iconst 1, 1) := by decide +kernel
theorem dX9_learn_52 : decode cX9_learn 52 = .ok (.iadd, 1) := by decide +kernel
theorem dX9_learn_53 : decode cX9_learn 53 = .ok (.aload_n 0, 1) := by decide +kernel
theorem dX9_learn_54 : decode cX9_learn 54 = .ok (.getfield 7, 3) := by decide +kernel
theorem dX9_learn_57 : decode cX9_learn 57 = .ok (.bipush 14, 2) := by decide +kernel
theorem dX9_learn_59 : decode cX9_learn 59 = .ok (.iconst 4, 1) := by decide +kernel
theorem dX9_learn_60 : decode cX9_learn 60 = .ok (.iload_n 3, 1) := by decide +kernel
theorem dX9_learn_61 : decode cX9_learn 61 = .ok (.imul, 1) := by decide +kernel
theorem dX9_learn_62 : decode cX9_learn 62 = .ok (.iadd, 1) := by decide +kernel
theorem dX9_learn_63 : decode cX9_learn 63 = .ok (.iaload, 1) := by decide +kernel
theorem dX9_learn_64 : decode cX9_learn 64 = .ok (.iastore, 1) := by decide +kernel
theorem dX9_learn_65 : decode cX9_learn 65 = .ok (.aload_n 0, 1) := by decide +kernel
theorem dX9_learn_66 : decode cX9_learn 66 = .ok (.getfield 7, 3) := by decide +kernel
theorem dX9_learn_69 : decode cX9_learn 69 = .ok (.iload 4, 2) := by decide +kernel
theorem dX9_learn_71 : decode cX9_learn 71 = .ok (.iconst 2, 1) := by decide +kernel
theorem dX9_learn_72 : decode cX9_learn 72 = .ok (.iadd, 1) := by decide +kernel
theorem dX9_learn_73 : decode cX9_learn 73 = .ok (.aload_n 0, 1) := by decide +kernel
theorem dX9_learn_74 : decode cX9_learn 74 = .ok (.getfield 7, 3) := by decide +kernel
theorem dX9_learn_77 : decode cX9_learn 77 = .ok (.bipush 14, 2) := by decide +kernel
theorem dX9_learn_79 : decode cX9_learn 79 = .ok (.iconst 4, 1) := by decide +kernel
theorem dX9_learn_80 : decode cX9_learn 80 = .ok (.iload_n 3, 1) := by decide +kernel
theorem dX9_learn_81 : decode cX9_learn 81 = .ok (.imul, 1) := by decide +kernel
theorem dX9_learn_82 : decode cX9_learn 82 = .ok (.iadd, 1) := by decide +kernel
theorem dX9_learn_83 : decode cX9_learn 83 = .ok (.iconst 1, 1) := by decide +kernel
theorem dX9_learn_84 : decode cX9_learn 84 = .ok (.iadd, 1) := by decide +kernel
theorem dX9_learn_85 : decode cX9_learn 85 = .ok (.iaload, 1) := by decide +kernel
theorem dX9_learn_86 : decode cX9_learn 86 = .ok (.iastore, 1) := by decide +kernel
theorem dX9_learn_87 : decode cX9_learn 87 = .ok (.aload_n 0, 1) := by decide +kernel
theorem dX9_learn_88 : decode cX9_learn 88 = .ok (.getfield 7, 3) := by decide +kernel
theorem dX9_learn_91 : decode cX9_learn 91 = .ok (.iload 4, 2) := by decide +kernel
theorem dX9_learn_93 : decode cX9_learn 93 = .ok (.iconst 3, 1) := by decide +kernel
theorem dX9_learn_94 : decode cX9_learn 94 = .ok (.iadd, 1) := by decide +kernel
theorem dX9_learn_95 : decode cX9_learn 95 = .ok (.iconst (-1), 1) := by decide +kernel
theorem dX9_learn_96 : decode cX9_learn 96 = .ok (.iastore, 1) := by decide +kernel
theorem dX9_learn_97 : decode cX9_learn 97 = .ok (.aload_n 0, 1) := by decide +kernel
theorem dX9_learn_98 : decode cX9_learn 98 = .ok (.iload_n 1, 1) := by decide +kernel
theorem dX9_learn_99 : decode cX9_learn 99 = .ok (.invokevirtual 111, 3) := by decide +kernel
theorem dX9_learn_102 : decode cX9_learn 102 = .ok (.ireturn, 1) := by decide +kernel
theorem dX9_forget_0 : decode cX9_forget 0 = .ok (.aload_n 0, 1) := by decide +kernel
theorem dX9_forget_1 : decode cX9_forget 1 = .ok (.iconst 0, 1) := by decide +kernel
theorem dX9_forget_2 : decode cX9_forget 2 = .ok (.putfield 25, 3) := by decide +kernel
theorem dX9_forget_5 : decode cX9_forget 5 = .ok (.iload_n 1, 1) := by decide +kernel
theorem dX9_forget_6 : decode cX9_forget 6 = .ok (.iload_n 2, 1) := by decide +kernel
theorem dX9_forget_7 : decode cX9_forget 7 = .ok (.invokestatic 107, 3) := by decide +kernel
theorem dX9_forget_10 : decode cX9_forget 10 = .ok (.ifCond .ne 9, 3) := by decide +kernel
theorem dX9_forget_13 : decode cX9_forget 13 = .ok (.aload_n 0, 1) := by decide +kernel
theorem dX9_forget_14 : decode cX9_forget 14 = .ok (.iconst 1, 1) := by decide +kernel
theorem dX9_forget_15 : decode cX9_forget 15 = .ok (.invokevirtual 44, 3) := by decide +kernel
theorem dX9_forget_18 : decode cX9_forget 18 = .ok (.ireturn, 1) := by decide +kernel
theorem dX9_forget_19 : decode cX9_forget 19 = .ok (.aload_n 0, 1) := by decide +kernel
theorem dX9_forget_20 : decode cX9_forget 20 = .ok (.invokevirtual 95, 3) := by decide +kernel
theorem dX9_forget_23 : decode cX9_forget 23 = .ok (.aload_n 0, 1) := by decide +kernel
theorem dX9_forget_24 : decode cX9_forget 24 = .ok (.iload_n 1, 1) := by decide +kernel
theorem dX9_forget_25 : decode cX9_forget 25 = .ok (.iload_n 2, 1) := by decide +kernel
theorem dX9_forget_26 : decode cX9_forget 26 = .ok (.invokestatic 56, 3) := by decide +kernel
theorem dX9_forget_29 : decode cX9_forget 29 = .ok (.iconst 0, 1) := by decide +kernel
theorem dX9_forget_30 : decode cX9_forget 30 = .ok (.invokevirtual 98, 3) := by decide +kernel
theorem dX9_forget_33 : decode cX9_forget 33 = .ok (.ireturn, 1) := by decide +kernel
theorem dX9_shut_0 : decode cX9_shut 0 = .ok (.aload_n 0, 1) := by decide +kernel
theorem dX9_shut_1 : decode cX9_shut 1 = .ok (.iconst 0, 1) := by decide +kernel
theorem dX9_shut_2 : decode cX9_shut 2 = .ok (.putfield 25, 3) := by decide +kernel
theorem dX9_shut_5 : decode cX9_shut 5 = .ok (.iload_n 1, 1) := by decide +kernel
theorem dX9_shut_6 : decode cX9_shut 6 = .ok (.invokestatic 33, 3) := by decide +kernel
theorem dX9_shut_9 : decode cX9_shut 9 = .ok (.ifCond .ne 9, 3) := by decide +kernel
theorem dX9_shut_12 : decode cX9_shut 12 = .ok (.aload_n 0, 1) := by decide +kernel
theorem dX9_shut_13 : decode cX9_shut 13 = .ok (.iconst 1, 1) := by decide +kernel
theorem dX9_shut_14 : decode cX9_shut 14 = .ok (.invokevirtual 44, 3) := by decide +kernel
theorem dX9_shut_17 : decode cX9_shut 17 = .ok (.ireturn, 1) := by decide +kernel
theorem dX9_shut_18 : decode cX9_shut 18 = .ok (.aload_n 0, 1) := by decide +kernel
theorem dX9_shut_19 : decode cX9_shut 19 = .ok (.invokevirtual 95, 3) := by decide +kernel
theorem dX9_shut_22 : decode cX9_shut 22 = .ok (.aload_n 0, 1) := by decide +kernel
theorem dX9_shut_23 : decode cX9_shut 23 = .ok (.bipush 30, 2) := by decide +kernel
theorem dX9_shut_25 : decode cX9_shut 25 = .ok (.bipush 22, 2) := by decide +kernel
theorem dX9_shut_27 : decode cX9_shut 27 = .ok (.iload_n 1, 1) := by decide +kernel
theorem dX9_shut_28 : decode cX9_shut 28 = .ok (.imul, 1) := by decide +kernel
theorem dX9_shut_29 : decode cX9_shut 29 = .ok (.iadd, 1) := by decide +kernel
theorem dX9_shut_30 : decode cX9_shut 30 = .ok (.iconst 0, 1) := by decide +kernel
theorem dX9_shut_31 : decode cX9_shut 31 = .ok (.invokevirtual 98, 3) := by decide +kernel
theorem dX9_shut_34 : decode cX9_shut 34 = .ok (.ireturn, 1) := by decide +kernel
theorem dX9_unlock_0 : decode cX9_unlock 0 = .ok (.aload_n 0, 1) := by decide +kernel
theorem dX9_unlock_1 : decode cX9_unlock 1 = .ok (.iconst 0, 1) := by decide +kernel
theorem dX9_unlock_2 : decode cX9_unlock 2 = .ok (.putfield 25, 3) := by decide +kernel
theorem dX9_unlock_5 : decode cX9_unlock 5 = .ok (.iload_n 1, 1) := by decide +kernel
theorem dX9_unlock_6 : decode cX9_unlock 6 = .ok (.invokestatic 33, 3) := by decide +kernel
theorem dX9_unlock_9 : decode cX9_unlock 9 = .ok (.ifCond .ne 9, 3) := by decide +kernel
theorem dX9_unlock_12 : decode cX9_unlock 12 = .ok (.aload_n 0, 1) := by decide +kernel
theorem dX9_unlock_13 : decode cX9_unlock 13 = .ok (.iconst 1, 1) := by decide +kernel
theorem dX9_unlock_14 : decode cX9_unlock 14 = .ok (.invokevirtual 44, 3) := by decide +kernel
theorem dX9_unlock_17 : decode cX9_unlock 17 = .ok (.ireturn, 1) := by decide +kernel
theorem dX9_unlock_18 : decode cX9_unlock 18 = .ok (.aload_n 0, 1) := by decide +kernel
theorem dX9_unlock_19 : decode cX9_unlock 19 = .ok (.invokevirtual 95, 3) := by decide +kernel
theorem dX9_unlock_22 : decode cX9_unlock 22 = .ok (.aload_n 0, 1) := by decide +kernel
theorem dX9_unlock_23 : decode cX9_unlock 23 = .ok (.bipush 30, 2) := by decide +kernel
theorem dX9_unlock_25 : decode cX9_unlock 25 = .ok (.bipush 22, 2) := by decide +kernel
theorem dX9_unlock_27 : decode cX9_unlock 27 = .ok (.iload_n 1, 1) := by decide +kernel
theorem dX9_unlock_28 : decode cX9_unlock 28 = .ok (.imul, 1) := by decide +kernel
theorem dX9_unlock_29 : decode cX9_unlock 29 = .ok (.iadd, 1) := by decide +kernel
theorem dX9_unlock_30 : decode cX9_unlock 30 = .ok (.iconst 1, 1) := by decide +kernel
theorem dX9_unlock_31 : decode cX9_unlock 31 = .ok (.iadd, 1) := by decide +kernel
theorem dX9_unlock_32 : decode cX9_unlock 32 = .ok (.iconst 0, 1) := by decide +kernel
theorem dX9_unlock_33 : decode cX9_unlock 33 = .ok (.invokevirtual 98, 3) := by decide +kernel
theorem dX9_unlock_36 : decode cX9_unlock 36 = .ok (.ireturn, 1) := by decide +kernel
theorem dX9_set_0 : decode cX9_set 0 = .ok (.aload_n 0, 1) := by decide +kernel
theorem dX9_set_1 : decode cX9_set 1 = .ok (.iconst 0, 1) := by decide +kernel
theorem dX9_set_2 : decode cX9_set 2 = .ok (.putfield 25, 3) := by decide +kernel
theorem dX9_set_5 : decode cX9_set 5 = .ok (.iload_n 1, 1) := by decide +kernel
theorem dX9_set_6 : decode cX9_set 6 = .ok (.iconst 0, 1) := by decide +kernel
theorem dX9_set_7 : decode cX9_set 7 = .ok (.iconst 2, 1) := by decide +kernel
theorem dX9_set_8 : decode cX9_set 8 = .ok (.invokestatic 29, 3) := by decide +kernel
theorem dX9_set_11 : decode cX9_set 11 = .ok (.ifCond .ne 9, 3) := by decide +kernel
theorem dX9_set_14 : decode cX9_set 14 = .ok (.aload_n 0, 1) := by decide +kernel
theorem dX9_set_15 : decode cX9_set 15 = .ok (.iconst 1, 1) := by decide +kernel
theorem dX9_set_16 : decode cX9_set 16 = .ok (.invokevirtual 44, 3) := by decide +kernel
theorem dX9_set_19 : decode cX9_set 19 = .ok (.ireturn, 1) := by decide +kernel
theorem dX9_set_20 : decode cX9_set 20 = .ok (.iload_n 2, 1) := by decide +kernel
theorem dX9_set_21 : decode cX9_set 21 = .ok (.iload_n 1, 1) := by decide +kernel
theorem dX9_set_22 : decode cX9_set 22 = .ok (.iconst 2, 1) := by decide +kernel
theorem dX9_set_23 : decode cX9_set 23 = .ok (.if_icmp .ne 7, 3) := by decide +kernel
theorem dX9_set_26 : decode cX9_set 26 = .ok (.iconst 0, 1) := by decide +kernel
theorem dX9_set_27 : decode cX9_set 27 = .ok (.goto 4, 3) := by decide +kernel
theorem dX9_set_30 : decode cX9_set 30 = .ok (.iconst 1, 1) := by decide +kernel
theorem dX9_set_31 : decode cX9_set 31 = .ok (.iload_n 1, 1) := by decide +kernel
theorem dX9_set_32 : decode cX9_set 32 = .ok (.ifCond .ne 8, 3) := by decide +kernel
theorem dX9_set_35 : decode cX9_set 35 = .ok (.bipush 64, 2) := by decide +kernel
theorem dX9_set_37 : decode cX9_set 37 = .ok (.goto 16, 3) := by decide +kernel
theorem dX9_set_40 : decode cX9_set 40 = .ok (.iload_n 1, 1) := by decide +kernel
theorem dX9_set_41 : decode cX9_set 41 = .ok (.iconst 1, 1) := by decide +kernel
theorem dX9_set_42 : decode cX9_set 42 = .ok (.if_icmp .ne 9, 3) := by decide +kernel
theorem dX9_set_45 : decode cX9_set 45 = .ok (.sipush 500, 3) := by decide +kernel
theorem dX9_set_48 : decode cX9_set 48 = .ok (.goto 5, 3) := by decide +kernel
theorem dX9_set_51 : decode cX9_set 51 = .ok (.bipush 20, 2) := by decide +kernel
theorem dX9_set_53 : decode cX9_set 53 = .ok (.invokestatic 29, 3) := by decide +kernel
theorem dX9_set_56 : decode cX9_set 56 = .ok (.ifCond .ne 9, 3) := by decide +kernel
theorem dX9_set_59 : decode cX9_set 59 = .ok (.aload_n 0, 1) := by decide +kernel
theorem dX9_set_60 : decode cX9_set 60 = .ok (.iconst 2, 1) := by decide +kernel
theorem dX9_set_61 : decode cX9_set 61 = .ok (.invokevirtual 44, 3) := by decide +kernel
theorem dX9_set_64 : decode cX9_set 64 = .ok (.ireturn, 1) := by decide +kernel
theorem dX9_set_65 : decode cX9_set 65 = .ok (.aload_n 0, 1) := by decide +kernel
theorem dX9_set_66 : decode cX9_set 66 = .ok (.invokevirtual 95, 3) := by decide +kernel
theorem dX9_set_69 : decode cX9_set 69 = .ok (.aload_n 0, 1) := by decide +kernel
theorem dX9_set_70 : decode cX9_set 70 = .ok (.iload_n 1, 1) := by decide +kernel
theorem dX9_set_71 : decode cX9_set 71 = .ok (.iload_n 2, 1) := by decide +kernel
theorem dX9_set_72 : decode cX9_set 72 = .ok (.invokevirtual 98, 3) := by decide +kernel
theorem dX9_set_75 : decode cX9_set 75 = .ok (.ireturn, 1) := by decide +kernel
theorem dX9_append_0 : decode cX9_append 0 = .ok (.aload_n 0, 1) := by decide +kernel
theorem dX9_append_1 : decode cX9_append 1 = .ok (.iconst 0, 1) := by decide +kernel
theorem dX9_append_2 : decode cX9_append 2 = .ok (.putfield 25, 3) := by decide +kernel
theorem dX9_append_5 : decode cX9_append 5 = .ok (.iload_n 1, 1) := by decide +kernel
theorem dX9_append_6 : decode cX9_append 6 = .ok (.bipush 33, 2) := by decide +kernel
theorem dX9_append_8 : decode cX9_append 8 = .ok (.bipush 126, 2) := by decide +kernel
theorem dX9_append_10 : decode cX9_append 10 = .ok (.invokestatic 29, 3) := by decide +kernel
theorem dX9_append_13 : decode cX9_append 13 = .ok (.ifCond .ne 9, 3) := by decide +kernel
theorem dX9_append_16 : decode cX9_append 16 = .ok (.aload_n 0, 1) := by decide +kernel
theorem dX9_append_17 : decode cX9_append 17 = .ok (.iconst 1, 1) := by decide +kernel
theorem dX9_append_18 : decode cX9_append 18 = .ok (.invokevirtual 44, 3) := by decide +kernel
theorem dX9_append_21 : decode cX9_append 21 = .ok (.ireturn, 1) := by decide +kernel
theorem dX9_append_22 : decode cX9_append 22 = .ok (.aload_n 0, 1) := by decide +kernel
theorem dX9_append_23 : decode cX9_append 23 = .ok (.getfield 114, 3) := by decide +kernel
theorem dX9_append_26 : decode cX9_append 26 = .ok (.bipush 60, 2) := by decide +kernel
theorem dX9_append_28 : decode cX9_append 28 = .ok (.if_icmp .ne 9, 3) := by decide +kernel
theorem dX9_append_31 : decode cX9_append 31 = .ok (.aload_n 0, 1) := by decide +kernel
theorem dX9_append_32 : decode cX9_append 32 = .ok (.iconst 2, 1) := by decide +kernel
theorem dX9_append_33 : decode cX9_append 33 = .ok (.invokevirtual 44, 3) := by decide +kernel
theorem dX9_append_36 : decode cX9_append 36 = .ok (.ireturn, 1) := by decide +kernel
theorem dX9_append_37 : decode cX9_append 37 = .ok (.aload_n 0, 1) := by decide +kernel
theorem dX9_append_38 : decode cX9_append 38 = .ok (.getfield 19, 3) := by decide +kernel
theorem dX9_append_41 : decode cX9_append 41 = .ok (.aload_n 0, 1) := by decide +kernel
theorem dX9_append_42 : decode cX9_append 42 = .ok (.getfield 114, 3) := by decide +kernel
theorem dX9_append_45 : decode cX9_append 45 = .ok (.iload_n 1, 1) := by decide +kernel
theorem dX9_append_46 : decode cX9_append 46 = .ok (.iastore, 1) := by decide +kernel
theorem dX9_append_47 : decode cX9_append 47 = .ok (.aload_n 0, 1) := by decide +kernel
theorem dX9_append_48 : decode cX9_append 48 = .ok (.dup, 1) := by decide +kernel
theorem dX9_append_49 : decode cX9_append 49 = .ok (.getfield 114, 3) := by decide +kernel
theorem dX9_append_52 : decode cX9_append 52 = .ok (.iconst 1, 1) := by decide +kernel
theorem dX9_append_53 : decode cX9_append 53 = .ok (.iadd, 1) := by decide +kernel
theorem dX9_append_54 : decode cX9_append 54 = .ok (.putfield 114, 3) := by decide +kernel
theorem dX9_append_57 : decode cX9_append 57 = .ok (.aload_n 0, 1) := by decide +kernel
theorem dX9_append_58 : decode cX9_append 58 = .ok (.getfield 114, 3) := by decide +kernel
theorem dX9_append_61 : decode cX9_append 61 = .ok (.ireturn, 1) := by decide +kernel
theorem dX9_clearBuffer_0 : decode cX9_clearBuffer 0 = .ok (.aload_n 0, 1) := by decide +kernel
theorem dX9_clearBuffer_1 : decode cX9_clearBuffer 1 = .ok (.iconst 0, 1) := by decide +kernel
theorem dX9_clearBuffer_2 : decode cX9_clearBuffer 2 = .ok (.putfield 25, 3) := by decide +kernel
theorem dX9_clearBuffer_5 : decode cX9_clearBuffer 5 = .ok (.aload_n 0, 1) := by decide +kernel
theorem dX9_clearBuffer_6 : decode cX9_clearBuffer 6 = .ok (.getfield 114, 3) := by decide +kernel
theorem dX9_clearBuffer_9 : decode cX9_clearBuffer 9 = .ok (.istore_n 1, 1) := by decide +kernel
theorem dX9_clearBuffer_10 : decode cX9_clearBuffer 10 = .ok (.aload_n 0, 1) := by decide +kernel
theorem dX9_clearBuffer_11 : decode cX9_clearBuffer 11 = .ok (.iconst 0, 1) := by decide +kernel
theorem dX9_clearBuffer_12 : decode cX9_clearBuffer 12 = .ok (.putfield 114, 3) := by decide +kernel
theorem dX9_clearBuffer_15 : decode cX9_clearBuffer 15 = .ok (.iload_n 1, 1) := by decide +kernel
theorem dX9_clearBuffer_16 : decode cX9_clearBuffer 16 = .ok (.ireturn, 1) := by decide +kernel
theorem dX9_isAt_0 : decode cX9_isAt 0 = .ok (.aload_n 0, 1) := by decide +kernel
theorem dX9_isAt_1 : decode cX9_isAt 1 = .ok (.getfield 117, 3) := by decide +kernel
theorem dX9_isAt_4 : decode cX9_isAt 4 = .ok (.aload_n 0, 1) := by decide +kernel
theorem dX9_isAt_5 : decode cX9_isAt 5 = .ok (.getfield 114, 3) := by decide +kernel
theorem dX9_isAt_8 : decode cX9_isAt 8 = .ok (.if_icmp .ge 24, 3) := by decide +kernel
theorem dX9_isAt_11 : decode cX9_isAt 11 = .ok (.aload_n 0, 1) := by decide +kernel
theorem dX9_isAt_12 : decode cX9_isAt 12 = .ok (.getfield 19, 3) := by decide +kernel
theorem dX9_isAt_15 : decode cX9_isAt 15 = .ok (.aload_n 0, 1) := by decide +kernel
theorem dX9_isAt_16 : decode cX9_isAt 16 = .ok (.getfield 117, 3) := by decide +kernel
theorem dX9_isAt_19 : decode cX9_isAt 19 = .ok (.iaload, 1) := by decide +kernel
theorem dX9_isAt_20 : decode cX9_isAt 20 = .ok (.iload_n 1, 1) := by decide +kernel
theorem dX9_isAt_21 : decode cX9_isAt 21 = .ok (.iload_n 2, 1) := by decide +kernel
theorem dX9_isAt_22 : decode cX9_isAt 22 = .ok (.invokestatic 29, 3) := by decide +kernel
theorem dX9_isAt_25 : decode cX9_isAt 25 = .ok (.ifCond .eq 7, 3) := by decide +kernel
theorem dX9_isAt_28 : decode cX9_isAt 28 = .ok (.iconst 1, 1) := by decide +kernel
theorem dX9_isAt_29 : decode cX9_isAt 29 = .ok (.goto 4, 3) := by decide +kernel
theorem dX9_isAt_32 : decode cX9_isAt 32 = .ok (.iconst 0, 1) := by decide +kernel
theorem dX9_isAt_33 : decode cX9_isAt 33 = .ok (.ireturn, 1) := by decide +kernel
theorem dX9_stops_0 : decode cX9_stops 0 = .ok (.aload_n 0, 1) := by decide +kernel
theorem dX9_stops_1 : decode cX9_stops 1 = .ok (.aload_n 0, 1) := by decide +kernel
theorem dX9_stops_2 : decode cX9_stops 2 = .ok (.getfield 117, 3) := by decide +kernel
theorem dX9_stops_5 : decode cX9_stops 5 = .ok (.aload_n 0, 1) := by decide +kernel
theorem dX9_stops_6 : decode cX9_stops 6 = .ok (.getfield 114, 3) := by decide +kernel
theorem dX9_stops_9 : decode cX9_stops 9 = .ok (.if_icmp .ge 7, 3) := by decide +kernel
theorem dX9_stops_12 : decode cX9_stops 12 = .ok (.iconst 1, 1) := by decide +kernel
theorem dX9_stops_13 : decode cX9_stops 13 = .ok (.goto 4, 3) := by decide +kernel
theorem dX9_stops_16 : decode cX9_stops 16 = .ok (.iconst 0, 1) := by decide +kernel
theorem dX9_stops_17 : decode cX9_stops 17 = .ok (.putfield 120, 3) := by decide +kernel
theorem dX9_stops_20 : decode cX9_stops 20 = .ok (.iconst 0, 1) := by decide +kernel
theorem dX9_stops_21 : decode cX9_stops 21 = .ok (.ireturn, 1) := by decide +kernel
theorem dX9_isDigit_0 : decode cX9_isDigit 0 = .ok (.aload_n 0, 1) := by decide +kernel
theorem dX9_isDigit_1 : decode cX9_isDigit 1 = .ok (.bipush 48, 2) := by decide +kernel
theorem dX9_isDigit_3 : decode cX9_isDigit 3 = .ok (.iload_n 1, 1) := by decide +kernel
theorem dX9_isDigit_4 : decode cX9_isDigit 4 = .ok (.invokevirtual 124, 3) := by decide +kernel
theorem dX9_isDigit_7 : decode cX9_isDigit 7 = .ok (.ifCond .ne 8, 3) := by decide +kernel
theorem dX9_isDigit_10 : decode cX9_isDigit 10 = .ok (.aload_n 0, 1) := by decide +kernel
theorem dX9_isDigit_11 : decode cX9_isDigit 11 = .ok (.invokevirtual 127, 3) := by decide +kernel
theorem dX9_isDigit_14 : decode cX9_isDigit 14 = .ok (.ireturn, 1) := by decide +kernel
theorem dX9_isDigit_15 : decode cX9_isDigit 15 = .ok (.aload_n 0, 1) := by decide +kernel
theorem dX9_isDigit_16 : decode cX9_isDigit 16 = .ok (.getfield 22, 3) := by decide +kernel
theorem dX9_isDigit_19 : decode cX9_isDigit 19 = .ok (.iconst 3, 1) := by decide +kernel
theorem dX9_isDigit_20 : decode cX9_isDigit 20 = .ok (.aload_n 0, 1) := by decide +kernel
theorem dX9_isDigit_21 : decode cX9_isDigit 21 = .ok (.getfield 131, 3) := by decide +kernel
theorem dX9_isDigit_24 : decode cX9_isDigit 24 = .ok (.imul, 1) := by decide +kernel
theorem dX9_isDigit_25 : decode cX9_isDigit 25 = .ok (.iconst 1, 1) := by decide +kernel
theorem dX9_isDigit_26 : decode cX9_isDigit 26 = .ok (.iadd, 1) := by decide +kernel
theorem dX9_isDigit_27 : decode cX9_isDigit 27 = .ok (.aload_n 0, 1) := by decide +kernel
theorem dX9_isDigit_28 : decode cX9_isDigit 28 = .ok (.getfield 19, 3) := by decide +kernel
theorem dX9_isDigit_31 : decode cX9_isDigit 31 = .ok (.aload_n 0, 1) := by decide +kernel
theorem dX9_isDigit_32 : decode cX9_isDigit 32 = .ok (.getfield 117, 3) := by decide +kernel
theorem dX9_isDigit_35 : decode cX9_isDigit 35 = .ok (.iaload, 1) := by decide +kernel
theorem dX9_isDigit_36 : decode cX9_isDigit 36 = .ok (.bipush 48, 2) := by decide +kernel
theorem dX9_isDigit_38 : decode cX9_isDigit 38 = .ok (.isub, 1) := by decide +kernel
theorem dX9_isDigit_39 : decode cX9_isDigit 39 = .ok (.iastore, 1) := by decide +kernel
theorem dX9_isDigit_40 : decode cX9_isDigit 40 = .ok (.aload_n 0, 1) := by decide +kernel
theorem dX9_isDigit_41 : decode cX9_isDigit 41 = .ok (.dup, 1) := by decide +kernel
theorem dX9_isDigit_42 : decode cX9_isDigit 42 = .ok (.getfield 117, 3) := by decide +kernel
theorem dX9_isDigit_45 : decode cX9_isDigit 45 = .ok (.iconst 1, 1) := by decide +kernel
theorem dX9_isDigit_46 : decode cX9_isDigit 46 = .ok (.iadd, 1) := by decide +kernel
theorem dX9_isDigit_47 : decode cX9_isDigit 47 = .ok (.putfield 117, 3) := by decide +kernel
theorem dX9_isDigit_50 : decode cX9_isDigit 50 = .ok (.iconst 1, 1) := by decide +kernel
theorem dX9_isDigit_51 : decode cX9_isDigit 51 = .ok (.ireturn, 1) := by decide +kernel
theorem dX9_areDoors_0 : decode cX9_areDoors 0 = .ok (.aload_n 0, 1) := by decide +kernel
theorem dX9_areDoors_1 : decode cX9_areDoors 1 = .ok (.getfield 22, 3) := by decide +kernel
theorem dX9_areDoors_4 : decode cX9_areDoors 4 = .ok (.iconst 3, 1) := by decide +kernel
theorem dX9_areDoors_5 : decode cX9_areDoors 5 = .ok (.aload_n 0, 1) := by decide +kernel
theorem dX9_areDoors_6 : decode cX9_areDoors 6 = .ok (.getfield 131, 3) := by decide +kernel
theorem dX9_areDoors_9 : decode cX9_areDoors 9 = .ok (.imul, 1) := by decide +kernel
theorem dX9_areDoors_10 : decode cX9_areDoors 10 = .ok (.iconst 2, 1) := by decide +kernel
theorem dX9_areDoors_11 : decode cX9_areDoors 11 = .ok (.iadd, 1) := by decide +kernel
theorem dX9_areDoors_12 : decode cX9_areDoors 12 = .ok (.iconst 0, 1) := by decide +kernel
theorem dX9_areDoors_13 : decode cX9_areDoors 13 = .ok (.iastore, 1) := by decide +kernel
theorem dX9_areDoors_14 : decode cX9_areDoors 14 = .ok (.aload_n 0, 1) := by decide +kernel
theorem dX9_areDoors_15 : decode cX9_areDoors 15 = .ok (.bipush 45, 2) := by decide +kernel
theorem dX9_areDoors_17 : decode cX9_areDoors 17 = .ok (.bipush 45, 2) := by decide +kernel
theorem dX9_areDoors_19 : decode cX9_areDoors 19 = .ok (.invokevirtual 124, 3) := by decide +kernel
theorem dX9_areDoors_22 : decode cX9_areDoors 22 = .ok (.ifCond .eq 15, 3) := by decide +kernel
theorem dX9_areDoors_25 : decode cX9_areDoors 25 = .ok (.aload_n 0, 1) := by decide +kernel
theorem dX9_areDoors_26 : decode cX9_areDoors 26 = .ok (.dup, 1) := by decide +kernel
theorem dX9_areDoors_27 : decode cX9_areDoors 27 = .ok (.getfield 117, 3) := by decide +kernel
theorem dX9_areDoors_30 : decode cX9_areDoors 30 = .ok (.iconst 1, 1) := by decide +kernel
theorem dX9_areDoors_31 : decode cX9_areDoors 31 = .ok (.iadd, 1) := by decide +kernel
theorem dX9_areDoors_32 : decode cX9_areDoors 32 = .ok (.putfield 117, 3) := by decide +kernel
theorem dX9_areDoors_35 : decode cX9_areDoors 35 = .ok (.iconst 1, 1) := by decide +kernel
theorem dX9_areDoors_36 : decode cX9_areDoors 36 = .ok (.ireturn, 1) := by decide +kernel
theorem dX9_areDoors_37 : decode cX9_areDoors 37 = .ok (.aload_n 0, 1) := by decide +kernel
theorem dX9_areDoors_38 : decode cX9_areDoors 38 = .ok (.bipush 48, 2) := by decide +kernel
theorem dX9_areDoors_40 : decode cX9_areDoors 40 = .ok (.bipush 50, 2) := by decide +kernel
theorem dX9_areDoors_42 : decode cX9_areDoors 42 = .ok (.invokevirtual 124, 3) := by decide +kernel
theorem dX9_areDoors_45 : decode cX9_areDoors 45 = .ok (.ifCond .ne 8, 3) := by decide +kernel
theorem dX9_areDoors_48 : decode cX9_areDoors 48 = .ok (.aload_n 0, 1) := by decide +kernel
theorem dX9_areDoors_49 : decode cX9_areDoors 49 = .ok (.invokevirtual 127, 3) := by decide +kernel
theorem dX9_areDoors_52 : decode cX9_areDoors 52 = .ok (.ireturn, 1) := by decide +kernel
theorem dX9_areDoors_53 : decode cX9_areDoors 53 = .ok (.bipush 48, 2) := by decide +kernel
theorem dX9_areDoors_55 : decode cX9_areDoors 55 = .ok (.istore_n 1, 1) := by decide +kernel
theorem dX9_areDoors_56 : decode cX9_areDoors 56 = .ok (.aload_n 0, 1) := by decide +kernel
theorem dX9_areDoors_57 : decode cX9_areDoors 57 = .ok (.iload_n 1, 1) := by decide +kernel
theorem dX9_areDoors_58 : decode cX9_areDoors 58 = .ok (.bipush 50, 2) := by decide +kernel
theorem dX9_areDoors_60 : decode cX9_areDoors 60 = .ok (.invokevirtual 124, 3) := by decide +kernel
theorem dX9_areDoors_63 : decode cX9_areDoors 63 = .ok (.ifCond .eq 58, 3) := by decide +kernel
theorem dX9_areDoors_66 : decode cX9_areDoors 66 = .ok (.aload_n 0, 1) := by decide +kernel
theorem dX9_areDoors_67 : decode cX9_areDoors 67 = .ok (.getfield 22, 3) := by decide +kernel
theorem dX9_areDoors_70 : decode cX9_areDoors 70 = .ok (.iconst 3, 1) := by decide +kernel
theorem dX9_areDoors_71 : decode cX9_areDoors 71 = .ok (.aload_n 0, 1) := by decide +kernel
theorem dX9_areDoors_72 : decode cX9_areDoors 72 = .ok (.getfield 131, 3) := by decide +kernel
theorem dX9_areDoors_75 : decode cX9_areDoors 75 = .ok (.imul, 1) := by decide +kernel
theorem dX9_areDoors_76 : decode cX9_areDoors 76 = .ok (.iconst 2, 1) := by decide +kernel
theorem dX9_areDoors_77 : decode cX9_areDoors 77 = .ok (.iadd, 1) := by decide +kernel
theorem dX9_areDoors_78 : decode cX9_areDoors 78 = .ok (.dup2, 1) := by decide +kernel
theorem dX9_areDoors_79 : decode cX9_areDoors 79 = .ok (.iaload, 1) := by decide +kernel
theorem dX9_areDoors_80 : decode cX9_areDoors 80 = .ok (.iconst 1, 1) := by decide +kernel
theorem dX9_areDoors_81 : decode cX9_areDoors 81 = .ok (.aload_n 0, 1) := by decide +kernel
theorem dX9_areDoors_82 : decode cX9_areDoors 82 = .ok (.getfield 19, 3) := by decide +kernel
theorem dX9_areDoors_85 : decode cX9_areDoors 85 = .ok (.aload_n 0, 1) := by decide +kernel
theorem dX9_areDoors_86 : decode cX9_areDoors 86 = .ok (.getfield 117, 3) := by decide +kernel
theorem dX9_areDoors_89 : decode cX9_areDoors 89 = .ok (.iaload, 1) := by decide +kernel
theorem dX9_areDoors_90 : decode cX9_areDoors 90 = .ok (.bipush 48, 2) := by decide +kernel
theorem dX9_areDoors_92 : decode cX9_areDoors 92 = .ok (.isub, 1) := by decide +kernel
theorem dX9_areDoors_93 : decode cX9_areDoors 93 = .ok (.ishl, 1) := by decide +kernel
theorem dX9_areDoors_94 : decode cX9_areDoors 94 = .ok (.ior, 1) := by decide +kernel
theorem dX9_areDoors_95 : decode cX9_areDoors 95 = .ok (.iastore, 1) := by decide +kernel
theorem dX9_areDoors_96 : decode cX9_areDoors 96 = .ok (.aload_n 0, 1) := by decide +kernel
theorem dX9_areDoors_97 : decode cX9_areDoors 97 = .ok (.getfield 19, 3) := by decide +kernel
theorem dX9_areDoors_100 : decode cX9_areDoors 100 = .ok (.aload_n 0, 1) := by decide +kernel
theorem dX9_areDoors_101 : decode cX9_areDoors 101 = .ok (.getfield 117, 3) := by decide +kernel
theorem dX9_areDoors_104 : decode cX9_areDoors 104 = .ok (.iaload, 1) := by decide +kernel
theorem dX9_areDoors_105 : decode cX9_areDoors 105 = .ok (.iconst 1, 1) := by decide +kernel
theorem dX9_areDoors_106 : decode cX9_areDoors 106 = .ok (.iadd, 1) := by decide +kernel
theorem dX9_areDoors_107 : decode cX9_areDoors 107 = .ok (.istore_n 1, 1) := by decide +kernel
theorem dX9_areDoors_108 : decode cX9_areDoors 108 = .ok (.aload_n 0, 1) := by decide +kernel
theorem dX9_areDoors_109 : decode cX9_areDoors 109 = .ok (.dup, 1) := by decide +kernel
theorem dX9_areDoors_110 : decode cX9_areDoors 110 = .ok (.getfield 117, 3) := by decide +kernel
theorem dX9_areDoors_113 : decode cX9_areDoors 113 = .ok (.iconst 1, 1) := by decide +kernel
theorem dX9_areDoors_114 : decode cX9_areDoors 114 = .ok (.iadd, 1) := by decide +kernel
theorem dX9_areDoors_115 : decode cX9_areDoors 115 = .ok (.putfield 117, 3) := by decide +kernel
theorem dX9_areDoors_118 : decode cX9_areDoors 118 = .ok (.goto (-62), 3) := by decide +kernel
theorem dX9_areDoors_121 : decode cX9_areDoors 121 = .ok (.iconst 1, 1) := by decide +kernel
theorem dX9_areDoors_122 : decode cX9_areDoors 122 = .ok (.ireturn, 1) := by decide +kernel
theorem dX9_isPart_0 : decode cX9_isPart 0 = .ok (.aload_n 0, 1) := by decide +kernel
theorem dX9_isPart_1 : decode cX9_isPart 1 = .ok (.getfield 117, 3) := by decide +kernel
theorem dX9_isPart_4 : decode cX9_isPart 4 = .ok (.aload_n 0, 1) := by decide +kernel
theorem dX9_isPart_5 : decode cX9_isPart 5 = .ok (.getfield 114, 3) := by decide +kernel
theorem dX9_isPart_8 : decode cX9_isPart 8 = .ok (.if_icmp .ge 15, 3) := by decide +kernel
theorem dX9_isPart_11 : decode cX9_isPart 11 = .ok (.aload_n 0, 1) := by decide +kernel
theorem dX9_isPart_12 : decode cX9_isPart 12 = .ok (.getfield 19, 3) := by decide +kernel
theorem dX9_isPart_15 : decode cX9_isPart 15 = .ok (.aload_n 0, 1) := by decide +kernel
theorem dX9_isPart_16 : decode cX9_isPart 16 = .ok (.getfield 117, 3) := by decide +kernel
theorem dX9_isPart_19 : decode cX9_isPart 19 = .ok (.iaload, 1) := by decide +kernel
theorem dX9_isPart_20 : decode cX9_isPart 20 = .ok (.goto 4, 3) := by decide +kernel
theorem dX9_isPart_23 : decode cX9_isPart 23 = .ok (.iconst 0, 1) := by decide +kernel
theorem dX9_isPart_24 : decode cX9_isPart 24 = .ok (.istore_n 1, 1) := by decide +kernel
theorem dX9_isPart_25 : decode cX9_isPart 25 = .ok (.aload_n 0, 1) := by decide +kernel
theorem dX9_isPart_26 : decode cX9_isPart 26 = .ok (.getfield 22, 3) := by decide +kernel
theorem dX9_isPart_29 : decode cX9_isPart 29 = .ok (.iconst 3, 1) := by decide +kernel
theorem dX9_isPart_30 : decode cX9_isPart 30 = .ok (.aload_n 0, 1) := by decide +kernel
theorem dX9_isPart_31 : decode cX9_isPart 31 = .ok (.getfield 131, 3) := by decide +kernel
theorem dX9_isPart_34 : decode cX9_isPart 34 = .ok (.imul, 1) := by decide +kernel
theorem dX9_isPart_35 : decode cX9_isPart 35 = .ok (.iload_n 1, 1) := by decide +kernel
theorem dX9_isPart_36 : decode cX9_isPart 36 = .ok (.iastore, 1) := by decide +kernel
theorem dX9_isPart_37 : decode cX9_isPart 37 = .ok (.iload_n 1, 1) := by decide +kernel
theorem dX9_isPart_38 : decode cX9_isPart 38 = .ok (.bipush 102, 2) := by decide +kernel
theorem dX9_isPart_40 : decode cX9_isPart 40 = .ok (.if_icmp .eq 20, 3) := by decide +kernel
theorem dX9_isPart_43 : decode cX9_isPart 43 = .ok (.iload_n 1, 1) := by decide +kernel
theorem dX9_isPart_44 : decode cX9_isPart 44 = .ok (.bipush 114, 2) := by decide +kernel
theorem dX9_isPart_46 : decode cX9_isPart 46 = .ok (.if_icmp .eq 14, 3) := by decide +kernel
theorem dX9_isPart_49 : decode cX9_isPart 49 = .ok (.iload_n 1, 1) := by decide +kernel
theorem dX9_isPart_50 : decode cX9_isPart 50 = .ok (.bipush 99, 2) := by decide +kernel
theorem dX9_isPart_52 : decode cX9_isPart 52 = .ok (.if_icmp .eq 8, 3) := by decide +kernel
theorem dX9_isPart_55 : decode cX9_isPart 55 = .ok (.aload_n 0, 1) := by decide +kernel
theorem dX9_isPart_56 : decode cX9_isPart 56 = .ok (.invokevirtual 127, 3) := by decide +kernel
theorem dX9_isPart_59 : decode cX9_isPart 59 = .ok (.ireturn, 1) := by decide +kernel
theorem dX9_isPart_60 : decode cX9_isPart 60 = .ok (.aload_n 0, 1) := by decide +kernel
theorem dX9_isPart_61 : decode cX9_isPart 61 = .ok (.dup, 1) := by decide +kernel
theorem dX9_isPart_62 : decode cX9_isPart 62 = .ok (.getfield 117, 3) := by decide +kernel
theorem dX9_isPart_65 : decode cX9_isPart 65 = .ok (.iconst 1, 1) := by decide +kernel
theorem dX9_isPart_66 : decode cX9_isPart 66 = .ok (.iadd, 1) := by decide +kernel
theorem dX9_isPart_67 : decode cX9_isPart 67 = .ok (.putfield 117, 3) := by decide +kernel
theorem dX9_isPart_70 : decode cX9_isPart 70 = .ok (.aload_n 0, 1) := by decide +kernel
theorem dX9_isPart_71 : decode cX9_isPart 71 = .ok (.iload_n 1, 1) := by decide +kernel
theorem dX9_isPart_72 : decode cX9_isPart 72 = .ok (.bipush 102, 2) := by decide +kernel
theorem dX9_isPart_74 : decode cX9_isPart 74 = .ok (.if_icmp .ne 8, 3) := by decide +kernel
theorem dX9_isPart_77 : decode cX9_isPart 77 = .ok (.bipush 51, 2) := by decide +kernel
theorem dX9_isPart_79 : decode cX9_isPart 79 = .ok (.goto 16, 3) := by decide +kernel
theorem dX9_isPart_82 : decode cX9_isPart 82 = .ok (.iload_n 1, 1) := by decide +kernel
theorem dX9_isPart_83 : decode cX9_isPart 83 = .ok (.bipush 114, 2) := by decide +kernel
theorem dX9_isPart_85 : decode cX9_isPart 85 = .ok (.if_icmp .ne 8, 3) := by decide +kernel
theorem dX9_isPart_88 : decode cX9_isPart 88 = .ok (.bipush 55, 2) := by decide +kernel
theorem dX9_isPart_90 : decode cX9_isPart 90 = .ok (.goto 5, 3) := by decide +kernel
theorem dX9_isPart_93 : decode cX9_isPart 93 = .ok (.bipush 50, 2) := by decide +kernel
theorem dX9_isPart_95 : decode cX9_isPart 95 = .ok (.invokevirtual 134, 3) := by decide +kernel
theorem dX9_isPart_98 : decode cX9_isPart 98 = .ok (.ifCond .eq 20, 3) := by decide +kernel
theorem dX9_isPart_101 : decode cX9_isPart 101 = .ok (.iload_n 1, 1) := by decide +kernel
theorem dX9_isPart_102 : decode cX9_isPart 102 = .ok (.bipush 99, 2) := by decide +kernel
theorem dX9_isPart_104 : decode cX9_isPart 104 = .ok (.if_icmp .eq 10, 3) := by decide +kernel
theorem dX9_isPart_107 : decode cX9_isPart 107 = .ok (.aload_n 0, 1) := by decide +kernel
theorem dX9_isPart_108 : decode cX9_isPart 108 = .ok (.invokevirtual 137, 3) := by decide +kernel
theorem dX9_isPart_111 : decode cX9_isPart 111 = .ok (.ifCond .eq 7, 3) := by decide +kernel
theorem dX9_isPart_114 : decode cX9_isPart 114 = .ok (.iconst 1, 1) := by decide +kernel
theorem dX9_isPart_115 : decode cX9_isPart 115 = .ok (.goto 4, 3) := by decide +kernel
theorem dX9_isPart_118 : decode cX9_isPart 118 = .ok (.iconst 0, 1) := by decide +kernel
theorem dX9_isPart_119 : decode cX9_isPart 119 = .ok (.ireturn, 1) := by decide +kernel
theorem dX9_isText_0 : decode cX9_isText 0 = .ok (.aload_n 0, 1) := by decide +kernel
theorem dX9_isText_1 : decode cX9_isText 1 = .ok (.iconst 0, 1) := by decide +kernel
theorem dX9_isText_2 : decode cX9_isText 2 = .ok (.putfield 117, 3) := by decide +kernel
theorem dX9_isText_5 : decode cX9_isText 5 = .ok (.aload_n 0, 1) := by decide +kernel
theorem dX9_isText_6 : decode cX9_isText 6 = .ok (.iconst 0, 1) := by decide +kernel
theorem dX9_isText_7 : decode cX9_isText 7 = .ok (.putfield 131, 3) := by decide +kernel
theorem dX9_isText_10 : decode cX9_isText 10 = .ok (.aload_n 0, 1) := by decide +kernel
theorem dX9_isText_11 : decode cX9_isText 11 = .ok (.iconst 0, 1) := by decide +kernel
theorem dX9_isText_12 : decode cX9_isText 12 = .ok (.putfield 120, 3) := by decide +kernel
theorem dX9_isText_15 : decode cX9_isText 15 = .ok (.iconst 1, 1) := by decide +kernel
theorem dX9_isText_16 : decode cX9_isText 16 = .ok (.istore_n 1, 1) := by decide +kernel
theorem dX9_isText_17 : decode cX9_isText 17 = .ok (.iload_n 1, 1) := by decide +kernel
theorem dX9_isText_18 : decode cX9_isText 18 = .ok (.ifCond .eq 52, 3) := by decide +kernel
theorem dX9_isText_21 : decode cX9_isText 21 = .ok (.aload_n 0, 1) := by decide +kernel
theorem dX9_isText_22 : decode cX9_isText 22 = .ok (.invokevirtual 140, 3) := by decide +kernel
theorem dX9_isText_25 : decode cX9_isText 25 = .ok (.ifCond .ne 5, 3) := by decide +kernel
theorem dX9_isText_28 : decode cX9_isText 28 = .ok (.iconst 0, 1) := by decide +kernel
theorem dX9_isText_29 : decode cX9_isText 29 = .ok (.ireturn, 1) := by decide +kernel
theorem dX9_isText_30 : decode cX9_isText 30 = .ok (.aload_n 0, 1) := by decide +kernel
theorem dX9_isText_31 : decode cX9_isText 31 = .ok (.dup, 1) := by decide +kernel
theorem dX9_isText_32 : decode cX9_isText 32 = .ok (.getfield 131, 3) := by decide +kernel
theorem dX9_isText_35 : decode cX9_isText 35 = .ok (.iconst 1, 1) := by decide +kernel
theorem dX9_isText_36 : decode cX9_isText 36 = .ok (.iadd, 1) := by decide +kernel
theorem dX9_isText_37 : decode cX9_isText 37 = .ok (.putfield 131, 3) := by decide +kernel
theorem dX9_isText_40 : decode cX9_isText 40 = .ok (.aload_n 0, 1) := by decide +kernel
theorem dX9_isText_41 : decode cX9_isText 41 = .ok (.bipush 59, 2) := by decide +kernel
theorem dX9_isText_43 : decode cX9_isText 43 = .ok (.bipush 59, 2) := by decide +kernel
theorem dX9_isText_45 : decode cX9_isText 45 = .ok (.invokevirtual 124, 3) := by decide +kernel
theorem dX9_isText_48 : decode cX9_isText 48 = .ok (.istore_n 1, 1) := by decide +kernel
theorem dX9_isText_49 : decode cX9_isText 49 = .ok (.aload_n 0, 1) := by decide +kernel
theorem dX9_isText_50 : decode cX9_isText 50 = .ok (.dup, 1) := by decide +kernel
theorem dX9_isText_51 : decode cX9_isText 51 = .ok (.getfield 117, 3) := by decide +kernel
theorem dX9_isText_54 : decode cX9_isText 54 = .ok (.iload_n 1, 1) := by decide +kernel
theorem dX9_isText_55 : decode cX9_isText 55 = .ok (.ifCond .eq 7, 3) := by decide +kernel
theorem dX9_isText_58 : decode cX9_isText 58 = .ok (.iconst 1, 1) := by decide +kernel
theorem dX9_isText_59 : decode cX9_isText 59 = .ok (.goto 4, 3) := by decide +kernel
theorem dX9_isText_62 : decode cX9_isText 62 = .ok (.iconst 0, 1) := by decide +kernel
theorem dX9_isText_63 : decode cX9_isText 63 = .ok (.iadd, 1) := by decide +kernel
theorem dX9_isText_64 : decode cX9_isText 64 = .ok (.putfield 117, 3) := by decide +kernel
theorem dX9_isText_67 : decode cX9_isText 67 = .ok (.goto (-50), 3) := by decide +kernel
theorem dX9_isText_70 : decode cX9_isText 70 = .ok (.aload_n 0, 1) := by decide +kernel
theorem dX9_isText_71 : decode cX9_isText 71 = .ok (.aload_n 0, 1) := by decide +kernel
theorem dX9_isText_72 : decode cX9_isText 72 = .ok (.getfield 117, 3) := by decide +kernel
theorem dX9_isText_75 : decode cX9_isText 75 = .ok (.aload_n 0, 1) := by decide +kernel
theorem dX9_isText_76 : decode cX9_isText 76 = .ok (.getfield 114, 3) := by decide +kernel
theorem dX9_isText_79 : decode cX9_isText 79 = .ok (.if_icmp .ge 7, 3) := by decide +kernel
theorem dX9_isText_82 : decode cX9_isText 82 = .ok (.iconst 1, 1) := by decide +kernel
theorem dX9_isText_83 : decode cX9_isText 83 = .ok (.goto 4, 3) := by decide +kernel
theorem dX9_isText_86 : decode cX9_isText 86 = .ok (.iconst 0, 1) := by decide +kernel
theorem dX9_isText_87 : decode cX9_isText 87 = .ok (.putfield 120, 3) := by decide +kernel
theorem dX9_isText_90 : decode cX9_isText 90 = .ok (.aload_n 0, 1) := by decide +kernel
theorem dX9_isText_91 : decode cX9_isText 91 = .ok (.getfield 117, 3) := by decide +kernel
theorem dX9_isText_94 : decode cX9_isText 94 = .ok (.aload_n 0, 1) := by decide +kernel
theorem dX9_isText_95 : decode cX9_isText 95 = .ok (.getfield 114, 3) := by decide +kernel
theorem dX9_isText_98 : decode cX9_isText 98 = .ok (.if_icmp .ne 7, 3) := by decide +kernel
theorem dX9_isText_101 : decode cX9_isText 101 = .ok (.iconst 1, 1) := by decide +kernel
theorem dX9_isText_102 : decode cX9_isText 102 = .ok (.goto 4, 3) := by decide +kernel
theorem dX9_isText_105 : decode cX9_isText 105 = .ok (.iconst 0, 1) := by decide +kernel
theorem dX9_isText_106 : decode cX9_isText 106 = .ok (.ireturn, 1) := by decide +kernel
theorem dX9_firstError_0 : decode cX9_firstError 0 = .ok (.aload_n 0, 1) := by decide +kernel
theorem dX9_firstError_1 : decode cX9_firstError 1 = .ok (.iconst 0, 1) := by decide +kernel
theorem dX9_firstError_2 : decode cX9_firstError 2 = .ok (.putfield 25, 3) := by decide +kernel
theorem dX9_firstError_5 : decode cX9_firstError 5 = .ok (.aload_n 0, 1) := by decide +kernel
theorem dX9_firstError_6 : decode cX9_firstError 6 = .ok (.invokevirtual 143, 3) := by decide +kernel
theorem dX9_firstError_9 : decode cX9_firstError 9 = .ok (.istore_n 1, 1) := by decide +kernel
theorem dX9_firstError_10 : decode cX9_firstError 10 = .ok (.iload_n 1, 1) := by decide +kernel
theorem dX9_firstError_11 : decode cX9_firstError 11 = .ok (.ifCond .ne 17, 3) := by decide +kernel
theorem dX9_firstError_14 : decode cX9_firstError 14 = .ok (.aload_n 0, 1) := by decide +kernel
theorem dX9_firstError_15 : decode cX9_firstError 15 = .ok (.getfield 120, 3) := by decide +kernel
theorem dX9_firstError_18 : decode cX9_firstError 18 = .ok (.ifCond .eq 10, 3) := by decide +kernel
theorem dX9_firstError_21 : decode cX9_firstError 21 = .ok (.aload_n 0, 1) := by decide +kernel
theorem dX9_firstError_22 : decode cX9_firstError 22 = .ok (.getfield 117, 3) := by decide +kernel
theorem dX9_firstError_25 : decode cX9_firstError 25 = .ok (.goto 7, 3) := by decide +kernel
theorem dX9_firstError_28 : decode cX9_firstError 28 = .ok (.aload_n 0, 1) := by decide +kernel
theorem dX9_firstError_29 : decode cX9_firstError 29 = .ok (.getfield 114, 3) := by decide +kernel
theorem dX9_firstError_32 : decode cX9_firstError 32 = .ok (.ireturn, 1) := by decide +kernel
theorem dX9_does_0 : decode cX9_does 0 = .ok (.aload_n 0, 1) := by decide +kernel
theorem dX9_does_1 : decode cX9_does 1 = .ok (.getfield 22, 3) := by decide +kernel
theorem dX9_does_4 : decode cX9_does 4 = .ok (.iconst 3, 1) := by decide +kernel
theorem dX9_does_5 : decode cX9_does 5 = .ok (.iload_n 1, 1) := by decide +kernel
theorem dX9_does_6 : decode cX9_does 6 = .ok (.imul, 1) := by decide +kernel
theorem dX9_does_7 : decode cX9_does 7 = .ok (.iconst 1, 1) := by decide +kernel
theorem dX9_does_8 : decode cX9_does 8 = .ok (.iadd, 1) := by decide +kernel
theorem dX9_does_9 : decode cX9_does 9 = .ok (.iaload, 1) := by decide +kernel
theorem dX9_does_10 : decode cX9_does 10 = .ok (.istore_n 2, 1) := by decide +kernel
theorem dX9_does_11 : decode cX9_does 11 = .ok (.aload_n 0, 1) := by decide +kernel
theorem dX9_does_12 : decode cX9_does 12 = .ok (.getfield 22, 3) := by decide +kernel
theorem dX9_does_15 : decode cX9_does 15 = .ok (.iconst 3, 1) := by decide +kernel
theorem dX9_does_16 : decode cX9_does 16 = .ok (.iload_n 1, 1) := by decide +kernel
theorem dX9_does_17 : decode cX9_does 17 = .ok (.imul, 1) := by decide +kernel
theorem dX9_does_18 : decode cX9_does 18 = .ok (.iconst 2, 1) := by decide +kernel
theorem dX9_does_19 : decode cX9_does 19 = .ok (.iadd, 1) := by decide +kernel
theorem dX9_does_20 : decode cX9_does 20 = .ok (.iaload, 1) := by decide +kernel
theorem dX9_does_21 : decode cX9_does 21 = .ok (.istore_n 3, 1) := by decide +kernel
theorem dX9_does_22 : decode cX9_does 22 = .ok (.aload_n 0, 1) := by decide +kernel
theorem dX9_does_23 : decode cX9_does 23 = .ok (.getfield 22, 3) := by decide +kernel
theorem dX9_does_26 : decode cX9_does 26 = .ok (.iconst 3, 1) := by decide +kernel
theorem dX9_does_27 : decode cX9_does 27 = .ok (.iload_n 1, 1) := by decide +kernel
theorem dX9_does_28 : decode cX9_does 28 = .ok (.imul, 1) := by decide +kernel
theorem dX9_does_29 : decode cX9_does 29 = .ok (.iaload, 1) := by decide +kernel
theorem dX9_does_30 : decode cX9_does 30 = .ok (.lookupswitch 78 #[(102, 26), (114, 57)], 26) := by decide +kernel
theorem dX9_does_56 : decode cX9_does 56 = .ok (.aload_n 0, 1) := by decide +kernel
theorem dX9_does_57 : decode cX9_does 57 = .ok (.getfield 7, 3) := by decide +kernel
theorem dX9_does_60 : decode cX9_does 60 = .ok (.bipush 14, 2) := by decide +kernel
theorem dX9_does_62 : decode cX9_does 62 = .ok (.iconst 4, 1) := by decide +kernel
theorem dX9_does_63 : decode cX9_does 63 = .ok (.iload_n 2, 1) := by decide +kernel
theorem dX9_does_64 : decode cX9_does 64 = .ok (.imul, 1) := by decide +kernel
theorem dX9_does_65 : decode cX9_does 65 = .ok (.iadd, 1) := by decide +kernel
theorem dX9_does_66 : decode cX9_does 66 = .ok (.iconst 2, 1) := by decide +kernel
theorem dX9_does_67 : decode cX9_does 67 = .ok (.iadd, 1) := by decide +kernel
theorem dX9_does_68 : decode cX9_does 68 = .ok (.iaload, 1) := by decide +kernel
theorem dX9_does_69 : decode cX9_does 69 = .ok (.ifCond .ne 5, 3) := by decide +kernel
theorem dX9_does_72 : decode cX9_does 72 = .ok (.iconst 0, 1) := by decide +kernel
theorem dX9_does_73 : decode cX9_does 73 = .ok (.ireturn, 1) := by decide +kernel
theorem dX9_does_74 : decode cX9_does 74 = .ok (.aload_n 0, 1) := by decide +kernel
theorem dX9_does_75 : decode cX9_does 75 = .ok (.aload_n 0, 1) := by decide +kernel
theorem dX9_does_76 : decode cX9_does 76 = .ok (.getfield 7, 3) := by decide +kernel
theorem dX9_does_79 : decode cX9_does 79 = .ok (.iload_n 2, 1) := by decide +kernel
theorem dX9_does_80 : decode cX9_does 80 = .ok (.iload_n 3, 1) := by decide +kernel
theorem dX9_does_81 : decode cX9_does 81 = .ok (.invokevirtual 101, 3) := by decide +kernel
theorem dX9_does_84 : decode cX9_does 84 = .ok (.pop, 1) := by decide +kernel
theorem dX9_does_85 : decode cX9_does 85 = .ok (.iconst 1, 1) := by decide +kernel
theorem dX9_does_86 : decode cX9_does 86 = .ok (.ireturn, 1) := by decide +kernel
theorem dX9_does_87 : decode cX9_does 87 = .ok (.iload_n 2, 1) := by decide +kernel
theorem dX9_does_88 : decode cX9_does 88 = .ok (.aload_n 0, 1) := by decide +kernel
theorem dX9_does_89 : decode cX9_does 89 = .ok (.getfield 7, 3) := by decide +kernel
theorem dX9_does_92 : decode cX9_does 92 = .ok (.iconst 5, 1) := by decide +kernel
theorem dX9_does_93 : decode cX9_does 93 = .ok (.iaload, 1) := by decide +kernel
theorem dX9_does_94 : decode cX9_does 94 = .ok (.if_icmp .lt 5, 3) := by decide +kernel
theorem dX9_does_97 : decode cX9_does 97 = .ok (.iconst 0, 1) := by decide +kernel
theorem dX9_does_98 : decode cX9_does 98 = .ok (.ireturn, 1) := by decide +kernel
theorem dX9_does_99 : decode cX9_does 99 = .ok (.aload_n 0, 1) := by decide +kernel
theorem dX9_does_100 : decode cX9_does 100 = .ok (.iload_n 2, 1) := by decide +kernel
theorem dX9_does_101 : decode cX9_does 101 = .ok (.iload_n 3, 1) := by decide +kernel
theorem dX9_does_102 : decode cX9_does 102 = .ok (.invokevirtual 104, 3) := by decide +kernel
theorem dX9_does_105 : decode cX9_does 105 = .ok (.pop, 1) := by decide +kernel
theorem dX9_does_106 : decode cX9_does 106 = .ok (.iconst 1, 1) := by decide +kernel
theorem dX9_does_107 : decode cX9_does 107 = .ok (.ireturn, 1) := by decide +kernel
theorem dX9_does_108 : decode cX9_does 108 = .ok (.aload_n 0, 1) := by decide +kernel
theorem dX9_does_109 : decode cX9_does 109 = .ok (.bipush 30, 2) := by decide +kernel
theorem dX9_does_111 : decode cX9_does 111 = .ok (.bipush 22, 2) := by decide +kernel
theorem dX9_does_113 : decode cX9_does 113 = .ok (.iload_n 2, 1) := by decide +kernel
theorem dX9_does_114 : decode cX9_does 114 = .ok (.imul, 1) := by decide +kernel
theorem dX9_does_115 : decode cX9_does 115 = .ok (.iadd, 1) := by decide +kernel
theorem dX9_does_116 : decode cX9_does 116 = .ok (.iconst 0, 1) := by decide +kernel
theorem dX9_does_117 : decode cX9_does 117 = .ok (.invokevirtual 98, 3) := by decide +kernel
theorem dX9_does_120 : decode cX9_does 120 = .ok (.pop, 1) := by decide +kernel
theorem dX9_does_121 : decode cX9_does 121 = .ok (.iconst 1, 1) := by decide +kernel
theorem dX9_does_122 : decode cX9_does 122 = .ok (.ireturn, 1) := by decide +kernel
theorem dX9_play_0 : decode cX9_play 0 = .ok (.aload_n 0, 1) := by decide +kernel
theorem dX9_play_1 : decode cX9_play 1 = .ok (.iconst 0, 1) := by decide +kernel
theorem dX9_play_2 : decode cX9_play 2 = .ok (.putfield 25, 3) := by decide +kernel
theorem dX9_play_5 : decode cX9_play 5 = .ok (.aload_n 0, 1) := by decide +kernel
theorem dX9_play_6 : decode cX9_play 6 = .ok (.invokevirtual 143, 3) := by decide +kernel
theorem dX9_play_9 : decode cX9_play 9 = .ok (.ifCond .ne 9, 3) := by decide +kernel
theorem dX9_play_12 : decode cX9_play 12 = .ok (.aload_n 0, 1) := by decide +kernel
theorem dX9_play_13 : decode cX9_play 13 = .ok (.iconst 1, 1) := by decide +kernel
theorem dX9_play_14 : decode cX9_play 14 = .ok (.invokevirtual 44, 3) := by decide +kernel
theorem dX9_play_17 : decode cX9_play 17 = .ok (.ireturn, 1) := by decide +kernel
theorem dX9_play_18 : decode cX9_play 18 = .ok (.aload_n 0, 1) := by decide +kernel
theorem dX9_play_19 : decode cX9_play 19 = .ok (.invokevirtual 95, 3) := by decide +kernel
theorem dX9_play_22 : decode cX9_play 22 = .ok (.aload_n 0, 1) := by decide +kernel
theorem dX9_play_23 : decode cX9_play 23 = .ok (.iconst 0, 1) := by decide +kernel
theorem dX9_play_24 : decode cX9_play 24 = .ok (.putfield 114, 3) := by decide +kernel
theorem dX9_play_27 : decode cX9_play 27 = .ok (.iconst 0, 1) := by decide +kernel
theorem dX9_play_28 : decode cX9_play 28 = .ok (.istore_n 1, 1) := by decide +kernel
theorem dX9_play_29 : decode cX9_play 29 = .ok (.iload_n 1, 1) := by decide +kernel
theorem dX9_play_30 : decode cX9_play 30 = .ok (.aload_n 0, 1) := by decide +kernel
theorem dX9_play_31 : decode cX9_play 31 = .ok (.getfield 131, 3) := by decide +kernel
theorem dX9_play_34 : decode cX9_play 34 = .ok (.if_icmp .ge 17, 3) := by decide +kernel
theorem dX9_play_37 : decode cX9_play 37 = .ok (.aload_n 0, 1) := by decide +kernel
theorem dX9_play_38 : decode cX9_play 38 = .ok (.iload_n 1, 1) := by decide +kernel
theorem dX9_play_39 : decode cX9_play 39 = .ok (.invokevirtual 146, 3) := by decide +kernel
theorem dX9_play_42 : decode cX9_play 42 = .ok (.ifCond .eq 9, 3) := by decide +kernel
theorem dX9_play_45 : decode cX9_play 45 = .ok (.iinc 1 1, 3) := by decide +kernel
theorem dX9_play_48 : decode cX9_play 48 = .ok (.goto (-19), 3) := by decide +kernel
theorem dX9_play_51 : decode cX9_play 51 = .ok (.iload_n 1, 1) := by decide +kernel
theorem dX9_play_52 : decode cX9_play 52 = .ok (.ireturn, 1) := by decide +kernel
theorem dX9_ofFob_0 : decode cX9_ofFob 0 = .ok (.iload_n 2, 1) := by decide +kernel
theorem dX9_ofFob_1 : decode cX9_ofFob 1 = .ok (.iconst 3, 1) := by decide +kernel
theorem dX9_ofFob_2 : decode cX9_ofFob 2 = .ok (.if_icmp .ne 14, 3) := by decide +kernel
theorem dX9_ofFob_5 : decode cX9_ofFob 5 = .ok (.aload_n 0, 1) := by decide +kernel
theorem dX9_ofFob_6 : decode cX9_ofFob 6 = .ok (.getfield 7, 3) := by decide +kernel
theorem dX9_ofFob_9 : decode cX9_ofFob 9 = .ok (.iload_n 1, 1) := by decide +kernel
theorem dX9_ofFob_10 : decode cX9_ofFob 10 = .ok (.invokestatic 82, 3) := by decide +kernel
theorem dX9_ofFob_13 : decode cX9_ofFob 13 = .ok (.goto 25, 3) := by decide +kernel
theorem dX9_ofFob_16 : decode cX9_ofFob 16 = .ok (.aload_n 0, 1) := by decide +kernel
theorem dX9_ofFob_17 : decode cX9_ofFob 17 = .ok (.getfield 7, 3) := by decide +kernel
theorem dX9_ofFob_20 : decode cX9_ofFob 20 = .ok (.bipush 14, 2) := by decide +kernel
theorem dX9_ofFob_22 : decode cX9_ofFob 22 = .ok (.iconst 4, 1) := by decide +kernel
theorem dX9_ofFob_23 : decode cX9_ofFob 23 = .ok (.iload_n 1, 1) := by decide +kernel
theorem dX9_ofFob_24 : decode cX9_ofFob 24 = .ok (.imul, 1) := by decide +kernel
theorem dX9_ofFob_25 : decode cX9_ofFob 25 = .ok (.iadd, 1) := by decide +kernel
theorem dX9_ofFob_26 : decode cX9_ofFob 26 = .ok (.iload_n 2, 1) := by decide +kernel
theorem dX9_ofFob_27 : decode cX9_ofFob 27 = .ok (.iconst 4, 1) := by decide +kernel
theorem dX9_ofFob_28 : decode cX9_ofFob 28 = .ok (.if_icmp .ne 7, 3) := by decide +kernel
theorem dX9_ofFob_31 : decode cX9_ofFob 31 = .ok (.iconst 3, 1) := by decide +kernel
theorem dX9_ofFob_32 : decode cX9_ofFob 32 = .ok (.goto 4, 3) := by decide +kernel
theorem dX9_ofFob_35 : decode cX9_ofFob 35 = .ok (.iload_n 2, 1) := by decide +kernel
theorem dX9_ofFob_36 : decode cX9_ofFob 36 = .ok (.iadd, 1) := by decide +kernel
theorem dX9_ofFob_37 : decode cX9_ofFob 37 = .ok (.iaload, 1) := by decide +kernel
theorem dX9_ofFob_38 : decode cX9_ofFob 38 = .ok (.ireturn, 1) := by decide +kernel
theorem dX9_fob_0 : decode cX9_fob 0 = .ok (.aload_n 0, 1) := by decide +kernel
theorem dX9_fob_1 : decode cX9_fob 1 = .ok (.iconst 0, 1) := by decide +kernel
theorem dX9_fob_2 : decode cX9_fob 2 = .ok (.putfield 25, 3) := by decide +kernel
theorem dX9_fob_5 : decode cX9_fob 5 = .ok (.iload_n 1, 1) := by decide +kernel
theorem dX9_fob_6 : decode cX9_fob 6 = .ok (.invokestatic 92, 3) := by decide +kernel
theorem dX9_fob_9 : decode cX9_fob 9 = .ok (.ifCond .ne 9, 3) := by decide +kernel
theorem dX9_fob_12 : decode cX9_fob 12 = .ok (.aload_n 0, 1) := by decide +kernel
theorem dX9_fob_13 : decode cX9_fob 13 = .ok (.iconst 1, 1) := by decide +kernel
theorem dX9_fob_14 : decode cX9_fob 14 = .ok (.invokevirtual 44, 3) := by decide +kernel
theorem dX9_fob_17 : decode cX9_fob 17 = .ok (.ireturn, 1) := by decide +kernel
theorem dX9_fob_18 : decode cX9_fob 18 = .ok (.iload_n 2, 1) := by decide +kernel
theorem dX9_fob_19 : decode cX9_fob 19 = .ok (.iconst 0, 1) := by decide +kernel
theorem dX9_fob_20 : decode cX9_fob 20 = .ok (.iconst 4, 1) := by decide +kernel
theorem dX9_fob_21 : decode cX9_fob 21 = .ok (.invokestatic 29, 3) := by decide +kernel
theorem dX9_fob_24 : decode cX9_fob 24 = .ok (.ifCond .eq 12, 3) := by decide +kernel
theorem dX9_fob_27 : decode cX9_fob 27 = .ok (.aload_n 0, 1) := by decide +kernel
theorem dX9_fob_28 : decode cX9_fob 28 = .ok (.iload_n 1, 1) := by decide +kernel
theorem dX9_fob_29 : decode cX9_fob 29 = .ok (.iload_n 2, 1) := by decide +kernel
theorem dX9_fob_30 : decode cX9_fob 30 = .ok (.invokevirtual 149, 3) := by decide +kernel
theorem dX9_fob_33 : decode cX9_fob 33 = .ok (.goto 8, 3) := by decide +kernel
theorem dX9_fob_36 : decode cX9_fob 36 = .ok (.aload_n 0, 1) := by decide +kernel
theorem dX9_fob_37 : decode cX9_fob 37 = .ok (.iconst 2, 1) := by decide +kernel
theorem dX9_fob_38 : decode cX9_fob 38 = .ok (.invokevirtual 44, 3) := by decide +kernel
theorem dX9_fob_41 : decode cX9_fob 41 = .ok (.ireturn, 1) := by decide +kernel
theorem dX9_ofSlot_0 : decode cX9_ofSlot 0 = .ok (.iload_n 1, 1) := by decide +kernel
theorem dX9_ofSlot_1 : decode cX9_ofSlot 1 = .ok (.iload_n 2, 1) := by decide +kernel
theorem dX9_ofSlot_2 : decode cX9_ofSlot 2 = .ok (.invokestatic 56, 3) := by decide +kernel
theorem dX9_ofSlot_5 : decode cX9_ofSlot 5 = .ok (.istore 4, 2) := by decide +kernel
theorem dX9_ofSlot_7 : decode cX9_ofSlot 7 = .ok (.aload_n 0, 1) := by decide +kernel
theorem dX9_ofSlot_8 : decode cX9_ofSlot 8 = .ok (.getfield 7, 3) := by decide +kernel
theorem dX9_ofSlot_11 : decode cX9_ofSlot 11 = .ok (.iload 4, 2) := by decide +kernel
theorem dX9_ofSlot_13 : decode cX9_ofSlot 13 = .ok (.iaload, 1) := by decide +kernel
theorem dX9_ofSlot_14 : decode cX9_ofSlot 14 = .ok (.iconst 1, 1) := by decide +kernel
theorem dX9_ofSlot_15 : decode cX9_ofSlot 15 = .ok (.if_icmp .ne 15, 3) := by decide +kernel
theorem dX9_ofSlot_18 : decode cX9_ofSlot 18 = .ok (.aload_n 0, 1) := by decide +kernel
theorem dX9_ofSlot_19 : decode cX9_ofSlot 19 = .ok (.getfield 7, 3) := by decide +kernel
theorem dX9_ofSlot_22 : decode cX9_ofSlot 22 = .ok (.iload 4, 2) := by decide +kernel
theorem dX9_ofSlot_24 : decode cX9_ofSlot 24 = .ok (.iload_n 3, 1) := by decide +kernel
theorem dX9_ofSlot_25 : decode cX9_ofSlot 25 = .ok (.iadd, 1) := by decide +kernel
theorem dX9_ofSlot_26 : decode cX9_ofSlot 26 = .ok (.iaload, 1) := by decide +kernel
theorem dX9_ofSlot_27 : decode cX9_ofSlot 27 = .ok (.goto 12, 3) := by decide +kernel
theorem dX9_ofSlot_30 : decode cX9_ofSlot 30 = .ok (.iload_n 3, 1) := by decide +kernel
theorem dX9_ofSlot_31 : decode cX9_ofSlot 31 = .ok (.ifCond .ne 7, 3) := by decide +kernel
theorem dX9_ofSlot_34 : decode cX9_ofSlot 34 = .ok (.iconst 0, 1) := by decide +kernel
theorem dX9_ofSlot_35 : decode cX9_ofSlot 35 = .ok (.goto 4, 3) := by decide +kernel
theorem dX9_ofSlot_38 : decode cX9_ofSlot 38 = .ok (.iconst (-1), 1) := by decide +kernel
theorem dX9_ofSlot_39 : decode cX9_ofSlot 39 = .ok (.ireturn, 1) := by decide +kernel
theorem dX9_slot_0 : decode cX9_slot 0 = .ok (.aload_n 0, 1) := by decide +kernel
theorem dX9_slot_1 : decode cX9_slot 1 = .ok (.iconst 0, 1) := by decide +kernel
theorem dX9_slot_2 : decode cX9_slot 2 = .ok (.putfield 25, 3) := by decide +kernel
theorem dX9_slot_5 : decode cX9_slot 5 = .ok (.iload_n 1, 1) := by decide +kernel
theorem dX9_slot_6 : decode cX9_slot 6 = .ok (.iload_n 2, 1) := by decide +kernel
theorem dX9_slot_7 : decode cX9_slot 7 = .ok (.invokestatic 107, 3) := by decide +kernel
theorem dX9_slot_10 : decode cX9_slot 10 = .ok (.ifCond .ne 9, 3) := by decide +kernel
theorem dX9_slot_13 : decode cX9_slot 13 = .ok (.aload_n 0, 1) := by decide +kernel
theorem dX9_slot_14 : decode cX9_slot 14 = .ok (.iconst 1, 1) := by decide +kernel
theorem dX9_slot_15 : decode cX9_slot 15 = .ok (.invokevirtual 44, 3) := by decide +kernel
theorem dX9_slot_18 : decode cX9_slot 18 = .ok (.ireturn, 1) := by decide +kernel
theorem dX9_slot_19 : decode cX9_slot 19 = .ok (.iload_n 3, 1) := by decide +kernel
theorem dX9_slot_20 : decode cX9_slot 20 = .ok (.iconst 0, 1) := by decide +kernel
theorem dX9_slot_21 : decode cX9_slot 21 = .ok (.iconst 3, 1) := by decide +kernel
theorem dX9_slot_22 : decode cX9_slot 22 = .ok (.invokestatic 29, 3) := by decide +kernel
theorem dX9_slot_25 : decode cX9_slot 25 = .ok (.ifCond .eq 13, 3) := by decide +kernel
theorem dX9_slot_28 : decode cX9_slot 28 = .ok (.aload_n 0, 1) := by decide +kernel
theorem dX9_slot_29 : decode cX9_slot 29 = .ok (.iload_n 1, 1) := by decide +kernel
theorem dX9_slot_30 : decode cX9_slot 30 = .ok (.iload_n 2, 1) := by decide +kernel
theorem dX9_slot_31 : decode cX9_slot 31 = .ok (.iload_n 3, 1) := by decide +kernel
theorem dX9_slot_32 : decode cX9_slot 32 = .ok (.invokevirtual 152, 3) := by decide +kernel
theorem dX9_slot_35 : decode cX9_slot 35 = .ok (.goto 8, 3) := by decide +kernel
theorem dX9_slot_38 : decode cX9_slot 38 = .ok (.aload_n 0, 1) := by decide +kernel
theorem dX9_slot_39 : decode cX9_slot 39 = .ok (.iconst 2, 1) := by decide +kernel
theorem dX9_slot_40 : decode cX9_slot 40 = .ok (.invokevirtual 44, 3) := by decide +kernel
theorem dX9_slot_43 : decode cX9_slot 43 = .ok (.ireturn, 1) := by decide +kernel
theorem dX9_ofDoor_0 : decode cX9_ofDoor 0 = .ok (.iload_n 2, 1) := by decide +kernel
theorem dX9_ofDoor_1 : decode cX9_ofDoor 1 = .ok (.tableswitch 69 0 3 #[31, 31, 46, 63], 31) := by decide +kernel
theorem dX9_ofDoor_32 : decode cX9_ofDoor 32 = .ok (.aload_n 0, 1) := by decide +kernel
theorem dX9_ofDoor_33 : decode cX9_ofDoor 33 = .ok (.getfield 7, 3) := by decide +kernel
theorem dX9_ofDoor_36 : decode cX9_ofDoor 36 = .ok (.bipush 30, 2) := by decide +kernel
theorem dX9_ofDoor_38 : decode cX9_ofDoor 38 = .ok (.bipush 22, 2) := by decide +kernel
theorem dX9_ofDoor_40 : decode cX9_ofDoor 40 = .ok (.iload_n 1, 1) := by decide +kernel
theorem dX9_ofDoor_41 : decode cX9_ofDoor 41 = .ok (.imul, 1) := by decide +kernel
theorem dX9_ofDoor_42 : decode cX9_ofDoor 42 = .ok (.iadd, 1) := by decide +kernel
theorem dX9_ofDoor_43 : decode cX9_ofDoor 43 = .ok (.iload_n 2, 1) := by decide +kernel
theorem dX9_ofDoor_44 : decode cX9_ofDoor 44 = .ok (.iadd, 1) := by decide +kernel
theorem dX9_ofDoor_45 : decode cX9_ofDoor 45 = .ok (.iaload, 1) := by decide +kernel
theorem dX9_ofDoor_46 : decode cX9_ofDoor 46 = .ok (.ireturn, 1) := by decide +kernel
theorem dX9_ofDoor_47 : decode cX9_ofDoor 47 = .ok (.aload_n 0, 1) := by decide +kernel
theorem dX9_ofDoor_48 : decode cX9_ofDoor 48 = .ok (.getfield 7, 3) := by decide +kernel
theorem dX9_ofDoor_51 : decode cX9_ofDoor 51 = .ok (.iload_n 1, 1) := by decide +kernel
theorem dX9_ofDoor_52 : decode cX9_ofDoor 52 = .ok (.invokestatic 66, 3) := by decide +kernel
theorem dX9_ofDoor_55 : decode cX9_ofDoor 55 = .ok (.ifCond .eq 7, 3) := by decide +kernel
theorem dX9_ofDoor_58 : decode cX9_ofDoor 58 = .ok (.iconst 1, 1) := by decide +kernel
theorem dX9_ofDoor_59 : decode cX9_ofDoor 59 = .ok (.goto 4, 3) := by decide +kernel
theorem dX9_ofDoor_62 : decode cX9_ofDoor 62 = .ok (.iconst 0, 1) := by decide +kernel
theorem dX9_ofDoor_63 : decode cX9_ofDoor 63 = .ok (.ireturn, 1) := by decide +kernel
theorem dX9_ofDoor_64 : decode cX9_ofDoor 64 = .ok (.aload_n 0, 1) := by decide +kernel
theorem dX9_ofDoor_65 : decode cX9_ofDoor 65 = .ok (.iload_n 1, 1) := by decide +kernel
theorem dX9_ofDoor_66 : decode cX9_ofDoor 66 = .ok (.invokevirtual 111, 3) := by decide +kernel
theorem dX9_ofDoor_69 : decode cX9_ofDoor 69 = .ok (.ireturn, 1) := by decide +kernel
theorem dX9_ofDoor_70 : decode cX9_ofDoor 70 = .ok (.aload_n 0, 1) := by decide +kernel
theorem dX9_ofDoor_71 : decode cX9_ofDoor 71 = .ok (.getfield 7, 3) := by decide +kernel
theorem dX9_ofDoor_74 : decode cX9_ofDoor 74 = .ok (.bipush 30, 2) := by decide +kernel
theorem dX9_ofDoor_76 : decode cX9_ofDoor 76 = .ok (.bipush 22, 2) := by decide +kernel
theorem dX9_ofDoor_78 : decode cX9_ofDoor 78 = .ok (.iload_n 1, 1) := by decide +kernel
theorem dX9_ofDoor_79 : decode cX9_ofDoor 79 = .ok (.imul, 1) := by decide +kernel
theorem dX9_ofDoor_80 : decode cX9_ofDoor 80 = .ok (.iadd, 1) := by decide +kernel
theorem dX9_ofDoor_81 : decode cX9_ofDoor 81 = .ok (.iload_n 2, 1) := by decide +kernel
theorem dX9_ofDoor_82 : decode cX9_ofDoor 82 = .ok (.iadd, 1) := by decide +kernel
theorem dX9_ofDoor_83 : decode cX9_ofDoor 83 = .ok (.iconst 2, 1) := by decide +kernel
theorem dX9_ofDoor_84 : decode cX9_ofDoor 84 = .ok (.isub, 1) := by decide +kernel
theorem dX9_ofDoor_85 : decode cX9_ofDoor 85 = .ok (.iaload, 1) := by decide +kernel
theorem dX9_ofDoor_86 : decode cX9_ofDoor 86 = .ok (.ireturn, 1) := by decide +kernel
theorem dX9_door_0 : decode cX9_door 0 = .ok (.aload_n 0, 1) := by decide +kernel
theorem dX9_door_1 : decode cX9_door 1 = .ok (.iconst 0, 1) := by decide +kernel
theorem dX9_door_2 : decode cX9_door 2 = .ok (.putfield 25, 3) := by decide +kernel
theorem dX9_door_5 : decode cX9_door 5 = .ok (.iload_n 1, 1) := by decide +kernel
theorem dX9_door_6 : decode cX9_door 6 = .ok (.invokestatic 33, 3) := by decide +kernel
theorem dX9_door_9 : decode cX9_door 9 = .ok (.ifCond .ne 9, 3) := by decide +kernel
theorem dX9_door_12 : decode cX9_door 12 = .ok (.aload_n 0, 1) := by decide +kernel
theorem dX9_door_13 : decode cX9_door 13 = .ok (.iconst 1, 1) := by decide +kernel
theorem dX9_door_14 : decode cX9_door 14 = .ok (.invokevirtual 44, 3) := by decide +kernel
theorem dX9_door_17 : decode cX9_door 17 = .ok (.ireturn, 1) := by decide +kernel
theorem dX9_door_18 : decode cX9_door 18 = .ok (.iload_n 2, 1) := by decide +kernel
theorem dX9_door_19 : decode cX9_door 19 = .ok (.iconst 0, 1) := by decide +kernel
theorem dX9_door_20 : decode cX9_door 20 = .ok (.bipush 7, 2) := by decide +kernel
theorem dX9_door_22 : decode cX9_door 22 = .ok (.invokestatic 29, 3) := by decide +kernel
theorem dX9_door_25 : decode cX9_door 25 = .ok (.ifCond .eq 12, 3) := by decide +kernel
theorem dX9_door_28 : decode cX9_door 28 = .ok (.aload_n 0, 1) := by decide +kernel
theorem dX9_door_29 : decode cX9_door 29 = .ok (.iload_n 1, 1) := by decide +kernel
theorem dX9_door_30 : decode cX9_door 30 = .ok (.iload_n 2, 1) := by decide +kernel
theorem dX9_door_31 : decode cX9_door 31 = .ok (.invokevirtual 156, 3) := by decide +kernel
theorem dX9_door_34 : decode cX9_door 34 = .ok (.goto 8, 3) := by decide +kernel
theorem dX9_door_37 : decode cX9_door 37 = .ok (.aload_n 0, 1) := by decide +kernel
theorem dX9_door_38 : decode cX9_door 38 = .ok (.iconst 2, 1) := by decide +kernel
theorem dX9_door_39 : decode cX9_door 39 = .ok (.invokevirtual 44, 3) := by decide +kernel
theorem dX9_door_42 : decode cX9_door 42 = .ok (.ireturn, 1) := by decide +kernel
theorem dX9_air_0 : decode cX9_air 0 = .ok (.aload_n 0, 1) := by decide +kernel
theorem dX9_air_1 : decode cX9_air 1 = .ok (.iconst 0, 1) := by decide +kernel
theorem dX9_air_2 : decode cX9_air 2 = .ok (.putfield 25, 3) := by decide +kernel
theorem dX9_air_5 : decode cX9_air 5 = .ok (.iload_n 1, 1) := by decide +kernel
theorem dX9_air_6 : decode cX9_air 6 = .ok (.ifCond .ge 9, 3) := by decide +kernel
theorem dX9_air_9 : decode cX9_air 9 = .ok (.aload_n 0, 1) := by decide +kernel
theorem dX9_air_10 : decode cX9_air 10 = .ok (.iconst 1, 1) := by decide +kernel
theorem dX9_air_11 : decode cX9_air 11 = .ok (.invokevirtual 44, 3) := by decide +kernel
theorem dX9_air_14 : decode cX9_air 14 = .ok (.ireturn, 1) := by decide +kernel
theorem dX9_air_15 : decode cX9_air 15 = .ok (.iload_n 1, 1) := by decide +kernel
theorem dX9_air_16 : decode cX9_air 16 = .ok (.aload_n 0, 1) := by decide +kernel
theorem dX9_air_17 : decode cX9_air 17 = .ok (.getfield 7, 3) := by decide +kernel
theorem dX9_air_20 : decode cX9_air 20 = .ok (.iconst 5, 1) := by decide +kernel
theorem dX9_air_21 : decode cX9_air 21 = .ok (.iaload, 1) := by decide +kernel
theorem dX9_air_22 : decode cX9_air 22 = .ok (.if_icmp .ge 15, 3) := by decide +kernel
theorem dX9_air_25 : decode cX9_air 25 = .ok (.aload_n 0, 1) := by decide +kernel
theorem dX9_air_26 : decode cX9_air 26 = .ok (.getfield 7, 3) := by decide +kernel
theorem dX9_air_29 : decode cX9_air 29 = .ok (.bipush 6, 2) := by decide +kernel
theorem dX9_air_31 : decode cX9_air 31 = .ok (.iload_n 1, 1) := by decide +kernel
theorem dX9_air_32 : decode cX9_air 32 = .ok (.iadd, 1) := by decide +kernel
theorem dX9_air_33 : decode cX9_air 33 = .ok (.iaload, 1) := by decide +kernel
theorem dX9_air_34 : decode cX9_air 34 = .ok (.goto 4, 3) := by decide +kernel
theorem dX9_air_37 : decode cX9_air 37 = .ok (.iconst (-1), 1) := by decide +kernel
theorem dX9_air_38 : decode cX9_air 38 = .ok (.ireturn, 1) := by decide +kernel
theorem dX9_ofDoors_0 : decode cX9_ofDoors 0 = .ok (.iconst 0, 1) := by decide +kernel
theorem dX9_ofDoors_1 : decode cX9_ofDoors 1 = .ok (.istore_n 2, 1) := by decide +kernel
theorem dX9_ofDoors_2 : decode cX9_ofDoors 2 = .ok (.iconst 0, 1) := by decide +kernel
theorem dX9_ofDoors_3 : decode cX9_ofDoors 3 = .ok (.istore_n 3, 1) := by decide +kernel
theorem dX9_ofDoors_4 : decode cX9_ofDoors 4 = .ok (.iload_n 3, 1) := by decide +kernel
theorem dX9_ofDoors_5 : decode cX9_ofDoors 5 = .ok (.iconst 3, 1) := by decide +kernel
theorem dX9_ofDoors_6 : decode cX9_ofDoors 6 = .ok (.if_icmp .ge 18, 3) := by decide +kernel
theorem dX9_ofDoors_9 : decode cX9_ofDoors 9 = .ok (.iload_n 2, 1) := by decide +kernel
theorem dX9_ofDoors_10 : decode cX9_ofDoors 10 = .ok (.aload_n 0, 1) := by decide +kernel
theorem dX9_ofDoors_11 : decode cX9_ofDoors 11 = .ok (.iload_n 3, 1) := by decide +kernel
theorem dX9_ofDoors_12 : decode cX9_ofDoors 12 = .ok (.iload_n 1, 1) := by decide +kernel
theorem dX9_ofDoors_13 : decode cX9_ofDoors 13 = .ok (.invokevirtual 156, 3) := by decide +kernel
theorem dX9_ofDoors_16 : decode cX9_ofDoors 16 = .ok (.iadd, 1) := by decide +kernel
theorem dX9_ofDoors_17 : decode cX9_ofDoors 17 = .ok (.istore_n 2, 1) := by decide +kernel
theorem dX9_ofDoors_18 : decode cX9_ofDoors 18 = .ok (.iinc 3 1, 3) := by decide +kernel
theorem dX9_ofDoors_21 : decode cX9_ofDoors 21 = .ok (.goto (-17), 3) := by decide +kernel
theorem dX9_ofDoors_24 : decode cX9_ofDoors 24 = .ok (.iload_n 2, 1) := by decide +kernel
theorem dX9_ofDoors_25 : decode cX9_ofDoors 25 = .ok (.ireturn, 1) := by decide +kernel
theorem dX9_counted_0 : decode cX9_counted 0 = .ok (.iload_n 1, 1) := by decide +kernel
theorem dX9_counted_1 : decode cX9_counted 1 = .ok (.tableswitch 110 0 6 #[43, 71, 78, 84, 91, 97, 103], 43) := by decide +kernel
theorem dX9_counted_44 : decode cX9_counted 44 = .ok (.aload_n 0, 1) := by decide +kernel
theorem dX9_counted_45 : decode cX9_counted 45 = .ok (.iconst 0, 1) := by decide +kernel
theorem dX9_counted_46 : decode cX9_counted 46 = .ok (.iconst 4, 1) := by decide +kernel
theorem dX9_counted_47 : decode cX9_counted 47 = .ok (.invokevirtual 149, 3) := by decide +kernel
theorem dX9_counted_50 : decode cX9_counted 50 = .ok (.aload_n 0, 1) := by decide +kernel
theorem dX9_counted_51 : decode cX9_counted 51 = .ok (.iconst 1, 1) := by decide +kernel
theorem dX9_counted_52 : decode cX9_counted 52 = .ok (.iconst 4, 1) := by decide +kernel
theorem dX9_counted_53 : decode cX9_counted 53 = .ok (.invokevirtual 149, 3) := by decide +kernel
theorem dX9_counted_56 : decode cX9_counted 56 = .ok (.iadd, 1) := by decide +kernel
theorem dX9_counted_57 : decode cX9_counted 57 = .ok (.aload_n 0, 1) := by decide +kernel
theorem dX9_counted_58 : decode cX9_counted 58 = .ok (.iconst 2, 1) := by decide +kernel
theorem dX9_counted_59 : decode cX9_counted 59 = .ok (.iconst 4, 1) := by decide +kernel
theorem dX9_counted_60 : decode cX9_counted 60 = .ok (.invokevirtual 149, 3) := by decide +kernel
theorem dX9_counted_63 : decode cX9_counted 63 = .ok (.iadd, 1) := by decide +kernel
theorem dX9_counted_64 : decode cX9_counted 64 = .ok (.aload_n 0, 1) := by decide +kernel
theorem dX9_counted_65 : decode cX9_counted 65 = .ok (.iconst 3, 1) := by decide +kernel
theorem dX9_counted_66 : decode cX9_counted 66 = .ok (.iconst 4, 1) := by decide +kernel
theorem dX9_counted_67 : decode cX9_counted 67 = .ok (.invokevirtual 149, 3) := by decide +kernel
theorem dX9_counted_70 : decode cX9_counted 70 = .ok (.iadd, 1) := by decide +kernel
theorem dX9_counted_71 : decode cX9_counted 71 = .ok (.ireturn, 1) := by decide +kernel
theorem dX9_counted_72 : decode cX9_counted 72 = .ok (.aload_n 0, 1) := by decide +kernel
theorem dX9_counted_73 : decode cX9_counted 73 = .ok (.getfield 7, 3) := by decide +kernel
theorem dX9_counted_76 : decode cX9_counted 76 = .ok (.iconst 3, 1) := by decide +kernel
theorem dX9_counted_77 : decode cX9_counted 77 = .ok (.iaload, 1) := by decide +kernel
theorem dX9_counted_78 : decode cX9_counted 78 = .ok (.ireturn, 1) := by decide +kernel
theorem dX9_counted_79 : decode cX9_counted 79 = .ok (.aload_n 0, 1) := by decide +kernel
theorem dX9_counted_80 : decode cX9_counted 80 = .ok (.iconst 4, 1) := by decide +kernel
theorem dX9_counted_81 : decode cX9_counted 81 = .ok (.invokevirtual 159, 3) := by decide +kernel
theorem dX9_counted_84 : decode cX9_counted 84 = .ok (.ireturn, 1) := by decide +kernel
theorem dX9_counted_85 : decode cX9_counted 85 = .ok (.aload_n 0, 1) := by decide +kernel
theorem dX9_counted_86 : decode cX9_counted 86 = .ok (.getfield 7, 3) := by decide +kernel
theorem dX9_counted_89 : decode cX9_counted 89 = .ok (.iconst 4, 1) := by decide +kernel
theorem dX9_counted_90 : decode cX9_counted 90 = .ok (.iaload, 1) := by decide +kernel
theorem dX9_counted_91 : decode cX9_counted 91 = .ok (.ireturn, 1) := by decide +kernel
theorem dX9_counted_92 : decode cX9_counted 92 = .ok (.aload_n 0, 1) := by decide +kernel
theorem dX9_counted_93 : decode cX9_counted 93 = .ok (.iconst 0, 1) := by decide +kernel
theorem dX9_counted_94 : decode cX9_counted 94 = .ok (.invokevirtual 159, 3) := by decide +kernel
theorem dX9_counted_97 : decode cX9_counted 97 = .ok (.ireturn, 1) := by decide +kernel
theorem dX9_counted_98 : decode cX9_counted 98 = .ok (.aload_n 0, 1) := by decide +kernel
theorem dX9_counted_99 : decode cX9_counted 99 = .ok (.iconst 2, 1) := by decide +kernel
theorem dX9_counted_100 : decode cX9_counted 100 = .ok (.invokevirtual 159, 3) := by decide +kernel
theorem dX9_counted_103 : decode cX9_counted 103 = .ok (.ireturn, 1) := by decide +kernel
theorem dX9_counted_104 : decode cX9_counted 104 = .ok (.aload_n 0, 1) := by decide +kernel
theorem dX9_counted_105 : decode cX9_counted 105 = .ok (.getfield 7, 3) := by decide +kernel
theorem dX9_counted_108 : decode cX9_counted 108 = .ok (.iconst 5, 1) := by decide +kernel
theorem dX9_counted_109 : decode cX9_counted 109 = .ok (.iaload, 1) := by decide +kernel
theorem dX9_counted_110 : decode cX9_counted 110 = .ok (.ireturn, 1) := by decide +kernel
theorem dX9_counted_111 : decode cX9_counted 111 = .ok (.aload_n 0, 1) := by decide +kernel
theorem dX9_counted_112 : decode cX9_counted 112 = .ok (.getfield 37, 3) := by decide +kernel
theorem dX9_counted_115 : decode cX9_counted 115 = .ok (.ireturn, 1) := by decide +kernel
theorem dX9_count_0 : decode cX9_count 0 = .ok (.aload_n 0, 1) := by decide +kernel
theorem dX9_count_1 : decode cX9_count 1 = .ok (.iconst 0, 1) := by decide +kernel
theorem dX9_count_2 : decode cX9_count 2 = .ok (.putfield 25, 3) := by decide +kernel
theorem dX9_count_5 : decode cX9_count 5 = .ok (.iload_n 1, 1) := by decide +kernel
theorem dX9_count_6 : decode cX9_count 6 = .ok (.iconst 0, 1) := by decide +kernel
theorem dX9_count_7 : decode cX9_count 7 = .ok (.bipush 7, 2) := by decide +kernel
theorem dX9_count_9 : decode cX9_count 9 = .ok (.invokestatic 29, 3) := by decide +kernel
theorem dX9_count_12 : decode cX9_count 12 = .ok (.ifCond .eq 11, 3) := by decide +kernel
theorem dX9_count_15 : decode cX9_count 15 = .ok (.aload_n 0, 1) := by decide +kernel
theorem dX9_count_16 : decode cX9_count 16 = .ok (.iload_n 1, 1) := by decide +kernel
theorem dX9_count_17 : decode cX9_count 17 = .ok (.invokevirtual 162, 3) := by decide +kernel
theorem dX9_count_20 : decode cX9_count 20 = .ok (.goto 8, 3) := by decide +kernel
theorem dX9_count_23 : decode cX9_count 23 = .ok (.aload_n 0, 1) := by decide +kernel
theorem dX9_count_24 : decode cX9_count 24 = .ok (.iconst 1, 1) := by decide +kernel
theorem dX9_count_25 : decode cX9_count 25 = .ok (.invokevirtual 44, 3) := by decide +kernel
theorem dX9_count_28 : decode cX9_count 28 = .ok (.ireturn, 1) := by decide +kernel
theorem dX9_setting_0 : decode cX9_setting 0 = .ok (.aload_n 0, 1) := by decide +kernel
theorem dX9_setting_1 : decode cX9_setting 1 = .ok (.iconst 0, 1) := by decide +kernel
theorem dX9_setting_2 : decode cX9_setting 2 = .ok (.putfield 25, 3) := by decide +kernel
theorem dX9_setting_5 : decode cX9_setting 5 = .ok (.iload_n 1, 1) := by decide +kernel
theorem dX9_setting_6 : decode cX9_setting 6 = .ok (.iconst 0, 1) := by decide +kernel
theorem dX9_setting_7 : decode cX9_setting 7 = .ok (.iconst 2, 1) := by decide +kernel
theorem dX9_setting_8 : decode cX9_setting 8 = .ok (.invokestatic 29, 3) := by decide +kernel
theorem dX9_setting_11 : decode cX9_setting 11 = .ok (.ifCond .eq 12, 3) := by decide +kernel
theorem dX9_setting_14 : decode cX9_setting 14 = .ok (.aload_n 0, 1) := by decide +kernel
theorem dX9_setting_15 : decode cX9_setting 15 = .ok (.getfield 7, 3) := by decide +kernel
theorem dX9_setting_18 : decode cX9_setting 18 = .ok (.iload_n 1, 1) := by decide +kernel
theorem dX9_setting_19 : decode cX9_setting 19 = .ok (.iaload, 1) := by decide +kernel
theorem dX9_setting_20 : decode cX9_setting 20 = .ok (.goto 8, 3) := by decide +kernel
theorem dX9_setting_23 : decode cX9_setting 23 = .ok (.aload_n 0, 1) := by decide +kernel
theorem dX9_setting_24 : decode cX9_setting 24 = .ok (.iconst 1, 1) := by decide +kernel
theorem dX9_setting_25 : decode cX9_setting 25 = .ok (.invokevirtual 44, 3) := by decide +kernel
theorem dX9_setting_28 : decode cX9_setting 28 = .ok (.ireturn, 1) := by decide +kernel
theorem dX9_ifHeard_0 : decode cX9_ifHeard 0 = .ok (.aload_n 0, 1) := by decide +kernel
theorem dX9_ifHeard_1 : decode cX9_ifHeard 1 = .ok (.iconst 0, 1) := by decide +kernel
theorem dX9_ifHeard_2 : decode cX9_ifHeard 2 = .ok (.putfield 25, 3) := by decide +kernel
theorem dX9_ifHeard_5 : decode cX9_ifHeard 5 = .ok (.iload_n 1, 1) := by decide +kernel
theorem dX9_ifHeard_6 : decode cX9_ifHeard 6 = .ok (.invokestatic 33, 3) := by decide +kernel
theorem dX9_ifHeard_9 : decode cX9_ifHeard 9 = .ok (.ifCond .ne 9, 3) := by decide +kernel
theorem dX9_ifHeard_12 : decode cX9_ifHeard 12 = .ok (.aload_n 0, 1) := by decide +kernel
theorem dX9_ifHeard_13 : decode cX9_ifHeard 13 = .ok (.iconst 1, 1) := by decide +kernel
theorem dX9_ifHeard_14 : decode cX9_ifHeard 14 = .ok (.invokevirtual 44, 3) := by decide +kernel
theorem dX9_ifHeard_17 : decode cX9_ifHeard 17 = .ok (.ireturn, 1) := by decide +kernel
theorem dX9_ifHeard_18 : decode cX9_ifHeard 18 = .ok (.iload_n 2, 1) := by decide +kernel
theorem dX9_ifHeard_19 : decode cX9_ifHeard 19 = .ok (.iconst 0, 1) := by decide +kernel
theorem dX9_ifHeard_20 : decode cX9_ifHeard 20 = .ok (.ldc 165, 2) := by decide +kernel
theorem dX9_ifHeard_22 : decode cX9_ifHeard 22 = .ok (.invokestatic 29, 3) := by decide +kernel
theorem dX9_ifHeard_25 : decode cX9_ifHeard 25 = .ok (.ifCond .eq 16, 3) := by decide +kernel
theorem dX9_ifHeard_28 : decode cX9_ifHeard 28 = .ok (.aload_n 0, 1) := by decide +kernel
theorem dX9_ifHeard_29 : decode cX9_ifHeard 29 = .ok (.aload_n 0, 1) := by decide +kernel
theorem dX9_ifHeard_30 : decode cX9_ifHeard 30 = .ok (.getfield 7, 3) := by decide +kernel
theorem dX9_ifHeard_33 : decode cX9_ifHeard 33 = .ok (.iload_n 1, 1) := by decide +kernel
theorem dX9_ifHeard_34 : decode cX9_ifHeard 34 = .ok (.iload_n 2, 1) := by decide +kernel
theorem dX9_ifHeard_35 : decode cX9_ifHeard 35 = .ok (.invokevirtual 74, 3) := by decide +kernel
theorem dX9_ifHeard_38 : decode cX9_ifHeard 38 = .ok (.goto 8, 3) := by decide +kernel
theorem dX9_ifHeard_41 : decode cX9_ifHeard 41 = .ok (.aload_n 0, 1) := by decide +kernel
theorem dX9_ifHeard_42 : decode cX9_ifHeard 42 = .ok (.iconst 2, 1) := by decide +kernel
theorem dX9_ifHeard_43 : decode cX9_ifHeard 43 = .ok (.invokevirtual 44, 3) := by decide +kernel
theorem dX9_ifHeard_46 : decode cX9_ifHeard 46 = .ok (.ireturn, 1) := by decide +kernel
theorem dX9_opens_0 : decode cX9_opens 0 = .ok (.aload_n 0, 1) := by decide +kernel
theorem dX9_opens_1 : decode cX9_opens 1 = .ok (.getfield 7, 3) := by decide +kernel
theorem dX9_opens_4 : decode cX9_opens 4 = .ok (.iconst 0, 1) := by decide +kernel
theorem dX9_opens_5 : decode cX9_opens 5 = .ok (.aload_n 0, 1) := by decide +kernel
theorem dX9_opens_6 : decode cX9_opens 6 = .ok (.getfield 13, 3) := by decide +kernel
theorem dX9_opens_9 : decode cX9_opens 9 = .ok (.iconst 0, 1) := by decide +kernel
theorem dX9_opens_10 : decode cX9_opens 10 = .ok (.invokestatic 40, 3) := by decide +kernel
theorem dX9_opens_13 : decode cX9_opens 13 = .ok (.iconst 1, 1) := by decide +kernel
theorem dX9_opens_14 : decode cX9_opens 14 = .ok (.istore_n 3, 1) := by decide +kernel
theorem dX9_opens_15 : decode cX9_opens 15 = .ok (.iload_n 3, 1) := by decide +kernel
theorem dX9_opens_16 : decode cX9_opens 16 = .ok (.bipush 50, 2) := by decide +kernel
theorem dX9_opens_18 : decode cX9_opens 18 = .ok (.if_icmp .gt 44, 3) := by decide +kernel
theorem dX9_opens_21 : decode cX9_opens 21 = .ok (.aload_n 0, 1) := by decide +kernel
theorem dX9_opens_22 : decode cX9_opens 22 = .ok (.getfield 13, 3) := by decide +kernel
theorem dX9_opens_25 : decode cX9_opens 25 = .ok (.bipush 14, 2) := by decide +kernel
theorem dX9_opens_27 : decode cX9_opens 27 = .ok (.iconst 4, 1) := by decide +kernel
theorem dX9_opens_28 : decode cX9_opens 28 = .ok (.iload_n 1, 1) := by decide +kernel
theorem dX9_opens_29 : decode cX9_opens 29 = .ok (.imul, 1) := by decide +kernel
theorem dX9_opens_30 : decode cX9_opens 30 = .ok (.iadd, 1) := by decide +kernel
theorem dX9_opens_31 : decode cX9_opens 31 = .ok (.iconst 2, 1) := by decide +kernel
theorem dX9_opens_32 : decode cX9_opens 32 = .ok (.iadd, 1) := by decide +kernel
theorem dX9_opens_33 : decode cX9_opens 33 = .ok (.iaload, 1) := by decide +kernel
theorem dX9_opens_34 : decode cX9_opens 34 = .ok (.ifCond .ne 5, 3) := by decide +kernel
theorem dX9_opens_37 : decode cX9_opens 37 = .ok (.iconst (-1), 1) := by decide +kernel
theorem dX9_opens_38 : decode cX9_opens 38 = .ok (.ireturn, 1) := by decide +kernel
theorem dX9_opens_39 : decode cX9_opens 39 = .ok (.aload_n 0, 1) := by decide +kernel
theorem dX9_opens_40 : decode cX9_opens 40 = .ok (.aload_n 0, 1) := by decide +kernel
theorem dX9_opens_41 : decode cX9_opens 41 = .ok (.getfield 13, 3) := by decide +kernel
theorem dX9_opens_44 : decode cX9_opens 44 = .ok (.iload_n 1, 1) := by decide +kernel
theorem dX9_opens_45 : decode cX9_opens 45 = .ok (.iconst 1, 1) := by decide +kernel
theorem dX9_opens_46 : decode cX9_opens 46 = .ok (.iload_n 2, 1) := by decide +kernel
theorem dX9_opens_47 : decode cX9_opens 47 = .ok (.ishl, 1) := by decide +kernel
theorem dX9_opens_48 : decode cX9_opens 48 = .ok (.invokevirtual 101, 3) := by decide +kernel
theorem dX9_opens_51 : decode cX9_opens 51 = .ok (.ifCond .eq 5, 3) := by decide +kernel
theorem dX9_opens_54 : decode cX9_opens 54 = .ok (.iload_n 3, 1) := by decide +kernel
theorem dX9_opens_55 : decode cX9_opens 55 = .ok (.ireturn, 1) := by decide +kernel
theorem dX9_opens_56 : decode cX9_opens 56 = .ok (.iinc 3 1, 3) := by decide +kernel
theorem dX9_opens_59 : decode cX9_opens 59 = .ok (.goto (-44), 3) := by decide +kernel
theorem dX9_opens_62 : decode cX9_opens 62 = .ok (.iconst (-1), 1) := by decide +kernel
theorem dX9_opens_63 : decode cX9_opens 63 = .ok (.ireturn, 1) := by decide +kernel
theorem dX9_opensIn_0 : decode cX9_opensIn 0 = .ok (.aload_n 0, 1) := by decide +kernel
theorem dX9_opensIn_1 : decode cX9_opensIn 1 = .ok (.iconst 0, 1) := by decide +kernel
theorem dX9_opensIn_2 : decode cX9_opensIn 2 = .ok (.putfield 25, 3) := by decide +kernel
theorem dX9_opensIn_5 : decode cX9_opensIn 5 = .ok (.iload_n 1, 1) := by decide +kernel
theorem dX9_opensIn_6 : decode cX9_opensIn 6 = .ok (.invokestatic 92, 3) := by decide +kernel
theorem dX9_opensIn_9 : decode cX9_opensIn 9 = .ok (.ifCond .eq 19, 3) := by decide +kernel
theorem dX9_opensIn_12 : decode cX9_opensIn 12 = .ok (.iload_n 2, 1) := by decide +kernel
theorem dX9_opensIn_13 : decode cX9_opensIn 13 = .ok (.invokestatic 33, 3) := by decide +kernel
theorem dX9_opensIn_16 : decode cX9_opensIn 16 = .ok (.ifCond .eq 12, 3) := by decide +kernel
theorem dX9_opensIn_19 : decode cX9_opensIn 19 = .ok (.aload_n 0, 1) := by decide +kernel
theorem dX9_opensIn_20 : decode cX9_opensIn 20 = .ok (.iload_n 1, 1) := by decide +kernel
theorem dX9_opensIn_21 : decode cX9_opensIn 21 = .ok (.iload_n 2, 1) := by decide +kernel
theorem dX9_opensIn_22 : decode cX9_opensIn 22 = .ok (.invokevirtual 166, 3) := by decide +kernel
theorem dX9_opensIn_25 : decode cX9_opensIn 25 = .ok (.goto 8, 3) := by decide +kernel
theorem dX9_opensIn_28 : decode cX9_opensIn 28 = .ok (.aload_n 0, 1) := by decide +kernel
theorem dX9_opensIn_29 : decode cX9_opensIn 29 = .ok (.iconst 1, 1) := by decide +kernel
theorem dX9_opensIn_30 : decode cX9_opensIn 30 = .ok (.invokevirtual 44, 3) := by decide +kernel
theorem dX9_opensIn_33 : decode cX9_opensIn 33 = .ok (.ireturn, 1) := by decide +kernel
theorem dX9_misses_0 : decode cX9_misses 0 = .ok (.iconst 0, 1) := by decide +kernel
theorem dX9_misses_1 : decode cX9_misses 1 = .ok (.istore_n 3, 1) := by decide +kernel
theorem dX9_misses_2 : decode cX9_misses 2 = .ok (.iconst 1, 1) := by decide +kernel
theorem dX9_misses_3 : decode cX9_misses 3 = .ok (.istore 4, 2) := by decide +kernel
theorem dX9_misses_5 : decode cX9_misses 5 = .ok (.iload_n 3, 1) := by decide +kernel
theorem dX9_misses_6 : decode cX9_misses 6 = .ok (.bipush 100, 2) := by decide +kernel
theorem dX9_misses_8 : decode cX9_misses 8 = .ok (.if_icmp .ge 76, 3) := by decide +kernel
theorem dX9_misses_11 : decode cX9_misses 11 = .ok (.iload 4, 2) := by decide +kernel
theorem dX9_misses_13 : decode cX9_misses 13 = .ok (.ifCond .eq 71, 3) := by decide +kernel
theorem dX9_misses_16 : decode cX9_misses 16 = .ok (.aload_n 0, 1) := by decide +kernel
theorem dX9_misses_17 : decode cX9_misses 17 = .ok (.aload_n 0, 1) := by decide +kernel
theorem dX9_misses_18 : decode cX9_misses 18 = .ok (.getfield 7, 3) := by decide +kernel
theorem dX9_misses_21 : decode cX9_misses 21 = .ok (.iload_n 2, 1) := by decide +kernel
theorem dX9_misses_22 : decode cX9_misses 22 = .ok (.aload_n 0, 1) := by decide +kernel
theorem dX9_misses_23 : decode cX9_misses 23 = .ok (.getfield 7, 3) := by decide +kernel
theorem dX9_misses_26 : decode cX9_misses 26 = .ok (.bipush 14, 2) := by decide +kernel
theorem dX9_misses_28 : decode cX9_misses 28 = .ok (.iconst 4, 1) := by decide +kernel
theorem dX9_misses_29 : decode cX9_misses 29 = .ok (.iload_n 1, 1) := by decide +kernel
theorem dX9_misses_30 : decode cX9_misses 30 = .ok (.imul, 1) := by decide +kernel
theorem dX9_misses_31 : decode cX9_misses 31 = .ok (.iadd, 1) := by decide +kernel
theorem dX9_misses_32 : decode cX9_misses 32 = .ok (.iaload, 1) := by decide +kernel
theorem dX9_misses_33 : decode cX9_misses 33 = .ok (.aload_n 0, 1) := by decide +kernel
theorem dX9_misses_34 : decode cX9_misses 34 = .ok (.getfield 7, 3) := by decide +kernel
theorem dX9_misses_37 : decode cX9_misses 37 = .ok (.bipush 14, 2) := by decide +kernel
theorem dX9_misses_39 : decode cX9_misses 39 = .ok (.iconst 4, 1) := by decide +kernel
theorem dX9_misses_40 : decode cX9_misses 40 = .ok (.iload_n 1, 1) := by decide +kernel
theorem dX9_misses_41 : decode cX9_misses 41 = .ok (.imul, 1) := by decide +kernel
theorem dX9_misses_42 : decode cX9_misses 42 = .ok (.iadd, 1) := by decide +kernel
theorem dX9_misses_43 : decode cX9_misses 43 = .ok (.iconst 1, 1) := by decide +kernel
theorem dX9_misses_44 : decode cX9_misses 44 = .ok (.iadd, 1) := by decide +kernel
theorem dX9_misses_45 : decode cX9_misses 45 = .ok (.iaload, 1) := by decide +kernel
theorem dX9_misses_46 : decode cX9_misses 46 = .ok (.iload_n 3, 1) := by decide +kernel
theorem dX9_misses_47 : decode cX9_misses 47 = .ok (.iconst 1, 1) := by decide +kernel
theorem dX9_misses_48 : decode cX9_misses 48 = .ok (.iadd, 1) := by decide +kernel
theorem dX9_misses_49 : decode cX9_misses 49 = .ok (.invokestatic 60, 3) := by decide +kernel
theorem dX9_misses_52 : decode cX9_misses 52 = .ok (.invokestatic 63, 3) := by decide +kernel
theorem dX9_misses_55 : decode cX9_misses 55 = .ok (.invokevirtual 74, 3) := by decide +kernel
theorem dX9_misses_58 : decode cX9_misses 58 = .ok (.ifCond .ne 7, 3) := by decide +kernel
theorem dX9_misses_61 : decode cX9_misses 61 = .ok (.iconst 1, 1) := by decide +kernel
theorem dX9_misses_62 : decode cX9_misses 62 = .ok (.goto 4, 3) := by decide +kernel
theorem dX9_misses_65 : decode cX9_misses 65 = .ok (.iconst 0, 1) := by decide +kernel
theorem dX9_misses_66 : decode cX9_misses 66 = .ok (.istore 4, 2) := by decide +kernel
theorem dX9_misses_68 : decode cX9_misses 68 = .ok (.iload_n 3, 1) := by decide +kernel
theorem dX9_misses_69 : decode cX9_misses 69 = .ok (.iload 4, 2) := by decide +kernel
theorem dX9_misses_71 : decode cX9_misses 71 = .ok (.ifCond .eq 7, 3) := by decide +kernel
theorem dX9_misses_74 : decode cX9_misses 74 = .ok (.iconst 1, 1) := by decide +kernel
theorem dX9_misses_75 : decode cX9_misses 75 = .ok (.goto 4, 3) := by decide +kernel
theorem dX9_misses_78 : decode cX9_misses 78 = .ok (.iconst 0, 1) := by decide +kernel
theorem dX9_misses_79 : decode cX9_misses 79 = .ok (.iadd, 1) := by decide +kernel
theorem dX9_misses_80 : decode cX9_misses 80 = .ok (.istore_n 3, 1) := by decide +kernel
theorem dX9_misses_81 : decode cX9_misses 81 = .ok (.goto (-76), 3) := by decide +kernel
theorem dX9_misses_84 : decode cX9_misses 84 = .ok (.iload_n 3, 1) := by decide +kernel
theorem dX9_misses_85 : decode cX9_misses 85 = .ok (.ifCond .ne 7, 3) := by decide +kernel
theorem dX9_misses_88 : decode cX9_misses 88 = .ok (.iconst (-1), 1) := by decide +kernel
theorem dX9_misses_89 : decode cX9_misses 89 = .ok (.goto 6, 3) := by decide +kernel
theorem dX9_misses_92 : decode cX9_misses 92 = .ok (.iload_n 3, 1) := by decide +kernel
theorem dX9_misses_93 : decode cX9_misses 93 = .ok (.iconst 1, 1) := by decide +kernel
theorem dX9_misses_94 : decode cX9_misses 94 = .ok (.isub, 1) := by decide +kernel
theorem dX9_misses_95 : decode cX9_misses 95 = .ok (.ireturn, 1) := by decide +kernel
theorem dX9_unheard_0 : decode cX9_unheard 0 = .ok (.aload_n 0, 1) := by decide +kernel
theorem dX9_unheard_1 : decode cX9_unheard 1 = .ok (.iconst 0, 1) := by decide +kernel
theorem dX9_unheard_2 : decode cX9_unheard 2 = .ok (.putfield 25, 3) := by decide +kernel
theorem dX9_unheard_5 : decode cX9_unheard 5 = .ok (.iload_n 1, 1) := by decide +kernel
theorem dX9_unheard_6 : decode cX9_unheard 6 = .ok (.invokestatic 92, 3) := by decide +kernel
theorem dX9_unheard_9 : decode cX9_unheard 9 = .ok (.ifCond .eq 19, 3) := by decide +kernel
theorem dX9_unheard_12 : decode cX9_unheard 12 = .ok (.iload_n 2, 1) := by decide +kernel
theorem dX9_unheard_13 : decode cX9_unheard 13 = .ok (.invokestatic 33, 3) := by decide +kernel
theorem dX9_unheard_16 : decode cX9_unheard 16 = .ok (.ifCond .eq 12, 3) := by decide +kernel
theorem dX9_unheard_19 : decode cX9_unheard 19 = .ok (.aload_n 0, 1) := by decide +kernel
theorem dX9_unheard_20 : decode cX9_unheard 20 = .ok (.iload_n 1, 1) := by decide +kernel
theorem dX9_unheard_21 : decode cX9_unheard 21 = .ok (.iload_n 2, 1) := by decide +kernel
theorem dX9_unheard_22 : decode cX9_unheard 22 = .ok (.invokevirtual 169, 3) := by decide +kernel
theorem dX9_unheard_25 : decode cX9_unheard 25 = .ok (.goto 8, 3) := by decide +kernel
theorem dX9_unheard_28 : decode cX9_unheard 28 = .ok (.aload_n 0, 1) := by decide +kernel
theorem dX9_unheard_29 : decode cX9_unheard 29 = .ok (.iconst 1, 1) := by decide +kernel
theorem dX9_unheard_30 : decode cX9_unheard 30 = .ok (.invokevirtual 44, 3) := by decide +kernel
theorem dX9_unheard_33 : decode cX9_unheard 33 = .ok (.ireturn, 1) := by decide +kernel
theorem dX9_first_0 : decode cX9_first 0 = .ok (.iconst 0, 1) := by decide +kernel
theorem dX9_first_1 : decode cX9_first 1 = .ok (.istore_n 2, 1) := by decide +kernel
theorem dX9_first_2 : decode cX9_first 2 = .ok (.iload_n 2, 1) := by decide +kernel
theorem dX9_first_3 : decode cX9_first 3 = .ok (.aload_n 0, 1) := by decide +kernel
theorem dX9_first_4 : decode cX9_first 4 = .ok (.getfield 7, 3) := by decide +kernel
theorem dX9_first_7 : decode cX9_first 7 = .ok (.iconst 5, 1) := by decide +kernel
theorem dX9_first_8 : decode cX9_first 8 = .ok (.iaload, 1) := by decide +kernel
theorem dX9_first_9 : decode cX9_first 9 = .ok (.if_icmp .ge 32, 3) := by decide +kernel
theorem dX9_first_12 : decode cX9_first 12 = .ok (.aload_n 0, 1) := by decide +kernel
theorem dX9_first_13 : decode cX9_first 13 = .ok (.aload_n 0, 1) := by decide +kernel
theorem dX9_first_14 : decode cX9_first 14 = .ok (.getfield 7, 3) := by decide +kernel
theorem dX9_first_17 : decode cX9_first 17 = .ok (.iload_n 1, 1) := by decide +kernel
theorem dX9_first_18 : decode cX9_first 18 = .ok (.aload_n 0, 1) := by decide +kernel
theorem dX9_first_19 : decode cX9_first 19 = .ok (.getfield 7, 3) := by decide +kernel
theorem dX9_first_22 : decode cX9_first 22 = .ok (.bipush 6, 2) := by decide +kernel
theorem dX9_first_24 : decode cX9_first 24 = .ok (.iload_n 2, 1) := by decide +kernel
theorem dX9_first_25 : decode cX9_first 25 = .ok (.iadd, 1) := by decide +kernel
theorem dX9_first_26 : decode cX9_first 26 = .ok (.iaload, 1) := by decide +kernel
theorem dX9_first_27 : decode cX9_first 27 = .ok (.invokevirtual 74, 3) := by decide +kernel
theorem dX9_first_30 : decode cX9_first 30 = .ok (.ifCond .ne 5, 3) := by decide +kernel
theorem dX9_first_33 : decode cX9_first 33 = .ok (.iload_n 2, 1) := by decide +kernel
theorem dX9_first_34 : decode cX9_first 34 = .ok (.ireturn, 1) := by decide +kernel
theorem dX9_first_35 : decode cX9_first 35 = .ok (.iinc 2 1, 3) := by decide +kernel
theorem dX9_first_38 : decode cX9_first 38 = .ok (.goto (-36), 3) := by decide +kernel
theorem dX9_first_41 : decode cX9_first 41 = .ok (.iconst (-1), 1) := by decide +kernel
theorem dX9_first_42 : decode cX9_first 42 = .ok (.ireturn, 1) := by decide +kernel
theorem dX9_useful_0 : decode cX9_useful 0 = .ok (.aload_n 0, 1) := by decide +kernel
theorem dX9_useful_1 : decode cX9_useful 1 = .ok (.iconst 0, 1) := by decide +kernel
theorem dX9_useful_2 : decode cX9_useful 2 = .ok (.putfield 25, 3) := by decide +kernel
theorem dX9_useful_5 : decode cX9_useful 5 = .ok (.iload_n 1, 1) := by decide +kernel
theorem dX9_useful_6 : decode cX9_useful 6 = .ok (.invokestatic 33, 3) := by decide +kernel
theorem dX9_useful_9 : decode cX9_useful 9 = .ok (.ifCond .eq 11, 3) := by decide +kernel
theorem dX9_useful_12 : decode cX9_useful 12 = .ok (.aload_n 0, 1) := by decide +kernel
theorem dX9_useful_13 : decode cX9_useful 13 = .ok (.iload_n 1, 1) := by decide +kernel
theorem dX9_useful_14 : decode cX9_useful 14 = .ok (.invokevirtual 172, 3) := by decide +kernel
theorem dX9_useful_17 : decode cX9_useful 17 = .ok (.goto 8, 3) := by decide +kernel
theorem dX9_useful_20 : decode cX9_useful 20 = .ok (.aload_n 0, 1) := by decide +kernel
theorem dX9_useful_21 : decode cX9_useful 21 = .ok (.iconst 1, 1) := by decide +kernel
theorem dX9_useful_22 : decode cX9_useful 22 = .ok (.invokevirtual 44, 3) := by decide +kernel
theorem dX9_useful_25 : decode cX9_useful 25 = .ok (.ireturn, 1) := by decide +kernel
theorem dX9_share_0 : decode cX9_share 0 = .ok (.aload_n 0, 1) := by decide +kernel
theorem dX9_share_1 : decode cX9_share 1 = .ok (.iconst 4, 1) := by decide +kernel
theorem dX9_share_2 : decode cX9_share 2 = .ok (.invokevirtual 159, 3) := by decide +kernel
theorem dX9_share_5 : decode cX9_share 5 = .ok (.istore_n 1, 1) := by decide +kernel
theorem dX9_share_6 : decode cX9_share 6 = .ok (.iload_n 1, 1) := by decide +kernel
theorem dX9_share_7 : decode cX9_share 7 = .ok (.aload_n 0, 1) := by decide +kernel
theorem dX9_share_8 : decode cX9_share 8 = .ok (.bipush 6, 2) := by decide +kernel
theorem dX9_share_10 : decode cX9_share 10 = .ok (.invokevirtual 159, 3) := by decide +kernel
theorem dX9_share_13 : decode cX9_share 13 = .ok (.iadd, 1) := by decide +kernel
theorem dX9_share_14 : decode cX9_share 14 = .ok (.istore_n 2, 1) := by decide +kernel
theorem dX9_share_15 : decode cX9_share 15 = .ok (.iload_n 2, 1) := by decide +kernel
theorem dX9_share_16 : decode cX9_share 16 = .ok (.ifCond .ne 7, 3) := by decide +kernel
theorem dX9_share_19 : decode cX9_share 19 = .ok (.dconst 1, 1) := by decide +kernel
theorem dX9_share_20 : decode cX9_share 20 = .ok (.goto 8, 3) := by decide +kernel
theorem dX9_share_23 : decode cX9_share 23 = .ok (.iload_n 1, 1) := by decide +kernel
theorem dX9_share_24 : decode cX9_share 24 = .ok (.i2d, 1) := by decide +kernel
theorem dX9_share_25 : decode cX9_share 25 = .ok (.iload_n 2, 1) := by decide +kernel
theorem dX9_share_26 : decode cX9_share 26 = .ok (.i2d, 1) := by decide +kernel
theorem dX9_share_27 : decode cX9_share 27 = .ok (.ddiv, 1) := by decide +kernel
theorem dX9_share_28 : decode cX9_share 28 = .ok (.dreturn, 1) := by decide +kernel
theorem dX9_openShare_0 : decode cX9_openShare 0 = .ok (.aload_n 0, 1) := by decide +kernel
theorem dX9_openShare_1 : decode cX9_openShare 1 = .ok (.iconst 0, 1) := by decide +kernel
theorem dX9_openShare_2 : decode cX9_openShare 2 = .ok (.putfield 25, 3) := by decide +kernel
theorem dX9_openShare_5 : decode cX9_openShare 5 = .ok (.aload_n 0, 1) := by decide +kernel
theorem dX9_openShare_6 : decode cX9_openShare 6 = .ok (.invokevirtual 175, 3) := by decide +kernel
theorem dX9_openShare_9 : decode cX9_openShare 9 = .ok (.dreturn, 1) := by decide +kernel
theorem dX9_digest_0 : decode cX9_digest 0 = .ok (.aload_n 0, 1) := by decide +kernel
theorem dX9_digest_1 : decode cX9_digest 1 = .ok (.iconst 0, 1) := by decide +kernel
theorem dX9_digest_2 : decode cX9_digest 2 = .ok (.putfield 25, 3) := by decide +kernel
theorem dX9_digest_5 : decode cX9_digest 5 = .ok (.ldc2_w 179, 3) := by decide +kernel
theorem dX9_digest_8 : decode cX9_digest 8 = .ok (.lstore_n 1, 1) := by decide +kernel
theorem dX9_digest_9 : decode cX9_digest 9 = .ok (.iconst 0, 1) := by decide +kernel
theorem dX9_digest_10 : decode cX9_digest 10 = .ok (.istore_n 3, 1) := by decide +kernel
theorem dX9_digest_11 : decode cX9_digest 11 = .ok (.iload_n 3, 1) := by decide +kernel
theorem dX9_digest_12 : decode cX9_digest 12 = .ok (.bipush 8, 2) := by decide +kernel
theorem dX9_digest_14 : decode cX9_digest 14 = .ok (.if_icmp .ge 22, 3) := by decide +kernel
theorem dX9_digest_17 : decode cX9_digest 17 = .ok (.ldc2_w 181, 3) := by decide +kernel
theorem dX9_digest_20 : decode cX9_digest 20 = .ok (.lload_n 1, 1) := by decide +kernel
theorem dX9_digest_21 : decode cX9_digest 21 = .ok (.lmul, 1) := by decide +kernel
theorem dX9_digest_22 : decode cX9_digest 22 = .ok (.aload_n 0, 1) := by decide +kernel
theorem dX9_digest_23 : decode cX9_digest 23 = .ok (.iload_n 3, 1) := by decide +kernel
theorem dX9_digest_24 : decode cX9_digest 24 = .ok (.invokevirtual 162, 3) := by decide +kernel
theorem dX9_digest_27 : decode cX9_digest 27 = .ok (.i2l, 1) := by decide +kernel
theorem dX9_digest_28 : decode cX9_digest 28 = .ok (.ladd, 1) := by decide +kernel
theorem dX9_digest_29 : decode cX9_digest 29 = .ok (.lstore_n 1, 1) := by decide +kernel
theorem dX9_digest_30 : decode cX9_digest 30 = .ok (.iinc 3 1, 3) := by decide +kernel
theorem dX9_digest_33 : decode cX9_digest 33 = .ok (.goto (-22), 3) := by decide +kernel
theorem dX9_digest_36 : decode cX9_digest 36 = .ok (.iconst 0, 1) := by decide +kernel
theorem dX9_digest_37 : decode cX9_digest 37 = .ok (.istore_n 3, 1) := by decide +kernel
theorem dX9_digest_38 : decode cX9_digest 38 = .ok (.iload_n 3, 1) := by decide +kernel
theorem dX9_digest_39 : decode cX9_digest 39 = .ok (.iconst 3, 1) := by decide +kernel
theorem dX9_digest_40 : decode cX9_digest 40 = .ok (.if_icmp .ge 23, 3) := by decide +kernel
theorem dX9_digest_43 : decode cX9_digest 43 = .ok (.ldc2_w 181, 3) := by decide +kernel
theorem dX9_digest_46 : decode cX9_digest 46 = .ok (.lload_n 1, 1) := by decide +kernel
theorem dX9_digest_47 : decode cX9_digest 47 = .ok (.lmul, 1) := by decide +kernel
theorem dX9_digest_48 : decode cX9_digest 48 = .ok (.aload_n 0, 1) := by decide +kernel
theorem dX9_digest_49 : decode cX9_digest 49 = .ok (.getfield 7, 3) := by decide +kernel
theorem dX9_digest_52 : decode cX9_digest 52 = .ok (.iload_n 3, 1) := by decide +kernel
theorem dX9_digest_53 : decode cX9_digest 53 = .ok (.iaload, 1) := by decide +kernel
theorem dX9_digest_54 : decode cX9_digest 54 = .ok (.i2l, 1) := by decide +kernel
theorem dX9_digest_55 : decode cX9_digest 55 = .ok (.ladd, 1) := by decide +kernel
theorem dX9_digest_56 : decode cX9_digest 56 = .ok (.lstore_n 1, 1) := by decide +kernel
theorem dX9_digest_57 : decode cX9_digest 57 = .ok (.iinc 3 1, 3) := by decide +kernel
theorem dX9_digest_60 : decode cX9_digest 60 = .ok (.goto (-22), 3) := by decide +kernel
theorem dX9_digest_63 : decode cX9_digest 63 = .ok (.iconst 0, 1) := by decide +kernel
theorem dX9_digest_64 : decode cX9_digest 64 = .ok (.istore_n 3, 1) := by decide +kernel
theorem dX9_digest_65 : decode cX9_digest 65 = .ok (.iload_n 3, 1) := by decide +kernel
theorem dX9_digest_66 : decode cX9_digest 66 = .ok (.bipush 20, 2) := by decide +kernel
theorem dX9_digest_68 : decode cX9_digest 68 = .ok (.if_icmp .ge 27, 3) := by decide +kernel
theorem dX9_digest_71 : decode cX9_digest 71 = .ok (.ldc2_w 181, 3) := by decide +kernel
theorem dX9_digest_74 : decode cX9_digest 74 = .ok (.lload_n 1, 1) := by decide +kernel
theorem dX9_digest_75 : decode cX9_digest 75 = .ok (.lmul, 1) := by decide +kernel
theorem dX9_digest_76 : decode cX9_digest 76 = .ok (.aload_n 0, 1) := by decide +kernel
theorem dX9_digest_77 : decode cX9_digest 77 = .ok (.iload_n 3, 1) := by decide +kernel
theorem dX9_digest_78 : decode cX9_digest 78 = .ok (.iconst 5, 1) := by decide +kernel
theorem dX9_digest_79 : decode cX9_digest 79 = .ok (.idiv, 1) := by decide +kernel
theorem dX9_digest_80 : decode cX9_digest 80 = .ok (.iload_n 3, 1) := by decide +kernel
theorem dX9_digest_81 : decode cX9_digest 81 = .ok (.iconst 5, 1) := by decide +kernel
theorem dX9_digest_82 : decode cX9_digest 82 = .ok (.irem, 1) := by decide +kernel
theorem dX9_digest_83 : decode cX9_digest 83 = .ok (.invokevirtual 149, 3) := by decide +kernel
theorem dX9_digest_86 : decode cX9_digest 86 = .ok (.i2l, 1) := by decide +kernel
theorem dX9_digest_87 : decode cX9_digest 87 = .ok (.ladd, 1) := by decide +kernel
theorem dX9_digest_88 : decode cX9_digest 88 = .ok (.lstore_n 1, 1) := by decide +kernel
theorem dX9_digest_89 : decode cX9_digest 89 = .ok (.iinc 3 1, 3) := by decide +kernel
theorem dX9_digest_92 : decode cX9_digest 92 = .ok (.goto (-27), 3) := by decide +kernel
theorem dX9_digest_95 : decode cX9_digest 95 = .ok (.iconst 0, 1) := by decide +kernel
theorem dX9_digest_96 : decode cX9_digest 96 = .ok (.istore_n 3, 1) := by decide +kernel
theorem dX9_digest_97 : decode cX9_digest 97 = .ok (.iload_n 3, 1) := by decide +kernel
theorem dX9_digest_98 : decode cX9_digest 98 = .ok (.iconst 3, 1) := by decide +kernel
theorem dX9_digest_99 : decode cX9_digest 99 = .ok (.if_icmp .ge 133, 3) := by decide +kernel
theorem dX9_digest_102 : decode cX9_digest 102 = .ok (.iconst 0, 1) := by decide +kernel
theorem dX9_digest_103 : decode cX9_digest 103 = .ok (.istore 4, 2) := by decide +kernel
theorem dX9_digest_105 : decode cX9_digest 105 = .ok (.iload 4, 2) := by decide +kernel
theorem dX9_digest_107 : decode cX9_digest 107 = .ok (.bipush 8, 2) := by decide +kernel
theorem dX9_digest_109 : decode cX9_digest 109 = .ok (.if_icmp .ge 24, 3) := by decide +kernel
theorem dX9_digest_112 : decode cX9_digest 112 = .ok (.ldc2_w 181, 3) := by decide +kernel
theorem dX9_digest_115 : decode cX9_digest 115 = .ok (.lload_n 1, 1) := by decide +kernel
theorem dX9_digest_116 : decode cX9_digest 116 = .ok (.lmul, 1) := by decide +kernel
theorem dX9_digest_117 : decode cX9_digest 117 = .ok (.aload_n 0, 1) := by decide +kernel
theorem dX9_digest_118 : decode cX9_digest 118 = .ok (.iload_n 3, 1) := by decide +kernel
theorem dX9_digest_119 : decode cX9_digest 119 = .ok (.iload 4, 2) := by decide +kernel
theorem dX9_digest_121 : decode cX9_digest 121 = .ok (.invokevirtual 156, 3) := by decide +kernel
theorem dX9_digest_124 : decode cX9_digest 124 = .ok (.i2l, 1) := by decide +kernel
theorem dX9_digest_125 : decode cX9_digest 125 = .ok (.ladd, 1) := by decide +kernel
theorem dX9_digest_126 : decode cX9_digest 126 = .ok (.lstore_n 1, 1) := by decide +kernel
theorem dX9_digest_127 : decode cX9_digest 127 = .ok (.iinc 4 1, 3) := by decide +kernel
theorem dX9_digest_130 : decode cX9_digest 130 = .ok (.goto (-25), 3) := by decide +kernel
theorem dX9_digest_133 : decode cX9_digest 133 = .ok (.iconst 0, 1) := by decide +kernel
theorem dX9_digest_134 : decode cX9_digest 134 = .ok (.istore 4, 2) := by decide +kernel
theorem dX9_digest_136 : decode cX9_digest 136 = .ok (.iload 4, 2) := by decide +kernel
theorem dX9_digest_138 : decode cX9_digest 138 = .ok (.bipush 16, 2) := by decide +kernel
theorem dX9_digest_140 : decode cX9_digest 140 = .ok (.if_icmp .ge 30, 3) := by decide +kernel
theorem dX9_digest_143 : decode cX9_digest 143 = .ok (.ldc2_w 181, 3) := by decide +kernel
theorem dX9_digest_146 : decode cX9_digest 146 = .ok (.lload_n 1, 1) := by decide +kernel
theorem dX9_digest_147 : decode cX9_digest 147 = .ok (.lmul, 1) := by decide +kernel
theorem dX9_digest_148 : decode cX9_digest 148 = .ok (.aload_n 0, 1) := by decide +kernel
theorem dX9_digest_149 : decode cX9_digest 149 = .ok (.iload_n 3, 1) := by decide +kernel
theorem dX9_digest_150 : decode cX9_digest 150 = .ok (.iload 4, 2) := by decide +kernel
theorem dX9_digest_152 : decode cX9_digest 152 = .ok (.iconst 4, 1) := by decide +kernel
theorem dX9_digest_153 : decode cX9_digest 153 = .ok (.idiv, 1) := by decide +kernel
theorem dX9_digest_154 : decode cX9_digest 154 = .ok (.iload 4, 2) := by decide +kernel
theorem dX9_digest_156 : decode cX9_digest 156 = .ok (.iconst 4, 1) := by decide +kernel
theorem dX9_digest_157 : decode cX9_digest 157 = .ok (.irem, 1) := by decide +kernel
theorem dX9_digest_158 : decode cX9_digest 158 = .ok (.invokevirtual 152, 3) := by decide +kernel
theorem dX9_digest_161 : decode cX9_digest 161 = .ok (.i2l, 1) := by decide +kernel
theorem dX9_digest_162 : decode cX9_digest 162 = .ok (.ladd, 1) := by decide +kernel
theorem dX9_digest_163 : decode cX9_digest 163 = .ok (.lstore_n 1, 1) := by decide +kernel
theorem dX9_digest_164 : decode cX9_digest 164 = .ok (.iinc 4 1, 3) := by decide +kernel
theorem dX9_digest_167 : decode cX9_digest 167 = .ok (.goto (-31), 3) := by decide +kernel
theorem dX9_digest_170 : decode cX9_digest 170 = .ok (.ldc2_w 181, 3) := by decide +kernel
theorem dX9_digest_173 : decode cX9_digest 173 = .ok (.lload_n 1, 1) := by decide +kernel
theorem dX9_digest_174 : decode cX9_digest 174 = .ok (.lmul, 1) := by decide +kernel
theorem dX9_digest_175 : decode cX9_digest 175 = .ok (.aload_n 0, 1) := by decide +kernel
theorem dX9_digest_176 : decode cX9_digest 176 = .ok (.iload_n 3, 1) := by decide +kernel
theorem dX9_digest_177 : decode cX9_digest 177 = .ok (.invokevirtual 172, 3) := by decide +kernel
theorem dX9_digest_180 : decode cX9_digest 180 = .ok (.i2l, 1) := by decide +kernel
theorem dX9_digest_181 : decode cX9_digest 181 = .ok (.ladd, 1) := by decide +kernel
theorem dX9_digest_182 : decode cX9_digest 182 = .ok (.lstore_n 1, 1) := by decide +kernel
theorem dX9_digest_183 : decode cX9_digest 183 = .ok (.iconst 0, 1) := by decide +kernel
theorem dX9_digest_184 : decode cX9_digest 184 = .ok (.istore 4, 2) := by decide +kernel
theorem dX9_digest_186 : decode cX9_digest 186 = .ok (.iload 4, 2) := by decide +kernel
theorem dX9_digest_188 : decode cX9_digest 188 = .ok (.iconst 4, 1) := by decide +kernel
theorem dX9_digest_189 : decode cX9_digest 189 = .ok (.if_icmp .ge 37, 3) := by decide +kernel
theorem dX9_digest_192 : decode cX9_digest 192 = .ok (.ldc2_w 181, 3) := by decide +kernel
theorem dX9_digest_195 : decode cX9_digest 195 = .ok (.ldc2_w 181, 3) := by decide +kernel
theorem dX9_digest_198 : decode cX9_digest 198 = .ok (.lload_n 1, 1) := by decide +kernel
theorem dX9_digest_199 : decode cX9_digest 199 = .ok (.lmul, 1) := by decide +kernel
theorem dX9_digest_200 : decode cX9_digest 200 = .ok (.aload_n 0, 1) := by decide +kernel
theorem dX9_digest_201 : decode cX9_digest 201 = .ok (.iload 4, 2) := by decide +kernel
theorem dX9_digest_203 : decode cX9_digest 203 = .ok (.iload_n 3, 1) := by decide +kernel
theorem dX9_digest_204 : decode cX9_digest 204 = .ok (.invokevirtual 166, 3) := by decide +kernel
theorem dX9_digest_207 : decode cX9_digest 207 = .ok (.i2l, 1) := by decide +kernel
theorem dX9_digest_208 : decode cX9_digest 208 = .ok (.ladd, 1) := by decide +kernel
theorem dX9_digest_209 : decode cX9_digest 209 = .ok (.lmul, 1) := by decide +kernel
theorem dX9_digest_210 : decode cX9_digest 210 = .ok (.aload_n 0, 1) := by decide +kernel
theorem dX9_digest_211 : decode cX9_digest 211 = .ok (.iload 4, 2) := by decide +kernel
theorem dX9_digest_213 : decode cX9_digest 213 = .ok (.iload_n 3, 1) := by decide +kernel
theorem dX9_digest_214 : decode cX9_digest 214 = .ok (.invokevirtual 169, 3) := by decide +kernel
theorem dX9_digest_217 : decode cX9_digest 217 = .ok (.i2l, 1) := by decide +kernel
theorem dX9_digest_218 : decode cX9_digest 218 = .ok (.ladd, 1) := by decide +kernel
theorem dX9_digest_219 : decode cX9_digest 219 = .ok (.lstore_n 1, 1) := by decide +kernel
theorem dX9_digest_220 : decode cX9_digest 220 = .ok (.iinc 4 1, 3) := by decide +kernel
theorem dX9_digest_223 : decode cX9_digest 223 = .ok (.goto (-37), 3) := by decide +kernel
theorem dX9_digest_226 : decode cX9_digest 226 = .ok (.iinc 3 1, 3) := by decide +kernel
theorem dX9_digest_229 : decode cX9_digest 229 = .ok (.goto (-132), 3) := by decide +kernel
theorem dX9_digest_232 : decode cX9_digest 232 = .ok (.iconst 0, 1) := by decide +kernel
theorem dX9_digest_233 : decode cX9_digest 233 = .ok (.istore_n 3, 1) := by decide +kernel
theorem dX9_digest_234 : decode cX9_digest 234 = .ok (.iload_n 3, 1) := by decide +kernel
theorem dX9_digest_235 : decode cX9_digest 235 = .ok (.aload_n 0, 1) := by decide +kernel
theorem dX9_digest_236 : decode cX9_digest 236 = .ok (.getfield 7, 3) := by decide +kernel
theorem dX9_digest_239 : decode cX9_digest 239 = .ok (.iconst 5, 1) := by decide +kernel
theorem dX9_digest_240 : decode cX9_digest 240 = .ok (.iaload, 1) := by decide +kernel
theorem dX9_digest_241 : decode cX9_digest 241 = .ok (.if_icmp .ge 26, 3) := by decide +kernel
theorem dX9_digest_244 : decode cX9_digest 244 = .ok (.ldc2_w 181, 3) := by decide +kernel
theorem dX9_digest_247 : decode cX9_digest 247 = .ok (.lload_n 1, 1) := by decide +kernel
theorem dX9_digest_248 : decode cX9_digest 248 = .ok (.lmul, 1) := by decide +kernel
theorem dX9_digest_249 : decode cX9_digest 249 = .ok (.aload_n 0, 1) := by decide +kernel
theorem dX9_digest_250 : decode cX9_digest 250 = .ok (.getfield 7, 3) := by decide +kernel
theorem dX9_digest_253 : decode cX9_digest 253 = .ok (.bipush 6, 2) := by decide +kernel
theorem dX9_digest_255 : decode cX9_digest 255 = .ok (.iload_n 3, 1) := by decide +kernel
theorem dX9_digest_256 : decode cX9_digest 256 = .ok (.iadd, 1) := by decide +kernel
theorem dX9_digest_257 : decode cX9_digest 257 = .ok (.iaload, 1) := by decide +kernel
theorem dX9_digest_258 : decode cX9_digest 258 = .ok (.i2l, 1) := by decide +kernel
theorem dX9_digest_259 : decode cX9_digest 259 = .ok (.ladd, 1) := by decide +kernel
theorem dX9_digest_260 : decode cX9_digest 260 = .ok (.lstore_n 1, 1) := by decide +kernel
theorem dX9_digest_261 : decode cX9_digest 261 = .ok (.iinc 3 1, 3) := by decide +kernel
theorem dX9_digest_264 : decode cX9_digest 264 = .ok (.goto (-30), 3) := by decide +kernel
theorem dX9_digest_267 : decode cX9_digest 267 = .ok (.ldc2_w 181, 3) := by decide +kernel
theorem dX9_digest_270 : decode cX9_digest 270 = .ok (.lload_n 1, 1) := by decide +kernel
theorem dX9_digest_271 : decode cX9_digest 271 = .ok (.lmul, 1) := by decide +kernel
theorem dX9_digest_272 : decode cX9_digest 272 = .ok (.aload_n 0, 1) := by decide +kernel
theorem dX9_digest_273 : decode cX9_digest 273 = .ok (.aload_n 0, 1) := by decide +kernel
theorem dX9_digest_274 : decode cX9_digest 274 = .ok (.getfield 7, 3) := by decide +kernel
theorem dX9_digest_277 : decode cX9_digest 277 = .ok (.iconst 0, 1) := by decide +kernel
theorem dX9_digest_278 : decode cX9_digest 278 = .ok (.sipush 7919, 3) := by decide +kernel
theorem dX9_digest_281 : decode cX9_digest 281 = .ok (.invokevirtual 74, 3) := by decide +kernel
theorem dX9_digest_284 : decode cX9_digest 284 = .ok (.i2l, 1) := by decide +kernel
theorem dX9_digest_285 : decode cX9_digest 285 = .ok (.ladd, 1) := by decide +kernel
theorem dX9_digest_286 : decode cX9_digest 286 = .ok (.lstore_n 1, 1) := by decide +kernel
theorem dX9_digest_287 : decode cX9_digest 287 = .ok (.ldc2_w 181, 3) := by decide +kernel
theorem dX9_digest_290 : decode cX9_digest 290 = .ok (.ldc2_w 181, 3) := by decide +kernel
theorem dX9_digest_293 : decode cX9_digest 293 = .ok (.lload_n 1, 1) := by decide +kernel
theorem dX9_digest_294 : decode cX9_digest 294 = .ok (.lmul, 1) := by decide +kernel
theorem dX9_digest_295 : decode cX9_digest 295 = .ok (.aload_n 0, 1) := by decide +kernel
theorem dX9_digest_296 : decode cX9_digest 296 = .ok (.invokevirtual 175, 3) := by decide +kernel
theorem dX9_digest_299 : decode cX9_digest 299 = .ok (.invokestatic 183, 3) := by decide +kernel
theorem dX9_digest_302 : decode cX9_digest 302 = .ok (.ladd, 1) := by decide +kernel
theorem dX9_digest_303 : decode cX9_digest 303 = .ok (.lmul, 1) := by decide +kernel
theorem dX9_digest_304 : decode cX9_digest 304 = .ok (.aload_n 0, 1) := by decide +kernel
theorem dX9_digest_305 : decode cX9_digest 305 = .ok (.getfield 114, 3) := by decide +kernel
theorem dX9_digest_308 : decode cX9_digest 308 = .ok (.i2l, 1) := by decide +kernel
theorem dX9_digest_309 : decode cX9_digest 309 = .ok (.ladd, 1) := by decide +kernel
theorem dX9_digest_310 : decode cX9_digest 310 = .ok (.lstore_n 1, 1) := by decide +kernel
theorem dX9_digest_311 : decode cX9_digest 311 = .ok (.iconst 0, 1) := by decide +kernel
theorem dX9_digest_312 : decode cX9_digest 312 = .ok (.istore_n 3, 1) := by decide +kernel
theorem dX9_digest_313 : decode cX9_digest 313 = .ok (.iload_n 3, 1) := by decide +kernel
theorem dX9_digest_314 : decode cX9_digest 314 = .ok (.aload_n 0, 1) := by decide +kernel
theorem dX9_digest_315 : decode cX9_digest 315 = .ok (.getfield 114, 3) := by decide +kernel
theorem dX9_digest_318 : decode cX9_digest 318 = .ok (.if_icmp .ge 23, 3) := by decide +kernel
theorem dX9_digest_321 : decode cX9_digest 321 = .ok (.ldc2_w 181, 3) := by decide +kernel
theorem dX9_digest_324 : decode cX9_digest 324 = .ok (.lload_n 1, 1) := by decide +kernel
theorem dX9_digest_325 : decode cX9_digest 325 = .ok (.lmul, 1) := by decide +kernel
theorem dX9_digest_326 : decode cX9_digest 326 = .ok (.aload_n 0, 1) := by decide +kernel
theorem dX9_digest_327 : decode cX9_digest 327 = .ok (.getfield 19, 3) := by decide +kernel
theorem dX9_digest_330 : decode cX9_digest 330 = .ok (.iload_n 3, 1) := by decide +kernel
theorem dX9_digest_331 : decode cX9_digest 331 = .ok (.iaload, 1) := by decide +kernel
theorem dX9_digest_332 : decode cX9_digest 332 = .ok (.i2l, 1) := by decide +kernel
theorem dX9_digest_333 : decode cX9_digest 333 = .ok (.ladd, 1) := by decide +kernel
theorem dX9_digest_334 : decode cX9_digest 334 = .ok (.lstore_n 1, 1) := by decide +kernel
theorem dX9_digest_335 : decode cX9_digest 335 = .ok (.iinc 3 1, 3) := by decide +kernel
theorem dX9_digest_338 : decode cX9_digest 338 = .ok (.goto (-25), 3) := by decide +kernel
theorem dX9_digest_341 : decode cX9_digest 341 = .ok (.lload_n 1, 1) := by decide +kernel
theorem dX9_digest_342 : decode cX9_digest 342 = .ok (.lreturn, 1) := by decide +kernel
